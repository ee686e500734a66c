/-! ===== pure part: the best tree, weighed ===== -/
theorem nv_e {l p : Nat} (hp : p < 2 ^ l) : vN l p = 2 ^ l + p := by unfold vN; rw [Nat.mod_eq_of_lt hp]
theorem p_64 {l : Nat} (h : l ≤ 6) : 2 ^ l ≤ 64 := Nat.pow_le_pow_right (n := 2) (by decide) h
theorem nc_e {l p : Nat} (hl : l ≤ 6) (hp : p < 2 ^ l) : fn_X8_nodeOf (nI l) (nI p) = some (nI (2 ^ l + p)) := by
  have := p_64 hl
  rw [nd_e hl (by omega), nv_e hp]
theorem nr_e {l p : Nat} (hl : l ≤ 6) : fn_X9_nodeOf (nI l) (nI p) = some (nI (2 ^ l + p - 1)) := by
  have := Nat.two_pow_pos l
  rw [nme_ (by omega), show 2 ^ l - 1 + p = 2 ^ l + p - 1 by omega]
theorem vv_i {l p a q : Nat} (hp : p < 2 ^ l) (hq : q < 2 ^ a) (h : 2 ^ l + p = 2 ^ a + q) : l = a ∧ p = q := by
  rcases Nat.lt_trichotomy l a with h1 | h1 | h1
  · have := Nat.pow_le_pow_right (n := 2) (by decide) (show l + 1 ≤ a by omega)
    rw [Nat.pow_succ] at this
    omega
  · subst h1; exact ⟨rfl, by omega⟩
  · have := Nat.pow_le_pow_right (n := 2) (by decide) (show a + 1 ≤ l by omega)
    rw [Nat.pow_succ] at this
    omega
theorem v_127 {l p : Nat} (hl : l ≤ 6) (hp : p < 2 ^ l) : 1 ≤ 2 ^ l + p ∧ 2 ^ l + p < 128 := by
  have := p_64 hl
  have := Nat.two_pow_pos l
  omega
theorem v_d {l p d : Nat} (hl : l ≤ d) (hp : p < 2 ^ l) : 2 ^ l + p < 2 ^ (d + 1) := by
  have := Nat.pow_le_pow_right (n := 2) (by decide) (show l + 1 ≤ d + 1 by omega)
  rw [Nat.pow_succ] at this
  omega
theorem or_1 : ∀ l, l < 6 → ∀ p, p < 32 → p < 2 ^ l → nI p ||| ((1 : Int32) <<< (nI l &&& 31)) = nI (p + 2 ^ l) := by decide +kernel
def tv_ (l d : Nat) (c a : Int32) : Int32 := if l < d then (if a < c then a else c) + 8 else c
def tl_ (l d : Nat) (c a : Int32) : Prop := l < d ∧ a < c
theorem wg98 {B : tt_BestTree} {P : tt_Pasts} {v : Nat} (hv : v < 128) : ∃ B1, fn_X0_weigh_98 P B (nI v) = some B1 ∧ gf_BestTree_prices B1 = upd (gf_BestTree_prices B) v (gf_BestTree_prices B v + 8) ∧ gf_BestTree_kinds B1 = gf_BestTree_kinds B := by
  have hx : ix_ (nI v) 128 := na_ix hv (by decide)
  unfold fn_X0_weigh_98
  rw [gd_p hx, lt_v, gd_p hx, lt_v, na_cl (by omega)]
  exact ⟨_, rfl, rfl, rfl⟩
theorem wg_e {B : tt_BestTree} {P : tt_Pasts} {d l p : Nat} {c : Int32} (hd6 : d ≤ 6) (hl : l ≤ d) (hp : p < 2 ^ l) (h1 : gf_Pasts_depth P = nI d) (h2 : gf_Pasts_paidAlone P (2 ^ l + p) = c) : ∃ B1, fn_X0_weigh B P (nI l) (nI p) = some B1 ∧ (∀ i, i ≠ 2 ^ l + p → gf_BestTree_prices B1 i = gf_BestTree_prices B i ∧ gf_BestTree_kinds B1 i = gf_BestTree_kinds B i) ∧ gf_BestTree_prices B1 (2 ^ l + p) = tv_ l d c (gf_BestTree_prices B (2 ^ (l + 1) + p) + gf_BestTree_prices B (2 ^ (l + 1) + (p + 2 ^ l))) ∧ (tl_ l d c (gf_BestTree_prices B (2 ^ (l + 1) + p) + gf_BestTree_prices B (2 ^ (l + 1) + (p + 2 ^ l))) → gf_BestTree_kinds B1 (2 ^ l + p) = 2) ∧ (¬ tl_ l d c (gf_BestTree_prices B (2 ^ (l + 1) + p) + gf_BestTree_prices B (2 ^ (l + 1) + (p + 2 ^ l))) → gf_BestTree_kinds B1 (2 ^ l + p) = 1) := by
  obtain ⟨hv1, hv⟩ := v_127 (show l ≤ 6 by omega) hp
  have hx : ix_ (nI (2 ^ l + p)) 128 := na_ix hv (by decide)
  have c1 : (nI (2 ^ l + p)).toNatClampNeg = 2 ^ l + p := na_cl (by omega)
  unfold fn_X0_weigh
  rw [nc_e (by omega) hp, bd_s, gd_p hx, lt_v, gd_p hx, lt_v, gd_p hx, lt_v, h1]
  generalize hA : sf_BestTree_kinds _ _ = A
  have a1 : gf_BestTree_prices A = upd (gf_BestTree_prices B) (2 ^ l + p) c := by subst hA; show upd _ (nI (2 ^ l + p)).toNatClampNeg (gf_Pasts_paidAlone P (nI (2 ^ l + p)).toNatClampNeg) = _; rw [c1, h2]
  have a2 : gf_BestTree_kinds A = upd (gf_BestTree_kinds B) (2 ^ l + p) 1 := by subst hA; show upd _ (nI (2 ^ l + p)).toNatClampNeg _ = _; rw [c1]; rfl
  by_cases hld : l < d
  · have hp1 : p < 2 ^ (l + 1) := by rw [Nat.pow_succ]; omega
    have hp2 : p + 2 ^ l < 2 ^ (l + 1) := by rw [Nat.pow_succ]; omega
    have h32 : 2 ^ l ≤ 32 := Nat.pow_le_pow_right (n := 2) (by decide) (show l ≤ 5 by omega)
    obtain ⟨w1, w2⟩ := v_127 (show l + 1 ≤ 6 by omega) hp1
    obtain ⟨w3, w4⟩ := v_127 (show l + 1 ≤ 6 by omega) hp2
    have e1 : A.1 (2 ^ (l + 1) + p) = gf_BestTree_prices B (2 ^ (l + 1) + p) := by
      show gf_BestTree_prices A _ = _
      rw [a1, pk_un (fun e => absurd (vv_i hp1 hp e).1 (by omega))]
    have e2 : gf_BestTree_prices A (2 ^ (l + 1) + (p + 2 ^ l)) = gf_BestTree_prices B (2 ^ (l + 1) + (p + 2 ^ l)) := by
      rw [a1, pk_un (fun e => absurd (vv_i hp2 hp e).1 (by omega))]
    have e3 : gf_BestTree_prices A (2 ^ l + p) = c := by rw [a1, pk_us]
    have e1 : gf_BestTree_prices A (2 ^ (l + 1) + p) = gf_BestTree_prices B (2 ^ (l + 1) + p) := e1
    rw [if_pos (nI_lt hld (by omega)), show nI l + (1 : Int32) = nI (l + 1) from nI_1 l, nc_e (by omega) hp1, bd_s, gd_p (na_ix w2 (by decide)), or_1 l (by omega) p (by omega) hp, nc_e (by omega) hp2, bd_s, gd_p (na_ix w4 (by decide)), lt_v, gd_p hx, gd_p hx]
    have c2 : (nI (2 ^ (l + 1) + p)).toNatClampNeg = 2 ^ (l + 1) + p := na_cl (by omega)
    have c3 : (nI (2 ^ (l + 1) + (p + 2 ^ l))).toNatClampNeg = 2 ^ (l + 1) + (p + 2 ^ l) := na_cl (by omega)
    simp only [c1, c2, c3, e1, e2, e3]
    generalize gf_BestTree_prices B (2 ^ (l + 1) + p) + gf_BestTree_prices B (2 ^ (l + 1) + (p + 2 ^ l)) = x
    by_cases hc : x < c
    · rw [if_neg (Int32.not_le.mpr hc), lt_v, gd_p hx, lt_v]
      generalize hC : sf_BestTree_kinds _ _ = C
      have b1 : gf_BestTree_prices C = upd (gf_BestTree_prices A) (2 ^ l + p) x := by subst hC; rfl
      have b2 : gf_BestTree_kinds C = upd (gf_BestTree_kinds A) (2 ^ l + p) 2 := by subst hC; rfl
      obtain ⟨B1, g1, g2, g3⟩ := wg98 (B := C) (P := P) hv
      refine ⟨B1, g1, fun i hi => ?_, ?_, fun _ => ?_, fun h => absurd ⟨hld, hc⟩ h⟩
      · rw [g2, g3, b1, b2, a1, a2, pk_un hi, pk_un hi, pk_un hi, pk_un hi, pk_un hi]; exact ⟨rfl, rfl⟩
      · rw [g2, pk_us, b1, pk_us, tv_, if_pos hld, if_pos hc]
      · rw [g3, b2, pk_us]
    · rw [if_pos (Int32.not_lt.mp hc)]
      obtain ⟨B1, g1, g2, g3⟩ := wg98 (B := A) (P := P) hv
      refine ⟨B1, g1, fun i hi => ?_, ?_, fun h => absurd h.2 hc, fun _ => ?_⟩
      · rw [g2, g3, a1, a2, pk_un hi, pk_un hi, pk_un hi]; exact ⟨rfl, rfl⟩
      · rw [g2, pk_us, e3, tv_, if_pos hld, if_neg hc]
      · rw [g3, a2, pk_us]
  · rw [if_neg (nI_nlt (by omega) (by omega))]
    refine ⟨A, rfl, fun i hi => ?_, ?_, fun h => absurd h.1 hld, fun _ => ?_⟩
    · rw [a1, a2, pk_un hi, pk_un hi]; exact ⟨rfl, rfl⟩
    · rw [a1, pk_us, tv_, if_neg hld]
    · rw [a2, pk_us]
-- the reference
def fr_ (A B : tt_Model) : Prop := sameP A B ∧ gf_Model_ownCost A = gf_Model_ownCost B
theorem fr_rf (A : tt_Model) : fr_ A A := ⟨⟨rfl, rfl, rfl, rfl, rfl, rfl⟩, rfl⟩
theorem fr_tr {A B C : tt_Model} (h : fr_ A B) (k : fr_ B C) : fr_ A C := by
  obtain ⟨⟨a, b, c, d, e, f⟩, g⟩ := h
  obtain ⟨⟨a1, b1, c1, d1, e1, f1⟩, g1⟩ := k
  exact ⟨⟨a.trans a1, b.trans b1, c.trans c1, d.trans d1, e.trans e1, f.trans f1⟩, g.trans g1⟩
theorem fr_tc (Y : tt_Model) (v : Nat → Int32) : fr_ (sf_Model_treeCost Y v) Y := ⟨⟨rfl, rfl, rfl, rfl, rfl, rfl⟩, rfl⟩
theorem fr_il (Y : tt_Model) (v : Nat → Int32) : fr_ (sf_Model_isLeaf Y v) Y := ⟨⟨rfl, rfl, rfl, rfl, rfl, rfl⟩, rfl⟩
theorem fr_it (Y : tt_Model) (v : Nat → Int32) : fr_ (sf_Model_inTree Y v) Y := ⟨⟨rfl, rfl, rfl, rfl, rfl, rfl⟩, rfl⟩
theorem tc_p (Y : tt_Model) (v : Nat → Int32) : gf_Model_treeCost (sf_Model_treeCost Y v) = v ∧ gf_Model_isLeaf (sf_Model_treeCost Y v) = gf_Model_isLeaf Y := ⟨rfl, rfl⟩
theorem il_p (Y : tt_Model) (v : Nat → Int32) : gf_Model_isLeaf (sf_Model_isLeaf Y v) = v ∧ gf_Model_treeCost (sf_Model_isLeaf Y v) = gf_Model_treeCost Y := ⟨rfl, rfl⟩
theorem itr_p (Y : tt_Model) (v : Nat → Int32) : gf_Model_inTree (sf_Model_inTree Y v) = v ∧ gf_Model_isLeaf (sf_Model_inTree Y v) = gf_Model_isLeaf Y ∧ gf_Model_treeCost (sf_Model_inTree Y v) = gf_Model_treeCost Y := ⟨rfl, rfl, rfl⟩
theorem vb_01 : vp_nar .boolean 0 = 0 ∧ vp_nar .boolean 1 = 1 := by decide +kernel
theorem de_e {Y : tt_Model} {d : Nat} (h : gf_Model_now Y 101 = nI d) : fn_X9_depth Y = some (nI d) := by
  unfold fn_X9_depth
  rw [gd_p (by decide +kernel), show (101 : Int32).toNatClampNeg = 101 by decide +kernel, h]
theorem p153 {Y : tt_Model} {v l p : Nat} (k : tt_Model → Int32 → Int32 → Option tt_Model) (hv : v < 127) (a b : Int32) : ∃ Y1, fn_X9_plants_153 k Y (nI l) (nI p) (nI v) a b = k Y1 (nI l) (nI (p + 1)) ∧ fr_ Y1 Y ∧ gf_Model_treeCost Y1 = upd (gf_Model_treeCost Y) v (a + b) ∧ gf_Model_isLeaf Y1 = gf_Model_isLeaf Y := by
  unfold fn_X9_plants_153
  rw [lt_v, gd_p (na_ix hv (by decide)), lt_v, lt_v, na_cl (by omega), show nI p + (1 : Int32) = nI (p + 1) from nI_1 p]
  exact ⟨_, rfl, fr_tc Y _, (tc_p Y _).1, (tc_p Y _).2⟩
theorem p142 {Y : tt_Model} {v l p : Nat} (k : tt_Model → Int32 → Int32 → Option tt_Model) (hv : v < 127) (x5 a : Int32) : ∃ Y1, fn_X9_plants_142 k Y (nI l) (nI p) x5 (nI v) a = k Y1 (nI l) (nI (p + 1)) ∧ fr_ Y1 Y ∧ gf_Model_treeCost Y1 = upd (gf_Model_treeCost Y) v (if x5 = 0 then a + 8 else a) ∧ gf_Model_isLeaf Y1 = gf_Model_isLeaf Y := by
  unfold fn_X9_plants_142
  by_cases h : x5 = 0
  · rw [if_pos h, if_pos h]; exact p153 k hv a 8
  · rw [if_neg h, if_neg h]
    obtain ⟨Y1, a1, a2, a3, a4⟩ := p153 (Y := Y) (l := l) (p := p) k hv a 0
    exact ⟨Y1, a1, a2, by rw [a3, Int32.add_zero], a4⟩
theorem p113 {Y : tt_Model} {v l p : Nat} (k : tt_Model → Int32 → Int32 → Option tt_Model) (hv : v < 127) (x5 x6 t : Int32) (ht : t = 0 ∨ t = 1) : ∃ Y1, fn_X9_plants_113 k Y (nI l) (nI p) (nI v) x5 x6 (nI v) t = k Y1 (nI l) (nI (p + 1)) ∧ fr_ Y1 Y ∧ gf_Model_treeCost Y1 = upd (gf_Model_treeCost Y) v (if x5 = 0 then (if t = 0 then x6 else gf_Model_ownCost Y v) + 8 else (if t = 0 then x6 else gf_Model_ownCost Y v)) ∧ gf_Model_isLeaf Y1 = upd (gf_Model_isLeaf Y) v t := by
  have hx : ix_ (nI v) 127 := na_ix hv (by decide)
  have c1 : (nI v).toNatClampNeg = v := na_cl (by omega)
  have ev : vp_nar .boolean t = t := by rcases ht with rfl | rfl; exact vb_01.1; exact vb_01.2
  unfold fn_X9_plants_113
  rw [gd_p hx, lt_v, gd_p hx, gd_p hx, c1, ev]
  generalize hA : sf_Model_isLeaf _ _ = A
  have a0 : fr_ A Y := by subst hA; exact fr_il _ _
  have a1 : gf_Model_isLeaf A = upd (gf_Model_isLeaf Y) v t := by subst hA; exact (il_p _ _).1
  have a2 : gf_Model_treeCost A = gf_Model_treeCost Y := by subst hA; exact (il_p _ _).2
  rw [a1, pk_us, a0.2]
  by_cases h : t = 0
  · rw [if_pos h, if_pos h]
    obtain ⟨Y1, b1, b2, b3, b4⟩ := p142 (Y := A) (l := l) (p := p) k hv x5 x6
    exact ⟨Y1, b1, fr_tr b2 a0, by rw [b3, a2], by rw [b4, a1]⟩
  · rw [if_neg h, if_neg h]
    obtain ⟨Y1, b1, b2, b3, b4⟩ := p142 (Y := A) (l := l) (p := p) k hv x5 (gf_Model_ownCost Y v)
    exact ⟨Y1, b1, fr_tr b2 a0, by rw [b3, a2], by rw [b4, a1]⟩
theorem pl_e {Y : tt_Model} {d l p : Nat} {c : Int32} (k : tt_Model → Int32 → Option tt_Model) (f : Nat) (hd6 : d ≤ 6) (hl : l ≤ d) (hp : p < 2 ^ l) (h1 : gf_Model_now Y 101 = nI d) (h2 : gf_Model_ownCost Y (2 ^ l + p - 1) = c) : ∃ Y1, fl_X9_plants_16 k (f + 1) Y (nI l) (nI p) = fl_X9_plants_16 k f Y1 (nI l) (nI (p + 1)) ∧ fr_ Y1 Y ∧ gf_Model_treeCost Y1 = upd (gf_Model_treeCost Y) (2 ^ l + p - 1) (tv_ l d c (gf_Model_treeCost Y (2 ^ (l + 1) + p - 1) + gf_Model_treeCost Y (2 ^ (l + 1) + (p + 2 ^ l) - 1))) ∧ ∃ t, gf_Model_isLeaf Y1 = upd (gf_Model_isLeaf Y) (2 ^ l + p - 1) t ∧ (tl_ l d c (gf_Model_treeCost Y (2 ^ (l + 1) + p - 1) + gf_Model_treeCost Y (2 ^ (l + 1) + (p + 2 ^ l) - 1)) → t = 0) ∧ (¬ tl_ l d c (gf_Model_treeCost Y (2 ^ (l + 1) + p - 1) + gf_Model_treeCost Y (2 ^ (l + 1) + (p + 2 ^ l) - 1)) → t = 1) := by
  obtain ⟨hv1, hv⟩ := v_127 (show l ≤ 6 by omega) hp
  have h64 := p_64 (show l ≤ 6 by omega)
  have hx : ix_ (nI (2 ^ l + p - 1)) 127 := na_ix (by omega) (by decide)
  rw [fl_X9_plants_16, sh_1 l (by omega), if_neg (nI_ge hp (by omega)), nr_e (by omega), bd_s, de_e h1, bd_s]
  by_cases hld : l < d
  · have hp1 : p < 2 ^ (l + 1) := by rw [Nat.pow_succ]; omega
    have hp2 : p + 2 ^ l < 2 ^ (l + 1) := by rw [Nat.pow_succ]; omega
    obtain ⟨w1, w2⟩ := v_127 (show l + 1 ≤ 6 by omega) hp1
    obtain ⟨w3, w4⟩ := v_127 (show l + 1 ≤ 6 by omega) hp2
    rw [if_neg (fun e => absurd ((nI_eq (by omega) (by omega)).mp e) (by omega))]
    unfold fn_X9_plants_43 fn_X9_plants_83 fn_X9_plants_108
    rw [if_pos rfl, show nI l + (1 : Int32) = nI (l + 1) from nI_1 l, nr_e (by omega), bd_s, gd_p (na_ix (show 2 ^ (l + 1) + p - 1 < 127 by omega) (by decide)), sh_1 l (by omega), nI_add, nr_e (by omega), bd_s, gd_p (na_ix (show 2 ^ (l + 1) + (p + 2 ^ l) - 1 < 127 by omega) (by decide)), if_pos rfl, gd_p hx, na_cl (by omega), na_cl (by omega), na_cl (by omega), h2]
    generalize gf_Model_treeCost Y (2 ^ (l + 1) + p - 1) + gf_Model_treeCost Y (2 ^ (l + 1) + (p + 2 ^ l) - 1) = x
    by_cases hc : x < c
    · rw [if_pos hc]
      obtain ⟨Y1, b1, b2, b3, b4⟩ := p113 (Y := Y) (l := l) (p := p) (v := 2 ^ l + p - 1) (fl_X9_plants_16 k f) (by omega) 0 x 0 (Or.inl rfl)
      rw [if_pos rfl, if_pos rfl] at b3
      exact ⟨Y1, b1, b2, by rw [b3, tv_, if_pos hld, if_pos hc], 0, b4, fun _ => rfl, fun h => absurd ⟨hld, hc⟩ h⟩
    · rw [if_neg hc]
      obtain ⟨Y1, b1, b2, b3, b4⟩ := p113 (Y := Y) (l := l) (p := p) (v := 2 ^ l + p - 1) (fl_X9_plants_16 k f) (by omega) 0 x 1 (Or.inr rfl)
      rw [if_pos rfl, if_neg n10_, h2] at b3
      exact ⟨Y1, b1, b2, by rw [b3, tv_, if_pos hld, if_neg hc], 1, b4, fun h => absurd h.2 hc, fun _ => rfl⟩
  · rw [if_pos (by rw [show l = d by omega])]
    unfold fn_X9_plants_43 fn_X9_plants_83 fn_X9_plants_108
    rw [if_neg n10_, if_neg n10_]
    obtain ⟨Y1, b1, b2, b3, b4⟩ := p113 (Y := Y) (l := l) (p := p) (v := 2 ^ l + p - 1) (fl_X9_plants_16 k f) (by omega) 1 0 1 (Or.inr rfl)
    rw [if_neg n10_, if_neg n10_, h2] at b3
    exact ⟨Y1, b1, b2, by rw [b3, tv_, if_neg hld], 1, b4, fun h => absurd h.1 hld, fun _ => rfl⟩
