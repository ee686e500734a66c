/-! ===== pure part: the best tree, both side by side ===== -/
def KL (a b : Int32) : Prop := (a = 1 ∧ b = 1) ∨ (a = 2 ∧ b = 0)
def TI (d : Nat) (B : tt_BestTree) (Y : tt_Model) (W : Nat → Nat → Prop) : Prop := ∀ l p, l ≤ d → p < 2 ^ l → W l p → gf_BestTree_prices B (2 ^ l + p) = gf_Model_treeCost Y (2 ^ l + p - 1) ∧ KL (gf_BestTree_kinds B (2 ^ l + p)) (gf_Model_isLeaf Y (2 ^ l + p - 1))
/-- what the tree is made of -/
def PC (d : Nat) (P : tt_Pasts) (Y : tt_Model) : Prop := gf_Pasts_depth P = nI d ∧ gf_Model_now Y 101 = nI d ∧ ∀ l p, l ≤ d → p < 2 ^ l → gf_Pasts_paidAlone P (2 ^ l + p) = gf_Model_ownCost Y (2 ^ l + p - 1)
theorem PC_f {d : Nat} {P : tt_Pasts} {Y Y1 : tt_Model} (h : PC d P Y) (hf : fr_ Y1 Y) : PC d P Y1 := ⟨h.1, by rw [hf.1.1]; exact h.2.1, fun l p a b => by rw [hf.2]; exact h.2.2 l p a b⟩
theorem TI_s {d l p : Nat} {B : tt_BestTree} {P : tt_Pasts} {Y : tt_Model} (k : tt_Model → Int32 → Option tt_Model) (f : Nat) (hd6 : d ≤ 6) (hl : l ≤ d) (hp : p < 2 ^ l) (hC : PC d P Y) (hT : TI d B Y (fun a q => l < a ∨ a = l ∧ q < p)) : ∃ B1 Y1, fn_X0_weigh B P (nI l) (nI p) = some B1 ∧ fl_X9_plants_16 k (f + 1) Y (nI l) (nI p) = fl_X9_plants_16 k f Y1 (nI l) (nI (p + 1)) ∧ fr_ Y1 Y ∧ TI d B1 Y1 (fun a q => l < a ∨ a = l ∧ q < p + 1) := by
  obtain ⟨B1, b1, b2, b3, b4, b5⟩ := wg_e (B := B) hd6 hl hp hC.1 rfl
  obtain ⟨Y1, y1, y2, y3, t, y4, y5, y6⟩ := pl_e k f hd6 hl hp hC.2.1 (hC.2.2 l p hl hp).symm
  refine ⟨B1, Y1, b1, y1, y2, fun a q ha hq hw => ?_⟩
  have hpos := Nat.two_pow_pos l
  have hpa := Nat.two_pow_pos a
  by_cases h0 : a = l ∧ q = p
  · obtain ⟨rfl, rfl⟩ := h0
    rw [y3, y4, pk_us, pk_us, b3]
    generalize hxd : gf_BestTree_prices B (2 ^ (a + 1) + q) + gf_BestTree_prices B (2 ^ (a + 1) + (q + 2 ^ a)) = x at *
    generalize hyd : gf_Model_treeCost Y (2 ^ (a + 1) + q - 1) + gf_Model_treeCost Y (2 ^ (a + 1) + (q + 2 ^ a) - 1) = y at *
    by_cases hld : a < d
    · have hp1 : q < 2 ^ (a + 1) := by rw [Nat.pow_succ]; omega
      have hp2 : q + 2 ^ a < 2 ^ (a + 1) := by rw [Nat.pow_succ]; omega
      have e : x = y := by
        rw [← hxd, ← hyd, (hT (a + 1) q (by omega) hp1 (Or.inl (by omega))).1, (hT (a + 1) (q + 2 ^ a) (by omega) hp2 (Or.inl (by omega))).1]
      subst e
      refine ⟨rfl, ?_⟩
      by_cases hc : tl_ a d (gf_Pasts_paidAlone P (2 ^ a + q)) x
      · exact Or.inr ⟨b4 hc, y5 hc⟩
      · exact Or.inl ⟨b5 hc, y6 hc⟩
    · refine ⟨?_, Or.inl ⟨b5 (fun h => hld h.1), y6 (fun h => hld h.1)⟩⟩
      unfold tv_
      rw [if_neg hld, if_neg hld]
  · have hne : 2 ^ a + q ≠ 2 ^ l + p := fun e => h0 (vv_i hq hp e)
    have hne1 : 2 ^ a + q - 1 ≠ 2 ^ l + p - 1 := fun e => hne (by omega)
    rw [y3, y4, pk_un hne1, pk_un hne1, (b2 _ hne).1, (b2 _ hne).2]
    refine hT a q ha hq ?_
    rcases hw with h | ⟨h1, h2⟩
    · exact Or.inl h
    · exact Or.inr ⟨h1, by
        rcases Nat.lt_or_ge q p with h | h
        · exact h
        · exact absurd ⟨h1, by omega⟩ h0⟩
theorem TI_i {d l : Nat} {P : tt_Pasts} (k : tt_BestTree → Int32 → Option tt_BestTree) (k' : tt_Model → Int32 → Option tt_Model) (hd6 : d ≤ 6) (hl : l ≤ d) : ∀ (m p f : Nat) (B : tt_BestTree) (Y : tt_Model), p + m = 2 ^ l → PC d P Y → TI d B Y (fun a q => l < a ∨ a = l ∧ q < p) → ∃ B1 Y1, fl_X0_grow_11 k P (f + m + 1) B (nI l) (nI p) = k B1 (nI l) ∧ fl_X9_plants_16 k' (f + m + 1) Y (nI l) (nI p) = k' Y1 (nI l) ∧ fr_ Y1 Y ∧ TI d B1 Y1 (fun a _ => l ≤ a) := by
  have h64 := p_64 (show l ≤ 6 by omega)
  intro m
  induction m with
  | zero =>
    intro p f B Y h1 hC hT
    obtain rfl : p = 2 ^ l := by omega
    refine ⟨B, Y, ?_, ?_, fr_rf Y, fun a q ha hq hw => hT a q ha hq ?_⟩
    · rw [fl_X0_grow_11, sh_1 l (by omega), if_pos (Int32.le_refl _)]
    · rw [fl_X9_plants_16, sh_1 l (by omega), if_pos (Int32.le_refl _)]
    · rcases Nat.lt_or_ge l a with h | h
      · exact Or.inl h
      · have e : a = l := by omega
        exact Or.inr ⟨e, by rw [← e]; exact hq⟩
  | succ m ih =>
    intro p f B Y h1 hC hT
    obtain ⟨B1, Y1, a1, a2, a3, a4⟩ := TI_s k' (f + m + 1) hd6 hl (show p < 2 ^ l by omega) hC hT
    obtain ⟨B2, Y2, b1, b2, b3, b4⟩ := ih (p + 1) f B1 Y1 (by omega) (PC_f hC a3) a4
    refine ⟨B2, Y2, ?_, ?_, fr_tr b3 a3, b4⟩
    · rw [show f + (m + 1) + 1 = f + m + 1 + 1 by omega, fl_X0_grow_11, sh_1 l (by omega), if_neg (nI_ge (by omega) (by omega)), a1, bd_s, lt_v, show nI p + (1 : Int32) = nI (p + 1) from nI_1 p, b1]
    · rw [show f + (m + 1) + 1 = f + m + 1 + 1 by omega, a2, b2]
theorem TI_o {d : Nat} {P : tt_Pasts} (k : tt_BestTree → Option tt_BestTree) (k' : tt_Model → Option tt_Model) (hd6 : d ≤ 6) : ∀ (l f : Nat) (B : tt_BestTree) (Y : tt_Model), l ≤ d → PC d P Y → TI d B Y (fun a _ => l < a) → ∃ B1 Y1, fl_X0_grow_5 k P (f + l + 2) B (nI l) = k B1 ∧ fl_X9_plants_10 k' (f + l + 2) Y (nI l) = k' Y1 ∧ fr_ Y1 Y ∧ TI d B1 Y1 (fun _ _ => True) := by
  have inn : ∀ (l n : Nat) (B : tt_BestTree) (Y : tt_Model), l ≤ d → PC d P Y → TI d B Y (fun a _ => l < a) → ∃ B1 Y1, fl_X0_grow_5 k P (n + 1) B (nI l) = fl_X0_grow_5 k P n B1 (nI l + (-1 : Int32)) ∧ fl_X9_plants_10 k' (n + 1) Y (nI l) = fl_X9_plants_10 k' n Y1 (nI l + (-1 : Int32)) ∧ fr_ Y1 Y ∧ TI d B1 Y1 (fun a _ => l ≤ a) := by
    intro l n B Y hl hC hT
    have h64 := p_64 (show l ≤ 6 by omega)
    obtain ⟨B1, Y1, a1, a2, a3, a4⟩ := TI_i (P := P) (fun (S0_e31_7 : tt_BestTree) (x2_e31_7 : Int32) => lt_ (x2_e31_7 + (-1 : Int32)) fun y_8 => fl_X0_grow_5 k P n S0_e31_7 y_8) (fun (S0_e161_33 : tt_Model) (x2_e161_33 : Int32) => lt_ (x2_e161_33 + (-1 : Int32)) fun y_34 => fl_X9_plants_10 k' n S0_e161_33 y_34) hd6 hl (2 ^ l) 0 (4999 - 2 ^ l) B Y (by omega) hC (fun a q ha hq hw => hT a q ha hq (by
      rcases hw with h | ⟨-, h⟩
      · exact h
      · exact absurd h (by omega)))
    rw [nI_0, show 4999 - 2 ^ l + 2 ^ l + 1 = fu_ by unfold fu_; omega] at a1 a2
    refine ⟨B1, Y1, ?_, ?_, a3, a4⟩
    · rw [fl_X0_grow_5, if_neg (nI_pos (by omega)), a1, lt_v]
    · rw [fl_X9_plants_10, if_neg (nI_pos (by omega)), a2, lt_v]
  intro l
  induction l with
  | zero =>
    intro f B Y hl hC hT
    obtain ⟨B1, Y1, a1, a2, a3, a4⟩ := inn 0 (f + 0 + 1) B Y hl hC hT
    refine ⟨B1, Y1, ?_, ?_, a3, fun a q ha hq _ => a4 a q ha hq (Nat.zero_le a)⟩
    · rw [show f + 0 + 2 = f + 0 + 1 + 1 from rfl, a1, fl_X0_grow_5, if_pos na_0m]
    · rw [show f + 0 + 2 = f + 0 + 1 + 1 from rfl, a2, fl_X9_plants_10, if_pos na_0m]
  | succ l ih =>
    intro f B Y hl hC hT
    obtain ⟨B1, Y1, a1, a2, a3, a4⟩ := inn (l + 1) (f + l + 2) B Y hl hC hT
    obtain ⟨B2, Y2, b1, b2, b3, b4⟩ := ih f B1 Y1 (by omega) (PC_f hC a3) (fun a q ha hq hw => a4 a q ha hq hw)
    refine ⟨B2, Y2, ?_, ?_, fr_tr b3 a3, b4⟩
    · rw [show f + (l + 1) + 2 = f + l + 2 + 1 by omega, a1, na_m1, b1]
    · rw [show f + (l + 1) + 2 = f + l + 2 + 1 by omega, a2, na_m1, b2]
-- the leaves, node by node
def lc_ (t : Nat → Int32) : Nat → Int32 × Int32
  | 0 => (0, 0)
  | v + 1 => if 1 ≤ v ∧ t v = 1 then ((lc_ t v).1 + 1, nI v.log2) else lc_ t v
theorem lc_c {t u : Nat → Int32} : ∀ v, (∀ i, 1 ≤ i → i < v → t i = u i) → lc_ t v = lc_ u v := by
  intro v
  induction v with
  | zero => intro _; rfl
  | succ v ih =>
    intro h
    rw [lc_, lc_, ih (fun i a b => h i a (by omega))]
    by_cases h1 : 1 ≤ v
    · rw [h v h1 (by omega)]
    · rw [if_neg (fun x => h1 x.1), if_neg (fun x => h1 x.1)]
theorem lg_v {l p : Nat} (hp : p < 2 ^ l) : (2 ^ l + p).log2 = l := by
  have h0 := Nat.two_pow_pos l
  rw [Nat.log2_eq_iff (by omega), Nat.pow_succ]
  omega
def TJ (d l p : Nat) (B : tt_BestTree) (Y : tt_Model) : Prop := gf_BestTree_prices B 1 = gf_Model_treeCost Y 0 ∧ (∀ a q, a ≤ d → q < 2 ^ a → (2 ^ a + q < 2 ^ l + p → gf_BestTree_kinds B (2 ^ a + q) = gf_Model_inTree Y (2 ^ a + q - 1)) ∧ (2 ^ l + p ≤ 2 ^ a + q → KL (gf_BestTree_kinds B (2 ^ a + q)) (gf_Model_isLeaf Y (2 ^ a + q - 1)))) ∧ gf_BestTree_leaves B = (lc_ (gf_BestTree_kinds B) (2 ^ l + p)).1 ∧ gf_BestTree_deepest B = (lc_ (gf_BestTree_kinds B) (2 ^ l + p)).2
theorem se33 {B : tt_BestTree} {l p : Nat} (hl : l ≤ 6) (hp : p < 2 ^ l) (h1 : gf_BestTree_leaves B = (lc_ (gf_BestTree_kinds B) (2 ^ l + p)).1) (h2 : gf_BestTree_deepest B = (lc_ (gf_BestTree_kinds B) (2 ^ l + p)).2) : ∃ B1, fn_X0_settle_33 B (nI l) (nI (2 ^ l + p)) = some B1 ∧ gf_BestTree_kinds B1 = gf_BestTree_kinds B ∧ gf_BestTree_prices B1 = gf_BestTree_prices B ∧ gf_BestTree_leaves B1 = (lc_ (gf_BestTree_kinds B) (2 ^ l + (p + 1))).1 ∧ gf_BestTree_deepest B1 = (lc_ (gf_BestTree_kinds B) (2 ^ l + (p + 1))).2 := by
  obtain ⟨hv1, hv⟩ := v_127 hl hp
  unfold fn_X0_settle_33
  rw [gd_p (na_ix hv (by decide)), na_cl (by omega), lt_v, lt_v, lt_v, ← Nat.add_assoc, lc_, lg_v hp]
  by_cases h : gf_BestTree_kinds B (2 ^ l + p) = 1
  · rw [if_pos h, if_pos ⟨hv1, h⟩]
    exact ⟨_, rfl, rfl, rfl, by rw [← h1]; rfl, rfl⟩
  · rw [if_neg h, if_neg (fun x => h x.2)]
    exact ⟨B, rfl, rfl, rfl, h1, h2⟩
theorem p257 {Y : tt_Model} {v l p : Nat} (k : tt_Model → Int32 → Int32 → Option tt_Model) (hv : v < 127) (t : Int32) : ∃ Y1, fn_X9_plants_257 k Y (nI l) (nI p) (nI v) t = k Y1 (nI l) (nI (p + 1)) ∧ fr_ Y1 Y ∧ gf_Model_inTree Y1 = upd (gf_Model_inTree Y) v t ∧ gf_Model_isLeaf Y1 = gf_Model_isLeaf Y ∧ gf_Model_treeCost Y1 = gf_Model_treeCost Y := by
  unfold fn_X9_plants_257
  rw [gd_p (na_ix hv (by decide)), lt_v, lt_v, na_cl (by omega), show nI p + (1 : Int32) = nI (p + 1) from nI_1 p]
  exact ⟨_, rfl, fr_it Y _, (itr_p Y _).1, (itr_p Y _).2.1, (itr_p Y _).2.2⟩
/-- one node of the second pass; x: is the node in the tree -/
theorem TJ_s {d l p : Nat} {B : tt_BestTree} {Y : tt_Model} (k : tt_Model → Int32 → Option tt_Model) (f : Nat) (hd6 : d ≤ 6) (hl : l ≤ d) (hp : p < 2 ^ l) (hJ : TJ d l p B Y) : ∃ B1 Y1, fn_X0_settle B (nI l) (nI p) = some B1 ∧ fl_X9_plants_179 k (f + 1) Y (nI l) (nI p) = fl_X9_plants_179 k f Y1 (nI l) (nI (p + 1)) ∧ fr_ Y1 Y ∧ TJ d l (p + 1) B1 Y1 := by
  obtain ⟨j1, j2, j3, j4⟩ := hJ
  obtain ⟨hv1, hv⟩ := v_127 (show l ≤ 6 by omega) hp
  have h64 := p_64 (show l ≤ 6 by omega)
  have hx : ix_ (nI (2 ^ l + p)) 128 := na_ix hv (by decide)
  -- it stays
  have stay : ∃ B1 Y1, fn_X0_settle_33 B (nI l) (nI (2 ^ l + p)) = some B1 ∧ fn_X9_plants_219 (fl_X9_plants_179 k f) Y (nI l) (nI p) 1 = fl_X9_plants_179 k f Y1 (nI l) (nI (p + 1)) ∧ fr_ Y1 Y ∧ TJ d l (p + 1) B1 Y1 := by
    obtain ⟨B1, b1, b2, b3, b4, b5⟩ := se33 (show l ≤ 6 by omega) hp j3 j4
    have hk := (j2 l p hl hp).2 (Nat.le_refl _)
    have fin : ∀ t, gf_BestTree_kinds B (2 ^ l + p) = t → ∃ B1 Y1, fn_X0_settle_33 B (nI l) (nI (2 ^ l + p)) = some B1 ∧ fn_X9_plants_257 (fl_X9_plants_179 k f) Y (nI l) (nI p) (nI (2 ^ l + p - 1)) t = fl_X9_plants_179 k f Y1 (nI l) (nI (p + 1)) ∧ fr_ Y1 Y ∧ TJ d l (p + 1) B1 Y1 := by
      intro t ht
      obtain ⟨Y1, y1, y2, y3, y4, y5⟩ := p257 (Y := Y) (v := 2 ^ l + p - 1) (l := l) (p := p) (fl_X9_plants_179 k f) (by omega) t
      refine ⟨B1, Y1, b1, y1, y2, by rw [b3, y5]; exact j1, fun a q ha hq => ?_, by rw [b2]; exact b4, by rw [b2]; exact b5⟩
      have := Nat.two_pow_pos a
      rw [b2, y3, y4]
      refine ⟨fun hlt => ?_, fun hge => (j2 a q ha hq).2 (by omega)⟩
      by_cases he : 2 ^ a + q = 2 ^ l + p
      · rw [he, pk_us]; exact ht
      · rw [pk_un (by omega)]; exact (j2 a q ha hq).1 (by omega)
    unfold fn_X9_plants_219
    rw [nr_e (by omega), bd_s, if_neg n10_, bd_s, gd_p (na_ix (show 2 ^ l + p - 1 < 127 by omega) (by decide)), na_cl (by omega)]
    rcases hk with ⟨k1, k2⟩ | ⟨k1, k2⟩
    · rw [k2, if_neg n10_]; exact fin 1 k1
    · rw [k2, if_pos rfl]; exact fin 2 k1
  unfold fn_X0_settle
  rw [nc_e (by omega) hp, bd_s, fl_X9_plants_179, sh_1 l (by omega), if_neg (nI_ge hp (by omega))]
  unfold fn_X9_plants_214
  by_cases h0 : l = 0
  · rw [if_pos (by rw [h0, nI_0]; exact Int32.le_refl _), if_pos (by rw [h0, nI_0])]
    exact stay
  · obtain ⟨j, rfl⟩ : ∃ j, l = j + 1 := ⟨l - 1, by omega⟩
    have hj0 := Nat.two_pow_pos j
    have hpm : p % 2 ^ j < 2 ^ j := Nat.mod_lt _ hj0
    have e64 : 2 ^ j ≤ 64 := p_64 (show j ≤ 6 by omega)
    have ea : nI p &&& nI (2 ^ j - 1) = nI (p % 2 ^ j) := pk_andN (by omega) j (pk_tn (by omega))
    obtain ⟨w1, w2⟩ := v_127 (show j ≤ 6 by omega) hpm
    have hpar := (j2 j (p % 2 ^ j) (by omega) hpm).1 (by rw [Nat.pow_succ]; omega)
    rw [if_neg (nI_nle (by omega) (by omega)), if_neg (nI_ne0 (by omega) (by omega)), show nI (j + 1) - (1 : Int32) = nI j from nI_pred j, nd_e (by omega) (by omega), show vN j p = 2 ^ j + p % 2 ^ j from rfl, bd_s, gd_p (na_ix w2 (by decide)), na_cl (by omega), hpar, sh_1m j (by omega), ea, nr_e (by omega), bd_s, gd_p (na_ix (show 2 ^ j + p % 2 ^ j - 1 < 127 by omega) (by decide)), show (nI (2 ^ j + p % 2 ^ j - 1)).toNatClampNeg = 2 ^ j + p % 2 ^ j - 1 from na_cl (by omega)]
    by_cases hq : gf_Model_inTree Y (2 ^ j + p % 2 ^ j - 1) = 2
    · rw [if_pos hq, if_pos hq]; exact stay
    · rw [if_neg hq, if_neg hq, gd_p hx, lt_v, na_cl (by omega)]
      generalize hA : sf_BestTree_kinds _ _ = A
      have a1 : gf_BestTree_kinds A = upd (gf_BestTree_kinds B) (2 ^ (j + 1) + p) 0 := by subst hA; rfl
      have a2 : gf_BestTree_prices A = gf_BestTree_prices B := by subst hA; rfl
      have a3 : gf_BestTree_leaves A = gf_BestTree_leaves B := by subst hA; rfl
      have a4 : gf_BestTree_deepest A = gf_BestTree_deepest B := by subst hA; rfl
      have ec : lc_ (gf_BestTree_kinds A) (2 ^ (j + 1) + p) = lc_ (gf_BestTree_kinds B) (2 ^ (j + 1) + p) := lc_c _ (fun i _ hi => by rw [a1, pk_un (by omega)])
      obtain ⟨B1, b1, b2, b3, b4, b5⟩ := se33 (B := A) (show j + 1 ≤ 6 by omega) hp (by rw [ec, a3]; exact j3) (by rw [ec, a4]; exact j4)
      unfold fn_X9_plants_219
      rw [nr_e (by omega), bd_s, if_pos rfl]
      obtain ⟨Y1, y1, y2, y3, y4, y5⟩ := p257 (Y := Y) (v := 2 ^ (j + 1) + p - 1) (l := j + 1) (p := p) (fl_X9_plants_179 k f) (by omega) 0
      refine ⟨B1, Y1, b1, y1, y2, by rw [b3, a2, y5]; exact j1, fun a q ha hq => ?_, by rw [b2]; exact b4, by rw [b2]; exact b5⟩
      have := Nat.two_pow_pos a
      rw [b2, a1, y3, y4]
      refine ⟨fun hlt => ?_, fun hge => ?_⟩
      · by_cases he : 2 ^ a + q = 2 ^ (j + 1) + p
        · rw [he, pk_us, pk_us]
        · rw [pk_un he, pk_un (by omega)]; exact (j2 a q ha hq).1 (by omega)
      · rw [pk_un (by omega)]; exact (j2 a q ha hq).2 (by omega)
theorem TJ_i {d l : Nat} {P : tt_Pasts} (k : tt_BestTree → Int32 → Option tt_BestTree) (k' : tt_Model → Int32 → Option tt_Model) (hd6 : d ≤ 6) (hl : l ≤ d) : ∀ (m p f : Nat) (B : tt_BestTree) (Y : tt_Model), p + m = 2 ^ l → TJ d l p B Y → ∃ B1 Y1, fl_X0_grow_59 k P (f + m + 1) B (nI l) (nI p) = k B1 (nI l) ∧ fl_X9_plants_179 k' (f + m + 1) Y (nI l) (nI p) = k' Y1 (nI l) ∧ fr_ Y1 Y ∧ TJ d (l + 1) 0 B1 Y1 := by
  have h64 := p_64 (show l ≤ 6 by omega)
  intro m
  induction m with
  | zero =>
    intro p f B Y h1 hJ
    obtain rfl : p = 2 ^ l := by omega
    refine ⟨B, Y, ?_, ?_, fr_rf Y, ?_⟩
    · rw [fl_X0_grow_59, sh_1 l (by omega), if_pos (Int32.le_refl _)]
    · rw [fl_X9_plants_179, sh_1 l (by omega), if_pos (Int32.le_refl _)]
    · unfold TJ at *
      rw [show 2 ^ (l + 1) + 0 = 2 ^ l + 2 ^ l by rw [Nat.pow_succ]; omega]
      exact hJ
  | succ m ih =>
    intro p f B Y h1 hJ
    obtain ⟨B1, Y1, a1, a2, a3, a4⟩ := TJ_s k' (f + m + 1) hd6 hl (show p < 2 ^ l by omega) hJ
    obtain ⟨B2, Y2, b1, b2, b3, b4⟩ := ih (p + 1) f B1 Y1 (by omega) a4
    refine ⟨B2, Y2, ?_, ?_, fr_tr b3 a3, b4⟩
    · rw [show f + (m + 1) + 1 = f + m + 1 + 1 by omega, fl_X0_grow_59, sh_1 l (by omega), if_neg (nI_ge (by omega) (by omega)), a1, bd_s, lt_v, show nI p + (1 : Int32) = nI (p + 1) from nI_1 p, b1]
    · rw [show f + (m + 1) + 1 = f + m + 1 + 1 by omega, a2, b2]
theorem TJ_o {d : Nat} {P : tt_Pasts} (k : tt_BestTree → Option tt_BestTree) (k' : tt_Model → Option tt_Model) (hd6 : d ≤ 6) (hD : gf_Pasts_depth P = nI d) : ∀ (m l f : Nat) (B : tt_BestTree) (Y : tt_Model), l + m = d + 1 → gf_Model_now Y 101 = nI d → TJ d l 0 B Y → ∃ B1 Y1, fl_X0_grow_49 k P (f + m + 1) B (nI l) = k B1 ∧ fl_X9_plants_169 k' (f + m + 1) Y (nI l) = k' Y1 ∧ fr_ Y1 Y ∧ TJ d (d + 1) 0 B1 Y1 := by
  intro m
  induction m with
  | zero =>
    intro l f B Y h1 h2 hJ
    obtain rfl : l = d + 1 := by omega
    refine ⟨B, Y, ?_, ?_, fr_rf Y, hJ⟩
    · rw [fl_X0_grow_49, hD, if_pos (nI_lt (by omega) (by omega))]
    · rw [fl_X9_plants_169, de_e h2, bd_s, if_pos (nI_lt (by omega) (by omega))]
  | succ m ih =>
    intro l f B Y h1 h2 hJ
    have h64 := p_64 (show l ≤ 6 by omega)
    obtain ⟨B1, Y1, a1, a2, a3, a4⟩ := TJ_i (P := P) (fun (S0_e78_17 : tt_BestTree) (x2_e78_17 : Int32) => lt_ (x2_e78_17 + (1 : Int32)) fun y_18 => fl_X0_grow_49 k P (f + m + 1) S0_e78_17 y_18) (fun (S0_e264_55 : tt_Model) (x2_e264_55 : Int32) => lt_ (x2_e264_55 + (1 : Int32)) fun y_56 => fl_X9_plants_169 k' (f + m + 1) S0_e264_55 y_56) hd6 (show l ≤ d by omega) (2 ^ l) 0 (4999 - 2 ^ l) B Y (by omega) hJ
    rw [nI_0, show 4999 - 2 ^ l + 2 ^ l + 1 = fu_ by unfold fu_; omega] at a1 a2
    obtain ⟨B2, Y2, b1, b2, b3, b4⟩ := ih (l + 1) f B1 Y1 (by omega) (by rw [a3.1.1]; exact h2) a4
    refine ⟨B2, Y2, ?_, ?_, fr_tr b3 a3, b4⟩
    · rw [show f + (m + 1) + 1 = f + m + 1 + 1 by omega, fl_X0_grow_49, hD, if_neg (nI_nlt (by omega) (by omega)), a1, lt_v, show nI l + (1 : Int32) = nI (l + 1) from nI_1 l, b1]
    · rw [show f + (m + 1) + 1 = f + m + 1 + 1 by omega, fl_X9_plants_169, de_e h2, bd_s, if_neg (nI_nlt (by omega) (by omega)), a2, lt_v, show nI l + (1 : Int32) = nI (l + 1) from nI_1 l, b2]
theorem gr_e {X : tt_TreeOdds} {Y : tt_Model} {n d g : Nat} (hR : RR (gf_TreeOdds_row X) (gf_Model_now Y) n d g) (B : tt_BestTree) : ∃ B1 Y1, fn_X0_grow B (gf_Row_pasts (gf_TreeOdds_row X)) = some B1 ∧ fn_X9_plants Y = some Y1 ∧ sameP Y1 Y ∧ TJ d (d + 1) 0 B1 Y1 := by
  obtain ⟨r1, r2, r3, r4, r5, r6, r7, r8⟩ := hR
  have hP := r8.2.2.2
  obtain ⟨Y0, a1, a2, a3⟩ := gn_e r2 r1 r7 r4 r5 r6 (fun _ _ => rfl)
  have hs : sameP Y0 Y := rs_p a2
  have hC : PC d (gf_Row_pasts (gf_TreeOdds_row X)) Y0 := by
    refine ⟨hP.1.1, by rw [hs.1]; exact r5, fun l p hl hp => ?_⟩
    have h1 := Nat.two_pow_pos l
    rw [(hP.2.1 (2 ^ l + p) (by omega) (v_d hl hp)).2.2.2, (a3.1.1 (2 ^ l + p) (by omega) (v_d hl hp)).2.2.2]
  obtain ⟨B1, Y1, b1, b2, b3, b4⟩ := TI_o (P := gf_Row_pasts (gf_TreeOdds_row X)) (fun (S0_e37_9 : tt_BestTree) => lt_ (sf_BestTree_leaves S0_e37_9 (0 : Int32)) fun S_10 => lt_ (sf_BestTree_deepest S_10 (0 : Int32)) fun S_11 => fl_X0_grow_49 (fun (S0_e84_19 : tt_BestTree) => some S0_e84_19) (gf_Row_pasts (gf_TreeOdds_row X)) fu_ S_11 (0 : Int32)) (fun (S0_e167_35 : tt_Model) => fl_X9_plants_169 (fun (S0_e270_57 : tt_Model) => some S0_e270_57) fu_ S0_e167_35 (0 : Int32)) r2 d (4998 - d) B Y0 (Nat.le_refl d) hC (fun a q ha hq hw => absurd hw (by omega))
  rw [show 4998 - d + d + 2 = fu_ by unfold fu_; omega] at b1 b2
  have hJ : TJ d 0 0 (sf_BestTree_deepest (sf_BestTree_leaves B1 0) 0) Y1 := by
    refine ⟨(b4 0 0 (Nat.zero_le d) (by decide) trivial).1, fun a q ha hq => ⟨fun h => ?_, fun _ => (b4 a q ha hq trivial).2⟩, rfl, rfl⟩
    have := Nat.two_pow_pos a
    omega
  obtain ⟨B2, Y2, c1, c2, c3, c4⟩ := TJ_o (fun (S0_e84_19 : tt_BestTree) => some S0_e84_19) (fun (S0_e270_57 : tt_Model) => some S0_e270_57) r2 hP.1.1 (d + 1) 0 (4998 - d) _ Y1 (by omega) (by rw [b3.1.1, hs.1]; exact r5) hJ
  rw [nI_0, show 4998 - d + (d + 1) + 1 = fu_ by unfold fu_; omega] at c1 c2
  refine ⟨B2, Y2, ?_, ?_, ?_, c4⟩
  · unfold fn_X0_grow
    rw [lt_v, hP.1.1, b1, lt_v, lt_v, c1]
  · unfold fn_X9_plants
    rw [a1, b2_s, de_e (by rw [hs.1]; exact r5), bd_s, b2, c2]
  · obtain ⟨u1, u2, u3, u4, u5, u6⟩ := (fr_tr c3 b3).1
    obtain ⟨v1, v2, v3, v4, v5, v6⟩ := hs
    exact ⟨u1.trans v1, u2.trans v2, u3.trans v3, u4.trans v4, u5.trans v5, u6.trans v6⟩
theorem lv_i {Y : tt_Model} {l : Nat} (k : Int32 → Int32 → Int32 → Int32 → Option Int32) (x1 : Int32) (hl : l ≤ 6) : ∀ (m p f : Nat), p + m = 2 ^ l → fl_X9_leaves_19 k Y (f + m + 1) x1 (lc_ (fun v => gf_Model_inTree Y (v - 1)) (2 ^ l + p)).1 (lc_ (fun v => gf_Model_inTree Y (v - 1)) (2 ^ l + p)).2 (nI l) (nI p) = k x1 (lc_ (fun v => gf_Model_inTree Y (v - 1)) (2 ^ (l + 1))).1 (lc_ (fun v => gf_Model_inTree Y (v - 1)) (2 ^ (l + 1))).2 (nI l) := by
  have h64 := p_64 hl
  intro m
  induction m with
  | zero =>
    intro p f h1
    obtain rfl : p = 2 ^ l := by omega
    rw [fl_X9_leaves_19, sh_1 l (by omega), if_pos (Int32.le_refl _), show 2 ^ l + 2 ^ l = 2 ^ (l + 1) by rw [Nat.pow_succ]; omega]
  | succ m ih =>
    intro p f h1
    have hp : p < 2 ^ l := by omega
    obtain ⟨hv1, hv⟩ := v_127 hl hp
    have t := ih (p + 1) f (by omega)
    rw [← Nat.add_assoc (2 ^ l) p 1, lc_, lg_v hp] at t
    rw [show f + (m + 1) + 1 = f + m + 1 + 1 by omega, fl_X9_leaves_19, sh_1 l (by omega), if_neg (nI_ge hp (by omega)), nr_e hl, bd_s, gd_p (na_ix (show 2 ^ l + p - 1 < 127 by omega) (by decide)), na_cl (by omega), ← t]
    unfold fn_X9_leaves_49 fn_X9_leaves_62 fn_X9_leaves_75
    rw [if_neg n10_, if_pos rfl]
    simp only [lt_v]
    rw [if_neg n10_, if_pos trivial, show nI p + (1 : Int32) = nI (p + 1) from nI_1 p, Int32.add_zero]
    by_cases h : gf_Model_inTree Y (2 ^ l + p - 1) = 1
    · rw [if_pos h, if_pos ⟨hv1, h⟩]
    · rw [if_neg h, if_neg (fun x => h x.2)]
theorem lv_o {Y : tt_Model} {d : Nat} (k : Int32 → Int32 → Int32 → Option Int32) (x1 : Int32) (hd6 : d ≤ 6) (hY : gf_Model_now Y 101 = nI d) : ∀ (m l f : Nat), l + m = d + 1 → fl_X9_leaves_7 k Y (f + m + 1) x1 (lc_ (fun v => gf_Model_inTree Y (v - 1)) (2 ^ l)).1 (lc_ (fun v => gf_Model_inTree Y (v - 1)) (2 ^ l)).2 (nI l) = k x1 (lc_ (fun v => gf_Model_inTree Y (v - 1)) (2 ^ (d + 1))).1 (lc_ (fun v => gf_Model_inTree Y (v - 1)) (2 ^ (d + 1))).2 := by
  intro m
  induction m with
  | zero =>
    intro l f h1
    obtain rfl : l = d + 1 := by omega
    rw [fl_X9_leaves_7, de_e hY, bd_s, if_pos (nI_lt (by omega) (by omega))]
  | succ m ih =>
    intro l f h1
    have h64 := p_64 (show l ≤ 6 by omega)
    have t := lv_i (Y := Y) (l := l) (fun (x1_e82_13 : Int32) (x2_e82_13 : Int32) (x3_e82_13 : Int32) (x4_e82_13 : Int32) => lt_ (x4_e82_13 + (1 : Int32)) fun y_14 => fl_X9_leaves_7 k Y (f + m + 1) x1_e82_13 x2_e82_13 x3_e82_13 y_14) x1 (by omega) (2 ^ l) 0 (4999 - 2 ^ l) (by omega)
    rw [nI_0, show 4999 - 2 ^ l + 2 ^ l + 1 = fu_ by unfold fu_; omega, Nat.add_zero (2 ^ l)] at t
    rw [show f + (m + 1) + 1 = f + m + 1 + 1 by omega, fl_X9_leaves_7, de_e hY, bd_s, if_neg (nI_nlt (by omega) (by omega)), t, lt_v, show nI l + (1 : Int32) = nI (l + 1) from nI_1 l]
    exact ih (l + 1) f (by omega)
theorem lv_e {B : tt_BestTree} {Y : tt_Model} {d : Nat} (x1 : Int32) (hd6 : d ≤ 6) (hY : gf_Model_now Y 101 = nI d) (hJ : TJ d (d + 1) 0 B Y) : fn_X9_leaves Y x1 = some (if x1 = 0 then gf_BestTree_leaves B else gf_BestTree_deepest B) := by
  have t := lv_o (Y := Y) (fun (x1_e88_15 : Int32) (x2_e88_15 : Int32) (x3_e88_15 : Int32) => if x1_e88_15 = 0 then some x2_e88_15 else some x3_e88_15) x1 hd6 hY (d + 1) 0 (4998 - d) (by omega)
  rw [nI_0, show 4998 - d + (d + 1) + 1 = fu_ by unfold fu_; omega, show (lc_ (fun v => gf_Model_inTree Y (v - 1)) (2 ^ 0)).1 = 0 from rfl, show (lc_ (fun v => gf_Model_inTree Y (v - 1)) (2 ^ 0)).2 = 0 from rfl] at t
  obtain ⟨j1, j2, j3, j4⟩ := hJ
  have ec : lc_ (gf_BestTree_kinds B) (2 ^ (d + 1) + 0) = lc_ (fun v => gf_Model_inTree Y (v - 1)) (2 ^ (d + 1)) := by
    rw [Nat.add_zero]
    refine lc_c _ (fun i h1 h2 => ?_)
    have e1 : 2 ^ i.log2 ≤ i := Nat.log2_self_le (by omega)
    have e2 : i < 2 ^ (i.log2 + 1) := Nat.lt_log2_self
    have e3 : i.log2 ≤ d := by
      apply Nat.le_of_not_lt
      intro h
      have := Nat.pow_le_pow_right (n := 2) (by decide) (show d + 1 ≤ i.log2 by omega)
      omega
    rw [Nat.pow_succ] at e2
    have := (j2 i.log2 (i - 2 ^ i.log2) e3 (by omega)).1 (by rw [show 2 ^ i.log2 + (i - 2 ^ i.log2) = i by omega]; exact h2)
    rw [show 2 ^ i.log2 + (i - 2 ^ i.log2) = i by omega] at this
    exact this
  unfold fn_X9_leaves
  rw [t, j3, j4, ec]
  by_cases h : x1 = 0
  · rw [if_pos h, if_pos h]
  · rw [if_neg h, if_neg h]
theorem m_tree {X : tt_TreeOdds} {Y : tt_Model} (x : Int32) (hR : Rel X Y) : Bo (fn_X8_tree X x) (fn_X9_tree Y x) := by
  obtain ⟨⟨n, d, g, hr⟩, -⟩ := id hR
  unfold fn_X8_tree fn_X9_tree
  rw [in_e x 0 2 z64.1 z64.2.2.1]
  rcases wi_c x 0 2 with ⟨h, -⟩ | ⟨h, h1, h2⟩
  · rw [h, bd_s, bd_s, if_pos rfl, if_pos rfl]
    exact Bo.bad hR
  · obtain ⟨B1, Y1, b1, b2, b3, b4⟩ := gr_e hr (gf_TreeOdds_bestTree X)
    have hY : gf_Model_now Y1 101 = nI d := by rw [b3.1]; exact hr.2.2.2.2.1
    have hrel : Rel (sf_TreeOdds_bestTree X B1) Y1 := (hR.best B1).y b3
    have g1 : gf_TreeOdds_bestTree (sf_TreeOdds_bestTree X B1) = B1 := rfl
    have e0 : fn_X9_treeOf_28 Y1 0 = some (gf_BestTree_leaves B1, Y1) := by
      unfold fn_X9_treeOf_28
      rw [lv_e 0 hr.2.1 hY b4, bd_s, if_pos rfl]
    have e1 : fn_X9_treeOf_28 Y1 1 = some (gf_BestTree_deepest B1, Y1) := by
      unfold fn_X9_treeOf_28
      rw [lv_e 1 hr.2.1 hY b4, bd_s, if_neg n10_]
    unfold fn_X9_treeOf
    rw [h, bd_s, bd_s, if_neg n10_, if_neg n10_, b1, bd_s, lt_v, b2, bd_s, g1, gd_p (by decide +kernel), show (0 : Int32).toNatClampNeg = 0 by decide +kernel, e0, e1, ← b4.1]
    unfold fn_X0_price
    rw [show fn_X8_nodeOf (0 : Int32) (0 : Int32) = some (nI 1) by decide +kernel, bd_s, gd_p (na_ix (by decide) (by decide)), na_cl (by decide), bd_s]
    obtain ⟨t, -, t2, rfl⟩ := nt_of (lo := 0) (hi := 2) (by decide) (by decide) h1 h2
    rcases (show t = 0 ∨ t = 1 ∨ t = 2 by omega) with rfl | rfl | rfl
    · exact ⟨gf_BestTree_prices B1 1, _, Y1, rfl, rfl, hrel⟩
    · exact ⟨gf_BestTree_leaves B1, _, Y1, rfl, rfl, hrel⟩
    · exact ⟨gf_BestTree_deepest B1, _, Y1, rfl, rfl, hrel⟩
theorem m_leaf {X : tt_TreeOdds} {Y : tt_Model} (x w : Int32) (hR : Rel X Y) : Bo (fn_X8_leaf X x w) (fn_X9_leaf Y x w) := by
  obtain ⟨⟨n, d, g, hr⟩, -⟩ := id hR
  have hP := hr.2.2.2.2.2.2.2.2.2.2
  unfold fn_X8_leaf fn_X9_leaf
  rw [isn_e x w hP.1.1 hr.2.2.2.2.1]
  rcases isn_c x w hr.2.1 hP.1.1 with h | ⟨h, l, p, l1, l2, rfl, rfl⟩
  · rw [h, bd_s, bd_s, if_pos rfl, if_pos rfl]
    exact Bo.bad hR
  · obtain ⟨B1, Y1, b1, b2, b3, b4⟩ := gr_e hr (gf_TreeOdds_bestTree X)
    have hrel : Rel (sf_TreeOdds_bestTree X B1) Y1 := (hR.best B1).y b3
    have g1 : gf_TreeOdds_bestTree (sf_TreeOdds_bestTree X B1) = B1 := rfl
    have hd6 := hr.2.1
    obtain ⟨v1, v2⟩ := v_127 (show l ≤ 6 by omega) l2
    have hk := (b4.2.1 l p l1 l2).1 (by rw [Nat.add_zero]; exact v_d l1 l2)
    rw [h, bd_s, bd_s, if_neg n10_, if_neg n10_, b1, bd_s, lt_v, b2, bd_s, g1, nc_e (by omega) l2, nr_e (by omega), bd_s, bd_s, gd_p (na_ix v2 (by decide)), gd_p (na_ix (show 2 ^ l + p - 1 < 127 by omega) (by decide)), na_cl (by omega), na_cl (by omega), hk]
    exact ⟨_, _, Y1, rfl, rfl, hrel⟩
