/-! ===== pure part: the reference's guesses ===== -/
def rs_ (Y : tt_Model) : (Nat → Int32) × (Nat → Int32) × Int32 × (Nat → Int32) × (Nat → Int32) × (Nat → Int32) × (Nat → Int32) × (Nat → Int32) × Int32 × Int64 × (Nat → Int32) × Int32 × Int32 × (Nat → Int32) × Int32 := (gf_Model_now Y, gf_Model_past Y, gf_Model_states Y, gf_Model_refused Y, gf_Model_treeCost Y, gf_Model_isLeaf Y, gf_Model_inTree Y, gf_Model_out Y, gf_Model_outLong Y, gf_Model_low Y, gf_Model_text Y, gf_Model_textLong Y, gf_Model_place Y, gf_Model_read Y, gf_Model_readLong Y)
def sameG (A B : tt_Model) : Prop := rs_ A = rs_ B ∧ gf_Model_noughts A = gf_Model_noughts B ∧ gf_Model_ones A = gf_Model_ones B ∧ gf_Model_weights A = gf_Model_weights B ∧ gf_Model_ownCost A = gf_Model_ownCost B ∧ gf_Model_line A = gf_Model_line B ∧ gf_Model_guessAt A = gf_Model_guessAt B ∧ gf_Model_came A = gf_Model_came B ∧ gf_Model_byDepth A = gf_Model_byDepth B ∧ gf_Model_byGuesser A = gf_Model_byGuesser B
theorem sameG.tr {A B C : tt_Model} (h1 : sameG A B) (h2 : sameG B C) : sameG A C := ⟨h1.1.trans h2.1, h1.2.1.trans h2.2.1, h1.2.2.1.trans h2.2.2.1, h1.2.2.2.1.trans h2.2.2.2.1, h1.2.2.2.2.1.trans h2.2.2.2.2.1, h1.2.2.2.2.2.1.trans h2.2.2.2.2.2.1, h1.2.2.2.2.2.2.1.trans h2.2.2.2.2.2.2.1, h1.2.2.2.2.2.2.2.1.trans h2.2.2.2.2.2.2.2.1, h1.2.2.2.2.2.2.2.2.1.trans h2.2.2.2.2.2.2.2.2.1, h1.2.2.2.2.2.2.2.2.2.trans h2.2.2.2.2.2.2.2.2.2⟩
theorem sameG.rf {A : tt_Model} : sameG A A := ⟨rfl, rfl, rfl, rfl, rfl, rfl, rfl, rfl, rfl, rfl⟩
theorem sg_way (Y : tt_Model) (v : Nat → Int32) : sameG (sf_Model_way Y v) Y := ⟨rfl, rfl, rfl, rfl, rfl, rfl, rfl, rfl, rfl, rfl⟩
theorem sg_own (Y : tt_Model) (v : Nat → Int32) : sameG (sf_Model_own Y v) Y := ⟨rfl, rfl, rfl, rfl, rfl, rfl, rfl, rfl, rfl, rfl⟩
theorem sg_mixed (Y : tt_Model) (v : Nat → Int32) : sameG (sf_Model_mixed Y v) Y := ⟨rfl, rfl, rfl, rfl, rfl, rfl, rfl, rfl, rfl, rfl⟩
theorem sg_ow (Y : tt_Model) (v : Nat → Int32) : gf_Model_own (sf_Model_way Y v) = gf_Model_own Y ∧ gf_Model_way (sf_Model_way Y v) = v ∧ gf_Model_mixed (sf_Model_way Y v) = gf_Model_mixed Y := ⟨rfl, rfl, rfl⟩
theorem sg_oo (Y : tt_Model) (v : Nat → Int32) : gf_Model_own (sf_Model_own Y v) = v ∧ gf_Model_way (sf_Model_own Y v) = gf_Model_way Y ∧ gf_Model_mixed (sf_Model_own Y v) = gf_Model_mixed Y := ⟨rfl, rfl, rfl⟩
theorem sg_om (Y : tt_Model) (v : Nat → Int32) : gf_Model_own (sf_Model_mixed Y v) = gf_Model_own Y ∧ gf_Model_way (sf_Model_mixed Y v) = gf_Model_way Y ∧ gf_Model_mixed (sf_Model_mixed Y v) = v := ⟨rfl, rfl, rfl⟩
def mn_ (d : Nat) (q : s4_) (Y : tt_Model) : Prop := ∀ v, 1 ≤ v → v < 2 ^ (d + 1) → gf_Model_noughts Y (v - 1) = q.1 v ∧ gf_Model_ones Y (v - 1) = q.2.1 v ∧ gf_Model_weights Y (v - 1) = q.2.2.1 v ∧ gf_Model_ownCost Y (v - 1) = q.2.2.2 v
/-- what the reference knows of the row when it guesses -/
def MG (d : Nat) (g : Int32) (h n : Nat) (q : s4_) (Y : tt_Model) : Prop := mn_ d q Y ∧ gf_Model_byDepth Y = nI d ∧ gf_Model_byGuesser Y = g ∧ gf_Model_came Y = nI n ∧ ∀ l, l < 6 → if l < n then gf_Model_line Y (n - 1 - l) = nI (h / 2 ^ l % 2) else h / 2 ^ l % 2 = 0
theorem MG.same {d : Nat} {g : Int32} {h n : Nat} {q : s4_} {A B : tt_Model} (hs : sameG A B) (hB : MG d g h n q B) : MG d g h n q A := by
  obtain ⟨s0, s1, s2, s3, s4, s5, s6, s7, s8, s9⟩ := hs
  obtain ⟨b1, b2, b3, b4, b5⟩ := hB
  exact ⟨fun v x y => by rw [s1, s2, s3, s4]; exact b1 v x y, by rw [s8]; exact b2, by rw [s9]; exact b3, by rw [s7]; exact b4, by rw [s5]; exact b5⟩
def wy_ (g : Int32) (h : Nat) (q : s4_) (Y : tt_Model) (l : Nat) : Prop := gf_Model_way Y l = nI (vN l h - 1) ∧ gf_Model_own Y l = ow_ g q.1 q.2.1 h l
theorem cm_1 : ∀ n, n < 128 → ∀ l, l < 7 → n ≤ l → (nI n - 1) - nI l < 0 := by decide +kernel
theorem cm_2 {n l : Nat} (h : l < n) : (nI n - 1) - nI l = nI (n - 1 - l) := by
  rw [show (1 : Int32) = nI 1 from rfl, pk_sub (by omega), pk_sub (by omega)]
theorem orb_ : ∀ l, l < 6 → ∀ x, x < 2 ^ l → ∀ b, b < 2 → nI x ||| (nI b <<< (nI l &&& 31)) = nI (x + 2 ^ l * b) := by decide +kernel
theorem gu_s {d : Nat} {g : Int32} {h n : Nat} {q : s4_} {Y : tt_Model} (k : tt_Model → Option (Int32 × tt_Model)) (f : Nat) (hd6 : d ≤ 6) (hB : BD q) (hn : n < 120) (hM : MG d g h n q Y) {l : Nat} (hl : l ≤ d) :
    ∃ Y1 x, fl_X9_guesses_4 k (f + 1) Y (nI (h % 2 ^ l)) (nI l) = fl_X9_guesses_4 k f Y1 x (nI (l + 1)) ∧ (l < 6 → x = nI (h % 2 ^ (l + 1))) ∧ sameG Y1 Y ∧ gf_Model_way Y1 = upd (gf_Model_way Y) l (nI (vN l h - 1)) ∧ gf_Model_own Y1 = upd (gf_Model_own Y) l (ow_ g q.1 q.2.1 h l) := by
  have hv := vN_128 (l := l) (h := h) (by omega)
  have hr := vN_r (h := h) hl
  obtain ⟨m1, m2, m3, m4, m5⟩ := id hM
  have hx : ix_ (nI l) 7 := na_ix (by omega) (by decide)
  have c1 : (nI l).toNatClampNeg = l := na_cl (by omega)
  have hw : 2 ^ l - 1 + h % 2 ^ l = vN l h - 1 := by
    have := Nat.two_pow_pos l
    unfold vN
    omega
  rw [fl_X9_guesses_4]
  simp only [m2, if_neg (nI_nlt hl (show d < 2 ^ 31 by omega)), nme_ (show l < 8 by omega), bd_s, gd_p hx, lt_v, c1, hw]
  generalize hY0 : sf_Model_way Y _ = Y0
  have e0 : sameG Y0 Y := by subst hY0; exact sg_way _ _
  have e1 : gf_Model_way Y0 = upd (gf_Model_way Y) l (nI (vN l h - 1)) := by subst hY0; exact (sg_ow _ _).2.1
  have e2 : gf_Model_own Y0 = gf_Model_own Y := by subst hY0; exact (sg_ow _ _).1
  have e3 : gf_Model_way Y0 l = nI (vN l h - 1) := by rw [e1, pk_us]
  have M0 := hM.same e0
  obtain ⟨n1, n2, n3, n4⟩ := M0.1 _ hr.1 hr.2
  have b := hB (vN l h)
  have eo : fn_X9_ownOf Y0 (nI (vN l h - 1)) = some (ow_ g q.1 q.2.1 h l) := by
    have t := oo_e (Y := Y0) (g := g) (v := vN l h - 1) M0.2.2.1 (by omega) (by rw [n1]; exact b.1) (by rw [n2]; exact b.2.1)
    rw [t, n1, n2]
    rfl
  simp only [e3, eo, bd_s]
  generalize hY1 : sf_Model_own Y0 _ = Y1
  have f0 : sameG Y1 Y := by subst hY1; exact (sg_own _ _).tr e0
  have f1 : gf_Model_way Y1 = upd (gf_Model_way Y) l (nI (vN l h - 1)) := by subst hY1; exact (sg_oo _ _).2.1.trans e1
  have f2 : gf_Model_own Y1 = upd (gf_Model_own Y) l (ow_ g q.1 q.2.1 h l) := by subst hY1; rw [(sg_oo _ _).1, e2]
  have M1 := hM.same f0
  rw [M1.2.2.2.1]
  have fin : ∀ t : Int32, (l < 6 → nI (h % 2 ^ l) ||| t = nI (h % 2 ^ (l + 1))) → ∃ Y2 x, fn_X9_guesses_70 (fl_X9_guesses_4 k f) Y1 (nI l) (nI (h % 2 ^ l)) t = fl_X9_guesses_4 k f Y2 x (nI (l + 1)) ∧ (l < 6 → x = nI (h % 2 ^ (l + 1))) ∧ sameG Y2 Y ∧ gf_Model_way Y2 = upd (gf_Model_way Y) l (nI (vN l h - 1)) ∧ gf_Model_own Y2 = upd (gf_Model_own Y) l (ow_ g q.1 q.2.1 h l) := by
    intro t ht
    refine ⟨Y1, _, ?_, ht, f0, f1, f2⟩
    unfold fn_X9_guesses_70
    rw [lt_v, lt_v, show nI l + (1 : Int32) = nI (l + 1) from nI_1 l]
  have hmod : h % 2 ^ (l + 1) = h % 2 ^ l + 2 ^ l * (h / 2 ^ l % 2) := Nat.mod_pow_succ
  have hlt := Nat.mod_lt h (Nat.two_pow_pos l)
  have hb2 : h / 2 ^ l % 2 < 2 := Nat.mod_lt _ (by decide)
  by_cases hln : l < n
  · have e : nI (n - 1 - l) = (nI n - 1) - nI l := (cm_2 hln).symm
    rw [← e, if_neg (nI_pos (by omega)), gd_p (na_ix (show n - 1 - l < 128 by omega) (by decide)), na_cl (by omega)]
    apply fin
    intro h6
    have hb := M1.2.2.2.2 l h6
    rw [if_pos hln] at hb
    rw [hb, orb_ l h6 _ hlt _ hb2, hmod]
  · rw [if_pos (cm_1 n (by omega) l (by omega) (by omega))]
    apply fin
    intro h6
    have hb := M1.2.2.2.2 l h6
    rw [if_neg hln] at hb
    have t := orb_ l h6 _ hlt 0 (by decide)
    rw [hmod, hb, ← t]
    rw [show nI 0 <<< (nI l &&& 31) = 0 from (by decide +kernel : ∀ l, l < 6 → nI 0 <<< (nI l &&& 31) = 0) l h6]
theorem gu_l {d : Nat} {g : Int32} {h n : Nat} {q : s4_} (k : tt_Model → Option (Int32 × tt_Model)) (hd6 : d ≤ 6) (hB : BD q) (hn : n < 120) : ∀ (m l f : Nat) (Y : tt_Model) (x : Int32), l + m = d + 1 → (l ≤ d → x = nI (h % 2 ^ l)) → MG d g h n q Y → (∀ i, i < l → wy_ g h q Y i) →
    ∃ Y1, fl_X9_guesses_4 k (f + m + 1) Y x (nI l) = k Y1 ∧ sameG Y1 Y ∧ ∀ i, i ≤ d → wy_ g h q Y1 i := by
  intro m
  induction m with
  | zero =>
    intro l f Y x hl hx hM hw
    obtain rfl : l = d + 1 := by omega
    refine ⟨Y, ?_, sameG.rf, fun i hi => hw i (by omega)⟩
    rw [fl_X9_guesses_4, hM.2.1, if_pos (nI_lt (by omega) (by omega))]
  | succ m ih =>
    intro l f Y x hl hx hM hw
    obtain ⟨Y1, x1, e1, e2, e3, e4, e5⟩ := gu_s (h := h) k (f + m + 1) hd6 hB hn hM (show l ≤ d by omega)
    obtain ⟨Y2, f1, f2, f3⟩ := ih (l + 1) f Y1 x1 (by omega) (fun hh => e2 (by omega)) (hM.same e3) (fun i hi => by
      unfold wy_
      rw [e4, e5]
      by_cases hi2 : i = l
      · rw [hi2, pk_us, pk_us]; exact ⟨rfl, rfl⟩
      · rw [pk_un hi2, pk_un hi2]; exact hw i (by omega))
    exact ⟨Y2, by rw [hx (by omega), show f + (m + 1) + 1 = f + m + 1 + 1 by omega, e1, f1], f2.tr e3, f3⟩
theorem gx_l {d : Nat} {g : Int32} {h n : Nat} {q : s4_} (k : tt_Model → Option (Int32 × tt_Model)) (hd6 : d ≤ 6) : ∀ (l f : Nat) (Y : tt_Model), l < d → MG d g h n q Y → (∀ i, i ≤ d → wy_ g h q Y i) → (∀ i, l < i → i ≤ d → gf_Model_mixed Y i = mx_ g q.1 q.2.1 q.2.2.1 h d (d - i)) →
    ∃ Y1, fl_X9_guesses_103 k (f + l + 2) Y (nI l) = k Y1 ∧ sameG Y1 Y ∧ (∀ i, i ≤ d → wy_ g h q Y1 i) ∧ ∀ i, i ≤ d → gf_Model_mixed Y1 i = mx_ g q.1 q.2.1 q.2.2.1 h d (d - i) := by
  have step : ∀ (l f : Nat) (Y : tt_Model), l < d → MG d g h n q Y → (∀ i, i ≤ d → wy_ g h q Y i) → (∀ i, l < i → i ≤ d → gf_Model_mixed Y i = mx_ g q.1 q.2.1 q.2.2.1 h d (d - i)) →
      ∃ Y1, fl_X9_guesses_103 k (f + 1) Y (nI l) = fl_X9_guesses_103 k f Y1 (nI l + (-1 : Int32)) ∧ sameG Y1 Y ∧ (∀ i, i ≤ d → wy_ g h q Y1 i) ∧ ∀ i, l ≤ i → i ≤ d → gf_Model_mixed Y1 i = mx_ g q.1 q.2.1 q.2.2.1 h d (d - i) := by
    intro l f Y hl hM hw hm
    have hv := vN_128 (l := l) (h := h) (by omega)
    have hr := vN_r (h := h) (Nat.le_of_lt hl)
    obtain ⟨n1, n2, n3, n4⟩ := hM.1 _ hr.1 hr.2
    have c1 : (nI l).toNatClampNeg = l := na_cl (by omega)
    have c2 : (nI (vN l h - 1)).toNatClampNeg = vN l h - 1 := na_cl (by omega)
    have c3 : (nI (l + 1)).toNatClampNeg = l + 1 := na_cl (by omega)
    have hx : ix_ (nI l) 7 := na_ix (by omega) (by decide)
    have hx1 : ix_ (nI (l + 1)) 7 := na_ix (by omega) (by decide)
    have hxw : ix_ (nI (vN l h - 1)) 127 := na_ix (by omega) (by decide)
    obtain ⟨w1, w2⟩ := hw l (by omega)
    rw [fl_X9_guesses_103, if_neg (nI_pos (by omega))]
    simp only [show nI l + (1 : Int32) = nI (l + 1) from nI_1 l, gd_p hx, c1, w1, gd_p hxw, lt_v, c2, gd_p hx1, c3, he_e, bd_s, n3, w2, hm (l + 1) (by omega) (by omega)]
    refine ⟨_, rfl, sg_mixed _ _, fun i hi => by unfold wy_; rw [(sg_om _ _).1, (sg_om _ _).2.1]; exact hw i hi, fun i hi1 hi2 => ?_⟩
    rw [(sg_om _ _).2.2]
    by_cases hi : i = l
    · rw [hi, pk_us, mx_s hl]; rfl
    · rw [pk_un hi]; exact hm i (by omega) hi2
  intro l
  induction l with
  | zero =>
    intro f Y hl hM hw hm
    obtain ⟨Y1, e1, e2, e3, e4⟩ := step 0 (f + 0 + 1) Y hl hM hw hm
    refine ⟨Y1, ?_, e2, e3, fun i hi => e4 i (by omega) hi⟩
    rw [e1, fl_X9_guesses_103, if_pos na_0m]
  | succ l ih =>
    intro f Y hl hM hw hm
    obtain ⟨Y1, e1, e2, e3, e4⟩ := step (l + 1) (f + l + 2) Y hl hM hw hm
    obtain ⟨Y2, f1, f2, f3, f4⟩ := ih f Y1 (by omega) (hM.same e2) e3 (fun i hi1 hi2 => e4 i (by omega) hi2)
    exact ⟨Y2, by rw [show f + (l + 1) + 2 = f + l + 2 + 1 by omega, e1, na_m1, f1], f2.tr e2, f3, f4⟩
/-- guesses() -/
theorem gu_e {d : Nat} {g : Int32} {h n : Nat} {q : s4_} {Y : tt_Model} (hd6 : d ≤ 6) (hB : BD q) (hn : n < 120) (hM : MG d g h n q Y) : ∃ Y1, fn_X9_guesses Y = some (mx_ g q.1 q.2.1 q.2.2.1 h d d, Y1) ∧ sameG Y1 Y ∧ (∀ i, i ≤ d → wy_ g h q Y1 i) ∧ ∀ i, i ≤ d → gf_Model_mixed Y1 i = mx_ g q.1 q.2.1 q.2.2.1 h d (d - i) := by
  have hfu : (4998 - d) + (d + 1) + 1 = fu_ := by unfold fu_; omega
  have hx : ix_ (nI d) 7 := na_ix (by omega) (by decide)
  have c1 : (nI d).toNatClampNeg = d := na_cl (by omega)
  obtain ⟨Y1, e1, e2, e3⟩ := gu_l (g := g) (h := h) (n := n) (q := q) (fun (S : tt_Model) => gd_ (ix_ (gf_Model_byDepth S) 7) (lt_ ((gf_Model_own S) (gf_Model_byDepth S).toNatClampNeg) fun y => gd_ (ix_ (gf_Model_byDepth S) 7) (lt_ (sf_Model_mixed S (upd (gf_Model_mixed S) (gf_Model_byDepth S).toNatClampNeg y)) fun S_19 => lt_ ((gf_Model_byDepth S_19) - (1 : Int32)) fun y_20 => fl_X9_guesses_103 (fun (S0 : tt_Model) => gd_ (ix_ (0 : Int32) 7) (some ((gf_Model_mixed S0) (0 : Int32).toNatClampNeg, S0))) fu_ S_19 y_20))) hd6 hB hn (d + 1) 0 (4998 - d) Y 0 (by omega) (fun _ => by rw [Nat.pow_zero, Nat.mod_one]; exact nI_0.symm) hM (fun i hi => absurd hi (by omega))
  rw [nI_0, hfu] at e1
  unfold fn_X9_guesses
  rw [e1]
  have M1 := hM.same e2
  simp only [M1.2.1, gd_p hx, lt_v, c1]
  generalize hY2 : sf_Model_mixed Y1 _ = Y2
  have f0 : sameG Y2 Y1 := by subst hY2; exact sg_mixed _ _
  have f1 : ∀ i, i ≤ d → wy_ g h q Y2 i := fun i hi => by subst hY2; unfold wy_; rw [(sg_om _ _).1, (sg_om _ _).2.1]; exact e3 i hi
  have f2 : gf_Model_mixed Y2 d = mx_ g q.1 q.2.1 q.2.2.1 h d (d - d) := by
    subst hY2
    rw [(sg_om _ _).2.2, pk_us, Nat.sub_self, (e3 d (Nat.le_refl d)).2]
    rfl
  have M2 := M1.same f0
  rw [M2.2.1]
  have hx0 : ix_ (0 : Int32) 7 := by decide +kernel
  have c0 : (0 : Int32).toNatClampNeg = 0 := by decide +kernel
  by_cases h0 : d = 0
  · subst h0
    have em : nI 0 - (1 : Int32) < 0 := by decide +kernel
    refine ⟨Y2, ?_, f0.tr e2, f1, fun i hi => by obtain rfl : i = 0 := (by omega); exact f2⟩
    rw [show fu_ = 4999 + 1 from rfl, fl_X9_guesses_103, if_pos em, gd_p hx0, c0, f2]
  · obtain ⟨j, rfl⟩ : ∃ j, d = j + 1 := ⟨d - 1, by omega⟩
    rw [nI_pred, show fu_ = (4998 - j) + j + 2 by unfold fu_; omega]
    obtain ⟨Y3, g1, g2, g3, g4⟩ := gx_l (g := g) (h := h) (n := n) (q := q) (fun (S0 : tt_Model) => gd_ (ix_ (0 : Int32) 7) (some ((gf_Model_mixed S0) (0 : Int32).toNatClampNeg, S0))) hd6 j (4998 - j) Y2 (by omega) M2 f1 (fun i hi1 hi2 => by obtain rfl : i = j + 1 := (by omega); exact f2)
    refine ⟨Y3, ?_, (g2.tr f0).tr e2, g3, g4⟩
    rw [g1, gd_p hx0, c0, g4 0 (by omega), Nat.sub_zero]
