/-! ===== pure part: the reference's comes ===== -/
def kW (A B : tt_Model) : Prop := rs_ A = rs_ B ∧ gf_Model_noughts A = gf_Model_noughts B ∧ gf_Model_ones A = gf_Model_ones B ∧ gf_Model_ownCost A = gf_Model_ownCost B ∧ gf_Model_line A = gf_Model_line B ∧ gf_Model_guessAt A = gf_Model_guessAt B ∧ gf_Model_came A = gf_Model_came B ∧ gf_Model_byDepth A = gf_Model_byDepth B ∧ gf_Model_byGuesser A = gf_Model_byGuesser B ∧ gf_Model_way A = gf_Model_way B ∧ gf_Model_own A = gf_Model_own B ∧ gf_Model_mixed A = gf_Model_mixed B
theorem kW.rf {A : tt_Model} : kW A A := ⟨rfl, rfl, rfl, rfl, rfl, rfl, rfl, rfl, rfl, rfl, rfl, rfl⟩
theorem kW.tr {A B C : tt_Model} (a : kW A B) (b : kW B C) : kW A C := by
  obtain ⟨a0, a1, a2, a3, a4, a5, a6, a7, a8, a9, a10, a11⟩ := a
  obtain ⟨b0, b1, b2, b3, b4, b5, b6, b7, b8, b9, b10, b11⟩ := b
  exact ⟨a0.trans b0, a1.trans b1, a2.trans b2, a3.trans b3, a4.trans b4, a5.trans b5, a6.trans b6, a7.trans b7, a8.trans b8, a9.trans b9, a10.trans b10, a11.trans b11⟩
theorem kW_w (Y : tt_Model) (v : Nat → Int32) : kW (sf_Model_weights Y v) Y ∧ gf_Model_weights (sf_Model_weights Y v) = v := ⟨⟨rfl, rfl, rfl, rfl, rfl, rfl, rfl, rfl, rfl, rfl, rfl, rfl⟩, rfl⟩
def kC (A B : tt_Model) : Prop := rs_ A = rs_ B ∧ gf_Model_weights A = gf_Model_weights B ∧ gf_Model_line A = gf_Model_line B ∧ gf_Model_guessAt A = gf_Model_guessAt B ∧ gf_Model_came A = gf_Model_came B ∧ gf_Model_byDepth A = gf_Model_byDepth B ∧ gf_Model_byGuesser A = gf_Model_byGuesser B ∧ gf_Model_way A = gf_Model_way B ∧ gf_Model_own A = gf_Model_own B ∧ gf_Model_mixed A = gf_Model_mixed B
theorem kC.rf {A : tt_Model} : kC A A := ⟨rfl, rfl, rfl, rfl, rfl, rfl, rfl, rfl, rfl, rfl⟩
theorem kC.tr {A B C : tt_Model} (a : kC A B) (b : kC B C) : kC A C := by
  obtain ⟨a0, a1, a2, a3, a4, a5, a6, a7, a8, a9⟩ := a
  obtain ⟨b0, b1, b2, b3, b4, b5, b6, b7, b8, b9⟩ := b
  exact ⟨a0.trans b0, a1.trans b1, a2.trans b2, a3.trans b3, a4.trans b4, a5.trans b5, a6.trans b6, a7.trans b7, a8.trans b8, a9.trans b9⟩
theorem kC_z (Y : tt_Model) (v : Nat → Int32) : kC (sf_Model_noughts Y v) Y ∧ gf_Model_noughts (sf_Model_noughts Y v) = v ∧ gf_Model_ones (sf_Model_noughts Y v) = gf_Model_ones Y ∧ gf_Model_ownCost (sf_Model_noughts Y v) = gf_Model_ownCost Y := ⟨⟨rfl, rfl, rfl, rfl, rfl, rfl, rfl, rfl, rfl, rfl⟩, rfl, rfl, rfl⟩
theorem kC_o (Y : tt_Model) (v : Nat → Int32) : kC (sf_Model_ones Y v) Y ∧ gf_Model_ones (sf_Model_ones Y v) = v ∧ gf_Model_noughts (sf_Model_ones Y v) = gf_Model_noughts Y ∧ gf_Model_ownCost (sf_Model_ones Y v) = gf_Model_ownCost Y := ⟨⟨rfl, rfl, rfl, rfl, rfl, rfl, rfl, rfl, rfl, rfl⟩, rfl, rfl, rfl⟩
theorem kC_c (Y : tt_Model) (v : Nat → Int32) : kC (sf_Model_ownCost Y v) Y ∧ gf_Model_ownCost (sf_Model_ownCost Y v) = v ∧ gf_Model_noughts (sf_Model_ownCost Y v) = gf_Model_noughts Y ∧ gf_Model_ones (sf_Model_ownCost Y v) = gf_Model_ones Y := ⟨⟨rfl, rfl, rfl, rfl, rfl, rfl, rfl, rfl, rfl, rfl⟩, rfl, rfl, rfl⟩
theorem l64 {m : Nat} (h1 : 1 ≤ m) (h2 : m < 2 ^ 62) : ¬ lN m = 0 ∧ (1 : Int64) ≤ lN m := by
  have e : (lN m).toInt = m := lg_ofNat_toInt (by omega)
  constructor
  · intro x
    rw [x] at e
    have : (0 : Int64).toInt = 0 := by decide +kernel
    omega
  · rw [Int64.le_iff_toInt_le, e, show (1 : Int64).toInt = 1 by decide +kernel]
    omega
theorem tw_m {W a b : Int32} (hW : wn_ W) (ha : un_ a) (hb : un_ b) : ¬ W.toInt64 * a.toInt64 + ((65536 : Int64) - W.toInt64) * b.toInt64 = 0 ∧ tw_ W a b = kp_ (((65536 : Int64) * (W.toInt64 * a.toInt64)) / (W.toInt64 * a.toInt64 + ((65536 : Int64) - W.toInt64) * b.toInt64)) 64 65472 := by
  obtain ⟨w, w1, w2, rfl⟩ := hW
  obtain ⟨x, x1, x2, rfl⟩ := ha
  obtain ⟨y, y1, y2, rfl⟩ := hb
  have e : (nI w).toInt64 * (nI x).toInt64 + ((65536 : Int64) - (nI w).toInt64) * (nI y).toInt64 = lN (w * x + (65536 - w) * y) := by
    rw [nI_l (by omega), nI_l (by omega), nI_l (by omega), show (65536 : Int64) = lN 65536 from rfl, lN_sub (by omega), lN_mul, lN_mul, lN_add]
  have b1 : 1 ≤ w * x + (65536 - w) * y := by
    have : 1 ≤ w * x := Nat.mul_pos (by omega) (by omega)
    omega
  have b2 : w * x + (65536 - w) * y < 2 ^ 62 := by
    have h1 : w * x ≤ 65472 * 65535 := Nat.mul_le_mul w2 x2
    have h2 : (65536 - w) * y ≤ 65536 * 65535 := Nat.mul_le_mul (by omega) y2
    omega
  have h := l64 b1 b2
  refine ⟨by rw [e]; exact h.1, ?_⟩
  unfold tw_ qt_
  rw [e, if_pos h.2]
theorem co_s {d : Nat} {g : Int32} {h : Nat} {q0 : s4_} {Y : tt_Model} (k : tt_Model → Int32 → Option tt_Model) (f : Nat) (s : Int32) (hd6 : d ≤ 6) (hB : BD q0) {l : Nat} (hl : l < d) (hD : gf_Model_byDepth Y = nI d) (hw : ∀ v, 1 ≤ v → v < 2 ^ (d + 1) → gf_Model_weights Y (v - 1) = (it_ g h d s q0 l).2.2.1 v) (hy : ∀ i, i ≤ d → wy_ g h q0 Y i) (hm : ∀ i, i ≤ d → gf_Model_mixed Y i = mx_ g q0.1 q0.2.1 q0.2.2.1 h d (d - i)) :
    ∃ Y1, fl_X9_comes_2 k (f + 1) Y s (nI l) = fl_X9_comes_2 k f Y1 s (nI (l + 1)) ∧ kW Y1 Y ∧ ∀ v, 1 ≤ v → v < 2 ^ (d + 1) → gf_Model_weights Y1 (v - 1) = (it_ g h d s q0 (l + 1)).2.2.1 v := by
  have hv := vN_128 (l := l) (h := h) (by omega)
  have hr := vN_r (h := h) (Nat.le_of_lt hl)
  have c1 : (nI l).toNatClampNeg = l := na_cl (by omega)
  have c2 : (nI (vN l h - 1)).toNatClampNeg = vN l h - 1 := na_cl (by omega)
  have c3 : (nI (l + 1)).toNatClampNeg = l + 1 := na_cl (by omega)
  have hx : ix_ (nI l) 7 := na_ix (by omega) (by decide)
  have hx1 : ix_ (nI (l + 1)) 7 := na_ix (by omega) (by decide)
  have hxw : ix_ (nI (vN l h - 1)) 127 := na_ix (by omega) (by decide)
  obtain ⟨w1, w2⟩ := hy l (by omega)
  have hW := ((BD_it (g := g) (h := h) (d := d) (s := s) hB l) (vN l h)).2.2
  obtain ⟨t1, t2⟩ := tw_m hW (un_of (s := s) (un_ow g q0.1 q0.2.1 h l)) (un_of (s := s) (un_mx g q0.1 q0.2.1 q0.2.2.1 h d (d - (l + 1))))
  rw [fl_X9_comes_2]
  simp only [hD, if_neg (nI_ge hl (show d < 2 ^ 31 by omega)), show nI l + (1 : Int32) = nI (l + 1) from nI_1 l, gd_p hx, c1, w1, gd_p hxw, lt_v, c2, w2, od_e, bd_s, gd_p hx1, c3, hm (l + 1) (by omega), hw _ hr.1 hr.2, gd_p t1]
  generalize hz : (65536 : Int64) * _ / _ = z at t2 ⊢
  have fin : ∀ x : Int32, x = kp_ z 64 65472 → ∃ Y1, fn_X9_comes_116 (fl_X9_comes_2 k f) Y s (nI l) (nI (vN l h - 1)) x = fl_X9_comes_2 k f Y1 s (nI (l + 1)) ∧ kW Y1 Y ∧ ∀ v, 1 ≤ v → v < 2 ^ (d + 1) → gf_Model_weights Y1 (v - 1) = (it_ g h d s q0 (l + 1)).2.2.1 v := by
    intro x ex
    unfold fn_X9_comes_116
    rw [gd_p hxw, lt_v, lt_v, c2, show nI l + (1 : Int32) = nI (l + 1) from nI_1 l]
    refine ⟨_, rfl, (kW_w _ _).1, fun v v1 v2 => ?_⟩
    rw [(kW_w _ _).2]
    show _ = (if l < d then upd (it_ g h d s q0 l).2.2.1 (vN l h) _ else _ : Nat → Int32) v
    rw [if_pos hl]
    by_cases hv2 : v = vN l h
    · rw [hv2, pk_us, pk_us, ex, ← t2]
    · rw [pk_un hv2, pk_un (by omega)]
      exact hw v v1 v2
  have a1 : (64 : Int32).toInt64 = 64 := by decide +kernel
  have a2 : (65472 : Int32).toInt64 = 65472 := by decide +kernel
  by_cases z1 : (64 : Int64) ≤ z
  · rw [if_pos z1]
    by_cases z2 : z ≤ (65472 : Int64)
    · rw [if_pos z2]
      apply fin
      unfold kp_
      rw [a1, a2, if_pos z1, if_pos z2]
    · rw [if_neg z2]
      apply fin
      unfold kp_
      rw [a1, a2, if_pos z1, if_neg z2]
  · rw [if_neg z1]
    apply fin
    unfold kp_
    rw [a1, if_neg z1]
theorem co_l {d : Nat} {g : Int32} {h : Nat} {q0 : s4_} (k : tt_Model → Int32 → Option tt_Model) (s : Int32) (hd6 : d ≤ 6) (hB : BD q0) : ∀ (m l f : Nat) (Y : tt_Model), l + m = d → gf_Model_byDepth Y = nI d → (∀ v, 1 ≤ v → v < 2 ^ (d + 1) → gf_Model_weights Y (v - 1) = (it_ g h d s q0 l).2.2.1 v) → (∀ i, i ≤ d → wy_ g h q0 Y i) → (∀ i, i ≤ d → gf_Model_mixed Y i = mx_ g q0.1 q0.2.1 q0.2.2.1 h d (d - i)) →
    ∃ Y1, fl_X9_comes_2 k (f + m + 1) Y s (nI l) = k Y1 s ∧ kW Y1 Y ∧ ∀ v, 1 ≤ v → v < 2 ^ (d + 1) → gf_Model_weights Y1 (v - 1) = (it_ g h d s q0 (d + 1)).2.2.1 v := by
  intro m
  induction m with
  | zero =>
    intro l f Y hl hD hw hy hm
    obtain rfl : l = d := by omega
    refine ⟨Y, ?_, kW.rf, fun v v1 v2 => ?_⟩
    · rw [fl_X9_comes_2, hD, if_pos (Int32.le_refl _)]
    · rw [hw v v1 v2]
      show _ = (if l < l then _ else (it_ g h l s q0 l).2.2.1 : Nat → Int32) v
      rw [if_neg (by omega)]
  | succ m ih =>
    intro l f Y hl hD hw hy hm
    obtain ⟨Y1, e1, e2, e3⟩ := co_s k (f + m + 1) s hd6 hB (show l < d by omega) hD hw hy hm
    obtain ⟨b0, b1, b2, b3, b4, b5, b6, b7, b8, b9, b10, b11⟩ := id e2
    obtain ⟨Y2, f1, f2, f3⟩ := ih (l + 1) f Y1 (by omega) (by rw [b7]; exact hD) e3 (fun i hi => by unfold wy_; rw [b9, b10]; exact hy i hi) (fun i hi => by rw [b11]; exact hm i hi)
    exact ⟨Y2, by rw [show f + (m + 1) + 1 = f + m + 1 + 1 by omega, e1, f1], f2.tr e2, f3⟩
