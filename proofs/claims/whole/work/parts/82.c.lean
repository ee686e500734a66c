/-! ===== pure part: Pasts.begin, take ===== -/
theorem sh_2 : ∀ d, d < 7 → (2 : Int32) <<< (nI d &&& 31) = nI (2 ^ (d + 1)) := by decide +kernel
theorem p_128 {d : Nat} (h : d ≤ 6) : 2 ^ (d + 1) ≤ 128 := Nat.pow_le_pow_right (n := 2) (by decide) (by omega : d + 1 ≤ 7)
def z0_ : Nat → Int32 := fun _ => 0
def w0_ : Nat → Int32 := fun _ => 32768
theorem be_l {d : Nat} (k : tt_Pasts → Option tt_Pasts) (hd6 : d ≤ 6) : ∀ (m v n : Nat) (Q : tt_Pasts), v + m = 2 ^ (d + 1) → gf_Pasts_depth Q = nI d →
    ∃ Q1, fl_X2_begin_34 k (n + m + 1) Q (nI v) = k Q1 ∧ gf_Pasts_depth Q1 = gf_Pasts_depth Q ∧ gf_Pasts_guesser Q1 = gf_Pasts_guesser Q ∧ gf_Pasts_past Q1 = gf_Pasts_past Q ∧ (∀ i, v ≤ i → i < 2 ^ (d + 1) → gf_Pasts_zeros Q1 i = 0 ∧ gf_Pasts_ones Q1 i = 0 ∧ gf_Pasts_weights Q1 i = 32768 ∧ gf_Pasts_paidAlone Q1 i = 0) ∧
      ∀ i, i < v → gf_Pasts_zeros Q1 i = gf_Pasts_zeros Q i ∧ gf_Pasts_ones Q1 i = gf_Pasts_ones Q i ∧ gf_Pasts_weights Q1 i = gf_Pasts_weights Q i ∧ gf_Pasts_paidAlone Q1 i = gf_Pasts_paidAlone Q i := by
  have h128 := p_128 hd6
  intro m
  induction m with
  | zero =>
    intro v n Q hv hq
    refine ⟨Q, ?_, rfl, rfl, rfl, fun i h1 h2 => absurd h2 (by omega), fun i _ => ⟨rfl, rfl, rfl, rfl⟩⟩
    rw [fl_X2_begin_34, hq, sh_2 d (by omega), if_pos (nI_le (by omega) (by omega))]
  | succ m ih =>
    intro v n Q hv hq
    have hx : ix_ (nI v) 128 := na_ix (by omega) (by decide)
    have c1 : (nI v).toNatClampNeg = v := na_cl (by omega)
    rw [show n + (m + 1) + 1 = (n + m + 1) + 1 by omega, fl_X2_begin_34, hq, sh_2 d (by omega), if_neg (nI_ge (by omega) (by omega)), gd_p hx, lt_v, gd_p hx, lt_v, gd_p hx, lt_v, gd_p hx, lt_v, lt_v]
    simp only [c1]
    rw [show nI v + (1 : Int32) = nI (v + 1) from nI_1 v]
    generalize hQ : sf_Pasts_paidAlone _ _ = Q0
    have e1 : gf_Pasts_depth Q0 = gf_Pasts_depth Q := by subst hQ; rfl
    have e2 : gf_Pasts_guesser Q0 = gf_Pasts_guesser Q := by subst hQ; rfl
    have e3 : gf_Pasts_past Q0 = gf_Pasts_past Q := by subst hQ; rfl
    have a1 : gf_Pasts_zeros Q0 = upd (gf_Pasts_zeros Q) v 0 := by subst hQ; rfl
    have a2 : gf_Pasts_ones Q0 = upd (gf_Pasts_ones Q) v 0 := by subst hQ; rfl
    have a3 : gf_Pasts_weights Q0 = upd (gf_Pasts_weights Q) v 32768 := by subst hQ; rfl
    have a4 : gf_Pasts_paidAlone Q0 = upd (gf_Pasts_paidAlone Q) v 0 := by subst hQ; rfl
    obtain ⟨Q1, f1, f2, f3, f4, f5, f6⟩ := ih (v + 1) n Q0 (by omega) (by rw [e1]; exact hq)
    refine ⟨Q1, f1, (f2.trans e1).trans hq, f3.trans e2, f4.trans e3, fun i h1 h2 => ?_, fun i h1 => ?_⟩
    · by_cases hi : i = v
      · obtain ⟨g1, g2, g3, g4⟩ := f6 i (by omega)
        rw [g1, g2, g3, g4, a1, a2, a3, a4, hi]
        simp [upd]
      · exact f5 i (by omega) h2
    · obtain ⟨g1, g2, g3, g4⟩ := f6 i (by omega)
      rw [g1, g2, g3, g4, a1, a2, a3, a4]
      simp [upd, show ¬ i = v by omega]
theorem be_e {d g : Nat} (P : tt_Pasts) (hd6 : d ≤ 6) (hg : g ≤ 3) : ∃ Q, fn_X2_begin P (nI d) (nI g) = some Q ∧ RP d (nI g) 0 z0_ z0_ w0_ z0_ Q := by
  have h128 := p_128 hd6
  have h2 : 2 ≤ 2 ^ (d + 1) := by
    have := Nat.pow_le_pow_right (n := 2) (by decide) (show 1 ≤ d + 1 by omega)
    simpa using this
  unfold fn_X2_begin
  rw [kp_e, bd_s, kp_6 d (by omega), lt_v, kp_e, bd_s, kp_3 g (by omega), lt_v, lt_v, show fn_X8_nodeOf (0 : Int32) (0 : Int32) = some (nI 1) by decide +kernel, bd_s]
  generalize hQ : sf_Pasts_past _ _ = Q0
  have e1 : gf_Pasts_depth Q0 = nI d := by subst hQ; rfl
  have e2 : gf_Pasts_guesser Q0 = nI g := by subst hQ; rfl
  have e3 : gf_Pasts_past Q0 = nI 0 := by subst hQ; exact nI_0.symm
  rw [show fu_ = (4999 - (2 ^ (d + 1) - 1)) + (2 ^ (d + 1) - 1) + 1 by unfold fu_; omega]
  obtain ⟨Q1, f1, f2, f3, f4, f5, -⟩ := be_l (d := d) (fun S => bd_ (fn_X2_lookAhead S) fun P_21 => some P_21) hd6 (2 ^ (d + 1) - 1) 1 (4999 - (2 ^ (d + 1) - 1)) Q0 (by omega) e1
  obtain ⟨Q2, g1, g2⟩ := la_e (h := 0) (P := Q1) (g := nI g) (z := z0_) (o := z0_) (w := w0_) (c := z0_) hd6 (by decide) ⟨by rw [f2, e1], by rw [f3, e2], by rw [f4, e3]⟩ (fun v a b => f5 v a b)
  refine ⟨Q2, ?_, g2⟩
  rw [f1, g1, bd_s]
-- bits
theorem bo_l (k : Int32 → Int32 → Option Int32) (x0 : Int32) : ∀ (j n : Nat) (x1 : Int32), j < 100 → ∃ r, fl_X8_bitsOf_6 k (n + j + 1) x0 x1 (nI j) = k x0 r := by
  intro j
  induction j with
  | zero =>
    intro n x1 _
    refine ⟨x1, ?_⟩
    rw [fl_X8_bitsOf_6, if_pos (by rw [nI_0]; exact Int32.le_refl _)]
  | succ j ih =>
    intro n x1 hj
    rw [show n + (j + 1) + 1 = (n + j + 1) + 1 by omega, fl_X8_bitsOf_6, if_neg (nI_nle (by omega) (by omega))]
    split
    · rw [lt_v, lt_v, na_m1]
      exact ih n _ (by omega)
    · exact ⟨x1, rfl⟩
def bt_ (p : Int32) : Int32 := (fn_X8_bitsOf p).getD 0
theorem bt_e (p : Int32) : fn_X8_bitsOf p = some (bt_ p) := by
  have h : ∃ r, fn_X8_bitsOf p = some r := by
    unfold fn_X8_bitsOf
    obtain ⟨r, hr⟩ := bo_l (fun x0 x1 => fn_X8_bitsOf_26 x0 x1) p 15 4984 15 (by decide)
    rw [show fu_ = 4984 + 15 + 1 from rfl, show (15 : Int32) = nI 15 from rfl]
    rw [show (15 : Int32) = nI 15 from rfl] at hr
    rw [hr]
    unfold fn_X8_bitsOf_26 fn_X8_bitsOf_44
    split <;> exact ⟨_, rfl⟩
  obtain ⟨r, hr⟩ := h
  unfold bt_
  rw [hr]
  rfl
