/-! ===== pure part: Pasts.take ===== -/
def tw_ (W a b : Int32) : Int32 := kp_ (qt_ (65536 * (W.toInt64 * a.toInt64)) (W.toInt64 * a.toInt64 + (65536 - W.toInt64) * b.toInt64)) 64 65472
def t0_ (s a : Int32) : Int32 := if s = 1 then a else a + 1
def t1_ (s b : Int32) : Int32 := if s = 1 then b + 1 else b
def tz_ (s a b : Int32) : Int32 := if 60 < t0_ s a ∨ 60 < t1_ s b then t0_ s a / 2 else t0_ s a
def to_ (s a b : Int32) : Int32 := if 60 < t0_ s a ∨ 60 < t1_ s b then t1_ s b / 2 else t1_ s b
theorem ta_e {Q : tt_Pasts} {v : Nat} (s : Int32) (hv : v < 128) : ∃ Q1, fn_X2_tally Q (nI v) s = some Q1 ∧ gf_Pasts_zeros Q1 = upd (gf_Pasts_zeros Q) v (tz_ s (gf_Pasts_zeros Q v) (gf_Pasts_ones Q v)) ∧ gf_Pasts_ones Q1 = upd (gf_Pasts_ones Q) v (to_ s (gf_Pasts_zeros Q v) (gf_Pasts_ones Q v)) ∧ gf_Pasts_weights Q1 = gf_Pasts_weights Q ∧ gf_Pasts_paidAlone Q1 = gf_Pasts_paidAlone Q ∧ gf_Pasts_depth Q1 = gf_Pasts_depth Q ∧ gf_Pasts_guesser Q1 = gf_Pasts_guesser Q ∧ gf_Pasts_past Q1 = gf_Pasts_past Q ∧ gf_Pasts_owns Q1 = gf_Pasts_owns Q ∧ gf_Pasts_guesses Q1 = gf_Pasts_guesses Q := by
  have hx : ix_ (nI v) 128 := na_ix hv (by decide)
  have c1 : (nI v).toNatClampNeg = v := na_cl (by omega)
  have us : ∀ f : Nat → Int32, upd f v (f v) = f := fun f => by funext j; by_cases hj : j = v <;> simp [upd, hj]
  have key : ∀ Q0 : tt_Pasts, gf_Pasts_zeros Q0 = upd (gf_Pasts_zeros Q) v (t0_ s (gf_Pasts_zeros Q v)) → gf_Pasts_ones Q0 = upd (gf_Pasts_ones Q) v (t1_ s (gf_Pasts_ones Q v)) → gf_Pasts_weights Q0 = gf_Pasts_weights Q → gf_Pasts_paidAlone Q0 = gf_Pasts_paidAlone Q → gf_Pasts_depth Q0 = gf_Pasts_depth Q → gf_Pasts_guesser Q0 = gf_Pasts_guesser Q → gf_Pasts_past Q0 = gf_Pasts_past Q → gf_Pasts_owns Q0 = gf_Pasts_owns Q → gf_Pasts_guesses Q0 = gf_Pasts_guesses Q →
      ∃ Q1, fn_X2_tally_28 Q0 (nI v) = some Q1 ∧ gf_Pasts_zeros Q1 = upd (gf_Pasts_zeros Q) v (tz_ s (gf_Pasts_zeros Q v) (gf_Pasts_ones Q v)) ∧ gf_Pasts_ones Q1 = upd (gf_Pasts_ones Q) v (to_ s (gf_Pasts_zeros Q v) (gf_Pasts_ones Q v)) ∧ gf_Pasts_weights Q1 = gf_Pasts_weights Q ∧ gf_Pasts_paidAlone Q1 = gf_Pasts_paidAlone Q ∧ gf_Pasts_depth Q1 = gf_Pasts_depth Q ∧ gf_Pasts_guesser Q1 = gf_Pasts_guesser Q ∧ gf_Pasts_past Q1 = gf_Pasts_past Q ∧ gf_Pasts_owns Q1 = gf_Pasts_owns Q ∧ gf_Pasts_guesses Q1 = gf_Pasts_guesses Q := by
    intro Q0 a1 a2 a3 a4 a5 a6 a7 a8 a9
    have z1 : gf_Pasts_zeros Q0 v = t0_ s (gf_Pasts_zeros Q v) := by rw [a1]; simp [upd]
    have z2 : gf_Pasts_ones Q0 v = t1_ s (gf_Pasts_ones Q v) := by rw [a2]; simp [upd]
    have half : (60 < t0_ s (gf_Pasts_zeros Q v) ∨ 60 < t1_ s (gf_Pasts_ones Q v)) → ∃ Q1, fn_X2_tally_50 Q0 (nI v) = some Q1 ∧ gf_Pasts_zeros Q1 = upd (gf_Pasts_zeros Q) v (tz_ s (gf_Pasts_zeros Q v) (gf_Pasts_ones Q v)) ∧ gf_Pasts_ones Q1 = upd (gf_Pasts_ones Q) v (to_ s (gf_Pasts_zeros Q v) (gf_Pasts_ones Q v)) ∧ gf_Pasts_weights Q1 = gf_Pasts_weights Q ∧ gf_Pasts_paidAlone Q1 = gf_Pasts_paidAlone Q ∧ gf_Pasts_depth Q1 = gf_Pasts_depth Q ∧ gf_Pasts_guesser Q1 = gf_Pasts_guesser Q ∧ gf_Pasts_past Q1 = gf_Pasts_past Q ∧ gf_Pasts_owns Q1 = gf_Pasts_owns Q ∧ gf_Pasts_guesses Q1 = gf_Pasts_guesses Q := by
      intro hh
      unfold fn_X2_tally_50
      simp only [gd_p hx, lt_v, c1]
      refine ⟨_, rfl, ?_, ?_, a3, a4, a5, a6, a7, a8, a9⟩
      · show upd (gf_Pasts_zeros Q0) v (gf_Pasts_zeros Q0 v / 2) = _
        rw [z1, a1, tz_, if_pos hh]
        funext j
        by_cases hj : j = v <;> simp [upd, hj]
      · show upd (gf_Pasts_ones Q0) v (gf_Pasts_ones Q0 v / 2) = _
        rw [z2, a2, to_, if_pos hh]
        funext j
        by_cases hj : j = v <;> simp [upd, hj]
    unfold fn_X2_tally_28
    rw [gd_p hx]
    simp only [c1, z1, z2]
    by_cases h1 : 60 < t0_ s (gf_Pasts_zeros Q v)
    · rw [if_pos h1]
      exact half (Or.inl h1)
    · rw [if_neg h1, gd_p hx]
      by_cases h2 : t1_ s (gf_Pasts_ones Q v) ≤ 60
      · rw [if_pos h2]
        have hh : ¬ (60 < t0_ s (gf_Pasts_zeros Q v) ∨ 60 < t1_ s (gf_Pasts_ones Q v)) := by
          rintro (x | x)
          · exact h1 x
          · rw [Int32.lt_iff_toInt_lt] at x
            rw [Int32.le_iff_toInt_le] at h2
            omega
        refine ⟨Q0, rfl, ?_, ?_, a3, a4, a5, a6, a7, a8, a9⟩
        · rw [a1, tz_, if_neg hh]
        · rw [a2, to_, if_neg hh]
      · rw [if_neg h2]
        refine half (Or.inr ?_)
        rw [Int32.le_iff_toInt_le] at h2
        rw [Int32.lt_iff_toInt_lt]
        omega
  unfold fn_X2_tally
  by_cases hs : s = 1
  · rw [if_pos hs, gd_p hx, lt_v, gd_p hx, lt_v]
    simp only [c1]
    refine key _ ?_ ?_ rfl rfl rfl rfl rfl rfl rfl
    · rw [t0_, if_pos hs, us]; rfl
    · rw [t1_, if_pos hs]; rfl
  · rw [if_neg hs, gd_p hx, lt_v, gd_p hx, lt_v]
    simp only [c1]
    refine key _ ?_ ?_ rfl rfl rfl rfl rfl rfl rfl
    · rw [t0_, if_neg hs]; rfl
    · rw [t1_, if_neg hs, us]; rfl
theorem wa_e {Q : tt_Pasts} {v l : Nat} (s : Int32) (hv : v < 128) (hl : l < 6) : ∃ Q1, fn_X2_weighAnew Q (nI v) (nI l) s = some Q1 ∧ gf_Pasts_weights Q1 = upd (gf_Pasts_weights Q) v (tw_ (gf_Pasts_weights Q v) (of_ s (gf_Pasts_owns Q l)) (of_ s (gf_Pasts_guesses Q (l + 1)))) ∧ gf_Pasts_zeros Q1 = gf_Pasts_zeros Q ∧ gf_Pasts_ones Q1 = gf_Pasts_ones Q ∧ gf_Pasts_paidAlone Q1 = gf_Pasts_paidAlone Q ∧ gf_Pasts_depth Q1 = gf_Pasts_depth Q ∧ gf_Pasts_guesser Q1 = gf_Pasts_guesser Q ∧ gf_Pasts_past Q1 = gf_Pasts_past Q ∧ gf_Pasts_owns Q1 = gf_Pasts_owns Q ∧ gf_Pasts_guesses Q1 = gf_Pasts_guesses Q := by
  have hx : ix_ (nI v) 128 := na_ix hv (by decide)
  have c1 : (nI v).toNatClampNeg = v := na_cl (by omega)
  have c2 : (nI l).toNatClampNeg = l := na_cl (by omega)
  have c3 : (nI (l + 1)).toNatClampNeg = l + 1 := na_cl (by omega)
  unfold fn_X2_weighAnew
  rw [show nI l + (1 : Int32) = nI (l + 1) from nI_1 l]
  simp only [gd_p hx, lt_v, c1, gd_p (na_ix (show l < 7 by omega) (by decide)), of_e, bd_s, c2, gd_p (na_ix (show l + 1 < 7 by omega) (by decide)), c3, qt_e, kp_e]
  exact ⟨_, rfl, rfl, rfl, rfl, rfl, rfl, rfl, rfl, rfl, rfl⟩
abbrev s4_ : Type := (Nat → Int32) × (Nat → Int32) × (Nat → Int32) × (Nat → Int32)
def s1_ (g : Int32) (h d : Nat) (s own up : Int32) (l : Nat) (q : s4_) : s4_ :=
  (upd q.1 (vN l h) (tz_ s (q.1 (vN l h)) (q.2.1 (vN l h))), upd q.2.1 (vN l h) (to_ s (q.1 (vN l h)) (q.2.1 (vN l h))), if l < d then upd q.2.2.1 (vN l h) (tw_ (q.2.2.1 (vN l h)) (of_ s own) (of_ s up)) else q.2.2.1, upd q.2.2.2 (vN l h) (q.2.2.2 (vN l h) + bt_ (of_ s own)))
def it_ (g : Int32) (h d : Nat) (s : Int32) (q0 : s4_) : Nat → s4_
  | 0 => q0
  | l + 1 => s1_ g h d s (ow_ g q0.1 q0.2.1 h l) (mx_ g q0.1 q0.2.1 q0.2.2.1 h d (d - (l + 1))) l (it_ g h d s q0 l)
theorem nd_upd {d v : Nat} {q : s4_} {Q : tt_Pasts} {Q1 : tt_Pasts} (hn : nd_ d q.1 q.2.1 q.2.2.1 q.2.2.2 Q) {a b e : Int32} (h1 : gf_Pasts_zeros Q1 = upd (gf_Pasts_zeros Q) v a) (h2 : gf_Pasts_ones Q1 = upd (gf_Pasts_ones Q) v b) {w1 : Nat → Int32} (h3 : ∀ i, 1 ≤ i → i < 2 ^ (d + 1) → gf_Pasts_weights Q1 i = w1 i) (h4 : gf_Pasts_paidAlone Q1 = upd (gf_Pasts_paidAlone Q) v e) : nd_ d (upd q.1 v a) (upd q.2.1 v b) w1 (upd q.2.2.2 v e) Q1 := by
  intro i hi1 hi2
  obtain ⟨n1, n2, n3, n4⟩ := hn i hi1 hi2
  rw [h1, h2, h4]
  refine ⟨?_, ?_, h3 i hi1 hi2, ?_⟩
  · by_cases hj : i = v <;> simp [upd, hj, n1]
  · by_cases hj : i = v <;> simp [upd, hj, n2]
  · by_cases hj : i = v <;> simp [upd, hj, n4]
theorem tk_s {d : Nat} {g : Int32} {h : Nat} {q : s4_} {Q : tt_Pasts} (k : tt_Pasts → Int32 → Option tt_Pasts) (n : Nat) (s : Int32) {own up : Int32} (hd6 : d ≤ 6) (hh : h < 64) (hH : hd_ d g h Q) (hn : nd_ d q.1 q.2.1 q.2.2.1 q.2.2.2 Q) {l : Nat} (hl : l ≤ d) (ho : gf_Pasts_owns Q l = own) (hg : l < d → gf_Pasts_guesses Q (l + 1) = up) :
    ∃ Q1, fl_X2_take_2 k (n + 1) Q s (nI l) = fl_X2_take_2 k n Q1 s (nI (l + 1)) ∧ hd_ d g h Q1 ∧ nd_ d (s1_ g h d s own up l q).1 (s1_ g h d s own up l q).2.1 (s1_ g h d s own up l q).2.2.1 (s1_ g h d s own up l q).2.2.2 Q1 ∧ gf_Pasts_owns Q1 = gf_Pasts_owns Q ∧ gf_Pasts_guesses Q1 = gf_Pasts_guesses Q := by
  have hv := vN_128 (l := l) (h := h) (by omega)
  have hr := vN_r (h := h) hl
  obtain ⟨h1, h2, h3⟩ := hH
  obtain ⟨n1, n2, n3, n4⟩ := hn _ hr.1 hr.2
  have hx : ix_ (nI (vN l h)) 128 := na_ix hv (by decide)
  have c1 : (nI (vN l h)).toNatClampNeg = vN l h := na_cl (by omega)
  have c2 : (nI l).toNatClampNeg = l := na_cl (by omega)
  rw [fl_X2_take_2]
  simp only [h1, if_neg (nI_nlt hl (show d < 2 ^ 31 by omega)), h3, nd_e (show l ≤ 6 by omega) hh, bd_s, gd_p hx, gd_p (na_ix (show l < 7 by omega) (by decide)), of_e, bt_e, lt_v, c1, c2, ho, n4]
  generalize hQ : sf_Pasts_paidAlone Q _ = Q0
  have e1 : gf_Pasts_depth Q0 = nI d := by subst hQ; exact h1
  have e2 : gf_Pasts_guesser Q0 = g := by subst hQ; exact h2
  have e3 : gf_Pasts_past Q0 = nI h := by subst hQ; exact h3
  have a1 : gf_Pasts_zeros Q0 = gf_Pasts_zeros Q := by subst hQ; rfl
  have a2 : gf_Pasts_ones Q0 = gf_Pasts_ones Q := by subst hQ; rfl
  have a3 : gf_Pasts_weights Q0 = gf_Pasts_weights Q := by subst hQ; rfl
  have a4 : gf_Pasts_paidAlone Q0 = upd (gf_Pasts_paidAlone Q) (vN l h) (q.2.2.2 (vN l h) + bt_ (of_ s own)) := by subst hQ; rfl
  have a5 : gf_Pasts_owns Q0 = gf_Pasts_owns Q := by subst hQ; rfl
  have a6 : gf_Pasts_guesses Q0 = gf_Pasts_guesses Q := by subst hQ; rfl
  have fin : ∀ Q2 : tt_Pasts, gf_Pasts_zeros Q2 = gf_Pasts_zeros Q → gf_Pasts_ones Q2 = gf_Pasts_ones Q → (∀ i, 1 ≤ i → i < 2 ^ (d + 1) → gf_Pasts_weights Q2 i = (s1_ g h d s own up l q).2.2.1 i) → gf_Pasts_paidAlone Q2 = gf_Pasts_paidAlone Q0 → gf_Pasts_depth Q2 = nI d → gf_Pasts_guesser Q2 = g → gf_Pasts_past Q2 = nI h → gf_Pasts_owns Q2 = gf_Pasts_owns Q → gf_Pasts_guesses Q2 = gf_Pasts_guesses Q →
      ∃ Q1, fn_X2_take_56 (fl_X2_take_2 k n) Q2 s (nI l) (nI (vN l h)) = fl_X2_take_2 k n Q1 s (nI (l + 1)) ∧ hd_ d g h Q1 ∧ nd_ d (s1_ g h d s own up l q).1 (s1_ g h d s own up l q).2.1 (s1_ g h d s own up l q).2.2.1 (s1_ g h d s own up l q).2.2.2 Q1 ∧ gf_Pasts_owns Q1 = gf_Pasts_owns Q ∧ gf_Pasts_guesses Q1 = gf_Pasts_guesses Q := by
    intro Q2 b1 b2 b3 b4 b5 b6 b7 b8 b9
    obtain ⟨Q1, f0, f1, f2, f3, f4, f5, f6, f7, f8, f9⟩ := ta_e (Q := Q2) s hv
    refine ⟨Q1, ?_, ⟨by rw [f5, b5], by rw [f6, b6], by rw [f7, b7]⟩, ?_, by rw [f8, b8], by rw [f9, b9]⟩
    · unfold fn_X2_take_56
      rw [f0, bd_s, lt_v]
      rw [show nI l + (1 : Int32) = nI (l + 1) from nI_1 l]
    · refine nd_upd (Q := Q) hn ?_ ?_ (fun i hi1 hi2 => by rw [f3]; exact b3 i hi1 hi2) ?_
      · rw [f1, b1, b2, n1, n2]
      · rw [f2, b1, b2, n1, n2]
      · rw [f4, b4, a4]
  simp only [e1]
  by_cases hld : l = d
  · subst hld
    rw [if_pos (Int32.le_refl _)]
    refine fin Q0 a1 a2 (fun i hi1 hi2 => ?_) rfl e1 e2 e3 a5 a6
    rw [a3, (hn i hi1 hi2).2.2.1]
    show _ = (if l < l then _ else _ : Nat → Int32) i
    rw [if_neg (by omega)]
  · have hlt : l < d := by omega
    obtain ⟨Q2, f0, f1, f2, f3, f4, f5, f6, f7, f8, f9⟩ := wa_e (Q := Q0) s hv (show l < 6 by omega)
    rw [if_neg (nI_ge hlt (by omega)), f0, bd_s]
    refine fin Q2 (by rw [f2, a1]) (by rw [f3, a2]) (fun i hi1 hi2 => ?_) f4 (by rw [f5, e1]) (by rw [f6, e2]) (by rw [f7, e3]) (by rw [f8, a5]) (by rw [f9, a6])
    rw [f1, a3, a5, a6, ho, hg hlt]
    show _ = (if l < d then _ else _ : Nat → Int32) i
    rw [if_pos hlt, n3]
    by_cases hj : i = vN l h <;> simp [upd, hj, (hn i hi1 hi2).2.2.1]
theorem tk_l {d : Nat} {g : Int32} {h : Nat} {q0 : s4_} (k : tt_Pasts → Int32 → Option tt_Pasts) (s : Int32) (hd6 : d ≤ 6) (hh : h < 64) : ∀ (m l n : Nat) (Q : tt_Pasts), l + m = d + 1 → hd_ d g h Q → nd_ d (it_ g h d s q0 l).1 (it_ g h d s q0 l).2.1 (it_ g h d s q0 l).2.2.1 (it_ g h d s q0 l).2.2.2 Q → (∀ i, i ≤ d → gf_Pasts_owns Q i = ow_ g q0.1 q0.2.1 h i ∧ gf_Pasts_guesses Q i = mx_ g q0.1 q0.2.1 q0.2.2.1 h d (d - i)) →
    ∃ Q1, fl_X2_take_2 k (n + m + 1) Q s (nI l) = k Q1 s ∧ hd_ d g h Q1 ∧ nd_ d (it_ g h d s q0 (d + 1)).1 (it_ g h d s q0 (d + 1)).2.1 (it_ g h d s q0 (d + 1)).2.2.1 (it_ g h d s q0 (d + 1)).2.2.2 Q1 := by
  intro m
  induction m with
  | zero =>
    intro l n Q hl hH hn ho
    obtain rfl : l = d + 1 := by omega
    refine ⟨Q, ?_, hH, hn⟩
    rw [fl_X2_take_2, hH.1, if_pos (nI_lt (by omega) (by omega))]
  | succ m ih =>
    intro l n Q hl hH hn ho
    obtain ⟨Q1, e1, h1, n1, o1, g1⟩ := tk_s (own := ow_ g q0.1 q0.2.1 h l) (up := mx_ g q0.1 q0.2.1 q0.2.2.1 h d (d - (l + 1))) k (n + m + 1) s hd6 hh hH hn (show l ≤ d by omega) (ho l (by omega)).1 (fun hlt => (ho (l + 1) (by omega)).2)
    obtain ⟨Q2, e2, h2, n2⟩ := ih (l + 1) n Q1 (by omega) h1 n1 (fun i hi => by rw [o1, g1]; exact ho i hi)
    exact ⟨Q2, by rw [show n + (m + 1) + 1 = n + m + 1 + 1 by omega, e1, e2], h2, n2⟩
theorem sh_p0 : ∀ h, h < 64 → ((nI h <<< ((1 : Int32) &&& 31)) ||| nI 0) &&& 63 = nI (2 * h % 64) := by decide +kernel
theorem sh_p1 : ∀ h, h < 64 → ((nI h <<< ((1 : Int32) &&& 31)) ||| nI 1) &&& 63 = nI ((2 * h + 1) % 64) := by decide +kernel
def bN (s : Int32) : Nat := if s = 1 then 1 else 0
def nx_h (h : Nat) (s : Int32) : Nat := (2 * h + bN s) % 64
theorem nx_lt (h : Nat) (s : Int32) : nx_h h s < 64 := Nat.mod_lt _ (by decide)
theorem sh_p {h : Nat} {s : Int32} (hh : h < 64) (hs : s = 0 ∨ s = 1) : ((nI h <<< ((1 : Int32) &&& 31)) ||| s) &&& 63 = nI (nx_h h s) := by
  rcases hs with rfl | rfl
  · exact sh_p0 h hh
  · exact sh_p1 h hh
theorem tk_e {d : Nat} {g : Int32} {h : Nat} {q : s4_} {P : tt_Pasts} {s : Int32} (hd6 : d ≤ 6) (hh : h < 64) (hs : s = 0 ∨ s = 1) (hR : RP d g h q.1 q.2.1 q.2.2.1 q.2.2.2 P) : ∃ Q, fn_X2_take P s = some Q ∧ RP d g (nx_h h s) (it_ g h d s q (d + 1)).1 (it_ g h d s q (d + 1)).2.1 (it_ g h d s q (d + 1)).2.2.1 (it_ g h d s q (d + 1)).2.2.2 Q := by
  obtain ⟨hH, hn, ho⟩ := hR
  unfold fn_X2_take
  obtain ⟨Q1, e1, h1, n1⟩ := tk_l (q0 := q) (fun (S0 : tt_Pasts) (x1 : Int32) => lt_ ((((gf_Pasts_past S0) <<< ((1 : Int32) &&& 31)) ||| x1) &&& (63 : Int32)) fun y_1 => lt_ (sf_Pasts_past S0 y_1) fun S_19 => bd_ (fn_X2_lookAhead S_19) fun P_20 => some P_20) s hd6 hh (d + 1) 0 (4998 - d) P (by omega) hH hn ho
  rw [show fu_ = 4998 - d + (d + 1) + 1 by unfold fu_; omega, show (0 : Int32) = nI 0 from nI_0.symm, e1, lt_v, lt_v, h1.2.2, sh_p hh hs]
  obtain ⟨Q2, e2, r2⟩ := la_e (P := sf_Pasts_past Q1 (nI (nx_h h s))) hd6 (nx_lt h s) ⟨h1.1, h1.2.1, rfl⟩ (show nd_ d _ _ _ _ (sf_Pasts_past Q1 (nI (nx_h h s))) from n1)
  exact ⟨Q2, by rw [e2, bd_s], r2⟩
