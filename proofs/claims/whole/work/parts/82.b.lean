/-! ===== pure part: Pasts ===== -/
theorem gd_p {β : Type} {P : Prop} [Decidable P] (h : P) (x : Option β) : gd_ P x = x := if_pos h
theorem bd_s {α β : Type} (a : α) (f : α → Option β) : bd_ (some a) f = f a := rfl
theorem b2_s {α γ β : Type} (a : α) (c : γ) (f : α → γ → Option β) : b2_ (some (a, c)) f = f a c := rfl
theorem b3_s {α γ δ β : Type} (a : α) (c : γ) (d : δ) (f : α → γ → δ → Option β) : b3_ (some (a, c, d)) f = f a c d := rfl
theorem lt_v {α β : Type} (a : α) (f : α → β) : lt_ a f = f a := rfl
def ow_ (g : Int32) (z o : Nat → Int32) (h l : Nat) : Int32 := op_ g (z (vN l h)) (o (vN l h))
def mx1_ (w own up : Int32) : Int32 := kp_ ((w.toInt64 * own.toInt64 + (65536 - w.toInt64) * up.toInt64) / 65536) 1 65535
def mx_ (g : Int32) (z o w : Nat → Int32) (h d : Nat) : Nat → Int32
  | 0 => ow_ g z o h d
  | j + 1 => mx1_ (w (vN (d - (j + 1)) h)) (ow_ g z o h (d - (j + 1))) (mx_ g z o w h d j)
theorem mx_s {g : Int32} {z o w : Nat → Int32} {h d l : Nat} (hl : l < d) : mx_ g z o w h d (d - l) = mx1_ (w (vN l h)) (ow_ g z o h l) (mx_ g z o w h d (d - (l + 1))) := by
  obtain ⟨j, hj⟩ : ∃ j, d - l = j + 1 := ⟨d - l - 1, by omega⟩
  rw [hj, show d - (l + 1) = j by omega, mx_, show d - (j + 1) = l by omega]
/-- the same nodes -/
def nd_ (d : Nat) (z o w c : Nat → Int32) (P : tt_Pasts) : Prop := ∀ v, 1 ≤ v → v < 2 ^ (d + 1) → gf_Pasts_zeros P v = z v ∧ gf_Pasts_ones P v = o v ∧ gf_Pasts_weights P v = w v ∧ gf_Pasts_paidAlone P v = c v
def hd_ (d : Nat) (g : Int32) (h : Nat) (P : tt_Pasts) : Prop := gf_Pasts_depth P = nI d ∧ gf_Pasts_guesser P = g ∧ gf_Pasts_past P = nI h
def RP (d : Nat) (g : Int32) (h : Nat) (z o w c : Nat → Int32) (P : tt_Pasts) : Prop := hd_ d g h P ∧ nd_ d z o w c P ∧ ∀ l, l ≤ d → gf_Pasts_owns P l = ow_ g z o h l ∧ gf_Pasts_guesses P l = mx_ g z o w h d (d - l)
def sm_ (P Q : tt_Pasts) : Prop := gf_Pasts_zeros Q = gf_Pasts_zeros P ∧ gf_Pasts_ones Q = gf_Pasts_ones P ∧ gf_Pasts_weights Q = gf_Pasts_weights P ∧ gf_Pasts_paidAlone Q = gf_Pasts_paidAlone P ∧ gf_Pasts_depth Q = gf_Pasts_depth P ∧ gf_Pasts_guesser Q = gf_Pasts_guesser P ∧ gf_Pasts_past Q = gf_Pasts_past P
theorem vN_r {d l h : Nat} (hl : l ≤ d) : 1 ≤ vN l h ∧ vN l h < 2 ^ (d + 1) := ⟨Nat.le_trans (Nat.one_le_two_pow) vN_ge, Nat.lt_of_lt_of_le vN_lt (Nat.pow_le_pow_right (by decide) (by omega))⟩
theorem mix_e {d : Nat} {h : Nat} {z o w c : Nat → Int32} {Q : tt_Pasts} (hd6 : d ≤ 6) (hn : nd_ d z o w c Q) {l : Nat} (hl : l < d) {a b : Int32} (ha : gf_Pasts_owns Q l = a) (hb : gf_Pasts_guesses Q (l + 1) = b) : fn_X2_mix Q (nI (vN l h)) (nI l) = some (mx1_ (w (vN l h)) a b) := by
  have hv := vN_128 (l := l) (h := h) (by omega)
  have hr := vN_r (h := h) (Nat.le_of_lt hl)
  unfold fn_X2_mix
  have e1 : nI l + (1 : Int32) = nI (l + 1) := nI_1 l
  rw [gd_p (na_ix hv (by decide)), lt_v, gd_p (na_ix (show l < 7 by omega) (by decide)), e1, gd_p (na_ix (show l + 1 < 7 by omega) (by decide)), lt_v, kp_e, bd_s, na_cl (by omega), na_cl (by omega), na_cl (by omega), (hn _ hr.1 hr.2).2.2.1, ha, hb]
  rfl
theorem la_s {d : Nat} {g : Int32} {h : Nat} {z o w c : Nat → Int32} {Q : tt_Pasts} (k : tt_Pasts → Option tt_Pasts) (n : Nat) (hd6 : d ≤ 6) (hh : h < 64) (hH : hd_ d g h Q) (hn : nd_ d z o w c Q) {l : Nat} (hl : l ≤ d) (hg : l < d → gf_Pasts_guesses Q (l + 1) = mx_ g z o w h d (d - (l + 1))) :
    ∃ Q1, fl_X2_lookAhead_5 k (n + 1) Q (nI l) = fl_X2_lookAhead_5 k n Q1 (nI l + (-1 : Int32)) ∧ sm_ Q Q1 ∧ gf_Pasts_owns Q1 = upd (gf_Pasts_owns Q) l (ow_ g z o h l) ∧ gf_Pasts_guesses Q1 = upd (gf_Pasts_guesses Q) l (mx_ g z o w h d (d - l)) := by
  have hv := vN_128 (l := l) (h := h) (by omega)
  have hr := vN_r (h := h) hl
  obtain ⟨h1, h2, h3⟩ := hH
  obtain ⟨n1, n2, n3, n4⟩ := hn _ hr.1 hr.2
  rw [fl_X2_lookAhead_5, if_neg (nI_pos (by omega)), h3, nd_e (by omega) hh, bd_s, gd_p (na_ix hv (by decide)), gd_p (na_ix hv (by decide)), op_e, bd_s, gd_p (na_ix (show l < 7 by omega) (by decide)), lt_v]
  have c1 : (nI l).toNatClampNeg = l := na_cl (by omega)
  have c2 : (nI (vN l h)).toNatClampNeg = vN l h := na_cl (by omega)
  simp only [c1, c2, n1, n2, h2]
  generalize hQ : sf_Pasts_owns Q (upd (gf_Pasts_owns Q) l (op_ g (z (vN l h)) (o (vN l h)))) = Q0
  have s0 : sm_ Q Q0 := by subst hQ; exact ⟨rfl, rfl, rfl, rfl, rfl, rfl, rfl⟩
  have s1 : gf_Pasts_owns Q0 = upd (gf_Pasts_owns Q) l (ow_ g z o h l) := by subst hQ; rfl
  have s2 : gf_Pasts_guesses Q0 = gf_Pasts_guesses Q := by subst hQ; rfl
  have s3 : gf_Pasts_owns Q0 l = ow_ g z o h l := by rw [s1]; simp [upd]
  obtain ⟨t1, t2, t3, t4, t5, t6, t7⟩ := s0
  have fin : ∀ x : Int32, x = mx_ g z o w h d (d - l) → ∃ Q1, fn_X2_lookAhead_71 (fl_X2_lookAhead_5 k n) Q0 (nI l) (nI l) x = fl_X2_lookAhead_5 k n Q1 (nI l + (-1 : Int32)) ∧ sm_ Q Q1 ∧ gf_Pasts_owns Q1 = upd (gf_Pasts_owns Q) l (ow_ g z o h l) ∧ gf_Pasts_guesses Q1 = upd (gf_Pasts_guesses Q) l (mx_ g z o w h d (d - l)) := by
    intro x hx
    unfold fn_X2_lookAhead_71
    rw [gd_p (na_ix (show l < 7 by omega) (by decide)), lt_v, lt_v, na_cl (by omega), s2, hx]
    exact ⟨_, rfl, ⟨t1, t2, t3, t4, t5, t6, t7⟩, s1, rfl⟩
  simp only [t5, h1]
  by_cases hld : l = d
  · subst hld
    rw [if_pos (Int32.le_refl _), gd_p (na_ix (show l < 7 by omega) (by decide)), s3]
    exact fin _ (by rw [Nat.sub_self]; rfl)
  · have hlt : l < d := by omega
    have hg1 : gf_Pasts_guesses Q0 (l + 1) = mx_ g z o w h d (d - (l + 1)) := by rw [s2]; exact hg hlt
    have em : fn_X2_mix Q0 (nI (vN l h)) (nI l) = some (mx_ g z o w h d (d - l)) := by
      rw [mx_s hlt]
      exact mix_e (c := c) hd6 (fun v a b => by rw [t1, t2, t3, t4]; exact hn v a b) hlt s3 hg1
    rw [if_neg (nI_ge hlt (by omega)), em, bd_s]
    exact fin _ rfl
theorem la_l {d : Nat} {g : Int32} {h : Nat} {z o w c : Nat → Int32} (k : tt_Pasts → Option tt_Pasts) (hd6 : d ≤ 6) (hh : h < 64) : ∀ l, l ≤ d → ∀ (n : Nat) (Q : tt_Pasts), hd_ d g h Q → nd_ d z o w c Q → (l < d → gf_Pasts_guesses Q (l + 1) = mx_ g z o w h d (d - (l + 1))) →
    ∃ Q1, fl_X2_lookAhead_5 k (n + l + 2) Q (nI l) = k Q1 ∧ sm_ Q Q1 ∧ (∀ i, i ≤ l → gf_Pasts_owns Q1 i = ow_ g z o h i ∧ gf_Pasts_guesses Q1 i = mx_ g z o w h d (d - i)) ∧ ∀ i, l < i → gf_Pasts_owns Q1 i = gf_Pasts_owns Q i ∧ gf_Pasts_guesses Q1 i = gf_Pasts_guesses Q i := by
  intro l
  induction l with
  | zero =>
    intro hl n Q hH hn hg
    obtain ⟨Q1, e1, s1, o1, g1⟩ := la_s k (n + 0 + 1) hd6 hh hH hn hl hg
    refine ⟨Q1, ?_, s1, fun i hi => ?_, fun i hi => ?_⟩
    · rw [e1, fl_X2_lookAhead_5, if_pos na_0m]
    · obtain rfl : i = 0 := by omega
      rw [o1, g1]
      simp [upd]
    · rw [o1, g1]
      simp [upd, show ¬ i = 0 by omega]
  | succ l ih =>
    intro hl n Q hH hn hg
    obtain ⟨Q1, e1, s1, o1, g1⟩ := la_s k (n + l + 2) hd6 hh hH hn hl hg
    obtain ⟨t1, t2, t3, t4, t5, t6, t7⟩ := id s1
    obtain ⟨Q2, e2, s2, a2, b2⟩ := ih (by omega) n Q1 ⟨by rw [t5]; exact hH.1, by rw [t6]; exact hH.2.1, by rw [t7]; exact hH.2.2⟩ (fun v a b => by rw [t1, t2, t3, t4]; exact hn v a b) (fun _ => by rw [g1]; simp [upd])
    obtain ⟨u1, u2, u3, u4, u5, u6, u7⟩ := s2
    refine ⟨Q2, ?_, ⟨u1.trans t1, u2.trans t2, u3.trans t3, u4.trans t4, u5.trans t5, u6.trans t6, u7.trans t7⟩, fun i hi => ?_, fun i hi => ?_⟩
    · rw [show n + (l + 1) + 2 = (n + l + 2) + 1 by omega, e1, na_m1, e2]
    · by_cases h1 : i ≤ l
      · exact a2 i h1
      · obtain rfl : i = l + 1 := by omega
        rw [(b2 _ (by omega)).1, (b2 _ (by omega)).2, o1, g1]
        simp [upd]
    · rw [(b2 i (by omega)).1, (b2 i (by omega)).2, o1, g1]
      simp [upd, show ¬ i = l + 1 by omega]
theorem la_e {d : Nat} {g : Int32} {h : Nat} {z o w c : Nat → Int32} {P : tt_Pasts} (hd6 : d ≤ 6) (hh : h < 64) (hH : hd_ d g h P) (hn : nd_ d z o w c P) : ∃ Q, fn_X2_lookAhead P = some Q ∧ RP d g h z o w c Q := by
  obtain ⟨Q, e1, s1, a1, -⟩ := la_l (z := z) (o := o) (w := w) (c := c) (g := g) (fun S => some S) hd6 hh d (Nat.le_refl d) (4998 - d) P hH hn (fun x => absurd x (by omega))
  obtain ⟨t1, t2, t3, t4, t5, t6, t7⟩ := s1
  refine ⟨Q, ?_, ⟨by rw [t5]; exact hH.1, by rw [t6]; exact hH.2.1, by rw [t7]; exact hH.2.2⟩, fun v a b => by rw [t1, t2, t3, t4]; exact hn v a b, fun l hl => a1 l hl⟩
  unfold fn_X2_lookAhead
  rw [lt_v, hH.1, show fu_ = 4998 - d + d + 2 by unfold fu_; omega]
  exact e1
