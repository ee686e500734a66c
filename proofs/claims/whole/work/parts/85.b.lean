/-! ===== pure part: keep ===== -/
theorem cp_l {R : tt_Row} {N : Nat} (k : tt_State → Option tt_State) (hN : N ≤ 100) : ∀ (m n f : Nat) (S : tt_State), n + m = N → gf_State_length S = nI N → (∀ i, i < n → gf_State_signs S i = gf_Row_signs R i) → ∃ Q, fl_X4_copyFrom_32 k R (f + m + 1) S (nI n) = k Q ∧ gf_State_length Q = nI N ∧ gf_State_depth Q = gf_State_depth S ∧ gf_State_guesser Q = gf_State_guesser S ∧ ∀ i, i < N → gf_State_signs Q i = gf_Row_signs R i := by
  intro m
  induction m with
  | zero =>
    intro n f S h1 h2 h3
    obtain rfl : n = N := by omega
    refine ⟨S, ?_, h2, rfl, rfl, h3⟩
    rw [fl_X4_copyFrom_32, h2, if_pos (Int32.le_refl _)]
  | succ m ih =>
    intro n f S h1 h2 h3
    have hx : ix_ (nI n) 100 := na_ix (by omega) (by decide)
    have cn : (nI n).toNatClampNeg = n := na_cl (by omega)
    rw [show f + (m + 1) + 1 = f + m + 1 + 1 by omega, fl_X4_copyFrom_32, h2, if_neg (nI_ge (by omega) (by omega)), gd_p hx, lt_v, gd_p hx, lt_v, lt_v, cn, show nI n + (1 : Int32) = nI (n + 1) from nI_1 n]
    generalize hQ : sf_State_signs S _ = S1
    have a : gf_State_length S1 = nI N ∧ gf_State_depth S1 = gf_State_depth S ∧ gf_State_guesser S1 = gf_State_guesser S ∧ gf_State_signs S1 = upd (gf_State_signs S) n (gf_Row_signs R n) := by subst hQ; exact ⟨h2, rfl, rfl, rfl⟩
    obtain ⟨a1, a2, a3, a4⟩ := a
    obtain ⟨Q, b1, b2, b3, b4, b5⟩ := ih (n + 1) f S1 (by omega) a1 (fun i hi => by
      rw [a4]
      by_cases hin : i = n
      · rw [hin, pk_us]
      · rw [pk_un hin]; exact h3 i (by omega))
    exact ⟨Q, b1, b2, b3.trans a2, b4.trans a3, b5⟩
theorem cp_e {R : tt_Row} {N : Nat} (S : tt_State) (hN : N ≤ 100) (hl : gf_Row_length R = nI N) : ∃ Q, fn_X4_copyFrom S R = some Q ∧ gf_State_length Q = nI N ∧ gf_State_depth Q = gf_Pasts_depth (gf_Row_pasts R) ∧ gf_State_guesser Q = gf_Pasts_guesser (gf_Row_pasts R) ∧ ∀ i, i < N → gf_State_signs Q i = gf_Row_signs R i := by
  unfold fn_X4_copyFrom
  rw [lt_v, lt_v, lt_v, lt_v, lt_v, lt_v, hl]
  generalize hQ : sf_State_guesser _ _ = S1
  have a : gf_State_length S1 = nI N ∧ gf_State_depth S1 = gf_Pasts_depth (gf_Row_pasts R) ∧ gf_State_guesser S1 = gf_Pasts_guesser (gf_Row_pasts R) := by subst hQ; exact ⟨rfl, rfl, rfl⟩
  obtain ⟨a1, a2, a3⟩ := a
  obtain ⟨Q, b1, b2, b3, b4, b5⟩ := cp_l (R := R) (fun S => some S) hN N 0 (4999 - N) S1 (by omega) a1 (fun i hi => absurd hi (by omega))
  rw [nI_0, show 4999 - N + N + 1 = fu_ by unfold fu_; omega] at b1
  exact ⟨Q, b1, b2, b3.trans a2, b4.trans a3, b5⟩
theorem SE_c {st : tt_State} {p p' : Nat → Int32} {b b' : Nat} (h : ∀ k, k < 103 → p' (b' + k) = p (b + k)) (hS : SE st p b) : SE st p' b' := by
  obtain ⟨n, d, g, h1, h2, h3, h4, h5, h6, h7, h8, h9, h10⟩ := hS
  refine ⟨n, d, g, h1, h2, h3, h4, h5, h6, by rw [h 100 (by decide)]; exact h7, by rw [h 101 (by decide)]; exact h8, by rw [h 102 (by decide)]; exact h9, fun k hk => by rw [h k (by omega)]; exact h10 k hk⟩
theorem ks_1 : ∀ tp, tp < 6 → (tp < 5 → ¬ (6 : Int32) ≤ nI tp + 1) ∧ (tp = 5 → (6 : Int32) ≤ nI tp + 1) := by decide +kernel
theorem ks_2 : ∀ q, q ≤ 6 → (if nI q + 1 < (6 : Int32) then nI q + 1 else (6 : Int32)) = nI (min 6 (q + 1)) := by decide +kernel
/-- the class's keep -/
theorem ke_c {S : tt_States} {R : tt_Row} {q tp N : Nat} (hN : N ≤ 100) (hl : gf_Row_length R = nI N) (hq : q ≤ 6) (ht : tp < 6) (h1 : gf_States_size S = nI q) (h2 : gf_States_top S = nI tp) : ∃ S1 st, fn_X5_keep S R = some S1 ∧ gf_States_size S1 = nI (min 6 (q + 1)) ∧ gf_States_top S1 = nI ((tp + 1) % 6) ∧ gf_States_ring S1 = va_up (gf_States_ring S) ((tp + 1) % 6) st ∧ gf_State_length st = nI N ∧ gf_State_depth st = gf_Pasts_depth (gf_Row_pasts R) ∧ gf_State_guesser st = gf_Pasts_guesser (gf_Row_pasts R) ∧ ∀ i, i < N → gf_State_signs st i = gf_Row_signs R i := by
  have key : ∀ t : Nat, t < 6 → ∃ S1 st, fn_X5_keep_22 R S (nI t) = some S1 ∧ gf_States_size S1 = nI (min 6 (q + 1)) ∧ gf_States_top S1 = nI t ∧ gf_States_ring S1 = va_up (gf_States_ring S) t st ∧ gf_State_length st = nI N ∧ gf_State_depth st = gf_Pasts_depth (gf_Row_pasts R) ∧ gf_State_guesser st = gf_Pasts_guesser (gf_Row_pasts R) ∧ ∀ i, i < N → gf_State_signs st i = gf_Row_signs R i := by
    intro t ht'
    unfold fn_X5_keep_22
    rw [lt_v, lt_v, lt_v]
    have e1 : gf_States_size (sf_States_top S (nI t)) = nI q := h1
    rw [e1, ks_2 q hq]
    generalize hQ : sf_States_size _ _ = S1
    have a : gf_States_size S1 = nI (min 6 (q + 1)) ∧ gf_States_top S1 = nI t ∧ gf_States_ring S1 = gf_States_ring S := by subst hQ; exact ⟨rfl, rfl, rfl⟩
    obtain ⟨a1, a2, a3⟩ := a
    obtain ⟨st, b1, b2, b3, b4, b5⟩ := cp_e (gf_States_ring S t) hN hl
    rw [a2, gd_p (na_ix ht' (by decide)), lt_v, na_cl (by omega), a3, b1, bd_s, lt_v]
    exact ⟨_, st, rfl, a1, a2, rfl, b2, b3, b4, b5⟩
  unfold fn_X5_keep
  rw [h2]
  by_cases h5 : tp = 5
  · rw [if_pos ((ks_1 tp ht).2 h5), show (0 : Int32) = nI 0 from nI_0.symm, show (tp + 1) % 6 = 0 by omega]
    exact key 0 (by decide)
  · rw [if_neg ((ks_1 tp ht).1 (by omega)), show nI tp + (1 : Int32) = nI (tp + 1) from nI_1 tp, show (tp + 1) % 6 = tp + 1 by omega]
    exact key (tp + 1) (by omega)
/-- what keep leaves of the reference -/
def kP (A B : tt_Model) : Prop := gf_Model_now A = gf_Model_now B ∧ gf_Model_refused A = gf_Model_refused B ∧ gf_Model_text A = gf_Model_text B ∧ gf_Model_textLong A = gf_Model_textLong B
theorem kP_p (Y : tt_Model) (v : Nat → Int32) : kP (sf_Model_past Y v) Y ∧ gf_Model_past (sf_Model_past Y v) = v ∧ gf_Model_states (sf_Model_past Y v) = gf_Model_states Y := ⟨⟨rfl, rfl, rfl, rfl⟩, rfl, rfl⟩
theorem kP_s (Y : tt_Model) (v : Int32) : kP (sf_Model_states Y v) Y ∧ gf_Model_past (sf_Model_states Y v) = gf_Model_past Y ∧ gf_Model_states (sf_Model_states Y v) = v := ⟨⟨rfl, rfl, rfl, rfl⟩, rfl, rfl⟩
theorem kP.tr {A B C : tt_Model} (a : kP A B) (b : kP B C) : kP A C := ⟨a.1.trans b.1, a.2.1.trans b.2.1, a.2.2.1.trans b.2.2.1, a.2.2.2.trans b.2.2.2⟩
theorem k11_l (k : tt_Model → Option tt_Model) (p : Nat → Int32) : ∀ (m v f : Nat) (Y : tt_Model), v + m = 515 → (∀ i, i < v → gf_Model_past Y i = p (i + 103)) → (∀ i, v ≤ i → gf_Model_past Y i = p i) → ∃ Y1, fl_X9_keep_11 k (f + m + 1) Y (nI v) = k Y1 ∧ kP Y1 Y ∧ gf_Model_states Y1 = gf_Model_states Y ∧ (∀ i, i < 515 → gf_Model_past Y1 i = p (i + 103)) := by
  intro m
  induction m with
  | zero =>
    intro v f Y h1 h2 h3
    obtain rfl : v = 515 := by omega
    refine ⟨Y, ?_, ⟨rfl, rfl, rfl, rfl⟩, rfl, h2⟩
    rw [fl_X9_keep_11, if_pos (show (515 : Int32) ≤ nI 515 from Int32.le_refl _)]
  | succ m ih =>
    intro v f Y h1 h2 h3
    have hge : ¬ (515 : Int32) ≤ nI v := nI_ge (b := 515) (by omega) (by decide)
    have e1 : nI v + (103 : Int32) = nI (v + 103) := nI_add v 103
    rw [show f + (m + 1) + 1 = f + m + 1 + 1 by omega, fl_X9_keep_11, if_neg hge, e1, gd_p (na_ix (show v + 103 < 618 by omega) (by decide)), lt_v, gd_p (na_ix (show v < 618 by omega) (by decide)), lt_v, lt_v, na_cl (by omega), na_cl (by omega), show nI v + (1 : Int32) = nI (v + 1) from nI_1 v]
    obtain ⟨a1, a2, a3⟩ := kP_p Y (upd (gf_Model_past Y) v (gf_Model_past Y (v + 103)))
    obtain ⟨Y1, b1, b2, b3, b4⟩ := ih (v + 1) f (sf_Model_past Y (upd (gf_Model_past Y) v (gf_Model_past Y (v + 103)))) (by omega) (fun i hi => by
      rw [a2]
      by_cases hiv : i = v
      · rw [hiv, pk_us]; exact h3 _ (by omega)
      · rw [pk_un hiv]; exact h2 i (by omega)) (fun i hi => by rw [a2, pk_un (by omega)]; exact h3 i (by omega))
    exact ⟨Y1, b1, b2.tr a1, b3.trans a3, b4⟩
theorem k51_l (k : tt_Model → Option tt_Model) (p : Nat → Int32) (b : Nat) (hb : b ≤ 5) : ∀ (m v f : Nat) (Y : tt_Model), v + m = 103 → gf_Model_states Y = nI b → (∀ i, i < v → gf_Model_past Y (103 * b + i) = gf_Model_now Y i) → (∀ i, i < 103 * b → gf_Model_past Y i = p i) → ∃ Y1, fl_X9_keep_51 k (f + m + 1) Y (nI v) = k Y1 ∧ kP Y1 Y ∧ gf_Model_states Y1 = nI b ∧ (∀ i, i < 103 → gf_Model_past Y1 (103 * b + i) = gf_Model_now Y i) ∧ ∀ i, i < 103 * b → gf_Model_past Y1 i = p i := by
  intro m
  induction m with
  | zero =>
    intro v f Y h1 h2 h3 h4
    obtain rfl : v = 103 := by omega
    refine ⟨Y, ?_, ⟨rfl, rfl, rfl, rfl⟩, h2, h3, h4⟩
    rw [fl_X9_keep_51, if_pos (show (103 : Int32) ≤ nI 103 from Int32.le_refl _)]
  | succ m ih =>
    intro v f Y h1 h2 h3 h4
    have hge : ¬ (103 : Int32) ≤ nI v := nI_ge (b := 103) (by omega) (by decide)
    have e1 : (103 : Int32) * nI b + nI v = nI (103 * b + v) := by rw [show (103 : Int32) = nI 103 from rfl, pk_mul, nI_add]
    rw [show f + (m + 1) + 1 = f + m + 1 + 1 by omega, fl_X9_keep_51, if_neg hge, h2, e1, gd_p (na_ix (show v < 103 by omega) (by decide)), lt_v, gd_p (na_ix (show 103 * b + v < 618 by omega) (by decide)), lt_v, lt_v, na_cl (by omega), na_cl (by omega), show nI v + (1 : Int32) = nI (v + 1) from nI_1 v]
    obtain ⟨a1, a2, a3⟩ := kP_p Y (upd (gf_Model_past Y) (103 * b + v) (gf_Model_now Y v))
    obtain ⟨Y1, b1, b2, b3, b4, b5⟩ := ih (v + 1) f (sf_Model_past Y (upd (gf_Model_past Y) (103 * b + v) (gf_Model_now Y v))) (by omega) (by rw [a3]; exact h2) (fun i hi => by
      rw [a2, a1.1]
      by_cases hiv : i = v
      · rw [hiv, pk_us]
      · rw [pk_un (by omega)]; exact h3 i (by omega)) (fun i hi => by rw [a2, pk_un (by omega)]; exact h4 i hi)
    exact ⟨Y1, b1, b2.tr a1, b3, fun i hi => by rw [b4 i hi, a1.1], b5⟩
theorem k49_e {Y : tt_Model} {b : Nat} (hb : b ≤ 5) (h2 : gf_Model_states Y = nI b) : ∃ Y1, fn_X9_keep_49 Y = some Y1 ∧ kP Y1 Y ∧ gf_Model_states Y1 = nI (b + 1) ∧ (∀ i, i < 103 → gf_Model_past Y1 (103 * b + i) = gf_Model_now Y i) ∧ ∀ i, i < 103 * b → gf_Model_past Y1 i = gf_Model_past Y i := by
  obtain ⟨Y1, b1, b2, b3, b4, b5⟩ := k51_l (fun (S0 : tt_Model) => lt_ ((gf_Model_states S0) + (1 : Int32)) fun y_9 => lt_ (sf_Model_states S0 y_9) fun S_10 => some S_10) (gf_Model_past Y) b hb 103 0 4896 Y (by omega) h2 (fun i hi => absurd hi (by omega)) (fun i hi => rfl)
  rw [nI_0, show 4896 + 103 + 1 = fu_ from rfl] at b1
  obtain ⟨a1, a2, a3⟩ := kP_s Y1 (nI (b + 1))
  refine ⟨sf_Model_states Y1 (nI (b + 1)), ?_, a1.tr b2, a3, by rw [a2]; exact b4, by rw [a2]; exact b5⟩
  unfold fn_X9_keep_49
  rw [b1, lt_v, lt_v, b3, show nI b + (1 : Int32) = nI (b + 1) from nI_1 b]
/-- keep, on both sides -/
theorem ke_e {S : tt_States} {R : tt_Row} {Y : tt_Model} {n d g : Nat} (hS : SP S (gf_Model_past Y) (gf_Model_states Y)) (hR : RR R (gf_Model_now Y) n d g) : ∃ S1 Y1, fn_X5_keep S R = some S1 ∧ fn_X9_keep Y = some Y1 ∧ kP Y1 Y ∧ SP S1 (gf_Model_past Y1) (gf_Model_states Y1) := by
  obtain ⟨q, tp, q1, q2, q3, q4, q5, q6⟩ := hS
  obtain ⟨r1, r2, r3, r4, r5, r6, r7, r8⟩ := hR
  obtain ⟨S1, st, a1, a2, a3, a4, a5, a6, a7, a8⟩ := ke_c r1 r8.1 q1 q2 q3 q4
  have hst : ∀ (p' : Nat → Int32) (b : Nat), (∀ i, i < 103 → p' (b + i) = gf_Model_now Y i) → SE st p' b := by
    intro p' b hp
    refine ⟨n, d, g, r1, r2, r3, a5, a6.trans r8.2.2.2.1.1, a7.trans r8.2.2.2.1.2.1, by rw [hp 100 (by decide)]; exact r4, by rw [hp 101 (by decide)]; exact r5, by rw [hp 102 (by decide)]; exact r6, fun k hk => ?_⟩
    rw [hp k (by omega)]
    exact ⟨(a8 k hk).trans (r8.2.1 k hk).1, r7 k hk⟩
  by_cases h6 : q = 6
  · subst h6
    obtain ⟨Y1, b1, b2, b3, b4⟩ := k11_l (fun (S0 : tt_Model) => lt_ ((gf_Model_states S0) - (1 : Int32)) fun y_18 => lt_ (sf_Model_states S0 y_18) fun S_19 => fn_X9_keep_49 S_19) (gf_Model_past Y) 515 0 4484 Y (by omega) (fun i hi => absurd hi (by omega)) (fun i hi => rfl)
    rw [nI_0, show 4484 + 515 + 1 = fu_ from rfl] at b1
    obtain ⟨c1, c2, c3⟩ := kP_s Y1 (nI 5)
    obtain ⟨Y2, d1, d2, d3, d4, d5⟩ := k49_e (Y := sf_Model_states Y1 (nI 5)) (b := 5) (by decide) c3
    have hk : kP Y2 Y := (d2.tr c1).tr b2
    refine ⟨S1, Y2, a1, ?_, hk, 6, (tp + 1) % 6, by decide, Nat.mod_lt _ (by decide), a2, a3, d3, fun i hi => ?_⟩
    · unfold fn_X9_keep
      rw [q5, if_pos (show nI 6 = (6 : Int32) from rfl), b1, lt_v, lt_v, b3, q5, show nI 6 - (1 : Int32) = nI 5 from nI_pred 5, d1]
    · rw [a4]
      by_cases hi0 : i = 0
      · subst hi0
        rw [show ((tp + 1) % 6 + 6 - 0) % 6 = (tp + 1) % 6 by omega]
        unfold va_up
        rw [if_pos rfl]
        refine hst _ _ (fun j hj => ?_)
        have t := d4 j hj
        rw [c1.1, b2.1] at t
        exact t
      · have hne : ((tp + 1) % 6 + 6 - i) % 6 ≠ (tp + 1) % 6 := by omega
        unfold va_up
        rw [if_neg hne, show ((tp + 1) % 6 + 6 - i) % 6 = (tp + 6 - (i - 1)) % 6 by omega]
        refine SE_c (fun k hk => ?_) (q6 (i - 1) (by omega))
        rw [d5 _ (by omega), c2, b4 _ (by omega), show 103 * (6 - 1 - i) + k + 103 = 103 * (6 - 1 - (i - 1)) + k by omega]
  · obtain ⟨Y2, d1, d2, d3, d4, d5⟩ := k49_e (Y := Y) (b := q) (by omega) q5
    refine ⟨S1, Y2, a1, ?_, d2, q + 1, (tp + 1) % 6, by omega, Nat.mod_lt _ (by decide), by rw [a2]; congr 1; omega, a3, d3, fun i hi => ?_⟩
    · unfold fn_X9_keep
      have hne : ¬ nI q = (6 : Int32) := by
        intro e
        rw [show (6 : Int32) = nI 6 from rfl, nI_eq (by omega) (by decide)] at e
        exact h6 e
      rw [q5, if_neg hne, d1]
    · rw [a4]
      by_cases hi0 : i = 0
      · subst hi0
        rw [show ((tp + 1) % 6 + 6 - 0) % 6 = (tp + 1) % 6 by omega]
        unfold va_up
        rw [if_pos rfl, show q + 1 - 1 - 0 = q by omega]
        exact hst _ _ d4
      · have hne : ((tp + 1) % 6 + 6 - i) % 6 ≠ (tp + 1) % 6 := by omega
        unfold va_up
        rw [if_neg hne, show ((tp + 1) % 6 + 6 - i) % 6 = (tp + 6 - (i - 1)) % 6 by omega]
        refine SE_c (fun k hk => ?_) (q6 (i - 1) (by omega))
        rw [d5 _ (by omega)]
        congr 1
        omega
