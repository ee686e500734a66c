/-! ===== pure part: back, count, node, follows ===== -/
theorem cq_l {S : tt_State} {N : Nat} (k : tt_Row → Option tt_Row) (hN : N ≤ 100) (hl : gf_State_length S = nI N) : ∀ (m n f : Nat) (R : tt_Row), n + m = N → (∀ i, i < n → gf_Row_signs R i = gf_State_signs S i) → ∃ Q, fl_X4_copySignsTo_2 k S (f + m + 1) R (nI n) = k Q ∧ ∀ i, i < N → gf_Row_signs Q i = gf_State_signs S i := by
  intro m
  induction m with
  | zero =>
    intro n f R h1 h2
    obtain rfl : n = N := by omega
    refine ⟨R, ?_, h2⟩
    rw [fl_X4_copySignsTo_2, hl, if_pos (Int32.le_refl _)]
  | succ m ih =>
    intro n f R h1 h2
    have hx : ix_ (nI n) 100 := na_ix (by omega) (by decide)
    rw [show f + (m + 1) + 1 = f + m + 1 + 1 by omega, fl_X4_copySignsTo_2, hl, if_neg (nI_ge (by omega) (by omega)), gd_p hx, lt_v, gd_p hx, lt_v, lt_v, na_cl (by omega), show nI n + (1 : Int32) = nI (n + 1) from nI_1 n]
    refine ih (n + 1) f _ (by omega) (fun i hi => ?_)
    show upd (gf_Row_signs R) n _ i = _
    by_cases hin : i = n
    · rw [hin, pk_us]
    · rw [pk_un hin]; exact h2 i (by omega)
theorem bk_l (k : tt_Model → Option (Int32 × tt_Model)) (b : Nat) (hb : b ≤ 5) : ∀ (m v f : Nat) (Y : tt_Model), v + m = 103 → gf_Model_states Y = nI b → (∀ i, i < v → gf_Model_now Y i = gf_Model_past Y (103 * b + i)) → ∃ Y1, fl_X9_back_24 k (f + m + 1) Y (nI v) = k Y1 ∧ gf_Model_past Y1 = gf_Model_past Y ∧ gf_Model_states Y1 = nI b ∧ gf_Model_refused Y1 = gf_Model_refused Y ∧ gf_Model_text Y1 = gf_Model_text Y ∧ gf_Model_textLong Y1 = gf_Model_textLong Y ∧ ∀ i, i < 103 → gf_Model_now Y1 i = gf_Model_past Y (103 * b + i) := by
  intro m
  induction m with
  | zero =>
    intro v f Y h1 h2 h3
    obtain rfl : v = 103 := by omega
    refine ⟨Y, ?_, rfl, h2, rfl, rfl, rfl, h3⟩
    rw [fl_X9_back_24, if_pos (show (103 : Int32) ≤ nI 103 from Int32.le_refl _)]
  | succ m ih =>
    intro v f Y h1 h2 h3
    have hge : ¬ (103 : Int32) ≤ nI v := nI_ge (b := 103) (by omega) (by decide)
    have e1 : (103 : Int32) * nI b + nI v = nI (103 * b + v) := by rw [show (103 : Int32) = nI 103 from rfl, pk_mul, nI_add]
    rw [show f + (m + 1) + 1 = f + m + 1 + 1 by omega, fl_X9_back_24, if_neg hge, h2, e1, gd_p (na_ix (show 103 * b + v < 618 by omega) (by decide)), lt_v, gd_p (na_ix (show v < 103 by omega) (by decide)), lt_v, lt_v, na_cl (by omega), na_cl (by omega), show nI v + (1 : Int32) = nI (v + 1) from nI_1 v]
    obtain ⟨a1, a2, a3, a4, a5, a6⟩ := now_p Y (upd (gf_Model_now Y) v (gf_Model_past Y (103 * b + v)))
    obtain ⟨Y1, b1, b2, b3, b4, b5, b6, b7⟩ := ih (v + 1) f (sf_Model_now Y (upd (gf_Model_now Y) v (gf_Model_past Y (103 * b + v)))) (by omega) (by rw [a3]; exact h2) (fun i hi => by
      rw [a1, a2]
      by_cases hiv : i = v
      · rw [hiv, pk_us]
      · rw [pk_un hiv]; exact h3 i (by omega))
    exact ⟨Y1, b1, b2.trans a2, b3, b4.trans a4, b5.trans a5, b6.trans a6, fun i hi => by rw [b7 i hi, a2]⟩
theorem st_s (Y : tt_Model) (v : Int32) : gf_Model_now (sf_Model_states Y v) = gf_Model_now Y ∧ gf_Model_past (sf_Model_states Y v) = gf_Model_past Y ∧ gf_Model_states (sf_Model_states Y v) = v ∧ gf_Model_refused (sf_Model_states Y v) = gf_Model_refused Y ∧ gf_Model_text (sf_Model_states Y v) = gf_Model_text Y ∧ gf_Model_textLong (sf_Model_states Y v) = gf_Model_textLong Y := ⟨rfl, rfl, rfl, rfl, rfl, rfl⟩
theorem re_1 : ∀ q, q < 6 → (if (0 : Int32) < nI (q + 1) - 1 then nI (q + 1) - 1 else (0 : Int32)) = nI q := by decide +kernel
theorem re_e {S : tt_States} {q tp : Nat} (hq : q < 6) (ht : tp < 6) (h1 : gf_States_size S = nI (q + 1)) (h2 : gf_States_top S = nI tp) : ∃ S1, fn_X5_release S = some (tp, S1) ∧ gf_States_size S1 = nI q ∧ gf_States_top S1 = nI ((tp + 5) % 6) ∧ gf_States_ring S1 = gf_States_ring S := by
  have key : ∀ t : Nat, ∃ S1, fn_X5_release_28 S tp (nI t) = some (tp, S1) ∧ gf_States_size S1 = nI q ∧ gf_States_top S1 = nI t ∧ gf_States_ring S1 = gf_States_ring S := by
    intro t
    unfold fn_X5_release_28
    have e1 : gf_States_size (sf_States_top S (nI t)) = nI (q + 1) := h1
    rw [lt_v, lt_v, lt_v, e1, re_1 q hq]
    exact ⟨_, rfl, rfl, rfl, rfl⟩
  unfold fn_X5_release
  rw [h2, gd_p (na_ix ht (by decide)), lt_v, na_cl (by omega)]
  by_cases h0 : tp = 0
  · rw [if_pos (by rw [h0, nI_0]; exact Int32.le_refl _), show (5 : Int32) = nI 5 from rfl, show (tp + 5) % 6 = 5 by omega]
    exact key 5
  · obtain ⟨j, hj⟩ : ∃ j, tp = j + 1 := ⟨tp - 1, by omega⟩
    rw [if_neg (nI_nle (by omega) (by omega)), show nI tp - (1 : Int32) = nI j by rw [hj]; exact nI_pred j, show (tp + 5) % 6 = j by omega]
    exact key j
theorem m_back {X : tt_TreeOdds} {Y : tt_Model} (hR : Rel X Y) : Bo (fn_X8_back X) (fn_X9_back Y) := by
  obtain ⟨h1, h2, h3, ⟨q, tp, q1, q2, q3, q4, q5, q6⟩, h5, h6, h7⟩ := id hR
  unfold fn_X8_back fn_X9_back
  rw [q3, q5]
  by_cases h0 : q = 0
  · subst h0
    rw [if_neg (show ¬ (1 : Int32) ≤ nI 0 by decide +kernel), if_pos nI_0]
    exact Bo.no hR
  · obtain ⟨m, rfl⟩ : ∃ m, q = m + 1 := ⟨q - 1, by omega⟩
    obtain ⟨S1, s1, s2, s3, s4⟩ := re_e (show m < 6 by omega) q2 q3 q4
    have hse := q6 0 (by omega)
    rw [show (tp + 6 - 0) % 6 = tp by omega, show m + 1 - 1 - 0 = m by omega] at hse
    obtain ⟨n, d, g, n1, n2, n3, n4, n5, n6, n7, n8, n9, n10⟩ := hse
    obtain ⟨R1, u1, u2⟩ := cq_l (S := gf_States_ring (gf_TreeOdds_states X) tp) (fun S => some S) n1 n4 n 0 (4999 - n) (gf_TreeOdds_row X) (by omega) (fun i hi => absurd hi (by omega))
    rw [nI_0, show 4999 - n + n + 1 = fu_ by unfold fu_; omega] at u1
    obtain ⟨y1, y2, y3, y4, y5, y6⟩ := st_s Y (nI m)
    obtain ⟨Y1, b1, b2, b3, b4, b5, b6, b7⟩ := bk_l (fun (S0 : tt_Model) => some (gf_Model_states S0, S0)) m (by omega) 103 0 4896 (sf_Model_states Y (nI m)) (by omega) y3 (fun i hi => absurd hi (by omega))
    rw [nI_0, show 4896 + 103 + 1 = fu_ from rfl] at b1
    have hnow : ∀ i, i < 103 → gf_Model_now Y1 i = gf_Model_past Y (103 * m + i) := fun i hi => by rw [b7 i hi, y2]
    have hb : b01 (gf_Model_now Y1) n := fun k hk => by rw [hnow k (by omega)]; exact (n10 k hk).2
    obtain ⟨Q, c1, c2⟩ := ca_e (r := gf_Model_now Y1) (R := R1) n2 n3 n1 hb (fun i hi => by rw [u2 i hi, (n10 i hi).1, hnow i (by omega)])
    rw [if_pos (show (1 : Int32) ≤ nI (m + 1) from nI_le (a := 1) (by omega) (by omega)), if_neg (nI_ne0 (by omega) (by omega)), s1, b2_s, lt_v, gd_p q2, lt_v, lt_v, show nI (m + 1) - (1 : Int32) = nI m from nI_pred m, b1]
    have e1 : gf_States_ring (gf_TreeOdds_states (sf_TreeOdds_states X S1)) tp = gf_States_ring (gf_TreeOdds_states X) tp := by
      show gf_States_ring S1 tp = _
      rw [s4]
    have e2 : gf_TreeOdds_row (sf_TreeOdds_states X S1) = gf_TreeOdds_row X := rfl
    have e3 : fn_X4_copySignsTo (gf_States_ring (gf_TreeOdds_states X) tp) (gf_TreeOdds_row X) = some R1 := u1
    have e4 : gf_States_ring (gf_TreeOdds_states (sf_TreeOdds_row (sf_TreeOdds_states X S1) R1)) tp = gf_States_ring (gf_TreeOdds_states X) tp := e1
    have e5 : gf_TreeOdds_row (sf_TreeOdds_row (sf_TreeOdds_states X S1) R1) = R1 := rfl
    rw [e1, e2, e3, bd_s, lt_v, e4, e5, n4, n5, n6, c1, bd_s, lt_v]
    refine ⟨nI m, sf_TreeOdds_row (sf_TreeOdds_row (sf_TreeOdds_states X S1) R1) Q, Y1, ?_, ?_, ?_⟩
    · show some (gf_States_size S1, _) = _
      rw [s2]
    · rw [b3]
    · refine ⟨⟨n, d, g, n1, n2, n3, ?_, ?_, ?_, hb, c2⟩, h2, ?_, ⟨m, (tp + 5) % 6, by omega, Nat.mod_lt _ (by decide), s2, s3, b3, fun i hi => ?_⟩, ?_, ?_, ?_⟩
      · rw [hnow 100 (by decide)]; exact n7
      · rw [hnow 101 (by decide)]; exact n8
      · rw [hnow 102 (by decide)]; exact n9
      · rw [b5, b6, y5, y6]; exact h3
      · have t := q6 (i + 1) (by omega)
        rw [b2, y2]
        show SE (gf_States_ring S1 _) _ _
        rw [s4, show ((tp + 5) % 6 + 6 - i) % 6 = (tp + 6 - (i + 1)) % 6 by omega, show m - 1 - i = m + 1 - 1 - (i + 1) by omega]
        exact t
      · rw [b4, y4]; exact h5
      · rw [b4, y4]; exact h6
      · rw [b4, y4]; exact h7
theorem cou_e {X : tt_TreeOdds} {Y : tt_Model} {c : Nat} (hc : c ≤ 7) (hR : Rel X Y) : ∃ v, fn_X8_count X (nI c) = some (v, X) ∧ fn_X9_counted Y (nI c) = some v := by
  obtain ⟨⟨n, d, g, r1, r2, r3, r4, r5, r6, r7, r8⟩, h2, ⟨t, t1, t2, t3, t4⟩, ⟨q, tp, q1, q2, q3, q4, q5, q6⟩, h5, h6, h7⟩ := id hR
  unfold fn_X8_count fn_X9_counted fn_X9_depth fn_X9_guesser
  rw [many_e r4, gd_p (by decide +kernel), gd_p (by decide +kernel), show (101 : Int32).toNatClampNeg = 101 by decide +kernel, show (102 : Int32).toNatClampNeg = 102 by decide +kernel, r5, r6, bd_s, bd_s, bd_s, t2, t3, r8.1, r8.2.2.2.1.1, r8.2.2.2.1.2.1, q3, q5, h5, h6, h7]
  rcases (show c = 0 ∨ c = 1 ∨ c = 2 ∨ c = 3 ∨ c = 4 ∨ c = 5 ∨ c = 6 ∨ c = 7 by omega) with rfl | rfl | rfl | rfl | rfl | rfl | rfl | rfl
  all_goals first
    | exact ⟨gf_Model_refused Y 0, rfl, rfl⟩
    | exact ⟨gf_Model_refused Y 1, rfl, rfl⟩
    | exact ⟨gf_Model_refused Y 2, rfl, rfl⟩
    | exact ⟨nI t, rfl, rfl⟩
    | exact ⟨nI n, rfl, rfl⟩
    | exact ⟨nI d, rfl, rfl⟩
    | exact ⟨nI g, rfl, rfl⟩
    | exact ⟨nI q, rfl, rfl⟩
theorem m_count {X : tt_TreeOdds} {Y : tt_Model} (x : Int32) (hR : Rel X Y) : Bo (fn_X8_count X x) (fn_X9_count Y x) := by
  unfold fn_X9_count
  rw [in_e x 0 7 z64.1 z64.2.2.2.2.2.2.2.2.2.2]
  rcases wi_c x 0 7 with ⟨h, h1⟩ | ⟨h, h1, h2⟩
  · rw [h, bd_s, if_pos rfl]
    have ne : ∀ c : Nat, c ≤ 7 → ¬ x = nI c := by
      intro c hc e
      subst e
      rcases h1 with h1 | h1
      · exact nI_pos (by omega) h1
      · exact nI_nlt (a := 7) (b := c) hc (by decide) h1
    unfold fn_X8_count
    rw [if_neg (show ¬ x = (0 : Int32) by rw [← nI_0]; exact ne 0 (by decide)), if_neg (show ¬ x = (1 : Int32) from ne 1 (by decide)), if_neg (show ¬ x = (2 : Int32) from ne 2 (by decide)), if_neg (show ¬ x = (3 : Int32) from ne 3 (by decide)), if_neg (show ¬ x = (4 : Int32) from ne 4 (by decide)), if_neg (show ¬ x = (5 : Int32) from ne 5 (by decide)), if_neg (show ¬ x = (6 : Int32) from ne 6 (by decide)), if_neg (show ¬ x = (7 : Int32) from ne 7 (by decide))]
    exact Bo.bad hR
  · obtain ⟨c, -, c2, rfl⟩ := nt_of (lo := 0) (hi := 7) (by decide) (by decide) h1 h2
    obtain ⟨v, v1, v2⟩ := cou_e c2 hR
    rw [h, bd_s, if_neg n10_, v1, v2, bd_s]
    exact ⟨v, X, Y, rfl, rfl, hR⟩
