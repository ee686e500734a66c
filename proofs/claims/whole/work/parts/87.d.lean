/-! ===== pure part: digest ===== -/
theorem b2_i {α γ : Type} {a : Option (α × γ)} {z : α × γ} (h : (b2_ a fun r P => some (r, P)) = some z) : a = some z := by
  cases a with
  | none => exact h
  | some p => obtain ⟨p1, p2⟩ := p; exact h
theorem d6_l {X : tt_TreeOdds} {Y : tt_Model} (k : tt_TreeOdds → Int64 → Option (Int64 × tt_TreeOdds)) (k' : tt_Model → Int64 → Option (Int64 × tt_Model)) (hR : Rel X Y) : ∀ (m c f : Nat) (v : Int64), c + m = 8 → ∃ w, fl_X8_digest_6 k (f + m + 1) X v (nI c) = k X w ∧ fl_X9_digest_6 k' (f + m + 1) Y v (nI c) = k' Y w := by
  intro m
  induction m with
  | zero =>
    intro c f v h
    obtain rfl : c = 8 := by omega
    refine ⟨v, ?_, ?_⟩
    · rw [fl_X8_digest_6, if_pos (show (7 : Int32) < nI 8 from nI_lt (a := 7) (by decide) (by decide))]
    · rw [fl_X9_digest_6, if_pos (show (8 : Int32) ≤ nI 8 from Int32.le_refl _)]
  | succ m ih =>
    intro c f v h
    obtain ⟨x, x1, x2⟩ := cou_e (c := c) (by omega) hR
    obtain ⟨w, w1, w2⟩ := ih (c + 1) f ((31 : Int64) * v + x.toInt64) (by omega)
    refine ⟨w, ?_, ?_⟩
    · rw [show f + (m + 1) + 1 = f + m + 1 + 1 by omega, fl_X8_digest_6, if_neg (show ¬ (7 : Int32) < nI c from nI_nlt (a := 7) (by omega) (by decide)), x1, b2_s, lt_v, lt_v, show nI c + (1 : Int32) = nI (c + 1) from nI_1 c, w1]
    · rw [show f + (m + 1) + 1 = f + m + 1 + 1 by omega, fl_X9_digest_6, if_neg (show ¬ (8 : Int32) ≤ nI c from nI_ge (b := 8) (by omega) (by decide)), x2, bd_s, lt_v, lt_v, show nI c + (1 : Int32) = nI (c + 1) from nI_1 c, w2]
theorem d33_l {X : tt_TreeOdds} {Y : tt_Model} {N d g : Nat} (k : tt_TreeOdds → Int64 → Option (Int64 × tt_TreeOdds)) (k' : tt_Model → Int64 → Option (Int64 × tt_Model)) (hR : RR (gf_TreeOdds_row X) (gf_Model_now Y) N d g) : ∀ (m c f : Nat) (v : Int64), c + m = N → ∃ w, fl_X8_digest_33 k (f + m + 1) X v (nI c) = k X w ∧ fl_X9_digest_33 k' (f + m + 1) Y v (nI c) = k' Y w := by
  obtain ⟨r1, r2, r3, r4, r5, r6, r7, r8⟩ := hR
  intro m
  induction m with
  | zero =>
    intro c f v h
    obtain rfl : c = N := by omega
    refine ⟨v, ?_, ?_⟩
    · rw [fl_X8_digest_33, r8.1, if_pos (Int32.le_refl _)]
    · rw [fl_X9_digest_33, many_e r4, bd_s, if_pos (Int32.le_refl _)]
  | succ m ih =>
    intro c f v h
    obtain ⟨w, w1, w2⟩ := ih (c + 1) f ((31 : Int64) * v + (gf_Model_now Y c).toInt64) (by omega)
    refine ⟨w, ?_, ?_⟩
    · rw [show f + (m + 1) + 1 = f + m + 1 + 1 by omega, fl_X8_digest_33, r8.1, if_neg (nI_ge (by omega) (by omega)), gd_p (na_ix (show c < 100 by omega) (by decide)), lt_v, lt_v, na_cl (by omega), (r8.2.1 c (by omega)).1, show nI c + (1 : Int32) = nI (c + 1) from nI_1 c, w1]
    · rw [show f + (m + 1) + 1 = f + m + 1 + 1 by omega, fl_X9_digest_33, many_e r4, bd_s, if_neg (nI_ge (by omega) (by omega)), gd_p (na_ix (show c < 103 by omega) (by decide)), lt_v, lt_v, na_cl (by omega), show nI c + (1 : Int32) = nI (c + 1) from nI_1 c, w2]
theorem d117_l {X : tt_TreeOdds} {Y : tt_Model} {b : Nat → Nat} {N L : Nat} (k : tt_TreeOdds → Int64 → Option (Int64 × tt_TreeOdds)) (k' : tt_Model → Int64 → Option (Int64 × tt_Model)) (hN : N ≤ 204) (hW : WS b N L (gf_TreeOdds_writing X) Y) : ∀ (m c f : Nat) (v : Int64), c + m = N → ∃ w, fl_X8_digest_117 k (f + m + 1) X v (nI c) = k X w ∧ fl_X9_digest_104 k' (f + m + 1) Y v (nI c) = k' Y w := by
  intro m
  induction m with
  | zero =>
    intro c f v h
    obtain rfl : c = N := by omega
    refine ⟨v, ?_, ?_⟩
    · rw [fl_X8_digest_117, hW.1, if_pos (Int32.le_refl _)]
    · rw [fl_X9_digest_104, hW.2.1, if_pos (Int32.le_refl _)]
  | succ m ih =>
    intro c f v h
    obtain ⟨w, w1, w2⟩ := ih (c + 1) f ((31 : Int64) * v + (gf_Model_out Y c).toInt64) (by omega)
    have hb : fn_X7_byteAt (gf_TreeOdds_writing X) (nI c) = some (gf_Model_out Y c) := by
      rw [(ba_e hN (show c < 1000 by omega) hW).1]
      unfold fn_X9_byteAt
      rw [hW.2.1, if_neg (nI_ge (by omega) (by omega)), gd_p (na_ix (show c < 256 by omega) (by decide)), na_cl (by omega)]
    refine ⟨w, ?_, ?_⟩
    · rw [show f + (m + 1) + 1 = f + m + 1 + 1 by omega, fl_X8_digest_117, hW.1, if_neg (nI_ge (by omega) (by omega)), hb, bd_s, lt_v, lt_v, show nI c + (1 : Int32) = nI (c + 1) from nI_1 c, w1]
    · rw [show f + (m + 1) + 1 = f + m + 1 + 1 by omega, fl_X9_digest_104, hW.2.1, if_neg (nI_ge (by omega) (by omega)), gd_p (na_ix (show c < 256 by omega) (by decide)), lt_v, lt_v, na_cl (by omega), show nI c + (1 : Int32) = nI (c + 1) from nI_1 c, w2]
theorem m_digest {X : tt_TreeOdds} {Y : tt_Model} (hR : Rel X Y) : ∃ v X1 Y1, fn_X8_digest X = some (v, X1) ∧ fn_X9_digest Y = some (v, Y1) ∧ Rel X1 Y1 := by
  obtain ⟨⟨N, d, g, hr⟩, -⟩ := id hR
  obtain ⟨v1, Y1, a1, a2, a3⟩ := m_guess hR
  obtain ⟨v2, Y2, b1, b2, b3⟩ := m_cost a3
  obtain ⟨v3, X3, Y3, c1, c2, c3⟩ := m_tree 0 b3
  obtain ⟨⟨N3, d3, g3, hr3⟩, -⟩ := id c3
  obtain ⟨b, c, L, W, Y4, e1, e2, e3, e4, e5⟩ := wr_e (gf_TreeOdds_writing X3) hr3
  have a2' : fn_X9_guessNow Y = some (v1, Y1) := by unfold fn_X9_guess at a2; exact b2_i a2
  have b2' : fn_X9_goesNow Y1 = some (v2, Y2) := by unfold fn_X9_cost at b2; exact b2_i b2
  have c2' : fn_X9_treeOf Y2 0 = some (v3, Y3) := by
    unfold fn_X9_tree at c2
    rw [show fn_X9_in (0 : Int32).toInt64 0 2 = some 1 by decide +kernel, bd_s, if_neg n10_] at c2
    exact b2_i c2
  unfold fn_X8_digest fn_X9_digest
  have o1 := fun k k' => d6_l k k' hR 8 0 4991 2113 (by omega)
  obtain ⟨w1, p1, p2⟩ := o1 (fun (S0_e31_7 : tt_TreeOdds) (x1_e31_7 : Int64) => fl_X8_digest_33 (fun (S0_e67_12 : tt_TreeOdds) (x1_e67_12 : Int64) => bd_ (fn_X8_guess S0_e67_12) fun r_13 => lt_ (((31 : Int64) * x1_e67_12) + r_13.toInt64) fun y_15 => bd_ (fn_X8_cost S0_e67_12) fun r_16 => lt_ (((31 : Int64) * y_15) + r_16.toInt64) fun y_18 => b2_ (fn_X8_tree S0_e67_12 (0 : Int32)) fun r_19 P_20 => lt_ (((31 : Int64) * y_18) + r_19.toInt64) fun y_22 => bd_ (fn_X7_write (gf_TreeOdds_writing P_20) (gf_TreeOdds_row P_20)) fun P_23 => lt_ (sf_TreeOdds_writing P_20 P_23) fun S_25 => fl_X8_digest_117 (fun (S0_e150_31 : tt_TreeOdds) (x1_e150_31 : Int64) => some (x1_e150_31, S0_e150_31)) fu_ S_25 y_22 (0 : Int32)) fu_ S0_e31_7 x1_e31_7 (0 : Int32)) (fun (S0_e31_6 : tt_Model) (x1_e31_6 : Int64) => fl_X9_digest_33 (fun (S0_e61_13 : tt_Model) (x1_e61_13 : Int64) => b2_ (fn_X9_guessNow S0_e61_13) fun r_14 P_15 => lt_ (((31 : Int64) * x1_e61_13) + r_14.toInt64) fun y_17 => b2_ (fn_X9_goesNow P_15) fun r_18 P_19 => lt_ (((31 : Int64) * y_17) + r_18.toInt64) fun y_21 => b2_ (fn_X9_treeOf P_19 (0 : Int32)) fun r_22 P_23 => lt_ (((31 : Int64) * y_21) + r_22.toInt64) fun y_25 => bd_ (fn_X9_writes P_23) fun P_26 => fl_X9_digest_104 (fun (S0_e132_32 : tt_Model) (x1_e132_32 : Int64) => some (x1_e132_32, S0_e132_32)) fu_ P_26 y_25 (0 : Int32)) fu_ S0_e31_6 x1_e31_6 (0 : Int32))
  rw [nI_0, show 4991 + 8 + 1 = fu_ from rfl] at p1 p2
  rw [p1, p2]
  have o2 := fun k k' => d33_l k k' hr N 0 (4999 - N) w1 (by omega)
  obtain ⟨w2, q1, q2⟩ := o2 (fun (S0_e67_12 : tt_TreeOdds) (x1_e67_12 : Int64) => bd_ (fn_X8_guess S0_e67_12) fun r_13 => lt_ (((31 : Int64) * x1_e67_12) + r_13.toInt64) fun y_15 => bd_ (fn_X8_cost S0_e67_12) fun r_16 => lt_ (((31 : Int64) * y_15) + r_16.toInt64) fun y_18 => b2_ (fn_X8_tree S0_e67_12 (0 : Int32)) fun r_19 P_20 => lt_ (((31 : Int64) * y_18) + r_19.toInt64) fun y_22 => bd_ (fn_X7_write (gf_TreeOdds_writing P_20) (gf_TreeOdds_row P_20)) fun P_23 => lt_ (sf_TreeOdds_writing P_20 P_23) fun S_25 => fl_X8_digest_117 (fun (S0_e150_31 : tt_TreeOdds) (x1_e150_31 : Int64) => some (x1_e150_31, S0_e150_31)) fu_ S_25 y_22 (0 : Int32)) (fun (S0_e61_13 : tt_Model) (x1_e61_13 : Int64) => b2_ (fn_X9_guessNow S0_e61_13) fun r_14 P_15 => lt_ (((31 : Int64) * x1_e61_13) + r_14.toInt64) fun y_17 => b2_ (fn_X9_goesNow P_15) fun r_18 P_19 => lt_ (((31 : Int64) * y_17) + r_18.toInt64) fun y_21 => b2_ (fn_X9_treeOf P_19 (0 : Int32)) fun r_22 P_23 => lt_ (((31 : Int64) * y_21) + r_22.toInt64) fun y_25 => bd_ (fn_X9_writes P_23) fun P_26 => fl_X9_digest_104 (fun (S0_e132_32 : tt_Model) (x1_e132_32 : Int64) => some (x1_e132_32, S0_e132_32)) fu_ P_26 y_25 (0 : Int32))
  rw [nI_0, show 4999 - N + N + 1 = fu_ by unfold fu_; have := hr.1; omega] at q1 q2
  rw [q1, q2, a1, bd_s, lt_v, b1, bd_s, lt_v, c1, b2_s, lt_v, e1, bd_s, lt_v, a2', b2_s, lt_v, b2', b2_s, lt_v, c2', b2_s, lt_v, e2, bd_s]
  have hg : gf_TreeOdds_writing (sf_TreeOdds_writing X3 W) = W := rfl
  have o3 := fun v => d117_l (X := sf_TreeOdds_writing X3 W) (Y := Y4) (fun (S0_e150_31 : tt_TreeOdds) (x1_e150_31 : Int64) => some (x1_e150_31, S0_e150_31)) (fun (S0_e132_32 : tt_Model) (x1_e132_32 : Int64) => some (x1_e132_32, S0_e132_32)) e4 (by rw [hg]; exact e3) c 0 (4999 - c) v (by omega)
  obtain ⟨w3, s1, s2⟩ := o3 ((31 : Int64) * ((31 : Int64) * ((31 : Int64) * w2 + v1.toInt64) + v2.toInt64) + v3.toInt64)
  rw [nI_0, show 4999 - c + c + 1 = fu_ by unfold fu_; omega] at s1 s2
  exact ⟨w3, _, Y4, s1, s2, (c3.writing W).y e5⟩
