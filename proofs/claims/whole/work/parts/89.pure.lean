/-! ===== pure part: the law ===== -/
def st_P0 : tt_Pasts := ((fun _ => 0), (fun _ => 0), (fun _ => 0), (fun _ => 0), (fun _ => 0), (fun _ => 0), (3), (0), (0))
def st_X0 (P0 : tt_Pasts) : tt_TreeOdds := (((fun _ => 0), (fun _ => 0), (fun _ => 0), P0, (0), (0)), P0, ((fun _ => 0), (0), (0), (0), (0)), ((fun _ => 0), (fun _ => 0), (0), (0)), ((fun _ => 0), (0), (0), (4294967296), (0), (0)), ((fun _ => 0), (fun _ => 0), (0), (0), (-1), (0), (0), (-1)), ((fun _ => ((fun _ => 0), (0), (0), (0))), (0), (0)), (0), (0), (0))
def st_Y0 : tt_Model := ((upd (fun _ => 0) (101 : Int32).toNatClampNeg (3)), (fun _ => 0), 0, (fun _ => 0), (fun _ => 0), 0, 0, 0, (fun _ => 0), (fun _ => 0), (fun _ => 0), (fun _ => 0), (fun _ => 0), (fun _ => 0), (fun _ => 0), (fun _ => 0), (fun _ => 0), (fun _ => 0), (fun _ => 0), (fun _ => 0), 0, 0, (fun _ => 0), 0, 0, (fun _ => 0), 0)
theorem lg_ {L i : Nat} (hL : L ≤ 2048) (hi : i ≤ 3000) : (Int32.ofNat L) - (4 : Int32) < nI i ↔ L < i + 4 := by
  rw [Int32.lt_iff_toInt_lt, show Int32.ofNat L = nI L from rfl, show (4 : Int32) = nI 4 from rfl, pk_sub_toInt (by omega) (by decide), nI_toInt (by omega)]
  omega
theorem law_l (xs : Nat → Int32) (L : Nat) (hL : L ≤ 2048) : ∀ (m i f : Nat) (X : tt_TreeOdds) (Y : tt_Model), L ≤ i + m → i ≤ L + 3 → Rel X Y → fl_L_law_18 xs L (f + m + 1) X Y (nI i) = some 1 := by
  intro m
  induction m with
  | zero =>
    intro i f X Y h1 h2 hR
    rw [fl_L_law_18, if_pos ((lg_ hL (by omega)).mpr (by omega))]
  | succ m ih =>
    intro i f X Y h1 h2 hR
    rw [show f + (m + 1) + 1 = f + m + 1 + 1 by omega, fl_L_law_18]
    by_cases hg : L < i + 4
    · rw [if_pos ((lg_ hL (by omega)).mpr hg)]
    have nx : ∀ (X1 : tt_TreeOdds) (Y1 : tt_Model), Rel X1 Y1 → fn_L_law_747 (fl_L_law_18 xs L (f + m + 1)) xs L X1 Y1 (nI i) = some 1 := by
      intro X1 Y1 h
      unfold fn_L_law_747
      rw [lt_v, show nI i + (4 : Int32) = nI (i + 4) from nI_add i 4]
      exact ih (i + 4) f X1 Y1 (by omega) (by omega) h
    have hx0 : ix_ (nI i) L := na_ix (by omega) (by omega)
    have hx1 : ix_ (nI i + (1 : Int32)) L := by rw [show nI i + (1 : Int32) = nI (i + 1) from nI_add i 1]; exact na_ix (by omega) (by omega)
    have hx2 : ix_ (nI i + (2 : Int32)) L := by rw [show nI i + (2 : Int32) = nI (i + 2) from nI_add i 2]; exact na_ix (by omega) (by omega)
    have hx3 : ix_ (nI i + (3 : Int32)) L := by rw [show nI i + (3 : Int32) = nI (i + 3) from nI_add i 3]; exact na_ix (by omega) (by omega)
    rw [if_neg (fun h => hg ((lg_ hL (by omega)).mp h)), gd_p hx0, lt_v]
    generalize xs (nI i).toNatClampNeg &&& (31 : Int32) = y
    generalize xs (nI i + (1 : Int32)).toNatClampNeg = a1
    generalize xs (nI i + (2 : Int32)).toNatClampNeg = a2
    generalize xs (nI i + (3 : Int32)).toNatClampNeg = a3
    by_cases h0 : y = 0
    · obtain ⟨v, X1, Y1, b1, b2, b3⟩ := m_sign a1 hR
      rw [if_pos h0, gd_p hx1, b1, b2_s, gd_p hx1, b2, b2_s, if_pos rfl]
      exact nx X1 Y1 b3
    rw [if_neg h0]
    by_cases h1 : y = 1
    · obtain ⟨v, X1, Y1, b1, b2, b3⟩ := m_signs ((a1.toInt64 <<< ((32 : Int32).toInt64 &&& 63)) ||| (a2.toInt64 &&& (4294967295 : Int64))) a3 hR
      rw [if_pos h1, gd_p hx1, gd_p hx2, gd_p hx3, b1, b2_s, gd_p hx1, gd_p hx2, gd_p hx3, b2, b2_s, if_pos rfl]
      exact nx X1 Y1 b3
    rw [if_neg h1]
    by_cases h2 : y = 2
    · obtain ⟨v, X1, Y1, b1, b2, b3⟩ := m_draw a1 a2 a3 hR
      rw [if_pos h2, gd_p hx1, gd_p hx2, gd_p hx3, b1, b2_s, gd_p hx1, gd_p hx2, gd_p hx3, b2, b2_s, if_pos rfl]
      exact nx X1 Y1 b3
    rw [if_neg h2]
    by_cases h3 : y = 3
    · obtain ⟨v, X1, Y1, b1, b2, b3⟩ := m_sets a1 a2 hR
      rw [if_pos h3, gd_p hx1, gd_p hx2, b1, b2_s, gd_p hx1, gd_p hx2, b2, b2_s, if_pos rfl]
      exact nx X1 Y1 b3
    rw [if_neg h3]
    by_cases h4 : y = 4
    · obtain ⟨v, X1, Y1, b1, b2, b3⟩ := m_empties  hR
      rw [if_pos h4, b1, b2_s, b2, b2_s, if_pos rfl]
      exact nx X1 Y1 b3
    rw [if_neg h4]
    by_cases h5 : y = 5
    · obtain ⟨v, X1, Y1, b1, b2, b3⟩ := m_drop  hR
      rw [if_pos h5, b1, b2_s, b2, b2_s, if_pos rfl]
      exact nx X1 Y1 b3
    rw [if_neg h5]
    by_cases h6 : y = 6
    · obtain ⟨v, X1, Y1, b1, b2, b3⟩ := m_at a1 hR
      rw [if_pos h6, gd_p hx1, b1, b2_s, gd_p hx1, b2, b2_s, if_pos rfl]
      exact nx X1 Y1 b3
    rw [if_neg h6]
    by_cases h7 : y = 7
    · obtain ⟨v, Y1, b1, b2, b3⟩ := m_guess hR
      rw [if_pos h7, b1, bd_s, b2, b2_s, if_pos rfl]
      exact nx X Y1 b3
    rw [if_neg h7]
    by_cases h8 : y = 8
    · obtain ⟨v, X1, Y1, b1, b2, b3⟩ := m_was a1 a2 hR
      rw [if_pos h8, gd_p hx1, gd_p hx2, b1, b2_s, gd_p hx1, gd_p hx2, b2, b2_s, if_pos rfl]
      exact nx X1 Y1 b3
    rw [if_neg h8]
    by_cases h9 : y = 9
    · obtain ⟨v, X1, Y1, b1, b2, b3⟩ := m_node a1 a2 a3 hR
      rw [if_pos h9, gd_p hx1, gd_p hx2, gd_p hx3, b1, b2_s, gd_p hx1, gd_p hx2, gd_p hx3, b2, b2_s, if_pos rfl]
      exact nx X1 Y1 b3
    rw [if_neg h9]
    by_cases h10 : y = 10
    · obtain ⟨v, Y1, b1, b2, b3⟩ := m_cost hR
      rw [if_pos h10, b1, bd_s, b2, b2_s, if_pos rfl]
      exact nx X Y1 b3
    rw [if_neg h10]
    by_cases h11 : y = 11
    · obtain ⟨v, X1, Y1, b1, b2, b3⟩ := m_costBy a1 a2 hR
      rw [if_pos h11, gd_p hx1, gd_p hx2, b1, b2_s, gd_p hx1, gd_p hx2, b2, b2_s, if_pos rfl]
      exact nx X1 Y1 b3
    rw [if_neg h11]
    by_cases h12 : y = 12
    · obtain ⟨v, X1, Y1, b1, b2, b3⟩ := m_best a1 hR
      rw [if_pos h12, gd_p hx1, b1, b2_s, gd_p hx1, b2, b2_s, if_pos rfl]
      exact nx X1 Y1 b3
    rw [if_neg h12]
    by_cases h13 : y = 13
    · obtain ⟨v, X1, Y1, b1, b2, b3⟩ := m_follows a1 hR
      rw [if_pos h13, gd_p hx1, b1, b2_s, gd_p hx1, b2, b2_s, if_pos rfl]
      exact nx X1 Y1 b3
    rw [if_neg h13]
    by_cases h14 : y = 14
    · obtain ⟨v, X1, Y1, b1, b2, b3⟩ := m_tree a1 hR
      rw [if_pos h14, gd_p hx1, b1, b2_s, gd_p hx1, b2, b2_s, if_pos rfl]
      exact nx X1 Y1 b3
    rw [if_neg h14]
    by_cases h15 : y = 15
    · obtain ⟨v, X1, Y1, b1, b2, b3⟩ := m_leaf a1 a2 hR
      rw [if_pos h15, gd_p hx1, gd_p hx2, b1, b2_s, gd_p hx1, gd_p hx2, b2, b2_s, if_pos rfl]
      exact nx X1 Y1 b3
    rw [if_neg h15]
    by_cases h16 : y = 16
    · obtain ⟨v, X1, Y1, b1, b2, b3⟩ := m_written a1 hR
      rw [if_pos h16, gd_p hx1, b1, b2_s, gd_p hx1, b2, b2_s, if_pos rfl]
      exact nx X1 Y1 b3
    rw [if_neg h16]
    by_cases h17 : y = 17
    · obtain ⟨v, X1, Y1, b1, b2, b3⟩ := m_reads a1 a2 hR
      rw [if_pos h17, gd_p hx1, gd_p hx2, b1, b2_s, gd_p hx1, gd_p hx2, b2, b2_s, if_pos rfl]
      exact nx X1 Y1 b3
    rw [if_neg h17]
    by_cases h18 : y = 18
    · obtain ⟨v, X1, Y1, b1, b2, b3⟩ := m_type a1 hR
      rw [if_pos h18, gd_p hx1, b1, b2_s, gd_p hx1, b2, b2_s, if_pos rfl]
      exact nx X1 Y1 b3
    rw [if_neg h18]
    by_cases h19 : y = 19
    · obtain ⟨v, X1, Y1, b1, b2, b3⟩ := m_clear  hR
      rw [if_pos h19, b1, b2_s, b2, b2_s, if_pos rfl]
      exact nx X1 Y1 b3
    rw [if_neg h19]
    by_cases h20 : y = 20
    · obtain ⟨v, X1, Y1, b1, b2, b3⟩ := m_told  hR
      rw [if_pos h20, b1, b2_s, b2, b2_s, if_pos rfl]
      exact nx X1 Y1 b3
    rw [if_neg h20]
    by_cases h21 : y = 21
    · obtain ⟨v, X1, Y1, b1, b2, b3⟩ := m_back  hR
      rw [if_pos h21, b1, b2_s, b2, b2_s, if_pos rfl]
      exact nx X1 Y1 b3
    rw [if_neg h21]
    by_cases h22 : y = 22
    · obtain ⟨v, X1, Y1, b1, b2, b3⟩ := m_count a1 hR
      rw [if_pos h22, gd_p hx1, b1, b2_s, gd_p hx1, b2, b2_s, if_pos rfl]
      exact nx X1 Y1 b3
    rw [if_neg h22]
    by_cases h23 : y = 23
    · obtain ⟨v, X1, Y1, b1, b2, b3⟩ := m_digest  hR
      rw [if_pos h23, b1, b2_s, b2, b2_s, if_pos rfl]
      exact nx X1 Y1 b3
    rw [if_neg h23]
    exact nx X Y hR
theorem bs_0 (r : Nat → Int32) : ∀ c, bs_ r 0 c = (0, 0) := by
  intro c
  induction c with
  | zero => rfl
  | succ c ih =>
    rw [bs_, ih, if_neg]
    show ¬ cs_ r _ _ 0 < 0
    rw [cs_]
    exact Int32.lt_irrefl
theorem rel_0 {P0 : tt_Pasts} (hP : PR (gf_Model_now st_Y0) (nI 0) 3 0 P0) : Rel (st_X0 P0) st_Y0 := by
  have e0 : gf_Model_now st_Y0 = upd (fun _ => 0) 101 3 := by
    show upd (fun _ => (0 : Int32)) (101 : Int32).toNatClampNeg 3 = _
    rw [show (101 : Int32).toNatClampNeg = 101 by decide +kernel]
  refine ⟨⟨0, 3, 0, by decide, by decide, by decide, ?_, ?_, ?_, fun k hk => absurd hk (by omega), nI_0.symm, fun k hk => absurd hk (by omega), rfl, hP⟩, ⟨fun _ => 0, 0, by decide, fun k hk => absurd hk (by omega), nI_0.symm, fun k hk => absurd hk (by omega), ?_, ?_, ?_⟩, ⟨0, by decide, nI_0.symm, nI_0.symm, fun k hk => absurd hk (by omega)⟩, ⟨0, 0, by decide, by decide, nI_0.symm, nI_0.symm, nI_0.symm, fun i hi => absurd hi (by omega)⟩, rfl, rfl, rfl⟩
  · rw [e0, pk_un (by decide), nI_0]
  · rw [e0, pk_us]; rfl
  · rw [e0, pk_un (by decide), nI_0]
  · rw [bs_0]; exact nI_0.symm
  · rw [bs_0]; exact nI_0.symm
  · rw [bs_0]; rfl
theorem law_pure (xs : Nat → Int32) (L : Nat) (hL : L ≤ 2048) : ∃ P0 : tt_Pasts, fn_X2_begin st_P0 3 0 = some P0 ∧ fl_L_law_18 xs L fu_ (st_X0 P0) st_Y0 0 = some 1 := by
  obtain ⟨P0, p1, p2⟩ := PR_0 (d := 3) (g := 0) (gf_Model_now st_Y0) st_P0 (by decide) (by decide)
  rw [nI_0, show nI 3 = (3 : Int32) from rfl] at p1
  refine ⟨P0, p1, ?_⟩
  have h := law_l xs L hL L 0 (4999 - L) (st_X0 P0) st_Y0 (by omega) (by omega) (rel_0 p2)
  rw [nI_0, show 4999 - L + L + 1 = fu_ by unfold fu_; omega] at h
  exact h
