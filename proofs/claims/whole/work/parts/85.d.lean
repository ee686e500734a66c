/-! ===== pure part: signs, draw, sets, empties, drop ===== -/
theorem bit_e {x : Int64} {j : Nat} (hj : j < 64) : (((x.toUInt64 >>> ((nI j).toInt64.toUInt64 &&& Int64.toUInt64 63)).toInt64) &&& (1 : Int64)) = ((x >>> ((nI j).toInt64 &&& 63)) &&& (1 : Int64)) := by
  have e1 : ∀ k, k < 64 → ((nI k).toInt64.toUInt64 &&& Int64.toUInt64 63) = UInt64.ofNat k := by decide +kernel
  have e2 : ∀ k, k < 64 → ((((nI k).toInt64 &&& 63) : Int64).toBitVec.smod 64).toNat = k := by decide +kernel
  have e3 : ∀ k, k < 64 → (UInt64.ofNat k).toBitVec.toNat % 64 = k := by decide +kernel
  apply Int64.toBitVec_inj.1
  apply BitVec.eq_of_getLsbD_eq
  intro i hi
  have one : ∀ i, i < 64 → (1 : Int64).toBitVec.getLsbD i = decide (i = 0) := by decide +kernel
  rw [Int64.toBitVec_and, Int64.toBitVec_and, BitVec.getLsbD_and, BitVec.getLsbD_and, one i hi]
  by_cases h0 : i = 0
  · subst h0
    rw [e1 j hj]
    have a : ((x.toUInt64 >>> UInt64.ofNat j).toInt64).toBitVec.getLsbD 0 = x.toBitVec.getLsbD j := by
      show (x.toUInt64 >>> UInt64.ofNat j).toBitVec.getLsbD 0 = _
      rw [UInt64.toBitVec_shiftRight]
      show ((x.toBitVec) >>> ((UInt64.ofNat j).toBitVec % 64)).getLsbD 0 = _
      rw [BitVec.ushiftRight_eq', BitVec.getLsbD_ushiftRight, BitVec.toNat_umod]
      have := e3 j hj
      simp at this ⊢
      congr 1
      exact Nat.mod_eq_of_lt hj
    have b : ((x >>> ((nI j).toInt64 &&& 63))).toBitVec.getLsbD 0 = x.toBitVec.getLsbD j := by
      rw [Int64.toBitVec_shiftRight]
      show (x.toBitVec.sshiftRight ((((nI j).toInt64 &&& 63) : Int64).toBitVec.smod 64).toNat).getLsbD 0 = _
      rw [e2 j hj, BitVec.getLsbD_sshiftRight]
      simp [hj]
    rw [a, b]
  · simp [h0]
theorem b1_e (y : Int64) : (y &&& (1 : Int64)).toInt32 = 0 ∨ (y &&& (1 : Int64)).toInt32 = 1 := by
  have one : ∀ i, i < 64 → (1 : Int64).toBitVec.getLsbD i = decide (i = 0) := by decide +kernel
  have h : y &&& 1 = 0 ∨ y &&& 1 = 1 := by
    by_cases hb : y.toBitVec.getLsbD 0 = true
    · right
      apply Int64.toBitVec_inj.1
      apply BitVec.eq_of_getLsbD_eq
      intro i hi
      rw [Int64.toBitVec_and, BitVec.getLsbD_and, one i hi]
      by_cases h0 : i = 0
      · subst h0; simp [hb]
      · simp [h0]
    · left
      apply Int64.toBitVec_inj.1
      apply BitVec.eq_of_getLsbD_eq
      intro i hi
      rw [Int64.toBitVec_and, BitVec.getLsbD_and, one i hi]
      by_cases h0 : i = 0
      · subst h0; rw [(Bool.not_eq_true _).mp hb]; simp
      · simp [h0]
  rcases h with h | h
  · rw [h]; exact Or.inl (by decide +kernel)
  · rw [h]; exact Or.inr (by decide +kernel)
theorem sg_l {d g n0 M : Nat} (k : tt_TreeOdds → Int32 → Option (Int32 × tt_TreeOdds)) (k' : tt_Model → Int32 → Option (Int32 × tt_Model)) (bits : Int64) (had : Int32) (hM : M ≤ 64) (h100 : n0 + M ≤ 100) : ∀ (m j f : Nat) (X : tt_TreeOdds) (Y : tt_Model), j + m = M → RelN X Y (n0 + j) d g → ∃ X1 Y1, fl_X8_signs_49 k (f + m + 1) X bits (nI M) (sf_ (gf_Model_now Y) (nI g) d n0 j) (nI j) = k X1 (sf_ (gf_Model_now Y1) (nI g) d n0 M) ∧ fl_X9_signs_48 k' (f + m + 1) Y bits (nI M) had (nI j) = k' Y1 had ∧ RelN X1 Y1 (n0 + M) d g := by
  intro m
  induction m with
  | zero =>
    intro j f X Y hj hR
    obtain rfl : j = M := by omega
    refine ⟨X, Y, ?_, ?_, hR⟩
    · rw [fl_X8_signs_49, if_pos (Int32.le_refl _)]
    · rw [fl_X9_signs_48, if_pos (Int32.le_refl _)]
  | succ m ih =>
    intro j f X Y hj hR
    obtain ⟨R1, Y1, a1, a2, a3, a4⟩ := AD hR (by omega) (b1_e ((bits >>> ((nI j).toInt64 &&& 63))))
    obtain ⟨X2, Y2, b1, b2, b3⟩ := ih (j + 1) f (sf_TreeOdds_row X R1) Y1 (by omega) a3
    refine ⟨X2, Y2, ?_, ?_, b3⟩
    · rw [show f + (m + 1) + 1 = f + m + 1 + 1 by omega, fl_X8_signs_49, if_neg (nI_ge (by omega) (by omega)), bit_e (by omega), a1, b2_s, lt_v, lt_v, lt_v, show nI j + (1 : Int32) = nI (j + 1) from nI_1 j, ← b1, sf_, sf_c (fun k hk => (a4 k hk).symm) (nI g) d n0 j (Nat.le_refl _)]
    · rw [show f + (m + 1) + 1 = f + m + 1 + 1 by omega, fl_X9_signs_48, if_neg (nI_ge (by omega) (by omega)), a2, bd_s, lt_v, show nI j + (1 : Int32) = nI (j + 1) from nI_1 j, b2]
theorem hr_e {X : tt_TreeOdds} {n m : Nat} (hl : gf_Row_length (gf_TreeOdds_row X) = nI n) (hn : n ≤ 100) (hm : m ≤ 100) : (fn_X8_hasRoom X (nI m) = some 0 ∧ ¬ nI n + nI m ≤ (100 : Int32)) ∨ (fn_X8_hasRoom X (nI m) = some 1 ∧ n + m ≤ 100 ∧ nI n + nI m ≤ (100 : Int32)) := by
  unfold fn_X8_hasRoom
  rw [hl, nI_add]
  by_cases h : n + m ≤ 100
  · refine Or.inr ⟨?_, h, nI_le (b := 100) h (by decide)⟩
    rw [if_neg (show ¬ (100 : Int32) < nI (n + m) from nI_nlt (a := 100) h (by decide))]
  · refine Or.inl ⟨?_, nI_ge (a := 100) (by omega) (by omega)⟩
    rw [if_pos (show (100 : Int32) < nI (n + m) from nI_lt (a := 100) (by omega) (by omega))]
theorem m_signs {X : tt_TreeOdds} {Y : tt_Model} (bits : Int64) (x : Int32) (hR : Rel X Y) : Bo (fn_X8_signs X bits x) (fn_X9_signs Y bits x) := by
  obtain ⟨n, d, g, hN⟩ := hR.ex
  obtain ⟨r1, r2, r3, r4, r5, r6, r7, r8⟩ := hN.1
  unfold fn_X8_signs fn_X9_signs
  rw [in_e x 1 64 z64.2.1 z64.2.2.2.2.2.2.1]
  rcases wi_c x 1 64 with ⟨h, -⟩ | ⟨h, h1, h2⟩
  · rw [h, bd_s, bd_s, if_pos rfl, if_pos rfl]
    exact Bo.bad hR
  · obtain ⟨M, m1, m2, rfl⟩ := nt_of (lo := 1) (hi := 64) (by decide) (by decide) h1 h2
    rw [h, bd_s, bd_s, if_neg n10_, if_neg n10_, many_e r4, bd_s]
    rcases hr_e r8.1 r1 (show M ≤ 100 by omega) with ⟨e1, e2⟩ | ⟨e1, e2, e3⟩
    · rw [e1, bd_s, if_pos rfl, if_neg e2]
      exact Bo.full hR
    · rw [e1, bd_s, if_neg n10_, if_pos e3, bd_s]
      obtain ⟨S1, Y1, a1, a2, a3, a4⟩ := KE hN
      rw [a1, bd_s, lt_v, a2, bd_s]
      obtain ⟨X2, Y2, b1, b2, b3⟩ := sg_l (n0 := n) (M := M) (fun (S : tt_TreeOdds) (v : Int32) => some (v, S)) (fun (S : tt_Model) (v : Int32) => b2_ (fn_X9_costFrom S v) fun r_16 P_17 => some (r_16, P_17)) bits (nI n) m2 e2 M 0 (4999 - M) (sf_TreeOdds_states X S1) Y1 (by omega) a4
      rw [show 4999 - M + M + 1 = fu_ by unfold fu_; omega, nI_0] at b1 b2
      rw [sf_] at b1
      rw [b1, b2]
      obtain ⟨u1, u2, u3, u4, u5, u6, u7, u8⟩ := b3.1
      obtain ⟨Y3, c1, c2⟩ := cf_e (K := n) u2 u1 (by omega) u7 u4 u5 u6 (fun _ _ => rfl)
      rw [c1, b2_s, show n + M - n = M by omega]
      exact ⟨_, _, Y3, rfl, rfl, b3.rel.y (rs_p c2)⟩
theorem dr_l {d g n0 M : Nat} (k : tt_TreeOdds → Int32 → Option (Int32 × tt_TreeOdds)) (k' : tt_Model → Int32 → Option (Int32 × tt_Model)) (p : Int32) (hM : M ≤ 100) (h100 : n0 + M ≤ 100) : ∀ (m j f : Nat) (X : tt_TreeOdds) (Y : tt_Model) (x : Int64) (acc : Int32), j + m = M → RelN X Y (n0 + j) d g → ∃ X1 Y1 v, fl_X8_draw_73 k (f + m + 1) X (nI M) p x acc (nI j) = k X1 v ∧ fl_X9_draw_73 k' (f + m + 1) Y (nI M) p x acc (nI j) = k' Y1 v ∧ RelN X1 Y1 (n0 + M) d g := by
  intro m
  induction m with
  | zero =>
    intro j f X Y x acc hj hR
    obtain rfl : j = M := by omega
    refine ⟨X, Y, acc, ?_, ?_, hR⟩
    · rw [fl_X8_draw_73, if_pos (Int32.le_refl _)]
    · rw [fl_X9_draw_73, if_pos (Int32.le_refl _)]
  | succ m ih =>
    intro j f X Y x acc hj hR
    have hge : ¬ nI M ≤ nI j := nI_ge (by omega) (by omega)
    rw [show f + (m + 1) + 1 = f + m + 1 + 1 by omega, fl_X8_draw_73, fl_X9_draw_73, if_neg hge, if_neg hge, lt_v, lt_v]
    generalize (x * (1103515245 : Int64)) + (12345 : Int64) - ((x * (1103515245 : Int64)) + (12345 : Int64)) / (2147483648 : Int64) * (2147483648 : Int64) = y
    have key : ∀ s : Int32, (s = 0 ∨ s = 1) → ∃ X1 Y1 v, fn_X8_draw_116 (fl_X8_draw_73 k (f + m + 1)) X (nI M) p y acc (nI j) s = k X1 v ∧ fn_X9_draw_116 (fl_X9_draw_73 k' (f + m + 1)) Y (nI M) p y acc (nI j) s = k' Y1 v ∧ RelN X1 Y1 (n0 + M) d g := by
      intro s hs
      obtain ⟨R1, Y1, a1, a2, a3, a4⟩ := AD hR (by omega) hs
      obtain ⟨X2, Y2, v, b1, b2, b3⟩ := ih (j + 1) f (sf_TreeOdds_row X R1) Y1 y (acc + s) (by omega) a3
      refine ⟨X2, Y2, v, ?_, ?_, b3⟩
      · unfold fn_X8_draw_116
        rw [a1, b2_s, lt_v, lt_v, lt_v, show nI j + (1 : Int32) = nI (j + 1) from nI_1 j, b1]
      · unfold fn_X9_draw_116
        rw [a2, bd_s, lt_v, lt_v, show nI j + (1 : Int32) = nI (j + 1) from nI_1 j, b2]
    by_cases hc : p.toInt64 ≤ ((y / (65536 : Int64)) - (y / (65536 : Int64)) / (100 : Int64) * (100 : Int64))
    · rw [if_pos hc, if_pos hc]
      exact key 0 (Or.inl rfl)
    · rw [if_neg hc, if_neg hc]
      exact key 1 (Or.inr rfl)
theorem m_draw {X : tt_TreeOdds} {Y : tt_Model} (a x p : Int32) (hR : Rel X Y) : Bo (fn_X8_draw X a x p) (fn_X9_draw Y a x p) := by
  obtain ⟨n, d, g, hN⟩ := hR.ex
  obtain ⟨r1, r2, r3, r4, r5, r6, r7, r8⟩ := hN.1
  unfold fn_X8_draw fn_X9_draw
  rw [in_e a 0 999999 z64.1 z64.2.2.2.2.2.2.2.2.2.1]
  rcases wi_c a 0 999999 with ⟨h, -⟩ | ⟨h, -⟩
  · rw [h, bd_s, bd_s, if_pos rfl, if_pos rfl]
    exact Bo.bad hR
  · rw [h, bd_s, bd_s, if_neg n10_, if_neg n10_, in_e x 1 100 z64.2.1 z64.2.2.2.2.2.2.2.1]
    rcases wi_c x 1 100 with ⟨h', -⟩ | ⟨h', h1, h2⟩
    · rw [h', bd_s, bd_s, if_pos rfl, if_pos rfl]
      exact Bo.bad hR
    · obtain ⟨M, m1, m2, rfl⟩ := nt_of (lo := 1) (hi := 100) (by decide) (by decide) h1 h2
      rw [h', bd_s, bd_s, if_neg n10_, if_neg n10_, in_e p 0 100 z64.1 z64.2.2.2.2.2.2.2.1]
      rcases wi_c p 0 100 with ⟨h'', -⟩ | ⟨h'', -⟩
      · rw [h'', bd_s, bd_s, if_pos rfl, if_pos rfl]
        exact Bo.bad hR
      · rw [h'', bd_s, bd_s, if_neg n10_, if_neg n10_, many_e r4, bd_s]
        rcases hr_e r8.1 r1 m2 with ⟨e1, e2⟩ | ⟨e1, e2, e3⟩
        · rw [e1, bd_s, if_pos rfl, if_neg e2]
          exact Bo.full hR
        · rw [e1, bd_s, if_neg n10_, if_pos e3, lt_v]
          obtain ⟨S1, Y1, a1, a2, a3, a4⟩ := KE hN
          rw [a1, bd_s, lt_v, lt_v, a2, bd_s]
          obtain ⟨X2, Y2, v, b1, b2, b3⟩ := dr_l (n0 := n) (M := M) (fun (S : tt_TreeOdds) (v : Int32) => some (v, S)) (fun (S : tt_Model) (v : Int32) => some (v, S)) p m2 e2 M 0 (4999 - M) (sf_TreeOdds_states X S1) Y1 a.toInt64 0 (by omega) a4
          rw [show 4999 - M + M + 1 = fu_ by unfold fu_; omega, nI_0] at b1 b2
          rw [b1, b2]
          exact ⟨v, X2, Y2, rfl, rfl, b3.rel⟩
