/-! ===== pure part: told, the signs taken ===== -/
def kR (A B : tt_Model) : Prop := gf_Model_read A = gf_Model_read B ∧ gf_Model_readLong A = gf_Model_readLong B
theorem kR_tr {A B C : tt_Model} (a : kR A B) (b : kR B C) : kR A C := ⟨a.1.trans b.1, a.2.trans b.2⟩
theorem kR_p (Y : tt_Model) (v : Nat → Int32) : kR (sf_Model_past Y v) Y := ⟨rfl, rfl⟩
theorem kR_s (Y : tt_Model) (v : Int32) : kR (sf_Model_states Y v) Y := ⟨rfl, rfl⟩
theorem kR_n (Y : tt_Model) (v : Nat → Int32) : kR (sf_Model_now Y v) Y := ⟨rfl, rfl⟩
theorem k51_r (k : tt_Model → Option tt_Model) (hk : ∀ S Z, k S = some Z → kR Z S) : ∀ (f : Nat) (Y : tt_Model) (v : Int32) (Z : tt_Model), fl_X9_keep_51 k f Y v = some Z → kR Z Y := by
  intro f
  induction f with
  | zero => intro Y v Z h; cases h
  | succ f ih =>
    intro Y v Z h
    rw [fl_X9_keep_51] at h
    by_cases hc : (103 : Int32) ≤ v
    · rw [if_pos hc] at h; exact hk _ _ h
    · rw [if_neg hc] at h
      obtain ⟨-, h⟩ := gd_e h
      rw [lt_v] at h
      obtain ⟨-, h⟩ := gd_e h
      rw [lt_v, lt_v] at h
      exact kR_tr (ih _ _ _ h) (kR_p _ _)
theorem k11_r (k : tt_Model → Option tt_Model) (hk : ∀ S Z, k S = some Z → kR Z S) : ∀ (f : Nat) (Y : tt_Model) (v : Int32) (Z : tt_Model), fl_X9_keep_11 k f Y v = some Z → kR Z Y := by
  intro f
  induction f with
  | zero => intro Y v Z h; cases h
  | succ f ih =>
    intro Y v Z h
    rw [fl_X9_keep_11] at h
    by_cases hc : (515 : Int32) ≤ v
    · rw [if_pos hc] at h; exact hk _ _ h
    · rw [if_neg hc] at h
      obtain ⟨-, h⟩ := gd_e h
      rw [lt_v] at h
      obtain ⟨-, h⟩ := gd_e h
      rw [lt_v, lt_v] at h
      exact kR_tr (ih _ _ _ h) (kR_p _ _)
theorem k49_r {Y Z : tt_Model} (h : fn_X9_keep_49 Y = some Z) : kR Z Y := by
  unfold fn_X9_keep_49 at h
  refine k51_r _ (fun S Z h => ?_) _ _ _ _ h
  rw [lt_v, lt_v] at h
  cases h
  exact kR_s _ _
theorem ke_r {Y Z : tt_Model} (h : fn_X9_keep Y = some Z) : kR Z Y := by
  unfold fn_X9_keep at h
  by_cases hc : gf_Model_states Y = 6
  · rw [if_pos hc] at h
    refine k11_r _ (fun S Z h => ?_) _ _ _ _ h
    rw [lt_v, lt_v] at h
    exact kR_tr (k49_r h) (kR_s _ _)
  · rw [if_neg hc] at h; exact k49_r h
theorem tl_l {N n1 d g : Nat} (k : tt_TreeOdds → Option (Int32 × tt_TreeOdds)) (k' : tt_Model → Option (Int32 × tt_Model)) (hn : N + n1 ≤ 100) : ∀ (m i f : Nat) (X : tt_TreeOdds) (Y : tt_Model), i + m = n1 → RelN X Y (N + i) d g → TR n1 (gf_TreeOdds_text X) Y → ∃ X1 Y1, fl_X8_told_52 k (f + m + 1) X (nI i) = k X1 ∧ fl_X9_told_82 k' (f + m + 1) Y (nI i) = k' Y1 ∧ RelN X1 Y1 (N + n1) d g ∧ gf_Text_found (gf_TreeOdds_text X1) = nI n1 ∧ gf_Model_readLong Y1 = nI n1 := by
  intro m
  induction m with
  | zero =>
    intro i f X Y h1 hR hT
    obtain rfl : i = n1 := by omega
    refine ⟨X, Y, ?_, ?_, hR, hT.1, hT.2.1⟩
    · rw [fl_X8_told_52, hT.1, if_pos (Int32.le_refl _)]
    · rw [fl_X9_told_82, hT.2.1, if_pos (Int32.le_refl _)]
  | succ m ih =>
    intro i f X Y h1 hR hT
    obtain ⟨s1, s2⟩ := hT.2.2 i (by omega)
    obtain ⟨R1, Y1, a1, a2, a3, a4⟩ := AD hR (show N + i < 100 by omega) s2
    have hk : kR Y1 Y := by
      have := a2.symm.trans (ad_e (gf_Model_read Y i) (show N + i < 100 by omega) hR.1.2.2.2.1)
      rw [Option.some.inj this]
      exact kR_n _ _
    obtain ⟨X2, Y2, b1, b2, b3, b4, b5⟩ := ih (i + 1) f (sf_TreeOdds_row X R1) Y1 (by omega) a3 ⟨hT.1, hk.2.trans hT.2.1, fun j hj => by rw [hk.1]; exact hT.2.2 j hj⟩
    refine ⟨X2, Y2, ?_, ?_, b3, b4, b5⟩
    · rw [show f + (m + 1) + 1 = f + m + 1 + 1 by omega, fl_X8_told_52, hT.1, if_neg (nI_ge (by omega) (by omega)), gd_p (na_ix (show i < 100 by omega) (by decide)), na_cl (by omega), s1, a1, b2_s, lt_v, lt_v, show nI i + (1 : Int32) = nI (i + 1) from nI_1 i, b1]
    · rw [show f + (m + 1) + 1 = f + m + 1 + 1 by omega, fl_X9_told_82, hT.2.1, if_neg (nI_ge (by omega) (by omega)), gd_p (na_ix (show i < 128 by omega) (by decide)), na_cl (by omega), a2, bd_s, lt_v, show nI i + (1 : Int32) = nI (i + 1) from nI_1 i, b2]
theorem rl_p (Y : tt_Model) (a b : Int32) : sameP (sf_Model_readLong (sf_Model_place Y a) b) Y ∧ gf_Model_place (sf_Model_readLong (sf_Model_place Y a) b) = a ∧ gf_Model_readLong (sf_Model_readLong (sf_Model_place Y a) b) = b := ⟨⟨rfl, rfl, rfl, rfl, rfl, rfl⟩, rfl, rfl⟩
theorem RelN.y {X : tt_TreeOdds} {Y Y1 : tt_Model} {n d g : Nat} (h : sameP Y1 Y) (hR : RelN X Y n d g) : RelN X Y1 n d g := by
  obtain ⟨a, b, c, d, e, f⟩ := h
  unfold RelN
  rw [a, b, c, d, e, f]
  exact hR
theorem RelN.text {X : tt_TreeOdds} {Y : tt_Model} {n d g : Nat} {T : tt_Text} (hR : RelN X Y n d g) (hB : BL T (gf_TreeOdds_text X)) : RelN (sf_TreeOdds_text X T) Y n d g := by
  obtain ⟨h1, h2, ⟨t, t1, t2, t3, t4⟩, h4⟩ := hR
  exact ⟨h1, h2, ⟨t, t1, hB.2.trans t2, t3, fun k hk => ⟨by rw [show gf_TreeOdds_text (sf_TreeOdds_text X T) = T from rfl, hB.1]; exact (t4 k hk).1, (t4 k hk).2⟩⟩, h4⟩
theorem m_told {X : tt_TreeOdds} {Y : tt_Model} (hR : Rel X Y) : Bo (fn_X8_told X) (fn_X9_told Y) := by
  obtain ⟨n, d, g, hN⟩ := hR.ex
  obtain ⟨⟨r1, r2, r3, r4, r5, r6, r7, r8⟩, h2, ⟨t, t1, t2, t3, t4⟩, -⟩ := id hN
  unfold fn_X8_told fn_X9_told fn_X6_read
  rw [r8.1, show (100 : Int32) - nI n = nI (100 - n) from pk_sub (a := 100) r1, kp_e, bd_s, kp_100 (100 - n) (by omega), lt_v, lt_v, lt_v, lt_v, lt_v, lt_v, lt_v]
  obtain ⟨p1, p2, p3⟩ := rl_p Y 0 0
  generalize hT0 : sf_Text_groupStart _ _ = T0
  have c1 : gf_Text_room T0 = nI (100 - n) ∧ gf_Text_found T0 = nI 0 ∧ gf_Text_fault T0 = -1 ∧ gf_Text_cursor T0 = nI 0 ∧ gf_Text_groupStart T0 = -1 ∧ BL T0 (gf_TreeOdds_text X) := by
    subst hT0
    exact ⟨rfl, nI_0.symm, rfl, nI_0.symm, rfl, rfl, rfl⟩
  obtain ⟨c1, c2, c3, c4, c5, c6⟩ := c1
  generalize sf_Model_readLong (sf_Model_place Y 0) 0 = Y0 at p1 p2 p3 ⊢
  have hC : TC n t (gf_Model_text Y) T0 Y0 := ⟨⟨c6.2.trans t2, fun k hk => by rw [c6.1]; exact (t4 k hk).1⟩, ⟨p1.2.2.2.2.2.trans t3, p1.2.2.2.2.1⟩, by rw [p1.1]; exact r4, c1, c3⟩
  have hT : TR 0 T0 Y0 := ⟨c2, p3.trans nI_0.symm, fun i hi => absurd hi (by omega)⟩
  have hcl : ∀ F, fl_X6_read_34 (fun (S0_e63_16 : tt_Text) => fn_X6_read_76 S0_e63_16) (fun (S0_e76_21 : tt_Text) => fn_X6_read_76 S0_e76_21) F T0 (0 : Int32) = cl_ F T0 0 := fun F => by unfold cl_; rw [nI_0]
  rw [hcl]
  rcases tp_l (N := n) (t := t) (tx := gf_Model_text Y) (fun (S0_e65_21 : tt_Model) => some ((-10 : Int32) - (gf_Model_place S0_e65_21), S0_e65_21)) (fun (S0_e76_22 : tt_Model) => bd_ (fn_X9_keep S0_e76_22) fun P_23 => fl_X9_told_82 (fun (S0_e106_30 : tt_Model) => some (gf_Model_readLong S0_e106_30, S0_e106_30)) fu_ P_23 (0 : Int32)) r1 t1 (fun k hk => (t4 k hk).2) t 0 0 0 fu_ fu_ T0 Y0 (by omega) (by omega) (by omega) (by unfold fu_; omega) (by unfold fu_; omega) hC hT c4 (p2.trans nI_0.symm) c5 (by omega) with ⟨T1, Y1, e, a1, a2, a3, a4, a5, a6, a7⟩ | ⟨T1, Y1, n1, a1, a2, a3, a4, a5, a6, a7⟩
  · have g1 : gf_TreeOdds_text (sf_TreeOdds_text X T1) = T1 := rfl
    rw [a1, bd_s, lt_v, g1, a4, if_neg (n1_ e (by omega)), a2, a5]
    exact ⟨_, _, Y1, rfl, rfl, ((hN.text (BL_tr a7 c6)).y (sP_tr a6 p1)).rel⟩
  · have g1 : gf_TreeOdds_text (sf_TreeOdds_text X T1) = T1 := rfl
    have hN1 : RelN (sf_TreeOdds_text X T1) Y1 n d g := (hN.text (BL_tr a7 c6)).y (sP_tr a6 p1)
    obtain ⟨S1, Y2, b1, b2, b3, b4⟩ := KE hN1
    have hk := ke_r b2
    rw [a1, bd_s, lt_v, g1, a3, if_pos rfl, b1, bd_s, lt_v, a2, b2, bd_s]
    obtain ⟨X3, Y3, d1, d2, d3, d4, d5⟩ := tl_l (N := n) (n1 := n1) (fun (S0_e86_15 : tt_TreeOdds) => some (gf_Text_found (gf_TreeOdds_text S0_e86_15), S0_e86_15)) (fun (S0_e106_30 : tt_Model) => some (gf_Model_readLong S0_e106_30, S0_e106_30)) (by omega) n1 0 (4999 - n1) (sf_TreeOdds_states (sf_TreeOdds_text X T1) S1) Y2 (by omega) b4 ⟨a4.1, hk.2.trans a4.2.1, fun j hj => by rw [hk.1]; exact a4.2.2 j hj⟩
    rw [nI_0, show 4999 - n1 + n1 + 1 = fu_ by unfold fu_; omega] at d1 d2
    rw [d1, d2, d4, d5]
    exact ⟨_, X3, Y3, rfl, rfl, d3.rel⟩
