/-! ===== pure part: the text, a sign, the end of a group ===== -/
def TR (n : Nat) (T : tt_Text) (Y : tt_Model) : Prop := gf_Text_found T = nI n ∧ gf_Model_readLong Y = nI n ∧ ∀ i, i < n → gf_Text_signs T i = gf_Model_read Y i ∧ (gf_Model_read Y i = 0 ∨ gf_Model_read Y i = 1)
/-- what an added sign leaves -/
def FT (A B : tt_Text) : Prop := gf_Text_bytes A = gf_Text_bytes B ∧ gf_Text_length A = gf_Text_length B ∧ gf_Text_fault A = gf_Text_fault B ∧ gf_Text_room A = gf_Text_room B ∧ gf_Text_cursor A = gf_Text_cursor B ∧ gf_Text_groupStart A = gf_Text_groupStart B
theorem FT_tr {A B C : tt_Text} (h : FT A B) (k : FT B C) : FT A C := by
  obtain ⟨a, b, c, d, e, f⟩ := h
  obtain ⟨a1, b1, c1, d1, e1, f1⟩ := k
  exact ⟨a.trans a1, b.trans b1, c.trans c1, d.trans d1, e.trans e1, f.trans f1⟩
def FY (A B : tt_Model) : Prop := sameP A B ∧ gf_Model_place A = gf_Model_place B
theorem FY_tr {A B C : tt_Model} (h : FY A B) (k : FY B C) : FY A C := ⟨sP_tr h.1 k.1, h.2.trans k.2⟩
theorem sP_rf (A : tt_Model) : sameP A A := ⟨rfl, rfl, rfl, rfl, rfl, rfl⟩
theorem rd_p (Y : tt_Model) (v : Nat → Int32) (c : Int32) : FY (sf_Model_readLong (sf_Model_read Y v) c) Y ∧ gf_Model_read (sf_Model_readLong (sf_Model_read Y v) c) = v ∧ gf_Model_readLong (sf_Model_readLong (sf_Model_read Y v) c) = c ∧ gf_Model_readLong (sf_Model_read Y v) = gf_Model_readLong Y := ⟨⟨⟨rfl, rfl, rfl, rfl, rfl, rfl⟩, rfl⟩, rfl, rfl, rfl⟩
theorem as_e {n : Nat} {T : tt_Text} (s : Int32) (hn : n < 100) (h : gf_Text_found T = nI n) : ∃ T1, fn_X6_addSign T s = some T1 ∧ FT T1 T ∧ gf_Text_signs T1 = upd (gf_Text_signs T) n s ∧ gf_Text_found T1 = nI (n + 1) := by
  unfold fn_X6_addSign
  rw [h, wi_99 n hn, bd_s, if_neg n10_, gd_p (na_ix hn (by decide)), lt_v, na_cl (by omega), lt_v]
  have h2 : gf_Text_found (sf_Text_signs T (upd (gf_Text_signs T) n s)) = nI n := h
  rw [h2, show nI n + (1 : Int32) = nI (n + 1) from nI_1 n, lt_v]
  exact ⟨_, rfl, ⟨rfl, rfl, rfl, rfl, rfl, rfl⟩, rfl, rfl⟩
theorem TR_a {n : Nat} {T T1 : tt_Text} {Y Y1 : tt_Model} {s : Int32} (h : TR n T Y) (hs : s = 0 ∨ s = 1) (h1 : gf_Text_signs T1 = upd (gf_Text_signs T) n s) (h2 : gf_Text_found T1 = nI (n + 1)) (h3 : gf_Model_read Y1 = upd (gf_Model_read Y) n s) (h4 : gf_Model_readLong Y1 = nI (n + 1)) : TR (n + 1) T1 Y1 := by
  refine ⟨h2, h4, fun i hi => ?_⟩
  rw [h1, h3]
  by_cases hin : i = n
  · rw [hin, pk_us, pk_us]; exact ⟨rfl, hs⟩
  · rw [pk_un hin, pk_un hin]; exact h.2.2 i (by omega)
theorem rs_l {s : Int32} {v : Nat} (k : tt_Text → Option tt_Text) (k' : tt_Model → Option (Int32 × tt_Model)) (hs : s = 0 ∨ s = 1) (hv : v ≤ 100) : ∀ (m c n f : Nat) (T : tt_Text) (Y : tt_Model), c + m = v → n + m ≤ 100 → TR n T Y → ∃ T1 Y1, fl_X6_readSigns_85 k (f + m + 1) T s (nI v) (nI c) = k T1 ∧ fl_X9_readsSign_102 k' (f + m + 1) Y s (nI v) (nI c) = k' Y1 ∧ TR (n + m) T1 Y1 ∧ FT T1 T ∧ FY Y1 Y := by
  intro m
  induction m with
  | zero =>
    intro c n f T Y h1 h2 hT
    obtain rfl : c = v := by omega
    refine ⟨T, Y, ?_, ?_, hT, ⟨rfl, rfl, rfl, rfl, rfl, rfl⟩, ⟨sP_rf Y, rfl⟩⟩
    · rw [fl_X6_readSigns_85, if_pos (Int32.le_refl _)]
    · rw [fl_X9_readsSign_102, if_pos (Int32.le_refl _)]
  | succ m ih =>
    intro c n f T Y h1 h2 hT
    obtain ⟨T1, a1, a2, a3, a4⟩ := as_e s (show n < 100 by omega) hT.1
    obtain ⟨b1, b2, b3, b4⟩ := rd_p Y (upd (gf_Model_read Y) n s) (nI (n + 1))
    have hT1 : TR (n + 1) T1 (sf_Model_readLong (sf_Model_read Y (upd (gf_Model_read Y) n s)) (nI (n + 1))) := TR_a hT hs a3 a4 b2 b3
    obtain ⟨T2, Y2, c1, c2, c3, c4, c5⟩ := ih (c + 1) (n + 1) f T1 _ (by omega) (by omega) hT1
    refine ⟨T2, Y2, ?_, ?_, by rw [show n + (m + 1) = n + 1 + m by omega]; exact c3, FT_tr c4 a2, FY_tr c5 b1⟩
    · rw [show f + (m + 1) + 1 = f + m + 1 + 1 by omega, fl_X6_readSigns_85, if_neg (nI_ge (by omega) (by omega)), a1, bd_s, lt_v, show nI c + (1 : Int32) = nI (c + 1) from nI_1 c, c1]
    · rw [show f + (m + 1) + 1 = f + m + 1 + 1 by omega, fl_X9_readsSign_102, if_neg (nI_ge (by omega) (by omega)), hT.2.1, gd_p (na_ix (show n < 128 by omega) (by decide)), lt_v, na_cl (by omega), lt_v, b4, hT.2.1, show nI n + (1 : Int32) = nI (n + 1) from nI_1 n, lt_v, lt_v, show nI c + (1 : Int32) = nI (c + 1) from nI_1 c, c2]
def TC (N t : Nat) (tx : Nat → Int32) (T : tt_Text) (Y : tt_Model) : Prop := TB t tx T ∧ YB t tx Y ∧ gf_Model_now Y 100 = nI N ∧ gf_Text_room T = nI (100 - N) ∧ gf_Text_fault T = -1
def BL (A B : tt_Text) : Prop := gf_Text_bytes A = gf_Text_bytes B ∧ gf_Text_length A = gf_Text_length B
/-- a piece that may stand there -/
def gd1 (N t : Nat) (tx : Nat → Int32) (T : tt_Text) (Y : tt_Model) (n q : Nat) (g : Int32) (a : Option tt_Text) (b : Option (Int32 × tt_Model)) : Prop := ∃ T1 Y1 q' n', a = some T1 ∧ b = some (1, Y1) ∧ TC N t tx T1 Y1 ∧ TR n' T1 Y1 ∧ gf_Text_cursor T1 = nI q' ∧ gf_Model_place Y1 = nI q' ∧ q < q' ∧ q' ≤ t ∧ n ≤ n' ∧ n' ≤ 100 - N ∧ gf_Text_groupStart T1 = g ∧ sameP Y1 Y ∧ BL T1 T
/-- a fault -/
def bd1 (t : Nat) (T : tt_Text) (Y : tt_Model) (a : Option tt_Text) (b : Option (Int32 × tt_Model)) : Prop := ∃ T1 Y1 e, a = some T1 ∧ b = some (0, Y1) ∧ e ≤ t ∧ gf_Text_fault T1 = nI e ∧ gf_Model_place Y1 = nI e ∧ sameP Y1 Y ∧ BL T1 T
theorem TC_f {N t : Nat} {tx : Nat → Int32} {T T1 : tt_Text} {Y Y1 : tt_Model} (h : TC N t tx T Y) (a : FT T1 T) (b : sameP Y1 Y) : TC N t tx T1 Y1 := by
  obtain ⟨⟨h1, h2⟩, ⟨h3, h4⟩, h5, h6, h7⟩ := h
  obtain ⟨a1, a2, a3, a4, -, -⟩ := a
  obtain ⟨b1, -, -, -, b2, b3⟩ := b
  exact ⟨⟨a2.trans h1, fun k hk => by rw [a1]; exact h2 k hk⟩, ⟨b3.trans h3, b2.trans h4⟩, by rw [b1]; exact h5, a4.trans h6, a3.trans h7⟩
theorem n1_ (e : Nat) (h : e < 1000) : ¬ nI e = (-1 : Int32) := by
  intro x
  have := congrArg Int32.toInt x
  rw [nI_toInt (by omega), show (-1 : Int32).toInt = -1 by decide +kernel] at this
  omega
theorem r53 {N t n v q q' : Nat} {tx : Nat → Int32} {T : tt_Text} {Y : tt_Model} {s : Int32} (hN : N ≤ 100) (ht : t ≤ 120) (hC : TC N t tx T Y) (hT : TR n T Y) (hs : s = 0 ∨ s = 1) (hv1 : 1 ≤ v) (hv2 : v ≤ 99) (hq : q < q') (hq' : q' ≤ t) (hn : n ≤ 100 - N) : gd1 N t tx T Y n q (gf_Text_groupStart T) (fn_X6_readSigns_53 (sf_Text_cursor T (nI q')) s (nI q) (nI v)) (fn_X9_readsSign_76 (sf_Model_place Y (nI q')) (nI q) s (nI v)) ∨ bd1 t T Y (fn_X6_readSigns_53 (sf_Text_cursor T (nI q')) s (nI q) (nI v)) (fn_X9_readsSign_76 (sf_Model_place Y (nI q')) (nI q) s (nI v)) := by
  obtain ⟨p1, p2, p3, p4, p5, p6, p7⟩ := pl_p Y (nI q') (nI q)
  have e1 : gf_Text_fault (sf_Text_cursor T (nI q')) = -1 := hC.2.2.2.2
  have e2 : gf_Text_found (sf_Text_cursor T (nI q')) = nI n := hT.1
  have e3 : gf_Text_room (sf_Text_cursor T (nI q')) = nI (100 - N) := hC.2.2.2.1
  have e4 : gf_Model_now (sf_Model_place Y (nI q')) 100 = nI N := by rw [p5.1]; exact hC.2.2.1
  unfold fn_X6_readSigns_53 fn_X9_readsSign_76
  rw [e1, if_pos rfl, e2, e3, nI_add, many_e e4, bd_s, p7, hT.2.1, nI_add, nI_add]
  by_cases h : n + v ≤ 100 - N
  · left
    rw [if_pos (nI_le h (by omega)), if_pos (show nI (N + n + v) ≤ (100 : Int32) from nI_le (b := 100) (by omega) (by decide))]
    obtain ⟨T1, Y1, a1, a2, a3, a4, a5⟩ := rs_l (s := s) (v := v) (fun (S0_e102_16 : tt_Text) => some S0_e102_16) (fun (S0_e134_22 : tt_Model) => some ((1 : Int32), S0_e134_22)) hs (by omega) v 0 n (4999 - v) (sf_Text_cursor T (nI q')) (sf_Model_place Y (nI q')) (by omega) (by omega) ⟨e2, p7.trans hT.2.1, fun i hi => by rw [p6]; exact hT.2.2 i hi⟩
    rw [nI_0, show 4999 - v + v + 1 = fu_ by unfold fu_; omega] at a1 a2
    refine ⟨T1, Y1, q', n + v, a1, a2, TC_f (T := sf_Text_cursor T (nI q')) ⟨TB_c _ hC.1, hC.2.1, hC.2.2.1, e3, e1⟩ a4 (sP_tr a5.1 p5), a3, a4.2.2.2.2.1, a5.2.trans p1, hq, hq', by omega, h, a4.2.2.2.2.2, sP_tr a5.1 p5, a4.1, a4.2.1⟩
  · right
    rw [if_neg (nI_ge (by omega) (by omega)), if_neg (show ¬ nI (N + n + v) ≤ (100 : Int32) from nI_ge (a := 100) (by omega) (by omega)), lt_v, lt_v, p4]
    exact ⟨_, _, q, rfl, rfl, by omega, rfl, (pl_p Y (nI q) 0).1, (pl_p Y (nI q) 0).2.2.2.2.1, rfl, rfl⟩
/-- a sign -/
theorem sg_j {N t n q : Nat} {tx : Nat → Int32} {T : tt_Text} {Y : tt_Model} (hN : N ≤ 100) (ht : t ≤ 120) (hC : TC N t tx T Y) (hT : TR n T Y) (hq : q < t) (hs : tx q - 48 = 0 ∨ tx q - 48 = 1) (hn : n ≤ 100 - N) : gd1 N t tx T Y n q (gf_Text_groupStart T) (fn_X6_readSigns (sf_Text_cursor T (nI q)) (tx q - 48)) (fn_X9_readsSign (sf_Model_place Y (nI q))) ∨ bd1 t T Y (fn_X6_readSigns (sf_Text_cursor T (nI q)) (tx q - 48)) (fn_X9_readsSign (sf_Model_place Y (nI q))) := by
  obtain ⟨p1, p2, p3, p4, p5, p6, p7⟩ := pl_p Y (nI q) (nI (q + 1))
  have e2 : gf_Text_found (sf_Text_cursor T (nI q)) = nI n := hT.1
  have e3 : gf_Text_room (sf_Text_cursor T (nI q)) = nI (100 - N) := hC.2.2.2.1
  have e4 : gf_Model_now (sf_Model_place Y (nI q)) 100 = nI N := by rw [p5.1]; exact hC.2.2.1
  by_cases h : n < 100 - N
  · have hne : ¬ nI (N + n) = (100 : Int32) := fun e => absurd ((nI_eq (b := 100) (by omega) (by decide)).mp e) (by omega)
    obtain ⟨q1, q2, -⟩ := skp_r (tx := tx) _ (q + 1) rfl (show q + 1 ≤ t by omega)
    have hA : fn_X6_readSigns (sf_Text_cursor T (nI q)) (tx q - 48) = (if hr_ tx t (skp tx t (q + 1)) = 120 then b2_ (fn_X6_readTimes (sf_Text_cursor T (nI (skp tx t (q + 1))))) (fun r_18 P_19 => fn_X6_readSigns_53 P_19 (tx q - 48) (nI q) r_18) else fn_X6_readSigns_53 (sf_Text_cursor T (nI (skp tx t (q + 1)))) (tx q - 48) (nI q) 1) := by
      unfold fn_X6_readSigns
      rw [lt_v, (cu_p T (nI q) 0).1, e2, e3, if_pos (nI_lt h (by omega)), lt_v, lt_v, (cu_p T (nI q) _).2, show nI q + (1 : Int32) = nI (q + 1) from nI_1 q, sb_c ht (by omega) hC.1, bd_s, hk_e ht hC.1 q2, bd_s]
    have hB : fn_X9_readsSign (sf_Model_place Y (nI q)) = (if hr_ tx t (skp tx t (q + 1)) = 120 then b2_ (fn_X9_times (sf_Model_place Y (nI (skp tx t (q + 1) + 1)))) (fun r_26 P_27 => if r_26 = 0 then some ((0 : Int32), P_27) else fn_X9_readsSign_76 P_27 (nI q) (tx q - 48) r_26) else fn_X9_readsSign_76 (sf_Model_place Y (nI (skp tx t (q + 1)))) (nI q) (tx q - 48) 1) := by
      unfold fn_X9_readsSign
      rw [lt_v, p1, gd_p (na_ix (show q < 120 by omega) (by decide)), lt_v, p3, hC.2.1.2, na_cl (by omega), many_e e4, bd_s, p7, hT.2.1, nI_add, if_neg hne, lt_v, lt_v, show nI q + (1 : Int32) = nI (q + 1) from nI_1 q, p4, hy_e ht (by omega) hC.2.1, b2_s, (pl_p Y (nI (skp tx t (q + 1))) 0).1, show nI (skp tx t (q + 1)) + (1 : Int32) = nI (skp tx t (q + 1) + 1) from nI_1 _, lt_v, lt_v, (pl_p Y (nI (skp tx t (q + 1))) (nI (skp tx t (q + 1) + 1))).2.2.2.1]
    rw [hA, hB]
    generalize skp tx t (q + 1) = r at *
    by_cases hx : hr_ tx t r = 120
    · obtain ⟨hr1, -⟩ := hr_b (by decide) hx
      rw [if_pos hx, if_pos hx]
      rcases tm_e ht hr1 hC.1 hC.2.1 with ⟨v, u, v1, v2, u1, u2, a1, a2⟩ | ⟨w, e, u, u1, a1, a2⟩
      · rw [a1, a2, b2_s, b2_s, if_neg (nI_ne0 (by omega) (by omega))]
        exact r53 hN ht hC hT hs v1 v2 (by omega) u2 hn
      · have e1 : gf_Text_fault (sf_Text_fault (sf_Text_cursor T e) (nI u)) = nI u := rfl
        rw [a1, a2, b2_s, b2_s, if_pos rfl]
        unfold fn_X6_readSigns_53
        rw [e1, if_neg (n1_ u (by omega))]
        exact Or.inr ⟨_, _, u, rfl, rfl, u1, rfl, (pl_p Y (nI u) 0).1, (pl_p Y (nI u) 0).2.2.2.2.1, rfl, rfl⟩
    · rw [if_neg hx, if_neg hx]
      exact r53 (v := 1) hN ht hC hT hs (by decide) (by decide) (by omega) q2 hn
  · have h100 : nI (N + n) = (100 : Int32) := by rw [show N + n = 100 by omega]; rfl
    have hA : fn_X6_readSigns (sf_Text_cursor T (nI q)) (tx q - 48) = some (sf_Text_fault (sf_Text_cursor T (nI q)) (nI q)) := by
      unfold fn_X6_readSigns
      rw [lt_v, (cu_p T (nI q) 0).1, e2, e3, if_neg (nI_nlt (by omega) (by omega)), lt_v]
    have hB : fn_X9_readsSign (sf_Model_place Y (nI q)) = some ((0 : Int32), sf_Model_place Y (nI q)) := by
      unfold fn_X9_readsSign
      rw [lt_v, p1, gd_p (na_ix (show q < 120 by omega) (by decide)), lt_v, many_e e4, bd_s, p7, hT.2.1, nI_add, if_pos h100]
    rw [hA, hB]
    exact Or.inr ⟨_, _, q, rfl, rfl, by omega, rfl, p1, p5, rfl, rfl⟩
/-- the reference's end of a group -/
def gend_ (S0_e64_22 : tt_Model) (x1_e64_22 : Int32) : Option (Int32 × tt_Model) :=
  lt_ (gf_Model_place S0_e64_22) fun y_23 => lt_ ((gf_Model_readLong S0_e64_22) - x1_e64_22) fun y_24 => if y_24 = 0 then some ((0 : Int32), S0_e64_22) else lt_ ((gf_Model_place S0_e64_22) + (1 : Int32)) fun y_26 => lt_ (sf_Model_place S0_e64_22 y_26) fun S_27 => b2_ (fn_X9_here S_27) fun r_28 P_29 => if r_28 = (120 : Int32) then lt_ ((gf_Model_place P_29) + (1 : Int32)) fun y_32 => lt_ (sf_Model_place P_29 y_32) fun S_33 => b2_ (fn_X9_times S_33) fun r_34 P_35 => if r_34 = 0 then some ((0 : Int32), P_35) else bd_ (fn_X9_many P_35) fun r_38 => if ((r_38 + x1_e64_22) + (r_34 * y_24)) ≤ (100 : Int32) then fl_X9_readsMany_152 (fun (S0_e197_49 : tt_Model) => some ((1 : Int32), S0_e197_49)) fu_ P_35 y_24 r_34 y_24 else lt_ (sf_Model_place P_35 y_23) fun S_50 => some ((0 : Int32), S_50) else some ((0 : Int32), P_29)
theorem ge_l {s z v M : Nat} (k : tt_Text → Option tt_Text) (k' : tt_Model → Option (Int32 × tt_Model)) (hz : 1 ≤ z) (hv : 1 ≤ v) (hM : z * (v - 1) = M) (hb : s + z + M ≤ 100) : ∀ (m i f : Nat) (T : tt_Text) (Y : tt_Model), i + m = M → TR (s + z + i) T Y → ∃ T1 Y1, fl_X6_readGroupEnd_90 k (f + m + 1) T (nI v) (nI s) (nI z) (nI i) = k T1 ∧ fl_X9_readsMany_152 k' (f + m + 1) Y (nI z) (nI v) (nI (z + i)) = k' Y1 ∧ TR (s + z + M) T1 Y1 ∧ FT T1 T ∧ FY Y1 Y := by
  obtain ⟨v', rfl⟩ : ∃ v', v = v' + 1 := ⟨v - 1, by omega⟩
  have eM : nI z * (nI (v' + 1) - (1 : Int32)) = nI M := by rw [nI_pred, pk_mul, ← hM, Nat.add_sub_cancel]
  have eM' : nI (v' + 1) * nI z = nI (z + M) := by rw [pk_mul, ← hM, Nat.add_sub_cancel, Nat.mul_comm, Nat.mul_succ, Nat.add_comm]
  intro m
  induction m with
  | zero =>
    intro i f T Y h1 hT
    obtain rfl : i = M := by omega
    refine ⟨T, Y, ?_, ?_, hT, ⟨rfl, rfl, rfl, rfl, rfl, rfl⟩, ⟨sP_rf Y, rfl⟩⟩
    · rw [fl_X6_readGroupEnd_90, eM, if_pos (Int32.le_refl _)]
    · rw [fl_X9_readsMany_152, eM', if_pos (Int32.le_refl _)]
  | succ m ih =>
    intro i f T Y h1 hT
    obtain ⟨t1, t2, t3⟩ := id hT
    obtain ⟨g1, g2⟩ := t3 (s + i) (by omega)
    obtain ⟨T1, a1, a2, a3, a4⟩ := as_e (gf_Model_read Y (s + i)) (show s + z + i < 100 by omega) t1
    obtain ⟨b1, b2, b3, b4⟩ := rd_p Y (upd (gf_Model_read Y) (s + z + i) (gf_Model_read Y (s + i))) (nI (s + z + i + 1))
    have hT1 : TR (s + z + i + 1) T1 (sf_Model_readLong (sf_Model_read Y (upd (gf_Model_read Y) (s + z + i) (gf_Model_read Y (s + i)))) (nI (s + z + i + 1))) := TR_a hT g2 a3 a4 b2 b3
    obtain ⟨T2, Y2, c1, c2, c3, c4, c5⟩ := ih (i + 1) f T1 _ (by omega) hT1
    have hsig : fn_X6_signAt T (nI (s + i)) = some (gf_Model_read Y (s + i)) := by
      unfold fn_X6_signAt
      have hw : fn_X8_within (nI (s + i)) 0 (nI (s + z + i) - 1) = some 1 := by
        obtain ⟨z', rfl⟩ : ∃ z', z = z' + 1 := ⟨z - 1, by omega⟩
        rw [show s + (z' + 1) + i = s + z' + i + 1 by omega, nI_pred, wi_e, if_neg]
        rintro (h' | h')
        · exact nI_pos (by omega) h'
        · exact nI_nlt (by omega) (by omega) h'
      rw [t1, hw, bd_s, if_neg n10_, gd_p (na_ix (show s + i < 100 by omega) (by decide)), na_cl (by omega), g1]
    refine ⟨T2, Y2, ?_, ?_, c3, FT_tr c4 a2, FY_tr c5 b1⟩
    · rw [show f + (m + 1) + 1 = f + m + 1 + 1 by omega, fl_X6_readGroupEnd_90, eM, if_neg (nI_ge (by omega) (by omega)), nI_add, hsig, bd_s, a1, bd_s, lt_v, show nI i + (1 : Int32) = nI (i + 1) from nI_1 i, c1]
    · rw [show f + (m + 1) + 1 = f + m + 1 + 1 by omega, fl_X9_readsMany_152, eM', if_neg (nI_ge (by omega) (by omega)), t2, pk_sub (by omega), show s + z + i - z = s + i by omega, gd_p (na_ix (show s + i < 128 by omega) (by decide)), lt_v, gd_p (na_ix (show s + z + i < 128 by omega) (by decide)), lt_v, na_cl (by omega), na_cl (by omega), lt_v, b4, t2, show nI (s + z + i) + (1 : Int32) = nI (s + z + i + 1) from nI_1 _, lt_v, lt_v, show nI (z + i) + (1 : Int32) = nI (z + (i + 1)) from nI_1 _, c2]
theorem mx0 (s : Nat) (h : s < 1000) : (if (0 : Int32) < nI s then nI s else (0 : Int32)) = nI s := by
  by_cases h0 : s = 0
  · rw [h0]; decide +kernel
  · rw [if_pos (show (0 : Int32) < nI s from nI_lt (a := 0) (by omega) (by omega))]
/-- the end of a group -/
theorem ge_j {N t n q s : Nat} {tx : Nat → Int32} {T : tt_Text} {Y : tt_Model} (hN : N ≤ 100) (ht : t ≤ 120) (hC : TC N t tx T Y) (hT : TR n T Y) (hq : q < t) (hs : s < n) (hn : n ≤ 100 - N) (hg : gf_Text_groupStart T = nI s) : gd1 N t tx T Y n q (-1) (fn_X6_readGroupEnd (sf_Text_cursor T (nI q))) (gend_ (sf_Model_place Y (nI q)) (nI s)) ∨ bd1 t T Y (fn_X6_readGroupEnd (sf_Text_cursor T (nI q))) (gend_ (sf_Model_place Y (nI q)) (nI s)) := by
  obtain ⟨p1, p2, p3, p4, p5, p6, p7⟩ := pl_p Y (nI q) (nI (q + 1))
  obtain ⟨q1, q2, -⟩ := skp_r (tx := tx) _ (q + 1) rfl (show q + 1 ≤ t by omega)
  have hA : fn_X6_readGroupEnd (sf_Text_cursor T (nI q)) = (if hr_ tx t (skp tx t (q + 1)) = 120 then b2_ (fn_X6_readTimes (sf_Text_cursor T (nI (skp tx t (q + 1))))) (fun r_9 P_10 => if (gf_Text_fault P_10) = (-1 : Int32) then lt_ (if (0 : Int32) < (gf_Text_groupStart P_10) then (gf_Text_groupStart P_10) else (0 : Int32)) fun y_13 => lt_ ((gf_Text_found P_10) - y_13) fun y_14 => if (y_13 + (y_14 * r_9)) ≤ (gf_Text_room P_10) then fl_X6_readGroupEnd_90 (fun (S0_e119_22 : tt_Text) => lt_ (sf_Text_groupStart S0_e119_22 (-1 : Int32)) fun S_23 => some S_23) fu_ P_10 r_9 y_13 y_14 (0 : Int32) else lt_ (sf_Text_fault P_10 (nI q)) fun S_24 => some S_24 else some P_10) else some (sf_Text_fault (sf_Text_cursor T (nI (skp tx t (q + 1)))) (nI (skp tx t (q + 1))))) := by
    unfold fn_X6_readGroupEnd
    rw [lt_v, lt_v, lt_v, (cu_p T (nI q) 0).1, (cu_p T (nI q) _).2, show nI q + (1 : Int32) = nI (q + 1) from nI_1 q, sb_c ht (by omega) hC.1, bd_s, hk_e ht hC.1 q2, bd_s, lt_v (gf_Text_cursor (sf_Text_cursor T (nI (skp tx t (q + 1))))), (cu_p T (nI (skp tx t (q + 1))) 0).1, lt_v (sf_Text_fault (sf_Text_cursor T (nI (skp tx t (q + 1)))) (nI (skp tx t (q + 1))))]
  have hB : gend_ (sf_Model_place Y (nI q)) (nI s) = (if hr_ tx t (skp tx t (q + 1)) = 120 then b2_ (fn_X9_times (sf_Model_place Y (nI (skp tx t (q + 1) + 1)))) (fun r_34 P_35 => if r_34 = 0 then some ((0 : Int32), P_35) else bd_ (fn_X9_many P_35) fun r_38 => if ((r_38 + nI s) + (r_34 * nI (n - s))) ≤ (100 : Int32) then fl_X9_readsMany_152 (fun (S0_e197_49 : tt_Model) => some ((1 : Int32), S0_e197_49)) fu_ P_35 (nI (n - s)) r_34 (nI (n - s)) else lt_ (sf_Model_place P_35 (nI q)) fun S_50 => some ((0 : Int32), S_50)) else some ((0 : Int32), sf_Model_place Y (nI (skp tx t (q + 1))))) := by
    unfold gend_
    rw [lt_v, lt_v, p1, p7, hT.2.1, pk_sub (by omega), if_neg (nI_ne0 (show 0 < n - s by omega) (by omega)), show nI q + (1 : Int32) = nI (q + 1) from nI_1 q, lt_v, lt_v, p4, hy_e ht (by omega) hC.2.1, b2_s, (pl_p Y (nI (skp tx t (q + 1))) 0).1, show nI (skp tx t (q + 1)) + (1 : Int32) = nI (skp tx t (q + 1) + 1) from nI_1 _, lt_v (nI (skp tx t (q + 1) + 1)), lt_v (sf_Model_place (sf_Model_place Y (nI (skp tx t (q + 1)))) (nI (skp tx t (q + 1) + 1))), (pl_p Y (nI (skp tx t (q + 1))) (nI (skp tx t (q + 1) + 1))).2.2.2.1]
  rw [hA, hB]
  generalize skp tx t (q + 1) = r at *
  by_cases hx : hr_ tx t r = 120
  · obtain ⟨hr1, -⟩ := hr_b (by decide) hx
    rw [if_pos hx, if_pos hx]
    rcases tm_e ht hr1 hC.1 hC.2.1 with ⟨v, u, v1, v2, u1, u2, a1, a2⟩ | ⟨w, e, u, u1, a1, a2⟩
    · obtain ⟨w1, w2, w3, w4, w5, w6, w7⟩ := pl_p Y (nI u) (nI q)
      have e1 : gf_Text_fault (sf_Text_cursor T (nI u)) = -1 := hC.2.2.2.2
      have e2 : gf_Text_found (sf_Text_cursor T (nI u)) = nI n := hT.1
      have e3 : gf_Text_room (sf_Text_cursor T (nI u)) = nI (100 - N) := hC.2.2.2.1
      have e4 : gf_Model_now (sf_Model_place Y (nI u)) 100 = nI N := by rw [w5.1]; exact hC.2.2.1
      have e5 : gf_Text_groupStart (sf_Text_cursor T (nI u)) = nI s := hg
      have hzv : (n - s) * v ≤ 100 * 99 := Nat.mul_le_mul (by omega) v2
      rw [a1, a2, b2_s, b2_s, if_neg (nI_ne0 (by omega) (by omega)), e1, if_pos rfl, e5, mx0 s (by omega), lt_v, e2, pk_sub (by omega), lt_v, pk_mul, nI_add, e3, many_e e4, bd_s, nI_add, pk_mul, nI_add, Nat.mul_comm v]
      by_cases h : s + (n - s) * v ≤ 100 - N
      · left
        rw [if_pos (nI_le h (by omega)), if_pos (show nI (N + s + (n - s) * v) ≤ (100 : Int32) from nI_le (b := 100) (by omega) (by decide))]
        obtain ⟨M, hM⟩ : ∃ M, (n - s) * (v - 1) = M := ⟨_, rfl⟩
        have hMv : (n - s) * v = (n - s) + M := by
          obtain ⟨v', rfl⟩ : ∃ v', v = v' + 1 := ⟨v - 1, by omega⟩
          rw [← hM, Nat.add_sub_cancel, Nat.mul_succ, Nat.add_comm]
        obtain ⟨T1, Y1, b1, b2, b3, b4, b5⟩ := ge_l (s := s) (z := n - s) (v := v) (M := M) (fun (S0_e119_22 : tt_Text) => lt_ (sf_Text_groupStart S0_e119_22 (-1 : Int32)) fun S_23 => some S_23) (fun (S0_e197_49 : tt_Model) => some ((1 : Int32), S0_e197_49)) (by omega) v1 hM (by omega) M 0 (4999 - M) (sf_Text_cursor T (nI u)) (sf_Model_place Y (nI u)) (by omega) (by rw [show s + (n - s) + 0 = n by omega]; exact ⟨e2, w7.trans hT.2.1, fun i hi => by rw [w6]; exact hT.2.2 i hi⟩)
        rw [nI_0, show 4999 - M + M + 1 = fu_ by unfold fu_; omega, lt_v] at b1
        rw [Nat.add_zero, show 4999 - M + M + 1 = fu_ by unfold fu_; omega] at b2
        have hC1 : TC N t tx T1 Y1 := TC_f (T := sf_Text_cursor T (nI u)) ⟨TB_c _ hC.1, hC.2.1, hC.2.2.1, e3, e1⟩ b4 (sP_tr b5.1 w5)
        exact ⟨_, Y1, u, s + (n - s) + M, b1, b2, ⟨⟨hC1.1.1, hC1.1.2⟩, hC1.2.1, hC1.2.2.1, hC1.2.2.2.1, hC1.2.2.2.2⟩, b3, b4.2.2.2.2.1, b5.2.trans w1, by omega, u2, by omega, by omega, rfl, sP_tr b5.1 w5, b4.1, b4.2.1⟩
      · right
        rw [if_neg (nI_ge (by omega) (by omega)), if_neg (show ¬ nI (N + s + (n - s) * v) ≤ (100 : Int32) from nI_ge (a := 100) (by omega) (by omega)), lt_v, lt_v, w4]
        exact ⟨_, _, q, rfl, rfl, by omega, rfl, (pl_p Y (nI q) 0).1, (pl_p Y (nI q) 0).2.2.2.2.1, rfl, rfl⟩
    · have e1 : gf_Text_fault (sf_Text_fault (sf_Text_cursor T e) (nI u)) = nI u := rfl
      rw [a1, a2, b2_s, b2_s, if_pos rfl, e1, if_neg (n1_ u (by omega))]
      exact Or.inr ⟨_, _, u, rfl, rfl, u1, rfl, (pl_p Y (nI u) 0).1, (pl_p Y (nI u) 0).2.2.2.2.1, rfl, rfl⟩
  · rw [if_neg hx, if_neg hx]
    exact Or.inr ⟨_, _, r, rfl, rfl, q2, rfl, (pl_p Y (nI r) 0).1, (pl_p Y (nI r) 0).2.2.2.2.1, rfl, rfl⟩
