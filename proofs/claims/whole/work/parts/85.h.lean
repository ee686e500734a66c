/-! ===== pure part: best ===== -/
theorem bs_c {r r' : Nat → Int32} {n : Nat} (h : ∀ k, k < n → r k = r' k) : ∀ c, bs_ r n c = bs_ r' n c := by
  intro c
  induction c with
  | zero => rw [bs_, bs_, cs_c h _ _ (Nat.le_refl n)]
  | succ c ih => rw [bs_, bs_, ih, cs_c h _ _ (Nat.le_refl n)]
theorem bs_le (r : Nat → Int32) (n : Nat) : ∀ c, (bs_ r n c).1 ≤ c := by
  intro c
  induction c with
  | zero => exact Nat.le_refl 0
  | succ c ih =>
    rw [bs_]
    split
    · exact Nat.le_refl _
    · omega
theorem ij_l {C : tt_Contest} {R : tt_Row} {N : Nat} (hN : N ≤ 100) (hl : gf_Contest_length C = nI N) : ∀ (m n f : Nat), n + m = N → fl_X1_isJudged_15 C R (f + m + 1) (nI n) = some 0 ∨ (fl_X1_isJudged_15 C R (f + m + 1) (nI n) = some 1 ∧ ∀ k, n ≤ k → k < N → gf_Contest_judged C k = gf_Row_signs R k) := by
  intro m
  induction m with
  | zero =>
    intro n f h1
    rw [fl_X1_isJudged_15, hl, if_pos (nI_le (by omega) (by omega))]
    exact Or.inr ⟨rfl, fun k a b => absurd a (by omega)⟩
  | succ m ih =>
    intro n f h1
    have hx : ix_ (nI n) 100 := na_ix (by omega) (by decide)
    rw [show f + (m + 1) + 1 = f + m + 1 + 1 by omega, fl_X1_isJudged_15, hl, if_neg (nI_ge (by omega) (by omega)), gd_p hx, gd_p hx, na_cl (by omega)]
    by_cases he : gf_Contest_judged C n = gf_Row_signs R n
    · rw [if_pos he, lt_v, show nI n + (1 : Int32) = nI (n + 1) from nI_1 n]
      rcases ih (n + 1) f (by omega) with h | ⟨h, h2⟩
      · exact Or.inl h
      · refine Or.inr ⟨h, fun k a b => ?_⟩
        by_cases hk : k = n
        · rw [hk]; exact he
        · exact h2 k (by omega) b
    · rw [if_neg he]; exact Or.inl rfl
def JJ (r : Nat → Int32) (n : Nat) (C : tt_Contest) (c : Nat) : Prop := gf_Contest_depth C = nI ((bs_ r n c).1 / 4) ∧ gf_Contest_guesser C = nI ((bs_ r n c).1 % 4) ∧ gf_Contest_price C = (bs_ r n c).2
theorem bs_s (r : Nat → Int32) (n a b : Nat) (hb : b < 4) (h0 : 0 < 4 * a + b) : bs_ r n (4 * a + b) = if cs_ r (nI b) a n < (bs_ r n (4 * a + b - 1)).2 then (4 * a + b, cs_ r (nI b) a n) else bs_ r n (4 * a + b - 1) := by
  obtain ⟨c, hc⟩ : ∃ c, 4 * a + b = c + 1 := ⟨4 * a + b - 1, by omega⟩
  rw [hc, bs_, show (c + 1) % 4 = b by omega, show (c + 1) / 4 = a by omega, Nat.add_sub_cancel]
theorem JJ_n {r : Nat → Int32} {n a b : Nat} {C : tt_Contest} {x : Int32} (hb : b < 4) (h : bs_ r n (4 * a + b) = (4 * a + b, x)) : JJ r n (sf_Contest_price (sf_Contest_guesser (sf_Contest_depth C (nI a)) (nI b)) x) (4 * a + b) := by
  unfold JJ
  rw [h]
  refine ⟨?_, ?_, rfl⟩
  · show nI a = nI ((4 * a + b) / 4)
    rw [show (4 * a + b) / 4 = a by omega]
  · show nI b = nI ((4 * a + b) % 4)
    rw [show (4 * a + b) % 4 = b by omega]
theorem nI_z {a : Nat} (h : a < 2 ^ 31) : nI a = 0 ↔ a = 0 := by
  rw [← nI_0]
  exact nI_eq h (by decide)
theorem ju_20 {r : Nat → Int32} {N a : Nat} {R : tt_Row} (k : tt_Contest → tt_Pasts → Int32 → Option (tt_Contest × tt_Pasts)) (ha : a ≤ 6) (hN : N ≤ 100) (hr : b01 r N) (hl : gf_Row_length R = nI N) (hs : ∀ i, i < N → gf_Row_signs R i = r i) : ∀ (m b f : Nat) (C : tt_Contest) (P : tt_Pasts), b + m = 4 → (0 < 4 * a + b → JJ r N C (4 * a + b - 1)) → ∃ C1 Q, fl_X1_judge_20 k R (f + m + 1) C P (nI a) (nI b) = k C1 Q (nI a) ∧ JJ r N C1 (4 * a + 3) := by
  intro m
  induction m with
  | zero =>
    intro b f C P h1 hJ
    obtain rfl : b = 4 := by omega
    refine ⟨C, P, ?_, hJ (by omega)⟩
    rw [fl_X1_judge_20, if_pos (show (3 : Int32) < nI 4 from nI_lt (a := 3) (by decide) (by decide))]
  | succ m ih =>
    intro b f C P h1 hJ
    obtain ⟨Q, q1, q2⟩ := pr_e (d := a) (g := b) P ha (by omega) hN hr hl hs
    have n1 : ¬ (3 : Int32) < nI b := nI_nlt (a := 3) (by omega) (by decide)
    rw [show f + (m + 1) + 1 = f + m + 1 + 1 by omega, fl_X1_judge_20, if_neg n1, q1, b2_s]
    have k71 : ∀ C2 : tt_Contest, JJ r N C2 (4 * a + b) → ∃ C1 Q2, fn_X1_judge_71 (fl_X1_judge_20 k R (f + m + 1)) R C2 Q (nI a) (nI b) = k C1 Q2 (nI a) ∧ JJ r N C1 (4 * a + 3) := by
      intro C2 h2
      unfold fn_X1_judge_71
      rw [lt_v, show nI b + (1 : Int32) = nI (b + 1) from nI_1 b]
      exact ih (b + 1) f C2 Q (by omega) (fun _ => h2)
    have k54 : bs_ r N (4 * a + b) = (4 * a + b, cs_ r (nI b) a N) → ∃ C1 Q2, fn_X1_judge_54 (fl_X1_judge_20 k R (f + m + 1)) R C Q (nI a) (nI b) (cs_ r (nI b) a N) = k C1 Q2 (nI a) ∧ JJ r N C1 (4 * a + 3) := by
      intro h2
      unfold fn_X1_judge_54
      rw [lt_v, lt_v, lt_v]
      exact k71 _ (JJ_n (by omega) h2)
    have k45 : 0 < 4 * a + b → ∃ C1 Q2, fn_X1_judge_45 (fl_X1_judge_20 k R (f + m + 1)) R C Q (nI a) (nI b) (cs_ r (nI b) a N) = k C1 Q2 (nI a) ∧ JJ r N C1 (4 * a + 3) := by
      intro h0
      have hj := hJ h0
      have hb := bs_s r N a b (by omega) h0
      unfold fn_X1_judge_45
      rw [hj.2.2]
      by_cases hc : cs_ r (nI b) a N < (bs_ r N (4 * a + b - 1)).2
      · rw [if_neg (Int32.not_le.mpr hc)]
        rw [if_pos hc] at hb
        exact k54 hb
      · rw [if_pos (Int32.not_lt.mp hc)]
        rw [if_neg hc] at hb
        refine k71 C ?_
        unfold JJ
        rw [hb]
        exact hj
    by_cases ha0 : a = 0
    · rw [if_pos (by rw [ha0, nI_0])]
      by_cases hb0 : b = 0
      · rw [if_pos (by rw [hb0, nI_0])]
        refine k54 ?_
        subst ha0 hb0
        rfl
      · rw [if_neg (nI_ne0 (by omega) (by omega))]
        exact k45 (by omega)
    · rw [if_neg (nI_ne0 (by omega) (by omega))]
      exact k45 (by omega)
theorem ju_11 {r : Nat → Int32} {N : Nat} {R : tt_Row} (k : tt_Contest → tt_Pasts → Option (tt_Contest × tt_Pasts)) (hN : N ≤ 100) (hr : b01 r N) (hl : gf_Row_length R = nI N) (hs : ∀ i, i < N → gf_Row_signs R i = r i) : ∀ (m a f : Nat) (C : tt_Contest) (P : tt_Pasts), a + m = 7 → (0 < 4 * a → JJ r N C (4 * a - 1)) → ∃ C1 Q, fl_X1_judge_11 k R (f + m + 1) C P (nI a) = k C1 Q ∧ JJ r N C1 27 := by
  intro m
  induction m with
  | zero =>
    intro a f C P h1 hJ
    obtain rfl : a = 7 := by omega
    refine ⟨C, P, ?_, hJ (by decide)⟩
    rw [fl_X1_judge_11, if_pos (show (6 : Int32) < nI 7 from nI_lt (a := 6) (by decide) (by decide))]
  | succ m ih =>
    intro a f C P h1 hJ
    have n1 : ¬ (6 : Int32) < nI a := nI_nlt (a := 6) (by omega) (by decide)
    rw [show f + (m + 1) + 1 = f + m + 1 + 1 by omega, fl_X1_judge_11, if_neg n1]
    obtain ⟨C1, Q, e1, e2⟩ := ju_20 (a := a) (fun (S0_e77_16 : tt_Contest) (S2_e77_16 : tt_Pasts) (x3_e77_16 : Int32) => lt_ (x3_e77_16 + (1 : Int32)) fun y_17 => fl_X1_judge_11 k R (f + m + 1) S0_e77_16 S2_e77_16 y_17) (by omega) hN hr hl hs 4 0 4995 C P (by omega) hJ
    rw [nI_0, show 4995 + 4 + 1 = fu_ from rfl] at e1
    rw [e1, lt_v, show nI a + (1 : Int32) = nI (a + 1) from nI_1 a]
    exact ih (a + 1) f C1 Q (by omega) (fun _ => by rw [show 4 * (a + 1) - 1 = 4 * a + 3 by omega]; exact e2)
theorem ju_93 {N : Nat} {R : tt_Row} (k : tt_Contest → tt_Pasts → Option (tt_Contest × tt_Pasts)) (hN : N ≤ 100) (P : tt_Pasts) : ∀ (m n f : Nat) (C : tt_Contest), n + m = N → gf_Contest_length C = nI N → (∀ i, i < n → gf_Contest_judged C i = gf_Row_signs R i) → ∃ C1, fl_X1_judge_93 k R (f + m + 1) C P (nI n) = k C1 P ∧ gf_Contest_length C1 = nI N ∧ gf_Contest_depth C1 = gf_Contest_depth C ∧ gf_Contest_guesser C1 = gf_Contest_guesser C ∧ gf_Contest_price C1 = gf_Contest_price C ∧ ∀ i, i < N → gf_Contest_judged C1 i = gf_Row_signs R i := by
  intro m
  induction m with
  | zero =>
    intro n f C h1 h2 h3
    obtain rfl : n = N := by omega
    refine ⟨C, ?_, h2, rfl, rfl, rfl, h3⟩
    rw [fl_X1_judge_93, h2, if_pos (Int32.le_refl _)]
  | succ m ih =>
    intro n f C h1 h2 h3
    have hx : ix_ (nI n) 100 := na_ix (by omega) (by decide)
    rw [show f + (m + 1) + 1 = f + m + 1 + 1 by omega, fl_X1_judge_93, h2, if_neg (nI_ge (by omega) (by omega)), gd_p hx, lt_v, gd_p hx, lt_v, lt_v, na_cl (by omega), show nI n + (1 : Int32) = nI (n + 1) from nI_1 n]
    refine ih (n + 1) f _ (by omega) h2 (fun i hi => ?_)
    show upd (gf_Contest_judged C) n _ i = _
    by_cases hin : i = n
    · rw [hin, pk_us]
    · rw [pk_un hin]; exact h3 i (by omega)
theorem ju_e {C : tt_Contest} {R : tt_Row} {r : Nat → Int32} {N : Nat} (P : tt_Pasts) (hC : CO C) (hN : N ≤ 100) (hr : b01 r N) (hl : gf_Row_length R = nI N) (hs : ∀ i, i < N → gf_Row_signs R i = r i) : ∃ C1 Q, fn_X1_judge C R P = some (C1, Q) ∧ CO C1 ∧ JJ r N C1 27 := by
  have hnew : ∃ C1 Q, fl_X1_judge_11 (fun (S0_e83_18 : tt_Contest) (S2_e83_18 : tt_Pasts) => lt_ (gf_Row_length R) fun y_19 => lt_ (sf_Contest_length S0_e83_18 y_19) fun S_20 => fl_X1_judge_93 (fun (S0_e119_27 : tt_Contest) (S2_e119_27 : tt_Pasts) => some (S0_e119_27, S2_e119_27)) R fu_ S_20 S2_e83_18 (0 : Int32)) R fu_ C P (0 : Int32) = some (C1, Q) ∧ CO C1 ∧ JJ r N C1 27 := by
    obtain ⟨C1, Q, e1, e2⟩ := ju_11 (fun (S0_e83_18 : tt_Contest) (S2_e83_18 : tt_Pasts) => lt_ (gf_Row_length R) fun y_19 => lt_ (sf_Contest_length S0_e83_18 y_19) fun S_20 => fl_X1_judge_93 (fun (S0_e119_27 : tt_Contest) (S2_e119_27 : tt_Pasts) => some (S0_e119_27, S2_e119_27)) R fu_ S_20 S2_e83_18 (0 : Int32)) hN hr hl hs 7 0 4992 C P (by omega) (fun h => absurd h (by decide))
    rw [nI_0, show 4992 + 7 + 1 = fu_ from rfl] at e1
    obtain ⟨C2, f1, f2, f3, f4, f5, f6⟩ := ju_93 (N := N) (R := R) (fun (S0_e119_27 : tt_Contest) (S2_e119_27 : tt_Pasts) => some (S0_e119_27, S2_e119_27)) hN Q N 0 (4999 - N) (sf_Contest_length C1 (nI N)) (by omega) rfl (fun i hi => absurd hi (by omega))
    rw [nI_0, show 4999 - N + N + 1 = fu_ by unfold fu_; omega] at f1
    obtain ⟨j1, j2, j3⟩ := e2
    refine ⟨C2, Q, ?_, ⟨r, N, hN, hr, f2, fun k hk => (f6 k hk).trans (hs k hk), f3.trans j1, f4.trans j2, f5.trans j3⟩, f3.trans j1, f4.trans j2, f5.trans j3⟩
    rw [e1, lt_v, lt_v, hl, f1]
  obtain ⟨r', n', c1, c2, c3, c4, c5, c6, c7⟩ := id hC
  unfold fn_X1_judge fn_X1_isJudged
  rw [c3, hl]
  by_cases hn : n' = N
  · subst hn
    rw [if_pos rfl]
    have t := ij_l (C := C) (R := R) c1 c3 n' 0 (4999 - n') (by omega)
    rw [nI_0, show 4999 - n' + n' + 1 = fu_ by unfold fu_; omega] at t
    rcases t with h | ⟨h, h2⟩
    · rw [h, bd_s, if_pos rfl, ← hl]; exact hnew
    · rw [h, bd_s, if_neg n10_]
      have hb := bs_c (r := r') (r' := r) (n := n') (fun k hk => by rw [← c4 k hk, h2 k (by omega) hk, hs k hk]) 27
      exact ⟨C, P, rfl, hC, by rw [← hb]; exact c5, by rw [← hb]; exact c6, by rw [← hb]; exact c7⟩
  · rw [if_neg (fun e => hn ((nI_eq (by omega) (by omega)).mp e)), bd_s, if_pos rfl, ← hl]
    exact hnew
theorem mb_l {r : Nat → Int32} {N : Nat} (k : tt_Model → Int32 → Int32 → Int32 → Option (Int32 × tt_Model)) (x1 : Int32) (hN : N ≤ 100) (hr : b01 r N) : ∀ (m c f : Nat) (Y : tt_Model), c + 1 + m = 28 → gf_Model_now Y 100 = nI N → (∀ i, i < N → gf_Model_now Y i = r i) → ∃ Y1, fl_X9_best_31 k (f + m + 1) Y x1 (nI (bs_ r N c).1) (bs_ r N c).2 (nI (c + 1)) = k Y1 x1 (nI (bs_ r N 27).1) (bs_ r N 27).2 ∧ rs_ Y1 = rs_ Y := by
  intro m
  induction m with
  | zero =>
    intro c f Y h1 h2 h3
    obtain rfl : c = 27 := by omega
    refine ⟨Y, ?_, rfl⟩
    rw [fl_X9_best_31, if_pos (show (28 : Int32) ≤ nI 28 from Int32.le_refl _)]
  | succ m ih =>
    intro c f Y h1 h2 h3
    have hge : ¬ (28 : Int32) ≤ nI (c + 1) := nI_ge (b := 28) (by omega) (by decide)
    have d1 : nI (c + 1) / (4 : Int32) = nI ((c + 1) / 4) := pk_div (d := 4) (by omega) (by decide) (by decide)
    have d2 : nI (c + 1) - nI (c + 1) / (4 : Int32) * (4 : Int32) = nI ((c + 1) % 4) := pk_rem (d := 4) (by omega) (by decide) (by decide)
    obtain ⟨Y1, a1, a2, a3⟩ := go_e (d := (c + 1) / 4) (g := (c + 1) % 4) (by omega) hN hr h2 h3
    have hw := rs_now a2
    obtain ⟨Y2, b1, b2⟩ := ih (c + 1) f Y1 (by omega) (by rw [hw]; exact h2) (fun i hi => by rw [hw]; exact h3 i hi)
    refine ⟨Y2, ?_, b2.trans a2⟩
    rw [show f + (m + 1) + 1 = f + m + 1 + 1 by omega, fl_X9_best_31, if_neg hge, d2, d1, a1, b2_s, ← b1, bs_]
    unfold fn_X9_best_64 fn_X9_best_77
    rw [lt_v, lt_v, show nI (c + 1) + (1 : Int32) = nI (c + 1 + 1) from nI_1 _]
    by_cases hc : cs_ r (nI ((c + 1) % 4)) ((c + 1) / 4) N < (bs_ r N c).2
    · rw [if_neg (Int32.not_le.mpr hc), if_neg (Int32.not_le.mpr hc), if_pos hc, lt_v]
    · rw [if_pos (Int32.not_lt.mp hc), if_pos (Int32.not_lt.mp hc), if_neg hc]
theorem Rel.contest {X : tt_TreeOdds} {Y : tt_Model} {C : tt_Contest} (hR : Rel X Y) (hC : CO C) : Rel (sf_TreeOdds_contest X C) Y := ⟨hR.1, hC, hR.2.2⟩
theorem m_best {X : tt_TreeOdds} {Y : tt_Model} (x : Int32) (hR : Rel X Y) : Bo (fn_X8_best X x) (fn_X9_best Y x) := by
  obtain ⟨⟨n, d, g, r1, r2, r3, r4, r5, r6, r7, r8⟩, hC, -⟩ := id hR
  unfold fn_X8_best fn_X9_best
  rw [in_e x 0 2 z64.1 z64.2.2.1]
  rcases wi_c x 0 2 with ⟨h, -⟩ | ⟨h, h1, h2⟩
  · rw [h, bd_s, bd_s, if_pos rfl, if_pos rfl]
    exact Bo.bad hR
  · obtain ⟨C1, Q, c1, c2, c3, c4, c5⟩ := ju_e (r := gf_Model_now Y) (gf_TreeOdds_spare X) hC r1 r7 r8.1 (fun i hi => (r8.2.1 i hi).1)
    obtain ⟨Y1, a1, a2, a3⟩ := go_e (d := 0) (g := 0) (by decide) r1 r7 r4 (fun _ _ => rfl)
    have hw := rs_now a2
    have ob := fun k => mb_l k x r1 r7 27 0 4972 Y1 (by omega) (by rw [hw]; exact r4) (fun i hi => by rw [hw])
    obtain ⟨Y2, b1, b2⟩ := ob (fun (S0_e84_14 : tt_Model) (x1_e84_14 : Int32) (x2_e84_14 : Int32) (x3_e84_14 : Int32) => if x1_e84_14 = 0 then some (x2_e84_14 / (4 : Int32), S0_e84_14) else if x1_e84_14 = (1 : Int32) then some (x2_e84_14 - x2_e84_14 / (4 : Int32) * (4 : Int32), S0_e84_14) else some (x3_e84_14, S0_e84_14))
    rw [show 4972 + 27 + 1 = fu_ from rfl, show (bs_ (gf_Model_now Y) n 0).1 = 0 from rfl, nI_0, show nI (0 + 1) = (1 : Int32) from rfl, show (bs_ (gf_Model_now Y) n 0).2 = cs_ (gf_Model_now Y) (nI 0) 0 n from rfl] at b1
    rw [nI_0] at a1
    have hb := bs_le (gf_Model_now Y) n 27
    have d1 : nI (bs_ (gf_Model_now Y) n 27).1 / (4 : Int32) = nI ((bs_ (gf_Model_now Y) n 27).1 / 4) := pk_div (d := 4) (by omega) (by decide) (by decide)
    have d2 : nI (bs_ (gf_Model_now Y) n 27).1 - nI (bs_ (gf_Model_now Y) n 27).1 / (4 : Int32) * (4 : Int32) = nI ((bs_ (gf_Model_now Y) n 27).1 % 4) := pk_rem (d := 4) (by omega) (by decide) (by decide)
    have hrel : Rel (sf_TreeOdds_spare (sf_TreeOdds_contest X C1) Q) Y2 := ((hR.contest c2).spare Q).y (rs_p (b2.trans a2))
    rw [nI_0] at b1
    rw [h, bd_s, bd_s, if_neg n10_, if_neg n10_, c1, b2_s, lt_v, lt_v, a1, b2_s, b1, d2, d1]
    have g1 : gf_TreeOdds_contest (sf_TreeOdds_spare (sf_TreeOdds_contest X C1) Q) = C1 := rfl
    rw [g1, c3, c4, c5]
    by_cases e0 : x = 0
    · rw [if_pos e0, if_pos e0]; exact ⟨_, _, Y2, rfl, rfl, hrel⟩
    · by_cases e1 : x = 1
      · rw [if_neg e0, if_neg e0, if_pos e1, if_pos e1]; exact ⟨_, _, Y2, rfl, rfl, hrel⟩
      · rw [if_neg e0, if_neg e0, if_neg e1, if_neg e1]; exact ⟨_, _, Y2, rfl, rfl, hrel⟩
