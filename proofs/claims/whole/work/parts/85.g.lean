/-! ===== pure part: node, follows ===== -/
theorem isn_e {P : tt_Pasts} {Y : tt_Model} {d : Nat} (x y : Int32) (h1 : gf_Pasts_depth P = nI d) (h2 : gf_Model_now Y 101 = nI d) : fn_X9_isNode Y x y = fn_X2_has P x y := by
  unfold fn_X9_isNode fn_X2_has fn_X9_depth
  rw [gd_p (by decide +kernel), show (101 : Int32).toNatClampNeg = 101 by decide +kernel, h2, bd_s, h1, in_e x 0 (nI d) z64.1 rfl, in_e y 0 _ z64.1 rfl]
theorem isn_c {P : tt_Pasts} {d : Nat} (x y : Int32) (hd6 : d ≤ 6) (h1 : gf_Pasts_depth P = nI d) : fn_X2_has P x y = some 0 ∨ (fn_X2_has P x y = some 1 ∧ ∃ l p, l ≤ d ∧ p < 2 ^ l ∧ x = nI l ∧ y = nI p) := by
  unfold fn_X2_has
  rw [h1]
  rcases wi_c x 0 (nI d) with ⟨h, -⟩ | ⟨h, a1, a2⟩
  · rw [h, bd_s, if_pos rfl]; exact Or.inl rfl
  · obtain ⟨l, -, l2, rfl⟩ := nt_of (lo := 0) (hi := d) (by omega) (by omega) a1 a2
    rw [h, bd_s, if_neg n10_, sh_1m l (by omega)]
    have hp : 2 ^ l ≤ 64 := Nat.pow_le_pow_right (n := 2) (by decide) (show l ≤ 6 by omega)
    have hp0 : 0 < 2 ^ l := Nat.two_pow_pos l
    rcases wi_c y 0 (nI (2 ^ l - 1)) with ⟨h, -⟩ | ⟨h, b1, b2⟩
    · rw [h, bd_s, if_pos rfl]; exact Or.inl rfl
    · obtain ⟨p, -, p2, rfl⟩ := nt_of (lo := 0) (hi := 2 ^ l - 1) (by omega) (by omega) b1 b2
      rw [h, bd_s, if_neg n10_]
      exact Or.inr ⟨rfl, l, p, l2, by omega, rfl, rfl⟩
theorem m_node {X : tt_TreeOdds} {Y : tt_Model} (x w t : Int32) (hR : Rel X Y) : Bo (fn_X8_node X x w t) (fn_X9_node Y x w t) := by
  obtain ⟨⟨n, d, g, r1, r2, r3, r4, r5, r6, r7, r8⟩, -⟩ := id hR
  have hP := r8.2.2.2
  unfold fn_X8_node fn_X9_node
  rw [isn_e x w hP.1.1 r5]
  rcases isn_c x w r2 hP.1.1 with h | ⟨h, l, p, l1, l2, rfl, rfl⟩
  · rw [h, bd_s, bd_s, if_pos rfl, if_pos rfl]
    exact Bo.bad hR
  · rw [h, bd_s, bd_s, if_neg n10_, if_neg n10_, in_e t 0 3 z64.1 z64.2.2.2.1]
    rcases wi_c t 0 3 with ⟨h', -⟩ | ⟨h', h3, h4⟩
    · rw [h', bd_s, bd_s, if_pos rfl, if_pos rfl]
      exact Bo.bad hR
    · obtain ⟨Y1, a1, a2, a3⟩ := gn_e r2 r1 r7 r4 r5 r6 (fun _ _ => rfl)
      have hw := rs_now a2
      have hp : 2 ^ l ≤ 64 := Nat.pow_le_pow_right (n := 2) (by decide) (show l ≤ 6 by omega)
      have hp0 : 0 < 2 ^ l := Nat.two_pow_pos l
      have ev : vN l p = 2 ^ l + p := by unfold vN; rw [Nat.mod_eq_of_lt l2]
      obtain ⟨v1, v2⟩ := vN_r (h := p) l1
      have ev1 : 2 ^ l - 1 + p = vN l p - 1 := by omega
      have hv := vN_128 (l := l) (h := p) (by omega)
      obtain ⟨c1, c2, c3, -⟩ := hP.2.1 _ v1 v2
      obtain ⟨m1, m2, m3, -⟩ := a3.1.1 _ v1 v2
      obtain ⟨b1, b2, b3⟩ := BD_sq (gf_Model_now Y) (nI g) d n (vN l p)
      have hi : ix_ (nI (vN l p)) 128 := na_ix hv (by decide)
      have hj : ix_ (nI (vN l p - 1)) 127 := na_ix (by omega) (by decide)
      have hrel := hR.y (rs_p a2)
      rw [h', bd_s, bd_s, if_neg n10_, if_neg n10_, a1, b2_s, nd_e (by omega) (by omega), nme_ (by omega), ev1, bd_s, bd_s, gd_p hi, gd_p hi, gd_p hi, gd_p hi, gd_p hi, gd_p hj, gd_p hj, gd_p hj, na_cl (by omega), na_cl (by omega), op_e, bd_s, c1, c2, c3, m1, m2, m3, hP.1.1, hP.1.2.1]
      by_cases e0 : t = 0
      · rw [if_pos e0, if_pos e0]; exact ⟨_, X, Y1, rfl, rfl, hrel⟩
      · by_cases e1 : t = 1
        · rw [if_neg e0, if_neg e0, if_pos e1, if_pos e1]; exact ⟨_, X, Y1, rfl, rfl, hrel⟩
        · by_cases e2 : t = 2
          · rw [if_neg e0, if_neg e0, if_neg e1, if_neg e1, if_pos e2, if_pos e2, oo_e a3.1.2.2.1 (by omega) (by rw [m1]; exact b1) (by rw [m2]; exact b2), bd_s, m1, m2]; exact ⟨_, X, Y1, rfl, rfl, hrel⟩
          · rw [if_neg e0, if_neg e0, if_neg e1, if_neg e1, if_neg e2, if_neg e2]
            unfold fn_X9_depth
            rw [gd_p (by decide +kernel), show (101 : Int32).toNatClampNeg = 101 by decide +kernel, hw, r5, bd_s]
            by_cases e3 : nI l = nI d
            · rw [if_pos e3, if_pos e3]; exact ⟨_, X, Y1, rfl, rfl, hrel⟩
            · rw [if_neg e3, if_neg e3]; exact ⟨_, X, Y1, rfl, rfl, hrel⟩
theorem MR_cc {r r' : Nat → Int32} {g : Int32} {d n : Nat} {Y : tt_Model} (h : ∀ k, k < n → r k = r' k) (hM : MR r g d n Y) : MR r' g d n Y := by
  obtain ⟨a, b⟩ := hq_c h g d n (Nat.le_refl n)
  refine ⟨?_, fun k hk => (hM.2 k hk).trans (gs_c h g d (by omega))⟩
  rw [← a, ← b]
  exact hM.1
theorem fo_l {d K N : Nat} {g : Int32} (hd6 : d ≤ 6) (hK : K ≤ 16) (hN : N ≤ 100) : ∀ (m j f : Nat) (r : Nat → Int32) (X : tt_TreeOdds) (Y : tt_Model) (x2 : Int32), j + m = K → PR r g d (N + j) (gf_TreeOdds_spare X) → MR r g d (N + j) Y → ∃ v X1 Y1, fl_X8_follows_53 (fun (S : tt_TreeOdds) (x : Int32) => some (x, S)) (f + m + 1) X (nI K) x2 (nI j) = some (v, X1) ∧ fl_X9_follows_29 (fun (S : tt_Model) (x : Int32) => some (x, S)) (f + m + 1) Y (nI K) x2 (nI j) = some (v, Y1) ∧ rs_ Y1 = rs_ Y ∧ ∀ Z, Rel X Z → Rel X1 Z := by
  intro m
  induction m with
  | zero =>
    intro j f r X Y x2 h1 hP hM
    obtain rfl : j = K := by omega
    refine ⟨x2, X, Y, ?_, ?_, rfl, fun _ h => h⟩
    · rw [fl_X8_follows_53, if_pos (Int32.le_refl _)]
    · rw [fl_X9_follows_29, if_pos (Int32.le_refl _)]
  | succ m ih =>
    intro j f r X Y x2 h1 hP hM
    obtain ⟨Y1, a1, a2, a3, a4, a5⟩ := MR_g hd6 (show N + j < 120 by omega) hM
    have key : ∀ s : Int32, (s = 0 ∨ s = 1) → ∃ v X1 Y2, fn_X8_follows_75 (fl_X8_follows_53 (fun (S : tt_TreeOdds) (x : Int32) => some (x, S)) (f + m + 1)) X (nI K) x2 (nI j) s = some (v, X1) ∧ fn_X9_follows_49 (fl_X9_follows_29 (fun (S : tt_Model) (x : Int32) => some (x, S)) (f + m + 1)) Y1 (nI K) x2 (nI j) s = some (v, Y2) ∧ rs_ Y2 = rs_ Y ∧ ∀ Z, Rel X Z → Rel X1 Z := by
      intro s hs
      have hc : ∀ k, k < N + j → r k = upd r (N + j) s k := fun k hk => (pk_un (by omega)).symm
      have hu : upd r (N + j) s (N + j) = s := pk_us
      obtain ⟨Q, q1, q2⟩ := PR_s (r := upd r (N + j) s) hd6 (by rw [hu]; exact hs) (PR_c hc hP)
      obtain ⟨e1, e2⟩ := hq_c hc g d (N + j) (Nat.le_refl _)
      obtain ⟨Y2, b1, b2, b3⟩ := MR_c (r := upd r (N + j) s) hd6 (show N + j < 120 by omega) (by rw [hu]; exact hs) (MR_cc hc a3) (fun i hi => by rw [← e1, ← e2]; exact a4 i hi) (fun i hi => by rw [← e1, ← e2]; exact a5 i hi)
      rw [hu] at q1 b1
      obtain ⟨v, X1, Y3, c1, c2, c3, c4⟩ := ih (j + 1) f (upd r (N + j) s) (sf_TreeOdds_spare X Q) Y2 (x2 ||| (s <<< (nI j &&& 31))) (by omega) q2 b3
      refine ⟨v, X1, Y3, ?_, ?_, c3.trans (b2.trans a2), fun Z hZ => c4 Z (hZ.spare Q)⟩
      · unfold fn_X8_follows_75
        rw [lt_v, q1, bd_s, lt_v, lt_v, show nI j + (1 : Int32) = nI (j + 1) from nI_1 j, c1]
      · unfold fn_X9_follows_49
        rw [lt_v, b1, bd_s, lt_v, show nI j + (1 : Int32) = nI (j + 1) from nI_1 j, c2]
    rw [show f + (m + 1) + 1 = f + m + 1 + 1 by omega, fl_X8_follows_53, fl_X9_follows_29, if_neg (nI_ge (by omega) (by omega)), if_neg (nI_ge (by omega) (by omega)), nx_e hP, bd_s, a1, b2_s]
    by_cases hq : gs_ r g d (N + j) < 32768
    · rw [if_pos hq, if_pos hq]; exact key 0 (Or.inl rfl)
    · rw [if_neg hq, if_neg hq]; exact key 1 (Or.inr rfl)
theorem m_follows {X : tt_TreeOdds} {Y : tt_Model} (x : Int32) (hR : Rel X Y) : Bo (fn_X8_follows X x) (fn_X9_follows Y x) := by
  obtain ⟨⟨n, d, g, r1, r2, r3, r4, r5, r6, r7, r8⟩, -⟩ := id hR
  have hP := r8.2.2.2
  unfold fn_X8_follows fn_X9_follows
  rw [in_e x 1 16 z64.2.1 z64.2.2.2.2.2.1]
  rcases wi_c x 1 16 with ⟨h, -⟩ | ⟨h, h1, h2⟩
  · rw [h, bd_s, bd_s, if_pos rfl, if_pos rfl]
    exact Bo.bad hR
  · obtain ⟨K, -, k2, rfl⟩ := nt_of (lo := 1) (hi := 16) (by decide) (by decide) h1 h2
    obtain ⟨Q, q1, q2⟩ := pr_e (gf_TreeOdds_spare X) r2 r3 r1 r7 r8.1 (fun i hi => (r8.2.1 i hi).1)
    obtain ⟨Y1, c1, c2, c3⟩ := gn_e r2 r1 r7 r4 r5 r6 (fun _ _ => rfl)
    obtain ⟨v, X1, Y2, e1, e2, e3, e4⟩ := fo_l (K := K) r2 k2 r1 K 0 (4999 - K) (gf_Model_now Y) (sf_TreeOdds_spare X Q) Y1 0 (by omega) q2 c3
    rw [nI_0, show 4999 - K + K + 1 = fu_ by unfold fu_; omega] at e1 e2
    rw [h, bd_s, bd_s, if_neg n10_, if_neg n10_, hP.1.1, hP.1.2.1, q1, b2_s, lt_v, c1, b2_s, e1, e2]
    exact ⟨v, X1, Y2, rfl, rfl, e4 _ ((hR.spare Q).y (rs_p (e3.trans c2)))⟩
