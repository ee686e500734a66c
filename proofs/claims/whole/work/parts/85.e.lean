/-! ===== pure part: sets, empties, drop, back, type, clear, count ===== -/
theorem CA {X : tt_TreeOdds} {Y Y1 : tt_Model} {n d g n' d' g' : Nat} (h : RelN X Y n d g) (hn : n' ≤ n) (hd : d' ≤ 6) (hg : g' ≤ 3) (e1 : gf_Model_now Y1 100 = nI n') (e2 : gf_Model_now Y1 101 = nI d') (e3 : gf_Model_now Y1 102 = nI g') (e4 : ∀ k, k < n' → gf_Model_now Y1 k = gf_Model_now Y k) (p2 : gf_Model_past Y1 = gf_Model_past Y) (p3 : gf_Model_states Y1 = gf_Model_states Y) (p4 : gf_Model_refused Y1 = gf_Model_refused Y) (p5 : gf_Model_text Y1 = gf_Model_text Y) (p6 : gf_Model_textLong Y1 = gf_Model_textLong Y) : ∃ R1, fn_X3_comeAnew (gf_TreeOdds_row X) (nI n') (nI d') (nI g') = some R1 ∧ RelN (sf_TreeOdds_row X R1) Y1 n' d' g' := by
  obtain ⟨⟨r1, r2, r3, r4, r5, r6, r7, r8⟩, h2, h3, h4, h5, h6, h7⟩ := h
  have hb : b01 (gf_Model_now Y1) n' := fun k hk => by rw [e4 k hk]; exact r7 k (by omega)
  obtain ⟨Q, q1, q2⟩ := ca_e (r := gf_Model_now Y1) (R := gf_TreeOdds_row X) hd hg (show n' ≤ 100 by omega) hb (fun i hi => by rw [(r8.2.1 i (by omega)).1, e4 i hi])
  refine ⟨Q, q1, ?_⟩
  unfold RelN
  rw [p2, p3, p4, p5, p6]
  exact ⟨⟨by omega, hd, hg, e1, e2, e3, hb, q2⟩, h2, h3, h4, h5, h6, h7⟩
theorem st_row (X : tt_TreeOdds) (S : tt_States) : gf_TreeOdds_row (sf_TreeOdds_states X S) = gf_TreeOdds_row X := rfl
theorem m_empties {X : tt_TreeOdds} {Y : tt_Model} (hR : Rel X Y) : Bo (fn_X8_empties X) (fn_X9_empties Y) := by
  obtain ⟨n, d, g, hN⟩ := hR.ex
  obtain ⟨r1, r2, r3, r4, r5, r6, r7, r8⟩ := hN.1
  obtain ⟨S1, Y1, a1, a2, a3, a4⟩ := KE hN
  obtain ⟨p1, p2, p3, p4, p5, p6⟩ := now_p Y1 (upd (gf_Model_now Y1) 100 0)
  obtain ⟨R1, b1, b2⟩ := CA (n' := 0) a4 (by omega) r2 r3 (by rw [p1, pk_us]; exact nI_0.symm) (by rw [p1, pk_un (by decide), a3]; exact r5) (by rw [p1, pk_un (by decide), a3]; exact r6) (fun k hk => absurd hk (by omega)) p2 p3 p4 p5 p6
  unfold fn_X8_empties fn_X9_empties
  rw [a1, bd_s, lt_v, lt_v, st_row, r8.1, r8.2.2.2.1.1, r8.2.2.2.1.2.1, many_e r4, bd_s, a2, bd_s, gd_p c100.1, lt_v, c100.2]
  rw [st_row, nI_0] at b1
  rw [b1, bd_s, lt_v]
  exact ⟨_, _, _, rfl, rfl, b2.rel⟩
theorem m_drop {X : tt_TreeOdds} {Y : tt_Model} (hR : Rel X Y) : Bo (fn_X8_drop X) (fn_X9_drop Y) := by
  obtain ⟨n, d, g, hN⟩ := hR.ex
  obtain ⟨r1, r2, r3, r4, r5, r6, r7, r8⟩ := hN.1
  unfold fn_X8_drop fn_X9_drop
  rw [r8.1, many_e r4, bd_s]
  by_cases h0 : n = 0
  · subst h0
    rw [if_neg (show ¬ (1 : Int32) ≤ nI 0 by decide +kernel), if_pos nI_0]
    exact Bo.no hR
  · obtain ⟨m, rfl⟩ : ∃ m, n = m + 1 := ⟨n - 1, by omega⟩
    obtain ⟨S1, Y1, a1, a2, a3, a4⟩ := KE hN
    obtain ⟨p1, p2, p3, p4, p5, p6⟩ := now_p Y1 (upd (gf_Model_now Y1) 100 (nI m))
    obtain ⟨R1, b1, b2⟩ := CA (n' := m) a4 (by omega) r2 r3 (by rw [p1, pk_us]) (by rw [p1, pk_un (by decide), a3]; exact r5) (by rw [p1, pk_un (by decide), a3]; exact r6) (fun k hk => by rw [p1, pk_un (by omega)]) p2 p3 p4 p5 p6
    have hlen : gf_Row_length R1 = nI m := b2.1.2.2.2.2.2.2.2.1
    rw [if_pos (show (1 : Int32) ≤ nI (m + 1) from nI_le (a := 1) (by omega) (by omega)), if_neg (nI_ne0 (by omega) (by omega)), a1, bd_s, lt_v, st_row, r8.1, r8.2.2.2.1.1, r8.2.2.2.1.2.1, show nI (m + 1) - (1 : Int32) = nI m from nI_pred m, a2, bd_s, gd_p c100.1, lt_v, gd_p c100.1, lt_v, c100.2, a3, r4, show nI (m + 1) - (1 : Int32) = nI m from nI_pred m]
    rw [st_row] at b1
    rw [a3] at b2 p1
    rw [b1, bd_s, lt_v, many_e (show gf_Model_now (sf_Model_now Y1 (upd (gf_Model_now Y) 100 (nI m))) 100 = nI m by rw [p1, pk_us]), bd_s]
    refine ⟨nI m, _, _, ?_, rfl, b2.rel⟩
    show some (gf_Row_length R1, _) = _
    rw [hlen]
theorem c101 : ix_ ((101 : Int32) + 0) 103 ∧ ((101 : Int32) + 0).toNatClampNeg = 101 ∧ ix_ ((101 : Int32) + 1) 103 ∧ ((101 : Int32) + 1).toNatClampNeg = 102 := by decide +kernel
theorem m_sets {X : tt_TreeOdds} {Y : tt_Model} (x v : Int32) (hR : Rel X Y) : Bo (fn_X8_sets X x v) (fn_X9_sets Y x v) := by
  obtain ⟨n, d, g, hN⟩ := hR.ex
  obtain ⟨r1, r2, r3, r4, r5, r6, r7, r8⟩ := hN.1
  unfold fn_X8_sets fn_X9_sets
  rw [in_e x 0 1 z64.1 z64.2.1]
  rcases wi_c x 0 1 with ⟨h, -⟩ | ⟨h, h1, h2⟩
  · rw [h, bd_s, bd_s, if_pos rfl, if_pos rfl]
    exact Bo.bad hR
  · rw [h, bd_s, bd_s, if_neg n10_, if_neg n10_]
    obtain ⟨S1, Y1, a1, a2, a3, a4⟩ := KE hN
    rcases s01 h1 h2 with rfl | rfl
    · rw [if_pos rfl, if_pos rfl]
      unfold fn_X8_sets_28 fn_X9_sets_26
      rw [in_e v 0 6 z64.1 z64.2.2.2.2.1]
      rcases wi_c v 0 6 with ⟨h', -⟩ | ⟨h', h3, h4⟩
      · rw [h', bd_s, bd_s, if_pos rfl, if_pos rfl]
        exact Bo.bad hR
      · obtain ⟨b, -, b2, rfl⟩ := nt_of (lo := 0) (hi := 6) (by decide) (by decide) h3 h4
        obtain ⟨p1, p2, p3, p4, p5, p6⟩ := now_p Y1 (upd (gf_Model_now Y1) 101 (nI b))
        obtain ⟨R1, c1, c2⟩ := CA (n' := n) (d' := b) a4 (Nat.le_refl n) b2 r3 (by rw [p1, pk_un (by decide), a3]; exact r4) (by rw [p1, pk_us]) (by rw [p1, pk_un (by decide), a3]; exact r6) (fun k hk => by rw [p1, pk_un (by omega)]) p2 p3 p4 p5 p6
        rw [st_row] at c1
        rw [h', bd_s, bd_s, if_neg n10_, if_neg n10_, a1, bd_s, lt_v, lt_v, lt_v, if_pos rfl, st_row, r8.1, r8.2.2.2.1.1, r8.2.2.2.1.2.1, c1, bd_s, lt_v, a2, bd_s, gd_p c101.1, lt_v, gd_p c101.1, lt_v, c101.2.1, a3, r5]
        rw [a3] at c2
        exact ⟨_, _, _, rfl, rfl, c2.rel⟩
    · rw [if_neg n10_, if_neg n10_]
      unfold fn_X8_sets_28 fn_X9_sets_26
      rw [in_e v 0 3 z64.1 z64.2.2.2.1]
      rcases wi_c v 0 3 with ⟨h', -⟩ | ⟨h', h3, h4⟩
      · rw [h', bd_s, bd_s, if_pos rfl, if_pos rfl]
        exact Bo.bad hR
      · obtain ⟨b, -, b2, rfl⟩ := nt_of (lo := 0) (hi := 3) (by decide) (by decide) h3 h4
        obtain ⟨p1, p2, p3, p4, p5, p6⟩ := now_p Y1 (upd (gf_Model_now Y1) 102 (nI b))
        obtain ⟨R1, c1, c2⟩ := CA (n' := n) (g' := b) a4 (Nat.le_refl n) r2 b2 (by rw [p1, pk_un (by decide), a3]; exact r4) (by rw [p1, pk_un (by decide), a3]; exact r5) (by rw [p1, pk_us]) (fun k hk => by rw [p1, pk_un (by omega)]) p2 p3 p4 p5 p6
        rw [st_row] at c1
        rw [h', bd_s, bd_s, if_neg n10_, if_neg n10_, a1, bd_s, lt_v, lt_v, lt_v, if_neg n10_, st_row, r8.1, r8.2.2.2.1.1, r8.2.2.2.1.2.1, c1, bd_s, lt_v, a2, bd_s, gd_p c101.2.2.1, lt_v, gd_p c101.2.2.1, lt_v, c101.2.2.2, a3, r6]
        rw [a3] at c2
        exact ⟨_, _, _, rfl, rfl, c2.rel⟩
-- type, clear
theorem tx_p (Y : tt_Model) (v : Nat → Int32) (c : Int32) : gf_Model_now (sf_Model_textLong (sf_Model_text Y v) c) = gf_Model_now Y ∧ gf_Model_past (sf_Model_textLong (sf_Model_text Y v) c) = gf_Model_past Y ∧ gf_Model_states (sf_Model_textLong (sf_Model_text Y v) c) = gf_Model_states Y ∧ gf_Model_refused (sf_Model_textLong (sf_Model_text Y v) c) = gf_Model_refused Y ∧ gf_Model_text (sf_Model_textLong (sf_Model_text Y v) c) = v ∧ gf_Model_textLong (sf_Model_textLong (sf_Model_text Y v) c) = c := ⟨rfl, rfl, rfl, rfl, rfl, rfl⟩
theorem wi_119 : ∀ n, n < 120 → fn_X8_within (nI n) 0 119 = some 1 := by decide +kernel
theorem m_type {X : tt_TreeOdds} {Y : tt_Model} (x : Int32) (hR : Rel X Y) : Bo (fn_X8_type X x) (fn_X9_type Y x) := by
  obtain ⟨h1, h2, ⟨t, t1, t2, t3, t4⟩, h4, h5, h6, h7⟩ := id hR
  unfold fn_X8_type fn_X9_type
  rw [in_e x 0 127 z64.1 z64.2.2.2.2.2.2.2.2.1]
  rcases wi_c x 0 127 with ⟨h, -⟩ | ⟨h, k1, k2⟩
  · rw [h, bd_s, bd_s, if_pos rfl, if_pos rfl]
    exact Bo.bad hR
  · rw [h, bd_s, bd_s, if_neg n10_, if_neg n10_, t2, t3]
    by_cases h120 : t = 120
    · subst h120
      rw [if_neg (show ¬ nI 120 < (120 : Int32) by decide +kernel), if_pos (show nI 120 = (120 : Int32) from rfl)]
      exact Bo.full hR
    · have hne : ¬ nI t = (120 : Int32) := by
        intro e
        rw [show (120 : Int32) = nI 120 from rfl, nI_eq (by omega) (by decide)] at e
        exact h120 e
      obtain ⟨c, -, c2, rfl⟩ := nt_of (lo := 0) (hi := 127) (by decide) (by decide) k1 k2
      rw [if_pos (show nI t < (120 : Int32) from nI_lt (b := 120) (by omega) (by decide)), if_neg hne]
      unfold fn_X6_append
      rw [t2, wi_119 t (by omega), bd_s, if_neg n10_, gd_p (na_ix (show t < 120 by omega) (by decide)), lt_v, lt_v, lt_v, gd_p (na_ix (show t < 120 by omega) (by decide)), lt_v, lt_v, lt_v, na_cl (by omega)]
      have e1 : gf_Text_length (sf_Text_bytes (gf_TreeOdds_text X) (upd (gf_Text_bytes (gf_TreeOdds_text X)) t (nI c))) = nI t := t2
      have e2 : gf_Model_textLong (sf_Model_text Y (upd (gf_Model_text Y) t (nI c))) = nI t := t3
      rw [e1, e2, show nI t + (1 : Int32) = nI (t + 1) from nI_1 t, b2_s, lt_v]
      refine ⟨nI (t + 1), _, _, rfl, rfl, ?_⟩
      obtain ⟨p1, p2, p3, p4, p5, p6⟩ := tx_p Y (upd (gf_Model_text Y) t (nI c)) (nI (t + 1))
      unfold Rel
      rw [p1, p2, p3, p4, p5, p6]
      refine ⟨h1, h2, ⟨t + 1, by omega, rfl, rfl, fun k hk => ?_⟩, h4, h5, h6, h7⟩
      show upd (gf_Text_bytes (gf_TreeOdds_text X)) t (nI c) k = _ ∧ _
      by_cases hkt : k = t
      · rw [hkt, pk_us, pk_us]; exact ⟨rfl, c, c2, rfl⟩
      · rw [pk_un hkt, pk_un hkt]; exact t4 k (by omega)
theorem tl_p (Y : tt_Model) (c : Int32) : gf_Model_now (sf_Model_textLong Y c) = gf_Model_now Y ∧ gf_Model_past (sf_Model_textLong Y c) = gf_Model_past Y ∧ gf_Model_states (sf_Model_textLong Y c) = gf_Model_states Y ∧ gf_Model_refused (sf_Model_textLong Y c) = gf_Model_refused Y ∧ gf_Model_text (sf_Model_textLong Y c) = gf_Model_text Y ∧ gf_Model_textLong (sf_Model_textLong Y c) = c := ⟨rfl, rfl, rfl, rfl, rfl, rfl⟩
theorem m_clear {X : tt_TreeOdds} {Y : tt_Model} (hR : Rel X Y) : Bo (fn_X8_clear X) (fn_X9_clear Y) := by
  obtain ⟨h1, h2, ⟨t, t1, t2, t3, t4⟩, h4, h5, h6, h7⟩ := id hR
  unfold fn_X8_clear fn_X9_clear
  rw [lt_v, lt_v, lt_v, lt_v, t2, t3]
  refine ⟨nI t, _, _, rfl, rfl, ?_⟩
  obtain ⟨p1, p2, p3, p4, p5, p6⟩ := tl_p Y 0
  unfold Rel
  rw [p1, p2, p3, p4, p5, p6]
  exact ⟨h1, h2, ⟨0, by omega, nI_0.symm, nI_0.symm, fun k hk => absurd hk (by omega)⟩, h4, h5, h6, h7⟩
