/-! ===== pure part: signs come ===== -/
def RelN (X : tt_TreeOdds) (Y : tt_Model) (n d g : Nat) : Prop := RR (gf_TreeOdds_row X) (gf_Model_now Y) n d g ∧ CO (gf_TreeOdds_contest X) ∧ TP (gf_TreeOdds_text X) (gf_Model_text Y) (gf_Model_textLong Y) ∧ SP (gf_TreeOdds_states X) (gf_Model_past Y) (gf_Model_states Y) ∧ gf_TreeOdds_timesBad X = gf_Model_refused Y 0 ∧ gf_TreeOdds_timesNo X = gf_Model_refused Y 1 ∧ gf_TreeOdds_timesFull X = gf_Model_refused Y 2
theorem RelN.rel {X : tt_TreeOdds} {Y : tt_Model} {n d g : Nat} (h : RelN X Y n d g) : Rel X Y := ⟨⟨n, d, g, h.1⟩, h.2⟩
theorem Rel.ex {X : tt_TreeOdds} {Y : tt_Model} (h : Rel X Y) : ∃ n d g, RelN X Y n d g := by
  obtain ⟨⟨n, d, g, r⟩, t⟩ := h
  exact ⟨n, d, g, r, t⟩
theorem KE {X : tt_TreeOdds} {Y : tt_Model} {n d g : Nat} (h : RelN X Y n d g) : ∃ S1 Y1, fn_X5_keep (gf_TreeOdds_states X) (gf_TreeOdds_row X) = some S1 ∧ fn_X9_keep Y = some Y1 ∧ gf_Model_now Y1 = gf_Model_now Y ∧ RelN (sf_TreeOdds_states X S1) Y1 n d g := by
  obtain ⟨h1, h2, h3, h4, h5, h6, h7⟩ := h
  obtain ⟨S1, Y1, a1, a2, ⟨b1, b2, b3, b4⟩, a4⟩ := ke_e h4 h1
  refine ⟨S1, Y1, a1, a2, b1, ?_⟩
  unfold RelN
  rw [b1, b2, b3, b4]
  exact ⟨h1, h2, h3, a4, h5, h6, h7⟩
theorem now_p (Y : tt_Model) (v : Nat → Int32) : gf_Model_now (sf_Model_now Y v) = v ∧ gf_Model_past (sf_Model_now Y v) = gf_Model_past Y ∧ gf_Model_states (sf_Model_now Y v) = gf_Model_states Y ∧ gf_Model_refused (sf_Model_now Y v) = gf_Model_refused Y ∧ gf_Model_text (sf_Model_now Y v) = gf_Model_text Y ∧ gf_Model_textLong (sf_Model_now Y v) = gf_Model_textLong Y := ⟨rfl, rfl, rfl, rfl, rfl, rfl⟩
theorem c100 : ix_ (100 : Int32) 103 ∧ (100 : Int32).toNatClampNeg = 100 := by decide +kernel
theorem ad_e {Y : tt_Model} {n : Nat} (s : Int32) (hn : n < 100) (h : gf_Model_now Y 100 = nI n) : fn_X9_adds Y s = some (sf_Model_now Y (upd (upd (gf_Model_now Y) n s) 100 (nI (n + 1)))) := by
  unfold fn_X9_adds
  rw [many_e h, bd_s, gd_p (na_ix (show n < 103 by omega) (by decide)), lt_v, na_cl (by omega), gd_p c100.1, lt_v, gd_p c100.1, lt_v, c100.2, (now_p _ _).1, pk_un (show (100 : Nat) ≠ n by omega), h, show nI n + (1 : Int32) = nI (n + 1) from nI_1 n]
  rfl
theorem AD {X : tt_TreeOdds} {Y : tt_Model} {n d g : Nat} {s : Int32} (h : RelN X Y n d g) (hn : n < 100) (hs : s = 0 ∨ s = 1) : ∃ R1 Y1, fn_X3_put (gf_TreeOdds_row X) s = some (pd_ (gf_Model_now Y1) (nI g) d n, R1) ∧ fn_X9_adds Y s = some Y1 ∧ RelN (sf_TreeOdds_row X R1) Y1 (n + 1) d g ∧ ∀ k, k < n → gf_Model_now Y1 k = gf_Model_now Y k := by
  obtain ⟨⟨r1, r2, r3, r4, r5, r6, r7, r8⟩, h2, h3, h4, h5, h6, h7⟩ := h
  obtain ⟨p1, p2, p3, p4, p5, p6⟩ := now_p Y (upd (upd (gf_Model_now Y) n s) 100 (nI (n + 1)))
  have ha := ad_e s hn r4
  generalize sf_Model_now Y _ = Y1 at p1 p2 p3 p4 p5 p6 ha
  have hk : ∀ k, k < n → gf_Model_now Y k = gf_Model_now Y1 k := fun k hk => by rw [p1, pk_un (by omega), pk_un (by omega)]
  have hn1 : gf_Model_now Y1 n = s := by rw [p1, pk_un (by omega), pk_us]
  obtain ⟨Q, q1, q2, q3⟩ := pu_e r2 hn (by rw [hn1]; exact hs) (RW_c hk r8)
  rw [hn1] at q1
  refine ⟨Q, Y1, q1, ha, ?_, fun k hk' => (hk k hk').symm⟩
  unfold RelN
  rw [p2, p3, p4, p5, p6]
  refine ⟨⟨by omega, r2, r3, by rw [p1, pk_us], by rw [p1, pk_un (by decide), pk_un (by omega)]; exact r5, by rw [p1, pk_un (by decide), pk_un (by omega)]; exact r6, fun k hk' => ?_, q2⟩, h2, h3, h4, h5, h6, h7⟩
  by_cases hkn : k = n
  · rw [hkn, hn1]; exact hs
  · rw [← hk k (by omega)]; exact r7 k (by omega)
theorem s01 {x : Int32} (h1 : 0 ≤ x) (h2 : x ≤ 1) : x = 0 ∨ x = 1 := by
  obtain ⟨a, -, a2, rfl⟩ := nt_of (lo := 0) (hi := 1) (by decide) (by decide) h1 h2
  rcases (show a = 0 ∨ a = 1 by omega) with rfl | rfl
  · exact Or.inl nI_0
  · exact Or.inr rfl
theorem m_sign {X : tt_TreeOdds} {Y : tt_Model} (x : Int32) (hR : Rel X Y) : Bo (fn_X8_sign X x) (fn_X9_sign Y x) := by
  obtain ⟨n, d, g, hN⟩ := hR.ex
  obtain ⟨r1, r2, r3, r4, r5, r6, r7, r8⟩ := hN.1
  unfold fn_X8_sign fn_X9_sign
  rw [in_e x 0 1 z64.1 z64.2.1]
  rcases wi_c x 0 1 with ⟨h, -⟩ | ⟨h, h1, h2⟩
  · rw [h, bd_s, bd_s, if_pos rfl, if_pos rfl]
    exact Bo.bad hR
  · rw [h, bd_s, bd_s, if_neg n10_, if_neg n10_, many_e r4, bd_s]
    unfold fn_X8_hasRoom
    rw [r8.1, show nI n + (1 : Int32) = nI (n + 1) from nI_1 n]
    by_cases h100 : n = 100
    · subst h100
      rw [if_pos (show (100 : Int32) < nI (100 + 1) by decide +kernel), bd_s, if_pos rfl, if_pos (show nI 100 = (100 : Int32) from rfl)]
      exact Bo.full hR
    · have hne : ¬ nI n = (100 : Int32) := by
        intro e
        rw [show (100 : Int32) = nI 100 from rfl, nI_eq (by omega) (by decide)] at e
        exact h100 e
      rw [if_neg (show ¬ (100 : Int32) < nI (n + 1) from nI_nlt (a := 100) (by omega) (by decide)), bd_s, if_neg n10_, if_neg hne]
      obtain ⟨S1, Y1, a1, a2, a3, a4⟩ := KE hN
      rw [a1, bd_s, lt_v, a2, bd_s]
      obtain ⟨R1, Y2, b1, b2, b3, b4⟩ := AD (s := x) a4 (by omega) (s01 h1 h2)
      obtain ⟨u1, u2, u3, u4, u5, u6, u7, u8⟩ := b3.1
      obtain ⟨Y3, c1, c2⟩ := cf_e (K := n) u2 u1 (by omega) u7 u4 u5 u6 (fun _ _ => rfl)
      rw [b1, b2_s, lt_v, b2, bd_s, many_e u4, bd_s, show nI (n + 1) - (1 : Int32) = nI n from nI_pred n, c1, b2_s]
      refine ⟨_, _, Y3, rfl, ?_, b3.rel.y (rs_p c2)⟩
      rw [show n + 1 - n = 1 by omega, sf_, sf_, Nat.add_zero, Int32.zero_add]
theorem sf_c {r r' : Nat → Int32} {n : Nat} (h : ∀ k, k < n → r k = r' k) (g : Int32) (d k : Nat) : ∀ m, k + m ≤ n → sf_ r g d k m = sf_ r' g d k m := by
  intro m
  induction m with
  | zero => intro _; rfl
  | succ m ih =>
    intro hm
    rw [sf_, sf_, ih (by omega), pd_c h g d (by omega)]
