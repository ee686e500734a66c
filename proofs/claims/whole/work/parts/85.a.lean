/-! ===== pure part: the class beside the reference ===== -/
theorem wd_lt (a b : Int32) : a.toInt64 < b.toInt64 ↔ a < b := by rw [Int64.lt_iff_toInt_lt, Int32.lt_iff_toInt_lt, Int32.toInt_toInt64, Int32.toInt_toInt64]
theorem in_e (x a b : Int32) {A B : Int64} (hA : a.toInt64 = A) (hB : b.toInt64 = B) : fn_X9_in x.toInt64 A B = fn_X8_within x a b := by
  subst hA; subst hB
  unfold fn_X9_in fn_X8_within
  simp only [wd_lt]
def RR (R : tt_Row) (now : Nat → Int32) (n d g : Nat) : Prop := n ≤ 100 ∧ d ≤ 6 ∧ g ≤ 3 ∧ now 100 = nI n ∧ now 101 = nI d ∧ now 102 = nI g ∧ b01 now n ∧ RW now (nI g) d n R
/-- the least price of the first c of the 28, and where it is -/
def bs_ (r : Nat → Int32) (n : Nat) : Nat → Nat × Int32
  | 0 => (0, cs_ r (nI 0) 0 n)
  | c + 1 => if cs_ r (nI ((c + 1) % 4)) ((c + 1) / 4) n < (bs_ r n c).2 then (c + 1, cs_ r (nI ((c + 1) % 4)) ((c + 1) / 4) n) else bs_ r n c
def CO (C : tt_Contest) : Prop := ∃ (r : Nat → Int32) (n : Nat), n ≤ 100 ∧ b01 r n ∧ gf_Contest_length C = nI n ∧ (∀ k, k < n → gf_Contest_judged C k = r k) ∧ gf_Contest_depth C = nI ((bs_ r n 27).1 / 4) ∧ gf_Contest_guesser C = nI ((bs_ r n 27).1 % 4) ∧ gf_Contest_price C = (bs_ r n 27).2
def TP (T : tt_Text) (tx : Nat → Int32) (tl : Int32) : Prop := ∃ t : Nat, t ≤ 120 ∧ gf_Text_length T = nI t ∧ tl = nI t ∧ ∀ k, k < t → gf_Text_bytes T k = tx k ∧ ∃ c : Nat, c ≤ 127 ∧ tx k = nI c
def SE (st : tt_State) (p : Nat → Int32) (b : Nat) : Prop := ∃ n d g : Nat, n ≤ 100 ∧ d ≤ 6 ∧ g ≤ 3 ∧ gf_State_length st = nI n ∧ gf_State_depth st = nI d ∧ gf_State_guesser st = nI g ∧ p (b + 100) = nI n ∧ p (b + 101) = nI d ∧ p (b + 102) = nI g ∧ ∀ k, k < n → gf_State_signs st k = p (b + k) ∧ (p (b + k) = 0 ∨ p (b + k) = 1)
def SP (S : tt_States) (p : Nat → Int32) (st : Int32) : Prop := ∃ q tp : Nat, q ≤ 6 ∧ tp < 6 ∧ gf_States_size S = nI q ∧ gf_States_top S = nI tp ∧ st = nI q ∧ ∀ i, i < q → SE (gf_States_ring S ((tp + 6 - i) % 6)) p (103 * (q - 1 - i))
def RelP (R : tt_Row) (C : tt_Contest) (T : tt_Text) (S : tt_States) (b n f : Int32) (now p : Nat → Int32) (st : Int32) (rf tx : Nat → Int32) (tl : Int32) : Prop := (∃ n d g : Nat, RR R now n d g) ∧ CO C ∧ TP T tx tl ∧ SP S p st ∧ b = rf 0 ∧ n = rf 1 ∧ f = rf 2
def Rel (X : tt_TreeOdds) (Y : tt_Model) : Prop := RelP (gf_TreeOdds_row X) (gf_TreeOdds_contest X) (gf_TreeOdds_text X) (gf_TreeOdds_states X) (gf_TreeOdds_timesBad X) (gf_TreeOdds_timesNo X) (gf_TreeOdds_timesFull X) (gf_Model_now Y) (gf_Model_past Y) (gf_Model_states Y) (gf_Model_refused Y) (gf_Model_text Y) (gf_Model_textLong Y)
theorem rs_p {A B : tt_Model} (h : rs_ A = rs_ B) : gf_Model_now A = gf_Model_now B ∧ gf_Model_past A = gf_Model_past B ∧ gf_Model_states A = gf_Model_states B ∧ gf_Model_refused A = gf_Model_refused B ∧ gf_Model_text A = gf_Model_text B ∧ gf_Model_textLong A = gf_Model_textLong B := ⟨congrArg (fun x => x.1) h, congrArg (fun x => x.2.1) h, congrArg (fun x => x.2.2.1) h, congrArg (fun x => x.2.2.2.1) h, congrArg (fun x => x.2.2.2.2.2.2.2.2.2.2.1) h, congrArg (fun x => x.2.2.2.2.2.2.2.2.2.2.2.1) h⟩
/-- what lasts of the reference -/
def sameP (A B : tt_Model) : Prop := gf_Model_now A = gf_Model_now B ∧ gf_Model_past A = gf_Model_past B ∧ gf_Model_states A = gf_Model_states B ∧ gf_Model_refused A = gf_Model_refused B ∧ gf_Model_text A = gf_Model_text B ∧ gf_Model_textLong A = gf_Model_textLong B
theorem Rel.y {X : tt_TreeOdds} {Y Y1 : tt_Model} (h : sameP Y1 Y) (hR : Rel X Y) : Rel X Y1 := by
  obtain ⟨a, b, c, d, e, f⟩ := h
  unfold Rel
  rw [a, b, c, d, e, f]
  exact hR
theorem Rel.spare {X : tt_TreeOdds} {Y : tt_Model} (v : tt_Pasts) (hR : Rel X Y) : Rel (sf_TreeOdds_spare X v) Y := hR
theorem Rel.best {X : tt_TreeOdds} {Y : tt_Model} (v : tt_BestTree) (hR : Rel X Y) : Rel (sf_TreeOdds_bestTree X v) Y := hR
theorem Rel.writing {X : tt_TreeOdds} {Y : tt_Model} (v : tt_Writing) (hR : Rel X Y) : Rel (sf_TreeOdds_writing X v) Y := hR
/-- both answer alike, and stay beside each other -/
def Bo (a : Option (Int32 × tt_TreeOdds)) (b : Option (Int32 × tt_Model)) : Prop := ∃ v X Y, a = some (v, X) ∧ b = some (v, Y) ∧ Rel X Y
theorem x0_ : ix_ (0 : Int32) 3 ∧ ix_ (1 : Int32) 3 ∧ ix_ (2 : Int32) 3 ∧ (0 : Int32).toNatClampNeg = 0 ∧ (1 : Int32).toNatClampNeg = 1 ∧ (2 : Int32).toNatClampNeg = 2 := by decide +kernel
theorem rf_p (Y : tt_Model) (v : Nat → Int32) : gf_Model_now (sf_Model_refused Y v) = gf_Model_now Y ∧ gf_Model_past (sf_Model_refused Y v) = gf_Model_past Y ∧ gf_Model_states (sf_Model_refused Y v) = gf_Model_states Y ∧ gf_Model_refused (sf_Model_refused Y v) = v ∧ gf_Model_text (sf_Model_refused Y v) = gf_Model_text Y ∧ gf_Model_textLong (sf_Model_refused Y v) = gf_Model_textLong Y := ⟨rfl, rfl, rfl, rfl, rfl, rfl⟩
theorem Rel.bad {X : tt_TreeOdds} {Y : tt_Model} (t : Int32) (hR : Rel X Y) : ∃ X1 Y1, fn_X8_refuse X (-2) = some (-2, X1) ∧ fn_X9_bad Y t = some (t, Y1) ∧ Rel X1 Y1 := by
  obtain ⟨h1, h2, h3, h4, h5, h6, h7⟩ := hR
  refine ⟨sf_TreeOdds_timesBad X (gf_TreeOdds_timesBad X + 1), sf_Model_refused Y (upd (gf_Model_refused Y) 0 (gf_Model_refused Y 0 + 1)), ?_, ?_, ?_⟩
  · unfold fn_X8_refuse
    rw [if_pos rfl]; rfl
  · unfold fn_X9_bad
    simp only [gd_p x0_.1, x0_.2.2.2.1]; rfl
  · obtain ⟨a, b, c, d, e, f⟩ := rf_p Y (upd (gf_Model_refused Y) 0 (gf_Model_refused Y 0 + 1))
    unfold Rel
    rw [a, b, c, d, e, f]
    exact ⟨h1, h2, h3, h4, by rw [pk_us]; show gf_TreeOdds_timesBad X + 1 = _; rw [h5], by rw [pk_un (by decide)]; exact h6, by rw [pk_un (by decide)]; exact h7⟩
theorem Rel.no {X : tt_TreeOdds} {Y : tt_Model} (hR : Rel X Y) : ∃ X1 Y1, fn_X8_refuse X (-3) = some (-3, X1) ∧ fn_X9_no Y = some (-3, Y1) ∧ Rel X1 Y1 := by
  obtain ⟨h1, h2, h3, h4, h5, h6, h7⟩ := hR
  refine ⟨sf_TreeOdds_timesNo X (gf_TreeOdds_timesNo X + 1), sf_Model_refused Y (upd (gf_Model_refused Y) 1 (gf_Model_refused Y 1 + 1)), ?_, ?_, ?_⟩
  · unfold fn_X8_refuse
    rw [if_neg (by decide), if_pos rfl]; rfl
  · unfold fn_X9_no
    simp only [gd_p x0_.2.1, x0_.2.2.2.2.1]; rfl
  · obtain ⟨a, b, c, d, e, f⟩ := rf_p Y (upd (gf_Model_refused Y) 1 (gf_Model_refused Y 1 + 1))
    unfold Rel
    rw [a, b, c, d, e, f]
    exact ⟨h1, h2, h3, h4, by rw [pk_un (by decide)]; exact h5, by rw [pk_us]; show gf_TreeOdds_timesNo X + 1 = _; rw [h6], by rw [pk_un (by decide)]; exact h7⟩
theorem Rel.full {X : tt_TreeOdds} {Y : tt_Model} (hR : Rel X Y) : ∃ X1 Y1, fn_X8_refuse X (-4) = some (-4, X1) ∧ fn_X9_full Y = some (-4, Y1) ∧ Rel X1 Y1 := by
  obtain ⟨h1, h2, h3, h4, h5, h6, h7⟩ := hR
  refine ⟨sf_TreeOdds_timesFull X (gf_TreeOdds_timesFull X + 1), sf_Model_refused Y (upd (gf_Model_refused Y) 2 (gf_Model_refused Y 2 + 1)), ?_, ?_, ?_⟩
  · unfold fn_X8_refuse
    rw [if_neg (by decide), if_neg (by decide)]; rfl
  · unfold fn_X9_full
    simp only [gd_p x0_.2.2.1, x0_.2.2.2.2.2]; rfl
  · obtain ⟨a, b, c, d, e, f⟩ := rf_p Y (upd (gf_Model_refused Y) 2 (gf_Model_refused Y 2 + 1))
    unfold Rel
    rw [a, b, c, d, e, f]
    exact ⟨h1, h2, h3, h4, by rw [pk_un (by decide)]; exact h5, by rw [pk_un (by decide)]; exact h6, by rw [pk_us]; show gf_TreeOdds_timesFull X + 1 = _; rw [h7]⟩
theorem Bo.bad {X : tt_TreeOdds} {Y : tt_Model} (hR : Rel X Y) : Bo (b2_ (fn_X8_refuse X (-2)) fun r P => some (r, P)) (b2_ (fn_X9_bad Y (-2)) fun r P => some (r, P)) := by
  obtain ⟨X1, Y1, a, b, c⟩ := hR.bad (-2)
  exact ⟨-2, X1, Y1, by rw [a, b2_s], by rw [b, b2_s], c⟩
theorem Bo.no {X : tt_TreeOdds} {Y : tt_Model} (hR : Rel X Y) : Bo (b2_ (fn_X8_refuse X (-3)) fun r P => some (r, P)) (b2_ (fn_X9_no Y) fun r P => some (r, P)) := by
  obtain ⟨X1, Y1, a, b, c⟩ := hR.no
  exact ⟨-3, X1, Y1, by rw [a, b2_s], by rw [b, b2_s], c⟩
theorem Bo.full {X : tt_TreeOdds} {Y : tt_Model} (hR : Rel X Y) : Bo (b2_ (fn_X8_refuse X (-4)) fun r P => some (r, P)) (b2_ (fn_X9_full Y) fun r P => some (r, P)) := by
  obtain ⟨X1, Y1, a, b, c⟩ := hR.full
  exact ⟨-4, X1, Y1, by rw [a, b2_s], by rw [b, b2_s], c⟩
theorem wi_c (x a b : Int32) : (fn_X8_within x a b = some 0 ∧ (x < a ∨ b < x)) ∨ (fn_X8_within x a b = some 1 ∧ a ≤ x ∧ x ≤ b) := by
  rw [wi_e]
  by_cases h : x < a ∨ b < x
  · exact Or.inl ⟨by rw [if_pos h], h⟩
  · refine Or.inr ⟨by rw [if_neg h], ?_, ?_⟩
    · rw [Int32.le_iff_toInt_le]
      have : ¬ x < a := fun z => h (Or.inl z)
      rw [Int32.lt_iff_toInt_lt] at this
      omega
    · rw [Int32.le_iff_toInt_le]
      have : ¬ b < x := fun z => h (Or.inr z)
      rw [Int32.lt_iff_toInt_lt] at this
      omega
theorem n10_ : ¬ (1 : Int32) = 0 := by decide
-- guess, cost
theorem m_guess {X : tt_TreeOdds} {Y : tt_Model} (hR : Rel X Y) : ∃ v Y1, fn_X8_guess X = some v ∧ fn_X9_guess Y = some (v, Y1) ∧ Rel X Y1 := by
  obtain ⟨⟨n, d, g, r1, r2, r3, r4, r5, r6, r7, r8⟩, -⟩ := id hR
  obtain ⟨Y1, a1, a2, a3⟩ := gn_e r2 r1 r7 r4 r5 r6 (fun _ _ => rfl)
  obtain ⟨Y2, b1, b2, b3, b4⟩ := MR_g r2 (by omega) a3
  refine ⟨gs_ (gf_Model_now Y) (nI g) d n, Y2, ?_, ?_, hR.y (rs_p (b2.trans a2))⟩
  · unfold fn_X8_guess
    rw [nx_e r8.2.2.2, bd_s]
  · unfold fn_X9_guess fn_X9_guessNow
    rw [a1, b2_s, b1, b2_s, b2_s]
theorem m_cost {X : tt_TreeOdds} {Y : tt_Model} (hR : Rel X Y) : ∃ v Y1, fn_X8_cost X = some v ∧ fn_X9_cost Y = some (v, Y1) ∧ Rel X Y1 := by
  obtain ⟨⟨n, d, g, r1, r2, r3, r4, r5, r6, r7, r8⟩, -⟩ := id hR
  obtain ⟨Y1, a1, a2, a3⟩ := gn_e r2 r1 r7 r4 r5 r6 (fun _ _ => rfl)
  refine ⟨cs_ (gf_Model_now Y) (nI g) d n, Y1, ?_, ?_, hR.y (rs_p a2)⟩
  · unfold fn_X8_cost
    rw [r8.2.2.1]
  · unfold fn_X9_cost
    rw [a1, b2_s]
-- an index of the row
theorem ix_row {x : Int32} {n : Nat} (hn : n ≤ 100) (h1 : 0 ≤ x) (h2 : x ≤ nI n - 1) : ∃ k, k < n ∧ x = nI k := by
  by_cases h0 : n = 0
  · subst h0
    have t := Int32.le_trans h1 h2
    exact absurd t (by decide +kernel)
  · obtain ⟨m, rfl⟩ : ∃ m, n = m + 1 := ⟨n - 1, by omega⟩
    rw [nI_pred] at h2
    obtain ⟨a, -, a2, a3⟩ := nt_of (lo := 0) (hi := m) (by omega) (by omega) h1 h2
    exact ⟨a, by omega, a3⟩
theorem has_e {R : tt_Row} {x : Int32} {n : Nat} (hl : gf_Row_length R = nI n) : fn_X3_has R x = fn_X8_within x 0 (nI n - 1) := by
  unfold fn_X3_has
  rw [hl]
  rcases wi_c x 0 (nI n - 1) with ⟨h, -⟩ | ⟨h, -⟩
  · rw [h, bd_s, gd_p (Or.inl rfl)]
  · rw [h, bd_s, gd_p (Or.inr rfl)]
theorem z64 : (0 : Int32).toInt64 = 0 ∧ (1 : Int32).toInt64 = 1 ∧ (2 : Int32).toInt64 = 2 ∧ (3 : Int32).toInt64 = 3 ∧ (6 : Int32).toInt64 = 6 ∧ (16 : Int32).toInt64 = 16 ∧ (64 : Int32).toInt64 = 64 ∧ (100 : Int32).toInt64 = 100 ∧ (127 : Int32).toInt64 = 127 ∧ (999999 : Int32).toInt64 = 999999 ∧ (7 : Int32).toInt64 = 7 := by decide +kernel
theorem m_at {X : tt_TreeOdds} {Y : tt_Model} (x : Int32) (hR : Rel X Y) : Bo (fn_X8_at X x) (fn_X9_at Y x) := by
  obtain ⟨⟨n, d, g, r1, r2, r3, r4, r5, r6, r7, r8⟩, -⟩ := id hR
  unfold fn_X8_at fn_X9_at
  rw [has_e r8.1, many_e r4, bd_s, in_e x 0 (nI n - 1) z64.1 rfl]
  rcases wi_c x 0 (nI n - 1) with ⟨h, -⟩ | ⟨h, h1, h2⟩
  · rw [h, bd_s, bd_s, if_pos rfl, if_pos rfl]
    exact Bo.bad hR
  · obtain ⟨k, k1, rfl⟩ := ix_row r1 h1 h2
    rw [h, bd_s, bd_s, if_neg n10_, if_neg n10_, gd_p (na_ix (show k < 100 by omega) (by decide)), gd_p (na_ix (show k < 103 by omega) (by decide)), na_cl (by omega), (r8.2.1 k k1).1]
    exact ⟨_, X, Y, rfl, rfl, hR⟩
theorem m_was {X : tt_TreeOdds} {Y : tt_Model} (x w : Int32) (hR : Rel X Y) : Bo (fn_X8_was X x w) (fn_X9_was Y x w) := by
  obtain ⟨⟨n, d, g, r1, r2, r3, r4, r5, r6, r7, r8⟩, -⟩ := id hR
  unfold fn_X8_was fn_X9_was
  rw [has_e r8.1, many_e r4, bd_s, in_e x 0 (nI n - 1) z64.1 rfl]
  rcases wi_c x 0 (nI n - 1) with ⟨h, -⟩ | ⟨h, h1, h2⟩
  · rw [h, bd_s, bd_s, if_pos rfl, if_pos rfl]
    exact Bo.bad hR
  · obtain ⟨k, k1, rfl⟩ := ix_row r1 h1 h2
    rw [h, bd_s, bd_s, if_neg n10_, if_neg n10_, in_e w 0 1 z64.1 z64.2.1]
    rcases wi_c w 0 1 with ⟨h', -⟩ | ⟨h', -⟩
    · rw [h', bd_s, bd_s, if_pos rfl, if_pos rfl]
      exact Bo.bad hR
    · obtain ⟨Y1, a1, a2, a3⟩ := gn_e r2 r1 r7 r4 r5 r6 (fun _ _ => rfl)
      have hw := rs_now a2
      rw [h', bd_s, bd_s, if_neg n10_, if_neg n10_, a1, b2_s]
      obtain ⟨q1, q2, q3⟩ := r8.2.1 k k1
      by_cases h0 : w = 0
      · rw [if_pos h0, if_pos h0, gd_p (na_ix (show k < 100 by omega) (by decide)), gd_p (na_ix (show k < 128 by omega) (by decide)), na_cl (by omega), q2, a3.2 k k1]
        exact ⟨_, X, Y1, rfl, rfl, hR.y (rs_p a2)⟩
      · rw [if_neg h0, if_neg h0, gd_p (na_ix (show k < 100 by omega) (by decide)), na_cl (by omega), q3, ct_e r1 k1 (fun i hi => by rw [hw]) a3, bd_s]
        exact ⟨_, X, Y1, rfl, rfl, hR.y (rs_p a2)⟩
theorem m_costBy {X : tt_TreeOdds} {Y : tt_Model} (x w : Int32) (hR : Rel X Y) : Bo (fn_X8_costBy X x w) (fn_X9_costBy Y x w) := by
  obtain ⟨⟨n, d, g, r1, r2, r3, r4, r5, r6, r7, r8⟩, -⟩ := id hR
  unfold fn_X8_costBy fn_X9_costBy
  rw [in_e x 0 6 z64.1 z64.2.2.2.2.1]
  rcases wi_c x 0 6 with ⟨h, -⟩ | ⟨h, h1, h2⟩
  · rw [h, bd_s, bd_s, if_pos rfl, if_pos rfl]
    exact Bo.bad hR
  · rw [h, bd_s, bd_s, if_neg n10_, if_neg n10_, in_e w 0 3 z64.1 z64.2.2.2.1]
    rcases wi_c w 0 3 with ⟨h', -⟩ | ⟨h', h3, h4⟩
    · rw [h', bd_s, bd_s, if_pos rfl, if_pos rfl]
      exact Bo.bad hR
    · obtain ⟨a, -, a2, rfl⟩ := nt_of (lo := 0) (hi := 6) (by decide) (by decide) h1 h2
      obtain ⟨b, -, b2, rfl⟩ := nt_of (lo := 0) (hi := 3) (by decide) (by decide) h3 h4
      obtain ⟨Q, q1, q2⟩ := pr_e (gf_TreeOdds_spare X) a2 b2 r1 r7 r8.1 (fun i hi => (r8.2.1 i hi).1)
      obtain ⟨Y1, c1, c2, c3⟩ := go_e (g := b) a2 r1 r7 r4 (fun _ _ => rfl)
      rw [h', bd_s, bd_s, if_neg n10_, if_neg n10_, q1, b2_s, lt_v, c1, b2_s]
      exact ⟨_, _, Y1, rfl, rfl, (hR.spare Q).y (rs_p c2)⟩
