/-! ===== pure part: the text, blanks and numbers ===== -/
def sk_ (tx : Nat → Int32) (t : Nat) : Nat → Nat → Nat
  | 0, p => p
  | f + 1, p => if p < t ∧ tx p = 32 then sk_ tx t f (p + 1) else p
def skp (tx : Nat → Int32) (t p : Nat) : Nat := sk_ tx t (t - p) p
theorem skp_s {tx : Nat → Int32} {t p : Nat} (h1 : p < t) (h2 : tx p = 32) : skp tx t p = skp tx t (p + 1) := by
  unfold skp
  rw [show t - p = t - (p + 1) + 1 by omega, sk_, if_pos ⟨h1, h2⟩]
theorem skp_n {tx : Nat → Int32} {t p : Nat} (h : ¬ (p < t ∧ tx p = 32)) : skp tx t p = p := by
  unfold skp
  cases t - p with
  | zero => rfl
  | succ f => rw [sk_, if_neg h]
theorem skp_r {tx : Nat → Int32} {t : Nat} : ∀ (m p : Nat), t - p = m → p ≤ t → p ≤ skp tx t p ∧ skp tx t p ≤ t ∧ (skp tx t p < t → ¬ tx (skp tx t p) = 32) := by
  intro m
  induction m with
  | zero =>
    intro p h1 h2
    rw [skp_n (fun h => absurd h.1 (by omega))]
    exact ⟨Nat.le_refl _, h2, fun h => absurd h (by omega)⟩
  | succ m ih =>
    intro p h1 h2
    by_cases h : tx p = 32
    · rw [skp_s (by omega) h]
      obtain ⟨a, b, c⟩ := ih (p + 1) (by omega) (by omega)
      exact ⟨by omega, b, c⟩
    · rw [skp_n (fun x => h x.2)]
      exact ⟨Nat.le_refl _, h2, fun _ => h⟩
theorem skp_i {tx : Nat → Int32} {t p : Nat} (hp : p ≤ t) : skp tx t (skp tx t p) = skp tx t p := by
  obtain ⟨a, b, c⟩ := skp_r (tx := tx) _ p rfl hp
  exact skp_n (fun h => c h.1 h.2)
def hr_ (tx : Nat → Int32) (t q : Nat) : Int32 := if q < t then tx q else -1
def TB (t : Nat) (tx : Nat → Int32) (T : tt_Text) : Prop := gf_Text_length T = nI t ∧ ∀ k, k < t → gf_Text_bytes T k = tx k
theorem TB_c {t : Nat} {tx : Nat → Int32} {T : tt_Text} (v : Int32) (h : TB t tx T) : TB t tx (sf_Text_cursor T v) := ⟨h.1, h.2⟩
theorem hc_e {t q : Nat} {tx : Nat → Int32} {T : tt_Text} (ht : t ≤ 120) (hq : q ≤ t) (hB : TB t tx T) (hc : gf_Text_cursor T = nI q) : fn_X6_here T = some (hr_ tx t q) := by
  unfold fn_X6_here hr_
  rw [hc, hB.1, if_neg (nI_pos (by omega))]
  by_cases h : q < t
  · rw [if_neg (nI_ge h (by omega)), if_neg (show ¬ (120 : Int32) ≤ nI q from nI_ge (b := 120) (by omega) (by decide)), gd_p (na_ix (show q < 120 by omega) (by decide)), na_cl (by omega), hB.2 q h, if_pos h]
  · rw [if_pos (nI_le (by omega) (by omega)), if_neg h]
theorem hk_e {t q : Nat} {tx : Nat → Int32} {T : tt_Text} (ht : t ≤ 120) (hB : TB t tx T) (hq : q ≤ t) : fn_X6_here (sf_Text_cursor T (nI q)) = some (hr_ tx t q) := hc_e ht hq (TB_c (nI q) hB) rfl
theorem cu_p (T : tt_Text) (a b : Int32) : gf_Text_cursor (sf_Text_cursor T a) = a ∧ sf_Text_cursor (sf_Text_cursor T a) b = sf_Text_cursor T b := ⟨rfl, rfl⟩
theorem cu_i (T : tt_Text) : sf_Text_cursor T (gf_Text_cursor T) = T := rfl
theorem hr_b {tx : Nat → Int32} {t q : Nat} {x : Int32} (hx : 0 ≤ x) (h : hr_ tx t q = x) : q < t ∧ tx q = x := by
  unfold hr_ at h
  by_cases hq : q < t
  · rw [if_pos hq] at h; exact ⟨hq, h⟩
  · rw [if_neg hq] at h
    rw [← h] at hx
    exact absurd hx (by decide +kernel)
theorem sc_l {t : Nat} {tx : Nat → Int32} {T : tt_Text} (k : tt_Text → Option tt_Text) (ht : t ≤ 120) (hB : TB t tx T) : ∀ (m p c f : Nat), p + m = t → c + m ≤ 120 → fl_X6_skipBlanks_2 k (f + m + 1) (sf_Text_cursor T (nI p)) (nI c) = k (sf_Text_cursor T (nI (skp tx t p))) := by
  intro m
  induction m with
  | zero =>
    intro p c f h1 h2
    obtain rfl : p = t := by omega
    rw [skp_n (fun h => absurd h.1 (by omega)), fl_X6_skipBlanks_2]
    by_cases hc : (120 : Int32) ≤ nI c
    · rw [if_pos hc]
    · rw [if_neg hc, hk_e ht hB (Nat.le_refl _), bd_s, if_neg (fun h => absurd (hr_b (by decide) h).1 (by omega))]
  | succ m ih =>
    intro p c f h1 h2
    have hc : ¬ (120 : Int32) ≤ nI c := nI_ge (b := 120) (by omega) (by decide)
    rw [show f + (m + 1) + 1 = f + m + 1 + 1 by omega, fl_X6_skipBlanks_2, if_neg hc, hk_e ht hB (show _ ≤ t by omega), bd_s, hr_, if_pos (show p < t by omega), (cu_p T (nI p) 0).1, show nI p + (1 : Int32) = nI (p + 1) from nI_1 p, lt_v, lt_v, lt_v, (cu_p T _ _).2, show nI c + (1 : Int32) = nI (c + 1) from nI_1 c]
    by_cases h : tx p = 32
    · rw [if_pos h, skp_s (by omega) h]
      exact ih (p + 1) (c + 1) f (by omega) (by omega)
    · rw [if_neg h, skp_n (fun x => h x.2)]
theorem sb_c {t p : Nat} {tx : Nat → Int32} {T : tt_Text} (ht : t ≤ 120) (hp : p ≤ t) (hB : TB t tx T) : fn_X6_skipBlanks (sf_Text_cursor T (nI p)) = some (sf_Text_cursor T (nI (skp tx t p))) := by
  have h := sc_l (T := T) (fun (S : tt_Text) => some S) ht hB (t - p) p 0 (4999 - (t - p)) (by omega) (by omega)
  rw [nI_0, show 4999 - (t - p) + (t - p) + 1 = fu_ by unfold fu_; omega] at h
  exact h
-- the reference
def YB (t : Nat) (tx : Nat → Int32) (Y : tt_Model) : Prop := gf_Model_textLong Y = nI t ∧ gf_Model_text Y = tx
theorem pl_p (Y : tt_Model) (a b : Int32) : gf_Model_place (sf_Model_place Y a) = a ∧ gf_Model_textLong (sf_Model_place Y a) = gf_Model_textLong Y ∧ gf_Model_text (sf_Model_place Y a) = gf_Model_text Y ∧ sf_Model_place (sf_Model_place Y a) b = sf_Model_place Y b ∧ sameP (sf_Model_place Y a) Y ∧ gf_Model_read (sf_Model_place Y a) = gf_Model_read Y ∧ gf_Model_readLong (sf_Model_place Y a) = gf_Model_readLong Y := ⟨rfl, rfl, rfl, rfl, ⟨rfl, rfl, rfl, rfl, rfl, rfl⟩, rfl, rfl⟩
theorem pl_i (Y : tt_Model) : sf_Model_place Y (gf_Model_place Y) = Y := rfl
theorem YB_p {t : Nat} {tx : Nat → Int32} {Y : tt_Model} (v : Int32) (h : YB t tx Y) : YB t tx (sf_Model_place Y v) := ⟨(pl_p Y v 0).2.1.trans h.1, (pl_p Y v 0).2.2.1.trans h.2⟩
theorem sr_l {t : Nat} {tx : Nat → Int32} {Y : tt_Model} (k : tt_Model → Option (Int32 × tt_Model)) (ht : t ≤ 120) (hB : YB t tx Y) : ∀ (m p f : Nat), p + m = t → fl_X9_here_0 k (f + m + 1) (sf_Model_place Y (nI p)) = k (sf_Model_place Y (nI (skp tx t p))) := by
  intro m
  induction m with
  | zero =>
    intro p f h1
    obtain rfl : p = t := by omega
    rw [skp_n (fun h => absurd h.1 (by omega)), fl_X9_here_0, (YB_p _ hB).1, (pl_p Y _ 0).1, if_pos (Int32.le_refl _)]
  | succ m ih =>
    intro p f h1
    rw [show f + (m + 1) + 1 = f + m + 1 + 1 by omega, fl_X9_here_0, (YB_p _ hB).1, (pl_p Y _ 0).1, if_neg (nI_ge (by omega) (by omega)), gd_p (na_ix (show p < 120 by omega) (by decide)), (YB_p _ hB).2, na_cl (by omega), show nI p + (1 : Int32) = nI (p + 1) from nI_1 p, lt_v, lt_v, (pl_p Y _ _).2.2.2.1]
    by_cases h : tx p = 32
    · rw [if_pos h, skp_s (by omega) h]
      exact ih (p + 1) f (by omega)
    · rw [if_neg h, skp_n (fun x => h x.2)]
theorem hy_e {t p : Nat} {tx : Nat → Int32} {Y : tt_Model} (ht : t ≤ 120) (hp : p ≤ t) (hB : YB t tx Y) : fn_X9_here (sf_Model_place Y (nI p)) = some (hr_ tx t (skp tx t p), sf_Model_place Y (nI (skp tx t p))) := by
  obtain ⟨a, b, -⟩ := skp_r (tx := tx) _ p rfl hp
  have h := sr_l (Y := Y) (fun (S0_e38_6 : tt_Model) => fn_X9_here_38 S0_e38_6) ht hB (t - p) p (4999 - (t - p)) (by omega)
  rw [show 4999 - (t - p) + (t - p) + 1 = fu_ by unfold fu_; omega] at h
  unfold fn_X9_here
  rw [h]
  generalize skp tx t p = q at *
  unfold fn_X9_here_38 hr_
  rw [(YB_p _ hB).1, (pl_p Y _ 0).1]
  by_cases hq : q < t
  · rw [if_neg (nI_ge hq (by omega)), gd_p (na_ix (show q < 120 by omega) (by decide)), (YB_p _ hB).2, na_cl (by omega), if_pos hq]
  · rw [if_pos (nI_le (by omega) (by omega)), if_neg hq]
-- figures
def fg_ (tx : Nat → Int32) (t q : Nat) : Prop := q < t ∧ ∃ a, a ≤ 9 ∧ tx q = nI (48 + a)
theorem fg_w {tx : Nat → Int32} {t q : Nat} : (fg_ tx t q ∧ fn_X8_within (hr_ tx t q) 48 57 = some 1) ∨ (¬ fg_ tx t q ∧ fn_X8_within (hr_ tx t q) 48 57 = some 0) := by
  unfold hr_
  by_cases hq : q < t
  · rw [if_pos hq]
    rcases wi_c (tx q) 48 57 with ⟨h, h1⟩ | ⟨h, h1, h2⟩
    · refine Or.inr ⟨?_, h⟩
      rintro ⟨-, a, a1, a2⟩
      rw [a2] at h1
      rcases h1 with h1 | h1
      · exact nI_nlt (b := 48) (by omega) (by omega) h1
      · exact nI_nlt (a := 57) (by omega) (by decide) h1
    · obtain ⟨a, a1, a2, a3⟩ := nt_of (lo := 48) (hi := 57) (by decide) (by decide) h1 h2
      exact Or.inl ⟨⟨hq, a - 48, by omega, by rw [a3]; congr 1; omega⟩, h⟩
  · rw [if_neg hq]
    exact Or.inr ⟨fun h => hq h.1, by decide +kernel⟩
theorem isf_e {t q : Nat} {tx : Nat → Int32} {Y : tt_Model} (ht : t ≤ 120) (hB : YB t tx Y) (hq : q ≤ t) : fn_X9_isFigure Y (nI q) = fn_X8_within (hr_ tx t q) 48 57 := by
  unfold fn_X9_isFigure hr_
  rw [hB.1, hB.2]
  by_cases h : q < t
  · rw [if_neg (nI_ge h (by omega)), gd_p (na_ix (show q < 120 by omega) (by decide)), na_cl (by omega), in_e (tx q) 48 57 (by decide +kernel) (by decide +kernel), if_pos h]
    rcases wi_c (tx q) 48 57 with ⟨h, -⟩ | ⟨h, -⟩
    · rw [h, bd_s, if_pos rfl]
    · rw [h, bd_s, if_neg n10_]
  · rw [if_pos (nI_le (by omega) (by omega)), if_neg h]
    decide +kernel
def mi_ (y : Int32) : Int32 := if y < 1000 then y else 1000
def vd_ (tx : Nat → Int32) : Nat → Int32 → Nat → Int32
  | _, x, 0 => x
  | q, x, j + 1 => vd_ tx (q + 1) (mi_ (x * 10 + tx q - 48)) j
theorem dt_c {t : Nat} {tx : Nat → Int32} {T : tt_Text} (k : tt_Text → Int32 → Int32 → Option (Int32 × tt_Text)) (x1 : Int32) (ht : t ≤ 120) (hB : TB t tx T) : ∀ (m q c f : Nat) (x : Int32), q + m = t → c + m ≤ 120 → ∃ j, fl_X6_readTimes_23 k (f + m + 1) (sf_Text_cursor T (nI q)) x1 x (nI c) = k (sf_Text_cursor T (nI (q + j))) x1 (vd_ tx q x j) ∧ (∀ i, i < j → fg_ tx t (q + i)) ∧ ¬ fg_ tx t (q + j) ∧ q + j ≤ t := by
  intro m
  induction m with
  | zero =>
    intro q c f x h1 h2
    obtain rfl : q = t := by omega
    refine ⟨0, ?_, fun i hi => absurd hi (by omega), fun h => absurd h.1 (by omega), by omega⟩
    rw [fl_X6_readTimes_23]
    by_cases hc : (120 : Int32) ≤ nI c
    · rw [if_pos hc]; rfl
    · rw [if_neg hc, hk_e ht hB (Nat.le_refl _), bd_s]
      rcases fg_w (tx := tx) (t := q) (q := q) with ⟨h, -⟩ | ⟨-, h⟩
      · exact absurd h.1 (by omega)
      · rw [h, bd_s, if_pos rfl]; rfl
  | succ m ih =>
    intro q c f x h1 h2
    have hc : ¬ (120 : Int32) ≤ nI c := nI_ge (b := 120) (by omega) (by decide)
    rw [show f + (m + 1) + 1 = f + m + 1 + 1 by omega, fl_X6_readTimes_23, if_neg hc, hk_e ht hB (show _ ≤ t by omega), bd_s]
    rcases fg_w (tx := tx) (t := t) (q := q) with ⟨h, h'⟩ | ⟨h, h'⟩
    · rw [h', bd_s, if_neg n10_, bd_s, hr_, if_pos h.1, (cu_p T (nI q) 0).1, show nI q + (1 : Int32) = nI (q + 1) from nI_1 q, lt_v, lt_v, lt_v, lt_v, (cu_p T _ _).2, show nI c + (1 : Int32) = nI (c + 1) from nI_1 c]
      obtain ⟨j, a1, a2, a3, a4⟩ := ih (q + 1) (c + 1) f (mi_ (x * 10 + tx q - 48)) (by omega) (by omega)
      refine ⟨j + 1, ?_, fun i hi => ?_, by rw [show q + (j + 1) = q + 1 + j by omega]; exact a3, by omega⟩
      · rw [show q + (j + 1) = q + 1 + j by omega, vd_]
        exact a1
      · by_cases h0 : i = 0
        · rw [h0, Nat.add_zero]; exact h
        · have := a2 (i - 1) (by omega)
          rw [show q + 1 + (i - 1) = q + i by omega] at this
          exact this
    · rw [h', bd_s, if_pos rfl]
      exact ⟨0, rfl, fun i hi => absurd hi (by omega), h, by omega⟩
theorem t51_n {Y : tt_Model} {q j : Nat} {v : Int32} (hq : q + j < 1000) (hp : gf_Model_place Y = nI q) (h : (j = 0 ∨ 3 ≤ j) ∨ v = 0) : fn_X9_times_51 Y (nI (q + j)) v = some (0, Y) := by
  have e0 : fn_X9_times_76 Y (nI (q + j)) v = some (0, Y) := by
    unfold fn_X9_times_76 fn_X9_times_77 fn_X9_times_93
    rw [if_pos rfl, pl_i, lt_v, if_pos rfl]
  unfold fn_X9_times_51
  rw [e0, hp, pk_sub (by omega), show q + j - q = j by omega, in_e (nI j) 1 2 z64.2.1 z64.2.2.1]
  rcases wi_c (nI j) 1 2 with ⟨h', -⟩ | ⟨h', a, b⟩
  · rw [h', bd_s, if_pos rfl]
  · rw [h', bd_s, if_neg n10_]
    obtain ⟨c, c1, c2, c3⟩ := nt_of (lo := 1) (hi := 2) (by decide) (by decide) a b
    rw [nI_eq (by omega) (by omega)] at c3
    rcases h with h | h
    · omega
    · rw [if_pos (by rw [h]; exact Int32.le_refl _)]
theorem t51_y {Y : tt_Model} {q j w : Nat} (hq : q + j < 1000) (hp : gf_Model_place Y = nI q) (h1 : 1 ≤ j) (h2 : j ≤ 2) (hw : 1 ≤ w) (hw2 : w < 1000) : fn_X9_times_51 Y (nI (q + j)) (nI w) = some (nI w, sf_Model_place Y (nI (q + j))) := by
  unfold fn_X9_times_51 fn_X9_times_77 fn_X9_times_93
  have hin : fn_X8_within (nI j) 1 2 = some 1 := by
    rcases (show j = 1 ∨ j = 2 by omega) with rfl | rfl <;> decide +kernel
  rw [hp, pk_sub (by omega), show q + j - q = j by omega, in_e (nI j) 1 2 z64.2.1 z64.2.2.1, hin, bd_s, if_neg n10_, if_neg (nI_nle (by omega) (by omega)), if_neg n10_, lt_v, if_neg n10_]
theorem t12_e {t q j : Nat} {tx : Nat → Int32} {Y : tt_Model} (ht : t ≤ 120) (hB : YB t tx Y) (hp : gf_Model_place Y = nI q) (h1 : ∀ i, i < j → fg_ tx t (q + i)) (h2 : ¬ fg_ tx t (q + j)) (h3 : q + j ≤ t) (k : tt_Model → Int32 → Int32 → Option (Int32 × tt_Model)) (x : Int32) (f : Nat) : (j = 0 → fl_X9_times_12 k (f + 4) Y (nI q) x = k Y (nI q) x) ∧ (j = 1 → fl_X9_times_12 k (f + 4) Y (nI q) x = k Y (nI (q + 1)) (10 * x + tx q - 48)) ∧ (j = 2 → fl_X9_times_12 k (f + 4) Y (nI q) x = k Y (nI (q + 2)) (10 * (10 * x + tx q - 48) + tx (q + 1) - 48)) ∧ (3 ≤ j → ∃ v, fl_X9_times_12 k (f + 4) Y (nI q) x = k Y (nI (q + 3)) v) := by
  have step : ∀ (i f : Nat) (x : Int32), fg_ tx t (q + i) → i < 3 → fl_X9_times_12 k (f + 1) Y (nI (q + i)) x = fl_X9_times_12 k f Y (nI (q + i + 1)) (10 * x + tx (q + i) - 48) := by
    intro i f x hf hi
    have hlt := hf.1
    rcases fg_w (tx := tx) (t := t) (q := q + i) with ⟨-, h⟩ | ⟨h, -⟩
    · rw [fl_X9_times_12, isf_e ht hB (by omega), h, bd_s, if_neg n10_, hp, pk_sub (by omega), show q + i - q = i by omega, if_neg (show ¬ (3 : Int32) ≤ nI i from nI_ge (b := 3) hi (by decide)), gd_p (na_ix (show q + i < 120 by omega) (by decide)), lt_v, lt_v, hB.2, na_cl (by omega), show nI (q + i) + (1 : Int32) = nI (q + i + 1) from nI_1 _]
    · exact absurd hf h
  have stop : ∀ (i f : Nat) (x : Int32), ¬ fg_ tx t (q + i) → q + i ≤ t → fl_X9_times_12 k (f + 1) Y (nI (q + i)) x = k Y (nI (q + i)) x := by
    intro i f x hf hi
    rcases fg_w (tx := tx) (t := t) (q := q + i) with ⟨h, -⟩ | ⟨-, h⟩
    · exact absurd h hf
    · rw [fl_X9_times_12, isf_e ht hB (by omega), h, bd_s, if_pos rfl]
  refine ⟨fun h => ?_, fun h => ?_, fun h => ?_, fun h => ?_⟩
  · subst h
    exact stop 0 (f + 3) x h2 h3
  · subst h
    have s0 : fl_X9_times_12 k (f + 3 + 1) Y (nI q) x = fl_X9_times_12 k (f + 3) Y (nI (q + 1)) (10 * x + tx q - 48) := step 0 (f + 3) x (h1 0 (by omega)) (by omega)
    rw [show f + 4 = f + 3 + 1 from rfl, s0]
    exact stop 1 (f + 2) _ h2 h3
  · subst h
    have s0 : fl_X9_times_12 k (f + 3 + 1) Y (nI q) x = fl_X9_times_12 k (f + 3) Y (nI (q + 1)) (10 * x + tx q - 48) := step 0 (f + 3) x (h1 0 (by omega)) (by omega)
    have s1 := step 1 (f + 2) (10 * x + tx q - 48) (h1 1 (by omega)) (by omega)
    rw [show f + 4 = f + 3 + 1 from rfl, s0, show f + 3 = f + 2 + 1 from rfl, s1]
    exact stop 2 (f + 1) _ h2 h3
  · have s0 : fl_X9_times_12 k (f + 3 + 1) Y (nI q) x = fl_X9_times_12 k (f + 3) Y (nI (q + 1)) (10 * x + tx q - 48) := step 0 (f + 3) x (h1 0 (by omega)) (by omega)
    have s1 := step 1 (f + 2) (10 * x + tx q - 48) (h1 1 (by omega)) (by omega)
    have s2 := step 2 (f + 1) (10 * (10 * x + tx q - 48) + tx (q + 1) - 48) (h1 2 (by omega)) (by omega)
    refine ⟨10 * (10 * (10 * x + tx q - 48) + tx (q + 1) - 48) + tx (q + 2) - 48, ?_⟩
    rw [show f + 4 = f + 3 + 1 from rfl, s0, show f + 3 = f + 2 + 1 from rfl, s1, show f + 2 = f + 1 + 1 from rfl, s2, fl_X9_times_12, isf_e ht hB (by omega)]
    rcases fg_w (tx := tx) (t := t) (q := q + 2 + 1) with ⟨-, h⟩ | ⟨-, h⟩
    · rw [h, bd_s, if_neg n10_, hp, pk_sub (by omega), show q + 2 + 1 - q = 3 by omega, if_pos (show (3 : Int32) ≤ nI 3 from Int32.le_refl _)]
    · rw [h, bd_s, if_pos rfl]
theorem v1_e {a w : Nat} (ha : a ≤ 9) (hw : w ≤ 9) : (10 : Int32) * nI w + nI (48 + a) - 48 = nI (10 * w + a) ∧ mi_ (nI w * (10 : Int32) + nI (48 + a) - 48) = nI (10 * w + a) := by
  have e1 : (10 : Int32) * nI w + nI (48 + a) - 48 = nI (10 * w + a) := by
    rw [show (10 : Int32) = nI 10 from rfl, show (48 : Int32) = nI 48 from rfl, pk_mul, nI_add, pk_sub (by omega)]
    congr 1; omega
  refine ⟨e1, ?_⟩
  rw [Int32.mul_comm, e1]
  unfold mi_
  rw [if_pos (show nI (10 * w + a) < (1000 : Int32) from nI_lt (b := 1000) (by omega) (by decide))]
/-- the number behind an x: both take it, or both find the fault -/
theorem tm_e {t p : Nat} {tx : Nat → Int32} {T : tt_Text} {Y : tt_Model} (ht : t ≤ 120) (hp : p < t) (hB : TB t tx T) (hY : YB t tx Y) : (∃ v q, 1 ≤ v ∧ v ≤ 99 ∧ p < q ∧ q ≤ t ∧ fn_X6_readTimes (sf_Text_cursor T (nI p)) = some (nI v, sf_Text_cursor T (nI q)) ∧ fn_X9_times (sf_Model_place Y (nI (p + 1))) = some (nI v, sf_Model_place Y (nI q))) ∨ (∃ w e q, q ≤ t ∧ fn_X6_readTimes (sf_Text_cursor T (nI p)) = some (w, sf_Text_fault (sf_Text_cursor T e) (nI q)) ∧ fn_X9_times (sf_Model_place Y (nI (p + 1))) = some (0, sf_Model_place Y (nI q))) := by
  obtain ⟨q1, q2, -⟩ := skp_r (tx := tx) _ (p + 1) rfl (show p + 1 ≤ t by omega)
  unfold fn_X6_readTimes fn_X9_times
  rw [hy_e ht (by omega) hY, b2_s, (pl_p Y _ 0).1, lt_v, lt_v, lt_v, (cu_p T (nI p) 0).1, show nI p + (1 : Int32) = nI (p + 1) from nI_1 p, (cu_p T _ _).2, sb_c ht (by omega) hB, bd_s, lt_v, (cu_p T _ 0).1]
  generalize skp tx t (p + 1) = q at *
  obtain ⟨j, a1, a2, a3, a4⟩ := dt_c (T := T) (fun (S0_e78_18 : tt_Text) (x1_e78_18 : Int32) (x2_e78_18 : Int32) => fn_X6_readTimes_78 S0_e78_18 x1_e78_18 x2_e78_18) (nI q) ht hB (t - q) q 0 (4999 - (t - q)) 0 (by omega) (by omega)
  rw [nI_0, show 4999 - (t - q) + (t - q) + 1 = fu_ by unfold fu_; omega] at a1
  rw [a1]
  obtain ⟨b0, b1, b2, b3⟩ := t12_e ht (YB_p (nI q) hY) (pl_p Y (nI q) 0).1 a2 a3 a4 (fun (S0_e51_12 : tt_Model) (x2_e51_12 : Int32) (x3_e51_12 : Int32) => fn_X9_times_51 S0_e51_12 x2_e51_12 x3_e51_12) 0 4996
  rw [show 4996 + 4 = fu_ from rfl] at b0 b1 b2 b3
  have hw : fn_X8_within (nI j) 1 2 = some (if 1 ≤ j ∧ j ≤ 2 then 1 else 0) := by
    rw [wi_e]
    by_cases h : 1 ≤ j ∧ j ≤ 2
    · rw [if_pos h, if_neg]
      rintro (h' | h')
      · exact nI_nlt (b := 1) h.1 (by omega) h'
      · exact nI_nlt (a := 2) h.2 (by decide) h'
    · rw [if_neg h, if_pos]
      by_cases h0 : j = 0
      · left; rw [h0]; decide +kernel
      · right; exact nI_lt (a := 2) (by omega) (by omega)
  have hcl : ∀ v, fn_X6_readTimes_78 (sf_Text_cursor T (nI (q + j))) (nI q) v = (if (1 ≤ j ∧ j ≤ 2) ∧ 1 ≤ v then some (v, sf_Text_cursor T (nI (q + j))) else some (v, sf_Text_fault (sf_Text_cursor T (nI (q + j))) (nI q))) := by
    intro v
    unfold fn_X6_readTimes_78 fn_X6_readTimes_97
    rw [(cu_p T _ 0).1, pk_sub (by omega), show q + j - q = j by omega, hw, bd_s, lt_v]
    by_cases h : 1 ≤ j ∧ j ≤ 2
    · rw [if_pos h, if_neg n10_]
      by_cases h1 : 1 ≤ v
      · rw [if_pos h1, if_pos ⟨h, h1⟩]
      · rw [if_neg h1, if_neg (fun x => h1 x.2)]
    · rw [if_neg h, if_pos rfl, if_neg (fun x => h x.1)]
  rw [hcl]
  rcases (show j = 0 ∨ j = 1 ∨ j = 2 ∨ 3 ≤ j by omega) with hj | hj | hj | hj
  · rw [if_neg (fun x => absurd x.1.1 (by omega)), b0 hj]
    have := t51_n (Y := sf_Model_place Y (nI q)) (q := q) (j := j) (v := 0) (by omega) (pl_p Y _ 0).1 (Or.inr rfl)
    rw [hj, Nat.add_zero] at this
    rw [this]
    exact Or.inr ⟨_, _, q, by omega, rfl, rfl⟩
  · obtain ⟨-, a, ha, ea⟩ := a2 0 (by omega)
    rw [Nat.add_zero] at ea
    obtain ⟨x1, x2⟩ := v1_e (w := 0) ha (by decide)
    rw [nI_0, Nat.mul_zero, Nat.zero_add] at x1 x2
    have ev : vd_ tx q 0 j = nI a := by rw [hj, vd_, vd_, ea, x2]
    rw [ev, b1 hj, ea, x1]
    by_cases h1 : 1 ≤ a
    · rw [if_pos ⟨⟨by omega, by omega⟩, nI_le (a := 1) h1 (by omega)⟩, t51_y (q := q) (j := 1) (by omega) (pl_p Y _ 0).1 (by decide) (by decide) h1 (by omega), (pl_p Y _ _).2.2.2.1, hj]
      exact Or.inl ⟨a, q + 1, h1, by omega, by omega, by omega, rfl, rfl⟩
    · obtain rfl : a = 0 := by omega
      rw [if_neg (fun x => absurd x.2 (by decide +kernel)), t51_n (q := q) (j := 1) (by omega) (pl_p Y _ 0).1 (Or.inr nI_0)]
      exact Or.inr ⟨_, _, q, by omega, rfl, rfl⟩
  · obtain ⟨-, a, ha, ea⟩ := a2 0 (by omega)
    obtain ⟨-, c, hc, ec⟩ := a2 1 (by omega)
    rw [Nat.add_zero] at ea
    obtain ⟨x1, x2⟩ := v1_e (w := 0) ha (by decide)
    rw [nI_0, Nat.mul_zero, Nat.zero_add] at x1 x2
    obtain ⟨y1, y2⟩ := v1_e (w := a) hc ha
    have ev : vd_ tx q 0 j = nI (10 * a + c) := by rw [hj, vd_, vd_, vd_, ea, x2, ec, y2]
    rw [ev, b2 hj, ea, x1, ec, y1]
    by_cases h1 : 1 ≤ 10 * a + c
    · rw [if_pos ⟨⟨by omega, by omega⟩, nI_le (a := 1) h1 (by omega)⟩, t51_y (q := q) (j := 2) (by omega) (pl_p Y _ 0).1 (by decide) (by decide) h1 (by omega), (pl_p Y _ _).2.2.2.1, hj]
      exact Or.inl ⟨10 * a + c, q + 2, h1, by omega, by omega, by omega, rfl, rfl⟩
    · rw [show 10 * a + c = 0 by omega, if_neg (fun x => absurd x.2 (by decide +kernel)), t51_n (q := q) (j := 2) (by omega) (pl_p Y _ 0).1 (Or.inr nI_0)]
      exact Or.inr ⟨_, _, q, by omega, rfl, rfl⟩
  · obtain ⟨v, hv⟩ := b3 hj
    rw [if_neg (fun x => absurd x.1.2 (by omega)), hv, t51_n (q := q) (j := 3) (by omega) (pl_p Y _ 0).1 (Or.inl (Or.inr (by decide)))]
    exact Or.inr ⟨_, _, q, by omega, rfl, rfl⟩
