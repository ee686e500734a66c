/-! ===== pure part: told ===== -/
def cl_ (F : Nat) (T : tt_Text) (c : Nat) : Option tt_Text := fl_X6_read_34 (fun (S : tt_Text) => fn_X6_read_76 S) (fun (S : tt_Text) => fn_X6_read_76 S) F T (nI c)
theorem r76_f {T : tt_Text} {e : Nat} (he : e < 1000) (h : gf_Text_fault T = nI e) : fn_X6_read_76 T = some T := by
  unfold fn_X6_read_76
  rw [h, if_neg (n1_ e he)]
theorem cl_f {T : tt_Text} {e F c : Nat} (he : e < 1000) (hF : 1 ≤ F) (h : gf_Text_fault T = nI e) : cl_ F T c = some T := by
  obtain ⟨F0, rfl⟩ : ∃ F0, F = F0 + 1 := ⟨F - 1, by omega⟩
  unfold cl_
  rw [fl_X6_read_34, h, if_neg (n1_ e he), r76_f he h]
  split <;> rfl
theorem cu_q {T : tt_Text} {q : Nat} (h : gf_Text_cursor T = nI q) : sf_Text_cursor T (nI q) = T := by rw [← h]; exact cu_i T
theorem pl_q {Y : tt_Model} {q : Nat} (h : gf_Model_place Y = nI q) : sf_Model_place Y (nI q) = Y := by rw [← h]; exact pl_i Y
theorem cl_t {N t q c F : Nat} {tx : Nat → Int32} {T : tt_Text} {Y : tt_Model} (ht : t ≤ 120) (hC : TC N t tx T Y) (hq : q ≤ t) (hc : gf_Text_cursor T = nI q) (hs : skp tx t q < t) (hc2 : c + (t - q) ≤ 120) : cl_ (F + 1) T c = bd_ (fn_X6_readPiece (sf_Text_cursor T (nI (skp tx t q)))) fun P => cl_ F P (c + 1) := by
  obtain ⟨q1, -, -⟩ := skp_r (tx := tx) _ q rfl hq
  have h120 : ¬ (120 : Int32) ≤ nI c := nI_ge (b := 120) (by omega) (by decide)
  have hsk := sb_c ht hq hC.1
  rw [cu_q hc] at hsk
  have e1 : gf_Text_length (sf_Text_cursor T (nI (skp tx t q))) = nI t := hC.1.1
  unfold cl_
  rw [fl_X6_read_34, if_neg h120, hC.2.2.2.2, if_pos rfl, hsk, bd_s, (cu_p T _ 0).1, e1, if_pos (nI_lt hs (by omega))]
  cases fn_X6_readPiece (sf_Text_cursor T (nI (skp tx t q))) with
  | none => rfl
  | some P => rw [bd_s, bd_s, lt_v, show nI c + (1 : Int32) = nI (c + 1) from nI_1 c]
theorem cl_e {N t q c F : Nat} {tx : Nat → Int32} {T : tt_Text} {Y : tt_Model} (ht : t ≤ 120) (hC : TC N t tx T Y) (hq : q ≤ t) (hc : gf_Text_cursor T = nI q) (hs : skp tx t q = t) (hF : 1 ≤ F) : ∃ x, cl_ F T c = fn_X6_read_76 (sf_Text_cursor T x) := by
  obtain ⟨F0, rfl⟩ : ∃ F0, F = F0 + 1 := ⟨F - 1, by omega⟩
  have hsk := sb_c ht hq hC.1
  rw [cu_q hc, hs] at hsk
  have e1 : gf_Text_length (sf_Text_cursor T (nI t)) = nI t := hC.1.1
  unfold cl_
  rw [fl_X6_read_34, hC.2.2.2.2, if_pos rfl, hsk, bd_s, (cu_p T _ 0).1, e1, if_neg (nI_nlt (Nat.le_refl t) (by omega))]
  by_cases h : (120 : Int32) ≤ nI c
  · rw [if_pos h]; exact ⟨nI q, by rw [cu_q hc]⟩
  · rw [if_neg h]; exact ⟨nI t, rfl⟩
-- a piece
theorem bd_r {α : Type} (a : Option α) : (bd_ a fun P => some P) = a := by cases a <;> rfl
theorem rp_s {N t q : Nat} {tx : Nat → Int32} {T : tt_Text} {Y : tt_Model} (ht : t ≤ 120) (hC : TC N t tx T Y) (hq : q < t) (h : tx q = 48 ∨ tx q = 49) : fn_X6_readPiece (sf_Text_cursor T (nI q)) = fn_X6_readSigns (sf_Text_cursor T (nI q)) (tx q - 48) := by
  unfold fn_X6_readPiece fn_X6_readPiece_17
  rw [hk_e ht hC.1 (by omega), bd_s, hr_, if_pos hq, bd_r]
  rcases h with h | h
  · rw [if_pos h]
  · rw [if_neg (by rw [h]; decide), if_pos h]
theorem rp_x {N t q : Nat} {tx : Nat → Int32} {T : tt_Text} {Y : tt_Model} (ht : t ≤ 120) (hC : TC N t tx T Y) (hq : q < t) (h0 : ¬ tx q = 48) (h1 : ¬ tx q = 49) (h2 : ¬ tx q = 41 ∨ gf_Text_groupStart T = -1) (h3 : ¬ tx q = 40 ∨ ¬ gf_Text_groupStart T = -1) : fn_X6_readPiece (sf_Text_cursor T (nI q)) = some (sf_Text_fault (sf_Text_cursor T (nI q)) (nI q)) := by
  have e0 : fn_X6_readPiece_95 (sf_Text_cursor T (nI q)) = some (sf_Text_fault (sf_Text_cursor T (nI q)) (nI q)) := by
    unfold fn_X6_readPiece_95
    rw [lt_v, (cu_p T _ 0).1, lt_v]
  have e1 : gf_Text_groupStart (sf_Text_cursor T (nI q)) = gf_Text_groupStart T := rfl
  have e2 : fn_X6_readPiece_63 (sf_Text_cursor T (nI q)) (tx q) = some (sf_Text_fault (sf_Text_cursor T (nI q)) (nI q)) := by
    unfold fn_X6_readPiece_63
    rw [e0, e1]
    rcases h2 with h2 | h2
    · rw [if_neg h2]
    · rw [if_pos h2]
      split <;> rfl
  unfold fn_X6_readPiece
  rw [hk_e ht hC.1 (by omega), bd_s, hr_, if_pos hq, if_neg h0, if_neg h1, e2, e1]
  rcases h3 with h3 | h3
  · rw [if_neg h3]
  · rw [if_neg h3]
    split <;> rfl
theorem rp_o {N t q n : Nat} {tx : Nat → Int32} {T : tt_Text} {Y : tt_Model} (ht : t ≤ 120) (hC : TC N t tx T Y) (hT : TR n T Y) (hq : q < t) (h : tx q = 40) (hg : gf_Text_groupStart T = -1) : fn_X6_readPiece (sf_Text_cursor T (nI q)) = some (sf_Text_cursor (sf_Text_groupStart T (nI n)) (nI (q + 1))) := by
  have e1 : gf_Text_groupStart (sf_Text_cursor T (nI q)) = -1 := hg
  have e2 : gf_Text_found (sf_Text_cursor T (nI q)) = nI n := hT.1
  have e3 : gf_Text_cursor (sf_Text_groupStart (sf_Text_cursor T (nI q)) (nI n)) = nI q := rfl
  unfold fn_X6_readPiece
  rw [hk_e ht hC.1 (by omega), bd_s, hr_, if_pos hq, h, if_neg (by decide), if_neg (by decide), if_pos rfl, e1, if_pos rfl, e2, lt_v, lt_v, e3, show nI q + (1 : Int32) = nI (q + 1) from nI_1 q, lt_v, lt_v]
  rfl
theorem rp_c {N t q n s : Nat} {tx : Nat → Int32} {T : tt_Text} {Y : tt_Model} (ht : t ≤ 120) (hC : TC N t tx T Y) (hT : TR n T Y) (hq : q < t) (h : tx q = 41) (hg : gf_Text_groupStart T = nI s) (hs : s ≤ n) (hn : n ≤ 100) : (n = s → fn_X6_readPiece (sf_Text_cursor T (nI q)) = some (sf_Text_fault (sf_Text_cursor T (nI q)) (nI q))) ∧ (s < n → fn_X6_readPiece (sf_Text_cursor T (nI q)) = fn_X6_readGroupEnd (sf_Text_cursor T (nI q))) := by
  have e1 : gf_Text_groupStart (sf_Text_cursor T (nI q)) = nI s := hg
  have e2 : gf_Text_found (sf_Text_cursor T (nI q)) = nI n := hT.1
  unfold fn_X6_readPiece fn_X6_readPiece_63 fn_X6_readPiece_95
  rw [hk_e ht hC.1 (by omega), bd_s, hr_, if_pos hq, h, if_neg (by decide), if_neg (by decide), if_neg (by decide), if_pos rfl, e1, if_neg (n1_ s (by omega)), e2, lt_v, (cu_p T _ 0).1, lt_v, bd_r]
  refine ⟨fun h => ?_, fun h => ?_⟩
  · rw [if_pos (nI_le (by omega) (by omega))]
  · rw [if_neg (nI_ge h (by omega))]
theorem fl_p (T : tt_Text) (a b : Int32) : BL (sf_Text_fault (sf_Text_cursor T a) b) T ∧ gf_Text_fault (sf_Text_fault (sf_Text_cursor T a) b) = b := ⟨⟨rfl, rfl⟩, rfl⟩
/-- the class's next turn finds the fault that its piece found -/
theorem bd_n {t c F : Nat} {T : tt_Text} {Y : tt_Model} {a : Option tt_Text} {b : Option (Int32 × tt_Model)} (ht : t ≤ 120) (hF : 1 ≤ F) (h : bd1 t T Y a b) : bd1 t T Y (bd_ a fun P => cl_ F P c) b := by
  obtain ⟨T1, Y1, e, h1, h2, h3, h4, h5⟩ := h
  refine ⟨T1, Y1, e, ?_, h2, h3, h4, h5⟩
  rw [h1, bd_s, cl_f (by omega) hF h4]
theorem BL_tr {A B C : tt_Text} (h : BL A B) (k : BL B C) : BL A C := ⟨h.1.trans k.1, h.2.trans k.2⟩
theorem bd_w {t : Nat} {T T0 : tt_Text} {Y Y0 : tt_Model} {a : Option tt_Text} {b : Option (Int32 × tt_Model)} (h : bd1 t T Y a b) (hB : BL T T0) (hY : sameP Y Y0) : bd1 t T0 Y0 a b := by
  obtain ⟨T1, Y1, e, h1, h2, h3, h4, h5, h6, h7⟩ := h
  exact ⟨T1, Y1, e, h1, h2, h3, h4, h5, sP_tr h6 hY, BL_tr h7 hB⟩
/-- inside a group -/
theorem ig_l {N t s : Nat} {tx : Nat → Int32} (k64 : tt_Model → Int32 → Option (Int32 × tt_Model)) (hN : N ≤ 100) (ht : t ≤ 120) : ∀ (m q n c F F' : Nat) (T : tt_Text) (Y : tt_Model), t - q ≤ m → q ≤ t → c + (t - q) ≤ 120 → t - q + 2 ≤ F → t - q + 1 ≤ F' → TC N t tx T Y → TR n T Y → gf_Text_cursor T = nI q → gf_Model_place Y = nI q → gf_Text_groupStart T = nI s → s ≤ n → n ≤ 100 - N →
    bd1 t T Y (cl_ F T c) (fl_X9_readsMany_15 (fun (S : tt_Model) => some ((0 : Int32), S)) k64 F' Y (nI s)) ∨ ∃ T1 Y1 q1 n1 c1 F1, cl_ F T c = cl_ F1 T1 c1 ∧ fl_X9_readsMany_15 (fun (S : tt_Model) => some ((0 : Int32), S)) k64 F' Y (nI s) = k64 (sf_Model_place Y1 (nI (skp tx t q1))) (nI s) ∧ TC N t tx T1 Y1 ∧ TR n1 T1 Y1 ∧ gf_Text_cursor T1 = nI q1 ∧ gf_Model_place Y1 = nI q1 ∧ gf_Text_groupStart T1 = nI s ∧ skp tx t q1 < t ∧ tx (skp tx t q1) = 41 ∧ s ≤ n1 ∧ n1 ≤ 100 - N ∧ c1 + (t - q1) ≤ 120 ∧ t - q1 + 2 ≤ F1 ∧ q ≤ q1 ∧ q1 ≤ t ∧ sameP Y1 Y ∧ BL T1 T := by
  intro m
  induction m with
  | zero =>
    intro q n c F F' T Y h1 h2 h3 h4 h5 hC hT hc hp hg hs hn
    obtain rfl : q = t := by omega
    obtain ⟨F0, rfl⟩ : ∃ F0, F' = F0 + 1 := ⟨F' - 1, by omega⟩
    have hsk : skp tx q q = q := skp_n (fun h => absurd h.1 (by omega))
    obtain ⟨x, hx⟩ := cl_e (c := c) (F := F) ht hC (Nat.le_refl _) hc hsk (by omega)
    have hy := hy_e ht (Nat.le_refl q) hC.2.1
    have hr : hr_ tx q q = -1 := if_neg (by omega)
    rw [hsk, hr, pl_q hp] at hy
    left
    refine ⟨sf_Text_fault (sf_Text_cursor T x) (nI q), Y, q, ?_, ?_, Nat.le_refl _, rfl, hp, sP_rf Y, rfl, rfl⟩
    · have e1 : gf_Text_fault (sf_Text_cursor T x) = -1 := hC.2.2.2.2
      have e2 : gf_Text_groupStart (sf_Text_cursor T x) = nI s := hg
      have e3 : gf_Text_length (sf_Text_cursor T x) = nI q := hC.1.1
      rw [hx]
      unfold fn_X6_read_76
      rw [e1, if_pos rfl, e2, if_neg (n1_ s (by omega)), e3, lt_v, lt_v]
    · unfold fl_X9_readsMany_15 fn_X9_readsMany_47
      rw [hy, b2_s, if_neg (by decide), hy, b2_s, if_neg (by decide), hy, b2_s, if_neg (by decide), if_pos rfl]
  | succ m ih =>
    intro q n c F F' T Y h1 h2 h3 h4 h5 hC hT hc hp hg hs hn
    obtain ⟨F0, rfl⟩ : ∃ F0, F' = F0 + 1 := ⟨F' - 1, by omega⟩
    obtain ⟨G0, rfl⟩ : ∃ G0, F = G0 + 1 := ⟨F - 1, by omega⟩
    obtain ⟨q1, q2, q3⟩ := skp_r (tx := tx) _ q rfl h2
    have hy := hy_e ht h2 hC.2.1
    rw [pl_q hp] at hy
    have hy2 := hy_e (Y := Y) ht q2 hC.2.1
    rw [skp_i h2] at hy2
    by_cases hlt : skp tx t q < t
    · have hr : hr_ tx t (skp tx t q) = tx (skp tx t q) := if_pos hlt
      rw [hr] at hy hy2
      by_cases h41 : tx (skp tx t q) = 41
      · right
        refine ⟨T, Y, q, n, c, G0 + 1, rfl, ?_, hC, hT, hc, hp, hg, hlt, h41, hs, hn, h3, h4, Nat.le_refl _, h2, sP_rf Y, rfl, rfl⟩
        unfold fl_X9_readsMany_15
        rw [hy, b2_s, if_pos h41]
      · by_cases h01 : tx (skp tx t q) = 48 ∨ tx (skp tx t q) = 49
        · have hsg : tx (skp tx t q) - 48 = 0 ∨ tx (skp tx t q) - 48 = 1 := by
            rcases h01 with h | h
            · left; rw [h]; decide
            · right; rw [h]; decide
          have hR : fl_X9_readsMany_15 (fun (S : tt_Model) => some ((0 : Int32), S)) k64 (F0 + 1) Y (nI s) = b2_ (fn_X9_readsSign (sf_Model_place Y (nI (skp tx t q)))) (fun r_13 P_14 => if r_13 = 0 then some ((0 : Int32), P_14) else fl_X9_readsMany_15 (fun (S : tt_Model) => some ((0 : Int32), S)) k64 F0 P_14 (nI s)) := by
            rw [fl_X9_readsMany_15, hy, b2_s, if_neg h41, hy2, b2_s]
            unfold fn_X9_readsMany_42 fn_X9_readsMany_47
            rcases h01 with h | h
            · rw [if_pos h, if_neg n10_]
            · rw [if_neg (by rw [h]; decide), hy2, b2_s, if_pos h, if_neg n10_]
          have hL : cl_ (G0 + 1) T c = bd_ (fn_X6_readSigns (sf_Text_cursor T (nI (skp tx t q))) (tx (skp tx t q) - 48)) fun P => cl_ G0 P (c + 1) := by
            rw [cl_t ht hC h2 hc hlt h3, rp_s ht hC hlt h01]
          rw [hL, hR]
          rcases sg_j hN ht hC hT hlt hsg hn with ⟨T1, Y1, u, n', a1, a2, a3, a4, a5, a6, a7, a8, a9, a10, a11, a12, a13⟩ | hb
          · rw [a1, a2, bd_s, b2_s, if_neg n10_]
            rcases ih u n' (c + 1) G0 F0 T1 Y1 (by omega) a8 (by omega) (by omega) (by omega) a3 a4 a5 a6 (a11.trans hg) (by omega) a10 with hb | ⟨T2, Y2, u2, n2, c2, F2, b1, b2, b3, b4, b5, b6, b7, b8, b9, b10, b11, b12, b13, b14, b15, b16, b17⟩
            · exact Or.inl (bd_w hb a13 a12)
            · exact Or.inr ⟨T2, Y2, u2, n2, c2, F2, b1, b2, b3, b4, b5, b6, b7, b8, b9, b10, b11, b12, b13, by omega, b15, sP_tr b16 a12, BL_tr b17 a13⟩
          · obtain ⟨T1, Y1, e, d1, d2, d3, d4, d5, d6, d7⟩ := bd_n (c := c + 1) (F := G0) ht (by omega) hb
            left
            refine ⟨T1, Y1, e, d1, ?_, d3, d4, d5, d6, d7⟩
            rw [d2, b2_s, if_pos rfl]
        · left
          have h48 : ¬ tx (skp tx t q) = 48 := fun h => h01 (Or.inl h)
          have h49 : ¬ tx (skp tx t q) = 49 := fun h => h01 (Or.inr h)
          rw [cl_t ht hC h2 hc hlt h3, rp_x ht hC hlt h48 h49 (Or.inl h41) (Or.inr (by rw [hg]; exact n1_ s (by omega)))]
          obtain ⟨f1, f2⟩ := fl_p T (nI (skp tx t q)) (nI (skp tx t q))
          refine ⟨_, sf_Model_place Y (nI (skp tx t q)), skp tx t q, ?_, ?_, q2, f2, (pl_p Y _ 0).1, (pl_p Y _ 0).2.2.2.2.1, f1⟩
          · rw [bd_s, cl_f (by omega) (by omega) f2]
          · rw [fl_X9_readsMany_15, hy, b2_s, if_neg h41, hy2, b2_s, if_neg h48, hy2, b2_s, if_neg h49]
            unfold fn_X9_readsMany_47
            rw [if_pos rfl]
    · have hsk : skp tx t q = t := by omega
      obtain ⟨x, hx⟩ := cl_e (c := c) (F := G0 + 1) ht hC h2 hc hsk (by omega)
      have hr : hr_ tx t t = -1 := if_neg (by omega)
      rw [hsk, hr] at hy hy2
      left
      refine ⟨sf_Text_fault (sf_Text_cursor T x) (nI t), sf_Model_place Y (nI t), t, ?_, ?_, Nat.le_refl _, rfl, (pl_p Y _ 0).1, (pl_p Y _ 0).2.2.2.2.1, rfl, rfl⟩
      · have e1 : gf_Text_fault (sf_Text_cursor T x) = -1 := hC.2.2.2.2
        have e2 : gf_Text_groupStart (sf_Text_cursor T x) = nI s := hg
        have e3 : gf_Text_length (sf_Text_cursor T x) = nI t := hC.1.1
        rw [hx]
        unfold fn_X6_read_76
        rw [e1, if_pos rfl, e2, if_neg (n1_ s (by omega)), e3, lt_v, lt_v]
      · unfold fl_X9_readsMany_15 fn_X9_readsMany_47
        rw [hy, b2_s, if_neg (by decide), hy2, b2_s, if_neg (by decide), hy2, b2_s, if_neg (by decide), if_pos rfl]
theorem rm_e {N t q n : Nat} {tx : Nat → Int32} {T : tt_Text} {Y : tt_Model} (hC : TC N t tx T Y) (hT : TR n T Y) : fn_X9_readsMany (sf_Model_place Y (nI q)) = fl_X9_readsMany_15 (fun (S : tt_Model) => some ((0 : Int32), S)) (fun S x => gend_ S x) fu_ (sf_Model_place Y (nI (q + 1))) (nI n) := by
  unfold fn_X9_readsMany
  rw [lt_v, lt_v, lt_v, (pl_p Y (nI q) 0).1, (pl_p Y (nI q) _).2.2.2.1, (pl_p Y (nI q) 0).2.2.2.2.2.2, hT.2.1, show nI q + (1 : Int32) = nI (q + 1) from nI_1 q]
  rfl
/-- the whole text -/
theorem tp_l {N t : Nat} {tx : Nat → Int32} (k65 k76 : tt_Model → Option (Int32 × tt_Model)) (hN : N ≤ 100) (ht : t ≤ 120) (hb : ∀ k, k < t → ∃ c : Nat, c ≤ 127 ∧ tx k = nI c) : ∀ (m q n c F F' : Nat) (T : tt_Text) (Y : tt_Model), t - q ≤ m → q ≤ t → c + (t - q) ≤ 120 → t - q + 2 ≤ F → t - q + 1 ≤ F' → TC N t tx T Y → TR n T Y → gf_Text_cursor T = nI q → gf_Model_place Y = nI q → gf_Text_groupStart T = -1 → n ≤ 100 - N →
    (∃ T1 Y1 e, cl_ F T c = some T1 ∧ fl_X9_told_10 k65 k76 F' Y = k65 Y1 ∧ e ≤ t ∧ gf_Text_fault T1 = nI e ∧ gf_Model_place Y1 = nI e ∧ sameP Y1 Y ∧ BL T1 T) ∨ ∃ T1 Y1 n1, cl_ F T c = some T1 ∧ fl_X9_told_10 k65 k76 F' Y = k76 Y1 ∧ gf_Text_fault T1 = -1 ∧ TR n1 T1 Y1 ∧ n1 ≤ 100 - N ∧ sameP Y1 Y ∧ BL T1 T := by
  intro m
  induction m with
  | zero =>
    intro q n c F F' T Y h1 h2 h3 h4 h5 hC hT hc hp hg hn
    obtain rfl : q = t := by omega
    obtain ⟨F0, rfl⟩ : ∃ F0, F' = F0 + 1 := ⟨F' - 1, by omega⟩
    have hsk : skp tx q q = q := skp_n (fun h => absurd h.1 (by omega))
    obtain ⟨x, hx⟩ := cl_e (c := c) (F := F) ht hC (Nat.le_refl _) hc hsk (by omega)
    have hy := hy_e ht (Nat.le_refl q) hC.2.1
    have hr : hr_ tx q q = -1 := if_neg (by omega)
    rw [hsk, hr, pl_q hp] at hy
    have e1 : gf_Text_fault (sf_Text_cursor T x) = -1 := hC.2.2.2.2
    have e2 : gf_Text_groupStart (sf_Text_cursor T x) = -1 := hg
    right
    refine ⟨sf_Text_cursor T x, Y, n, ?_, ?_, e1, hT, hn, sP_rf Y, rfl, rfl⟩
    · rw [hx]
      unfold fn_X6_read_76
      rw [e1, if_pos rfl, e2, if_pos rfl]
    · rw [fl_X9_told_10, hy, b2_s, if_pos rfl]
  | succ m ih =>
    intro q n c F F' T Y h1 h2 h3 h4 h5 hC hT hc hp hg hn
    obtain ⟨F0, rfl⟩ : ∃ F0, F' = F0 + 1 := ⟨F' - 1, by omega⟩
    obtain ⟨G0, rfl⟩ : ∃ G0, F = G0 + 1 := ⟨F - 1, by omega⟩
    obtain ⟨q1, q2, q3⟩ := skp_r (tx := tx) _ q rfl h2
    have hy := hy_e ht h2 hC.2.1
    rw [pl_q hp] at hy
    have hy2 := hy_e (Y := Y) ht q2 hC.2.1
    rw [skp_i h2] at hy2
    by_cases hlt : skp tx t q < t
    · have hr : hr_ tx t (skp tx t q) = tx (skp tx t q) := if_pos hlt
      have hm1 : ¬ tx (skp tx t q) = -1 := by
        obtain ⟨x, x1, x2⟩ := hb _ hlt
        rw [x2]; exact n1_ x (by omega)
      rw [hr] at hy hy2
      -- the reference at a piece
      have hR0 : fl_X9_told_10 k65 k76 (F0 + 1) Y = (if tx (skp tx t q) = (40 : Int32) then b2_ (fn_X9_readsMany (sf_Model_place Y (nI (skp tx t q)))) (fun r_18 P_19 => fn_X9_told_60 (fl_X9_told_10 k65 k76 F0) k65 P_19 r_18) else if tx (skp tx t q) = (48 : Int32) then fn_X9_told_48 (fl_X9_told_10 k65 k76 F0) k65 (sf_Model_place Y (nI (skp tx t q))) else if tx (skp tx t q) = (49 : Int32) then fn_X9_told_48 (fl_X9_told_10 k65 k76 F0) k65 (sf_Model_place Y (nI (skp tx t q))) else fn_X9_told_59 (fl_X9_told_10 k65 k76 F0) k65 (sf_Model_place Y (nI (skp tx t q)))) := by
        rw [fl_X9_told_10, hy, b2_s, if_neg hm1, hy2, b2_s]
      by_cases h40 : tx (skp tx t q) = 40
      · -- a group
        have hL : cl_ (G0 + 1) T c = cl_ G0 (sf_Text_cursor (sf_Text_groupStart T (nI n)) (nI (skp tx t q + 1))) (c + 1) := by
          rw [cl_t ht hC h2 hc hlt h3, rp_o ht hC hT hlt h40 hg, bd_s]
        rw [hL, hR0, if_pos h40, rm_e hC hT]
        obtain ⟨p1, p2, p3, p4, p5, p6, p7⟩ := pl_p Y (nI (skp tx t q + 1)) 0
        have hC2 : TC N t tx (sf_Text_cursor (sf_Text_groupStart T (nI n)) (nI (skp tx t q + 1))) (sf_Model_place Y (nI (skp tx t q + 1))) := ⟨⟨hC.1.1, hC.1.2⟩, YB_p _ hC.2.1, by rw [p5.1]; exact hC.2.2.1, hC.2.2.2.1, hC.2.2.2.2⟩
        have hT2 : TR n (sf_Text_cursor (sf_Text_groupStart T (nI n)) (nI (skp tx t q + 1))) (sf_Model_place Y (nI (skp tx t q + 1))) := ⟨hT.1, p7.trans hT.2.1, fun i hi => by rw [p6]; exact hT.2.2 i hi⟩
        have hBL : BL (sf_Text_cursor (sf_Text_groupStart T (nI n)) (nI (skp tx t q + 1))) T := ⟨rfl, rfl⟩
        have hig := ig_l (s := n) (fun S x => gend_ S x) hN ht m (skp tx t q + 1) n (c + 1) G0 fu_ _ _ (by omega) (by omega) (by omega) (by omega) (by unfold fu_; omega) hC2 hT2 rfl p1 rfl (Nat.le_refl n) hn
        generalize sf_Text_cursor (sf_Text_groupStart T (nI n)) (nI (skp tx t q + 1)) = T2 at *
        generalize sf_Model_place Y (nI (skp tx t q + 1)) = Y2 at *
        rcases hig with ⟨T3, Y3, e, d1, d2, d3, d4, d5, d6, d7⟩ | ⟨T3, Y3, u, n3, c3, F3, b1, b2, b3, b4, b5, b6, b7, b8, b9, b10, b11, b12, b13, b14, b15, b16, b17⟩
        · left
          refine ⟨T3, Y3, e, d1, ?_, d3, d4, d5, sP_tr d6 p5, BL_tr d7 hBL⟩
          rw [d2, b2_s]
          unfold fn_X9_told_60
          rw [if_pos rfl]
        · obtain ⟨H0, rfl⟩ : ∃ H0, F3 = H0 + 1 := ⟨F3 - 1, by omega⟩
          obtain ⟨v1, v2, -⟩ := skp_r (tx := tx) _ u rfl b15
          obtain ⟨rc1, rc2⟩ := rp_c ht b3 b4 b8 b9 b7 b10 (by omega)
          rw [b1, b2, cl_t ht b3 b15 b5 b8 b12]
          show (∃ T1 Y1 e, _ ∧ (b2_ (gend_ (sf_Model_place Y3 (nI (skp tx t u))) (nI n)) fun r_18 P_19 => fn_X9_told_60 (fl_X9_told_10 k65 k76 F0) k65 P_19 r_18) = k65 Y1 ∧ _) ∨ (∃ T1 Y1 n1, _ ∧ (b2_ (gend_ (sf_Model_place Y3 (nI (skp tx t u))) (nI n)) fun r_18 P_19 => fn_X9_told_60 (fl_X9_told_10 k65 k76 F0) k65 P_19 r_18) = k76 Y1 ∧ _)
          by_cases hne : n3 = n
          · left
            obtain ⟨f1, f2⟩ := fl_p T3 (nI (skp tx t u)) (nI (skp tx t u))
            obtain ⟨w1, w2, w3, w4, w5, w6, w7⟩ := pl_p Y3 (nI (skp tx t u)) 0
            have hge : gend_ (sf_Model_place Y3 (nI (skp tx t u))) (nI n) = some ((0 : Int32), sf_Model_place Y3 (nI (skp tx t u))) := by
              unfold gend_
              rw [lt_v, lt_v, w7, b4.2.1, hne, pk_sub (Nat.le_refl n), Nat.sub_self, nI_0, if_pos rfl]
            refine ⟨_, sf_Model_place Y3 (nI (skp tx t u)), skp tx t u, ?_, ?_, v2, f2, w1, sP_tr w5 (sP_tr b16 p5), BL_tr f1 (BL_tr b17 hBL)⟩
            · rw [rc1 hne, bd_s, cl_f (by omega) (by omega) f2]
            · rw [hge, b2_s]
              unfold fn_X9_told_60
              rw [if_pos rfl]
          · rw [rc2 (by omega)]
            rcases ge_j hN ht b3 b4 b8 (show n < n3 by omega) b11 b7 with ⟨T4, Y4, u4, n4, a1, a2, a3, a4, a5, a6, a7, a8, a9, a10, a11, a12, a13⟩ | hbd
            · rw [a1, a2, bd_s, b2_s]
              unfold fn_X9_told_60
              rw [if_neg n10_]
              rcases ih u4 n4 (c3 + 1) H0 F0 T4 Y4 (by omega) a8 (by omega) (by omega) (by omega) a3 a4 a5 a6 a11 a10 with ⟨T5, Y5, e, g1, g2, g3, g4, g5, g6, g7⟩ | ⟨T5, Y5, n5, g1, g2, g3, g4, g5, g6, g7⟩
              · exact Or.inl ⟨T5, Y5, e, g1, g2, g3, g4, g5, sP_tr g6 (sP_tr a12 (sP_tr b16 p5)), BL_tr g7 (BL_tr a13 (BL_tr b17 hBL))⟩
              · exact Or.inr ⟨T5, Y5, n5, g1, g2, g3, g4, g5, sP_tr g6 (sP_tr a12 (sP_tr b16 p5)), BL_tr g7 (BL_tr a13 (BL_tr b17 hBL))⟩
            · obtain ⟨T4, Y4, e, d1, d2, d3, d4, d5, d6, d7⟩ := bd_n (c := c3 + 1) (F := H0) ht (by omega) hbd
              left
              refine ⟨T4, Y4, e, d1, ?_, d3, d4, d5, sP_tr d6 (sP_tr b16 p5), BL_tr d7 (BL_tr b17 hBL)⟩
              rw [d2, b2_s]
              unfold fn_X9_told_60
              rw [if_pos rfl]
      · by_cases h01 : tx (skp tx t q) = 48 ∨ tx (skp tx t q) = 49
        · have hsg : tx (skp tx t q) - 48 = 0 ∨ tx (skp tx t q) - 48 = 1 := by
            rcases h01 with h | h
            · left; rw [h]; decide
            · right; rw [h]; decide
          have hR : fl_X9_told_10 k65 k76 (F0 + 1) Y = b2_ (fn_X9_readsSign (sf_Model_place Y (nI (skp tx t q)))) (fun r_12 P_13 => if r_12 = 0 then k65 P_13 else fl_X9_told_10 k65 k76 F0 P_13) := by
            rw [hR0, if_neg h40]
            have h48e : ∀ S, fn_X9_told_48 (fl_X9_told_10 k65 k76 F0) k65 S = b2_ (fn_X9_readsSign S) (fun r_12 P_13 => if r_12 = 0 then k65 P_13 else fl_X9_told_10 k65 k76 F0 P_13) := fun S => rfl
            rw [h48e]
            rcases h01 with h | h
            · rw [if_pos h]
            · rw [if_neg (by rw [h]; decide), if_pos h]
          have hL : cl_ (G0 + 1) T c = bd_ (fn_X6_readSigns (sf_Text_cursor T (nI (skp tx t q))) (tx (skp tx t q) - 48)) fun P => cl_ G0 P (c + 1) := by
            rw [cl_t ht hC h2 hc hlt h3, rp_s ht hC hlt h01]
          rw [hL, hR]
          rcases sg_j hN ht hC hT hlt hsg hn with ⟨T1, Y1, u, n', a1, a2, a3, a4, a5, a6, a7, a8, a9, a10, a11, a12, a13⟩ | hbd
          · rw [a1, a2, bd_s, b2_s, if_neg n10_]
            rcases ih u n' (c + 1) G0 F0 T1 Y1 (by omega) a8 (by omega) (by omega) (by omega) a3 a4 a5 a6 (a11.trans hg) a10 with ⟨T5, Y5, e, g1, g2, g3, g4, g5, g6, g7⟩ | ⟨T5, Y5, n5, g1, g2, g3, g4, g5, g6, g7⟩
            · exact Or.inl ⟨T5, Y5, e, g1, g2, g3, g4, g5, sP_tr g6 a12, BL_tr g7 a13⟩
            · exact Or.inr ⟨T5, Y5, n5, g1, g2, g3, g4, g5, sP_tr g6 a12, BL_tr g7 a13⟩
          · obtain ⟨T1, Y1, e, d1, d2, d3, d4, d5, d6, d7⟩ := bd_n (c := c + 1) (F := G0) ht (by omega) hbd
            left
            refine ⟨T1, Y1, e, d1, ?_, d3, d4, d5, d6, d7⟩
            rw [d2, b2_s, if_pos rfl]
        · left
          have h48 : ¬ tx (skp tx t q) = 48 := fun h => h01 (Or.inl h)
          have h49 : ¬ tx (skp tx t q) = 49 := fun h => h01 (Or.inr h)
          rw [cl_t ht hC h2 hc hlt h3, rp_x ht hC hlt h48 h49 (Or.inr hg) (Or.inl h40), hR0, if_neg h40, if_neg h48, if_neg h49]
          obtain ⟨f1, f2⟩ := fl_p T (nI (skp tx t q)) (nI (skp tx t q))
          refine ⟨_, sf_Model_place Y (nI (skp tx t q)), skp tx t q, ?_, ?_, q2, f2, (pl_p Y _ 0).1, (pl_p Y _ 0).2.2.2.2.1, f1⟩
          · rw [bd_s, cl_f (by omega) (by omega) f2]
          · unfold fn_X9_told_59 fn_X9_told_60
            rw [if_pos rfl]
    · have hsk : skp tx t q = t := by omega
      obtain ⟨x, hx⟩ := cl_e (c := c) (F := G0 + 1) ht hC h2 hc hsk (by omega)
      have hr : hr_ tx t t = -1 := if_neg (by omega)
      rw [hsk, hr] at hy
      have e1 : gf_Text_fault (sf_Text_cursor T x) = -1 := hC.2.2.2.2
      have e2 : gf_Text_groupStart (sf_Text_cursor T x) = -1 := hg
      obtain ⟨w1, w2, w3, w4, w5, w6, w7⟩ := pl_p Y (nI t) 0
      right
      refine ⟨sf_Text_cursor T x, sf_Model_place Y (nI t), n, ?_, ?_, e1, ⟨hT.1, w7.trans hT.2.1, fun i hi => by rw [w6]; exact hT.2.2 i hi⟩, hn, w5, rfl, rfl⟩
      · rw [hx]
        unfold fn_X6_read_76
        rw [e1, if_pos rfl, e2, if_pos rfl]
      · rw [fl_X9_told_10, hy, b2_s, if_pos rfl]
