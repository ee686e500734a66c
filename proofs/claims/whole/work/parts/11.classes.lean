/-! ===== states of objects as values; their cells ===== -/
abbrev tt_State : Type := (Nat → Int32) × Int32 × Int32 × Int32
def gf_State_signs (S : tt_State) : (Nat → Int32) := S.1
def sf_State_signs (S : tt_State) (v : (Nat → Int32)) : tt_State := (v, S.2)
def gf_State_length (S : tt_State) : Int32 := S.2.1
def sf_State_length (S : tt_State) (v : Int32) : tt_State := (S.1, v, S.2.2)
def gf_State_depth (S : tt_State) : Int32 := S.2.2.1
def sf_State_depth (S : tt_State) (v : Int32) : tt_State := (S.1, S.2.1, v, S.2.2.2)
def gf_State_guesser (S : tt_State) : Int32 := S.2.2.2
def sf_State_guesser (S : tt_State) (v : Int32) : tt_State := (S.1, S.2.1, S.2.2.1, v)
def wd_State (G : xG) (a : Nat → Nat) (S : tt_State) : va_W := [(a 0, .inr (4, [.ref (a 1), .int (gf_State_length S), .int (gf_State_depth S), .int (gf_State_guesser S)])),
  (a 1, .inl (G.2.1, 100, .inl (gf_State_signs S)))]
abbrev tt_Pasts : Type := (Nat → Int32) × (Nat → Int32) × (Nat → Int32) × (Nat → Int32) × (Nat → Int32) × (Nat → Int32) × Int32 × Int32 × Int32
def gf_Pasts_zeros (S : tt_Pasts) : (Nat → Int32) := S.1
def sf_Pasts_zeros (S : tt_Pasts) (v : (Nat → Int32)) : tt_Pasts := (v, S.2)
def gf_Pasts_ones (S : tt_Pasts) : (Nat → Int32) := S.2.1
def sf_Pasts_ones (S : tt_Pasts) (v : (Nat → Int32)) : tt_Pasts := (S.1, v, S.2.2)
def gf_Pasts_weights (S : tt_Pasts) : (Nat → Int32) := S.2.2.1
def sf_Pasts_weights (S : tt_Pasts) (v : (Nat → Int32)) : tt_Pasts := (S.1, S.2.1, v, S.2.2.2)
def gf_Pasts_paidAlone (S : tt_Pasts) : (Nat → Int32) := S.2.2.2.1
def sf_Pasts_paidAlone (S : tt_Pasts) (v : (Nat → Int32)) : tt_Pasts := (S.1, S.2.1, S.2.2.1, v, S.2.2.2.2)
def gf_Pasts_owns (S : tt_Pasts) : (Nat → Int32) := S.2.2.2.2.1
def sf_Pasts_owns (S : tt_Pasts) (v : (Nat → Int32)) : tt_Pasts := (S.1, S.2.1, S.2.2.1, S.2.2.2.1, v, S.2.2.2.2.2)
def gf_Pasts_guesses (S : tt_Pasts) : (Nat → Int32) := S.2.2.2.2.2.1
def sf_Pasts_guesses (S : tt_Pasts) (v : (Nat → Int32)) : tt_Pasts := (S.1, S.2.1, S.2.2.1, S.2.2.2.1, S.2.2.2.2.1, v, S.2.2.2.2.2.2)
def gf_Pasts_depth (S : tt_Pasts) : Int32 := S.2.2.2.2.2.2.1
def sf_Pasts_depth (S : tt_Pasts) (v : Int32) : tt_Pasts := (S.1, S.2.1, S.2.2.1, S.2.2.2.1, S.2.2.2.2.1, S.2.2.2.2.2.1, v, S.2.2.2.2.2.2.2)
def gf_Pasts_guesser (S : tt_Pasts) : Int32 := S.2.2.2.2.2.2.2.1
def sf_Pasts_guesser (S : tt_Pasts) (v : Int32) : tt_Pasts := (S.1, S.2.1, S.2.2.1, S.2.2.2.1, S.2.2.2.2.1, S.2.2.2.2.2.1, S.2.2.2.2.2.2.1, v, S.2.2.2.2.2.2.2.2)
def gf_Pasts_past (S : tt_Pasts) : Int32 := S.2.2.2.2.2.2.2.2
def sf_Pasts_past (S : tt_Pasts) (v : Int32) : tt_Pasts := (S.1, S.2.1, S.2.2.1, S.2.2.2.1, S.2.2.2.2.1, S.2.2.2.2.2.1, S.2.2.2.2.2.2.1, S.2.2.2.2.2.2.2.1, v)
def wd_Pasts (G : xG) (a : Nat → Nat) (S : tt_Pasts) : va_W := [(a 0, .inr (2, [.ref (a 1), .ref (a 2), .ref (a 3), .ref (a 4), .ref (a 5), .ref (a 6), .int (gf_Pasts_depth S), .int (gf_Pasts_guesser S), .int (gf_Pasts_past S)])),
  (a 1, .inl (G.2.1, 128, .inl (gf_Pasts_zeros S))),
  (a 2, .inl (G.2.1, 128, .inl (gf_Pasts_ones S))),
  (a 3, .inl (G.2.1, 128, .inl (gf_Pasts_weights S))),
  (a 4, .inl (G.2.1, 128, .inl (gf_Pasts_paidAlone S))),
  (a 5, .inl (G.2.1, 7, .inl (gf_Pasts_owns S))),
  (a 6, .inl (G.2.1, 7, .inl (gf_Pasts_guesses S)))]
abbrev tt_Row : Type := (Nat → Int32) × (Nat → Int32) × (Nat → Int32) × tt_Pasts × Int32 × Int32
def gf_Row_signs (S : tt_Row) : (Nat → Int32) := S.1
def sf_Row_signs (S : tt_Row) (v : (Nat → Int32)) : tt_Row := (v, S.2)
def gf_Row_foretold (S : tt_Row) : (Nat → Int32) := S.2.1
def sf_Row_foretold (S : tt_Row) (v : (Nat → Int32)) : tt_Row := (S.1, v, S.2.2)
def gf_Row_paid (S : tt_Row) : (Nat → Int32) := S.2.2.1
def sf_Row_paid (S : tt_Row) (v : (Nat → Int32)) : tt_Row := (S.1, S.2.1, v, S.2.2.2)
def gf_Row_pasts (S : tt_Row) : tt_Pasts := S.2.2.2.1
def sf_Row_pasts (S : tt_Row) (v : tt_Pasts) : tt_Row := (S.1, S.2.1, S.2.2.1, v, S.2.2.2.2)
def gf_Row_length (S : tt_Row) : Int32 := S.2.2.2.2.1
def sf_Row_length (S : tt_Row) (v : Int32) : tt_Row := (S.1, S.2.1, S.2.2.1, S.2.2.2.1, v, S.2.2.2.2.2)
def gf_Row_paidInAll (S : tt_Row) : Int32 := S.2.2.2.2.2
def sf_Row_paidInAll (S : tt_Row) (v : Int32) : tt_Row := (S.1, S.2.1, S.2.2.1, S.2.2.2.1, S.2.2.2.2.1, v)
def wd_Row (G : xG) (a : Nat → Nat) (S : tt_Row) : va_W := [(a 0, .inr (3, [.ref (a 1), .ref (a 2), .ref (a 3), .ref (a 4), .int (gf_Row_length S), .int (gf_Row_paidInAll S)])),
  (a 1, .inl (G.2.1, 100, .inl (gf_Row_signs S))),
  (a 2, .inl (G.2.1, 100, .inl (gf_Row_foretold S))),
  (a 3, .inl (G.2.1, 100, .inl (gf_Row_paid S))),
  (a 4, .inr (2, [.ref (a 5), .ref (a 6), .ref (a 7), .ref (a 8), .ref (a 9), .ref (a 10), .int (gf_Pasts_depth (gf_Row_pasts S)), .int (gf_Pasts_guesser (gf_Row_pasts S)), .int (gf_Pasts_past (gf_Row_pasts S))])),
  (a 5, .inl (G.2.1, 128, .inl (gf_Pasts_zeros (gf_Row_pasts S)))),
  (a 6, .inl (G.2.1, 128, .inl (gf_Pasts_ones (gf_Row_pasts S)))),
  (a 7, .inl (G.2.1, 128, .inl (gf_Pasts_weights (gf_Row_pasts S)))),
  (a 8, .inl (G.2.1, 128, .inl (gf_Pasts_paidAlone (gf_Row_pasts S)))),
  (a 9, .inl (G.2.1, 7, .inl (gf_Pasts_owns (gf_Row_pasts S)))),
  (a 10, .inl (G.2.1, 7, .inl (gf_Pasts_guesses (gf_Row_pasts S))))]
abbrev tt_Contest : Type := (Nat → Int32) × Int32 × Int32 × Int32 × Int32
def gf_Contest_judged (S : tt_Contest) : (Nat → Int32) := S.1
def sf_Contest_judged (S : tt_Contest) (v : (Nat → Int32)) : tt_Contest := (v, S.2)
def gf_Contest_length (S : tt_Contest) : Int32 := S.2.1
def sf_Contest_length (S : tt_Contest) (v : Int32) : tt_Contest := (S.1, v, S.2.2)
def gf_Contest_depth (S : tt_Contest) : Int32 := S.2.2.1
def sf_Contest_depth (S : tt_Contest) (v : Int32) : tt_Contest := (S.1, S.2.1, v, S.2.2.2)
def gf_Contest_guesser (S : tt_Contest) : Int32 := S.2.2.2.1
def sf_Contest_guesser (S : tt_Contest) (v : Int32) : tt_Contest := (S.1, S.2.1, S.2.2.1, v, S.2.2.2.2)
def gf_Contest_price (S : tt_Contest) : Int32 := S.2.2.2.2
def sf_Contest_price (S : tt_Contest) (v : Int32) : tt_Contest := (S.1, S.2.1, S.2.2.1, S.2.2.2.1, v)
def wd_Contest (G : xG) (a : Nat → Nat) (S : tt_Contest) : va_W := [(a 0, .inr (1, [.ref (a 1), .int (gf_Contest_length S), .int (gf_Contest_depth S), .int (gf_Contest_guesser S), .int (gf_Contest_price S)])),
  (a 1, .inl (G.2.1, 100, .inl (gf_Contest_judged S)))]
abbrev tt_BestTree : Type := (Nat → Int32) × (Nat → Int32) × Int32 × Int32
def gf_BestTree_prices (S : tt_BestTree) : (Nat → Int32) := S.1
def sf_BestTree_prices (S : tt_BestTree) (v : (Nat → Int32)) : tt_BestTree := (v, S.2)
def gf_BestTree_kinds (S : tt_BestTree) : (Nat → Int32) := S.2.1
def sf_BestTree_kinds (S : tt_BestTree) (v : (Nat → Int32)) : tt_BestTree := (S.1, v, S.2.2)
def gf_BestTree_leaves (S : tt_BestTree) : Int32 := S.2.2.1
def sf_BestTree_leaves (S : tt_BestTree) (v : Int32) : tt_BestTree := (S.1, S.2.1, v, S.2.2.2)
def gf_BestTree_deepest (S : tt_BestTree) : Int32 := S.2.2.2
def sf_BestTree_deepest (S : tt_BestTree) (v : Int32) : tt_BestTree := (S.1, S.2.1, S.2.2.1, v)
def wd_BestTree (G : xG) (a : Nat → Nat) (S : tt_BestTree) : va_W := [(a 0, .inr (0, [.ref (a 1), .ref (a 2), .int (gf_BestTree_leaves S), .int (gf_BestTree_deepest S)])),
  (a 1, .inl (G.2.1, 128, .inl (gf_BestTree_prices S))),
  (a 2, .inl (G.2.1, 128, .inl (gf_BestTree_kinds S)))]
abbrev tt_Writing : Type := (Nat → Int32) × Int32 × Int64 × Int64 × Int64 × Int32
def gf_Writing_bytes (S : tt_Writing) : (Nat → Int32) := S.1
def sf_Writing_bytes (S : tt_Writing) (v : (Nat → Int32)) : tt_Writing := (v, S.2)
def gf_Writing_length (S : tt_Writing) : Int32 := S.2.1
def sf_Writing_length (S : tt_Writing) (v : Int32) : tt_Writing := (S.1, v, S.2.2)
def gf_Writing_low (S : tt_Writing) : Int64 := S.2.2.1
def sf_Writing_low (S : tt_Writing) (v : Int64) : tt_Writing := (S.1, S.2.1, v, S.2.2.2)
def gf_Writing_range (S : tt_Writing) : Int64 := S.2.2.2.1
def sf_Writing_range (S : tt_Writing) (v : Int64) : tt_Writing := (S.1, S.2.1, S.2.2.1, v, S.2.2.2.2)
def gf_Writing_code (S : tt_Writing) : Int64 := S.2.2.2.2.1
def sf_Writing_code (S : tt_Writing) (v : Int64) : tt_Writing := (S.1, S.2.1, S.2.2.1, S.2.2.2.1, v, S.2.2.2.2.2)
def gf_Writing_nextByte (S : tt_Writing) : Int32 := S.2.2.2.2.2
def sf_Writing_nextByte (S : tt_Writing) (v : Int32) : tt_Writing := (S.1, S.2.1, S.2.2.1, S.2.2.2.1, S.2.2.2.2.1, v)
def wd_Writing (G : xG) (a : Nat → Nat) (S : tt_Writing) : va_W := [(a 0, .inr (7, [.ref (a 1), .int (gf_Writing_length S), .long (gf_Writing_low S), .long (gf_Writing_range S), .long (gf_Writing_code S), .int (gf_Writing_nextByte S)])),
  (a 1, .inl (G.2.1, 204, .inl (gf_Writing_bytes S)))]
abbrev tt_Text : Type := (Nat → Int32) × (Nat → Int32) × Int32 × Int32 × Int32 × Int32 × Int32 × Int32
def gf_Text_bytes (S : tt_Text) : (Nat → Int32) := S.1
def sf_Text_bytes (S : tt_Text) (v : (Nat → Int32)) : tt_Text := (v, S.2)
def gf_Text_signs (S : tt_Text) : (Nat → Int32) := S.2.1
def sf_Text_signs (S : tt_Text) (v : (Nat → Int32)) : tt_Text := (S.1, v, S.2.2)
def gf_Text_length (S : tt_Text) : Int32 := S.2.2.1
def sf_Text_length (S : tt_Text) (v : Int32) : tt_Text := (S.1, S.2.1, v, S.2.2.2)
def gf_Text_found (S : tt_Text) : Int32 := S.2.2.2.1
def sf_Text_found (S : tt_Text) (v : Int32) : tt_Text := (S.1, S.2.1, S.2.2.1, v, S.2.2.2.2)
def gf_Text_fault (S : tt_Text) : Int32 := S.2.2.2.2.1
def sf_Text_fault (S : tt_Text) (v : Int32) : tt_Text := (S.1, S.2.1, S.2.2.1, S.2.2.2.1, v, S.2.2.2.2.2)
def gf_Text_room (S : tt_Text) : Int32 := S.2.2.2.2.2.1
def sf_Text_room (S : tt_Text) (v : Int32) : tt_Text := (S.1, S.2.1, S.2.2.1, S.2.2.2.1, S.2.2.2.2.1, v, S.2.2.2.2.2.2)
def gf_Text_cursor (S : tt_Text) : Int32 := S.2.2.2.2.2.2.1
def sf_Text_cursor (S : tt_Text) (v : Int32) : tt_Text := (S.1, S.2.1, S.2.2.1, S.2.2.2.1, S.2.2.2.2.1, S.2.2.2.2.2.1, v, S.2.2.2.2.2.2.2)
def gf_Text_groupStart (S : tt_Text) : Int32 := S.2.2.2.2.2.2.2
def sf_Text_groupStart (S : tt_Text) (v : Int32) : tt_Text := (S.1, S.2.1, S.2.2.1, S.2.2.2.1, S.2.2.2.2.1, S.2.2.2.2.2.1, S.2.2.2.2.2.2.1, v)
def wd_Text (G : xG) (a : Nat → Nat) (S : tt_Text) : va_W := [(a 0, .inr (6, [.ref (a 1), .ref (a 2), .int (gf_Text_length S), .int (gf_Text_found S), .int (gf_Text_fault S), .int (gf_Text_room S), .int (gf_Text_cursor S), .int (gf_Text_groupStart S)])),
  (a 1, .inl (G.2.1, 120, .inl (gf_Text_bytes S))),
  (a 2, .inl (G.2.1, 100, .inl (gf_Text_signs S)))]
abbrev tt_States : Type := (Nat → tt_State) × Int32 × Int32
def gf_States_ring (S : tt_States) : (Nat → tt_State) := S.1
def sf_States_ring (S : tt_States) (v : (Nat → tt_State)) : tt_States := (v, S.2)
def gf_States_size (S : tt_States) : Int32 := S.2.1
def sf_States_size (S : tt_States) (v : Int32) : tt_States := (S.1, v, S.2.2)
def gf_States_top (S : tt_States) : Int32 := S.2.2
def sf_States_top (S : tt_States) (v : Int32) : tt_States := (S.1, S.2.1, v)
def wd_States (G : xG) (a : Nat → Nat) (S : tt_States) : va_W := [(a 0, .inr (5, [.ref (a 1), .int (gf_States_size S), .int (gf_States_top S)])),
  (a 1, .inl (G.2.2.2, 6, .inr (.inr (.inr (.inr (fun i => some (a (2 + 2 * i)))))))),
  (a 2, .inr (4, [.ref (a 3), .int (gf_State_length ((gf_States_ring S) 0)), .int (gf_State_depth ((gf_States_ring S) 0)), .int (gf_State_guesser ((gf_States_ring S) 0))])),
  (a 3, .inl (G.2.1, 100, .inl (gf_State_signs ((gf_States_ring S) 0)))),
  (a 4, .inr (4, [.ref (a 5), .int (gf_State_length ((gf_States_ring S) 1)), .int (gf_State_depth ((gf_States_ring S) 1)), .int (gf_State_guesser ((gf_States_ring S) 1))])),
  (a 5, .inl (G.2.1, 100, .inl (gf_State_signs ((gf_States_ring S) 1)))),
  (a 6, .inr (4, [.ref (a 7), .int (gf_State_length ((gf_States_ring S) 2)), .int (gf_State_depth ((gf_States_ring S) 2)), .int (gf_State_guesser ((gf_States_ring S) 2))])),
  (a 7, .inl (G.2.1, 100, .inl (gf_State_signs ((gf_States_ring S) 2)))),
  (a 8, .inr (4, [.ref (a 9), .int (gf_State_length ((gf_States_ring S) 3)), .int (gf_State_depth ((gf_States_ring S) 3)), .int (gf_State_guesser ((gf_States_ring S) 3))])),
  (a 9, .inl (G.2.1, 100, .inl (gf_State_signs ((gf_States_ring S) 3)))),
  (a 10, .inr (4, [.ref (a 11), .int (gf_State_length ((gf_States_ring S) 4)), .int (gf_State_depth ((gf_States_ring S) 4)), .int (gf_State_guesser ((gf_States_ring S) 4))])),
  (a 11, .inl (G.2.1, 100, .inl (gf_State_signs ((gf_States_ring S) 4)))),
  (a 12, .inr (4, [.ref (a 13), .int (gf_State_length ((gf_States_ring S) 5)), .int (gf_State_depth ((gf_States_ring S) 5)), .int (gf_State_guesser ((gf_States_ring S) 5))])),
  (a 13, .inl (G.2.1, 100, .inl (gf_State_signs ((gf_States_ring S) 5))))]
abbrev tt_TreeOdds : Type := tt_Row × tt_Pasts × tt_Contest × tt_BestTree × tt_Writing × tt_Text × tt_States × Int32 × Int32 × Int32
def gf_TreeOdds_row (S : tt_TreeOdds) : tt_Row := S.1
def sf_TreeOdds_row (S : tt_TreeOdds) (v : tt_Row) : tt_TreeOdds := (v, S.2)
def gf_TreeOdds_spare (S : tt_TreeOdds) : tt_Pasts := S.2.1
def sf_TreeOdds_spare (S : tt_TreeOdds) (v : tt_Pasts) : tt_TreeOdds := (S.1, v, S.2.2)
def gf_TreeOdds_contest (S : tt_TreeOdds) : tt_Contest := S.2.2.1
def sf_TreeOdds_contest (S : tt_TreeOdds) (v : tt_Contest) : tt_TreeOdds := (S.1, S.2.1, v, S.2.2.2)
def gf_TreeOdds_bestTree (S : tt_TreeOdds) : tt_BestTree := S.2.2.2.1
def sf_TreeOdds_bestTree (S : tt_TreeOdds) (v : tt_BestTree) : tt_TreeOdds := (S.1, S.2.1, S.2.2.1, v, S.2.2.2.2)
def gf_TreeOdds_writing (S : tt_TreeOdds) : tt_Writing := S.2.2.2.2.1
def sf_TreeOdds_writing (S : tt_TreeOdds) (v : tt_Writing) : tt_TreeOdds := (S.1, S.2.1, S.2.2.1, S.2.2.2.1, v, S.2.2.2.2.2)
def gf_TreeOdds_text (S : tt_TreeOdds) : tt_Text := S.2.2.2.2.2.1
def sf_TreeOdds_text (S : tt_TreeOdds) (v : tt_Text) : tt_TreeOdds := (S.1, S.2.1, S.2.2.1, S.2.2.2.1, S.2.2.2.2.1, v, S.2.2.2.2.2.2)
def gf_TreeOdds_states (S : tt_TreeOdds) : tt_States := S.2.2.2.2.2.2.1
def sf_TreeOdds_states (S : tt_TreeOdds) (v : tt_States) : tt_TreeOdds := (S.1, S.2.1, S.2.2.1, S.2.2.2.1, S.2.2.2.2.1, S.2.2.2.2.2.1, v, S.2.2.2.2.2.2.2)
def gf_TreeOdds_timesBad (S : tt_TreeOdds) : Int32 := S.2.2.2.2.2.2.2.1
def sf_TreeOdds_timesBad (S : tt_TreeOdds) (v : Int32) : tt_TreeOdds := (S.1, S.2.1, S.2.2.1, S.2.2.2.1, S.2.2.2.2.1, S.2.2.2.2.2.1, S.2.2.2.2.2.2.1, v, S.2.2.2.2.2.2.2.2)
def gf_TreeOdds_timesNo (S : tt_TreeOdds) : Int32 := S.2.2.2.2.2.2.2.2.1
def sf_TreeOdds_timesNo (S : tt_TreeOdds) (v : Int32) : tt_TreeOdds := (S.1, S.2.1, S.2.2.1, S.2.2.2.1, S.2.2.2.2.1, S.2.2.2.2.2.1, S.2.2.2.2.2.2.1, S.2.2.2.2.2.2.2.1, v, S.2.2.2.2.2.2.2.2.2)
def gf_TreeOdds_timesFull (S : tt_TreeOdds) : Int32 := S.2.2.2.2.2.2.2.2.2
def sf_TreeOdds_timesFull (S : tt_TreeOdds) (v : Int32) : tt_TreeOdds := (S.1, S.2.1, S.2.2.1, S.2.2.2.1, S.2.2.2.2.1, S.2.2.2.2.2.1, S.2.2.2.2.2.2.1, S.2.2.2.2.2.2.2.1, S.2.2.2.2.2.2.2.2.1, v)
def wd_TreeOdds (G : xG) (a : Nat → Nat) (S : tt_TreeOdds) : va_W := [(a 0, .inr (8, [.ref (a 1), .ref (a 12), .ref (a 19), .ref (a 21), .ref (a 24), .ref (a 26), .ref (a 29), .int (gf_TreeOdds_timesBad S), .int (gf_TreeOdds_timesNo S), .int (gf_TreeOdds_timesFull S)])),
  (a 1, .inr (3, [.ref (a 2), .ref (a 3), .ref (a 4), .ref (a 5), .int (gf_Row_length (gf_TreeOdds_row S)), .int (gf_Row_paidInAll (gf_TreeOdds_row S))])),
  (a 2, .inl (G.2.1, 100, .inl (gf_Row_signs (gf_TreeOdds_row S)))),
  (a 3, .inl (G.2.1, 100, .inl (gf_Row_foretold (gf_TreeOdds_row S)))),
  (a 4, .inl (G.2.1, 100, .inl (gf_Row_paid (gf_TreeOdds_row S)))),
  (a 5, .inr (2, [.ref (a 6), .ref (a 7), .ref (a 8), .ref (a 9), .ref (a 10), .ref (a 11), .int (gf_Pasts_depth (gf_Row_pasts (gf_TreeOdds_row S))), .int (gf_Pasts_guesser (gf_Row_pasts (gf_TreeOdds_row S))), .int (gf_Pasts_past (gf_Row_pasts (gf_TreeOdds_row S)))])),
  (a 6, .inl (G.2.1, 128, .inl (gf_Pasts_zeros (gf_Row_pasts (gf_TreeOdds_row S))))),
  (a 7, .inl (G.2.1, 128, .inl (gf_Pasts_ones (gf_Row_pasts (gf_TreeOdds_row S))))),
  (a 8, .inl (G.2.1, 128, .inl (gf_Pasts_weights (gf_Row_pasts (gf_TreeOdds_row S))))),
  (a 9, .inl (G.2.1, 128, .inl (gf_Pasts_paidAlone (gf_Row_pasts (gf_TreeOdds_row S))))),
  (a 10, .inl (G.2.1, 7, .inl (gf_Pasts_owns (gf_Row_pasts (gf_TreeOdds_row S))))),
  (a 11, .inl (G.2.1, 7, .inl (gf_Pasts_guesses (gf_Row_pasts (gf_TreeOdds_row S))))),
  (a 12, .inr (2, [.ref (a 13), .ref (a 14), .ref (a 15), .ref (a 16), .ref (a 17), .ref (a 18), .int (gf_Pasts_depth (gf_TreeOdds_spare S)), .int (gf_Pasts_guesser (gf_TreeOdds_spare S)), .int (gf_Pasts_past (gf_TreeOdds_spare S))])),
  (a 13, .inl (G.2.1, 128, .inl (gf_Pasts_zeros (gf_TreeOdds_spare S)))),
  (a 14, .inl (G.2.1, 128, .inl (gf_Pasts_ones (gf_TreeOdds_spare S)))),
  (a 15, .inl (G.2.1, 128, .inl (gf_Pasts_weights (gf_TreeOdds_spare S)))),
  (a 16, .inl (G.2.1, 128, .inl (gf_Pasts_paidAlone (gf_TreeOdds_spare S)))),
  (a 17, .inl (G.2.1, 7, .inl (gf_Pasts_owns (gf_TreeOdds_spare S)))),
  (a 18, .inl (G.2.1, 7, .inl (gf_Pasts_guesses (gf_TreeOdds_spare S)))),
  (a 19, .inr (1, [.ref (a 20), .int (gf_Contest_length (gf_TreeOdds_contest S)), .int (gf_Contest_depth (gf_TreeOdds_contest S)), .int (gf_Contest_guesser (gf_TreeOdds_contest S)), .int (gf_Contest_price (gf_TreeOdds_contest S))])),
  (a 20, .inl (G.2.1, 100, .inl (gf_Contest_judged (gf_TreeOdds_contest S)))),
  (a 21, .inr (0, [.ref (a 22), .ref (a 23), .int (gf_BestTree_leaves (gf_TreeOdds_bestTree S)), .int (gf_BestTree_deepest (gf_TreeOdds_bestTree S))])),
  (a 22, .inl (G.2.1, 128, .inl (gf_BestTree_prices (gf_TreeOdds_bestTree S)))),
  (a 23, .inl (G.2.1, 128, .inl (gf_BestTree_kinds (gf_TreeOdds_bestTree S)))),
  (a 24, .inr (7, [.ref (a 25), .int (gf_Writing_length (gf_TreeOdds_writing S)), .long (gf_Writing_low (gf_TreeOdds_writing S)), .long (gf_Writing_range (gf_TreeOdds_writing S)), .long (gf_Writing_code (gf_TreeOdds_writing S)), .int (gf_Writing_nextByte (gf_TreeOdds_writing S))])),
  (a 25, .inl (G.2.1, 204, .inl (gf_Writing_bytes (gf_TreeOdds_writing S)))),
  (a 26, .inr (6, [.ref (a 27), .ref (a 28), .int (gf_Text_length (gf_TreeOdds_text S)), .int (gf_Text_found (gf_TreeOdds_text S)), .int (gf_Text_fault (gf_TreeOdds_text S)), .int (gf_Text_room (gf_TreeOdds_text S)), .int (gf_Text_cursor (gf_TreeOdds_text S)), .int (gf_Text_groupStart (gf_TreeOdds_text S))])),
  (a 27, .inl (G.2.1, 120, .inl (gf_Text_bytes (gf_TreeOdds_text S)))),
  (a 28, .inl (G.2.1, 100, .inl (gf_Text_signs (gf_TreeOdds_text S)))),
  (a 29, .inr (5, [.ref (a 30), .int (gf_States_size (gf_TreeOdds_states S)), .int (gf_States_top (gf_TreeOdds_states S))])),
  (a 30, .inl (G.2.2.2, 6, .inr (.inr (.inr (.inr (fun i => some (a (29 + (2 + 2 * i))))))))),
  (a 31, .inr (4, [.ref (a 32), .int (gf_State_length ((gf_States_ring (gf_TreeOdds_states S)) 0)), .int (gf_State_depth ((gf_States_ring (gf_TreeOdds_states S)) 0)), .int (gf_State_guesser ((gf_States_ring (gf_TreeOdds_states S)) 0))])),
  (a 32, .inl (G.2.1, 100, .inl (gf_State_signs ((gf_States_ring (gf_TreeOdds_states S)) 0)))),
  (a 33, .inr (4, [.ref (a 34), .int (gf_State_length ((gf_States_ring (gf_TreeOdds_states S)) 1)), .int (gf_State_depth ((gf_States_ring (gf_TreeOdds_states S)) 1)), .int (gf_State_guesser ((gf_States_ring (gf_TreeOdds_states S)) 1))])),
  (a 34, .inl (G.2.1, 100, .inl (gf_State_signs ((gf_States_ring (gf_TreeOdds_states S)) 1)))),
  (a 35, .inr (4, [.ref (a 36), .int (gf_State_length ((gf_States_ring (gf_TreeOdds_states S)) 2)), .int (gf_State_depth ((gf_States_ring (gf_TreeOdds_states S)) 2)), .int (gf_State_guesser ((gf_States_ring (gf_TreeOdds_states S)) 2))])),
  (a 36, .inl (G.2.1, 100, .inl (gf_State_signs ((gf_States_ring (gf_TreeOdds_states S)) 2)))),
  (a 37, .inr (4, [.ref (a 38), .int (gf_State_length ((gf_States_ring (gf_TreeOdds_states S)) 3)), .int (gf_State_depth ((gf_States_ring (gf_TreeOdds_states S)) 3)), .int (gf_State_guesser ((gf_States_ring (gf_TreeOdds_states S)) 3))])),
  (a 38, .inl (G.2.1, 100, .inl (gf_State_signs ((gf_States_ring (gf_TreeOdds_states S)) 3)))),
  (a 39, .inr (4, [.ref (a 40), .int (gf_State_length ((gf_States_ring (gf_TreeOdds_states S)) 4)), .int (gf_State_depth ((gf_States_ring (gf_TreeOdds_states S)) 4)), .int (gf_State_guesser ((gf_States_ring (gf_TreeOdds_states S)) 4))])),
  (a 40, .inl (G.2.1, 100, .inl (gf_State_signs ((gf_States_ring (gf_TreeOdds_states S)) 4)))),
  (a 41, .inr (4, [.ref (a 42), .int (gf_State_length ((gf_States_ring (gf_TreeOdds_states S)) 5)), .int (gf_State_depth ((gf_States_ring (gf_TreeOdds_states S)) 5)), .int (gf_State_guesser ((gf_States_ring (gf_TreeOdds_states S)) 5))])),
  (a 42, .inl (G.2.1, 100, .inl (gf_State_signs ((gf_States_ring (gf_TreeOdds_states S)) 5))))]
abbrev tt_Model : Type := (Nat → Int32) × (Nat → Int32) × Int32 × (Nat → Int32) × (Nat → Int32) × Int32 × Int32 × Int32 × (Nat → Int32) × (Nat → Int32) × (Nat → Int32) × (Nat → Int32) × (Nat → Int32) × (Nat → Int32) × (Nat → Int32) × (Nat → Int32) × (Nat → Int32) × (Nat → Int32) × (Nat → Int32) × (Nat → Int32) × Int32 × Int64 × (Nat → Int32) × Int32 × Int32 × (Nat → Int32) × Int32
def gf_Model_now (S : tt_Model) : (Nat → Int32) := S.1
def sf_Model_now (S : tt_Model) (v : (Nat → Int32)) : tt_Model := (v, S.2)
def gf_Model_past (S : tt_Model) : (Nat → Int32) := S.2.1
def sf_Model_past (S : tt_Model) (v : (Nat → Int32)) : tt_Model := (S.1, v, S.2.2)
def gf_Model_states (S : tt_Model) : Int32 := S.2.2.1
def sf_Model_states (S : tt_Model) (v : Int32) : tt_Model := (S.1, S.2.1, v, S.2.2.2)
def gf_Model_refused (S : tt_Model) : (Nat → Int32) := S.2.2.2.1
def sf_Model_refused (S : tt_Model) (v : (Nat → Int32)) : tt_Model := (S.1, S.2.1, S.2.2.1, v, S.2.2.2.2)
def gf_Model_line (S : tt_Model) : (Nat → Int32) := S.2.2.2.2.1
def sf_Model_line (S : tt_Model) (v : (Nat → Int32)) : tt_Model := (S.1, S.2.1, S.2.2.1, S.2.2.2.1, v, S.2.2.2.2.2)
def gf_Model_came (S : tt_Model) : Int32 := S.2.2.2.2.2.1
def sf_Model_came (S : tt_Model) (v : Int32) : tt_Model := (S.1, S.2.1, S.2.2.1, S.2.2.2.1, S.2.2.2.2.1, v, S.2.2.2.2.2.2)
def gf_Model_byDepth (S : tt_Model) : Int32 := S.2.2.2.2.2.2.1
def sf_Model_byDepth (S : tt_Model) (v : Int32) : tt_Model := (S.1, S.2.1, S.2.2.1, S.2.2.2.1, S.2.2.2.2.1, S.2.2.2.2.2.1, v, S.2.2.2.2.2.2.2)
def gf_Model_byGuesser (S : tt_Model) : Int32 := S.2.2.2.2.2.2.2.1
def sf_Model_byGuesser (S : tt_Model) (v : Int32) : tt_Model := (S.1, S.2.1, S.2.2.1, S.2.2.2.1, S.2.2.2.2.1, S.2.2.2.2.2.1, S.2.2.2.2.2.2.1, v, S.2.2.2.2.2.2.2.2)
def gf_Model_noughts (S : tt_Model) : (Nat → Int32) := S.2.2.2.2.2.2.2.2.1
def sf_Model_noughts (S : tt_Model) (v : (Nat → Int32)) : tt_Model := (S.1, S.2.1, S.2.2.1, S.2.2.2.1, S.2.2.2.2.1, S.2.2.2.2.2.1, S.2.2.2.2.2.2.1, S.2.2.2.2.2.2.2.1, v, S.2.2.2.2.2.2.2.2.2)
def gf_Model_ones (S : tt_Model) : (Nat → Int32) := S.2.2.2.2.2.2.2.2.2.1
def sf_Model_ones (S : tt_Model) (v : (Nat → Int32)) : tt_Model := (S.1, S.2.1, S.2.2.1, S.2.2.2.1, S.2.2.2.2.1, S.2.2.2.2.2.1, S.2.2.2.2.2.2.1, S.2.2.2.2.2.2.2.1, S.2.2.2.2.2.2.2.2.1, v, S.2.2.2.2.2.2.2.2.2.2)
def gf_Model_weights (S : tt_Model) : (Nat → Int32) := S.2.2.2.2.2.2.2.2.2.2.1
def sf_Model_weights (S : tt_Model) (v : (Nat → Int32)) : tt_Model := (S.1, S.2.1, S.2.2.1, S.2.2.2.1, S.2.2.2.2.1, S.2.2.2.2.2.1, S.2.2.2.2.2.2.1, S.2.2.2.2.2.2.2.1, S.2.2.2.2.2.2.2.2.1, S.2.2.2.2.2.2.2.2.2.1, v, S.2.2.2.2.2.2.2.2.2.2.2)
def gf_Model_ownCost (S : tt_Model) : (Nat → Int32) := S.2.2.2.2.2.2.2.2.2.2.2.1
def sf_Model_ownCost (S : tt_Model) (v : (Nat → Int32)) : tt_Model := (S.1, S.2.1, S.2.2.1, S.2.2.2.1, S.2.2.2.2.1, S.2.2.2.2.2.1, S.2.2.2.2.2.2.1, S.2.2.2.2.2.2.2.1, S.2.2.2.2.2.2.2.2.1, S.2.2.2.2.2.2.2.2.2.1, S.2.2.2.2.2.2.2.2.2.2.1, v, S.2.2.2.2.2.2.2.2.2.2.2.2)
def gf_Model_way (S : tt_Model) : (Nat → Int32) := S.2.2.2.2.2.2.2.2.2.2.2.2.1
def sf_Model_way (S : tt_Model) (v : (Nat → Int32)) : tt_Model := (S.1, S.2.1, S.2.2.1, S.2.2.2.1, S.2.2.2.2.1, S.2.2.2.2.2.1, S.2.2.2.2.2.2.1, S.2.2.2.2.2.2.2.1, S.2.2.2.2.2.2.2.2.1, S.2.2.2.2.2.2.2.2.2.1, S.2.2.2.2.2.2.2.2.2.2.1, S.2.2.2.2.2.2.2.2.2.2.2.1, v, S.2.2.2.2.2.2.2.2.2.2.2.2.2)
def gf_Model_own (S : tt_Model) : (Nat → Int32) := S.2.2.2.2.2.2.2.2.2.2.2.2.2.1
def sf_Model_own (S : tt_Model) (v : (Nat → Int32)) : tt_Model := (S.1, S.2.1, S.2.2.1, S.2.2.2.1, S.2.2.2.2.1, S.2.2.2.2.2.1, S.2.2.2.2.2.2.1, S.2.2.2.2.2.2.2.1, S.2.2.2.2.2.2.2.2.1, S.2.2.2.2.2.2.2.2.2.1, S.2.2.2.2.2.2.2.2.2.2.1, S.2.2.2.2.2.2.2.2.2.2.2.1, S.2.2.2.2.2.2.2.2.2.2.2.2.1, v, S.2.2.2.2.2.2.2.2.2.2.2.2.2.2)
def gf_Model_mixed (S : tt_Model) : (Nat → Int32) := S.2.2.2.2.2.2.2.2.2.2.2.2.2.2.1
def sf_Model_mixed (S : tt_Model) (v : (Nat → Int32)) : tt_Model := (S.1, S.2.1, S.2.2.1, S.2.2.2.1, S.2.2.2.2.1, S.2.2.2.2.2.1, S.2.2.2.2.2.2.1, S.2.2.2.2.2.2.2.1, S.2.2.2.2.2.2.2.2.1, S.2.2.2.2.2.2.2.2.2.1, S.2.2.2.2.2.2.2.2.2.2.1, S.2.2.2.2.2.2.2.2.2.2.2.1, S.2.2.2.2.2.2.2.2.2.2.2.2.1, S.2.2.2.2.2.2.2.2.2.2.2.2.2.1, v, S.2.2.2.2.2.2.2.2.2.2.2.2.2.2.2)
def gf_Model_guessAt (S : tt_Model) : (Nat → Int32) := S.2.2.2.2.2.2.2.2.2.2.2.2.2.2.2.1
def sf_Model_guessAt (S : tt_Model) (v : (Nat → Int32)) : tt_Model := (S.1, S.2.1, S.2.2.1, S.2.2.2.1, S.2.2.2.2.1, S.2.2.2.2.2.1, S.2.2.2.2.2.2.1, S.2.2.2.2.2.2.2.1, S.2.2.2.2.2.2.2.2.1, S.2.2.2.2.2.2.2.2.2.1, S.2.2.2.2.2.2.2.2.2.2.1, S.2.2.2.2.2.2.2.2.2.2.2.1, S.2.2.2.2.2.2.2.2.2.2.2.2.1, S.2.2.2.2.2.2.2.2.2.2.2.2.2.1, S.2.2.2.2.2.2.2.2.2.2.2.2.2.2.1, v, S.2.2.2.2.2.2.2.2.2.2.2.2.2.2.2.2)
def gf_Model_treeCost (S : tt_Model) : (Nat → Int32) := S.2.2.2.2.2.2.2.2.2.2.2.2.2.2.2.2.1
def sf_Model_treeCost (S : tt_Model) (v : (Nat → Int32)) : tt_Model := (S.1, S.2.1, S.2.2.1, S.2.2.2.1, S.2.2.2.2.1, S.2.2.2.2.2.1, S.2.2.2.2.2.2.1, S.2.2.2.2.2.2.2.1, S.2.2.2.2.2.2.2.2.1, S.2.2.2.2.2.2.2.2.2.1, S.2.2.2.2.2.2.2.2.2.2.1, S.2.2.2.2.2.2.2.2.2.2.2.1, S.2.2.2.2.2.2.2.2.2.2.2.2.1, S.2.2.2.2.2.2.2.2.2.2.2.2.2.1, S.2.2.2.2.2.2.2.2.2.2.2.2.2.2.1, S.2.2.2.2.2.2.2.2.2.2.2.2.2.2.2.1, v, S.2.2.2.2.2.2.2.2.2.2.2.2.2.2.2.2.2)
def gf_Model_isLeaf (S : tt_Model) : (Nat → Int32) := S.2.2.2.2.2.2.2.2.2.2.2.2.2.2.2.2.2.1
def sf_Model_isLeaf (S : tt_Model) (v : (Nat → Int32)) : tt_Model := (S.1, S.2.1, S.2.2.1, S.2.2.2.1, S.2.2.2.2.1, S.2.2.2.2.2.1, S.2.2.2.2.2.2.1, S.2.2.2.2.2.2.2.1, S.2.2.2.2.2.2.2.2.1, S.2.2.2.2.2.2.2.2.2.1, S.2.2.2.2.2.2.2.2.2.2.1, S.2.2.2.2.2.2.2.2.2.2.2.1, S.2.2.2.2.2.2.2.2.2.2.2.2.1, S.2.2.2.2.2.2.2.2.2.2.2.2.2.1, S.2.2.2.2.2.2.2.2.2.2.2.2.2.2.1, S.2.2.2.2.2.2.2.2.2.2.2.2.2.2.2.1, S.2.2.2.2.2.2.2.2.2.2.2.2.2.2.2.2.1, v, S.2.2.2.2.2.2.2.2.2.2.2.2.2.2.2.2.2.2)
def gf_Model_inTree (S : tt_Model) : (Nat → Int32) := S.2.2.2.2.2.2.2.2.2.2.2.2.2.2.2.2.2.2.1
def sf_Model_inTree (S : tt_Model) (v : (Nat → Int32)) : tt_Model := (S.1, S.2.1, S.2.2.1, S.2.2.2.1, S.2.2.2.2.1, S.2.2.2.2.2.1, S.2.2.2.2.2.2.1, S.2.2.2.2.2.2.2.1, S.2.2.2.2.2.2.2.2.1, S.2.2.2.2.2.2.2.2.2.1, S.2.2.2.2.2.2.2.2.2.2.1, S.2.2.2.2.2.2.2.2.2.2.2.1, S.2.2.2.2.2.2.2.2.2.2.2.2.1, S.2.2.2.2.2.2.2.2.2.2.2.2.2.1, S.2.2.2.2.2.2.2.2.2.2.2.2.2.2.1, S.2.2.2.2.2.2.2.2.2.2.2.2.2.2.2.1, S.2.2.2.2.2.2.2.2.2.2.2.2.2.2.2.2.1, S.2.2.2.2.2.2.2.2.2.2.2.2.2.2.2.2.2.1, v, S.2.2.2.2.2.2.2.2.2.2.2.2.2.2.2.2.2.2.2)
def gf_Model_out (S : tt_Model) : (Nat → Int32) := S.2.2.2.2.2.2.2.2.2.2.2.2.2.2.2.2.2.2.2.1
def sf_Model_out (S : tt_Model) (v : (Nat → Int32)) : tt_Model := (S.1, S.2.1, S.2.2.1, S.2.2.2.1, S.2.2.2.2.1, S.2.2.2.2.2.1, S.2.2.2.2.2.2.1, S.2.2.2.2.2.2.2.1, S.2.2.2.2.2.2.2.2.1, S.2.2.2.2.2.2.2.2.2.1, S.2.2.2.2.2.2.2.2.2.2.1, S.2.2.2.2.2.2.2.2.2.2.2.1, S.2.2.2.2.2.2.2.2.2.2.2.2.1, S.2.2.2.2.2.2.2.2.2.2.2.2.2.1, S.2.2.2.2.2.2.2.2.2.2.2.2.2.2.1, S.2.2.2.2.2.2.2.2.2.2.2.2.2.2.2.1, S.2.2.2.2.2.2.2.2.2.2.2.2.2.2.2.2.1, S.2.2.2.2.2.2.2.2.2.2.2.2.2.2.2.2.2.1, S.2.2.2.2.2.2.2.2.2.2.2.2.2.2.2.2.2.2.1, v, S.2.2.2.2.2.2.2.2.2.2.2.2.2.2.2.2.2.2.2.2)
def gf_Model_outLong (S : tt_Model) : Int32 := S.2.2.2.2.2.2.2.2.2.2.2.2.2.2.2.2.2.2.2.2.1
def sf_Model_outLong (S : tt_Model) (v : Int32) : tt_Model := (S.1, S.2.1, S.2.2.1, S.2.2.2.1, S.2.2.2.2.1, S.2.2.2.2.2.1, S.2.2.2.2.2.2.1, S.2.2.2.2.2.2.2.1, S.2.2.2.2.2.2.2.2.1, S.2.2.2.2.2.2.2.2.2.1, S.2.2.2.2.2.2.2.2.2.2.1, S.2.2.2.2.2.2.2.2.2.2.2.1, S.2.2.2.2.2.2.2.2.2.2.2.2.1, S.2.2.2.2.2.2.2.2.2.2.2.2.2.1, S.2.2.2.2.2.2.2.2.2.2.2.2.2.2.1, S.2.2.2.2.2.2.2.2.2.2.2.2.2.2.2.1, S.2.2.2.2.2.2.2.2.2.2.2.2.2.2.2.2.1, S.2.2.2.2.2.2.2.2.2.2.2.2.2.2.2.2.2.1, S.2.2.2.2.2.2.2.2.2.2.2.2.2.2.2.2.2.2.1, S.2.2.2.2.2.2.2.2.2.2.2.2.2.2.2.2.2.2.2.1, v, S.2.2.2.2.2.2.2.2.2.2.2.2.2.2.2.2.2.2.2.2.2)
def gf_Model_low (S : tt_Model) : Int64 := S.2.2.2.2.2.2.2.2.2.2.2.2.2.2.2.2.2.2.2.2.2.1
def sf_Model_low (S : tt_Model) (v : Int64) : tt_Model := (S.1, S.2.1, S.2.2.1, S.2.2.2.1, S.2.2.2.2.1, S.2.2.2.2.2.1, S.2.2.2.2.2.2.1, S.2.2.2.2.2.2.2.1, S.2.2.2.2.2.2.2.2.1, S.2.2.2.2.2.2.2.2.2.1, S.2.2.2.2.2.2.2.2.2.2.1, S.2.2.2.2.2.2.2.2.2.2.2.1, S.2.2.2.2.2.2.2.2.2.2.2.2.1, S.2.2.2.2.2.2.2.2.2.2.2.2.2.1, S.2.2.2.2.2.2.2.2.2.2.2.2.2.2.1, S.2.2.2.2.2.2.2.2.2.2.2.2.2.2.2.1, S.2.2.2.2.2.2.2.2.2.2.2.2.2.2.2.2.1, S.2.2.2.2.2.2.2.2.2.2.2.2.2.2.2.2.2.1, S.2.2.2.2.2.2.2.2.2.2.2.2.2.2.2.2.2.2.1, S.2.2.2.2.2.2.2.2.2.2.2.2.2.2.2.2.2.2.2.1, S.2.2.2.2.2.2.2.2.2.2.2.2.2.2.2.2.2.2.2.2.1, v, S.2.2.2.2.2.2.2.2.2.2.2.2.2.2.2.2.2.2.2.2.2.2)
def gf_Model_text (S : tt_Model) : (Nat → Int32) := S.2.2.2.2.2.2.2.2.2.2.2.2.2.2.2.2.2.2.2.2.2.2.1
def sf_Model_text (S : tt_Model) (v : (Nat → Int32)) : tt_Model := (S.1, S.2.1, S.2.2.1, S.2.2.2.1, S.2.2.2.2.1, S.2.2.2.2.2.1, S.2.2.2.2.2.2.1, S.2.2.2.2.2.2.2.1, S.2.2.2.2.2.2.2.2.1, S.2.2.2.2.2.2.2.2.2.1, S.2.2.2.2.2.2.2.2.2.2.1, S.2.2.2.2.2.2.2.2.2.2.2.1, S.2.2.2.2.2.2.2.2.2.2.2.2.1, S.2.2.2.2.2.2.2.2.2.2.2.2.2.1, S.2.2.2.2.2.2.2.2.2.2.2.2.2.2.1, S.2.2.2.2.2.2.2.2.2.2.2.2.2.2.2.1, S.2.2.2.2.2.2.2.2.2.2.2.2.2.2.2.2.1, S.2.2.2.2.2.2.2.2.2.2.2.2.2.2.2.2.2.1, S.2.2.2.2.2.2.2.2.2.2.2.2.2.2.2.2.2.2.1, S.2.2.2.2.2.2.2.2.2.2.2.2.2.2.2.2.2.2.2.1, S.2.2.2.2.2.2.2.2.2.2.2.2.2.2.2.2.2.2.2.2.1, S.2.2.2.2.2.2.2.2.2.2.2.2.2.2.2.2.2.2.2.2.2.1, v, S.2.2.2.2.2.2.2.2.2.2.2.2.2.2.2.2.2.2.2.2.2.2.2)
def gf_Model_textLong (S : tt_Model) : Int32 := S.2.2.2.2.2.2.2.2.2.2.2.2.2.2.2.2.2.2.2.2.2.2.2.1
def sf_Model_textLong (S : tt_Model) (v : Int32) : tt_Model := (S.1, S.2.1, S.2.2.1, S.2.2.2.1, S.2.2.2.2.1, S.2.2.2.2.2.1, S.2.2.2.2.2.2.1, S.2.2.2.2.2.2.2.1, S.2.2.2.2.2.2.2.2.1, S.2.2.2.2.2.2.2.2.2.1, S.2.2.2.2.2.2.2.2.2.2.1, S.2.2.2.2.2.2.2.2.2.2.2.1, S.2.2.2.2.2.2.2.2.2.2.2.2.1, S.2.2.2.2.2.2.2.2.2.2.2.2.2.1, S.2.2.2.2.2.2.2.2.2.2.2.2.2.2.1, S.2.2.2.2.2.2.2.2.2.2.2.2.2.2.2.1, S.2.2.2.2.2.2.2.2.2.2.2.2.2.2.2.2.1, S.2.2.2.2.2.2.2.2.2.2.2.2.2.2.2.2.2.1, S.2.2.2.2.2.2.2.2.2.2.2.2.2.2.2.2.2.2.1, S.2.2.2.2.2.2.2.2.2.2.2.2.2.2.2.2.2.2.2.1, S.2.2.2.2.2.2.2.2.2.2.2.2.2.2.2.2.2.2.2.2.1, S.2.2.2.2.2.2.2.2.2.2.2.2.2.2.2.2.2.2.2.2.2.1, S.2.2.2.2.2.2.2.2.2.2.2.2.2.2.2.2.2.2.2.2.2.2.1, v, S.2.2.2.2.2.2.2.2.2.2.2.2.2.2.2.2.2.2.2.2.2.2.2.2)
def gf_Model_place (S : tt_Model) : Int32 := S.2.2.2.2.2.2.2.2.2.2.2.2.2.2.2.2.2.2.2.2.2.2.2.2.1
def sf_Model_place (S : tt_Model) (v : Int32) : tt_Model := (S.1, S.2.1, S.2.2.1, S.2.2.2.1, S.2.2.2.2.1, S.2.2.2.2.2.1, S.2.2.2.2.2.2.1, S.2.2.2.2.2.2.2.1, S.2.2.2.2.2.2.2.2.1, S.2.2.2.2.2.2.2.2.2.1, S.2.2.2.2.2.2.2.2.2.2.1, S.2.2.2.2.2.2.2.2.2.2.2.1, S.2.2.2.2.2.2.2.2.2.2.2.2.1, S.2.2.2.2.2.2.2.2.2.2.2.2.2.1, S.2.2.2.2.2.2.2.2.2.2.2.2.2.2.1, S.2.2.2.2.2.2.2.2.2.2.2.2.2.2.2.1, S.2.2.2.2.2.2.2.2.2.2.2.2.2.2.2.2.1, S.2.2.2.2.2.2.2.2.2.2.2.2.2.2.2.2.2.1, S.2.2.2.2.2.2.2.2.2.2.2.2.2.2.2.2.2.2.1, S.2.2.2.2.2.2.2.2.2.2.2.2.2.2.2.2.2.2.2.1, S.2.2.2.2.2.2.2.2.2.2.2.2.2.2.2.2.2.2.2.2.1, S.2.2.2.2.2.2.2.2.2.2.2.2.2.2.2.2.2.2.2.2.2.1, S.2.2.2.2.2.2.2.2.2.2.2.2.2.2.2.2.2.2.2.2.2.2.1, S.2.2.2.2.2.2.2.2.2.2.2.2.2.2.2.2.2.2.2.2.2.2.2.1, v, S.2.2.2.2.2.2.2.2.2.2.2.2.2.2.2.2.2.2.2.2.2.2.2.2.2)
def gf_Model_read (S : tt_Model) : (Nat → Int32) := S.2.2.2.2.2.2.2.2.2.2.2.2.2.2.2.2.2.2.2.2.2.2.2.2.2.1
def sf_Model_read (S : tt_Model) (v : (Nat → Int32)) : tt_Model := (S.1, S.2.1, S.2.2.1, S.2.2.2.1, S.2.2.2.2.1, S.2.2.2.2.2.1, S.2.2.2.2.2.2.1, S.2.2.2.2.2.2.2.1, S.2.2.2.2.2.2.2.2.1, S.2.2.2.2.2.2.2.2.2.1, S.2.2.2.2.2.2.2.2.2.2.1, S.2.2.2.2.2.2.2.2.2.2.2.1, S.2.2.2.2.2.2.2.2.2.2.2.2.1, S.2.2.2.2.2.2.2.2.2.2.2.2.2.1, S.2.2.2.2.2.2.2.2.2.2.2.2.2.2.1, S.2.2.2.2.2.2.2.2.2.2.2.2.2.2.2.1, S.2.2.2.2.2.2.2.2.2.2.2.2.2.2.2.2.1, S.2.2.2.2.2.2.2.2.2.2.2.2.2.2.2.2.2.1, S.2.2.2.2.2.2.2.2.2.2.2.2.2.2.2.2.2.2.1, S.2.2.2.2.2.2.2.2.2.2.2.2.2.2.2.2.2.2.2.1, S.2.2.2.2.2.2.2.2.2.2.2.2.2.2.2.2.2.2.2.2.1, S.2.2.2.2.2.2.2.2.2.2.2.2.2.2.2.2.2.2.2.2.2.1, S.2.2.2.2.2.2.2.2.2.2.2.2.2.2.2.2.2.2.2.2.2.2.1, S.2.2.2.2.2.2.2.2.2.2.2.2.2.2.2.2.2.2.2.2.2.2.2.1, S.2.2.2.2.2.2.2.2.2.2.2.2.2.2.2.2.2.2.2.2.2.2.2.2.1, v, S.2.2.2.2.2.2.2.2.2.2.2.2.2.2.2.2.2.2.2.2.2.2.2.2.2.2)
def gf_Model_readLong (S : tt_Model) : Int32 := S.2.2.2.2.2.2.2.2.2.2.2.2.2.2.2.2.2.2.2.2.2.2.2.2.2.2
def sf_Model_readLong (S : tt_Model) (v : Int32) : tt_Model := (S.1, S.2.1, S.2.2.1, S.2.2.2.1, S.2.2.2.2.1, S.2.2.2.2.2.1, S.2.2.2.2.2.2.1, S.2.2.2.2.2.2.2.1, S.2.2.2.2.2.2.2.2.1, S.2.2.2.2.2.2.2.2.2.1, S.2.2.2.2.2.2.2.2.2.2.1, S.2.2.2.2.2.2.2.2.2.2.2.1, S.2.2.2.2.2.2.2.2.2.2.2.2.1, S.2.2.2.2.2.2.2.2.2.2.2.2.2.1, S.2.2.2.2.2.2.2.2.2.2.2.2.2.2.1, S.2.2.2.2.2.2.2.2.2.2.2.2.2.2.2.1, S.2.2.2.2.2.2.2.2.2.2.2.2.2.2.2.2.1, S.2.2.2.2.2.2.2.2.2.2.2.2.2.2.2.2.2.1, S.2.2.2.2.2.2.2.2.2.2.2.2.2.2.2.2.2.2.1, S.2.2.2.2.2.2.2.2.2.2.2.2.2.2.2.2.2.2.2.1, S.2.2.2.2.2.2.2.2.2.2.2.2.2.2.2.2.2.2.2.2.1, S.2.2.2.2.2.2.2.2.2.2.2.2.2.2.2.2.2.2.2.2.2.1, S.2.2.2.2.2.2.2.2.2.2.2.2.2.2.2.2.2.2.2.2.2.2.1, S.2.2.2.2.2.2.2.2.2.2.2.2.2.2.2.2.2.2.2.2.2.2.2.1, S.2.2.2.2.2.2.2.2.2.2.2.2.2.2.2.2.2.2.2.2.2.2.2.2.1, S.2.2.2.2.2.2.2.2.2.2.2.2.2.2.2.2.2.2.2.2.2.2.2.2.2.1, v)
def wd_Model (G : xG) (a : Nat → Nat) (S : tt_Model) : va_W := [(a 0, .inr (9, [.ref (a 1), .ref (a 2), .int (gf_Model_states S), .ref (a 3), .ref (a 4), .int (gf_Model_came S), .int (gf_Model_byDepth S), .int (gf_Model_byGuesser S), .ref (a 5), .ref (a 6), .ref (a 7), .ref (a 8), .ref (a 9), .ref (a 10), .ref (a 11), .ref (a 12), .ref (a 13), .ref (a 14), .ref (a 15), .ref (a 16), .int (gf_Model_outLong S), .long (gf_Model_low S), .ref (a 17), .int (gf_Model_textLong S), .int (gf_Model_place S), .ref (a 18), .int (gf_Model_readLong S)])),
  (a 1, .inl (G.2.1, 103, .inl (gf_Model_now S))),
  (a 2, .inl (G.2.1, 618, .inl (gf_Model_past S))),
  (a 3, .inl (G.2.1, 3, .inl (gf_Model_refused S))),
  (a 4, .inl (G.2.1, 128, .inl (gf_Model_line S))),
  (a 5, .inl (G.2.1, 127, .inl (gf_Model_noughts S))),
  (a 6, .inl (G.2.1, 127, .inl (gf_Model_ones S))),
  (a 7, .inl (G.2.1, 127, .inl (gf_Model_weights S))),
  (a 8, .inl (G.2.1, 127, .inl (gf_Model_ownCost S))),
  (a 9, .inl (G.2.1, 7, .inl (gf_Model_way S))),
  (a 10, .inl (G.2.1, 7, .inl (gf_Model_own S))),
  (a 11, .inl (G.2.1, 7, .inl (gf_Model_mixed S))),
  (a 12, .inl (G.2.1, 128, .inl (gf_Model_guessAt S))),
  (a 13, .inl (G.2.1, 127, .inl (gf_Model_treeCost S))),
  (a 14, .inl (G.2.2.1, 127, .inl (gf_Model_isLeaf S))),
  (a 15, .inl (G.2.1, 127, .inl (gf_Model_inTree S))),
  (a 16, .inl (G.2.1, 256, .inl (gf_Model_out S))),
  (a 17, .inl (G.2.1, 120, .inl (gf_Model_text S))),
  (a 18, .inl (G.2.1, 128, .inl (gf_Model_read S)))]
