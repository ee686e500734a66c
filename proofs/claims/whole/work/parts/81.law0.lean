/-! THE CLAIM OUT OF ONE WALK OF THE LAW'S BODY. Your part is whole_start (and what it stands on); all else here is the same for every law, but numbers. -/
def R_law : String := "TreeOddsLaw"
def lw_P (b : Addr) (xs : List Int32) (args : Array Value) (s : State) : Prop := args = #[.ref b] ∧ s.IntsAt b xs ∧ xs.length ≤ 2048 ∧ (Jvm.Cond.and given_1 narrow_1).before args s = true
def lw_Q (_ : Array Value) (s : State) (o : Outcome) (t : State) : Prop := o = .returned (some (.int 1)) ∧ Framed s o t [] 600000 7302250
def lw_Z (below : List Frame) (a : Array Value) (s : State) : State → Prop := fun t => ∃ o, t.status = .running ∧ Ended t below o ∧ lw_Q a s o t
/-- the law's own end, with 1 on the stack, nothing written that was there before, its room as the claim has it -/
theorem lw_ret {p : Program} {l : Launch} {e : Env} {s : State} {m : MethodId} {below : List Frame} {meth : Method} {c : Code} {b : Nat} (hx : p.tables.exec = Jvm.exec) (hb : c.code = code) (hr : meth.sig.returnType = ret) (hlocks : meth.locks = false) {pc : Nat} {H : Heap} {ls : Array Slot} (hdg : decode code pc = .ok (.ireturn, 1)) : W p l e room_1 s m #[Value.ref b] below meth c H [] 600000 7302250 (lw_Z below #[Value.ref b] s) (F0 m pc ls [.int 1]) := by
  intro T hT X
  obtain ⟨fs, hret, hrun, hended, hW, hframe⟩ := X.leave (v := some (.int 1)) (hlocks := hlocks) (fun h => by rw [hr] at h; cases h)
  have hmeth' : T.vm.method? m = some meth := X.method'
  refine ⟨T.setFrames fs, ?_, .returned (some (.int 1)), hrun, hended, rfl, ⟨_, rfl⟩, hW, hframe⟩
  jvm_step X.here [X.here.top, hx, hb, hdg, hmeth', hr, ret, narrow_b1]
  (try refine ⟨rfl, ?_⟩); (try refine ⟨rfl, ?_⟩)
  first | (intro acts; rw [hret _ acts rfl rfl rfl]) | rw [hret _ _ rfl rfl rfl]
  exact Steps.refl _
/-- what holds at the law's entry: the machine, the code, the tables' words (any of lw_tbl by 'hts w (by decide +kernel)'), the script of L ints xs at the cell b, what the Statement gives of the start (any of its parts by flat_of_before) -/
def lw_At (p : Program) (s : State) (m : MethodId) (meth : Method) (c : Code) (b L : Nat) (xs : Nat → Int32) : Prop :=
  p.tables.exec = Jvm.exec ∧ c.code = code ∧ meth.sig.returnType = ret ∧ c.maxLocals = 4 ∧ s.vm.findClass R_law = some m.cls ∧ (∀ w ∈ lw_tbl, w.before #[Value.ref b] s = true) ∧ va_X b L xs s s.heap ∧ b < s.heap.size ∧ meth.locks = false ∧ (Jvm.Cond.and given_1 narrow_1).before #[Value.ref b] s = true
theorem sw_8 : (8 : Int32).toInt = 8 := by decide
theorem sw_9 : (9 : Int32).toInt = 9 := by decide
theorem sw_10 : (10 : Int32).toInt = 10 := by decide
theorem sw_11 : (11 : Int32).toInt = 11 := by decide
theorem sw_12 : (12 : Int32).toInt = 12 := by decide
theorem sw_13 : (13 : Int32).toInt = 13 := by decide
theorem sw_14 : (14 : Int32).toInt = 14 := by decide
theorem sw_15 : (15 : Int32).toInt = 15 := by decide
theorem sw_16 : (16 : Int32).toInt = 16 := by decide
theorem sw_17 : (17 : Int32).toInt = 17 := by decide
theorem sw_18 : (18 : Int32).toInt = 18 := by decide
theorem sw_19 : (19 : Int32).toInt = 19 := by decide
theorem sw_20 : (20 : Int32).toInt = 20 := by decide
theorem sw_21 : (21 : Int32).toInt = 21 := by decide
theorem sw_22 : (22 : Int32).toInt = 22 := by decide
theorem sw_23 : (23 : Int32).toInt = 23 := by decide
section XL
variable {p : Program} {l : Launch} {e : Env} {R : Room} {s : State} {m : MethodId} {args : Array Value} {below : List Frame} {meth : Method} {c : Code} {H H0 : Heap} {locs : List Loc} {cells slots : Nat} {Q : State → Prop} {cc : ByteArray} {nL pc : Nat} {ret : Option FieldType} {own : String} {G : xG} {A : Nat → Prop} {ws : va_W} {ls : Array Slot} {rest : List Value}
theorem x_sld {b L : Nat} {xs : Nat → Int32} (C0 : xC p s m meth c cc nL ret own args) (hX : va_X b L xs s H0) (hbl : b < H0.size) (X : xS G A H0 ws H locs) (hbA : ¬ A b) {i : Int32} (hin : ix_ i L) (hdg : decode cc pc = .ok (.iaload, 1)) (kk : W p l e R s m args below meth c H locs cells slots Q (F0 m (pc + 1) ls (.int (xs i.toNatClampNeg) :: rest))) : W p l e R s m args below meth c H locs cells slots Q (F0 m pc ls (.int i :: .ref b :: rest)) :=
  va_sld C0.1 C0.2.1 hX hbl hbA X.2.2 hin hdg kk
theorem x_slen {b L : Nat} {xs : Nat → Int32} (C0 : xC p s m meth c cc nL ret own args) (hX : va_X b L xs s H0) (hbl : b < H0.size) (X : xS G A H0 ws H locs) (hbA : ¬ A b) (hdg : decode cc pc = .ok (.arraylength, 1)) (kk : W p l e R s m args below meth c H locs cells slots Q (F0 m (pc + 1) ls (.int (Int32.ofNat L) :: rest))) : W p l e R s m args below meth c H locs cells slots Q (F0 m pc ls (.ref b :: rest)) :=
  va_slen C0.1 C0.2.1 hX hbl hbA X.2.2 hdg kk
end XL
def fn_L_law_747 (k18 : tt_TreeOdds → tt_Model → Int32 → Option Int32) (xs : Nat → Int32) (L : Nat) (S0 : tt_TreeOdds) (S1 : tt_Model) (x3 : Int32) : Option Int32 :=
  lt_ (x3 + (4 : Int32)) fun y_14 => k18 S0 S1 y_14
def fl_L_law_18 (xs : Nat → Int32) (L : Nat) : Nat → tt_TreeOdds → tt_Model → Int32 → Option Int32
  | 0, _, _, _ => none
  | n + 1, S0, S1, x3 =>
  if ((Int32.ofNat L) - (4 : Int32)) < x3 then some (1 : Int32) else gd_ (ix_ x3 L) (lt_ ((xs x3.toNatClampNeg) &&& (31 : Int32)) fun y_3 => if y_3 = 0 then gd_ (ix_ (x3 + (1 : Int32)) L) (b2_ (fn_X8_sign S0 (xs (x3 + (1 : Int32)).toNatClampNeg)) fun r_6 P_7 => gd_ (ix_ (x3 + (1 : Int32)) L) (b2_ (fn_X9_sign S1 (xs (x3 + (1 : Int32)).toNatClampNeg)) fun r_10 P_11 => if r_6 = r_10 then fn_L_law_747 (fl_L_law_18 xs L n) xs L P_7 P_11 x3 else some (0 : Int32))) else if y_3 = 1 then gd_ (ix_ (x3 + (1 : Int32)) L) (gd_ (ix_ (x3 + (2 : Int32)) L) (gd_ (ix_ (x3 + (3 : Int32)) L) (b2_ (fn_X8_signs S0 ((((xs (x3 + (1 : Int32)).toNatClampNeg).toInt64) <<< ((32 : Int32).toInt64 &&& 63)) ||| (((xs (x3 + (2 : Int32)).toNatClampNeg).toInt64) &&& (4294967295 : Int64))) (xs (x3 + (3 : Int32)).toNatClampNeg)) fun r_19 P_20 => gd_ (ix_ (x3 + (1 : Int32)) L) (gd_ (ix_ (x3 + (2 : Int32)) L) (gd_ (ix_ (x3 + (3 : Int32)) L) (b2_ (fn_X9_signs S1 ((((xs (x3 + (1 : Int32)).toNatClampNeg).toInt64) <<< ((32 : Int32).toInt64 &&& 63)) ||| (((xs (x3 + (2 : Int32)).toNatClampNeg).toInt64) &&& (4294967295 : Int64))) (xs (x3 + (3 : Int32)).toNatClampNeg)) fun r_25 P_26 => if r_19 = r_25 then fn_L_law_747 (fl_L_law_18 xs L n) xs L P_20 P_26 x3 else some (0 : Int32))))))) else if y_3 = 2 then gd_ (ix_ (x3 + (1 : Int32)) L) (gd_ (ix_ (x3 + (2 : Int32)) L) (gd_ (ix_ (x3 + (3 : Int32)) L) (b2_ (fn_X8_draw S0 (xs (x3 + (1 : Int32)).toNatClampNeg) (xs (x3 + (2 : Int32)).toNatClampNeg) (xs (x3 + (3 : Int32)).toNatClampNeg)) fun r_33 P_34 => gd_ (ix_ (x3 + (1 : Int32)) L) (gd_ (ix_ (x3 + (2 : Int32)) L) (gd_ (ix_ (x3 + (3 : Int32)) L) (b2_ (fn_X9_draw S1 (xs (x3 + (1 : Int32)).toNatClampNeg) (xs (x3 + (2 : Int32)).toNatClampNeg) (xs (x3 + (3 : Int32)).toNatClampNeg)) fun r_39 P_40 => if r_33 = r_39 then fn_L_law_747 (fl_L_law_18 xs L n) xs L P_34 P_40 x3 else some (0 : Int32))))))) else if y_3 = 3 then gd_ (ix_ (x3 + (1 : Int32)) L) (gd_ (ix_ (x3 + (2 : Int32)) L) (b2_ (fn_X8_sets S0 (xs (x3 + (1 : Int32)).toNatClampNeg) (xs (x3 + (2 : Int32)).toNatClampNeg)) fun r_46 P_47 => gd_ (ix_ (x3 + (1 : Int32)) L) (gd_ (ix_ (x3 + (2 : Int32)) L) (b2_ (fn_X9_sets S1 (xs (x3 + (1 : Int32)).toNatClampNeg) (xs (x3 + (2 : Int32)).toNatClampNeg)) fun r_51 P_52 => if r_46 = r_51 then fn_L_law_747 (fl_L_law_18 xs L n) xs L P_47 P_52 x3 else some (0 : Int32))))) else if y_3 = 4 then b2_ (fn_X8_empties S0) fun r_56 P_57 => b2_ (fn_X9_empties S1) fun r_59 P_60 => if r_56 = r_59 then fn_L_law_747 (fl_L_law_18 xs L n) xs L P_57 P_60 x3 else some (0 : Int32) else if y_3 = 5 then b2_ (fn_X8_drop S0) fun r_64 P_65 => b2_ (fn_X9_drop S1) fun r_67 P_68 => if r_64 = r_67 then fn_L_law_747 (fl_L_law_18 xs L n) xs L P_65 P_68 x3 else some (0 : Int32) else if y_3 = 6 then gd_ (ix_ (x3 + (1 : Int32)) L) (b2_ (fn_X8_at S0 (xs (x3 + (1 : Int32)).toNatClampNeg)) fun r_73 P_74 => gd_ (ix_ (x3 + (1 : Int32)) L) (b2_ (fn_X9_at S1 (xs (x3 + (1 : Int32)).toNatClampNeg)) fun r_77 P_78 => if r_73 = r_77 then fn_L_law_747 (fl_L_law_18 xs L n) xs L P_74 P_78 x3 else some (0 : Int32))) else if y_3 = 7 then bd_ (fn_X8_guess S0) fun r_82 => b2_ (fn_X9_guess S1) fun r_84 P_85 => if r_82 = r_84 then fn_L_law_747 (fl_L_law_18 xs L n) xs L S0 P_85 x3 else some (0 : Int32) else if y_3 = 8 then gd_ (ix_ (x3 + (1 : Int32)) L) (gd_ (ix_ (x3 + (2 : Int32)) L) (b2_ (fn_X8_was S0 (xs (x3 + (1 : Int32)).toNatClampNeg) (xs (x3 + (2 : Int32)).toNatClampNeg)) fun r_91 P_92 => gd_ (ix_ (x3 + (1 : Int32)) L) (gd_ (ix_ (x3 + (2 : Int32)) L) (b2_ (fn_X9_was S1 (xs (x3 + (1 : Int32)).toNatClampNeg) (xs (x3 + (2 : Int32)).toNatClampNeg)) fun r_96 P_97 => if r_91 = r_96 then fn_L_law_747 (fl_L_law_18 xs L n) xs L P_92 P_97 x3 else some (0 : Int32))))) else if y_3 = 9 then gd_ (ix_ (x3 + (1 : Int32)) L) (gd_ (ix_ (x3 + (2 : Int32)) L) (gd_ (ix_ (x3 + (3 : Int32)) L) (b2_ (fn_X8_node S0 (xs (x3 + (1 : Int32)).toNatClampNeg) (xs (x3 + (2 : Int32)).toNatClampNeg) (xs (x3 + (3 : Int32)).toNatClampNeg)) fun r_104 P_105 => gd_ (ix_ (x3 + (1 : Int32)) L) (gd_ (ix_ (x3 + (2 : Int32)) L) (gd_ (ix_ (x3 + (3 : Int32)) L) (b2_ (fn_X9_node S1 (xs (x3 + (1 : Int32)).toNatClampNeg) (xs (x3 + (2 : Int32)).toNatClampNeg) (xs (x3 + (3 : Int32)).toNatClampNeg)) fun r_110 P_111 => if r_104 = r_110 then fn_L_law_747 (fl_L_law_18 xs L n) xs L P_105 P_111 x3 else some (0 : Int32))))))) else if y_3 = 10 then bd_ (fn_X8_cost S0) fun r_115 => b2_ (fn_X9_cost S1) fun r_117 P_118 => if r_115 = r_117 then fn_L_law_747 (fl_L_law_18 xs L n) xs L S0 P_118 x3 else some (0 : Int32) else if y_3 = 11 then gd_ (ix_ (x3 + (1 : Int32)) L) (gd_ (ix_ (x3 + (2 : Int32)) L) (b2_ (fn_X8_costBy S0 (xs (x3 + (1 : Int32)).toNatClampNeg) (xs (x3 + (2 : Int32)).toNatClampNeg)) fun r_124 P_125 => gd_ (ix_ (x3 + (1 : Int32)) L) (gd_ (ix_ (x3 + (2 : Int32)) L) (b2_ (fn_X9_costBy S1 (xs (x3 + (1 : Int32)).toNatClampNeg) (xs (x3 + (2 : Int32)).toNatClampNeg)) fun r_129 P_130 => if r_124 = r_129 then fn_L_law_747 (fl_L_law_18 xs L n) xs L P_125 P_130 x3 else some (0 : Int32))))) else if y_3 = 12 then gd_ (ix_ (x3 + (1 : Int32)) L) (b2_ (fn_X8_best S0 (xs (x3 + (1 : Int32)).toNatClampNeg)) fun r_135 P_136 => gd_ (ix_ (x3 + (1 : Int32)) L) (b2_ (fn_X9_best S1 (xs (x3 + (1 : Int32)).toNatClampNeg)) fun r_139 P_140 => if r_135 = r_139 then fn_L_law_747 (fl_L_law_18 xs L n) xs L P_136 P_140 x3 else some (0 : Int32))) else if y_3 = 13 then gd_ (ix_ (x3 + (1 : Int32)) L) (b2_ (fn_X8_follows S0 (xs (x3 + (1 : Int32)).toNatClampNeg)) fun r_145 P_146 => gd_ (ix_ (x3 + (1 : Int32)) L) (b2_ (fn_X9_follows S1 (xs (x3 + (1 : Int32)).toNatClampNeg)) fun r_149 P_150 => if r_145 = r_149 then fn_L_law_747 (fl_L_law_18 xs L n) xs L P_146 P_150 x3 else some (0 : Int32))) else if y_3 = 14 then gd_ (ix_ (x3 + (1 : Int32)) L) (b2_ (fn_X8_tree S0 (xs (x3 + (1 : Int32)).toNatClampNeg)) fun r_155 P_156 => gd_ (ix_ (x3 + (1 : Int32)) L) (b2_ (fn_X9_tree S1 (xs (x3 + (1 : Int32)).toNatClampNeg)) fun r_159 P_160 => if r_155 = r_159 then fn_L_law_747 (fl_L_law_18 xs L n) xs L P_156 P_160 x3 else some (0 : Int32))) else if y_3 = 15 then gd_ (ix_ (x3 + (1 : Int32)) L) (gd_ (ix_ (x3 + (2 : Int32)) L) (b2_ (fn_X8_leaf S0 (xs (x3 + (1 : Int32)).toNatClampNeg) (xs (x3 + (2 : Int32)).toNatClampNeg)) fun r_166 P_167 => gd_ (ix_ (x3 + (1 : Int32)) L) (gd_ (ix_ (x3 + (2 : Int32)) L) (b2_ (fn_X9_leaf S1 (xs (x3 + (1 : Int32)).toNatClampNeg) (xs (x3 + (2 : Int32)).toNatClampNeg)) fun r_171 P_172 => if r_166 = r_171 then fn_L_law_747 (fl_L_law_18 xs L n) xs L P_167 P_172 x3 else some (0 : Int32))))) else if y_3 = 16 then gd_ (ix_ (x3 + (1 : Int32)) L) (b2_ (fn_X8_written S0 (xs (x3 + (1 : Int32)).toNatClampNeg)) fun r_177 P_178 => gd_ (ix_ (x3 + (1 : Int32)) L) (b2_ (fn_X9_written S1 (xs (x3 + (1 : Int32)).toNatClampNeg)) fun r_181 P_182 => if r_177 = r_181 then fn_L_law_747 (fl_L_law_18 xs L n) xs L P_178 P_182 x3 else some (0 : Int32))) else if y_3 = 17 then gd_ (ix_ (x3 + (1 : Int32)) L) (gd_ (ix_ (x3 + (2 : Int32)) L) (b2_ (fn_X8_reads S0 (xs (x3 + (1 : Int32)).toNatClampNeg) (xs (x3 + (2 : Int32)).toNatClampNeg)) fun r_188 P_189 => gd_ (ix_ (x3 + (1 : Int32)) L) (gd_ (ix_ (x3 + (2 : Int32)) L) (b2_ (fn_X9_reads S1 (xs (x3 + (1 : Int32)).toNatClampNeg) (xs (x3 + (2 : Int32)).toNatClampNeg)) fun r_193 P_194 => if r_188 = r_193 then fn_L_law_747 (fl_L_law_18 xs L n) xs L P_189 P_194 x3 else some (0 : Int32))))) else if y_3 = 18 then gd_ (ix_ (x3 + (1 : Int32)) L) (b2_ (fn_X8_type S0 (xs (x3 + (1 : Int32)).toNatClampNeg)) fun r_199 P_200 => gd_ (ix_ (x3 + (1 : Int32)) L) (b2_ (fn_X9_type S1 (xs (x3 + (1 : Int32)).toNatClampNeg)) fun r_203 P_204 => if r_199 = r_203 then fn_L_law_747 (fl_L_law_18 xs L n) xs L P_200 P_204 x3 else some (0 : Int32))) else if y_3 = 19 then b2_ (fn_X8_clear S0) fun r_208 P_209 => b2_ (fn_X9_clear S1) fun r_211 P_212 => if r_208 = r_211 then fn_L_law_747 (fl_L_law_18 xs L n) xs L P_209 P_212 x3 else some (0 : Int32) else if y_3 = 20 then b2_ (fn_X8_told S0) fun r_216 P_217 => b2_ (fn_X9_told S1) fun r_219 P_220 => if r_216 = r_219 then fn_L_law_747 (fl_L_law_18 xs L n) xs L P_217 P_220 x3 else some (0 : Int32) else if y_3 = 21 then b2_ (fn_X8_back S0) fun r_224 P_225 => b2_ (fn_X9_back S1) fun r_227 P_228 => if r_224 = r_227 then fn_L_law_747 (fl_L_law_18 xs L n) xs L P_225 P_228 x3 else some (0 : Int32) else if y_3 = 22 then gd_ (ix_ (x3 + (1 : Int32)) L) (b2_ (fn_X8_count S0 (xs (x3 + (1 : Int32)).toNatClampNeg)) fun r_233 P_234 => gd_ (ix_ (x3 + (1 : Int32)) L) (b2_ (fn_X9_count S1 (xs (x3 + (1 : Int32)).toNatClampNeg)) fun r_237 P_238 => if r_233 = r_237 then fn_L_law_747 (fl_L_law_18 xs L n) xs L P_234 P_238 x3 else some (0 : Int32))) else if y_3 = 23 then b2_ (fn_X8_digest S0) fun r_242 P_243 => b2_ (fn_X9_digest S1) fun r_245 P_246 => if r_242 = r_245 then fn_L_law_747 (fl_L_law_18 xs L n) xs L P_243 P_246 x3 else some (0 : Int32) else fn_L_law_747 (fl_L_law_18 xs L n) xs L S0 S1 x3)
theorem cu_C51 {G : xG} {a b : Nat → Nat} {S0 : tt_TreeOdds} {S1 : tt_Model} : [0, 1, 2, 3, 4, 5, 6, 7, 8, 9, 10, 11, 12, 13, 14, 15, 16, 17, 18, 19, 20, 21, 22, 23, 24, 25, 26, 27, 28, 29, 30, 31, 32, 33, 34, 35, 36, 37, 38, 39, 40, 41, 42].map (fun i => (wd_TreeOdds G a S0 ++ wd_Model G b S1)[i]?) = (wd_TreeOdds G a S0 : va_W).map some := rfl
theorem cu_R51 {G : xG} {a b : Nat → Nat} {S0 : tt_TreeOdds} {S1 : tt_Model} : ([43, 44, 45, 46, 47, 48, 49, 50, 51, 52, 53, 54, 55, 56, 57, 58, 59, 60, 61] : List Nat).map (fun i => (wd_TreeOdds G a S0 ++ wd_Model G b S1)[i]?) = ([(b 0, .inr (9, [.ref (b 1), .ref (b 2), .int (gf_Model_states S1), .ref (b 3), .ref (b 4), .int (gf_Model_came S1), .int (gf_Model_byDepth S1), .int (gf_Model_byGuesser S1), .ref (b 5), .ref (b 6), .ref (b 7), .ref (b 8), .ref (b 9), .ref (b 10), .ref (b 11), .ref (b 12), .ref (b 13), .ref (b 14), .ref (b 15), .ref (b 16), .int (gf_Model_outLong S1), .long (gf_Model_low S1), .ref (b 17), .int (gf_Model_textLong S1), .int (gf_Model_place S1), .ref (b 18), .int (gf_Model_readLong S1)])), (b 1, .inl (G.2.1, 103, .inl (gf_Model_now S1))), (b 2, .inl (G.2.1, 618, .inl (gf_Model_past S1))), (b 3, .inl (G.2.1, 3, .inl (gf_Model_refused S1))), (b 4, .inl (G.2.1, 128, .inl (gf_Model_line S1))), (b 5, .inl (G.2.1, 127, .inl (gf_Model_noughts S1))), (b 6, .inl (G.2.1, 127, .inl (gf_Model_ones S1))), (b 7, .inl (G.2.1, 127, .inl (gf_Model_weights S1))), (b 8, .inl (G.2.1, 127, .inl (gf_Model_ownCost S1))), (b 9, .inl (G.2.1, 7, .inl (gf_Model_way S1))), (b 10, .inl (G.2.1, 7, .inl (gf_Model_own S1))), (b 11, .inl (G.2.1, 7, .inl (gf_Model_mixed S1))), (b 12, .inl (G.2.1, 128, .inl (gf_Model_guessAt S1))), (b 13, .inl (G.2.1, 127, .inl (gf_Model_treeCost S1))), (b 14, .inl (G.2.2.1, 127, .inl (gf_Model_isLeaf S1))), (b 15, .inl (G.2.1, 127, .inl (gf_Model_inTree S1))), (b 16, .inl (G.2.1, 256, .inl (gf_Model_out S1))), (b 17, .inl (G.2.1, 120, .inl (gf_Model_text S1))), (b 18, .inl (G.2.1, 128, .inl (gf_Model_read S1)))] : va_W).map some := rfl
theorem cu_J51 {G : xG} {a b : Nat → Nat} {S0 : tt_TreeOdds} {S1 : tt_Model} {P0 : tt_TreeOdds} : [19, 20, 21, 22, 23, 24, 25, 26, 27, 28, 29, 30, 31, 32, 33, 34, 35, 36, 37, 38, 39, 40, 41, 42, 43, 44, 45, 46, 47, 48, 49, 50, 51, 52, 53, 54, 55, 56, 57, 58, 59, 60, 61, 0, 1, 2, 3, 4, 5, 6, 7, 8, 9, 10, 11, 12, 13, 14, 15, 16, 17, 18].map (fun i => (([(b 0, .inr (9, [.ref (b 1), .ref (b 2), .int (gf_Model_states S1), .ref (b 3), .ref (b 4), .int (gf_Model_came S1), .int (gf_Model_byDepth S1), .int (gf_Model_byGuesser S1), .ref (b 5), .ref (b 6), .ref (b 7), .ref (b 8), .ref (b 9), .ref (b 10), .ref (b 11), .ref (b 12), .ref (b 13), .ref (b 14), .ref (b 15), .ref (b 16), .int (gf_Model_outLong S1), .long (gf_Model_low S1), .ref (b 17), .int (gf_Model_textLong S1), .int (gf_Model_place S1), .ref (b 18), .int (gf_Model_readLong S1)])), (b 1, .inl (G.2.1, 103, .inl (gf_Model_now S1))), (b 2, .inl (G.2.1, 618, .inl (gf_Model_past S1))), (b 3, .inl (G.2.1, 3, .inl (gf_Model_refused S1))), (b 4, .inl (G.2.1, 128, .inl (gf_Model_line S1))), (b 5, .inl (G.2.1, 127, .inl (gf_Model_noughts S1))), (b 6, .inl (G.2.1, 127, .inl (gf_Model_ones S1))), (b 7, .inl (G.2.1, 127, .inl (gf_Model_weights S1))), (b 8, .inl (G.2.1, 127, .inl (gf_Model_ownCost S1))), (b 9, .inl (G.2.1, 7, .inl (gf_Model_way S1))), (b 10, .inl (G.2.1, 7, .inl (gf_Model_own S1))), (b 11, .inl (G.2.1, 7, .inl (gf_Model_mixed S1))), (b 12, .inl (G.2.1, 128, .inl (gf_Model_guessAt S1))), (b 13, .inl (G.2.1, 127, .inl (gf_Model_treeCost S1))), (b 14, .inl (G.2.2.1, 127, .inl (gf_Model_isLeaf S1))), (b 15, .inl (G.2.1, 127, .inl (gf_Model_inTree S1))), (b 16, .inl (G.2.1, 256, .inl (gf_Model_out S1))), (b 17, .inl (G.2.1, 120, .inl (gf_Model_text S1))), (b 18, .inl (G.2.1, 128, .inl (gf_Model_read S1)))] : va_W) ++ (wd_TreeOdds G a P0))[i]?) = (wd_TreeOdds G a P0 ++ wd_Model G b S1 : va_W).map some := rfl
theorem cu_C52 {G : xG} {a b : Nat → Nat} {S0 : tt_TreeOdds} {S1 : tt_Model} : [43, 44, 45, 46, 47, 48, 49, 50, 51, 52, 53, 54, 55, 56, 57, 58, 59, 60, 61].map (fun i => (wd_TreeOdds G a S0 ++ wd_Model G b S1)[i]?) = (wd_Model G b S1 : va_W).map some := rfl
theorem cu_R52 {G : xG} {a b : Nat → Nat} {S0 : tt_TreeOdds} {S1 : tt_Model} : ([0, 1, 2, 3, 4, 5, 6, 7, 8, 9, 10, 11, 12, 13, 14, 15, 16, 17, 18, 19, 20, 21, 22, 23, 24, 25, 26, 27, 28, 29, 30, 31, 32, 33, 34, 35, 36, 37, 38, 39, 40, 41, 42] : List Nat).map (fun i => (wd_TreeOdds G a S0 ++ wd_Model G b S1)[i]?) = ([(a 0, .inr (8, [.ref (a 1), .ref (a 12), .ref (a 19), .ref (a 21), .ref (a 24), .ref (a 26), .ref (a 29), .int (gf_TreeOdds_timesBad S0), .int (gf_TreeOdds_timesNo S0), .int (gf_TreeOdds_timesFull S0)])), (a 1, .inr (3, [.ref (a 2), .ref (a 3), .ref (a 4), .ref (a 5), .int (gf_Row_length (gf_TreeOdds_row S0)), .int (gf_Row_paidInAll (gf_TreeOdds_row S0))])), (a 2, .inl (G.2.1, 100, .inl (gf_Row_signs (gf_TreeOdds_row S0)))), (a 3, .inl (G.2.1, 100, .inl (gf_Row_foretold (gf_TreeOdds_row S0)))), (a 4, .inl (G.2.1, 100, .inl (gf_Row_paid (gf_TreeOdds_row S0)))), (a 5, .inr (2, [.ref (a 6), .ref (a 7), .ref (a 8), .ref (a 9), .ref (a 10), .ref (a 11), .int (gf_Pasts_depth (gf_Row_pasts (gf_TreeOdds_row S0))), .int (gf_Pasts_guesser (gf_Row_pasts (gf_TreeOdds_row S0))), .int (gf_Pasts_past (gf_Row_pasts (gf_TreeOdds_row S0)))])), (a 6, .inl (G.2.1, 128, .inl (gf_Pasts_zeros (gf_Row_pasts (gf_TreeOdds_row S0))))), (a 7, .inl (G.2.1, 128, .inl (gf_Pasts_ones (gf_Row_pasts (gf_TreeOdds_row S0))))), (a 8, .inl (G.2.1, 128, .inl (gf_Pasts_weights (gf_Row_pasts (gf_TreeOdds_row S0))))), (a 9, .inl (G.2.1, 128, .inl (gf_Pasts_paidAlone (gf_Row_pasts (gf_TreeOdds_row S0))))), (a 10, .inl (G.2.1, 7, .inl (gf_Pasts_owns (gf_Row_pasts (gf_TreeOdds_row S0))))), (a 11, .inl (G.2.1, 7, .inl (gf_Pasts_guesses (gf_Row_pasts (gf_TreeOdds_row S0))))), (a 12, .inr (2, [.ref (a 13), .ref (a 14), .ref (a 15), .ref (a 16), .ref (a 17), .ref (a 18), .int (gf_Pasts_depth (gf_TreeOdds_spare S0)), .int (gf_Pasts_guesser (gf_TreeOdds_spare S0)), .int (gf_Pasts_past (gf_TreeOdds_spare S0))])), (a 13, .inl (G.2.1, 128, .inl (gf_Pasts_zeros (gf_TreeOdds_spare S0)))), (a 14, .inl (G.2.1, 128, .inl (gf_Pasts_ones (gf_TreeOdds_spare S0)))), (a 15, .inl (G.2.1, 128, .inl (gf_Pasts_weights (gf_TreeOdds_spare S0)))), (a 16, .inl (G.2.1, 128, .inl (gf_Pasts_paidAlone (gf_TreeOdds_spare S0)))), (a 17, .inl (G.2.1, 7, .inl (gf_Pasts_owns (gf_TreeOdds_spare S0)))), (a 18, .inl (G.2.1, 7, .inl (gf_Pasts_guesses (gf_TreeOdds_spare S0)))), (a 19, .inr (1, [.ref (a 20), .int (gf_Contest_length (gf_TreeOdds_contest S0)), .int (gf_Contest_depth (gf_TreeOdds_contest S0)), .int (gf_Contest_guesser (gf_TreeOdds_contest S0)), .int (gf_Contest_price (gf_TreeOdds_contest S0))])), (a 20, .inl (G.2.1, 100, .inl (gf_Contest_judged (gf_TreeOdds_contest S0)))), (a 21, .inr (0, [.ref (a 22), .ref (a 23), .int (gf_BestTree_leaves (gf_TreeOdds_bestTree S0)), .int (gf_BestTree_deepest (gf_TreeOdds_bestTree S0))])), (a 22, .inl (G.2.1, 128, .inl (gf_BestTree_prices (gf_TreeOdds_bestTree S0)))), (a 23, .inl (G.2.1, 128, .inl (gf_BestTree_kinds (gf_TreeOdds_bestTree S0)))), (a 24, .inr (7, [.ref (a 25), .int (gf_Writing_length (gf_TreeOdds_writing S0)), .long (gf_Writing_low (gf_TreeOdds_writing S0)), .long (gf_Writing_range (gf_TreeOdds_writing S0)), .long (gf_Writing_code (gf_TreeOdds_writing S0)), .int (gf_Writing_nextByte (gf_TreeOdds_writing S0))])), (a 25, .inl (G.2.1, 204, .inl (gf_Writing_bytes (gf_TreeOdds_writing S0)))), (a 26, .inr (6, [.ref (a 27), .ref (a 28), .int (gf_Text_length (gf_TreeOdds_text S0)), .int (gf_Text_found (gf_TreeOdds_text S0)), .int (gf_Text_fault (gf_TreeOdds_text S0)), .int (gf_Text_room (gf_TreeOdds_text S0)), .int (gf_Text_cursor (gf_TreeOdds_text S0)), .int (gf_Text_groupStart (gf_TreeOdds_text S0))])), (a 27, .inl (G.2.1, 120, .inl (gf_Text_bytes (gf_TreeOdds_text S0)))), (a 28, .inl (G.2.1, 100, .inl (gf_Text_signs (gf_TreeOdds_text S0)))), (a 29, .inr (5, [.ref (a 30), .int (gf_States_size (gf_TreeOdds_states S0)), .int (gf_States_top (gf_TreeOdds_states S0))])), (a 30, .inl (G.2.2.2, 6, .inr (.inr (.inr (.inr (fun i => some (a (29 + (2 + 2 * i))))))))), (a 31, .inr (4, [.ref (a 32), .int (gf_State_length ((gf_States_ring (gf_TreeOdds_states S0)) 0)), .int (gf_State_depth ((gf_States_ring (gf_TreeOdds_states S0)) 0)), .int (gf_State_guesser ((gf_States_ring (gf_TreeOdds_states S0)) 0))])), (a 32, .inl (G.2.1, 100, .inl (gf_State_signs ((gf_States_ring (gf_TreeOdds_states S0)) 0)))), (a 33, .inr (4, [.ref (a 34), .int (gf_State_length ((gf_States_ring (gf_TreeOdds_states S0)) 1)), .int (gf_State_depth ((gf_States_ring (gf_TreeOdds_states S0)) 1)), .int (gf_State_guesser ((gf_States_ring (gf_TreeOdds_states S0)) 1))])), (a 34, .inl (G.2.1, 100, .inl (gf_State_signs ((gf_States_ring (gf_TreeOdds_states S0)) 1)))), (a 35, .inr (4, [.ref (a 36), .int (gf_State_length ((gf_States_ring (gf_TreeOdds_states S0)) 2)), .int (gf_State_depth ((gf_States_ring (gf_TreeOdds_states S0)) 2)), .int (gf_State_guesser ((gf_States_ring (gf_TreeOdds_states S0)) 2))])), (a 36, .inl (G.2.1, 100, .inl (gf_State_signs ((gf_States_ring (gf_TreeOdds_states S0)) 2)))), (a 37, .inr (4, [.ref (a 38), .int (gf_State_length ((gf_States_ring (gf_TreeOdds_states S0)) 3)), .int (gf_State_depth ((gf_States_ring (gf_TreeOdds_states S0)) 3)), .int (gf_State_guesser ((gf_States_ring (gf_TreeOdds_states S0)) 3))])), (a 38, .inl (G.2.1, 100, .inl (gf_State_signs ((gf_States_ring (gf_TreeOdds_states S0)) 3)))), (a 39, .inr (4, [.ref (a 40), .int (gf_State_length ((gf_States_ring (gf_TreeOdds_states S0)) 4)), .int (gf_State_depth ((gf_States_ring (gf_TreeOdds_states S0)) 4)), .int (gf_State_guesser ((gf_States_ring (gf_TreeOdds_states S0)) 4))])), (a 40, .inl (G.2.1, 100, .inl (gf_State_signs ((gf_States_ring (gf_TreeOdds_states S0)) 4)))), (a 41, .inr (4, [.ref (a 42), .int (gf_State_length ((gf_States_ring (gf_TreeOdds_states S0)) 5)), .int (gf_State_depth ((gf_States_ring (gf_TreeOdds_states S0)) 5)), .int (gf_State_guesser ((gf_States_ring (gf_TreeOdds_states S0)) 5))])), (a 42, .inl (G.2.1, 100, .inl (gf_State_signs ((gf_States_ring (gf_TreeOdds_states S0)) 5))))] : va_W).map some := rfl
theorem cu_J52 {G : xG} {a b : Nat → Nat} {S0 : tt_TreeOdds} {S1 : tt_Model} {P0 : tt_Model} : [0, 1, 2, 3, 4, 5, 6, 7, 8, 9, 10, 11, 12, 13, 14, 15, 16, 17, 18, 19, 20, 21, 22, 23, 24, 25, 26, 27, 28, 29, 30, 31, 32, 33, 34, 35, 36, 37, 38, 39, 40, 41, 42, 43, 44, 45, 46, 47, 48, 49, 50, 51, 52, 53, 54, 55, 56, 57, 58, 59, 60, 61].map (fun i => (([(a 0, .inr (8, [.ref (a 1), .ref (a 12), .ref (a 19), .ref (a 21), .ref (a 24), .ref (a 26), .ref (a 29), .int (gf_TreeOdds_timesBad S0), .int (gf_TreeOdds_timesNo S0), .int (gf_TreeOdds_timesFull S0)])), (a 1, .inr (3, [.ref (a 2), .ref (a 3), .ref (a 4), .ref (a 5), .int (gf_Row_length (gf_TreeOdds_row S0)), .int (gf_Row_paidInAll (gf_TreeOdds_row S0))])), (a 2, .inl (G.2.1, 100, .inl (gf_Row_signs (gf_TreeOdds_row S0)))), (a 3, .inl (G.2.1, 100, .inl (gf_Row_foretold (gf_TreeOdds_row S0)))), (a 4, .inl (G.2.1, 100, .inl (gf_Row_paid (gf_TreeOdds_row S0)))), (a 5, .inr (2, [.ref (a 6), .ref (a 7), .ref (a 8), .ref (a 9), .ref (a 10), .ref (a 11), .int (gf_Pasts_depth (gf_Row_pasts (gf_TreeOdds_row S0))), .int (gf_Pasts_guesser (gf_Row_pasts (gf_TreeOdds_row S0))), .int (gf_Pasts_past (gf_Row_pasts (gf_TreeOdds_row S0)))])), (a 6, .inl (G.2.1, 128, .inl (gf_Pasts_zeros (gf_Row_pasts (gf_TreeOdds_row S0))))), (a 7, .inl (G.2.1, 128, .inl (gf_Pasts_ones (gf_Row_pasts (gf_TreeOdds_row S0))))), (a 8, .inl (G.2.1, 128, .inl (gf_Pasts_weights (gf_Row_pasts (gf_TreeOdds_row S0))))), (a 9, .inl (G.2.1, 128, .inl (gf_Pasts_paidAlone (gf_Row_pasts (gf_TreeOdds_row S0))))), (a 10, .inl (G.2.1, 7, .inl (gf_Pasts_owns (gf_Row_pasts (gf_TreeOdds_row S0))))), (a 11, .inl (G.2.1, 7, .inl (gf_Pasts_guesses (gf_Row_pasts (gf_TreeOdds_row S0))))), (a 12, .inr (2, [.ref (a 13), .ref (a 14), .ref (a 15), .ref (a 16), .ref (a 17), .ref (a 18), .int (gf_Pasts_depth (gf_TreeOdds_spare S0)), .int (gf_Pasts_guesser (gf_TreeOdds_spare S0)), .int (gf_Pasts_past (gf_TreeOdds_spare S0))])), (a 13, .inl (G.2.1, 128, .inl (gf_Pasts_zeros (gf_TreeOdds_spare S0)))), (a 14, .inl (G.2.1, 128, .inl (gf_Pasts_ones (gf_TreeOdds_spare S0)))), (a 15, .inl (G.2.1, 128, .inl (gf_Pasts_weights (gf_TreeOdds_spare S0)))), (a 16, .inl (G.2.1, 128, .inl (gf_Pasts_paidAlone (gf_TreeOdds_spare S0)))), (a 17, .inl (G.2.1, 7, .inl (gf_Pasts_owns (gf_TreeOdds_spare S0)))), (a 18, .inl (G.2.1, 7, .inl (gf_Pasts_guesses (gf_TreeOdds_spare S0)))), (a 19, .inr (1, [.ref (a 20), .int (gf_Contest_length (gf_TreeOdds_contest S0)), .int (gf_Contest_depth (gf_TreeOdds_contest S0)), .int (gf_Contest_guesser (gf_TreeOdds_contest S0)), .int (gf_Contest_price (gf_TreeOdds_contest S0))])), (a 20, .inl (G.2.1, 100, .inl (gf_Contest_judged (gf_TreeOdds_contest S0)))), (a 21, .inr (0, [.ref (a 22), .ref (a 23), .int (gf_BestTree_leaves (gf_TreeOdds_bestTree S0)), .int (gf_BestTree_deepest (gf_TreeOdds_bestTree S0))])), (a 22, .inl (G.2.1, 128, .inl (gf_BestTree_prices (gf_TreeOdds_bestTree S0)))), (a 23, .inl (G.2.1, 128, .inl (gf_BestTree_kinds (gf_TreeOdds_bestTree S0)))), (a 24, .inr (7, [.ref (a 25), .int (gf_Writing_length (gf_TreeOdds_writing S0)), .long (gf_Writing_low (gf_TreeOdds_writing S0)), .long (gf_Writing_range (gf_TreeOdds_writing S0)), .long (gf_Writing_code (gf_TreeOdds_writing S0)), .int (gf_Writing_nextByte (gf_TreeOdds_writing S0))])), (a 25, .inl (G.2.1, 204, .inl (gf_Writing_bytes (gf_TreeOdds_writing S0)))), (a 26, .inr (6, [.ref (a 27), .ref (a 28), .int (gf_Text_length (gf_TreeOdds_text S0)), .int (gf_Text_found (gf_TreeOdds_text S0)), .int (gf_Text_fault (gf_TreeOdds_text S0)), .int (gf_Text_room (gf_TreeOdds_text S0)), .int (gf_Text_cursor (gf_TreeOdds_text S0)), .int (gf_Text_groupStart (gf_TreeOdds_text S0))])), (a 27, .inl (G.2.1, 120, .inl (gf_Text_bytes (gf_TreeOdds_text S0)))), (a 28, .inl (G.2.1, 100, .inl (gf_Text_signs (gf_TreeOdds_text S0)))), (a 29, .inr (5, [.ref (a 30), .int (gf_States_size (gf_TreeOdds_states S0)), .int (gf_States_top (gf_TreeOdds_states S0))])), (a 30, .inl (G.2.2.2, 6, .inr (.inr (.inr (.inr (fun i => some (a (29 + (2 + 2 * i))))))))), (a 31, .inr (4, [.ref (a 32), .int (gf_State_length ((gf_States_ring (gf_TreeOdds_states S0)) 0)), .int (gf_State_depth ((gf_States_ring (gf_TreeOdds_states S0)) 0)), .int (gf_State_guesser ((gf_States_ring (gf_TreeOdds_states S0)) 0))])), (a 32, .inl (G.2.1, 100, .inl (gf_State_signs ((gf_States_ring (gf_TreeOdds_states S0)) 0)))), (a 33, .inr (4, [.ref (a 34), .int (gf_State_length ((gf_States_ring (gf_TreeOdds_states S0)) 1)), .int (gf_State_depth ((gf_States_ring (gf_TreeOdds_states S0)) 1)), .int (gf_State_guesser ((gf_States_ring (gf_TreeOdds_states S0)) 1))])), (a 34, .inl (G.2.1, 100, .inl (gf_State_signs ((gf_States_ring (gf_TreeOdds_states S0)) 1)))), (a 35, .inr (4, [.ref (a 36), .int (gf_State_length ((gf_States_ring (gf_TreeOdds_states S0)) 2)), .int (gf_State_depth ((gf_States_ring (gf_TreeOdds_states S0)) 2)), .int (gf_State_guesser ((gf_States_ring (gf_TreeOdds_states S0)) 2))])), (a 36, .inl (G.2.1, 100, .inl (gf_State_signs ((gf_States_ring (gf_TreeOdds_states S0)) 2)))), (a 37, .inr (4, [.ref (a 38), .int (gf_State_length ((gf_States_ring (gf_TreeOdds_states S0)) 3)), .int (gf_State_depth ((gf_States_ring (gf_TreeOdds_states S0)) 3)), .int (gf_State_guesser ((gf_States_ring (gf_TreeOdds_states S0)) 3))])), (a 38, .inl (G.2.1, 100, .inl (gf_State_signs ((gf_States_ring (gf_TreeOdds_states S0)) 3)))), (a 39, .inr (4, [.ref (a 40), .int (gf_State_length ((gf_States_ring (gf_TreeOdds_states S0)) 4)), .int (gf_State_depth ((gf_States_ring (gf_TreeOdds_states S0)) 4)), .int (gf_State_guesser ((gf_States_ring (gf_TreeOdds_states S0)) 4))])), (a 40, .inl (G.2.1, 100, .inl (gf_State_signs ((gf_States_ring (gf_TreeOdds_states S0)) 4)))), (a 41, .inr (4, [.ref (a 42), .int (gf_State_length ((gf_States_ring (gf_TreeOdds_states S0)) 5)), .int (gf_State_depth ((gf_States_ring (gf_TreeOdds_states S0)) 5)), .int (gf_State_guesser ((gf_States_ring (gf_TreeOdds_states S0)) 5))])), (a 42, .inl (G.2.1, 100, .inl (gf_State_signs ((gf_States_ring (gf_TreeOdds_states S0)) 5))))] : va_W) ++ (wd_Model G b P0))[i]?) = (wd_TreeOdds G a S0 ++ wd_Model G b P0 : va_W).map some := rfl
theorem cu_C53 {G : xG} {a b : Nat → Nat} {S0 : tt_TreeOdds} {S1 : tt_Model} : [0, 1, 2, 3, 4, 5, 6, 7, 8, 9, 10, 11, 12, 13, 14, 15, 16, 17, 18, 19, 20, 21, 22, 23, 24, 25, 26, 27, 28, 29, 30, 31, 32, 33, 34, 35, 36, 37, 38, 39, 40, 41, 42].map (fun i => (wd_TreeOdds G a S0 ++ wd_Model G b S1)[i]?) = (wd_TreeOdds G a S0 : va_W).map some := rfl
theorem cu_R53 {G : xG} {a b : Nat → Nat} {S0 : tt_TreeOdds} {S1 : tt_Model} : ([43, 44, 45, 46, 47, 48, 49, 50, 51, 52, 53, 54, 55, 56, 57, 58, 59, 60, 61] : List Nat).map (fun i => (wd_TreeOdds G a S0 ++ wd_Model G b S1)[i]?) = ([(b 0, .inr (9, [.ref (b 1), .ref (b 2), .int (gf_Model_states S1), .ref (b 3), .ref (b 4), .int (gf_Model_came S1), .int (gf_Model_byDepth S1), .int (gf_Model_byGuesser S1), .ref (b 5), .ref (b 6), .ref (b 7), .ref (b 8), .ref (b 9), .ref (b 10), .ref (b 11), .ref (b 12), .ref (b 13), .ref (b 14), .ref (b 15), .ref (b 16), .int (gf_Model_outLong S1), .long (gf_Model_low S1), .ref (b 17), .int (gf_Model_textLong S1), .int (gf_Model_place S1), .ref (b 18), .int (gf_Model_readLong S1)])), (b 1, .inl (G.2.1, 103, .inl (gf_Model_now S1))), (b 2, .inl (G.2.1, 618, .inl (gf_Model_past S1))), (b 3, .inl (G.2.1, 3, .inl (gf_Model_refused S1))), (b 4, .inl (G.2.1, 128, .inl (gf_Model_line S1))), (b 5, .inl (G.2.1, 127, .inl (gf_Model_noughts S1))), (b 6, .inl (G.2.1, 127, .inl (gf_Model_ones S1))), (b 7, .inl (G.2.1, 127, .inl (gf_Model_weights S1))), (b 8, .inl (G.2.1, 127, .inl (gf_Model_ownCost S1))), (b 9, .inl (G.2.1, 7, .inl (gf_Model_way S1))), (b 10, .inl (G.2.1, 7, .inl (gf_Model_own S1))), (b 11, .inl (G.2.1, 7, .inl (gf_Model_mixed S1))), (b 12, .inl (G.2.1, 128, .inl (gf_Model_guessAt S1))), (b 13, .inl (G.2.1, 127, .inl (gf_Model_treeCost S1))), (b 14, .inl (G.2.2.1, 127, .inl (gf_Model_isLeaf S1))), (b 15, .inl (G.2.1, 127, .inl (gf_Model_inTree S1))), (b 16, .inl (G.2.1, 256, .inl (gf_Model_out S1))), (b 17, .inl (G.2.1, 120, .inl (gf_Model_text S1))), (b 18, .inl (G.2.1, 128, .inl (gf_Model_read S1)))] : va_W).map some := rfl
theorem cu_J53 {G : xG} {a b : Nat → Nat} {S0 : tt_TreeOdds} {S1 : tt_Model}  : [19, 20, 21, 22, 23, 24, 25, 26, 27, 28, 29, 30, 31, 32, 33, 34, 35, 36, 37, 38, 39, 40, 41, 42, 43, 44, 45, 46, 47, 48, 49, 50, 51, 52, 53, 54, 55, 56, 57, 58, 59, 60, 61, 0, 1, 2, 3, 4, 5, 6, 7, 8, 9, 10, 11, 12, 13, 14, 15, 16, 17, 18].map (fun i => (([(b 0, .inr (9, [.ref (b 1), .ref (b 2), .int (gf_Model_states S1), .ref (b 3), .ref (b 4), .int (gf_Model_came S1), .int (gf_Model_byDepth S1), .int (gf_Model_byGuesser S1), .ref (b 5), .ref (b 6), .ref (b 7), .ref (b 8), .ref (b 9), .ref (b 10), .ref (b 11), .ref (b 12), .ref (b 13), .ref (b 14), .ref (b 15), .ref (b 16), .int (gf_Model_outLong S1), .long (gf_Model_low S1), .ref (b 17), .int (gf_Model_textLong S1), .int (gf_Model_place S1), .ref (b 18), .int (gf_Model_readLong S1)])), (b 1, .inl (G.2.1, 103, .inl (gf_Model_now S1))), (b 2, .inl (G.2.1, 618, .inl (gf_Model_past S1))), (b 3, .inl (G.2.1, 3, .inl (gf_Model_refused S1))), (b 4, .inl (G.2.1, 128, .inl (gf_Model_line S1))), (b 5, .inl (G.2.1, 127, .inl (gf_Model_noughts S1))), (b 6, .inl (G.2.1, 127, .inl (gf_Model_ones S1))), (b 7, .inl (G.2.1, 127, .inl (gf_Model_weights S1))), (b 8, .inl (G.2.1, 127, .inl (gf_Model_ownCost S1))), (b 9, .inl (G.2.1, 7, .inl (gf_Model_way S1))), (b 10, .inl (G.2.1, 7, .inl (gf_Model_own S1))), (b 11, .inl (G.2.1, 7, .inl (gf_Model_mixed S1))), (b 12, .inl (G.2.1, 128, .inl (gf_Model_guessAt S1))), (b 13, .inl (G.2.1, 127, .inl (gf_Model_treeCost S1))), (b 14, .inl (G.2.2.1, 127, .inl (gf_Model_isLeaf S1))), (b 15, .inl (G.2.1, 127, .inl (gf_Model_inTree S1))), (b 16, .inl (G.2.1, 256, .inl (gf_Model_out S1))), (b 17, .inl (G.2.1, 120, .inl (gf_Model_text S1))), (b 18, .inl (G.2.1, 128, .inl (gf_Model_read S1)))] : va_W) ++ (wd_TreeOdds G a S0))[i]?) = (wd_TreeOdds G a S0 ++ wd_Model G b S1 : va_W).map some := rfl
set_option maxHeartbeats 4000000 in
set_option maxRecDepth 100000 in
theorem lb_L_law_747 {l : Launch} {p : Program} {e : Env} {s : State} {m : MethodId} {below : List Frame} {meth : Method} {c : Code} {G : xG} {a b : Nat → Nat} {sb : Nat} (C0 : xC p s m meth c cL_law 4 ret RL #[Value.ref sb]) (KN : xKN G s) (hA : ∀ q : Nat, s.heap.size ≤ q → (fun q : Nat => s.heap.size ≤ q) q) (xs : Nat → Int32) (L : Nat) (hX : va_X sb L xs s s.heap) (hbl : sb < s.heap.size) (k18 : tt_TreeOdds → tt_Model → Int32 → Option Int32) (hk18 : ∀ (S0 : tt_TreeOdds) (S1 : tt_Model) (x3 : Int32), k18 S0 S1 x3 = some (1 : Int32) → ∀ (H : Heap) (locs : List Loc) (ls : Array Slot), xS G (fun q : Nat => s.heap.size ≤ q) s.heap (wd_TreeOdds G a S0 ++ wd_Model G b S1) H locs → lv_has ls 4 [(0, .ref sb), (1, .ref (a 0)), (2, .ref (b 0)), (3, .int x3)] → W p l e room_1 s m #[Value.ref sb] below meth c H locs 62 5243 (lw_Z below #[Value.ref sb] s) (F0 m 18 ls [])) : ∀ (S0 : tt_TreeOdds) (S1 : tt_Model) (x3 : Int32), fn_L_law_747 k18 xs L S0 S1 x3 = some (1 : Int32) → ∀ (H : Heap) (locs : List Loc) (ls : Array Slot), xS G (fun q : Nat => s.heap.size ≤ q) s.heap (wd_TreeOdds G a S0 ++ wd_Model G b S1) H locs → lv_has ls 4 [(0, .ref sb), (1, .ref (a 0)), (2, .ref (b 0)), (3, .int x3)] → W p l e room_1 s m #[Value.ref sb] below meth c H locs 62 5243 (lw_Z below #[Value.ref sb] s) (F0 m 747 ls []) := by
  have hx := C0.1
  have hb := C0.2.1
  intro S0 S1 x3 hf H locs ls X hl
  unfold fn_L_law_747 at hf
  obtain ⟨y_14, ey_14⟩ : ∃ y : Int32, y = x3 + (4 : Int32) := ⟨_, rfl⟩
  have hf := lt_sb hf ey_14
  refine lv_iinc (pc := 747) (v := y_14) (lv' := [(3, .int y_14), (0, .ref sb), (1, .ref (a 0)), (2, .ref (b 0))]) hx hb dL_law_747 hl (k := 3) rfl (by rw [ey_14]; rfl) (by decide) rfl (fun ls hl => ?_)
  refine lv_goto (pc := 750) (tgt := 18) hx hb dL_law_750 (by decide) ?_
  exact hk18 _ _ _ hf _ _ _ X (lv_sub hl [1, 2, 3, 0] rfl)
set_option maxHeartbeats 4000000 in
set_option maxRecDepth 100000 in
theorem lb_L_law_18 {l : Launch} {p : Program} {e : Env} {s : State} {m : MethodId} {below : List Frame} {meth : Method} {c : Code} {G : xG} {a b : Nat → Nat} {sb : Nat} (C0 : xC p s m meth c cL_law 4 ret RL #[Value.ref sb]) (KN : xKN G s) (hA : ∀ q : Nat, s.heap.size ≤ q → (fun q : Nat => s.heap.size ≤ q) q) (xs : Nat → Int32) (L : Nat) (hX : va_X sb L xs s s.heap) (hbl : sb < s.heap.size) : ∀ (n : Nat) (S0 : tt_TreeOdds) (S1 : tt_Model) (x3 : Int32), fl_L_law_18 xs L n S0 S1 x3 = some (1 : Int32) → ∀ (H : Heap) (locs : List Loc) (ls : Array Slot), xS G (fun q : Nat => s.heap.size ≤ q) s.heap (wd_TreeOdds G a S0 ++ wd_Model G b S1) H locs → lv_has ls 4 [(0, .ref sb), (1, .ref (a 0)), (2, .ref (b 0)), (3, .int x3)] → W p l e room_1 s m #[Value.ref sb] below meth c H locs 62 5243 (lw_Z below #[Value.ref sb] s) (F0 m 18 ls []) := by
  have hx := C0.1
  have hb := C0.2.1
  intro n
  induction n with
  | zero =>
    intro S0 S1 x3 hf
    have hf : none = some (1 : Int32) := hf
    cases hf
  | succ n ih =>
    intro S0 S1 x3 hf H locs ls X hl
    rw [fl_L_law_18] at hf
    refine lv_iload_n (pc := 18) hx hb dL_law_18 rfl (lv_at hl 3 rfl) ?_
    refine lv_aload_n (pc := 19) hx hb dL_law_19 rfl (lv_at hl 0 rfl) ?_
    refine x_slen (pc := 20) C0 hX hbl X (Nat.not_le.mpr hbl) dL_law_20 ?_
    refine lv_iconst (pc := 21) (v := 4) hx hb dL_law_21 (by decide) ?_
    refine lv_isub (pc := 22) hx hb dL_law_22 ?_
    refine lv_icmp_gt (pc := 23) (tgt := 753) hx hb dL_law_23 (by decide) (fun c_1 => ?_) (fun c_1 => ?_)
    · have hf := it_p hf c_1
      refine lv_iconst (pc := 753) (v := 1) hx hb dL_law_753 (by decide) ?_
      refine va_forget (fun q hq => X.2.2.2.2 q hq) ?_
      refine W.widen (k := 600000) (n := 7302250) (Nat.le_of_ble_eq_true rfl) (Nat.le_of_ble_eq_true rfl) ?_
      exact lw_ret hx hb C0.2.2.2.2.2.1 C0.2.2.2.2.2.2 dL_law_754
    · have hf := it_n hf c_1
      refine lv_aload_n (pc := 26) hx hb dL_law_26 rfl (lv_at hl 0 rfl) ?_
      refine lv_iload_n (pc := 27) hx hb dL_law_27 rfl (lv_at hl 3 rfl) ?_
      obtain ⟨g_2, hf⟩ := gd_e hf
      refine x_sld (pc := 28) C0 hX hbl X (Nat.not_le.mpr hbl) g_2 dL_law_28 ?_
      refine lv_bipush (pc := 29) (v := 31) hx hb dL_law_29 (by decide) ?_
      refine lv_iand (pc := 31) hx hb dL_law_31 ?_
      refine lv_topi (fun y_3 ey_3 => ?_)
      have hf := lt_sb hf ey_3
      by_cases c_4 : y_3 = 0
      · have hf := it_p hf c_4
        refine lv_tableIn (pc := 32) (tgt := 144) hx hb dL_law_32 (by rw [c_4]; decide) (by rw [c_4]; decide) (by rw [c_4]; rfl) (by decide) ?_
        refine lv_aload_n (pc := 144) hx hb dL_law_144 rfl (lv_at hl 1 rfl) ?_
        refine lv_aload_n (pc := 145) hx hb dL_law_145 rfl (lv_at hl 0 rfl) ?_
        refine lv_iload_n (pc := 146) hx hb dL_law_146 rfl (lv_at hl 3 rfl) ?_
        refine lv_iconst (pc := 147) (v := 1) hx hb dL_law_147 (by decide) ?_
        refine lv_iadd (pc := 148) hx hb dL_law_148 ?_
        obtain ⟨g_5, hf⟩ := gd_e hf
        refine x_sld (pc := 149) C0 hX hbl X (Nat.not_le.mpr hbl) g_5 dL_law_149 ?_
        obtain ⟨r_6, P_7, h_8, hf⟩ := b2_e hf
        refine x_cv (pc := 150) (ws' := wd_TreeOdds G a P_7 ++ wd_Model G b S1) (As := [.int (xs (x3 + (1 : Int32)).toNatClampNeg)]) (rest := []) (ci := 8) (qr := 0) C0 KN X hA [0, 1, 2, 3, 4, 5, 6, 7, 8, 9, 10, 11, 12, 13, 14, 15, 16, 17, 18, 19, 20, 21, 22, 23, 24, 25, 26, 27, 28, 29, 30, 31, 32, 33, 34, 35, 36, 37, 38, 39, 40, 41, 42] [43, 44, 45, 46, 47, 48, 49, 50, 51, 52, 53, 54, 55, 56, 57, 58, 59, 60, 61] [19, 20, 21, 22, 23, 24, 25, 26, 27, 28, 29, 30, 31, 32, 33, 34, 35, 36, 37, 38, 39, 40, 41, 42, 43, 44, 45, 46, 47, 48, 49, 50, 51, 52, 53, 54, 55, 56, 57, 58, 59, 60, 61, 0, 1, 2, 3, 4, 5, 6, 7, 8, 9, 10, 11, 12, 13, 14, 15, 16, 17, 18] cu_C51 rfl cu_R51 rfl (by decide) (cu_J51 (S0 := S0) (S1 := S1)) rfl (ct_X8_sign l G a S0 (xs (x3 + (1 : Int32)).toNatClampNeg) r_6 P_7 h_8) rfl rfl rfl kw_8_7 kw_8_4 kw_8_5 kw_8_6 kw_1_2 hd_X8_sign ⟨by decide, by decide⟩ hl.1 rfl (Nat.le_of_ble_eq_true rfl) ⟨Nat.le_of_ble_eq_true rfl, Nat.le_of_ble_eq_true rfl⟩ dL_law_150 (fun H locs X => ?_)
        refine W.eq (g2 := F0 m 153 ls [.int r_6]) rfl ?_
        refine lv_aload_n (pc := 153) hx hb dL_law_153 rfl (lv_at hl 2 rfl) ?_
        refine lv_aload_n (pc := 154) hx hb dL_law_154 rfl (lv_at hl 0 rfl) ?_
        refine lv_iload_n (pc := 155) hx hb dL_law_155 rfl (lv_at hl 3 rfl) ?_
        refine lv_iconst (pc := 156) (v := 1) hx hb dL_law_156 (by decide) ?_
        refine lv_iadd (pc := 157) hx hb dL_law_157 ?_
        obtain ⟨g_9, hf⟩ := gd_e hf
        refine x_sld (pc := 158) C0 hX hbl X (Nat.not_le.mpr hbl) g_9 dL_law_158 ?_
        obtain ⟨r_10, P_11, h_12, hf⟩ := b2_e hf
        refine x_cv (pc := 159) (ws' := wd_TreeOdds G a P_7 ++ wd_Model G b P_11) (As := [.int (xs (x3 + (1 : Int32)).toNatClampNeg)]) (rest := [.int r_6]) (ci := 9) (qr := 43) C0 KN X hA [43, 44, 45, 46, 47, 48, 49, 50, 51, 52, 53, 54, 55, 56, 57, 58, 59, 60, 61] [0, 1, 2, 3, 4, 5, 6, 7, 8, 9, 10, 11, 12, 13, 14, 15, 16, 17, 18, 19, 20, 21, 22, 23, 24, 25, 26, 27, 28, 29, 30, 31, 32, 33, 34, 35, 36, 37, 38, 39, 40, 41, 42] [0, 1, 2, 3, 4, 5, 6, 7, 8, 9, 10, 11, 12, 13, 14, 15, 16, 17, 18, 19, 20, 21, 22, 23, 24, 25, 26, 27, 28, 29, 30, 31, 32, 33, 34, 35, 36, 37, 38, 39, 40, 41, 42, 43, 44, 45, 46, 47, 48, 49, 50, 51, 52, 53, 54, 55, 56, 57, 58, 59, 60, 61] cu_C52 rfl cu_R52 rfl (by decide) (cu_J52 (S0 := P_7) (S1 := S1)) rfl (ct_X9_sign l G b S1 (xs (x3 + (1 : Int32)).toNatClampNeg) r_10 P_11 h_12) rfl rfl rfl kw_10_18 kw_10_15 kw_10_16 kw_10_17 kw_1_5 hd_X9_sign ⟨by decide, by decide⟩ hl.1 rfl (Nat.le_of_ble_eq_true rfl) ⟨Nat.le_of_ble_eq_true rfl, Nat.le_of_ble_eq_true rfl⟩ dL_law_159 (fun H locs X => ?_)
        refine W.eq (g2 := F0 m 162 ls [.int r_10, .int r_6]) rfl ?_
        refine lv_icmp_eq (pc := 162) (tgt := 747) hx hb dL_law_162 (by decide) (fun c_13 => ?_) (fun c_13 => ?_)
        · have hf := it_p hf c_13
          exact lb_L_law_747 C0 KN hA xs L hX hbl (fl_L_law_18 xs L n) ih _ _ _ hf _ _ _ X (lv_sub hl [0, 1, 2, 3] rfl)
        · have hf := it_n hf c_13
          refine lv_iconst (pc := 165) (v := 0) hx hb dL_law_165 (by decide) ?_
          exact absurd (so_1 hf) (by decide)
      · have hf := it_n hf c_4
        by_cases c_15 : y_3 = 1
        · have hf := it_p hf c_15
          refine lv_tableIn (pc := 32) (tgt := 167) hx hb dL_law_32 (by rw [c_15]; decide) (by rw [c_15]; decide) (by rw [c_15]; rfl) (by decide) ?_
          refine lv_aload_n (pc := 167) hx hb dL_law_167 rfl (lv_at hl 1 rfl) ?_
          refine lv_aload_n (pc := 168) hx hb dL_law_168 rfl (lv_at hl 0 rfl) ?_
          refine lv_iload_n (pc := 169) hx hb dL_law_169 rfl (lv_at hl 3 rfl) ?_
          refine lv_iconst (pc := 170) (v := 1) hx hb dL_law_170 (by decide) ?_
          refine lv_iadd (pc := 171) hx hb dL_law_171 ?_
          obtain ⟨g_16, hf⟩ := gd_e hf
          refine x_sld (pc := 172) C0 hX hbl X (Nat.not_le.mpr hbl) g_16 dL_law_172 ?_
          refine lv_i2l (pc := 173) (v := (xs (x3 + (1 : Int32)).toNatClampNeg).toInt64) hx hb dL_law_173 rfl ?_
          refine lv_bipush (pc := 174) (v := 32) hx hb dL_law_174 (by decide) ?_
          refine lv_lshl (pc := 176) (v := ((xs (x3 + (1 : Int32)).toNatClampNeg).toInt64) <<< ((32 : Int32).toInt64 &&& 63)) hx hb dL_law_176 rfl ?_
          refine lv_aload_n (pc := 177) hx hb dL_law_177 rfl (lv_at hl 0 rfl) ?_
          refine lv_iload_n (pc := 178) hx hb dL_law_178 rfl (lv_at hl 3 rfl) ?_
          refine lv_iconst (pc := 179) (v := 2) hx hb dL_law_179 (by decide) ?_
          refine lv_iadd (pc := 180) hx hb dL_law_180 ?_
          obtain ⟨g_17, hf⟩ := gd_e hf
          refine x_sld (pc := 181) C0 hX hbl X (Nat.not_le.mpr hbl) g_17 dL_law_181 ?_
          refine lv_i2l (pc := 182) (v := (xs (x3 + (2 : Int32)).toNatClampNeg).toInt64) hx hb dL_law_182 rfl ?_
          refine x_ldc2 (pc := 183) C0 kw_1_6 dL_law_183 ?_
          refine lv_land (pc := 186) hx hb dL_law_186 ?_
          refine lv_lor (pc := 187) hx hb dL_law_187 ?_
          refine lv_aload_n (pc := 188) hx hb dL_law_188 rfl (lv_at hl 0 rfl) ?_
          refine lv_iload_n (pc := 189) hx hb dL_law_189 rfl (lv_at hl 3 rfl) ?_
          refine lv_iconst (pc := 190) (v := 3) hx hb dL_law_190 (by decide) ?_
          refine lv_iadd (pc := 191) hx hb dL_law_191 ?_
          obtain ⟨g_18, hf⟩ := gd_e hf
          refine x_sld (pc := 192) C0 hX hbl X (Nat.not_le.mpr hbl) g_18 dL_law_192 ?_
          obtain ⟨r_19, P_20, h_21, hf⟩ := b2_e hf
          refine x_cv (pc := 193) (ws' := wd_TreeOdds G a P_20 ++ wd_Model G b S1) (As := [.long ((((xs (x3 + (1 : Int32)).toNatClampNeg).toInt64) <<< ((32 : Int32).toInt64 &&& 63)) ||| (((xs (x3 + (2 : Int32)).toNatClampNeg).toInt64) &&& (4294967295 : Int64))), .int (xs (x3 + (3 : Int32)).toNatClampNeg)]) (rest := []) (ci := 8) (qr := 0) C0 KN X hA [0, 1, 2, 3, 4, 5, 6, 7, 8, 9, 10, 11, 12, 13, 14, 15, 16, 17, 18, 19, 20, 21, 22, 23, 24, 25, 26, 27, 28, 29, 30, 31, 32, 33, 34, 35, 36, 37, 38, 39, 40, 41, 42] [43, 44, 45, 46, 47, 48, 49, 50, 51, 52, 53, 54, 55, 56, 57, 58, 59, 60, 61] [19, 20, 21, 22, 23, 24, 25, 26, 27, 28, 29, 30, 31, 32, 33, 34, 35, 36, 37, 38, 39, 40, 41, 42, 43, 44, 45, 46, 47, 48, 49, 50, 51, 52, 53, 54, 55, 56, 57, 58, 59, 60, 61, 0, 1, 2, 3, 4, 5, 6, 7, 8, 9, 10, 11, 12, 13, 14, 15, 16, 17, 18] cu_C51 rfl cu_R51 rfl (by decide) (cu_J51 (S0 := S0) (S1 := S1)) rfl (ct_X8_signs l G a S0 ((((xs (x3 + (1 : Int32)).toNatClampNeg).toInt64) <<< ((32 : Int32).toInt64 &&& 63)) ||| (((xs (x3 + (2 : Int32)).toNatClampNeg).toInt64) &&& (4294967295 : Int64))) (xs (x3 + (3 : Int32)).toNatClampNeg) r_19 P_20 h_21) rfl rfl rfl kw_14_13 kw_14_10 kw_14_11 kw_14_12 kw_1_2 hd_X8_signs ⟨by decide, by decide⟩ hl.1 rfl (Nat.le_of_ble_eq_true rfl) ⟨Nat.le_of_ble_eq_true rfl, Nat.le_of_ble_eq_true rfl⟩ dL_law_193 (fun H locs X => ?_)
          refine W.eq (g2 := F0 m 196 ls [.int r_19]) rfl ?_
          refine lv_aload_n (pc := 196) hx hb dL_law_196 rfl (lv_at hl 2 rfl) ?_
          refine lv_aload_n (pc := 197) hx hb dL_law_197 rfl (lv_at hl 0 rfl) ?_
          refine lv_iload_n (pc := 198) hx hb dL_law_198 rfl (lv_at hl 3 rfl) ?_
          refine lv_iconst (pc := 199) (v := 1) hx hb dL_law_199 (by decide) ?_
          refine lv_iadd (pc := 200) hx hb dL_law_200 ?_
          obtain ⟨g_22, hf⟩ := gd_e hf
          refine x_sld (pc := 201) C0 hX hbl X (Nat.not_le.mpr hbl) g_22 dL_law_201 ?_
          refine lv_i2l (pc := 202) (v := (xs (x3 + (1 : Int32)).toNatClampNeg).toInt64) hx hb dL_law_202 rfl ?_
          refine lv_bipush (pc := 203) (v := 32) hx hb dL_law_203 (by decide) ?_
          refine lv_lshl (pc := 205) (v := ((xs (x3 + (1 : Int32)).toNatClampNeg).toInt64) <<< ((32 : Int32).toInt64 &&& 63)) hx hb dL_law_205 rfl ?_
          refine lv_aload_n (pc := 206) hx hb dL_law_206 rfl (lv_at hl 0 rfl) ?_
          refine lv_iload_n (pc := 207) hx hb dL_law_207 rfl (lv_at hl 3 rfl) ?_
          refine lv_iconst (pc := 208) (v := 2) hx hb dL_law_208 (by decide) ?_
          refine lv_iadd (pc := 209) hx hb dL_law_209 ?_
          obtain ⟨g_23, hf⟩ := gd_e hf
          refine x_sld (pc := 210) C0 hX hbl X (Nat.not_le.mpr hbl) g_23 dL_law_210 ?_
          refine lv_i2l (pc := 211) (v := (xs (x3 + (2 : Int32)).toNatClampNeg).toInt64) hx hb dL_law_211 rfl ?_
          refine x_ldc2 (pc := 212) C0 kw_1_6 dL_law_212 ?_
          refine lv_land (pc := 215) hx hb dL_law_215 ?_
          refine lv_lor (pc := 216) hx hb dL_law_216 ?_
          refine lv_aload_n (pc := 217) hx hb dL_law_217 rfl (lv_at hl 0 rfl) ?_
          refine lv_iload_n (pc := 218) hx hb dL_law_218 rfl (lv_at hl 3 rfl) ?_
          refine lv_iconst (pc := 219) (v := 3) hx hb dL_law_219 (by decide) ?_
          refine lv_iadd (pc := 220) hx hb dL_law_220 ?_
          obtain ⟨g_24, hf⟩ := gd_e hf
          refine x_sld (pc := 221) C0 hX hbl X (Nat.not_le.mpr hbl) g_24 dL_law_221 ?_
          obtain ⟨r_25, P_26, h_27, hf⟩ := b2_e hf
          refine x_cv (pc := 222) (ws' := wd_TreeOdds G a P_20 ++ wd_Model G b P_26) (As := [.long ((((xs (x3 + (1 : Int32)).toNatClampNeg).toInt64) <<< ((32 : Int32).toInt64 &&& 63)) ||| (((xs (x3 + (2 : Int32)).toNatClampNeg).toInt64) &&& (4294967295 : Int64))), .int (xs (x3 + (3 : Int32)).toNatClampNeg)]) (rest := [.int r_19]) (ci := 9) (qr := 43) C0 KN X hA [43, 44, 45, 46, 47, 48, 49, 50, 51, 52, 53, 54, 55, 56, 57, 58, 59, 60, 61] [0, 1, 2, 3, 4, 5, 6, 7, 8, 9, 10, 11, 12, 13, 14, 15, 16, 17, 18, 19, 20, 21, 22, 23, 24, 25, 26, 27, 28, 29, 30, 31, 32, 33, 34, 35, 36, 37, 38, 39, 40, 41, 42] [0, 1, 2, 3, 4, 5, 6, 7, 8, 9, 10, 11, 12, 13, 14, 15, 16, 17, 18, 19, 20, 21, 22, 23, 24, 25, 26, 27, 28, 29, 30, 31, 32, 33, 34, 35, 36, 37, 38, 39, 40, 41, 42, 43, 44, 45, 46, 47, 48, 49, 50, 51, 52, 53, 54, 55, 56, 57, 58, 59, 60, 61] cu_C52 rfl cu_R52 rfl (by decide) (cu_J52 (S0 := P_20) (S1 := S1)) rfl (ct_X9_signs l G b S1 ((((xs (x3 + (1 : Int32)).toNatClampNeg).toInt64) <<< ((32 : Int32).toInt64 &&& 63)) ||| (((xs (x3 + (2 : Int32)).toNatClampNeg).toInt64) &&& (4294967295 : Int64))) (xs (x3 + (3 : Int32)).toNatClampNeg) r_25 P_26 h_27) rfl rfl rfl kw_14_17 kw_14_14 kw_14_15 kw_14_16 kw_1_5 hd_X9_signs ⟨by decide, by decide⟩ hl.1 rfl (Nat.le_of_ble_eq_true rfl) ⟨Nat.le_of_ble_eq_true rfl, Nat.le_of_ble_eq_true rfl⟩ dL_law_222 (fun H locs X => ?_)
          refine W.eq (g2 := F0 m 225 ls [.int r_25, .int r_19]) rfl ?_
          refine lv_icmp_eq (pc := 225) (tgt := 747) hx hb dL_law_225 (by decide) (fun c_28 => ?_) (fun c_28 => ?_)
          · have hf := it_p hf c_28
            exact lb_L_law_747 C0 KN hA xs L hX hbl (fl_L_law_18 xs L n) ih _ _ _ hf _ _ _ X (lv_sub hl [0, 1, 2, 3] rfl)
          · have hf := it_n hf c_28
            refine lv_iconst (pc := 228) (v := 0) hx hb dL_law_228 (by decide) ?_
            exact absurd (so_1 hf) (by decide)
        · have hf := it_n hf c_15
          by_cases c_29 : y_3 = 2
          · have hf := it_p hf c_29
            refine lv_tableIn (pc := 32) (tgt := 230) hx hb dL_law_32 (by rw [c_29]; decide) (by rw [c_29]; decide) (by rw [c_29]; rfl) (by decide) ?_
            refine lv_aload_n (pc := 230) hx hb dL_law_230 rfl (lv_at hl 1 rfl) ?_
            refine lv_aload_n (pc := 231) hx hb dL_law_231 rfl (lv_at hl 0 rfl) ?_
            refine lv_iload_n (pc := 232) hx hb dL_law_232 rfl (lv_at hl 3 rfl) ?_
            refine lv_iconst (pc := 233) (v := 1) hx hb dL_law_233 (by decide) ?_
            refine lv_iadd (pc := 234) hx hb dL_law_234 ?_
            obtain ⟨g_30, hf⟩ := gd_e hf
            refine x_sld (pc := 235) C0 hX hbl X (Nat.not_le.mpr hbl) g_30 dL_law_235 ?_
            refine lv_aload_n (pc := 236) hx hb dL_law_236 rfl (lv_at hl 0 rfl) ?_
            refine lv_iload_n (pc := 237) hx hb dL_law_237 rfl (lv_at hl 3 rfl) ?_
            refine lv_iconst (pc := 238) (v := 2) hx hb dL_law_238 (by decide) ?_
            refine lv_iadd (pc := 239) hx hb dL_law_239 ?_
            obtain ⟨g_31, hf⟩ := gd_e hf
            refine x_sld (pc := 240) C0 hX hbl X (Nat.not_le.mpr hbl) g_31 dL_law_240 ?_
            refine lv_aload_n (pc := 241) hx hb dL_law_241 rfl (lv_at hl 0 rfl) ?_
            refine lv_iload_n (pc := 242) hx hb dL_law_242 rfl (lv_at hl 3 rfl) ?_
            refine lv_iconst (pc := 243) (v := 3) hx hb dL_law_243 (by decide) ?_
            refine lv_iadd (pc := 244) hx hb dL_law_244 ?_
            obtain ⟨g_32, hf⟩ := gd_e hf
            refine x_sld (pc := 245) C0 hX hbl X (Nat.not_le.mpr hbl) g_32 dL_law_245 ?_
            obtain ⟨r_33, P_34, h_35, hf⟩ := b2_e hf
            refine x_cv (pc := 246) (ws' := wd_TreeOdds G a P_34 ++ wd_Model G b S1) (As := [.int (xs (x3 + (1 : Int32)).toNatClampNeg), .int (xs (x3 + (2 : Int32)).toNatClampNeg), .int (xs (x3 + (3 : Int32)).toNatClampNeg)]) (rest := []) (ci := 8) (qr := 0) C0 KN X hA [0, 1, 2, 3, 4, 5, 6, 7, 8, 9, 10, 11, 12, 13, 14, 15, 16, 17, 18, 19, 20, 21, 22, 23, 24, 25, 26, 27, 28, 29, 30, 31, 32, 33, 34, 35, 36, 37, 38, 39, 40, 41, 42] [43, 44, 45, 46, 47, 48, 49, 50, 51, 52, 53, 54, 55, 56, 57, 58, 59, 60, 61] [19, 20, 21, 22, 23, 24, 25, 26, 27, 28, 29, 30, 31, 32, 33, 34, 35, 36, 37, 38, 39, 40, 41, 42, 43, 44, 45, 46, 47, 48, 49, 50, 51, 52, 53, 54, 55, 56, 57, 58, 59, 60, 61, 0, 1, 2, 3, 4, 5, 6, 7, 8, 9, 10, 11, 12, 13, 14, 15, 16, 17, 18] cu_C51 rfl cu_R51 rfl (by decide) (cu_J51 (S0 := S0) (S1 := S1)) rfl (ct_X8_draw l G a S0 (xs (x3 + (1 : Int32)).toNatClampNeg) (xs (x3 + (2 : Int32)).toNatClampNeg) (xs (x3 + (3 : Int32)).toNatClampNeg) r_33 P_34 h_35) rfl rfl rfl kw_14_21 kw_14_18 kw_14_19 kw_14_20 kw_1_2 hd_X8_draw ⟨by decide, by decide⟩ hl.1 rfl (Nat.le_of_ble_eq_true rfl) ⟨Nat.le_of_ble_eq_true rfl, Nat.le_of_ble_eq_true rfl⟩ dL_law_246 (fun H locs X => ?_)
            refine W.eq (g2 := F0 m 249 ls [.int r_33]) rfl ?_
            refine lv_aload_n (pc := 249) hx hb dL_law_249 rfl (lv_at hl 2 rfl) ?_
            refine lv_aload_n (pc := 250) hx hb dL_law_250 rfl (lv_at hl 0 rfl) ?_
            refine lv_iload_n (pc := 251) hx hb dL_law_251 rfl (lv_at hl 3 rfl) ?_
            refine lv_iconst (pc := 252) (v := 1) hx hb dL_law_252 (by decide) ?_
            refine lv_iadd (pc := 253) hx hb dL_law_253 ?_
            obtain ⟨g_36, hf⟩ := gd_e hf
            refine x_sld (pc := 254) C0 hX hbl X (Nat.not_le.mpr hbl) g_36 dL_law_254 ?_
            refine lv_aload_n (pc := 255) hx hb dL_law_255 rfl (lv_at hl 0 rfl) ?_
            refine lv_iload_n (pc := 256) hx hb dL_law_256 rfl (lv_at hl 3 rfl) ?_
            refine lv_iconst (pc := 257) (v := 2) hx hb dL_law_257 (by decide) ?_
            refine lv_iadd (pc := 258) hx hb dL_law_258 ?_
            obtain ⟨g_37, hf⟩ := gd_e hf
            refine x_sld (pc := 259) C0 hX hbl X (Nat.not_le.mpr hbl) g_37 dL_law_259 ?_
            refine lv_aload_n (pc := 260) hx hb dL_law_260 rfl (lv_at hl 0 rfl) ?_
            refine lv_iload_n (pc := 261) hx hb dL_law_261 rfl (lv_at hl 3 rfl) ?_
            refine lv_iconst (pc := 262) (v := 3) hx hb dL_law_262 (by decide) ?_
            refine lv_iadd (pc := 263) hx hb dL_law_263 ?_
            obtain ⟨g_38, hf⟩ := gd_e hf
            refine x_sld (pc := 264) C0 hX hbl X (Nat.not_le.mpr hbl) g_38 dL_law_264 ?_
            obtain ⟨r_39, P_40, h_41, hf⟩ := b2_e hf
            refine x_cv (pc := 265) (ws' := wd_TreeOdds G a P_34 ++ wd_Model G b P_40) (As := [.int (xs (x3 + (1 : Int32)).toNatClampNeg), .int (xs (x3 + (2 : Int32)).toNatClampNeg), .int (xs (x3 + (3 : Int32)).toNatClampNeg)]) (rest := [.int r_33]) (ci := 9) (qr := 43) C0 KN X hA [43, 44, 45, 46, 47, 48, 49, 50, 51, 52, 53, 54, 55, 56, 57, 58, 59, 60, 61] [0, 1, 2, 3, 4, 5, 6, 7, 8, 9, 10, 11, 12, 13, 14, 15, 16, 17, 18, 19, 20, 21, 22, 23, 24, 25, 26, 27, 28, 29, 30, 31, 32, 33, 34, 35, 36, 37, 38, 39, 40, 41, 42] [0, 1, 2, 3, 4, 5, 6, 7, 8, 9, 10, 11, 12, 13, 14, 15, 16, 17, 18, 19, 20, 21, 22, 23, 24, 25, 26, 27, 28, 29, 30, 31, 32, 33, 34, 35, 36, 37, 38, 39, 40, 41, 42, 43, 44, 45, 46, 47, 48, 49, 50, 51, 52, 53, 54, 55, 56, 57, 58, 59, 60, 61] cu_C52 rfl cu_R52 rfl (by decide) (cu_J52 (S0 := P_34) (S1 := S1)) rfl (ct_X9_draw l G b S1 (xs (x3 + (1 : Int32)).toNatClampNeg) (xs (x3 + (2 : Int32)).toNatClampNeg) (xs (x3 + (3 : Int32)).toNatClampNeg) r_39 P_40 h_41) rfl rfl rfl kw_15_6 kw_15_3 kw_15_4 kw_15_5 kw_1_5 hd_X9_draw ⟨by decide, by decide⟩ hl.1 rfl (Nat.le_of_ble_eq_true rfl) ⟨Nat.le_of_ble_eq_true rfl, Nat.le_of_ble_eq_true rfl⟩ dL_law_265 (fun H locs X => ?_)
            refine W.eq (g2 := F0 m 268 ls [.int r_39, .int r_33]) rfl ?_
            refine lv_icmp_eq (pc := 268) (tgt := 747) hx hb dL_law_268 (by decide) (fun c_42 => ?_) (fun c_42 => ?_)
            · have hf := it_p hf c_42
              exact lb_L_law_747 C0 KN hA xs L hX hbl (fl_L_law_18 xs L n) ih _ _ _ hf _ _ _ X (lv_sub hl [0, 1, 2, 3] rfl)
            · have hf := it_n hf c_42
              refine lv_iconst (pc := 271) (v := 0) hx hb dL_law_271 (by decide) ?_
              exact absurd (so_1 hf) (by decide)
          · have hf := it_n hf c_29
            by_cases c_43 : y_3 = 3
            · have hf := it_p hf c_43
              refine lv_tableIn (pc := 32) (tgt := 273) hx hb dL_law_32 (by rw [c_43]; decide) (by rw [c_43]; decide) (by rw [c_43]; rfl) (by decide) ?_
              refine lv_aload_n (pc := 273) hx hb dL_law_273 rfl (lv_at hl 1 rfl) ?_
              refine lv_aload_n (pc := 274) hx hb dL_law_274 rfl (lv_at hl 0 rfl) ?_
              refine lv_iload_n (pc := 275) hx hb dL_law_275 rfl (lv_at hl 3 rfl) ?_
              refine lv_iconst (pc := 276) (v := 1) hx hb dL_law_276 (by decide) ?_
              refine lv_iadd (pc := 277) hx hb dL_law_277 ?_
              obtain ⟨g_44, hf⟩ := gd_e hf
              refine x_sld (pc := 278) C0 hX hbl X (Nat.not_le.mpr hbl) g_44 dL_law_278 ?_
              refine lv_aload_n (pc := 279) hx hb dL_law_279 rfl (lv_at hl 0 rfl) ?_
              refine lv_iload_n (pc := 280) hx hb dL_law_280 rfl (lv_at hl 3 rfl) ?_
              refine lv_iconst (pc := 281) (v := 2) hx hb dL_law_281 (by decide) ?_
              refine lv_iadd (pc := 282) hx hb dL_law_282 ?_
              obtain ⟨g_45, hf⟩ := gd_e hf
              refine x_sld (pc := 283) C0 hX hbl X (Nat.not_le.mpr hbl) g_45 dL_law_283 ?_
              obtain ⟨r_46, P_47, h_48, hf⟩ := b2_e hf
              refine x_cv (pc := 284) (ws' := wd_TreeOdds G a P_47 ++ wd_Model G b S1) (As := [.int (xs (x3 + (1 : Int32)).toNatClampNeg), .int (xs (x3 + (2 : Int32)).toNatClampNeg)]) (rest := []) (ci := 8) (qr := 0) C0 KN X hA [0, 1, 2, 3, 4, 5, 6, 7, 8, 9, 10, 11, 12, 13, 14, 15, 16, 17, 18, 19, 20, 21, 22, 23, 24, 25, 26, 27, 28, 29, 30, 31, 32, 33, 34, 35, 36, 37, 38, 39, 40, 41, 42] [43, 44, 45, 46, 47, 48, 49, 50, 51, 52, 53, 54, 55, 56, 57, 58, 59, 60, 61] [19, 20, 21, 22, 23, 24, 25, 26, 27, 28, 29, 30, 31, 32, 33, 34, 35, 36, 37, 38, 39, 40, 41, 42, 43, 44, 45, 46, 47, 48, 49, 50, 51, 52, 53, 54, 55, 56, 57, 58, 59, 60, 61, 0, 1, 2, 3, 4, 5, 6, 7, 8, 9, 10, 11, 12, 13, 14, 15, 16, 17, 18] cu_C51 rfl cu_R51 rfl (by decide) (cu_J51 (S0 := S0) (S1 := S1)) rfl (ct_X8_sets l G a S0 (xs (x3 + (1 : Int32)).toNatClampNeg) (xs (x3 + (2 : Int32)).toNatClampNeg) r_46 P_47 h_48) rfl rfl rfl kw_15_15 kw_15_12 kw_15_13 kw_15_14 kw_1_2 hd_X8_sets ⟨by decide, by decide⟩ hl.1 rfl (Nat.le_of_ble_eq_true rfl) ⟨Nat.le_of_ble_eq_true rfl, Nat.le_of_ble_eq_true rfl⟩ dL_law_284 (fun H locs X => ?_)
              refine W.eq (g2 := F0 m 287 ls [.int r_46]) rfl ?_
              refine lv_aload_n (pc := 287) hx hb dL_law_287 rfl (lv_at hl 2 rfl) ?_
              refine lv_aload_n (pc := 288) hx hb dL_law_288 rfl (lv_at hl 0 rfl) ?_
              refine lv_iload_n (pc := 289) hx hb dL_law_289 rfl (lv_at hl 3 rfl) ?_
              refine lv_iconst (pc := 290) (v := 1) hx hb dL_law_290 (by decide) ?_
              refine lv_iadd (pc := 291) hx hb dL_law_291 ?_
              obtain ⟨g_49, hf⟩ := gd_e hf
              refine x_sld (pc := 292) C0 hX hbl X (Nat.not_le.mpr hbl) g_49 dL_law_292 ?_
              refine lv_aload_n (pc := 293) hx hb dL_law_293 rfl (lv_at hl 0 rfl) ?_
              refine lv_iload_n (pc := 294) hx hb dL_law_294 rfl (lv_at hl 3 rfl) ?_
              refine lv_iconst (pc := 295) (v := 2) hx hb dL_law_295 (by decide) ?_
              refine lv_iadd (pc := 296) hx hb dL_law_296 ?_
              obtain ⟨g_50, hf⟩ := gd_e hf
              refine x_sld (pc := 297) C0 hX hbl X (Nat.not_le.mpr hbl) g_50 dL_law_297 ?_
              obtain ⟨r_51, P_52, h_53, hf⟩ := b2_e hf
              refine x_cv (pc := 298) (ws' := wd_TreeOdds G a P_47 ++ wd_Model G b P_52) (As := [.int (xs (x3 + (1 : Int32)).toNatClampNeg), .int (xs (x3 + (2 : Int32)).toNatClampNeg)]) (rest := [.int r_46]) (ci := 9) (qr := 43) C0 KN X hA [43, 44, 45, 46, 47, 48, 49, 50, 51, 52, 53, 54, 55, 56, 57, 58, 59, 60, 61] [0, 1, 2, 3, 4, 5, 6, 7, 8, 9, 10, 11, 12, 13, 14, 15, 16, 17, 18, 19, 20, 21, 22, 23, 24, 25, 26, 27, 28, 29, 30, 31, 32, 33, 34, 35, 36, 37, 38, 39, 40, 41, 42] [0, 1, 2, 3, 4, 5, 6, 7, 8, 9, 10, 11, 12, 13, 14, 15, 16, 17, 18, 19, 20, 21, 22, 23, 24, 25, 26, 27, 28, 29, 30, 31, 32, 33, 34, 35, 36, 37, 38, 39, 40, 41, 42, 43, 44, 45, 46, 47, 48, 49, 50, 51, 52, 53, 54, 55, 56, 57, 58, 59, 60, 61] cu_C52 rfl cu_R52 rfl (by decide) (cu_J52 (S0 := P_47) (S1 := S1)) rfl (ct_X9_sets l G b S1 (xs (x3 + (1 : Int32)).toNatClampNeg) (xs (x3 + (2 : Int32)).toNatClampNeg) r_51 P_52 h_53) rfl rfl rfl kw_16_4 kw_16_1 kw_16_2 kw_16_3 kw_1_5 hd_X9_sets ⟨by decide, by decide⟩ hl.1 rfl (Nat.le_of_ble_eq_true rfl) ⟨Nat.le_of_ble_eq_true rfl, Nat.le_of_ble_eq_true rfl⟩ dL_law_298 (fun H locs X => ?_)
              refine W.eq (g2 := F0 m 301 ls [.int r_51, .int r_46]) rfl ?_
              refine lv_icmp_eq (pc := 301) (tgt := 747) hx hb dL_law_301 (by decide) (fun c_54 => ?_) (fun c_54 => ?_)
              · have hf := it_p hf c_54
                exact lb_L_law_747 C0 KN hA xs L hX hbl (fl_L_law_18 xs L n) ih _ _ _ hf _ _ _ X (lv_sub hl [0, 1, 2, 3] rfl)
              · have hf := it_n hf c_54
                refine lv_iconst (pc := 304) (v := 0) hx hb dL_law_304 (by decide) ?_
                exact absurd (so_1 hf) (by decide)
            · have hf := it_n hf c_43
              by_cases c_55 : y_3 = 4
              · have hf := it_p hf c_55
                refine lv_tableIn (pc := 32) (tgt := 306) hx hb dL_law_32 (by rw [c_55]; decide) (by rw [c_55]; decide) (by rw [c_55]; rfl) (by decide) ?_
                refine lv_aload_n (pc := 306) hx hb dL_law_306 rfl (lv_at hl 1 rfl) ?_
                obtain ⟨r_56, P_57, h_58, hf⟩ := b2_e hf
                refine x_cv (pc := 307) (ws' := wd_TreeOdds G a P_57 ++ wd_Model G b S1) (As := []) (rest := []) (ci := 8) (qr := 0) C0 KN X hA [0, 1, 2, 3, 4, 5, 6, 7, 8, 9, 10, 11, 12, 13, 14, 15, 16, 17, 18, 19, 20, 21, 22, 23, 24, 25, 26, 27, 28, 29, 30, 31, 32, 33, 34, 35, 36, 37, 38, 39, 40, 41, 42] [43, 44, 45, 46, 47, 48, 49, 50, 51, 52, 53, 54, 55, 56, 57, 58, 59, 60, 61] [19, 20, 21, 22, 23, 24, 25, 26, 27, 28, 29, 30, 31, 32, 33, 34, 35, 36, 37, 38, 39, 40, 41, 42, 43, 44, 45, 46, 47, 48, 49, 50, 51, 52, 53, 54, 55, 56, 57, 58, 59, 60, 61, 0, 1, 2, 3, 4, 5, 6, 7, 8, 9, 10, 11, 12, 13, 14, 15, 16, 17, 18] cu_C51 rfl cu_R51 rfl (by decide) (cu_J51 (S0 := S0) (S1 := S1)) rfl (ct_X8_empties l G a S0 r_56 P_57 h_58) rfl rfl rfl kw_16_10 kw_16_7 kw_16_8 kw_16_9 kw_1_2 hd_X8_empties ⟨by decide, by decide⟩ hl.1 rfl (Nat.le_of_ble_eq_true rfl) ⟨Nat.le_of_ble_eq_true rfl, Nat.le_of_ble_eq_true rfl⟩ dL_law_307 (fun H locs X => ?_)
                refine W.eq (g2 := F0 m 310 ls [.int r_56]) rfl ?_
                refine lv_aload_n (pc := 310) hx hb dL_law_310 rfl (lv_at hl 2 rfl) ?_
                obtain ⟨r_59, P_60, h_61, hf⟩ := b2_e hf
                refine x_cv (pc := 311) (ws' := wd_TreeOdds G a P_57 ++ wd_Model G b P_60) (As := []) (rest := [.int r_56]) (ci := 9) (qr := 43) C0 KN X hA [43, 44, 45, 46, 47, 48, 49, 50, 51, 52, 53, 54, 55, 56, 57, 58, 59, 60, 61] [0, 1, 2, 3, 4, 5, 6, 7, 8, 9, 10, 11, 12, 13, 14, 15, 16, 17, 18, 19, 20, 21, 22, 23, 24, 25, 26, 27, 28, 29, 30, 31, 32, 33, 34, 35, 36, 37, 38, 39, 40, 41, 42] [0, 1, 2, 3, 4, 5, 6, 7, 8, 9, 10, 11, 12, 13, 14, 15, 16, 17, 18, 19, 20, 21, 22, 23, 24, 25, 26, 27, 28, 29, 30, 31, 32, 33, 34, 35, 36, 37, 38, 39, 40, 41, 42, 43, 44, 45, 46, 47, 48, 49, 50, 51, 52, 53, 54, 55, 56, 57, 58, 59, 60, 61] cu_C52 rfl cu_R52 rfl (by decide) (cu_J52 (S0 := P_57) (S1 := S1)) rfl (ct_X9_empties l G b S1 r_59 P_60 h_61) rfl rfl rfl kw_16_14 kw_16_11 kw_16_12 kw_16_13 kw_1_5 hd_X9_empties ⟨by decide, by decide⟩ hl.1 rfl (Nat.le_of_ble_eq_true rfl) ⟨Nat.le_of_ble_eq_true rfl, Nat.le_of_ble_eq_true rfl⟩ dL_law_311 (fun H locs X => ?_)
                refine W.eq (g2 := F0 m 314 ls [.int r_59, .int r_56]) rfl ?_
                refine lv_icmp_eq (pc := 314) (tgt := 747) hx hb dL_law_314 (by decide) (fun c_62 => ?_) (fun c_62 => ?_)
                · have hf := it_p hf c_62
                  exact lb_L_law_747 C0 KN hA xs L hX hbl (fl_L_law_18 xs L n) ih _ _ _ hf _ _ _ X (lv_sub hl [0, 1, 2, 3] rfl)
                · have hf := it_n hf c_62
                  refine lv_iconst (pc := 317) (v := 0) hx hb dL_law_317 (by decide) ?_
                  exact absurd (so_1 hf) (by decide)
              · have hf := it_n hf c_55
                by_cases c_63 : y_3 = 5
                · have hf := it_p hf c_63
                  refine lv_tableIn (pc := 32) (tgt := 319) hx hb dL_law_32 (by rw [c_63]; decide) (by rw [c_63]; decide) (by rw [c_63]; rfl) (by decide) ?_
                  refine lv_aload_n (pc := 319) hx hb dL_law_319 rfl (lv_at hl 1 rfl) ?_
                  obtain ⟨r_64, P_65, h_66, hf⟩ := b2_e hf
                  refine x_cv (pc := 320) (ws' := wd_TreeOdds G a P_65 ++ wd_Model G b S1) (As := []) (rest := []) (ci := 8) (qr := 0) C0 KN X hA [0, 1, 2, 3, 4, 5, 6, 7, 8, 9, 10, 11, 12, 13, 14, 15, 16, 17, 18, 19, 20, 21, 22, 23, 24, 25, 26, 27, 28, 29, 30, 31, 32, 33, 34, 35, 36, 37, 38, 39, 40, 41, 42] [43, 44, 45, 46, 47, 48, 49, 50, 51, 52, 53, 54, 55, 56, 57, 58, 59, 60, 61] [19, 20, 21, 22, 23, 24, 25, 26, 27, 28, 29, 30, 31, 32, 33, 34, 35, 36, 37, 38, 39, 40, 41, 42, 43, 44, 45, 46, 47, 48, 49, 50, 51, 52, 53, 54, 55, 56, 57, 58, 59, 60, 61, 0, 1, 2, 3, 4, 5, 6, 7, 8, 9, 10, 11, 12, 13, 14, 15, 16, 17, 18] cu_C51 rfl cu_R51 rfl (by decide) (cu_J51 (S0 := S0) (S1 := S1)) rfl (ct_X8_drop l G a S0 r_64 P_65 h_66) rfl rfl rfl kw_16_18 kw_16_15 kw_16_16 kw_16_17 kw_1_2 hd_X8_drop ⟨by decide, by decide⟩ hl.1 rfl (Nat.le_of_ble_eq_true rfl) ⟨Nat.le_of_ble_eq_true rfl, Nat.le_of_ble_eq_true rfl⟩ dL_law_320 (fun H locs X => ?_)
                  refine W.eq (g2 := F0 m 323 ls [.int r_64]) rfl ?_
                  refine lv_aload_n (pc := 323) hx hb dL_law_323 rfl (lv_at hl 2 rfl) ?_
                  obtain ⟨r_67, P_68, h_69, hf⟩ := b2_e hf
                  refine x_cv (pc := 324) (ws' := wd_TreeOdds G a P_65 ++ wd_Model G b P_68) (As := []) (rest := [.int r_64]) (ci := 9) (qr := 43) C0 KN X hA [43, 44, 45, 46, 47, 48, 49, 50, 51, 52, 53, 54, 55, 56, 57, 58, 59, 60, 61] [0, 1, 2, 3, 4, 5, 6, 7, 8, 9, 10, 11, 12, 13, 14, 15, 16, 17, 18, 19, 20, 21, 22, 23, 24, 25, 26, 27, 28, 29, 30, 31, 32, 33, 34, 35, 36, 37, 38, 39, 40, 41, 42] [0, 1, 2, 3, 4, 5, 6, 7, 8, 9, 10, 11, 12, 13, 14, 15, 16, 17, 18, 19, 20, 21, 22, 23, 24, 25, 26, 27, 28, 29, 30, 31, 32, 33, 34, 35, 36, 37, 38, 39, 40, 41, 42, 43, 44, 45, 46, 47, 48, 49, 50, 51, 52, 53, 54, 55, 56, 57, 58, 59, 60, 61] cu_C52 rfl cu_R52 rfl (by decide) (cu_J52 (S0 := P_65) (S1 := S1)) rfl (ct_X9_drop l G b S1 r_67 P_68 h_69) rfl rfl rfl kw_16_22 kw_16_19 kw_16_20 kw_16_21 kw_1_5 hd_X9_drop ⟨by decide, by decide⟩ hl.1 rfl (Nat.le_of_ble_eq_true rfl) ⟨Nat.le_of_ble_eq_true rfl, Nat.le_of_ble_eq_true rfl⟩ dL_law_324 (fun H locs X => ?_)
                  refine W.eq (g2 := F0 m 327 ls [.int r_67, .int r_64]) rfl ?_
                  refine lv_icmp_eq (pc := 327) (tgt := 747) hx hb dL_law_327 (by decide) (fun c_70 => ?_) (fun c_70 => ?_)
                  · have hf := it_p hf c_70
                    exact lb_L_law_747 C0 KN hA xs L hX hbl (fl_L_law_18 xs L n) ih _ _ _ hf _ _ _ X (lv_sub hl [0, 1, 2, 3] rfl)
                  · have hf := it_n hf c_70
                    refine lv_iconst (pc := 330) (v := 0) hx hb dL_law_330 (by decide) ?_
                    exact absurd (so_1 hf) (by decide)
                · have hf := it_n hf c_63
                  by_cases c_71 : y_3 = 6
                  · have hf := it_p hf c_71
                    refine lv_tableIn (pc := 32) (tgt := 332) hx hb dL_law_32 (by rw [c_71]; decide) (by rw [c_71]; decide) (by rw [c_71]; rfl) (by decide) ?_
                    refine lv_aload_n (pc := 332) hx hb dL_law_332 rfl (lv_at hl 1 rfl) ?_
                    refine lv_aload_n (pc := 333) hx hb dL_law_333 rfl (lv_at hl 0 rfl) ?_
                    refine lv_iload_n (pc := 334) hx hb dL_law_334 rfl (lv_at hl 3 rfl) ?_
                    refine lv_iconst (pc := 335) (v := 1) hx hb dL_law_335 (by decide) ?_
                    refine lv_iadd (pc := 336) hx hb dL_law_336 ?_
                    obtain ⟨g_72, hf⟩ := gd_e hf
                    refine x_sld (pc := 337) C0 hX hbl X (Nat.not_le.mpr hbl) g_72 dL_law_337 ?_
                    obtain ⟨r_73, P_74, h_75, hf⟩ := b2_e hf
                    refine x_cv (pc := 338) (ws' := wd_TreeOdds G a P_74 ++ wd_Model G b S1) (As := [.int (xs (x3 + (1 : Int32)).toNatClampNeg)]) (rest := []) (ci := 8) (qr := 0) C0 KN X hA [0, 1, 2, 3, 4, 5, 6, 7, 8, 9, 10, 11, 12, 13, 14, 15, 16, 17, 18, 19, 20, 21, 22, 23, 24, 25, 26, 27, 28, 29, 30, 31, 32, 33, 34, 35, 36, 37, 38, 39, 40, 41, 42] [43, 44, 45, 46, 47, 48, 49, 50, 51, 52, 53, 54, 55, 56, 57, 58, 59, 60, 61] [19, 20, 21, 22, 23, 24, 25, 26, 27, 28, 29, 30, 31, 32, 33, 34, 35, 36, 37, 38, 39, 40, 41, 42, 43, 44, 45, 46, 47, 48, 49, 50, 51, 52, 53, 54, 55, 56, 57, 58, 59, 60, 61, 0, 1, 2, 3, 4, 5, 6, 7, 8, 9, 10, 11, 12, 13, 14, 15, 16, 17, 18] cu_C51 rfl cu_R51 rfl (by decide) (cu_J51 (S0 := S0) (S1 := S1)) rfl (ct_X8_at l G a S0 (xs (x3 + (1 : Int32)).toNatClampNeg) r_73 P_74 h_75) rfl rfl rfl kw_17_6 kw_17_3 kw_17_4 kw_17_5 kw_1_2 hd_X8_at ⟨by decide, by decide⟩ hl.1 rfl (Nat.le_of_ble_eq_true rfl) ⟨Nat.le_of_ble_eq_true rfl, Nat.le_of_ble_eq_true rfl⟩ dL_law_338 (fun H locs X => ?_)
                    refine W.eq (g2 := F0 m 341 ls [.int r_73]) rfl ?_
                    refine lv_aload_n (pc := 341) hx hb dL_law_341 rfl (lv_at hl 2 rfl) ?_
                    refine lv_aload_n (pc := 342) hx hb dL_law_342 rfl (lv_at hl 0 rfl) ?_
                    refine lv_iload_n (pc := 343) hx hb dL_law_343 rfl (lv_at hl 3 rfl) ?_
                    refine lv_iconst (pc := 344) (v := 1) hx hb dL_law_344 (by decide) ?_
                    refine lv_iadd (pc := 345) hx hb dL_law_345 ?_
                    obtain ⟨g_76, hf⟩ := gd_e hf
                    refine x_sld (pc := 346) C0 hX hbl X (Nat.not_le.mpr hbl) g_76 dL_law_346 ?_
                    obtain ⟨r_77, P_78, h_79, hf⟩ := b2_e hf
                    refine x_cv (pc := 347) (ws' := wd_TreeOdds G a P_74 ++ wd_Model G b P_78) (As := [.int (xs (x3 + (1 : Int32)).toNatClampNeg)]) (rest := [.int r_73]) (ci := 9) (qr := 43) C0 KN X hA [43, 44, 45, 46, 47, 48, 49, 50, 51, 52, 53, 54, 55, 56, 57, 58, 59, 60, 61] [0, 1, 2, 3, 4, 5, 6, 7, 8, 9, 10, 11, 12, 13, 14, 15, 16, 17, 18, 19, 20, 21, 22, 23, 24, 25, 26, 27, 28, 29, 30, 31, 32, 33, 34, 35, 36, 37, 38, 39, 40, 41, 42] [0, 1, 2, 3, 4, 5, 6, 7, 8, 9, 10, 11, 12, 13, 14, 15, 16, 17, 18, 19, 20, 21, 22, 23, 24, 25, 26, 27, 28, 29, 30, 31, 32, 33, 34, 35, 36, 37, 38, 39, 40, 41, 42, 43, 44, 45, 46, 47, 48, 49, 50, 51, 52, 53, 54, 55, 56, 57, 58, 59, 60, 61] cu_C52 rfl cu_R52 rfl (by decide) (cu_J52 (S0 := P_74) (S1 := S1)) rfl (ct_X9_at l G b S1 (xs (x3 + (1 : Int32)).toNatClampNeg) r_77 P_78 h_79) rfl rfl rfl kw_17_15 kw_17_12 kw_17_13 kw_17_14 kw_1_5 hd_X9_at ⟨by decide, by decide⟩ hl.1 rfl (Nat.le_of_ble_eq_true rfl) ⟨Nat.le_of_ble_eq_true rfl, Nat.le_of_ble_eq_true rfl⟩ dL_law_347 (fun H locs X => ?_)
                    refine W.eq (g2 := F0 m 350 ls [.int r_77, .int r_73]) rfl ?_
                    refine lv_icmp_eq (pc := 350) (tgt := 747) hx hb dL_law_350 (by decide) (fun c_80 => ?_) (fun c_80 => ?_)
                    · have hf := it_p hf c_80
                      exact lb_L_law_747 C0 KN hA xs L hX hbl (fl_L_law_18 xs L n) ih _ _ _ hf _ _ _ X (lv_sub hl [0, 1, 2, 3] rfl)
                    · have hf := it_n hf c_80
                      refine lv_iconst (pc := 353) (v := 0) hx hb dL_law_353 (by decide) ?_
                      exact absurd (so_1 hf) (by decide)
                  · have hf := it_n hf c_71
                    by_cases c_81 : y_3 = 7
                    · have hf := it_p hf c_81
                      refine lv_tableIn (pc := 32) (tgt := 355) hx hb dL_law_32 (by rw [c_81]; decide) (by rw [c_81]; decide) (by rw [c_81]; rfl) (by decide) ?_
                      refine lv_aload_n (pc := 355) hx hb dL_law_355 rfl (lv_at hl 1 rfl) ?_
                      obtain ⟨r_82, h_83, hf⟩ := bd_e hf
                      refine x_cv (pc := 356) (ws' := wd_TreeOdds G a S0 ++ wd_Model G b S1) (As := []) (rest := []) (ci := 8) (qr := 0) C0 KN X hA [0, 1, 2, 3, 4, 5, 6, 7, 8, 9, 10, 11, 12, 13, 14, 15, 16, 17, 18, 19, 20, 21, 22, 23, 24, 25, 26, 27, 28, 29, 30, 31, 32, 33, 34, 35, 36, 37, 38, 39, 40, 41, 42] [43, 44, 45, 46, 47, 48, 49, 50, 51, 52, 53, 54, 55, 56, 57, 58, 59, 60, 61] [19, 20, 21, 22, 23, 24, 25, 26, 27, 28, 29, 30, 31, 32, 33, 34, 35, 36, 37, 38, 39, 40, 41, 42, 43, 44, 45, 46, 47, 48, 49, 50, 51, 52, 53, 54, 55, 56, 57, 58, 59, 60, 61, 0, 1, 2, 3, 4, 5, 6, 7, 8, 9, 10, 11, 12, 13, 14, 15, 16, 17, 18] cu_C53 rfl cu_R53 rfl (by decide) (cu_J53 (S0 := S0) (S1 := S1)) rfl (ct_X8_guess l G a S0 r_82 h_83) rfl rfl rfl kw_17_19 kw_17_16 kw_17_17 kw_17_18 kw_1_2 hd_X8_guess ⟨by decide, by decide⟩ hl.1 rfl (Nat.le_of_ble_eq_true rfl) ⟨Nat.le_of_ble_eq_true rfl, Nat.le_of_ble_eq_true rfl⟩ dL_law_356 (fun H locs X => ?_)
                      refine W.eq (g2 := F0 m 359 ls [.int r_82]) rfl ?_
                      refine lv_aload_n (pc := 359) hx hb dL_law_359 rfl (lv_at hl 2 rfl) ?_
                      obtain ⟨r_84, P_85, h_86, hf⟩ := b2_e hf
                      refine x_cv (pc := 360) (ws' := wd_TreeOdds G a S0 ++ wd_Model G b P_85) (As := []) (rest := [.int r_82]) (ci := 9) (qr := 43) C0 KN X hA [43, 44, 45, 46, 47, 48, 49, 50, 51, 52, 53, 54, 55, 56, 57, 58, 59, 60, 61] [0, 1, 2, 3, 4, 5, 6, 7, 8, 9, 10, 11, 12, 13, 14, 15, 16, 17, 18, 19, 20, 21, 22, 23, 24, 25, 26, 27, 28, 29, 30, 31, 32, 33, 34, 35, 36, 37, 38, 39, 40, 41, 42] [0, 1, 2, 3, 4, 5, 6, 7, 8, 9, 10, 11, 12, 13, 14, 15, 16, 17, 18, 19, 20, 21, 22, 23, 24, 25, 26, 27, 28, 29, 30, 31, 32, 33, 34, 35, 36, 37, 38, 39, 40, 41, 42, 43, 44, 45, 46, 47, 48, 49, 50, 51, 52, 53, 54, 55, 56, 57, 58, 59, 60, 61] cu_C52 rfl cu_R52 rfl (by decide) (cu_J52 (S0 := S0) (S1 := S1)) rfl (ct_X9_guess l G b S1 r_84 P_85 h_86) rfl rfl rfl kw_18_0 kw_17_21 kw_17_22 kw_17_23 kw_1_5 hd_X9_guess ⟨by decide, by decide⟩ hl.1 rfl (Nat.le_of_ble_eq_true rfl) ⟨Nat.le_of_ble_eq_true rfl, Nat.le_of_ble_eq_true rfl⟩ dL_law_360 (fun H locs X => ?_)
                      refine W.eq (g2 := F0 m 363 ls [.int r_84, .int r_82]) rfl ?_
                      refine lv_icmp_eq (pc := 363) (tgt := 747) hx hb dL_law_363 (by decide) (fun c_87 => ?_) (fun c_87 => ?_)
                      · have hf := it_p hf c_87
                        exact lb_L_law_747 C0 KN hA xs L hX hbl (fl_L_law_18 xs L n) ih _ _ _ hf _ _ _ X (lv_sub hl [0, 1, 2, 3] rfl)
                      · have hf := it_n hf c_87
                        refine lv_iconst (pc := 366) (v := 0) hx hb dL_law_366 (by decide) ?_
                        exact absurd (so_1 hf) (by decide)
                    · have hf := it_n hf c_81
                      by_cases c_88 : y_3 = 8
                      · have hf := it_p hf c_88
                        refine lv_tableIn (pc := 32) (tgt := 368) hx hb dL_law_32 (by rw [c_88]; decide) (by rw [c_88]; decide) (by rw [c_88]; rfl) (by decide) ?_
                        refine lv_aload_n (pc := 368) hx hb dL_law_368 rfl (lv_at hl 1 rfl) ?_
                        refine lv_aload_n (pc := 369) hx hb dL_law_369 rfl (lv_at hl 0 rfl) ?_
                        refine lv_iload_n (pc := 370) hx hb dL_law_370 rfl (lv_at hl 3 rfl) ?_
                        refine lv_iconst (pc := 371) (v := 1) hx hb dL_law_371 (by decide) ?_
                        refine lv_iadd (pc := 372) hx hb dL_law_372 ?_
                        obtain ⟨g_89, hf⟩ := gd_e hf
                        refine x_sld (pc := 373) C0 hX hbl X (Nat.not_le.mpr hbl) g_89 dL_law_373 ?_
                        refine lv_aload_n (pc := 374) hx hb dL_law_374 rfl (lv_at hl 0 rfl) ?_
                        refine lv_iload_n (pc := 375) hx hb dL_law_375 rfl (lv_at hl 3 rfl) ?_
                        refine lv_iconst (pc := 376) (v := 2) hx hb dL_law_376 (by decide) ?_
                        refine lv_iadd (pc := 377) hx hb dL_law_377 ?_
                        obtain ⟨g_90, hf⟩ := gd_e hf
                        refine x_sld (pc := 378) C0 hX hbl X (Nat.not_le.mpr hbl) g_90 dL_law_378 ?_
                        obtain ⟨r_91, P_92, h_93, hf⟩ := b2_e hf
                        refine x_cv (pc := 379) (ws' := wd_TreeOdds G a P_92 ++ wd_Model G b S1) (As := [.int (xs (x3 + (1 : Int32)).toNatClampNeg), .int (xs (x3 + (2 : Int32)).toNatClampNeg)]) (rest := []) (ci := 8) (qr := 0) C0 KN X hA [0, 1, 2, 3, 4, 5, 6, 7, 8, 9, 10, 11, 12, 13, 14, 15, 16, 17, 18, 19, 20, 21, 22, 23, 24, 25, 26, 27, 28, 29, 30, 31, 32, 33, 34, 35, 36, 37, 38, 39, 40, 41, 42] [43, 44, 45, 46, 47, 48, 49, 50, 51, 52, 53, 54, 55, 56, 57, 58, 59, 60, 61] [19, 20, 21, 22, 23, 24, 25, 26, 27, 28, 29, 30, 31, 32, 33, 34, 35, 36, 37, 38, 39, 40, 41, 42, 43, 44, 45, 46, 47, 48, 49, 50, 51, 52, 53, 54, 55, 56, 57, 58, 59, 60, 61, 0, 1, 2, 3, 4, 5, 6, 7, 8, 9, 10, 11, 12, 13, 14, 15, 16, 17, 18] cu_C51 rfl cu_R51 rfl (by decide) (cu_J51 (S0 := S0) (S1 := S1)) rfl (ct_X8_was l G a S0 (xs (x3 + (1 : Int32)).toNatClampNeg) (xs (x3 + (2 : Int32)).toNatClampNeg) r_91 P_92 h_93) rfl rfl rfl kw_18_8 kw_18_5 kw_18_6 kw_18_7 kw_1_2 hd_X8_was ⟨by decide, by decide⟩ hl.1 rfl (Nat.le_of_ble_eq_true rfl) ⟨Nat.le_of_ble_eq_true rfl, Nat.le_of_ble_eq_true rfl⟩ dL_law_379 (fun H locs X => ?_)
                        refine W.eq (g2 := F0 m 382 ls [.int r_91]) rfl ?_
                        refine lv_aload_n (pc := 382) hx hb dL_law_382 rfl (lv_at hl 2 rfl) ?_
                        refine lv_aload_n (pc := 383) hx hb dL_law_383 rfl (lv_at hl 0 rfl) ?_
                        refine lv_iload_n (pc := 384) hx hb dL_law_384 rfl (lv_at hl 3 rfl) ?_
                        refine lv_iconst (pc := 385) (v := 1) hx hb dL_law_385 (by decide) ?_
                        refine lv_iadd (pc := 386) hx hb dL_law_386 ?_
                        obtain ⟨g_94, hf⟩ := gd_e hf
                        refine x_sld (pc := 387) C0 hX hbl X (Nat.not_le.mpr hbl) g_94 dL_law_387 ?_
                        refine lv_aload_n (pc := 388) hx hb dL_law_388 rfl (lv_at hl 0 rfl) ?_
                        refine lv_iload_n (pc := 389) hx hb dL_law_389 rfl (lv_at hl 3 rfl) ?_
                        refine lv_iconst (pc := 390) (v := 2) hx hb dL_law_390 (by decide) ?_
                        refine lv_iadd (pc := 391) hx hb dL_law_391 ?_
                        obtain ⟨g_95, hf⟩ := gd_e hf
                        refine x_sld (pc := 392) C0 hX hbl X (Nat.not_le.mpr hbl) g_95 dL_law_392 ?_
                        obtain ⟨r_96, P_97, h_98, hf⟩ := b2_e hf
                        refine x_cv (pc := 393) (ws' := wd_TreeOdds G a P_92 ++ wd_Model G b P_97) (As := [.int (xs (x3 + (1 : Int32)).toNatClampNeg), .int (xs (x3 + (2 : Int32)).toNatClampNeg)]) (rest := [.int r_91]) (ci := 9) (qr := 43) C0 KN X hA [43, 44, 45, 46, 47, 48, 49, 50, 51, 52, 53, 54, 55, 56, 57, 58, 59, 60, 61] [0, 1, 2, 3, 4, 5, 6, 7, 8, 9, 10, 11, 12, 13, 14, 15, 16, 17, 18, 19, 20, 21, 22, 23, 24, 25, 26, 27, 28, 29, 30, 31, 32, 33, 34, 35, 36, 37, 38, 39, 40, 41, 42] [0, 1, 2, 3, 4, 5, 6, 7, 8, 9, 10, 11, 12, 13, 14, 15, 16, 17, 18, 19, 20, 21, 22, 23, 24, 25, 26, 27, 28, 29, 30, 31, 32, 33, 34, 35, 36, 37, 38, 39, 40, 41, 42, 43, 44, 45, 46, 47, 48, 49, 50, 51, 52, 53, 54, 55, 56, 57, 58, 59, 60, 61] cu_C52 rfl cu_R52 rfl (by decide) (cu_J52 (S0 := P_92) (S1 := S1)) rfl (ct_X9_was l G b S1 (xs (x3 + (1 : Int32)).toNatClampNeg) (xs (x3 + (2 : Int32)).toNatClampNeg) r_96 P_97 h_98) rfl rfl rfl kw_18_14 kw_18_11 kw_18_12 kw_18_13 kw_1_5 hd_X9_was ⟨by decide, by decide⟩ hl.1 rfl (Nat.le_of_ble_eq_true rfl) ⟨Nat.le_of_ble_eq_true rfl, Nat.le_of_ble_eq_true rfl⟩ dL_law_393 (fun H locs X => ?_)
                        refine W.eq (g2 := F0 m 396 ls [.int r_96, .int r_91]) rfl ?_
                        refine lv_icmp_eq (pc := 396) (tgt := 747) hx hb dL_law_396 (by decide) (fun c_99 => ?_) (fun c_99 => ?_)
                        · have hf := it_p hf c_99
                          exact lb_L_law_747 C0 KN hA xs L hX hbl (fl_L_law_18 xs L n) ih _ _ _ hf _ _ _ X (lv_sub hl [0, 1, 2, 3] rfl)
                        · have hf := it_n hf c_99
                          refine lv_iconst (pc := 399) (v := 0) hx hb dL_law_399 (by decide) ?_
                          exact absurd (so_1 hf) (by decide)
                      · have hf := it_n hf c_88
                        by_cases c_100 : y_3 = 9
                        · have hf := it_p hf c_100
                          refine lv_tableIn (pc := 32) (tgt := 401) hx hb dL_law_32 (by rw [c_100]; decide) (by rw [c_100]; decide) (by rw [c_100]; rfl) (by decide) ?_
                          refine lv_aload_n (pc := 401) hx hb dL_law_401 rfl (lv_at hl 1 rfl) ?_
                          refine lv_aload_n (pc := 402) hx hb dL_law_402 rfl (lv_at hl 0 rfl) ?_
                          refine lv_iload_n (pc := 403) hx hb dL_law_403 rfl (lv_at hl 3 rfl) ?_
                          refine lv_iconst (pc := 404) (v := 1) hx hb dL_law_404 (by decide) ?_
                          refine lv_iadd (pc := 405) hx hb dL_law_405 ?_
                          obtain ⟨g_101, hf⟩ := gd_e hf
                          refine x_sld (pc := 406) C0 hX hbl X (Nat.not_le.mpr hbl) g_101 dL_law_406 ?_
                          refine lv_aload_n (pc := 407) hx hb dL_law_407 rfl (lv_at hl 0 rfl) ?_
                          refine lv_iload_n (pc := 408) hx hb dL_law_408 rfl (lv_at hl 3 rfl) ?_
                          refine lv_iconst (pc := 409) (v := 2) hx hb dL_law_409 (by decide) ?_
                          refine lv_iadd (pc := 410) hx hb dL_law_410 ?_
                          obtain ⟨g_102, hf⟩ := gd_e hf
                          refine x_sld (pc := 411) C0 hX hbl X (Nat.not_le.mpr hbl) g_102 dL_law_411 ?_
                          refine lv_aload_n (pc := 412) hx hb dL_law_412 rfl (lv_at hl 0 rfl) ?_
                          refine lv_iload_n (pc := 413) hx hb dL_law_413 rfl (lv_at hl 3 rfl) ?_
                          refine lv_iconst (pc := 414) (v := 3) hx hb dL_law_414 (by decide) ?_
                          refine lv_iadd (pc := 415) hx hb dL_law_415 ?_
                          obtain ⟨g_103, hf⟩ := gd_e hf
                          refine x_sld (pc := 416) C0 hX hbl X (Nat.not_le.mpr hbl) g_103 dL_law_416 ?_
                          obtain ⟨r_104, P_105, h_106, hf⟩ := b2_e hf
                          refine x_cv (pc := 417) (ws' := wd_TreeOdds G a P_105 ++ wd_Model G b S1) (As := [.int (xs (x3 + (1 : Int32)).toNatClampNeg), .int (xs (x3 + (2 : Int32)).toNatClampNeg), .int (xs (x3 + (3 : Int32)).toNatClampNeg)]) (rest := []) (ci := 8) (qr := 0) C0 KN X hA [0, 1, 2, 3, 4, 5, 6, 7, 8, 9, 10, 11, 12, 13, 14, 15, 16, 17, 18, 19, 20, 21, 22, 23, 24, 25, 26, 27, 28, 29, 30, 31, 32, 33, 34, 35, 36, 37, 38, 39, 40, 41, 42] [43, 44, 45, 46, 47, 48, 49, 50, 51, 52, 53, 54, 55, 56, 57, 58, 59, 60, 61] [19, 20, 21, 22, 23, 24, 25, 26, 27, 28, 29, 30, 31, 32, 33, 34, 35, 36, 37, 38, 39, 40, 41, 42, 43, 44, 45, 46, 47, 48, 49, 50, 51, 52, 53, 54, 55, 56, 57, 58, 59, 60, 61, 0, 1, 2, 3, 4, 5, 6, 7, 8, 9, 10, 11, 12, 13, 14, 15, 16, 17, 18] cu_C51 rfl cu_R51 rfl (by decide) (cu_J51 (S0 := S0) (S1 := S1)) rfl (ct_X8_node l G a S0 (xs (x3 + (1 : Int32)).toNatClampNeg) (xs (x3 + (2 : Int32)).toNatClampNeg) (xs (x3 + (3 : Int32)).toNatClampNeg) r_104 P_105 h_106) rfl rfl rfl kw_18_18 kw_18_15 kw_18_16 kw_18_17 kw_1_2 hd_X8_node ⟨by decide, by decide⟩ hl.1 rfl (Nat.le_of_ble_eq_true rfl) ⟨Nat.le_of_ble_eq_true rfl, Nat.le_of_ble_eq_true rfl⟩ dL_law_417 (fun H locs X => ?_)
                          refine W.eq (g2 := F0 m 420 ls [.int r_104]) rfl ?_
                          refine lv_aload_n (pc := 420) hx hb dL_law_420 rfl (lv_at hl 2 rfl) ?_
                          refine lv_aload_n (pc := 421) hx hb dL_law_421 rfl (lv_at hl 0 rfl) ?_
                          refine lv_iload_n (pc := 422) hx hb dL_law_422 rfl (lv_at hl 3 rfl) ?_
                          refine lv_iconst (pc := 423) (v := 1) hx hb dL_law_423 (by decide) ?_
                          refine lv_iadd (pc := 424) hx hb dL_law_424 ?_
                          obtain ⟨g_107, hf⟩ := gd_e hf
                          refine x_sld (pc := 425) C0 hX hbl X (Nat.not_le.mpr hbl) g_107 dL_law_425 ?_
                          refine lv_aload_n (pc := 426) hx hb dL_law_426 rfl (lv_at hl 0 rfl) ?_
                          refine lv_iload_n (pc := 427) hx hb dL_law_427 rfl (lv_at hl 3 rfl) ?_
                          refine lv_iconst (pc := 428) (v := 2) hx hb dL_law_428 (by decide) ?_
                          refine lv_iadd (pc := 429) hx hb dL_law_429 ?_
                          obtain ⟨g_108, hf⟩ := gd_e hf
                          refine x_sld (pc := 430) C0 hX hbl X (Nat.not_le.mpr hbl) g_108 dL_law_430 ?_
                          refine lv_aload_n (pc := 431) hx hb dL_law_431 rfl (lv_at hl 0 rfl) ?_
                          refine lv_iload_n (pc := 432) hx hb dL_law_432 rfl (lv_at hl 3 rfl) ?_
                          refine lv_iconst (pc := 433) (v := 3) hx hb dL_law_433 (by decide) ?_
                          refine lv_iadd (pc := 434) hx hb dL_law_434 ?_
                          obtain ⟨g_109, hf⟩ := gd_e hf
                          refine x_sld (pc := 435) C0 hX hbl X (Nat.not_le.mpr hbl) g_109 dL_law_435 ?_
                          obtain ⟨r_110, P_111, h_112, hf⟩ := b2_e hf
                          refine x_cv (pc := 436) (ws' := wd_TreeOdds G a P_105 ++ wd_Model G b P_111) (As := [.int (xs (x3 + (1 : Int32)).toNatClampNeg), .int (xs (x3 + (2 : Int32)).toNatClampNeg), .int (xs (x3 + (3 : Int32)).toNatClampNeg)]) (rest := [.int r_104]) (ci := 9) (qr := 43) C0 KN X hA [43, 44, 45, 46, 47, 48, 49, 50, 51, 52, 53, 54, 55, 56, 57, 58, 59, 60, 61] [0, 1, 2, 3, 4, 5, 6, 7, 8, 9, 10, 11, 12, 13, 14, 15, 16, 17, 18, 19, 20, 21, 22, 23, 24, 25, 26, 27, 28, 29, 30, 31, 32, 33, 34, 35, 36, 37, 38, 39, 40, 41, 42] [0, 1, 2, 3, 4, 5, 6, 7, 8, 9, 10, 11, 12, 13, 14, 15, 16, 17, 18, 19, 20, 21, 22, 23, 24, 25, 26, 27, 28, 29, 30, 31, 32, 33, 34, 35, 36, 37, 38, 39, 40, 41, 42, 43, 44, 45, 46, 47, 48, 49, 50, 51, 52, 53, 54, 55, 56, 57, 58, 59, 60, 61] cu_C52 rfl cu_R52 rfl (by decide) (cu_J52 (S0 := P_105) (S1 := S1)) rfl (ct_X9_node l G b S1 (xs (x3 + (1 : Int32)).toNatClampNeg) (xs (x3 + (2 : Int32)).toNatClampNeg) (xs (x3 + (3 : Int32)).toNatClampNeg) r_110 P_111 h_112) rfl rfl rfl kw_19_7 kw_19_4 kw_19_5 kw_19_6 kw_1_5 hd_X9_node ⟨by decide, by decide⟩ hl.1 rfl (Nat.le_of_ble_eq_true rfl) ⟨Nat.le_of_ble_eq_true rfl, Nat.le_of_ble_eq_true rfl⟩ dL_law_436 (fun H locs X => ?_)
                          refine W.eq (g2 := F0 m 439 ls [.int r_110, .int r_104]) rfl ?_
                          refine lv_icmp_eq (pc := 439) (tgt := 747) hx hb dL_law_439 (by decide) (fun c_113 => ?_) (fun c_113 => ?_)
                          · have hf := it_p hf c_113
                            exact lb_L_law_747 C0 KN hA xs L hX hbl (fl_L_law_18 xs L n) ih _ _ _ hf _ _ _ X (lv_sub hl [0, 1, 2, 3] rfl)
                          · have hf := it_n hf c_113
                            refine lv_iconst (pc := 442) (v := 0) hx hb dL_law_442 (by decide) ?_
                            exact absurd (so_1 hf) (by decide)
                        · have hf := it_n hf c_100
                          by_cases c_114 : y_3 = 10
                          · have hf := it_p hf c_114
                            refine lv_tableIn (pc := 32) (tgt := 444) hx hb dL_law_32 (by rw [c_114]; decide) (by rw [c_114]; decide) (by rw [c_114]; rfl) (by decide) ?_
                            refine lv_aload_n (pc := 444) hx hb dL_law_444 rfl (lv_at hl 1 rfl) ?_
                            obtain ⟨r_115, h_116, hf⟩ := bd_e hf
                            refine x_cv (pc := 445) (ws' := wd_TreeOdds G a S0 ++ wd_Model G b S1) (As := []) (rest := []) (ci := 8) (qr := 0) C0 KN X hA [0, 1, 2, 3, 4, 5, 6, 7, 8, 9, 10, 11, 12, 13, 14, 15, 16, 17, 18, 19, 20, 21, 22, 23, 24, 25, 26, 27, 28, 29, 30, 31, 32, 33, 34, 35, 36, 37, 38, 39, 40, 41, 42] [43, 44, 45, 46, 47, 48, 49, 50, 51, 52, 53, 54, 55, 56, 57, 58, 59, 60, 61] [19, 20, 21, 22, 23, 24, 25, 26, 27, 28, 29, 30, 31, 32, 33, 34, 35, 36, 37, 38, 39, 40, 41, 42, 43, 44, 45, 46, 47, 48, 49, 50, 51, 52, 53, 54, 55, 56, 57, 58, 59, 60, 61, 0, 1, 2, 3, 4, 5, 6, 7, 8, 9, 10, 11, 12, 13, 14, 15, 16, 17, 18] cu_C53 rfl cu_R53 rfl (by decide) (cu_J53 (S0 := S0) (S1 := S1)) rfl (ct_X8_cost l G a S0 r_115 h_116) rfl rfl rfl kw_19_15 kw_19_12 kw_19_13 kw_19_14 kw_1_2 hd_X8_cost ⟨by decide, by decide⟩ hl.1 rfl (Nat.le_of_ble_eq_true rfl) ⟨Nat.le_of_ble_eq_true rfl, Nat.le_of_ble_eq_true rfl⟩ dL_law_445 (fun H locs X => ?_)
                            refine W.eq (g2 := F0 m 448 ls [.int r_115]) rfl ?_
                            refine lv_aload_n (pc := 448) hx hb dL_law_448 rfl (lv_at hl 2 rfl) ?_
                            obtain ⟨r_117, P_118, h_119, hf⟩ := b2_e hf
                            refine x_cv (pc := 449) (ws' := wd_TreeOdds G a S0 ++ wd_Model G b P_118) (As := []) (rest := [.int r_115]) (ci := 9) (qr := 43) C0 KN X hA [43, 44, 45, 46, 47, 48, 49, 50, 51, 52, 53, 54, 55, 56, 57, 58, 59, 60, 61] [0, 1, 2, 3, 4, 5, 6, 7, 8, 9, 10, 11, 12, 13, 14, 15, 16, 17, 18, 19, 20, 21, 22, 23, 24, 25, 26, 27, 28, 29, 30, 31, 32, 33, 34, 35, 36, 37, 38, 39, 40, 41, 42] [0, 1, 2, 3, 4, 5, 6, 7, 8, 9, 10, 11, 12, 13, 14, 15, 16, 17, 18, 19, 20, 21, 22, 23, 24, 25, 26, 27, 28, 29, 30, 31, 32, 33, 34, 35, 36, 37, 38, 39, 40, 41, 42, 43, 44, 45, 46, 47, 48, 49, 50, 51, 52, 53, 54, 55, 56, 57, 58, 59, 60, 61] cu_C52 rfl cu_R52 rfl (by decide) (cu_J52 (S0 := S0) (S1 := S1)) rfl (ct_X9_cost l G b S1 r_117 P_118 h_119) rfl rfl rfl kw_19_20 kw_19_17 kw_19_18 kw_19_19 kw_1_5 hd_X9_cost ⟨by decide, by decide⟩ hl.1 rfl (Nat.le_of_ble_eq_true rfl) ⟨Nat.le_of_ble_eq_true rfl, Nat.le_of_ble_eq_true rfl⟩ dL_law_449 (fun H locs X => ?_)
                            refine W.eq (g2 := F0 m 452 ls [.int r_117, .int r_115]) rfl ?_
                            refine lv_icmp_eq (pc := 452) (tgt := 747) hx hb dL_law_452 (by decide) (fun c_120 => ?_) (fun c_120 => ?_)
                            · have hf := it_p hf c_120
                              exact lb_L_law_747 C0 KN hA xs L hX hbl (fl_L_law_18 xs L n) ih _ _ _ hf _ _ _ X (lv_sub hl [0, 1, 2, 3] rfl)
                            · have hf := it_n hf c_120
                              refine lv_iconst (pc := 455) (v := 0) hx hb dL_law_455 (by decide) ?_
                              exact absurd (so_1 hf) (by decide)
                          · have hf := it_n hf c_114
                            by_cases c_121 : y_3 = 11
                            · have hf := it_p hf c_121
                              refine lv_tableIn (pc := 32) (tgt := 457) hx hb dL_law_32 (by rw [c_121]; decide) (by rw [c_121]; decide) (by rw [c_121]; rfl) (by decide) ?_
                              refine lv_aload_n (pc := 457) hx hb dL_law_457 rfl (lv_at hl 1 rfl) ?_
                              refine lv_aload_n (pc := 458) hx hb dL_law_458 rfl (lv_at hl 0 rfl) ?_
                              refine lv_iload_n (pc := 459) hx hb dL_law_459 rfl (lv_at hl 3 rfl) ?_
                              refine lv_iconst (pc := 460) (v := 1) hx hb dL_law_460 (by decide) ?_
                              refine lv_iadd (pc := 461) hx hb dL_law_461 ?_
                              obtain ⟨g_122, hf⟩ := gd_e hf
                              refine x_sld (pc := 462) C0 hX hbl X (Nat.not_le.mpr hbl) g_122 dL_law_462 ?_
                              refine lv_aload_n (pc := 463) hx hb dL_law_463 rfl (lv_at hl 0 rfl) ?_
                              refine lv_iload_n (pc := 464) hx hb dL_law_464 rfl (lv_at hl 3 rfl) ?_
                              refine lv_iconst (pc := 465) (v := 2) hx hb dL_law_465 (by decide) ?_
                              refine lv_iadd (pc := 466) hx hb dL_law_466 ?_
                              obtain ⟨g_123, hf⟩ := gd_e hf
                              refine x_sld (pc := 467) C0 hX hbl X (Nat.not_le.mpr hbl) g_123 dL_law_467 ?_
                              obtain ⟨r_124, P_125, h_126, hf⟩ := b2_e hf
                              refine x_cv (pc := 468) (ws' := wd_TreeOdds G a P_125 ++ wd_Model G b S1) (As := [.int (xs (x3 + (1 : Int32)).toNatClampNeg), .int (xs (x3 + (2 : Int32)).toNatClampNeg)]) (rest := []) (ci := 8) (qr := 0) C0 KN X hA [0, 1, 2, 3, 4, 5, 6, 7, 8, 9, 10, 11, 12, 13, 14, 15, 16, 17, 18, 19, 20, 21, 22, 23, 24, 25, 26, 27, 28, 29, 30, 31, 32, 33, 34, 35, 36, 37, 38, 39, 40, 41, 42] [43, 44, 45, 46, 47, 48, 49, 50, 51, 52, 53, 54, 55, 56, 57, 58, 59, 60, 61] [19, 20, 21, 22, 23, 24, 25, 26, 27, 28, 29, 30, 31, 32, 33, 34, 35, 36, 37, 38, 39, 40, 41, 42, 43, 44, 45, 46, 47, 48, 49, 50, 51, 52, 53, 54, 55, 56, 57, 58, 59, 60, 61, 0, 1, 2, 3, 4, 5, 6, 7, 8, 9, 10, 11, 12, 13, 14, 15, 16, 17, 18] cu_C51 rfl cu_R51 rfl (by decide) (cu_J51 (S0 := S0) (S1 := S1)) rfl (ct_X8_costBy l G a S0 (xs (x3 + (1 : Int32)).toNatClampNeg) (xs (x3 + (2 : Int32)).toNatClampNeg) r_124 P_125 h_126) rfl rfl rfl kw_20_0 kw_19_21 kw_19_22 kw_19_23 kw_1_2 hd_X8_costBy ⟨by decide, by decide⟩ hl.1 rfl (Nat.le_of_ble_eq_true rfl) ⟨Nat.le_of_ble_eq_true rfl, Nat.le_of_ble_eq_true rfl⟩ dL_law_468 (fun H locs X => ?_)
                              refine W.eq (g2 := F0 m 471 ls [.int r_124]) rfl ?_
                              refine lv_aload_n (pc := 471) hx hb dL_law_471 rfl (lv_at hl 2 rfl) ?_
                              refine lv_aload_n (pc := 472) hx hb dL_law_472 rfl (lv_at hl 0 rfl) ?_
                              refine lv_iload_n (pc := 473) hx hb dL_law_473 rfl (lv_at hl 3 rfl) ?_
                              refine lv_iconst (pc := 474) (v := 1) hx hb dL_law_474 (by decide) ?_
                              refine lv_iadd (pc := 475) hx hb dL_law_475 ?_
                              obtain ⟨g_127, hf⟩ := gd_e hf
                              refine x_sld (pc := 476) C0 hX hbl X (Nat.not_le.mpr hbl) g_127 dL_law_476 ?_
                              refine lv_aload_n (pc := 477) hx hb dL_law_477 rfl (lv_at hl 0 rfl) ?_
                              refine lv_iload_n (pc := 478) hx hb dL_law_478 rfl (lv_at hl 3 rfl) ?_
                              refine lv_iconst (pc := 479) (v := 2) hx hb dL_law_479 (by decide) ?_
                              refine lv_iadd (pc := 480) hx hb dL_law_480 ?_
                              obtain ⟨g_128, hf⟩ := gd_e hf
                              refine x_sld (pc := 481) C0 hX hbl X (Nat.not_le.mpr hbl) g_128 dL_law_481 ?_
                              obtain ⟨r_129, P_130, h_131, hf⟩ := b2_e hf
                              refine x_cv (pc := 482) (ws' := wd_TreeOdds G a P_125 ++ wd_Model G b P_130) (As := [.int (xs (x3 + (1 : Int32)).toNatClampNeg), .int (xs (x3 + (2 : Int32)).toNatClampNeg)]) (rest := [.int r_124]) (ci := 9) (qr := 43) C0 KN X hA [43, 44, 45, 46, 47, 48, 49, 50, 51, 52, 53, 54, 55, 56, 57, 58, 59, 60, 61] [0, 1, 2, 3, 4, 5, 6, 7, 8, 9, 10, 11, 12, 13, 14, 15, 16, 17, 18, 19, 20, 21, 22, 23, 24, 25, 26, 27, 28, 29, 30, 31, 32, 33, 34, 35, 36, 37, 38, 39, 40, 41, 42] [0, 1, 2, 3, 4, 5, 6, 7, 8, 9, 10, 11, 12, 13, 14, 15, 16, 17, 18, 19, 20, 21, 22, 23, 24, 25, 26, 27, 28, 29, 30, 31, 32, 33, 34, 35, 36, 37, 38, 39, 40, 41, 42, 43, 44, 45, 46, 47, 48, 49, 50, 51, 52, 53, 54, 55, 56, 57, 58, 59, 60, 61] cu_C52 rfl cu_R52 rfl (by decide) (cu_J52 (S0 := P_125) (S1 := S1)) rfl (ct_X9_costBy l G b S1 (xs (x3 + (1 : Int32)).toNatClampNeg) (xs (x3 + (2 : Int32)).toNatClampNeg) r_129 P_130 h_131) rfl rfl rfl kw_20_8 kw_20_5 kw_20_6 kw_20_7 kw_1_5 hd_X9_costBy ⟨by decide, by decide⟩ hl.1 rfl (Nat.le_of_ble_eq_true rfl) ⟨Nat.le_of_ble_eq_true rfl, Nat.le_of_ble_eq_true rfl⟩ dL_law_482 (fun H locs X => ?_)
                              refine W.eq (g2 := F0 m 485 ls [.int r_129, .int r_124]) rfl ?_
                              refine lv_icmp_eq (pc := 485) (tgt := 747) hx hb dL_law_485 (by decide) (fun c_132 => ?_) (fun c_132 => ?_)
                              · have hf := it_p hf c_132
                                exact lb_L_law_747 C0 KN hA xs L hX hbl (fl_L_law_18 xs L n) ih _ _ _ hf _ _ _ X (lv_sub hl [0, 1, 2, 3] rfl)
                              · have hf := it_n hf c_132
                                refine lv_iconst (pc := 488) (v := 0) hx hb dL_law_488 (by decide) ?_
                                exact absurd (so_1 hf) (by decide)
                            · have hf := it_n hf c_121
                              by_cases c_133 : y_3 = 12
                              · have hf := it_p hf c_133
                                refine lv_tableIn (pc := 32) (tgt := 490) hx hb dL_law_32 (by rw [c_133]; decide) (by rw [c_133]; decide) (by rw [c_133]; rfl) (by decide) ?_
                                refine lv_aload_n (pc := 490) hx hb dL_law_490 rfl (lv_at hl 1 rfl) ?_
                                refine lv_aload_n (pc := 491) hx hb dL_law_491 rfl (lv_at hl 0 rfl) ?_
                                refine lv_iload_n (pc := 492) hx hb dL_law_492 rfl (lv_at hl 3 rfl) ?_
                                refine lv_iconst (pc := 493) (v := 1) hx hb dL_law_493 (by decide) ?_
                                refine lv_iadd (pc := 494) hx hb dL_law_494 ?_
                                obtain ⟨g_134, hf⟩ := gd_e hf
                                refine x_sld (pc := 495) C0 hX hbl X (Nat.not_le.mpr hbl) g_134 dL_law_495 ?_
                                obtain ⟨r_135, P_136, h_137, hf⟩ := b2_e hf
                                refine x_cv (pc := 496) (ws' := wd_TreeOdds G a P_136 ++ wd_Model G b S1) (As := [.int (xs (x3 + (1 : Int32)).toNatClampNeg)]) (rest := []) (ci := 8) (qr := 0) C0 KN X hA [0, 1, 2, 3, 4, 5, 6, 7, 8, 9, 10, 11, 12, 13, 14, 15, 16, 17, 18, 19, 20, 21, 22, 23, 24, 25, 26, 27, 28, 29, 30, 31, 32, 33, 34, 35, 36, 37, 38, 39, 40, 41, 42] [43, 44, 45, 46, 47, 48, 49, 50, 51, 52, 53, 54, 55, 56, 57, 58, 59, 60, 61] [19, 20, 21, 22, 23, 24, 25, 26, 27, 28, 29, 30, 31, 32, 33, 34, 35, 36, 37, 38, 39, 40, 41, 42, 43, 44, 45, 46, 47, 48, 49, 50, 51, 52, 53, 54, 55, 56, 57, 58, 59, 60, 61, 0, 1, 2, 3, 4, 5, 6, 7, 8, 9, 10, 11, 12, 13, 14, 15, 16, 17, 18] cu_C51 rfl cu_R51 rfl (by decide) (cu_J51 (S0 := S0) (S1 := S1)) rfl (ct_X8_best l G a S0 (xs (x3 + (1 : Int32)).toNatClampNeg) r_135 P_136 h_137) rfl rfl rfl kw_20_12 kw_20_9 kw_20_10 kw_20_11 kw_1_2 hd_X8_best ⟨by decide, by decide⟩ hl.1 rfl (Nat.le_of_ble_eq_true rfl) ⟨Nat.le_of_ble_eq_true rfl, Nat.le_of_ble_eq_true rfl⟩ dL_law_496 (fun H locs X => ?_)
                                refine W.eq (g2 := F0 m 499 ls [.int r_135]) rfl ?_
                                refine lv_aload_n (pc := 499) hx hb dL_law_499 rfl (lv_at hl 2 rfl) ?_
                                refine lv_aload_n (pc := 500) hx hb dL_law_500 rfl (lv_at hl 0 rfl) ?_
                                refine lv_iload_n (pc := 501) hx hb dL_law_501 rfl (lv_at hl 3 rfl) ?_
                                refine lv_iconst (pc := 502) (v := 1) hx hb dL_law_502 (by decide) ?_
                                refine lv_iadd (pc := 503) hx hb dL_law_503 ?_
                                obtain ⟨g_138, hf⟩ := gd_e hf
                                refine x_sld (pc := 504) C0 hX hbl X (Nat.not_le.mpr hbl) g_138 dL_law_504 ?_
                                obtain ⟨r_139, P_140, h_141, hf⟩ := b2_e hf
                                refine x_cv (pc := 505) (ws' := wd_TreeOdds G a P_136 ++ wd_Model G b P_140) (As := [.int (xs (x3 + (1 : Int32)).toNatClampNeg)]) (rest := [.int r_135]) (ci := 9) (qr := 43) C0 KN X hA [43, 44, 45, 46, 47, 48, 49, 50, 51, 52, 53, 54, 55, 56, 57, 58, 59, 60, 61] [0, 1, 2, 3, 4, 5, 6, 7, 8, 9, 10, 11, 12, 13, 14, 15, 16, 17, 18, 19, 20, 21, 22, 23, 24, 25, 26, 27, 28, 29, 30, 31, 32, 33, 34, 35, 36, 37, 38, 39, 40, 41, 42] [0, 1, 2, 3, 4, 5, 6, 7, 8, 9, 10, 11, 12, 13, 14, 15, 16, 17, 18, 19, 20, 21, 22, 23, 24, 25, 26, 27, 28, 29, 30, 31, 32, 33, 34, 35, 36, 37, 38, 39, 40, 41, 42, 43, 44, 45, 46, 47, 48, 49, 50, 51, 52, 53, 54, 55, 56, 57, 58, 59, 60, 61] cu_C52 rfl cu_R52 rfl (by decide) (cu_J52 (S0 := P_136) (S1 := S1)) rfl (ct_X9_best l G b S1 (xs (x3 + (1 : Int32)).toNatClampNeg) r_139 P_140 h_141) rfl rfl rfl kw_21_6 kw_21_3 kw_21_4 kw_21_5 kw_1_5 hd_X9_best ⟨by decide, by decide⟩ hl.1 rfl (Nat.le_of_ble_eq_true rfl) ⟨Nat.le_of_ble_eq_true rfl, Nat.le_of_ble_eq_true rfl⟩ dL_law_505 (fun H locs X => ?_)
                                refine W.eq (g2 := F0 m 508 ls [.int r_139, .int r_135]) rfl ?_
                                refine lv_icmp_eq (pc := 508) (tgt := 747) hx hb dL_law_508 (by decide) (fun c_142 => ?_) (fun c_142 => ?_)
                                · have hf := it_p hf c_142
                                  exact lb_L_law_747 C0 KN hA xs L hX hbl (fl_L_law_18 xs L n) ih _ _ _ hf _ _ _ X (lv_sub hl [0, 1, 2, 3] rfl)
                                · have hf := it_n hf c_142
                                  refine lv_iconst (pc := 511) (v := 0) hx hb dL_law_511 (by decide) ?_
                                  exact absurd (so_1 hf) (by decide)
                              · have hf := it_n hf c_133
                                by_cases c_143 : y_3 = 13
                                · have hf := it_p hf c_143
                                  refine lv_tableIn (pc := 32) (tgt := 513) hx hb dL_law_32 (by rw [c_143]; decide) (by rw [c_143]; decide) (by rw [c_143]; rfl) (by decide) ?_
                                  refine lv_aload_n (pc := 513) hx hb dL_law_513 rfl (lv_at hl 1 rfl) ?_
                                  refine lv_aload_n (pc := 514) hx hb dL_law_514 rfl (lv_at hl 0 rfl) ?_
                                  refine lv_iload_n (pc := 515) hx hb dL_law_515 rfl (lv_at hl 3 rfl) ?_
                                  refine lv_iconst (pc := 516) (v := 1) hx hb dL_law_516 (by decide) ?_
                                  refine lv_iadd (pc := 517) hx hb dL_law_517 ?_
                                  obtain ⟨g_144, hf⟩ := gd_e hf
                                  refine x_sld (pc := 518) C0 hX hbl X (Nat.not_le.mpr hbl) g_144 dL_law_518 ?_
                                  obtain ⟨r_145, P_146, h_147, hf⟩ := b2_e hf
                                  refine x_cv (pc := 519) (ws' := wd_TreeOdds G a P_146 ++ wd_Model G b S1) (As := [.int (xs (x3 + (1 : Int32)).toNatClampNeg)]) (rest := []) (ci := 8) (qr := 0) C0 KN X hA [0, 1, 2, 3, 4, 5, 6, 7, 8, 9, 10, 11, 12, 13, 14, 15, 16, 17, 18, 19, 20, 21, 22, 23, 24, 25, 26, 27, 28, 29, 30, 31, 32, 33, 34, 35, 36, 37, 38, 39, 40, 41, 42] [43, 44, 45, 46, 47, 48, 49, 50, 51, 52, 53, 54, 55, 56, 57, 58, 59, 60, 61] [19, 20, 21, 22, 23, 24, 25, 26, 27, 28, 29, 30, 31, 32, 33, 34, 35, 36, 37, 38, 39, 40, 41, 42, 43, 44, 45, 46, 47, 48, 49, 50, 51, 52, 53, 54, 55, 56, 57, 58, 59, 60, 61, 0, 1, 2, 3, 4, 5, 6, 7, 8, 9, 10, 11, 12, 13, 14, 15, 16, 17, 18] cu_C51 rfl cu_R51 rfl (by decide) (cu_J51 (S0 := S0) (S1 := S1)) rfl (ct_X8_follows l G a S0 (xs (x3 + (1 : Int32)).toNatClampNeg) r_145 P_146 h_147) rfl rfl rfl kw_21_11 kw_21_8 kw_21_9 kw_21_10 kw_1_2 hd_X8_follows ⟨by decide, by decide⟩ hl.1 rfl (Nat.le_of_ble_eq_true rfl) ⟨Nat.le_of_ble_eq_true rfl, Nat.le_of_ble_eq_true rfl⟩ dL_law_519 (fun H locs X => ?_)
                                  refine W.eq (g2 := F0 m 522 ls [.int r_145]) rfl ?_
                                  refine lv_aload_n (pc := 522) hx hb dL_law_522 rfl (lv_at hl 2 rfl) ?_
                                  refine lv_aload_n (pc := 523) hx hb dL_law_523 rfl (lv_at hl 0 rfl) ?_
                                  refine lv_iload_n (pc := 524) hx hb dL_law_524 rfl (lv_at hl 3 rfl) ?_
                                  refine lv_iconst (pc := 525) (v := 1) hx hb dL_law_525 (by decide) ?_
                                  refine lv_iadd (pc := 526) hx hb dL_law_526 ?_
                                  obtain ⟨g_148, hf⟩ := gd_e hf
                                  refine x_sld (pc := 527) C0 hX hbl X (Nat.not_le.mpr hbl) g_148 dL_law_527 ?_
                                  obtain ⟨r_149, P_150, h_151, hf⟩ := b2_e hf
                                  refine x_cv (pc := 528) (ws' := wd_TreeOdds G a P_146 ++ wd_Model G b P_150) (As := [.int (xs (x3 + (1 : Int32)).toNatClampNeg)]) (rest := [.int r_145]) (ci := 9) (qr := 43) C0 KN X hA [43, 44, 45, 46, 47, 48, 49, 50, 51, 52, 53, 54, 55, 56, 57, 58, 59, 60, 61] [0, 1, 2, 3, 4, 5, 6, 7, 8, 9, 10, 11, 12, 13, 14, 15, 16, 17, 18, 19, 20, 21, 22, 23, 24, 25, 26, 27, 28, 29, 30, 31, 32, 33, 34, 35, 36, 37, 38, 39, 40, 41, 42] [0, 1, 2, 3, 4, 5, 6, 7, 8, 9, 10, 11, 12, 13, 14, 15, 16, 17, 18, 19, 20, 21, 22, 23, 24, 25, 26, 27, 28, 29, 30, 31, 32, 33, 34, 35, 36, 37, 38, 39, 40, 41, 42, 43, 44, 45, 46, 47, 48, 49, 50, 51, 52, 53, 54, 55, 56, 57, 58, 59, 60, 61] cu_C52 rfl cu_R52 rfl (by decide) (cu_J52 (S0 := P_146) (S1 := S1)) rfl (ct_X9_follows l G b S1 (xs (x3 + (1 : Int32)).toNatClampNeg) r_149 P_150 h_151) rfl rfl rfl kw_21_17 kw_21_14 kw_21_15 kw_21_16 kw_1_5 hd_X9_follows ⟨by decide, by decide⟩ hl.1 rfl (Nat.le_of_ble_eq_true rfl) ⟨Nat.le_of_ble_eq_true rfl, Nat.le_of_ble_eq_true rfl⟩ dL_law_528 (fun H locs X => ?_)
                                  refine W.eq (g2 := F0 m 531 ls [.int r_149, .int r_145]) rfl ?_
                                  refine lv_icmp_eq (pc := 531) (tgt := 747) hx hb dL_law_531 (by decide) (fun c_152 => ?_) (fun c_152 => ?_)
                                  · have hf := it_p hf c_152
                                    exact lb_L_law_747 C0 KN hA xs L hX hbl (fl_L_law_18 xs L n) ih _ _ _ hf _ _ _ X (lv_sub hl [0, 1, 2, 3] rfl)
                                  · have hf := it_n hf c_152
                                    refine lv_iconst (pc := 534) (v := 0) hx hb dL_law_534 (by decide) ?_
                                    exact absurd (so_1 hf) (by decide)
                                · have hf := it_n hf c_143
                                  by_cases c_153 : y_3 = 14
                                  · have hf := it_p hf c_153
                                    refine lv_tableIn (pc := 32) (tgt := 536) hx hb dL_law_32 (by rw [c_153]; decide) (by rw [c_153]; decide) (by rw [c_153]; rfl) (by decide) ?_
                                    refine lv_aload_n (pc := 536) hx hb dL_law_536 rfl (lv_at hl 1 rfl) ?_
                                    refine lv_aload_n (pc := 537) hx hb dL_law_537 rfl (lv_at hl 0 rfl) ?_
                                    refine lv_iload_n (pc := 538) hx hb dL_law_538 rfl (lv_at hl 3 rfl) ?_
                                    refine lv_iconst (pc := 539) (v := 1) hx hb dL_law_539 (by decide) ?_
                                    refine lv_iadd (pc := 540) hx hb dL_law_540 ?_
                                    obtain ⟨g_154, hf⟩ := gd_e hf
                                    refine x_sld (pc := 541) C0 hX hbl X (Nat.not_le.mpr hbl) g_154 dL_law_541 ?_
                                    obtain ⟨r_155, P_156, h_157, hf⟩ := b2_e hf
                                    refine x_cv (pc := 542) (ws' := wd_TreeOdds G a P_156 ++ wd_Model G b S1) (As := [.int (xs (x3 + (1 : Int32)).toNatClampNeg)]) (rest := []) (ci := 8) (qr := 0) C0 KN X hA [0, 1, 2, 3, 4, 5, 6, 7, 8, 9, 10, 11, 12, 13, 14, 15, 16, 17, 18, 19, 20, 21, 22, 23, 24, 25, 26, 27, 28, 29, 30, 31, 32, 33, 34, 35, 36, 37, 38, 39, 40, 41, 42] [43, 44, 45, 46, 47, 48, 49, 50, 51, 52, 53, 54, 55, 56, 57, 58, 59, 60, 61] [19, 20, 21, 22, 23, 24, 25, 26, 27, 28, 29, 30, 31, 32, 33, 34, 35, 36, 37, 38, 39, 40, 41, 42, 43, 44, 45, 46, 47, 48, 49, 50, 51, 52, 53, 54, 55, 56, 57, 58, 59, 60, 61, 0, 1, 2, 3, 4, 5, 6, 7, 8, 9, 10, 11, 12, 13, 14, 15, 16, 17, 18] cu_C51 rfl cu_R51 rfl (by decide) (cu_J51 (S0 := S0) (S1 := S1)) rfl (ct_X8_tree l G a S0 (xs (x3 + (1 : Int32)).toNatClampNeg) r_155 P_156 h_157) rfl rfl rfl kw_21_22 kw_21_19 kw_21_20 kw_21_21 kw_1_2 hd_X8_tree ⟨by decide, by decide⟩ hl.1 rfl (Nat.le_of_ble_eq_true rfl) ⟨Nat.le_of_ble_eq_true rfl, Nat.le_of_ble_eq_true rfl⟩ dL_law_542 (fun H locs X => ?_)
                                    refine W.eq (g2 := F0 m 545 ls [.int r_155]) rfl ?_
                                    refine lv_aload_n (pc := 545) hx hb dL_law_545 rfl (lv_at hl 2 rfl) ?_
                                    refine lv_aload_n (pc := 546) hx hb dL_law_546 rfl (lv_at hl 0 rfl) ?_
                                    refine lv_iload_n (pc := 547) hx hb dL_law_547 rfl (lv_at hl 3 rfl) ?_
                                    refine lv_iconst (pc := 548) (v := 1) hx hb dL_law_548 (by decide) ?_
                                    refine lv_iadd (pc := 549) hx hb dL_law_549 ?_
                                    obtain ⟨g_158, hf⟩ := gd_e hf
                                    refine x_sld (pc := 550) C0 hX hbl X (Nat.not_le.mpr hbl) g_158 dL_law_550 ?_
                                    obtain ⟨r_159, P_160, h_161, hf⟩ := b2_e hf
                                    refine x_cv (pc := 551) (ws' := wd_TreeOdds G a P_156 ++ wd_Model G b P_160) (As := [.int (xs (x3 + (1 : Int32)).toNatClampNeg)]) (rest := [.int r_155]) (ci := 9) (qr := 43) C0 KN X hA [43, 44, 45, 46, 47, 48, 49, 50, 51, 52, 53, 54, 55, 56, 57, 58, 59, 60, 61] [0, 1, 2, 3, 4, 5, 6, 7, 8, 9, 10, 11, 12, 13, 14, 15, 16, 17, 18, 19, 20, 21, 22, 23, 24, 25, 26, 27, 28, 29, 30, 31, 32, 33, 34, 35, 36, 37, 38, 39, 40, 41, 42] [0, 1, 2, 3, 4, 5, 6, 7, 8, 9, 10, 11, 12, 13, 14, 15, 16, 17, 18, 19, 20, 21, 22, 23, 24, 25, 26, 27, 28, 29, 30, 31, 32, 33, 34, 35, 36, 37, 38, 39, 40, 41, 42, 43, 44, 45, 46, 47, 48, 49, 50, 51, 52, 53, 54, 55, 56, 57, 58, 59, 60, 61] cu_C52 rfl cu_R52 rfl (by decide) (cu_J52 (S0 := P_156) (S1 := S1)) rfl (ct_X9_tree l G b S1 (xs (x3 + (1 : Int32)).toNatClampNeg) r_159 P_160 h_161) rfl rfl rfl kw_22_22 kw_22_19 kw_22_20 kw_22_21 kw_1_5 hd_X9_tree ⟨by decide, by decide⟩ hl.1 rfl (Nat.le_of_ble_eq_true rfl) ⟨Nat.le_of_ble_eq_true rfl, Nat.le_of_ble_eq_true rfl⟩ dL_law_551 (fun H locs X => ?_)
                                    refine W.eq (g2 := F0 m 554 ls [.int r_159, .int r_155]) rfl ?_
                                    refine lv_icmp_eq (pc := 554) (tgt := 747) hx hb dL_law_554 (by decide) (fun c_162 => ?_) (fun c_162 => ?_)
                                    · have hf := it_p hf c_162
                                      exact lb_L_law_747 C0 KN hA xs L hX hbl (fl_L_law_18 xs L n) ih _ _ _ hf _ _ _ X (lv_sub hl [0, 1, 2, 3] rfl)
                                    · have hf := it_n hf c_162
                                      refine lv_iconst (pc := 557) (v := 0) hx hb dL_law_557 (by decide) ?_
                                      exact absurd (so_1 hf) (by decide)
                                  · have hf := it_n hf c_153
                                    by_cases c_163 : y_3 = 15
                                    · have hf := it_p hf c_163
                                      refine lv_tableIn (pc := 32) (tgt := 559) hx hb dL_law_32 (by rw [c_163]; decide) (by rw [c_163]; decide) (by rw [c_163]; rfl) (by decide) ?_
                                      refine lv_aload_n (pc := 559) hx hb dL_law_559 rfl (lv_at hl 1 rfl) ?_
                                      refine lv_aload_n (pc := 560) hx hb dL_law_560 rfl (lv_at hl 0 rfl) ?_
                                      refine lv_iload_n (pc := 561) hx hb dL_law_561 rfl (lv_at hl 3 rfl) ?_
                                      refine lv_iconst (pc := 562) (v := 1) hx hb dL_law_562 (by decide) ?_
                                      refine lv_iadd (pc := 563) hx hb dL_law_563 ?_
                                      obtain ⟨g_164, hf⟩ := gd_e hf
                                      refine x_sld (pc := 564) C0 hX hbl X (Nat.not_le.mpr hbl) g_164 dL_law_564 ?_
                                      refine lv_aload_n (pc := 565) hx hb dL_law_565 rfl (lv_at hl 0 rfl) ?_
                                      refine lv_iload_n (pc := 566) hx hb dL_law_566 rfl (lv_at hl 3 rfl) ?_
                                      refine lv_iconst (pc := 567) (v := 2) hx hb dL_law_567 (by decide) ?_
                                      refine lv_iadd (pc := 568) hx hb dL_law_568 ?_
                                      obtain ⟨g_165, hf⟩ := gd_e hf
                                      refine x_sld (pc := 569) C0 hX hbl X (Nat.not_le.mpr hbl) g_165 dL_law_569 ?_
                                      obtain ⟨r_166, P_167, h_168, hf⟩ := b2_e hf
                                      refine x_cv (pc := 570) (ws' := wd_TreeOdds G a P_167 ++ wd_Model G b S1) (As := [.int (xs (x3 + (1 : Int32)).toNatClampNeg), .int (xs (x3 + (2 : Int32)).toNatClampNeg)]) (rest := []) (ci := 8) (qr := 0) C0 KN X hA [0, 1, 2, 3, 4, 5, 6, 7, 8, 9, 10, 11, 12, 13, 14, 15, 16, 17, 18, 19, 20, 21, 22, 23, 24, 25, 26, 27, 28, 29, 30, 31, 32, 33, 34, 35, 36, 37, 38, 39, 40, 41, 42] [43, 44, 45, 46, 47, 48, 49, 50, 51, 52, 53, 54, 55, 56, 57, 58, 59, 60, 61] [19, 20, 21, 22, 23, 24, 25, 26, 27, 28, 29, 30, 31, 32, 33, 34, 35, 36, 37, 38, 39, 40, 41, 42, 43, 44, 45, 46, 47, 48, 49, 50, 51, 52, 53, 54, 55, 56, 57, 58, 59, 60, 61, 0, 1, 2, 3, 4, 5, 6, 7, 8, 9, 10, 11, 12, 13, 14, 15, 16, 17, 18] cu_C51 rfl cu_R51 rfl (by decide) (cu_J51 (S0 := S0) (S1 := S1)) rfl (ct_X8_leaf l G a S0 (xs (x3 + (1 : Int32)).toNatClampNeg) (xs (x3 + (2 : Int32)).toNatClampNeg) r_166 P_167 h_168) rfl rfl rfl kw_23_14 kw_23_11 kw_23_12 kw_23_13 kw_1_2 hd_X8_leaf ⟨by decide, by decide⟩ hl.1 rfl (Nat.le_of_ble_eq_true rfl) ⟨Nat.le_of_ble_eq_true rfl, Nat.le_of_ble_eq_true rfl⟩ dL_law_570 (fun H locs X => ?_)
                                      refine W.eq (g2 := F0 m 573 ls [.int r_166]) rfl ?_
                                      refine lv_aload_n (pc := 573) hx hb dL_law_573 rfl (lv_at hl 2 rfl) ?_
                                      refine lv_aload_n (pc := 574) hx hb dL_law_574 rfl (lv_at hl 0 rfl) ?_
                                      refine lv_iload_n (pc := 575) hx hb dL_law_575 rfl (lv_at hl 3 rfl) ?_
                                      refine lv_iconst (pc := 576) (v := 1) hx hb dL_law_576 (by decide) ?_
                                      refine lv_iadd (pc := 577) hx hb dL_law_577 ?_
                                      obtain ⟨g_169, hf⟩ := gd_e hf
                                      refine x_sld (pc := 578) C0 hX hbl X (Nat.not_le.mpr hbl) g_169 dL_law_578 ?_
                                      refine lv_aload_n (pc := 579) hx hb dL_law_579 rfl (lv_at hl 0 rfl) ?_
                                      refine lv_iload_n (pc := 580) hx hb dL_law_580 rfl (lv_at hl 3 rfl) ?_
                                      refine lv_iconst (pc := 581) (v := 2) hx hb dL_law_581 (by decide) ?_
                                      refine lv_iadd (pc := 582) hx hb dL_law_582 ?_
                                      obtain ⟨g_170, hf⟩ := gd_e hf
                                      refine x_sld (pc := 583) C0 hX hbl X (Nat.not_le.mpr hbl) g_170 dL_law_583 ?_
                                      obtain ⟨r_171, P_172, h_173, hf⟩ := b2_e hf
                                      refine x_cv (pc := 584) (ws' := wd_TreeOdds G a P_167 ++ wd_Model G b P_172) (As := [.int (xs (x3 + (1 : Int32)).toNatClampNeg), .int (xs (x3 + (2 : Int32)).toNatClampNeg)]) (rest := [.int r_166]) (ci := 9) (qr := 43) C0 KN X hA [43, 44, 45, 46, 47, 48, 49, 50, 51, 52, 53, 54, 55, 56, 57, 58, 59, 60, 61] [0, 1, 2, 3, 4, 5, 6, 7, 8, 9, 10, 11, 12, 13, 14, 15, 16, 17, 18, 19, 20, 21, 22, 23, 24, 25, 26, 27, 28, 29, 30, 31, 32, 33, 34, 35, 36, 37, 38, 39, 40, 41, 42] [0, 1, 2, 3, 4, 5, 6, 7, 8, 9, 10, 11, 12, 13, 14, 15, 16, 17, 18, 19, 20, 21, 22, 23, 24, 25, 26, 27, 28, 29, 30, 31, 32, 33, 34, 35, 36, 37, 38, 39, 40, 41, 42, 43, 44, 45, 46, 47, 48, 49, 50, 51, 52, 53, 54, 55, 56, 57, 58, 59, 60, 61] cu_C52 rfl cu_R52 rfl (by decide) (cu_J52 (S0 := P_167) (S1 := S1)) rfl (ct_X9_leaf l G b S1 (xs (x3 + (1 : Int32)).toNatClampNeg) (xs (x3 + (2 : Int32)).toNatClampNeg) r_171 P_172 h_173) rfl rfl rfl kw_23_19 kw_23_16 kw_23_17 kw_23_18 kw_1_5 hd_X9_leaf ⟨by decide, by decide⟩ hl.1 rfl (Nat.le_of_ble_eq_true rfl) ⟨Nat.le_of_ble_eq_true rfl, Nat.le_of_ble_eq_true rfl⟩ dL_law_584 (fun H locs X => ?_)
                                      refine W.eq (g2 := F0 m 587 ls [.int r_171, .int r_166]) rfl ?_
                                      refine lv_icmp_eq (pc := 587) (tgt := 747) hx hb dL_law_587 (by decide) (fun c_174 => ?_) (fun c_174 => ?_)
                                      · have hf := it_p hf c_174
                                        exact lb_L_law_747 C0 KN hA xs L hX hbl (fl_L_law_18 xs L n) ih _ _ _ hf _ _ _ X (lv_sub hl [0, 1, 2, 3] rfl)
                                      · have hf := it_n hf c_174
                                        refine lv_iconst (pc := 590) (v := 0) hx hb dL_law_590 (by decide) ?_
                                        exact absurd (so_1 hf) (by decide)
                                    · have hf := it_n hf c_163
                                      by_cases c_175 : y_3 = 16
                                      · have hf := it_p hf c_175
                                        refine lv_tableIn (pc := 32) (tgt := 592) hx hb dL_law_32 (by rw [c_175]; decide) (by rw [c_175]; decide) (by rw [c_175]; rfl) (by decide) ?_
                                        refine lv_aload_n (pc := 592) hx hb dL_law_592 rfl (lv_at hl 1 rfl) ?_
                                        refine lv_aload_n (pc := 593) hx hb dL_law_593 rfl (lv_at hl 0 rfl) ?_
                                        refine lv_iload_n (pc := 594) hx hb dL_law_594 rfl (lv_at hl 3 rfl) ?_
                                        refine lv_iconst (pc := 595) (v := 1) hx hb dL_law_595 (by decide) ?_
                                        refine lv_iadd (pc := 596) hx hb dL_law_596 ?_
                                        obtain ⟨g_176, hf⟩ := gd_e hf
                                        refine x_sld (pc := 597) C0 hX hbl X (Nat.not_le.mpr hbl) g_176 dL_law_597 ?_
                                        obtain ⟨r_177, P_178, h_179, hf⟩ := b2_e hf
                                        refine x_cv (pc := 598) (ws' := wd_TreeOdds G a P_178 ++ wd_Model G b S1) (As := [.int (xs (x3 + (1 : Int32)).toNatClampNeg)]) (rest := []) (ci := 8) (qr := 0) C0 KN X hA [0, 1, 2, 3, 4, 5, 6, 7, 8, 9, 10, 11, 12, 13, 14, 15, 16, 17, 18, 19, 20, 21, 22, 23, 24, 25, 26, 27, 28, 29, 30, 31, 32, 33, 34, 35, 36, 37, 38, 39, 40, 41, 42] [43, 44, 45, 46, 47, 48, 49, 50, 51, 52, 53, 54, 55, 56, 57, 58, 59, 60, 61] [19, 20, 21, 22, 23, 24, 25, 26, 27, 28, 29, 30, 31, 32, 33, 34, 35, 36, 37, 38, 39, 40, 41, 42, 43, 44, 45, 46, 47, 48, 49, 50, 51, 52, 53, 54, 55, 56, 57, 58, 59, 60, 61, 0, 1, 2, 3, 4, 5, 6, 7, 8, 9, 10, 11, 12, 13, 14, 15, 16, 17, 18] cu_C51 rfl cu_R51 rfl (by decide) (cu_J51 (S0 := S0) (S1 := S1)) rfl (ct_X8_written l G a S0 (xs (x3 + (1 : Int32)).toNatClampNeg) r_177 P_178 h_179) rfl rfl rfl kw_23_23 kw_23_20 kw_23_21 kw_23_22 kw_1_2 hd_X8_written ⟨by decide, by decide⟩ hl.1 rfl (Nat.le_of_ble_eq_true rfl) ⟨Nat.le_of_ble_eq_true rfl, Nat.le_of_ble_eq_true rfl⟩ dL_law_598 (fun H locs X => ?_)
                                        refine W.eq (g2 := F0 m 601 ls [.int r_177]) rfl ?_
                                        refine lv_aload_n (pc := 601) hx hb dL_law_601 rfl (lv_at hl 2 rfl) ?_
                                        refine lv_aload_n (pc := 602) hx hb dL_law_602 rfl (lv_at hl 0 rfl) ?_
                                        refine lv_iload_n (pc := 603) hx hb dL_law_603 rfl (lv_at hl 3 rfl) ?_
                                        refine lv_iconst (pc := 604) (v := 1) hx hb dL_law_604 (by decide) ?_
                                        refine lv_iadd (pc := 605) hx hb dL_law_605 ?_
                                        obtain ⟨g_180, hf⟩ := gd_e hf
                                        refine x_sld (pc := 606) C0 hX hbl X (Nat.not_le.mpr hbl) g_180 dL_law_606 ?_
                                        obtain ⟨r_181, P_182, h_183, hf⟩ := b2_e hf
                                        refine x_cv (pc := 607) (ws' := wd_TreeOdds G a P_178 ++ wd_Model G b P_182) (As := [.int (xs (x3 + (1 : Int32)).toNatClampNeg)]) (rest := [.int r_177]) (ci := 9) (qr := 43) C0 KN X hA [43, 44, 45, 46, 47, 48, 49, 50, 51, 52, 53, 54, 55, 56, 57, 58, 59, 60, 61] [0, 1, 2, 3, 4, 5, 6, 7, 8, 9, 10, 11, 12, 13, 14, 15, 16, 17, 18, 19, 20, 21, 22, 23, 24, 25, 26, 27, 28, 29, 30, 31, 32, 33, 34, 35, 36, 37, 38, 39, 40, 41, 42] [0, 1, 2, 3, 4, 5, 6, 7, 8, 9, 10, 11, 12, 13, 14, 15, 16, 17, 18, 19, 20, 21, 22, 23, 24, 25, 26, 27, 28, 29, 30, 31, 32, 33, 34, 35, 36, 37, 38, 39, 40, 41, 42, 43, 44, 45, 46, 47, 48, 49, 50, 51, 52, 53, 54, 55, 56, 57, 58, 59, 60, 61] cu_C52 rfl cu_R52 rfl (by decide) (cu_J52 (S0 := P_178) (S1 := S1)) rfl (ct_X9_written l G b S1 (xs (x3 + (1 : Int32)).toNatClampNeg) r_181 P_182 h_183) rfl rfl rfl kw_25_11 kw_25_8 kw_25_9 kw_25_10 kw_1_5 hd_X9_written ⟨by decide, by decide⟩ hl.1 rfl (Nat.le_of_ble_eq_true rfl) ⟨Nat.le_of_ble_eq_true rfl, Nat.le_of_ble_eq_true rfl⟩ dL_law_607 (fun H locs X => ?_)
                                        refine W.eq (g2 := F0 m 610 ls [.int r_181, .int r_177]) rfl ?_
                                        refine lv_icmp_eq (pc := 610) (tgt := 747) hx hb dL_law_610 (by decide) (fun c_184 => ?_) (fun c_184 => ?_)
                                        · have hf := it_p hf c_184
                                          exact lb_L_law_747 C0 KN hA xs L hX hbl (fl_L_law_18 xs L n) ih _ _ _ hf _ _ _ X (lv_sub hl [0, 1, 2, 3] rfl)
                                        · have hf := it_n hf c_184
                                          refine lv_iconst (pc := 613) (v := 0) hx hb dL_law_613 (by decide) ?_
                                          exact absurd (so_1 hf) (by decide)
                                      · have hf := it_n hf c_175
                                        by_cases c_185 : y_3 = 17
                                        · have hf := it_p hf c_185
                                          refine lv_tableIn (pc := 32) (tgt := 615) hx hb dL_law_32 (by rw [c_185]; decide) (by rw [c_185]; decide) (by rw [c_185]; rfl) (by decide) ?_
                                          refine lv_aload_n (pc := 615) hx hb dL_law_615 rfl (lv_at hl 1 rfl) ?_
                                          refine lv_aload_n (pc := 616) hx hb dL_law_616 rfl (lv_at hl 0 rfl) ?_
                                          refine lv_iload_n (pc := 617) hx hb dL_law_617 rfl (lv_at hl 3 rfl) ?_
                                          refine lv_iconst (pc := 618) (v := 1) hx hb dL_law_618 (by decide) ?_
                                          refine lv_iadd (pc := 619) hx hb dL_law_619 ?_
                                          obtain ⟨g_186, hf⟩ := gd_e hf
                                          refine x_sld (pc := 620) C0 hX hbl X (Nat.not_le.mpr hbl) g_186 dL_law_620 ?_
                                          refine lv_aload_n (pc := 621) hx hb dL_law_621 rfl (lv_at hl 0 rfl) ?_
                                          refine lv_iload_n (pc := 622) hx hb dL_law_622 rfl (lv_at hl 3 rfl) ?_
                                          refine lv_iconst (pc := 623) (v := 2) hx hb dL_law_623 (by decide) ?_
                                          refine lv_iadd (pc := 624) hx hb dL_law_624 ?_
                                          obtain ⟨g_187, hf⟩ := gd_e hf
                                          refine x_sld (pc := 625) C0 hX hbl X (Nat.not_le.mpr hbl) g_187 dL_law_625 ?_
                                          obtain ⟨r_188, P_189, h_190, hf⟩ := b2_e hf
                                          refine x_cv (pc := 626) (ws' := wd_TreeOdds G a P_189 ++ wd_Model G b S1) (As := [.int (xs (x3 + (1 : Int32)).toNatClampNeg), .int (xs (x3 + (2 : Int32)).toNatClampNeg)]) (rest := []) (ci := 8) (qr := 0) C0 KN X hA [0, 1, 2, 3, 4, 5, 6, 7, 8, 9, 10, 11, 12, 13, 14, 15, 16, 17, 18, 19, 20, 21, 22, 23, 24, 25, 26, 27, 28, 29, 30, 31, 32, 33, 34, 35, 36, 37, 38, 39, 40, 41, 42] [43, 44, 45, 46, 47, 48, 49, 50, 51, 52, 53, 54, 55, 56, 57, 58, 59, 60, 61] [19, 20, 21, 22, 23, 24, 25, 26, 27, 28, 29, 30, 31, 32, 33, 34, 35, 36, 37, 38, 39, 40, 41, 42, 43, 44, 45, 46, 47, 48, 49, 50, 51, 52, 53, 54, 55, 56, 57, 58, 59, 60, 61, 0, 1, 2, 3, 4, 5, 6, 7, 8, 9, 10, 11, 12, 13, 14, 15, 16, 17, 18] cu_C51 rfl cu_R51 rfl (by decide) (cu_J51 (S0 := S0) (S1 := S1)) rfl (ct_X8_reads l G a S0 (xs (x3 + (1 : Int32)).toNatClampNeg) (xs (x3 + (2 : Int32)).toNatClampNeg) r_188 P_189 h_190) rfl rfl rfl kw_26_5 kw_26_2 kw_26_3 kw_26_4 kw_1_2 hd_X8_reads ⟨by decide, by decide⟩ hl.1 rfl (Nat.le_of_ble_eq_true rfl) ⟨Nat.le_of_ble_eq_true rfl, Nat.le_of_ble_eq_true rfl⟩ dL_law_626 (fun H locs X => ?_)
                                          refine W.eq (g2 := F0 m 629 ls [.int r_188]) rfl ?_
                                          refine lv_aload_n (pc := 629) hx hb dL_law_629 rfl (lv_at hl 2 rfl) ?_
                                          refine lv_aload_n (pc := 630) hx hb dL_law_630 rfl (lv_at hl 0 rfl) ?_
                                          refine lv_iload_n (pc := 631) hx hb dL_law_631 rfl (lv_at hl 3 rfl) ?_
                                          refine lv_iconst (pc := 632) (v := 1) hx hb dL_law_632 (by decide) ?_
                                          refine lv_iadd (pc := 633) hx hb dL_law_633 ?_
                                          obtain ⟨g_191, hf⟩ := gd_e hf
                                          refine x_sld (pc := 634) C0 hX hbl X (Nat.not_le.mpr hbl) g_191 dL_law_634 ?_
                                          refine lv_aload_n (pc := 635) hx hb dL_law_635 rfl (lv_at hl 0 rfl) ?_
                                          refine lv_iload_n (pc := 636) hx hb dL_law_636 rfl (lv_at hl 3 rfl) ?_
                                          refine lv_iconst (pc := 637) (v := 2) hx hb dL_law_637 (by decide) ?_
                                          refine lv_iadd (pc := 638) hx hb dL_law_638 ?_
                                          obtain ⟨g_192, hf⟩ := gd_e hf
                                          refine x_sld (pc := 639) C0 hX hbl X (Nat.not_le.mpr hbl) g_192 dL_law_639 ?_
                                          obtain ⟨r_193, P_194, h_195, hf⟩ := b2_e hf
                                          refine x_cv (pc := 640) (ws' := wd_TreeOdds G a P_189 ++ wd_Model G b P_194) (As := [.int (xs (x3 + (1 : Int32)).toNatClampNeg), .int (xs (x3 + (2 : Int32)).toNatClampNeg)]) (rest := [.int r_188]) (ci := 9) (qr := 43) C0 KN X hA [43, 44, 45, 46, 47, 48, 49, 50, 51, 52, 53, 54, 55, 56, 57, 58, 59, 60, 61] [0, 1, 2, 3, 4, 5, 6, 7, 8, 9, 10, 11, 12, 13, 14, 15, 16, 17, 18, 19, 20, 21, 22, 23, 24, 25, 26, 27, 28, 29, 30, 31, 32, 33, 34, 35, 36, 37, 38, 39, 40, 41, 42] [0, 1, 2, 3, 4, 5, 6, 7, 8, 9, 10, 11, 12, 13, 14, 15, 16, 17, 18, 19, 20, 21, 22, 23, 24, 25, 26, 27, 28, 29, 30, 31, 32, 33, 34, 35, 36, 37, 38, 39, 40, 41, 42, 43, 44, 45, 46, 47, 48, 49, 50, 51, 52, 53, 54, 55, 56, 57, 58, 59, 60, 61] cu_C52 rfl cu_R52 rfl (by decide) (cu_J52 (S0 := P_189) (S1 := S1)) rfl (ct_X9_reads l G b S1 (xs (x3 + (1 : Int32)).toNatClampNeg) (xs (x3 + (2 : Int32)).toNatClampNeg) r_193 P_194 h_195) rfl rfl rfl kw_27_8 kw_27_5 kw_27_6 kw_27_7 kw_1_5 hd_X9_reads ⟨by decide, by decide⟩ hl.1 rfl (Nat.le_of_ble_eq_true rfl) ⟨Nat.le_of_ble_eq_true rfl, Nat.le_of_ble_eq_true rfl⟩ dL_law_640 (fun H locs X => ?_)
                                          refine W.eq (g2 := F0 m 643 ls [.int r_193, .int r_188]) rfl ?_
                                          refine lv_icmp_eq (pc := 643) (tgt := 747) hx hb dL_law_643 (by decide) (fun c_196 => ?_) (fun c_196 => ?_)
                                          · have hf := it_p hf c_196
                                            exact lb_L_law_747 C0 KN hA xs L hX hbl (fl_L_law_18 xs L n) ih _ _ _ hf _ _ _ X (lv_sub hl [0, 1, 2, 3] rfl)
                                          · have hf := it_n hf c_196
                                            refine lv_iconst (pc := 646) (v := 0) hx hb dL_law_646 (by decide) ?_
                                            exact absurd (so_1 hf) (by decide)
                                        · have hf := it_n hf c_185
                                          by_cases c_197 : y_3 = 18
                                          · have hf := it_p hf c_197
                                            refine lv_tableIn (pc := 32) (tgt := 648) hx hb dL_law_32 (by rw [c_197]; decide) (by rw [c_197]; decide) (by rw [c_197]; rfl) (by decide) ?_
                                            refine lv_aload_n (pc := 648) hx hb dL_law_648 rfl (lv_at hl 1 rfl) ?_
                                            refine lv_aload_n (pc := 649) hx hb dL_law_649 rfl (lv_at hl 0 rfl) ?_
                                            refine lv_iload_n (pc := 650) hx hb dL_law_650 rfl (lv_at hl 3 rfl) ?_
                                            refine lv_iconst (pc := 651) (v := 1) hx hb dL_law_651 (by decide) ?_
                                            refine lv_iadd (pc := 652) hx hb dL_law_652 ?_
                                            obtain ⟨g_198, hf⟩ := gd_e hf
                                            refine x_sld (pc := 653) C0 hX hbl X (Nat.not_le.mpr hbl) g_198 dL_law_653 ?_
                                            obtain ⟨r_199, P_200, h_201, hf⟩ := b2_e hf
                                            refine x_cv (pc := 654) (ws' := wd_TreeOdds G a P_200 ++ wd_Model G b S1) (As := [.int (xs (x3 + (1 : Int32)).toNatClampNeg)]) (rest := []) (ci := 8) (qr := 0) C0 KN X hA [0, 1, 2, 3, 4, 5, 6, 7, 8, 9, 10, 11, 12, 13, 14, 15, 16, 17, 18, 19, 20, 21, 22, 23, 24, 25, 26, 27, 28, 29, 30, 31, 32, 33, 34, 35, 36, 37, 38, 39, 40, 41, 42] [43, 44, 45, 46, 47, 48, 49, 50, 51, 52, 53, 54, 55, 56, 57, 58, 59, 60, 61] [19, 20, 21, 22, 23, 24, 25, 26, 27, 28, 29, 30, 31, 32, 33, 34, 35, 36, 37, 38, 39, 40, 41, 42, 43, 44, 45, 46, 47, 48, 49, 50, 51, 52, 53, 54, 55, 56, 57, 58, 59, 60, 61, 0, 1, 2, 3, 4, 5, 6, 7, 8, 9, 10, 11, 12, 13, 14, 15, 16, 17, 18] cu_C51 rfl cu_R51 rfl (by decide) (cu_J51 (S0 := S0) (S1 := S1)) rfl (ct_X8_type l G a S0 (xs (x3 + (1 : Int32)).toNatClampNeg) r_199 P_200 h_201) rfl rfl rfl kw_27_17 kw_27_14 kw_27_15 kw_27_16 kw_1_2 hd_X8_type ⟨by decide, by decide⟩ hl.1 rfl (Nat.le_of_ble_eq_true rfl) ⟨Nat.le_of_ble_eq_true rfl, Nat.le_of_ble_eq_true rfl⟩ dL_law_654 (fun H locs X => ?_)
                                            refine W.eq (g2 := F0 m 657 ls [.int r_199]) rfl ?_
                                            refine lv_aload_n (pc := 657) hx hb dL_law_657 rfl (lv_at hl 2 rfl) ?_
                                            refine lv_aload_n (pc := 658) hx hb dL_law_658 rfl (lv_at hl 0 rfl) ?_
                                            refine lv_iload_n (pc := 659) hx hb dL_law_659 rfl (lv_at hl 3 rfl) ?_
                                            refine lv_iconst (pc := 660) (v := 1) hx hb dL_law_660 (by decide) ?_
                                            refine lv_iadd (pc := 661) hx hb dL_law_661 ?_
                                            obtain ⟨g_202, hf⟩ := gd_e hf
                                            refine x_sld (pc := 662) C0 hX hbl X (Nat.not_le.mpr hbl) g_202 dL_law_662 ?_
                                            obtain ⟨r_203, P_204, h_205, hf⟩ := b2_e hf
                                            refine x_cv (pc := 663) (ws' := wd_TreeOdds G a P_200 ++ wd_Model G b P_204) (As := [.int (xs (x3 + (1 : Int32)).toNatClampNeg)]) (rest := [.int r_199]) (ci := 9) (qr := 43) C0 KN X hA [43, 44, 45, 46, 47, 48, 49, 50, 51, 52, 53, 54, 55, 56, 57, 58, 59, 60, 61] [0, 1, 2, 3, 4, 5, 6, 7, 8, 9, 10, 11, 12, 13, 14, 15, 16, 17, 18, 19, 20, 21, 22, 23, 24, 25, 26, 27, 28, 29, 30, 31, 32, 33, 34, 35, 36, 37, 38, 39, 40, 41, 42] [0, 1, 2, 3, 4, 5, 6, 7, 8, 9, 10, 11, 12, 13, 14, 15, 16, 17, 18, 19, 20, 21, 22, 23, 24, 25, 26, 27, 28, 29, 30, 31, 32, 33, 34, 35, 36, 37, 38, 39, 40, 41, 42, 43, 44, 45, 46, 47, 48, 49, 50, 51, 52, 53, 54, 55, 56, 57, 58, 59, 60, 61] cu_C52 rfl cu_R52 rfl (by decide) (cu_J52 (S0 := P_200) (S1 := S1)) rfl (ct_X9_type l G b S1 (xs (x3 + (1 : Int32)).toNatClampNeg) r_203 P_204 h_205) rfl rfl rfl kw_28_2 kw_27_23 kw_28_0 kw_28_1 kw_1_5 hd_X9_type ⟨by decide, by decide⟩ hl.1 rfl (Nat.le_of_ble_eq_true rfl) ⟨Nat.le_of_ble_eq_true rfl, Nat.le_of_ble_eq_true rfl⟩ dL_law_663 (fun H locs X => ?_)
                                            refine W.eq (g2 := F0 m 666 ls [.int r_203, .int r_199]) rfl ?_
                                            refine lv_icmp_eq (pc := 666) (tgt := 747) hx hb dL_law_666 (by decide) (fun c_206 => ?_) (fun c_206 => ?_)
                                            · have hf := it_p hf c_206
                                              exact lb_L_law_747 C0 KN hA xs L hX hbl (fl_L_law_18 xs L n) ih _ _ _ hf _ _ _ X (lv_sub hl [0, 1, 2, 3] rfl)
                                            · have hf := it_n hf c_206
                                              refine lv_iconst (pc := 669) (v := 0) hx hb dL_law_669 (by decide) ?_
                                              exact absurd (so_1 hf) (by decide)
                                          · have hf := it_n hf c_197
                                            by_cases c_207 : y_3 = 19
                                            · have hf := it_p hf c_207
                                              refine lv_tableIn (pc := 32) (tgt := 671) hx hb dL_law_32 (by rw [c_207]; decide) (by rw [c_207]; decide) (by rw [c_207]; rfl) (by decide) ?_
                                              refine lv_aload_n (pc := 671) hx hb dL_law_671 rfl (lv_at hl 1 rfl) ?_
                                              obtain ⟨r_208, P_209, h_210, hf⟩ := b2_e hf
                                              refine x_cv (pc := 672) (ws' := wd_TreeOdds G a P_209 ++ wd_Model G b S1) (As := []) (rest := []) (ci := 8) (qr := 0) C0 KN X hA [0, 1, 2, 3, 4, 5, 6, 7, 8, 9, 10, 11, 12, 13, 14, 15, 16, 17, 18, 19, 20, 21, 22, 23, 24, 25, 26, 27, 28, 29, 30, 31, 32, 33, 34, 35, 36, 37, 38, 39, 40, 41, 42] [43, 44, 45, 46, 47, 48, 49, 50, 51, 52, 53, 54, 55, 56, 57, 58, 59, 60, 61] [19, 20, 21, 22, 23, 24, 25, 26, 27, 28, 29, 30, 31, 32, 33, 34, 35, 36, 37, 38, 39, 40, 41, 42, 43, 44, 45, 46, 47, 48, 49, 50, 51, 52, 53, 54, 55, 56, 57, 58, 59, 60, 61, 0, 1, 2, 3, 4, 5, 6, 7, 8, 9, 10, 11, 12, 13, 14, 15, 16, 17, 18] cu_C51 rfl cu_R51 rfl (by decide) (cu_J51 (S0 := S0) (S1 := S1)) rfl (ct_X8_clear l G a S0 r_208 P_209 h_210) rfl rfl rfl kw_28_8 kw_28_5 kw_28_6 kw_28_7 kw_1_2 hd_X8_clear ⟨by decide, by decide⟩ hl.1 rfl (Nat.le_of_ble_eq_true rfl) ⟨Nat.le_of_ble_eq_true rfl, Nat.le_of_ble_eq_true rfl⟩ dL_law_672 (fun H locs X => ?_)
                                              refine W.eq (g2 := F0 m 675 ls [.int r_208]) rfl ?_
                                              refine lv_aload_n (pc := 675) hx hb dL_law_675 rfl (lv_at hl 2 rfl) ?_
                                              obtain ⟨r_211, P_212, h_213, hf⟩ := b2_e hf
                                              refine x_cv (pc := 676) (ws' := wd_TreeOdds G a P_209 ++ wd_Model G b P_212) (As := []) (rest := [.int r_208]) (ci := 9) (qr := 43) C0 KN X hA [43, 44, 45, 46, 47, 48, 49, 50, 51, 52, 53, 54, 55, 56, 57, 58, 59, 60, 61] [0, 1, 2, 3, 4, 5, 6, 7, 8, 9, 10, 11, 12, 13, 14, 15, 16, 17, 18, 19, 20, 21, 22, 23, 24, 25, 26, 27, 28, 29, 30, 31, 32, 33, 34, 35, 36, 37, 38, 39, 40, 41, 42] [0, 1, 2, 3, 4, 5, 6, 7, 8, 9, 10, 11, 12, 13, 14, 15, 16, 17, 18, 19, 20, 21, 22, 23, 24, 25, 26, 27, 28, 29, 30, 31, 32, 33, 34, 35, 36, 37, 38, 39, 40, 41, 42, 43, 44, 45, 46, 47, 48, 49, 50, 51, 52, 53, 54, 55, 56, 57, 58, 59, 60, 61] cu_C52 rfl cu_R52 rfl (by decide) (cu_J52 (S0 := P_209) (S1 := S1)) rfl (ct_X9_clear l G b S1 r_211 P_212 h_213) rfl rfl rfl kw_28_12 kw_28_9 kw_28_10 kw_28_11 kw_1_5 hd_X9_clear ⟨by decide, by decide⟩ hl.1 rfl (Nat.le_of_ble_eq_true rfl) ⟨Nat.le_of_ble_eq_true rfl, Nat.le_of_ble_eq_true rfl⟩ dL_law_676 (fun H locs X => ?_)
                                              refine W.eq (g2 := F0 m 679 ls [.int r_211, .int r_208]) rfl ?_
                                              refine lv_icmp_eq (pc := 679) (tgt := 747) hx hb dL_law_679 (by decide) (fun c_214 => ?_) (fun c_214 => ?_)
                                              · have hf := it_p hf c_214
                                                exact lb_L_law_747 C0 KN hA xs L hX hbl (fl_L_law_18 xs L n) ih _ _ _ hf _ _ _ X (lv_sub hl [0, 1, 2, 3] rfl)
                                              · have hf := it_n hf c_214
                                                refine lv_iconst (pc := 682) (v := 0) hx hb dL_law_682 (by decide) ?_
                                                exact absurd (so_1 hf) (by decide)
                                            · have hf := it_n hf c_207
                                              by_cases c_215 : y_3 = 20
                                              · have hf := it_p hf c_215
                                                refine lv_tableIn (pc := 32) (tgt := 684) hx hb dL_law_32 (by rw [c_215]; decide) (by rw [c_215]; decide) (by rw [c_215]; rfl) (by decide) ?_
                                                refine lv_aload_n (pc := 684) hx hb dL_law_684 rfl (lv_at hl 1 rfl) ?_
                                                obtain ⟨r_216, P_217, h_218, hf⟩ := b2_e hf
                                                refine x_cv (pc := 685) (ws' := wd_TreeOdds G a P_217 ++ wd_Model G b S1) (As := []) (rest := []) (ci := 8) (qr := 0) C0 KN X hA [0, 1, 2, 3, 4, 5, 6, 7, 8, 9, 10, 11, 12, 13, 14, 15, 16, 17, 18, 19, 20, 21, 22, 23, 24, 25, 26, 27, 28, 29, 30, 31, 32, 33, 34, 35, 36, 37, 38, 39, 40, 41, 42] [43, 44, 45, 46, 47, 48, 49, 50, 51, 52, 53, 54, 55, 56, 57, 58, 59, 60, 61] [19, 20, 21, 22, 23, 24, 25, 26, 27, 28, 29, 30, 31, 32, 33, 34, 35, 36, 37, 38, 39, 40, 41, 42, 43, 44, 45, 46, 47, 48, 49, 50, 51, 52, 53, 54, 55, 56, 57, 58, 59, 60, 61, 0, 1, 2, 3, 4, 5, 6, 7, 8, 9, 10, 11, 12, 13, 14, 15, 16, 17, 18] cu_C51 rfl cu_R51 rfl (by decide) (cu_J51 (S0 := S0) (S1 := S1)) rfl (ct_X8_told l G a S0 r_216 P_217 h_218) rfl rfl rfl kw_28_16 kw_28_13 kw_28_14 kw_28_15 kw_1_2 hd_X8_told ⟨by decide, by decide⟩ hl.1 rfl (Nat.le_of_ble_eq_true rfl) ⟨Nat.le_of_ble_eq_true rfl, Nat.le_of_ble_eq_true rfl⟩ dL_law_685 (fun H locs X => ?_)
                                                refine W.eq (g2 := F0 m 688 ls [.int r_216]) rfl ?_
                                                refine lv_aload_n (pc := 688) hx hb dL_law_688 rfl (lv_at hl 2 rfl) ?_
                                                obtain ⟨r_219, P_220, h_221, hf⟩ := b2_e hf
                                                refine x_cv (pc := 689) (ws' := wd_TreeOdds G a P_217 ++ wd_Model G b P_220) (As := []) (rest := [.int r_216]) (ci := 9) (qr := 43) C0 KN X hA [43, 44, 45, 46, 47, 48, 49, 50, 51, 52, 53, 54, 55, 56, 57, 58, 59, 60, 61] [0, 1, 2, 3, 4, 5, 6, 7, 8, 9, 10, 11, 12, 13, 14, 15, 16, 17, 18, 19, 20, 21, 22, 23, 24, 25, 26, 27, 28, 29, 30, 31, 32, 33, 34, 35, 36, 37, 38, 39, 40, 41, 42] [0, 1, 2, 3, 4, 5, 6, 7, 8, 9, 10, 11, 12, 13, 14, 15, 16, 17, 18, 19, 20, 21, 22, 23, 24, 25, 26, 27, 28, 29, 30, 31, 32, 33, 34, 35, 36, 37, 38, 39, 40, 41, 42, 43, 44, 45, 46, 47, 48, 49, 50, 51, 52, 53, 54, 55, 56, 57, 58, 59, 60, 61] cu_C52 rfl cu_R52 rfl (by decide) (cu_J52 (S0 := P_217) (S1 := S1)) rfl (ct_X9_told l G b S1 r_219 P_220 h_221) rfl rfl rfl kw_30_15 kw_30_12 kw_30_13 kw_30_14 kw_1_5 hd_X9_told ⟨by decide, by decide⟩ hl.1 rfl (Nat.le_of_ble_eq_true rfl) ⟨Nat.le_of_ble_eq_true rfl, Nat.le_of_ble_eq_true rfl⟩ dL_law_689 (fun H locs X => ?_)
                                                refine W.eq (g2 := F0 m 692 ls [.int r_219, .int r_216]) rfl ?_
                                                refine lv_icmp_eq (pc := 692) (tgt := 747) hx hb dL_law_692 (by decide) (fun c_222 => ?_) (fun c_222 => ?_)
                                                · have hf := it_p hf c_222
                                                  exact lb_L_law_747 C0 KN hA xs L hX hbl (fl_L_law_18 xs L n) ih _ _ _ hf _ _ _ X (lv_sub hl [0, 1, 2, 3] rfl)
                                                · have hf := it_n hf c_222
                                                  refine lv_iconst (pc := 695) (v := 0) hx hb dL_law_695 (by decide) ?_
                                                  exact absurd (so_1 hf) (by decide)
                                              · have hf := it_n hf c_215
                                                by_cases c_223 : y_3 = 21
                                                · have hf := it_p hf c_223
                                                  refine lv_tableIn (pc := 32) (tgt := 697) hx hb dL_law_32 (by rw [c_223]; decide) (by rw [c_223]; decide) (by rw [c_223]; rfl) (by decide) ?_
                                                  refine lv_aload_n (pc := 697) hx hb dL_law_697 rfl (lv_at hl 1 rfl) ?_
                                                  obtain ⟨r_224, P_225, h_226, hf⟩ := b2_e hf
                                                  refine x_cv (pc := 698) (ws' := wd_TreeOdds G a P_225 ++ wd_Model G b S1) (As := []) (rest := []) (ci := 8) (qr := 0) C0 KN X hA [0, 1, 2, 3, 4, 5, 6, 7, 8, 9, 10, 11, 12, 13, 14, 15, 16, 17, 18, 19, 20, 21, 22, 23, 24, 25, 26, 27, 28, 29, 30, 31, 32, 33, 34, 35, 36, 37, 38, 39, 40, 41, 42] [43, 44, 45, 46, 47, 48, 49, 50, 51, 52, 53, 54, 55, 56, 57, 58, 59, 60, 61] [19, 20, 21, 22, 23, 24, 25, 26, 27, 28, 29, 30, 31, 32, 33, 34, 35, 36, 37, 38, 39, 40, 41, 42, 43, 44, 45, 46, 47, 48, 49, 50, 51, 52, 53, 54, 55, 56, 57, 58, 59, 60, 61, 0, 1, 2, 3, 4, 5, 6, 7, 8, 9, 10, 11, 12, 13, 14, 15, 16, 17, 18] cu_C51 rfl cu_R51 rfl (by decide) (cu_J51 (S0 := S0) (S1 := S1)) rfl (ct_X8_back l G a S0 r_224 P_225 h_226) rfl rfl rfl kw_31_19 kw_31_16 kw_31_17 kw_31_18 kw_1_2 hd_X8_back ⟨by decide, by decide⟩ hl.1 rfl (Nat.le_of_ble_eq_true rfl) ⟨Nat.le_of_ble_eq_true rfl, Nat.le_of_ble_eq_true rfl⟩ dL_law_698 (fun H locs X => ?_)
                                                  refine W.eq (g2 := F0 m 701 ls [.int r_224]) rfl ?_
                                                  refine lv_aload_n (pc := 701) hx hb dL_law_701 rfl (lv_at hl 2 rfl) ?_
                                                  obtain ⟨r_227, P_228, h_229, hf⟩ := b2_e hf
                                                  refine x_cv (pc := 702) (ws' := wd_TreeOdds G a P_225 ++ wd_Model G b P_228) (As := []) (rest := [.int r_224]) (ci := 9) (qr := 43) C0 KN X hA [43, 44, 45, 46, 47, 48, 49, 50, 51, 52, 53, 54, 55, 56, 57, 58, 59, 60, 61] [0, 1, 2, 3, 4, 5, 6, 7, 8, 9, 10, 11, 12, 13, 14, 15, 16, 17, 18, 19, 20, 21, 22, 23, 24, 25, 26, 27, 28, 29, 30, 31, 32, 33, 34, 35, 36, 37, 38, 39, 40, 41, 42] [0, 1, 2, 3, 4, 5, 6, 7, 8, 9, 10, 11, 12, 13, 14, 15, 16, 17, 18, 19, 20, 21, 22, 23, 24, 25, 26, 27, 28, 29, 30, 31, 32, 33, 34, 35, 36, 37, 38, 39, 40, 41, 42, 43, 44, 45, 46, 47, 48, 49, 50, 51, 52, 53, 54, 55, 56, 57, 58, 59, 60, 61] cu_C52 rfl cu_R52 rfl (by decide) (cu_J52 (S0 := P_225) (S1 := S1)) rfl (ct_X9_back l G b S1 r_227 P_228 h_229) rfl rfl rfl kw_32_12 kw_32_9 kw_32_10 kw_32_11 kw_1_5 hd_X9_back ⟨by decide, by decide⟩ hl.1 rfl (Nat.le_of_ble_eq_true rfl) ⟨Nat.le_of_ble_eq_true rfl, Nat.le_of_ble_eq_true rfl⟩ dL_law_702 (fun H locs X => ?_)
                                                  refine W.eq (g2 := F0 m 705 ls [.int r_227, .int r_224]) rfl ?_
                                                  refine lv_icmp_eq (pc := 705) (tgt := 747) hx hb dL_law_705 (by decide) (fun c_230 => ?_) (fun c_230 => ?_)
                                                  · have hf := it_p hf c_230
                                                    exact lb_L_law_747 C0 KN hA xs L hX hbl (fl_L_law_18 xs L n) ih _ _ _ hf _ _ _ X (lv_sub hl [0, 1, 2, 3] rfl)
                                                  · have hf := it_n hf c_230
                                                    refine lv_iconst (pc := 708) (v := 0) hx hb dL_law_708 (by decide) ?_
                                                    exact absurd (so_1 hf) (by decide)
                                                · have hf := it_n hf c_223
                                                  by_cases c_231 : y_3 = 22
                                                  · have hf := it_p hf c_231
                                                    refine lv_tableIn (pc := 32) (tgt := 710) hx hb dL_law_32 (by rw [c_231]; decide) (by rw [c_231]; decide) (by rw [c_231]; rfl) (by decide) ?_
                                                    refine lv_aload_n (pc := 710) hx hb dL_law_710 rfl (lv_at hl 1 rfl) ?_
                                                    refine lv_aload_n (pc := 711) hx hb dL_law_711 rfl (lv_at hl 0 rfl) ?_
                                                    refine lv_iload_n (pc := 712) hx hb dL_law_712 rfl (lv_at hl 3 rfl) ?_
                                                    refine lv_iconst (pc := 713) (v := 1) hx hb dL_law_713 (by decide) ?_
                                                    refine lv_iadd (pc := 714) hx hb dL_law_714 ?_
                                                    obtain ⟨g_232, hf⟩ := gd_e hf
                                                    refine x_sld (pc := 715) C0 hX hbl X (Nat.not_le.mpr hbl) g_232 dL_law_715 ?_
                                                    obtain ⟨r_233, P_234, h_235, hf⟩ := b2_e hf
                                                    refine x_cv (pc := 716) (ws' := wd_TreeOdds G a P_234 ++ wd_Model G b S1) (As := [.int (xs (x3 + (1 : Int32)).toNatClampNeg)]) (rest := []) (ci := 8) (qr := 0) C0 KN X hA [0, 1, 2, 3, 4, 5, 6, 7, 8, 9, 10, 11, 12, 13, 14, 15, 16, 17, 18, 19, 20, 21, 22, 23, 24, 25, 26, 27, 28, 29, 30, 31, 32, 33, 34, 35, 36, 37, 38, 39, 40, 41, 42] [43, 44, 45, 46, 47, 48, 49, 50, 51, 52, 53, 54, 55, 56, 57, 58, 59, 60, 61] [19, 20, 21, 22, 23, 24, 25, 26, 27, 28, 29, 30, 31, 32, 33, 34, 35, 36, 37, 38, 39, 40, 41, 42, 43, 44, 45, 46, 47, 48, 49, 50, 51, 52, 53, 54, 55, 56, 57, 58, 59, 60, 61, 0, 1, 2, 3, 4, 5, 6, 7, 8, 9, 10, 11, 12, 13, 14, 15, 16, 17, 18] cu_C51 rfl cu_R51 rfl (by decide) (cu_J51 (S0 := S0) (S1 := S1)) rfl (ct_X8_count l G a S0 (xs (x3 + (1 : Int32)).toNatClampNeg) r_233 P_234 h_235) rfl rfl rfl kw_32_16 kw_32_13 kw_32_14 kw_32_15 kw_1_2 hd_X8_count ⟨by decide, by decide⟩ hl.1 rfl (Nat.le_of_ble_eq_true rfl) ⟨Nat.le_of_ble_eq_true rfl, Nat.le_of_ble_eq_true rfl⟩ dL_law_716 (fun H locs X => ?_)
                                                    refine W.eq (g2 := F0 m 719 ls [.int r_233]) rfl ?_
                                                    refine lv_aload_n (pc := 719) hx hb dL_law_719 rfl (lv_at hl 2 rfl) ?_
                                                    refine lv_aload_n (pc := 720) hx hb dL_law_720 rfl (lv_at hl 0 rfl) ?_
                                                    refine lv_iload_n (pc := 721) hx hb dL_law_721 rfl (lv_at hl 3 rfl) ?_
                                                    refine lv_iconst (pc := 722) (v := 1) hx hb dL_law_722 (by decide) ?_
                                                    refine lv_iadd (pc := 723) hx hb dL_law_723 ?_
                                                    obtain ⟨g_236, hf⟩ := gd_e hf
                                                    refine x_sld (pc := 724) C0 hX hbl X (Nat.not_le.mpr hbl) g_236 dL_law_724 ?_
                                                    obtain ⟨r_237, P_238, h_239, hf⟩ := b2_e hf
                                                    refine x_cv (pc := 725) (ws' := wd_TreeOdds G a P_234 ++ wd_Model G b P_238) (As := [.int (xs (x3 + (1 : Int32)).toNatClampNeg)]) (rest := [.int r_233]) (ci := 9) (qr := 43) C0 KN X hA [43, 44, 45, 46, 47, 48, 49, 50, 51, 52, 53, 54, 55, 56, 57, 58, 59, 60, 61] [0, 1, 2, 3, 4, 5, 6, 7, 8, 9, 10, 11, 12, 13, 14, 15, 16, 17, 18, 19, 20, 21, 22, 23, 24, 25, 26, 27, 28, 29, 30, 31, 32, 33, 34, 35, 36, 37, 38, 39, 40, 41, 42] [0, 1, 2, 3, 4, 5, 6, 7, 8, 9, 10, 11, 12, 13, 14, 15, 16, 17, 18, 19, 20, 21, 22, 23, 24, 25, 26, 27, 28, 29, 30, 31, 32, 33, 34, 35, 36, 37, 38, 39, 40, 41, 42, 43, 44, 45, 46, 47, 48, 49, 50, 51, 52, 53, 54, 55, 56, 57, 58, 59, 60, 61] cu_C52 rfl cu_R52 rfl (by decide) (cu_J52 (S0 := P_234) (S1 := S1)) rfl (ct_X9_count l G b S1 (xs (x3 + (1 : Int32)).toNatClampNeg) r_237 P_238 h_239) rfl rfl rfl kw_32_20 kw_32_17 kw_32_18 kw_32_19 kw_1_5 hd_X9_count ⟨by decide, by decide⟩ hl.1 rfl (Nat.le_of_ble_eq_true rfl) ⟨Nat.le_of_ble_eq_true rfl, Nat.le_of_ble_eq_true rfl⟩ dL_law_725 (fun H locs X => ?_)
                                                    refine W.eq (g2 := F0 m 728 ls [.int r_237, .int r_233]) rfl ?_
                                                    refine lv_icmp_eq (pc := 728) (tgt := 747) hx hb dL_law_728 (by decide) (fun c_240 => ?_) (fun c_240 => ?_)
                                                    · have hf := it_p hf c_240
                                                      exact lb_L_law_747 C0 KN hA xs L hX hbl (fl_L_law_18 xs L n) ih _ _ _ hf _ _ _ X (lv_sub hl [0, 1, 2, 3] rfl)
                                                    · have hf := it_n hf c_240
                                                      refine lv_iconst (pc := 731) (v := 0) hx hb dL_law_731 (by decide) ?_
                                                      exact absurd (so_1 hf) (by decide)
                                                  · have hf := it_n hf c_231
                                                    by_cases c_241 : y_3 = 23
                                                    · have hf := it_p hf c_241
                                                      refine lv_tableIn (pc := 32) (tgt := 733) hx hb dL_law_32 (by rw [c_241]; decide) (by rw [c_241]; decide) (by rw [c_241]; rfl) (by decide) ?_
                                                      refine lv_aload_n (pc := 733) hx hb dL_law_733 rfl (lv_at hl 1 rfl) ?_
                                                      obtain ⟨r_242, P_243, h_244, hf⟩ := b2_e hf
                                                      refine x_cv (pc := 734) (ws' := wd_TreeOdds G a P_243 ++ wd_Model G b S1) (As := []) (rest := []) (ci := 8) (qr := 0) C0 KN X hA [0, 1, 2, 3, 4, 5, 6, 7, 8, 9, 10, 11, 12, 13, 14, 15, 16, 17, 18, 19, 20, 21, 22, 23, 24, 25, 26, 27, 28, 29, 30, 31, 32, 33, 34, 35, 36, 37, 38, 39, 40, 41, 42] [43, 44, 45, 46, 47, 48, 49, 50, 51, 52, 53, 54, 55, 56, 57, 58, 59, 60, 61] [19, 20, 21, 22, 23, 24, 25, 26, 27, 28, 29, 30, 31, 32, 33, 34, 35, 36, 37, 38, 39, 40, 41, 42, 43, 44, 45, 46, 47, 48, 49, 50, 51, 52, 53, 54, 55, 56, 57, 58, 59, 60, 61, 0, 1, 2, 3, 4, 5, 6, 7, 8, 9, 10, 11, 12, 13, 14, 15, 16, 17, 18] cu_C51 rfl cu_R51 rfl (by decide) (cu_J51 (S0 := S0) (S1 := S1)) rfl (ct_X8_digest l G a S0 r_242 P_243 h_244) rfl rfl rfl kw_33_5 kw_33_2 kw_33_3 kw_33_4 kw_1_2 hd_X8_digest ⟨by decide, by decide⟩ hl.1 rfl (Nat.le_of_ble_eq_true rfl) ⟨Nat.le_of_ble_eq_true rfl, Nat.le_of_ble_eq_true rfl⟩ dL_law_734 (fun H locs X => ?_)
                                                      refine W.eq (g2 := F0 m 737 ls [.long r_242]) rfl ?_
                                                      refine lv_aload_n (pc := 737) hx hb dL_law_737 rfl (lv_at hl 2 rfl) ?_
                                                      obtain ⟨r_245, P_246, h_247, hf⟩ := b2_e hf
                                                      refine x_cv (pc := 738) (ws' := wd_TreeOdds G a P_243 ++ wd_Model G b P_246) (As := []) (rest := [.long r_242]) (ci := 9) (qr := 43) C0 KN X hA [43, 44, 45, 46, 47, 48, 49, 50, 51, 52, 53, 54, 55, 56, 57, 58, 59, 60, 61] [0, 1, 2, 3, 4, 5, 6, 7, 8, 9, 10, 11, 12, 13, 14, 15, 16, 17, 18, 19, 20, 21, 22, 23, 24, 25, 26, 27, 28, 29, 30, 31, 32, 33, 34, 35, 36, 37, 38, 39, 40, 41, 42] [0, 1, 2, 3, 4, 5, 6, 7, 8, 9, 10, 11, 12, 13, 14, 15, 16, 17, 18, 19, 20, 21, 22, 23, 24, 25, 26, 27, 28, 29, 30, 31, 32, 33, 34, 35, 36, 37, 38, 39, 40, 41, 42, 43, 44, 45, 46, 47, 48, 49, 50, 51, 52, 53, 54, 55, 56, 57, 58, 59, 60, 61] cu_C52 rfl cu_R52 rfl (by decide) (cu_J52 (S0 := P_243) (S1 := S1)) rfl (ct_X9_digest l G b S1 r_245 P_246 h_247) rfl rfl rfl kw_33_15 kw_33_12 kw_33_13 kw_33_14 kw_1_5 hd_X9_digest ⟨by decide, by decide⟩ hl.1 rfl (Nat.le_of_ble_eq_true rfl) ⟨Nat.le_of_ble_eq_true rfl, Nat.le_of_ble_eq_true rfl⟩ dL_law_738 (fun H locs X => ?_)
                                                      refine W.eq (g2 := F0 m 741 ls [.long r_245, .long r_242]) rfl ?_
                                                      refine W.lcmp (pc := 741) hx hb dL_law_741 ?_
                                                      refine lv_if_eq (pc := 742) (tgt := 747) hx hb dL_law_742 (by decide) (fun c_248 => ?_) (fun c_248 => ?_)
                                                      · have hf := it_p hf ((lg_cmp_eq r_242 r_245).mp c_248)
                                                        exact lb_L_law_747 C0 KN hA xs L hX hbl (fl_L_law_18 xs L n) ih _ _ _ hf _ _ _ X (lv_sub hl [0, 1, 2, 3] rfl)
                                                      · have hf := it_n hf (fun z => c_248 ((lg_cmp_eq r_242 r_245).mpr z))
                                                        refine lv_iconst (pc := 745) (v := 0) hx hb dL_law_745 (by decide) ?_
                                                        exact absurd (so_1 hf) (by decide)
                                                    · have hf := it_n hf c_241
                                                      have nc_4 := sw_ne c_4
                                                      have nc_15 := sw_ne c_15
                                                      have nc_29 := sw_ne c_29
                                                      have nc_43 := sw_ne c_43
                                                      have nc_55 := sw_ne c_55
                                                      have nc_63 := sw_ne c_63
                                                      have nc_71 := sw_ne c_71
                                                      have nc_81 := sw_ne c_81
                                                      have nc_88 := sw_ne c_88
                                                      have nc_100 := sw_ne c_100
                                                      have nc_114 := sw_ne c_114
                                                      have nc_121 := sw_ne c_121
                                                      have nc_133 := sw_ne c_133
                                                      have nc_143 := sw_ne c_143
                                                      have nc_153 := sw_ne c_153
                                                      have nc_163 := sw_ne c_163
                                                      have nc_175 := sw_ne c_175
                                                      have nc_185 := sw_ne c_185
                                                      have nc_197 := sw_ne c_197
                                                      have nc_207 := sw_ne c_207
                                                      have nc_215 := sw_ne c_215
                                                      have nc_223 := sw_ne c_223
                                                      have nc_231 := sw_ne c_231
                                                      have nc_241 := sw_ne c_241
                                                      refine lv_tableOut (pc := 32) (tgt := 747) hx hb dL_law_32 (by rw [sw_0] at nc_4; rw [sw_1] at nc_15; rw [sw_2] at nc_29; rw [sw_3] at nc_43; rw [sw_4] at nc_55; rw [sw_5] at nc_63; rw [sw_6] at nc_71; rw [sw_7] at nc_81; rw [sw_8] at nc_88; rw [sw_9] at nc_100; rw [sw_10] at nc_114; rw [sw_11] at nc_121; rw [sw_12] at nc_133; rw [sw_13] at nc_143; rw [sw_14] at nc_153; rw [sw_15] at nc_163; rw [sw_16] at nc_175; rw [sw_17] at nc_185; rw [sw_18] at nc_197; rw [sw_19] at nc_207; rw [sw_20] at nc_215; rw [sw_21] at nc_223; rw [sw_22] at nc_231; rw [sw_23] at nc_241; omega) (by decide) ?_
                                                      exact lb_L_law_747 C0 KN hA xs L hX hbl (fl_L_law_18 xs L n) ih _ _ _ hf _ _ _ X (lv_sub hl [0, 1, 2, 3] rfl)
