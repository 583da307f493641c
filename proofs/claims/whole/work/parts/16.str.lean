/-! ===== texts: length and charAt of the literals, through the library ===== -/
theorem tw_iS : Cond.initialized "java/lang/String" ∈ gtb := gtb_of (List.mem_append_right _ (List.mem_of_getElem? (i := 5) (by decide +kernel))) (by decide +kernel)
theorem tw_iL : Cond.initialized "java/lang/StringLatin1" ∈ gtb := gtb_of (List.mem_append_right _ (List.mem_of_getElem? (i := 6) (by decide +kernel))) (by decide +kernel)
theorem tw_iP : Cond.initialized "jdk/internal/util/Preconditions" ∈ gtb := gtb_of (List.mem_append_right _ (List.mem_of_getElem? (i := 7) (by decide +kernel))) (by decide +kernel)
theorem tw_c_co : Cond.code ⟨"java/lang/String", "coder", "()B"⟩ prog_9_method_152_code 1 (some .byte) ∈ gtb := gtb_of (List.mem_append_right _ (List.mem_of_getElem? (i := 225) (by decide +kernel))) (by decide +kernel)
theorem tw_i_co : Cond.instanceMethod ⟨"java/lang/String", "coder", "()B"⟩ ∈ gtb := gtb_of (List.mem_append_right _ (List.mem_of_getElem? (i := 223) (by decide +kernel))) (by decide +kernel)
theorem tw_s_co : Cond.selects "java/lang/String" ⟨"java/lang/String", "coder", "()B"⟩ ⟨"java/lang/String", "coder", "()B"⟩ ∈ gtb := gtb_of (List.mem_append_right _ (List.mem_of_getElem? (i := 224) (by decide +kernel))) (by decide +kernel)
def mdT_co : MD := (⟨"java/lang/String", "coder", "()B"⟩, prog_9_method_152_code, 1, (some .byte), 0, 0)
theorem mdT_co_ok : MDok mdT_co 0 := ⟨by decide +kernel, tw_c_co, tw_iS, by decide +kernel, by decide +kernel, by decide +kernel⟩
theorem tw_c_il : Cond.code ⟨"java/lang/String", "isLatin1", "()Z"⟩ prog_9_method_154_code 1 (some .boolean) ∈ gtb := gtb_of (List.mem_append_right _ (List.mem_of_getElem? (i := 235) (by decide +kernel))) (by decide +kernel)
theorem tw_i_il : Cond.instanceMethod ⟨"java/lang/String", "isLatin1", "()Z"⟩ ∈ gtb := gtb_of (List.mem_append_right _ (List.mem_of_getElem? (i := 233) (by decide +kernel))) (by decide +kernel)
theorem tw_s_il : Cond.selects "java/lang/String" ⟨"java/lang/String", "isLatin1", "()Z"⟩ ⟨"java/lang/String", "isLatin1", "()Z"⟩ ∈ gtb := gtb_of (List.mem_append_right _ (List.mem_of_getElem? (i := 234) (by decide +kernel))) (by decide +kernel)
def mdT_il : MD := (⟨"java/lang/String", "isLatin1", "()Z"⟩, prog_9_method_154_code, 1, (some .boolean), 0, 0)
theorem mdT_il_ok : MDok mdT_il 0 := ⟨by decide +kernel, tw_c_il, tw_iS, by decide +kernel, by decide +kernel, by decide +kernel⟩
theorem tw_c_pc : Cond.code ⟨"jdk/internal/util/Preconditions", "checkIndex", "(IILjava/util/function/BiFunction;)I"⟩ prog_13_method_11_code 3 (some .int) ∈ gtb := gtb_of (List.mem_append_right _ (List.mem_of_getElem? (i := 246) (by decide +kernel))) (by decide +kernel)
theorem tw_t_pc : Cond.static ⟨"jdk/internal/util/Preconditions", "checkIndex", "(IILjava/util/function/BiFunction;)I"⟩ ∈ gtb := gtb_of (List.mem_append_right _ (List.mem_of_getElem? (i := 245) (by decide +kernel))) (by decide +kernel)
def mdT_pc : MD := (⟨"jdk/internal/util/Preconditions", "checkIndex", "(IILjava/util/function/BiFunction;)I"⟩, prog_13_method_11_code, 3, (some .int), 0, 0)
theorem mdT_pc_ok : MDok mdT_pc 3 := ⟨by decide +kernel, tw_c_pc, tw_iP, by decide +kernel, by decide +kernel, by decide +kernel⟩
theorem tw_c_sc : Cond.code ⟨"java/lang/String", "checkIndex", "(II)V"⟩ prog_9_method_155_code 2 none ∈ gtb := gtb_of (List.mem_append_right _ (List.mem_of_getElem? (i := 241) (by decide +kernel))) (by decide +kernel)
theorem tw_t_sc : Cond.static ⟨"java/lang/String", "checkIndex", "(II)V"⟩ ∈ gtb := gtb_of (List.mem_append_right _ (List.mem_of_getElem? (i := 240) (by decide +kernel))) (by decide +kernel)
def mdT_sc : MD := (⟨"java/lang/String", "checkIndex", "(II)V"⟩, prog_9_method_155_code, 2, none, 1, 22)
theorem mdT_sc_ok : MDok mdT_sc 2 := ⟨by decide +kernel, tw_c_sc, tw_iS, by decide +kernel, by decide +kernel, by decide +kernel⟩
theorem tw_c_lc : Cond.code ⟨"java/lang/StringLatin1", "charAt", "([BI)C"⟩ prog_10_method_2_code 2 (some .char) ∈ gtb := gtb_of (List.mem_append_right _ (List.mem_of_getElem? (i := 238) (by decide +kernel))) (by decide +kernel)
theorem tw_t_lc : Cond.static ⟨"java/lang/StringLatin1", "charAt", "([BI)C"⟩ ∈ gtb := gtb_of (List.mem_append_right _ (List.mem_of_getElem? (i := 237) (by decide +kernel))) (by decide +kernel)
def mdT_lc : MD := (⟨"java/lang/StringLatin1", "charAt", "([BI)C"⟩, prog_10_method_2_code, 2, (some .char), 2, 43)
theorem mdT_lc_ok : MDok mdT_lc 2 := ⟨by decide +kernel, tw_c_lc, tw_iL, by decide +kernel, by decide +kernel, by decide +kernel⟩
theorem tw_c_ca : Cond.code ⟨"java/lang/String", "charAt", "(I)C"⟩ prog_9_method_56_code 2 (some .char) ∈ gtb := gtb_of (List.mem_append_right _ (List.mem_of_getElem? (i := 231) (by decide +kernel))) (by decide +kernel)
theorem tw_i_ca : Cond.instanceMethod ⟨"java/lang/String", "charAt", "(I)C"⟩ ∈ gtb := gtb_of (List.mem_append_right _ (List.mem_of_getElem? (i := 229) (by decide +kernel))) (by decide +kernel)
theorem tw_s_ca : Cond.selects "java/lang/String" ⟨"java/lang/String", "charAt", "(I)C"⟩ ⟨"java/lang/String", "charAt", "(I)C"⟩ ∈ gtb := gtb_of (List.mem_append_right _ (List.mem_of_getElem? (i := 230) (by decide +kernel))) (by decide +kernel)
def mdT_ca : MD := (⟨"java/lang/String", "charAt", "(I)C"⟩, prog_9_method_56_code, 2, (some .char), 3, 64)
theorem mdT_ca_ok : MDok mdT_ca 1 := ⟨by decide +kernel, tw_c_ca, tw_iS, by decide +kernel, by decide +kernel, by decide +kernel⟩
theorem tw_c_ln : Cond.code ⟨"java/lang/String", "length", "()I"⟩ prog_9_method_54_code 1 (some .int) ∈ gtb := gtb_of (List.mem_append_right _ (List.mem_of_getElem? (i := 221) (by decide +kernel))) (by decide +kernel)
theorem tw_i_ln : Cond.instanceMethod ⟨"java/lang/String", "length", "()I"⟩ ∈ gtb := gtb_of (List.mem_append_right _ (List.mem_of_getElem? (i := 219) (by decide +kernel))) (by decide +kernel)
theorem tw_s_ln : Cond.selects "java/lang/String" ⟨"java/lang/String", "length", "()I"⟩ ⟨"java/lang/String", "length", "()I"⟩ ∈ gtb := gtb_of (List.mem_append_right _ (List.mem_of_getElem? (i := 220) (by decide +kernel))) (by decide +kernel)
def mdT_ln : MD := (⟨"java/lang/String", "length", "()I"⟩, prog_9_method_54_code, 1, (some .int), 1, 20)
theorem mdT_ln_ok : MDok mdT_ln 0 := ⟨by decide +kernel, tw_c_ln, tw_iS, by decide +kernel, by decide +kernel, by decide +kernel⟩
theorem tw_l_co : Cond.methodLink "java/lang/String" 335 ⟨"java/lang/String", "coder", "()B"⟩ ∈ gtb := gtb_of (List.mem_append_right _ (List.mem_of_getElem? (i := 222) (by decide +kernel))) (by decide +kernel)
theorem tw_l_il : Cond.methodLink "java/lang/String" 492 ⟨"java/lang/String", "isLatin1", "()Z"⟩ ∈ gtb := gtb_of (List.mem_append_right _ (List.mem_of_getElem? (i := 232) (by decide +kernel))) (by decide +kernel)
theorem tw_l_lc : Cond.methodLink "java/lang/String" 495 ⟨"java/lang/StringLatin1", "charAt", "([BI)C"⟩ ∈ gtb := gtb_of (List.mem_append_right _ (List.mem_of_getElem? (i := 236) (by decide +kernel))) (by decide +kernel)
theorem tw_l_sc : Cond.methodLink "java/lang/StringLatin1" 9 ⟨"java/lang/String", "checkIndex", "(II)V"⟩ ∈ gtb := gtb_of (List.mem_append_right _ (List.mem_of_getElem? (i := 239) (by decide +kernel))) (by decide +kernel)
theorem tw_l_pc : Cond.methodLink "java/lang/String" 1059 ⟨"jdk/internal/util/Preconditions", "checkIndex", "(IILjava/util/function/BiFunction;)I"⟩ ∈ gtb := gtb_of (List.mem_append_right _ (List.mem_of_getElem? (i := 244) (by decide +kernel))) (by decide +kernel)
theorem tw_f_cs : Cond.fieldLink "java/lang/String" 38 "java/lang/String" "COMPACT_STRINGS" "Z" ∈ gtb := gtb_of (List.mem_append_right _ (List.mem_of_getElem? (i := 226) (by decide +kernel))) (by decide +kernel)
theorem tw_f_va : Cond.fieldLink "java/lang/String" 9 "java/lang/String" "value" "[B" ∈ gtb := gtb_of (List.mem_append_right _ (List.mem_of_getElem? (i := 1060) (by decide +kernel))) (by decide +kernel)
theorem tw_f_cd : Cond.fieldLink "java/lang/String" 15 "java/lang/String" "coder" "B" ∈ gtb := gtb_of (List.mem_append_right _ (List.mem_of_getElem? (i := 1061) (by decide +kernel))) (by decide +kernel)
theorem tw_f_si : Cond.fieldLink "java/lang/String" 1053 "jdk/internal/util/Preconditions" "SIOOBE_FORMATTER" "Ljava/util/function/BiFunction;" ∈ gtb := gtb_of (List.mem_append_right _ (List.mem_of_getElem? (i := 242) (by decide +kernel))) (by decide +kernel)
theorem td_co_0 : decode prog_9_method_152_code 0 = .ok (.getstatic 38, 3) := by decide +kernel
theorem td_co_3 : decode prog_9_method_152_code 3 = .ok (.ifCond .eq 10, 3) := by decide +kernel
theorem td_co_6 : decode prog_9_method_152_code 6 = .ok (.aload_n 0, 1) := by decide +kernel
theorem td_co_7 : decode prog_9_method_152_code 7 = .ok (.getfield 15, 3) := by decide +kernel
theorem td_co_10 : decode prog_9_method_152_code 10 = .ok (.goto 4, 3) := by decide +kernel
theorem td_co_14 : decode prog_9_method_152_code 14 = .ok (.ireturn, 1) := by decide +kernel
theorem td_il_0 : decode prog_9_method_154_code 0 = .ok (.getstatic 38, 3) := by decide +kernel
theorem td_il_3 : decode prog_9_method_154_code 3 = .ok (.ifCond .eq 14, 3) := by decide +kernel
theorem td_il_6 : decode prog_9_method_154_code 6 = .ok (.aload_n 0, 1) := by decide +kernel
theorem td_il_7 : decode prog_9_method_154_code 7 = .ok (.getfield 15, 3) := by decide +kernel
theorem td_il_10 : decode prog_9_method_154_code 10 = .ok (.ifCond .ne 7, 3) := by decide +kernel
theorem td_il_13 : decode prog_9_method_154_code 13 = .ok (.iconst 1, 1) := by decide +kernel
theorem td_il_14 : decode prog_9_method_154_code 14 = .ok (.goto 4, 3) := by decide +kernel
theorem td_il_18 : decode prog_9_method_154_code 18 = .ok (.ireturn, 1) := by decide +kernel
theorem td_pc_0 : decode prog_13_method_11_code 0 = .ok (.iload_n 0, 1) := by decide +kernel
theorem td_pc_1 : decode prog_13_method_11_code 1 = .ok (.ifCond .lt 8, 3) := by decide +kernel
theorem td_pc_4 : decode prog_13_method_11_code 4 = .ok (.iload_n 0, 1) := by decide +kernel
theorem td_pc_5 : decode prog_13_method_11_code 5 = .ok (.iload_n 1, 1) := by decide +kernel
theorem td_pc_6 : decode prog_13_method_11_code 6 = .ok (.if_icmp .lt 10, 3) := by decide +kernel
theorem td_pc_16 : decode prog_13_method_11_code 16 = .ok (.iload_n 0, 1) := by decide +kernel
theorem td_pc_17 : decode prog_13_method_11_code 17 = .ok (.ireturn, 1) := by decide +kernel
theorem td_sc_0 : decode prog_9_method_155_code 0 = .ok (.iload_n 0, 1) := by decide +kernel
theorem td_sc_1 : decode prog_9_method_155_code 1 = .ok (.iload_n 1, 1) := by decide +kernel
theorem td_sc_2 : decode prog_9_method_155_code 2 = .ok (.getstatic 1053, 3) := by decide +kernel
theorem td_sc_5 : decode prog_9_method_155_code 5 = .ok (.invokestatic 1059, 3) := by decide +kernel
theorem td_sc_8 : decode prog_9_method_155_code 8 = .ok (.pop, 1) := by decide +kernel
theorem td_sc_9 : decode prog_9_method_155_code 9 = .ok (.return_, 1) := by decide +kernel
theorem td_lc_0 : decode prog_10_method_2_code 0 = .ok (.iload_n 1, 1) := by decide +kernel
theorem td_lc_1 : decode prog_10_method_2_code 1 = .ok (.aload_n 0, 1) := by decide +kernel
theorem td_lc_2 : decode prog_10_method_2_code 2 = .ok (.arraylength, 1) := by decide +kernel
theorem td_lc_3 : decode prog_10_method_2_code 3 = .ok (.invokestatic 9, 3) := by decide +kernel
theorem td_lc_6 : decode prog_10_method_2_code 6 = .ok (.aload_n 0, 1) := by decide +kernel
theorem td_lc_7 : decode prog_10_method_2_code 7 = .ok (.iload_n 1, 1) := by decide +kernel
theorem td_lc_8 : decode prog_10_method_2_code 8 = .ok (.baload, 1) := by decide +kernel
theorem td_lc_9 : decode prog_10_method_2_code 9 = .ok (.sipush 255, 3) := by decide +kernel
theorem td_lc_12 : decode prog_10_method_2_code 12 = .ok (.iand, 1) := by decide +kernel
theorem td_lc_13 : decode prog_10_method_2_code 13 = .ok (.i2c, 1) := by decide +kernel
theorem td_lc_14 : decode prog_10_method_2_code 14 = .ok (.ireturn, 1) := by decide +kernel
theorem td_ca_0 : decode prog_9_method_56_code 0 = .ok (.aload_n 0, 1) := by decide +kernel
theorem td_ca_1 : decode prog_9_method_56_code 1 = .ok (.invokevirtual 492, 3) := by decide +kernel
theorem td_ca_4 : decode prog_9_method_56_code 4 = .ok (.ifCond .eq 12, 3) := by decide +kernel
theorem td_ca_7 : decode prog_9_method_56_code 7 = .ok (.aload_n 0, 1) := by decide +kernel
theorem td_ca_8 : decode prog_9_method_56_code 8 = .ok (.getfield 9, 3) := by decide +kernel
theorem td_ca_11 : decode prog_9_method_56_code 11 = .ok (.iload_n 1, 1) := by decide +kernel
theorem td_ca_12 : decode prog_9_method_56_code 12 = .ok (.invokestatic 495, 3) := by decide +kernel
theorem td_ca_15 : decode prog_9_method_56_code 15 = .ok (.ireturn, 1) := by decide +kernel
theorem td_ln_0 : decode prog_9_method_54_code 0 = .ok (.aload_n 0, 1) := by decide +kernel
theorem td_ln_1 : decode prog_9_method_54_code 1 = .ok (.getfield 9, 3) := by decide +kernel
theorem td_ln_4 : decode prog_9_method_54_code 4 = .ok (.arraylength, 1) := by decide +kernel
theorem td_ln_5 : decode prog_9_method_54_code 5 = .ok (.aload_n 0, 1) := by decide +kernel
theorem td_ln_6 : decode prog_9_method_54_code 6 = .ok (.invokevirtual 335, 3) := by decide +kernel
theorem td_ln_9 : decode prog_9_method_54_code 9 = .ok (.ishr, 1) := by decide +kernel
theorem td_ln_10 : decode prog_9_method_54_code 10 = .ok (.ireturn, 1) := by decide +kernel
/-- what holds where a text's method begins: the texts -/
def PreT (ad aV : Nat → Nat) (sz : Nat) : State → Prop := fun U => U.heap.size = sz ∧ Tx ad aV (fun q => sz ≤ q) U U.heap
def QcT (sz : Nat) (r : Option Value) : Array Value → State → Outcome → State → Prop := fun _ st oc t => oc = .returned r ∧ va_F (fun q => sz ≤ q) st t
/-- it answers r, nothing that was there changes -/
def MetT (l : Launch) (ad aV : Nat → Nat) (d : MD) (As : List Value) (r : Option Value) : Prop :=
  ∀ (sz : Nat), Met l d.1 (wsD d) { frames := d.2.2.2.2.1, cells := 0, slots := 0, locals := d.2.2.2.2.2 } (va_Pc As (PreT ad aV sz)) (QcT sz r) 0 0 (fun q => sz ≤ q)
/-- where a text's method stands -/
def CT (ad aV : Nat → Nat) (p : Program) (R : Room) (s : State) (m : MethodId) (args : Array Value) (c : Code) (own : String) (cc : ByteArray) (mx fr lc : Nat) (A : Nat → Prop) : Prop :=
  p.tables.exec = Jvm.exec ∧ c.code = cc ∧ c.maxLocals = mx ∧ s.vm.findClass own = some m.cls ∧ (∀ w ∈ gtb, w.before args s = true) ∧ fr ≤ R.frames ∧ lc ≤ R.locals ∧ Tx ad aV A s s.heap ∧ ∀ q, s.heap.size ≤ q → A q
theorem metT {l : Launch} {ad aV : Nat → Nat} {d : MD} {n : Nat} (hd : MDok d n) {As : List Value} {r : Option Value} (hs : (lg_sl As).length ≤ d.2.2.1)
    (hb : ∀ (A : Nat → Prop) (p : Program) (e : Env) (R : Room) (s : State) (m : MethodId) (args : Array Value) (below : List Frame) (meth : Method) (c : Code) (ls : Array Slot) (Q : State → Prop), CT ad aV p R s m args c d.1.cls d.2.1 d.2.2.1 d.2.2.2.2.1 d.2.2.2.2.2 A → lv_has ls d.2.2.1 (lv_args 0 As) →
      (∀ (H1 : Heap) (locs1 : List Loc) (ls1 : Array Slot) (pc1 : Nat), va_S A s.heap H1 locs1 → RetAt d pc1 r → W p l e R s m args below meth c H1 locs1 0 0 Q (F0 m pc1 ls1 r.toList)) → W p l e R s m args below meth c s.heap [] 0 0 Q (F0 m 0 ls [])) : MetT l ad aV d As r := by
  intro sz
  refine Met.ofW (cc := d.2.1) (maxL := d.2.2.1) (ret := d.2.2.2.1) hd.1 rfl ?_
  intro p e s m args below meth c s₁ B hml hv
  obtain ⟨rfl, hsz, hT⟩ := hv
  have hts := atoms_spec (ws := wsD d) B.pre
  have hown : s.vm.findClass d.1.cls = some m.cls := findClass_of_methodNamed B.named
  subst hsz
  have hl := lv_entry As (n := d.2.2.1) hs
  rw [lg_entry_eq]
  refine hb (fun q => s.heap.size ≤ q) p e _ s m _ below meth c _ _ ⟨B.exec, B.bytes, hml, hown, fun w hw => hts w (List.mem_cons_of_mem _ hw), Nat.le_refl _, Nat.le_refl _, hT, fun q hq => hq⟩ hl ?_
  intro H1 locs1 ls1 pc1 hS1 hr
  have hlocks := B.notSynchronized
  have hret := B.returns
  rcases hr with ⟨rfl, h2, h3⟩ | ⟨v, ty, rfl, h2, h3, h4⟩ | ⟨v, rfl, h2, h3⟩
  · exact W.vret B.exec B.bytes (hret.trans h2) (fun t ht hW => ⟨rfl, hS1.F ht⟩) hS1.2.2 h3 hlocks
  · exact W.zret B.exec B.bytes (hret.trans h2) h3 (fun t ht hW => ⟨rfl, hS1.F ht⟩) hS1.2.2 h4 hlocks
  · exact W.lret B.exec B.bytes (hret.trans h2) (fun t ht hW => ⟨rfl, hS1.F ht⟩) hS1.2.2 h3 hlocks
section CALLT
variable {p : Program} {l : Launch} {e : Env} {R : Room} {s : State} {m : MethodId} {args : Array Value} {below : List Frame} {meth : Method} {c : Code} {H : Heap} {locs : List Loc} {cells slots : Nat} {Q : State → Prop}
theorem runT {sz : Nat} {r : Option Value} {A : Nat → Prop} {a : Array Value} {pc : Nat} {ls : Array Slot} {st0 rest : List Value} (hr : va_Run p l e R s m args below meth c H locs cells slots 0 0 (F0 m pc ls st0) rest (QcT sz r a) (fun q => sz ≤ q)) (hS : va_S A s.heap H locs) (hsz : sz = H.size) (hA : ∀ q, s.heap.size ≤ q → A q)
    (kk : ∀ (H1 : Heap) (locs1 : List Loc), (∀ q, q < H.size → H1[q]? = H[q]?) → va_S A s.heap H1 locs1 → W p l e R s m args below meth c H1 locs1 cells slots Q (F0 m (pc + 3) ls (r.toList ++ rest))) : W p l e R s m args below meth c H locs cells slots Q (F0 m pc ls st0) := by
  subst hsz
  have hA' : ∀ q, H.size ≤ q → A q := fun q h => hA q (Nat.le_trans hS.1 h)
  intro T hT X
  obtain ⟨v, st₀, t, T', L, h0, X', hL, e1, e2, ⟨hv, hz, hk⟩, st⟩ := hr T hT X
  cases hv
  rw [h0] at hz hk
  have hk2 : ∀ q, q < H.size → T'.heap[q]? = H[q]? := fun q h => by rw [e1]; exact hk q h (Nat.not_le.mpr h)
  obtain ⟨t2, a1, b1⟩ := kk T'.heap (locs ++ L) hk2
    ⟨Nat.le_trans hS.1 (by rw [e1]; exact hz), fun q h1 h2 => by rw [hk2 q (Nat.lt_of_lt_of_le h1 hS.1)]; exact hS.2.1 q h1 h2, fun q hq => by
      rcases List.mem_append.mp hq with h | h
      · exact hS.2.2 q h
      · exact hA' _ (hL q h)⟩ T' rfl X'
  exact ⟨t2, st t2 a1, b1⟩
theorem PreT_blind {ad aV : Nat → Nat} {sz : Nat} {av : List Value} : FrameBlind (va_Pc av (PreT ad aV sz)) :=
  fun a U g mk q => ⟨q.1, q.2.1, Tx.same (u := U) (U := U.calling g mk a) rfl q.2.2⟩
/-- a call of a text's method -/
theorem callT {ad aV : Nat → Nat} {A : Nat → Prop} {own : String} {cc : ByteArray} {mx fr lc : Nat} (C0 : CT ad aV p R s m args c own cc mx fr lc A) (hS : va_S A s.heap H locs) {d' : MD} {idx n : Nat} (hd : MDok d' n) (hfr : d'.2.2.2.2.1 + 1 ≤ fr) (hlc : 8 + (d'.2.2.1 + 11) + d'.2.2.2.2.2 ≤ lc) (hl : Cond.methodLink own idx d'.1 ∈ gtb) {As rest : List Value} {r : Option Value} (hM : MetT l ad aV d' As r) (hz : (rest.map fun v => v.category).sum ≤ 8) {pc : Nat} {ls : Array Slot} (hls : ls.size = mx) (hc : cells ≤ R.cells) (hs : slots ≤ R.slots)
    (hw : (∃ i As', i < 4 ∧ As = .ref (ad (100 + i)) :: As' ∧ As'.length = n ∧ d'.1.cls = "java/lang/String" ∧ Cond.instanceMethod d'.1 ∈ gtb ∧ Cond.selects d'.1.cls d'.1 d'.1 ∈ gtb ∧ decode cc pc = .ok (.invokevirtual idx, 3)) ∨ (As.length = n ∧ Cond.static d'.1 ∈ gtb ∧ decode cc pc = .ok (.invokestatic idx, 3)))
    (kk : ∀ (H1 : Heap) (locs1 : List Loc), (∀ q, q < H.size → H1[q]? = H[q]?) → va_S A s.heap H1 locs1 → W p l e R s m args below meth c H1 locs1 cells slots Q (F0 m (pc + 3) ls (r.toList ++ rest))) : W p l e R s m args below meth c H locs cells slots Q (F0 m pc ls (As.reverse ++ rest)) := by
  obtain ⟨hx, hb, hml, hown, hts, hR1, hR2, hT, hA⟩ := C0
  have cb : CallB R s args own idx d'.1 d'.2.1 d'.2.2.1 d'.2.2.2.1 (wsD d') { frames := d'.2.2.2.2.1, cells := 0, slots := 0, locals := d'.2.2.2.2.2 } 0 0 n := callB_of n hts (good_wsD hd) rfl rfl rfl (hts _ hd.2.2.1) (hts _ hl) hd.2.2.2 ⟨Nat.le_trans hfr hR1, Nat.le_trans hlc hR2⟩
  have hpre : ∀ U : State, U.heap = H → s.WarmedH U.vm → PreT ad aV H.size U := fun U hU hW => ⟨by rw [hU], by rw [hU]; exact ((hT.kept hS.2.1).moved hW).narrow (fun q h => hA q (Nat.le_trans hS.1 h))⟩
  rcases hw with ⟨i, As', hi, rfl, hn, hcl, hin, hse, hdg⟩ | ⟨hn, hst, hdg⟩
  · have hrcv := vk_recv hT.1 hi hS
    rw [← hcl] at hrcv
    exact runT (va_runV (As := As') (rest := rest) ⟨hx, hb, hml, hown, hts⟩ (hM H.size) ⟨cb, hts _ hin, hts _ hse⟩ ⟨PreT_blind, hrcv, fun U hU hW => ⟨rfl, hpre U hU hW⟩⟩ rfl hn hls (by simp) (lv_room hz) hdg ⟨hc, hs⟩) hS rfl hA kk
  · exact runT (va_runS (As := As) (rest := rest) ⟨hx, hb, hml, hown, hts⟩ (hM H.size) ⟨cb, hts _ hst⟩ ⟨PreT_blind, fun U hU hW => ⟨rfl, hpre U hU hW⟩⟩ rfl hn hls rfl (lv_room hz) hdg ⟨hc, hs⟩) hS rfl hA kk
end CALLT
section TMET
variable {l : Launch} {ad aV : Nat → Nat}
set_option maxRecDepth 20000 in
theorem tt_co {i : Nat} (hi : i < 4) : MetT l ad aV mdT_co [.ref (ad (100 + i))] (some (.int 0)) := by
  refine metT mdT_co_ok (Nat.le_of_ble_eq_true rfl) ?_
  intro A p e R s m args below meth c ls Q C0 hl ret
  obtain ⟨hx, hb, hml, hown, hts, hR1, hR2, hT, hA⟩ := id C0
  have hS : va_S A s.heap s.heap [] := va_S.rf
  refine va_gets hx hb hT.2.2.1 hS hown (hts _ tw_f_cs) (fun x h => h) td_co_0 ?_
  refine lv_if_eq (tgt := 13) hx hb td_co_3 (by decide) (fun h => absurd h (by decide)) (fun _ => ?_)
  refine lv_aload_n hx hb td_co_6 rfl (lv_at hl 0 rfl) ?_
  refine vk_getf hx hb (hT.1.1 i hi).2.1 hS hown (hts _ tw_f_cd) (fun x h => h) td_co_7 ?_
  refine lv_goto (tgt := 14) hx hb td_co_10 (by decide) ?_
  exact ret _ _ _ _ hS (Or.inr (Or.inl ⟨0, .byte, rfl, rfl, rfl, td_co_14⟩))
set_option maxRecDepth 20000 in
theorem tt_il {i : Nat} (hi : i < 4) : MetT l ad aV mdT_il [.ref (ad (100 + i))] (some (.int 1)) := by
  refine metT mdT_il_ok (Nat.le_of_ble_eq_true rfl) ?_
  intro A p e R s m args below meth c ls Q C0 hl ret
  obtain ⟨hx, hb, hml, hown, hts, hR1, hR2, hT, hA⟩ := id C0
  have hS : va_S A s.heap s.heap [] := va_S.rf
  refine va_gets hx hb hT.2.2.1 hS hown (hts _ tw_f_cs) (fun x h => h) td_il_0 ?_
  refine lv_if_eq (tgt := 17) hx hb td_il_3 (by decide) (fun h => absurd h (by decide)) (fun _ => ?_)
  refine lv_aload_n hx hb td_il_6 rfl (lv_at hl 0 rfl) ?_
  refine vk_getf hx hb (hT.1.1 i hi).2.1 hS hown (hts _ tw_f_cd) (fun x h => h) td_il_7 ?_
  refine lv_if_ne (tgt := 17) hx hb td_il_10 (by decide) (fun h => absurd rfl h) (fun _ => ?_)
  refine lv_iconst (v := 1) hx hb td_il_13 (by decide) ?_
  refine lv_goto (tgt := 18) hx hb td_il_14 (by decide) ?_
  exact ret _ _ _ _ hS (Or.inr (Or.inl ⟨1, .boolean, rfl, rfl, rfl, td_il_18⟩))
set_option maxRecDepth 20000 in
theorem tt_pc {i n : Int32} {v : Value} (hv : v = .null ∨ ∃ t, v = .ref t) (h0 : ¬ i < 0) (h1 : i < n) : MetT l ad aV mdT_pc [.int i, .int n, v] (some (.int i)) := by
  have hz : (lg_sl [.int i, .int n, v]).length ≤ 3 := by rcases hv with rfl | ⟨t, rfl⟩ <;> exact Nat.le_of_ble_eq_true rfl
  refine metT mdT_pc_ok hz ?_
  intro A p e R s m args below meth c ls Q C0 hl ret
  obtain ⟨hx, hb, hml, hown, hts, hR1, hR2, hT, hA⟩ := id C0
  have hS : va_S A s.heap s.heap [] := va_S.rf
  refine lv_iload_n hx hb td_pc_0 rfl (lv_at hl 0 rfl) ?_
  refine lv_if_lt (tgt := 9) hx hb td_pc_1 (by decide) (fun h => absurd h h0) (fun _ => ?_)
  refine lv_iload_n hx hb td_pc_4 rfl (lv_at hl 0 rfl) ?_
  refine lv_iload_n hx hb td_pc_5 rfl (lv_at hl 1 rfl) ?_
  refine lv_icmp_lt (tgt := 16) hx hb td_pc_6 (by decide) (fun _ => ?_) (fun h => absurd h1 h)
  refine lv_iload_n hx hb td_pc_16 rfl (lv_at hl 0 rfl) ?_
  exact ret _ _ _ _ hS (Or.inr (Or.inl ⟨i, .int, rfl, rfl, rfl, td_pc_17⟩))
set_option maxRecDepth 20000 in
theorem tt_sc {i n : Int32} (h0 : ¬ i < 0) (h1 : i < n) : MetT l ad aV mdT_sc [.int i, .int n] none := by
  refine metT mdT_sc_ok (Nat.le_of_ble_eq_true rfl) ?_
  intro A p e R s m args below meth c ls Q C0 hl ret
  obtain ⟨hx, hb, hml, hown, hts, hR1, hR2, hT, hA⟩ := id C0
  have hS : va_S A s.heap s.heap [] := va_S.rf
  refine lv_iload_n hx hb td_sc_0 rfl (lv_at hl 0 rfl) ?_
  refine lv_iload_n hx hb td_sc_1 rfl (lv_at hl 1 rfl) ?_
  have hZ : ∃ v, (v = .null ∨ ∃ t, v = .ref t) ∧ va_Z "jdk/internal/util/Preconditions" "SIOOBE_FORMATTER" "Ljava/util/function/BiFunction;" v A s s.heap := by
    rcases hT.2.2.2 with h | ⟨t, h⟩
    · exact ⟨_, Or.inl rfl, h⟩
    · exact ⟨_, Or.inr ⟨t, rfl⟩, h⟩
  obtain ⟨v, hv, hZ⟩ := hZ
  refine va_gets hx hb hZ hS hown (hts _ tw_f_si) (fun x h => h) td_sc_2 ?_
  refine callT (As := [.int i, .int n, v]) (rest := []) C0 hS mdT_pc_ok (by decide) (by decide) tw_l_pc (tt_pc hv h0 h1) (Nat.zero_le _) hl.1 (Nat.zero_le _) (Nat.zero_le _) (Or.inr ⟨rfl, tw_t_pc, td_sc_5⟩) (fun H1 locs1 hk hS1 => ?_)
  refine lv_pop (va := .int i) hx hb td_sc_8 rfl ?_
  exact ret _ _ _ _ hS1 (Or.inl ⟨rfl, rfl, td_sc_9⟩)
theorem tx_b : ∀ j, j < 4 → ∀ k, k < txN.getD j 0 → ((((txB.getD j []).getD k 0) &&& 255).toUInt32 % 65536).toInt32 = nI ((txt j).getD k 0) ∧ narrow .char (.int (nI ((txt j).getD k 0))) = .int (nI ((txt j).getD k 0)) := by decide +kernel
theorem tx_n : ∀ j, j < 4 → txN.getD j 0 = (txt j).length ∧ txN.getD j 0 < 100 := by decide +kernel
set_option maxRecDepth 20000 in
theorem tt_lc {j k : Nat} (hj : j < 4) (hk : k < txN.getD j 0) : MetT l ad aV mdT_lc [.ref (aV j), .int (nI k)] (some (.int (nI ((txt j).getD k 0)))) := by
  have hN := (tx_n j hj).2
  refine metT mdT_lc_ok (Nat.le_of_ble_eq_true rfl) ?_
  intro A p e R s m args below meth c ls Q C0 hl ret
  obtain ⟨hx, hb, hml, hown, hts, hR1, hR2, hT, hA⟩ := id C0
  have hS : va_S A s.heap s.heap [] := va_S.rf
  refine lv_iload_n hx hb td_lc_0 rfl (lv_at hl 1 rfl) ?_
  refine lv_aload_n hx hb td_lc_1 rfl (lv_at hl 0 rfl) ?_
  refine va_tlen hx hb (hT.1.1 j hj).2.2.2 hS (v := nI (txN.getD j 0)) rfl td_lc_2 ?_
  refine callT (As := [.int (nI k), .int (nI (txN.getD j 0))]) (rest := []) C0 hS mdT_sc_ok (by decide) (by decide) tw_l_sc (tt_sc (nI_pos (by omega)) (nI_lt hk (by omega))) (Nat.zero_le _) hl.1 (Nat.zero_le _) (Nat.zero_le _) (Or.inr ⟨rfl, tw_t_sc, td_lc_3⟩) (fun H1 locs1 _ hS1 => ?_)
  refine lv_aload_n hx hb td_lc_6 rfl (lv_at hl 0 rfl) ?_
  refine lv_iload_n hx hb td_lc_7 rfl (lv_at hl 1 rfl) ?_
  refine va_tb hx hb (hT.1.1 j hj).2.2.2 hS1 (vp_in_nI hk (by omega)) (v := .int ((txB.getD j []).getD k 0)) (by rw [nI_clamp (by omega)]) td_lc_8 ?_
  refine lv_sipush (v := 255) hx hb td_lc_9 rfl ?_
  refine lv_iand hx hb td_lc_12 ?_
  refine lv_i2c hx hb td_lc_13 (tx_b j hj k hk).1 ?_
  exact ret _ _ _ _ hS1 (Or.inr (Or.inl ⟨_, .char, rfl, rfl, (tx_b j hj k hk).2, td_lc_14⟩))
set_option maxRecDepth 20000 in
theorem tt_ca {j k : Nat} (hj : j < 4) (hk : k < txN.getD j 0) : MetT l ad aV mdT_ca [.ref (ad (100 + j)), .int (nI k)] (some (.int (nI ((txt j).getD k 0)))) := by
  refine metT mdT_ca_ok (Nat.le_of_ble_eq_true rfl) ?_
  intro A p e R s m args below meth c ls Q C0 hl ret
  obtain ⟨hx, hb, hml, hown, hts, hR1, hR2, hT, hA⟩ := id C0
  have hS : va_S A s.heap s.heap [] := va_S.rf
  refine lv_aload_n hx hb td_ca_0 rfl (lv_at hl 0 rfl) ?_
  refine callT (As := [.ref (ad (100 + j))]) (rest := []) C0 hS mdT_il_ok (by decide) (by decide) tw_l_il (tt_il hj) (Nat.zero_le _) hl.1 (Nat.zero_le _) (Nat.zero_le _) (Or.inl ⟨j, [], hj, rfl, rfl, rfl, tw_i_il, tw_s_il, td_ca_1⟩) (fun H1 locs1 _ hS1 => ?_)
  refine lv_if_eq (tgt := 16) hx hb td_ca_4 (by decide) (fun h => absurd h (by decide)) (fun _ => ?_)
  refine lv_aload_n hx hb td_ca_7 rfl (lv_at hl 0 rfl) ?_
  refine vk_getf hx hb (hT.1.1 j hj).2.2.1 hS1 hown (hts _ tw_f_va) (fun x h => h) td_ca_8 ?_
  refine lv_iload_n hx hb td_ca_11 rfl (lv_at hl 1 rfl) ?_
  refine callT (As := [.ref (aV j), .int (nI k)]) (rest := []) C0 hS1 mdT_lc_ok (by decide) (by decide) tw_l_lc (tt_lc hj hk) (Nat.zero_le _) hl.1 (Nat.zero_le _) (Nat.zero_le _) (Or.inr ⟨rfl, tw_t_lc, td_ca_12⟩) (fun H2 locs2 _ hS2 => ?_)
  exact ret _ _ _ _ hS2 (Or.inr (Or.inl ⟨_, .char, rfl, rfl, (tx_b j hj k hk).2, td_ca_15⟩))
set_option maxRecDepth 20000 in
theorem tt_ln {j : Nat} (hj : j < 4) : MetT l ad aV mdT_ln [.ref (ad (100 + j))] (some (.int (nI (txt j).length))) := by
  refine metT mdT_ln_ok (Nat.le_of_ble_eq_true rfl) ?_
  intro A p e R s m args below meth c ls Q C0 hl ret
  obtain ⟨hx, hb, hml, hown, hts, hR1, hR2, hT, hA⟩ := id C0
  have hS : va_S A s.heap s.heap [] := va_S.rf
  refine lv_aload_n hx hb td_ln_0 rfl (lv_at hl 0 rfl) ?_
  refine vk_getf hx hb (hT.1.1 j hj).2.2.1 hS hown (hts _ tw_f_va) (fun x h => h) td_ln_1 ?_
  refine va_tlen hx hb (hT.1.1 j hj).2.2.2 hS (v := nI (txN.getD j 0)) rfl td_ln_4 ?_
  refine lv_aload_n hx hb td_ln_5 rfl (lv_at hl 0 rfl) ?_
  refine callT (As := [.ref (ad (100 + j))]) (rest := [.int (nI (txN.getD j 0))]) C0 hS mdT_co_ok (by decide) (by decide) tw_l_co (tt_co hj) (Nat.le_of_ble_eq_true rfl) hl.1 (Nat.zero_le _) (Nat.zero_le _) (Or.inl ⟨j, [], hj, rfl, rfl, rfl, tw_i_co, tw_s_co, td_ln_6⟩) (fun H1 locs1 _ hS1 => ?_)
  refine lv_ishr hx hb td_ln_9 ?_
  have e : nI (txN.getD j 0) >>> ((0 : Int32) &&& 31) = nI (txt j).length := by
    have : ∀ j, j < 4 → nI (txN.getD j 0) >>> ((0 : Int32) &&& 31) = nI (txt j).length := by decide +kernel
    exact this j hj
  rw [e]
  exact ret _ _ _ _ hS1 (Or.inr (Or.inl ⟨_, .int, rfl, rfl, rfl, td_ln_10⟩))
end TMET
theorem tx_j {b : Nat} (h1 : 100 ≤ b) (h2 : b < 104) : ∃ j : Nat, j < 4 ∧ b = 100 + j := ⟨b - 100, by omega, by omega⟩
theorem tx_jj {j : Nat} : 100 + j - 100 = j := by omega
theorem Cx.CT {dC : Nat → ClassId} {dI : Nat → Nat → Nat} {dA : Nat → ClassId} {ad aV : Nat → Nat} {A : Nat → Prop} {p : Program} {R : Room} {s : State} {m : MethodId} {args : Array Value} {c : Code} {own : String} {cc : ByteArray} {mx fr lc : Nat} (C0 : Cx dC dI dA ad aV A p R s m args c own cc mx fr lc) : CT ad aV p R s m args c own cc mx fr lc A := ⟨C0.1, C0.2.1, C0.2.2.1, C0.2.2.2.1, C0.2.2.2.2.1, C0.2.2.2.2.2.2.1, C0.2.2.2.2.2.2.2.1, C0.2.2.2.2.2.2.2.2.1, C0.2.2.2.2.2.2.2.2.2⟩
theorem Hd.kept {dC : Nat → ClassId} {dI : Nat → Nat → Nat} {dA : Nat → ClassId} {ad : Nat → Nat} {A : Nat → Prop} {H0 : Heap} {mx : Nat} {L : List (Option Value)} {u : Sg} {H H1 : Heap} {locs locs1 : List Loc} {ls : Array Slot} (h : Hd dC dI dA ad A H0 mx L u H locs ls) (hk : ∀ q, q < H.size → H1[q]? = H[q]?) (hS : va_S A H0 H1 locs1) : Hd dC dI dA ad A H0 mx L u H1 locs1 ls :=
  ⟨fun k q hq => (h.1 k q hq).kept (hk q.1 (h.1 k q hq).lt), h.2.1, hS, h.2.2.2⟩
theorem snd_slen {own : String} {cc : ByteArray} {mx fr lc pc idx : Nat} (hw : Cond.methodLink own idx ⟨"java/lang/String", "length", "()I"⟩ ∈ gtb) (hfr : 2 ≤ fr) (hlc : 40 ≤ lc) (hd : decode cc pc = .ok (.invokevirtual idx, 3)) : SndI own cc mx fr lc pc (o_slen (pc + 3)) := by
  intro dC dI dA ad aV A p l e R s m args below meth c H locs ls L S u st Q C0 h0 hf k
  rw [o_slen] at hf
  dsimp only at hf
  split at hf
  · rename_i b r
    by_cases hc : 100 ≤ b ∧ b < 104 ∧ slc r ≤ 8
    · rw [if_pos hc] at hf
      cases hf
      obtain ⟨j, hj, rfl⟩ := tx_j hc.1 hc.2.1
      rw [tx_jj] at k
      exact callT (As := [.ref (ad (100 + j))]) (rest := r.map (cvv ad)) C0.CT h0.2.2.1 mdT_ln_ok hfr hlc hw (tt_ln hj) (by rw [slc_sum]; exact hc.2.2) h0.2.2.2.1 (Nat.zero_le _) (Nat.zero_le _) (Or.inl ⟨j, [], hj, rfl, rfl, rfl, tw_i_ln, tw_s_ln, hd⟩) (fun H1 locs1 hk hS1 => k H1 locs1 ls (h0.kept hk hS1))
    · rw [if_neg hc] at hf
      cases hf
  · cases hf
theorem snd_schr {own : String} {cc : ByteArray} {mx fr lc pc idx : Nat} (hw : Cond.methodLink own idx ⟨"java/lang/String", "charAt", "(I)C"⟩ ∈ gtb) (hfr : 4 ≤ fr) (hlc : 85 ≤ lc) (hd : decode cc pc = .ok (.invokevirtual idx, 3)) : SndI own cc mx fr lc pc (o_schr (pc + 3)) := by
  intro dC dI dA ad aV A p l e R s m args below meth c H locs ls L S u st Q C0 h0 hf k
  rw [o_schr] at hf
  dsimp only at hf
  split at hf
  · rename_i i b r
    by_cases hc : 100 ≤ b ∧ b < 104 ∧ 0 ≤ i.toInt ∧ i.toInt < (txt (b - 100)).length ∧ slc r ≤ 8
    · rw [if_pos hc] at hf
      cases hf
      obtain ⟨j, hj, rfl⟩ := tx_j hc.1 hc.2.1
      rw [tx_jj] at k hc
      obtain ⟨-, -, c1, c2, c3⟩ := hc
      have hN := tx_n j hj
      have hc0 : (i.toNatClampNeg : Int) = i.toInt := by
        show ((i.toInt.toNat : Nat) : Int) = i.toInt
        omega
      have ei : i = nI i.toNatClampNeg := by
        apply Int32.toInt_inj.mp
        rw [nI_toInt (by omega)]
        omega
      have hk : i.toNatClampNeg < txN.getD j 0 := by omega
      rw [ei]
      exact callT (As := [.ref (ad (100 + j)), .int (nI i.toNatClampNeg)]) (rest := r.map (cvv ad)) C0.CT h0.2.2.1 mdT_ca_ok hfr hlc hw (tt_ca hj hk) (by rw [slc_sum]; exact c3) h0.2.2.2.1 (Nat.zero_le _) (Nat.zero_le _) (Or.inl ⟨j, [_], hj, rfl, rfl, rfl, tw_i_ca, tw_s_ca, hd⟩) (fun H1 locs1 hk hS1 => k H1 locs1 ls (h0.kept hk hS1))
    · rw [if_neg hc] at hf
      cases hf
  · cases hf
