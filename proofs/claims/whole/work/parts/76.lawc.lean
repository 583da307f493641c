/-! ===== the law: its cases ===== -/
/-- where the law stands -/
def LC (dC : Nat → ClassId) (dI : Nat → Nat → Nat) (dA : Nat → ClassId) (ad aV : Nat → Nat) (p : Program) (s : State) (m : MethodId) (c : Code) (b L : Nat) (xs : Nat → Int32) : Prop := Cx dC dI dA ad aV (fun q => s.heap.size ≤ q) p room_1 s m #[Value.ref b] c R_law code 4 11 388 ∧ va_X b L xs s s.heap ∧ b < s.heap.size ∧ L ≤ 3072
/-- what holds between two calls: the class's cells and the reference's hold the same state -/
def LSt (dC : Nat → ClassId) (dI : Nat → Nat → Nat) (dA : Nat → ClassId) (ad : Nat → Nat) (s : State) (b i : Nat) (u : Sg) (z : Zs) (H : Heap) (locs : List Loc) (ls : Array Slot) : Prop :=
  va_P (dC, dI) vwCl (wor dA ad u) H ∧ va_D (fun q => s.heap.size ≤ q) (wor dA ad u) ∧ va_S (fun q => s.heap.size ≤ q) s.heap H locs ∧ lv_has ls 4 [(0, .ref b), (1, .ref (ad 0)), (2, .ref (ad 41)), (3, .int (nI i))] ∧ CInv u z ∧ MInv u z ∧ GoodZ z
section LAW
variable {p : Program} {l : Launch} {e : Env} {s : State} {m : MethodId} {below : List Frame} {meth : Method} {c : Code} {b L : Nat} {xs : Nat → Int32} {dC : Nat → ClassId} {dI : Nat → Nat → Nat} {dA : Nat → ClassId} {ad aV : Nat → Nat} {Q : State → Prop} {H : Heap} {locs : List Loc} {ls : Array Slot} {i : Nat} {u : Sg} {z : Zs}
theorem l_arg {rest : List Value} (C : LC dC dI dA ad aV p s m c b L xs) (hS : va_S (fun q => s.heap.size ≤ q) s.heap H locs) (hl : lv_has ls 4 [(0, .ref b), (1, .ref (ad 0)), (2, .ref (ad 41)), (3, .int (nI i))]) {k pc : Nat} {n : Int} (hk : i + k < L) (hn : Int32.ofInt n = nI k) (d0 : decode code pc = .ok (.aload_n 0, 1)) (d1 : decode code (pc + 1) = .ok (.iload_n 3, 1)) (d2 : decode code (pc + 2) = .ok (.iconst n, 1)) (d3 : decode code (pc + 3) = .ok (.iadd, 1)) (d4 : decode code (pc + 4) = .ok (.iaload, 1))
    (kk : W p l e room_1 s m #[Value.ref b] below meth c H locs 63 2138 Q (F0 m (pc + 5) ls (.int (xs (i + k)) :: rest))) : W p l e room_1 s m #[Value.ref b] below meth c H locs 63 2138 Q (F0 m pc ls rest) := by
  obtain ⟨⟨hx, hb, -⟩, hX, hbl, hL⟩ := C
  refine lv_aload_n hx hb d0 rfl (lv_at hl 0 rfl) ?_
  refine lv_iload_n hx hb d1 rfl (lv_at hl 3 rfl) ?_
  refine lv_iconst (v := nI k) hx hb d2 hn ?_
  refine lv_iadd hx hb d3 ?_
  rw [nI_add]
  refine va_sld hx hb hX hbl (Nat.not_le.mpr hbl) hS (vp_in_nI hk (by omega)) d4 ?_
  rw [nI_clamp (by omega)]
  exact kk
theorem lwl_13 : Cond.methodLink R_law 13 yX3_counter ∈ gtb := gtb_of (List.mem_append_right _ (List.mem_of_getElem? (i := 147) (by decide +kernel))) (by decide +kernel)
theorem lwi_X3_counter : Cond.instanceMethod yX3_counter ∈ gtb := gtb_of (List.mem_append_right _ (List.mem_of_getElem? (i := 148) (by decide +kernel))) (by decide +kernel)
theorem lws_X3_counter : Cond.selects RX3 yX3_counter yX3_counter ∈ gtb := gtb_of (List.mem_append_right _ (List.mem_of_getElem? (i := 149) (by decide +kernel))) (by decide +kernel)
theorem lwl_17 : Cond.methodLink R_law 17 yX4_counter ∈ gtb := gtb_of (List.mem_append_right _ (List.mem_of_getElem? (i := 716) (by decide +kernel))) (by decide +kernel)
theorem lwi_X4_counter : Cond.instanceMethod yX4_counter ∈ gtb := gtb_of (List.mem_append_right _ (List.mem_of_getElem? (i := 717) (by decide +kernel))) (by decide +kernel)
theorem lws_X4_counter : Cond.selects RX4 yX4_counter yX4_counter ∈ gtb := gtb_of (List.mem_append_right _ (List.mem_of_getElem? (i := 718) (by decide +kernel))) (by decide +kernel)
theorem lwl_18 : Cond.methodLink R_law 18 yX3_one ∈ gtb := gtb_of (List.mem_append_right _ (List.mem_of_getElem? (i := 155) (by decide +kernel))) (by decide +kernel)
theorem lwi_X3_one : Cond.instanceMethod yX3_one ∈ gtb := gtb_of (List.mem_append_right _ (List.mem_of_getElem? (i := 156) (by decide +kernel))) (by decide +kernel)
theorem lws_X3_one : Cond.selects RX3 yX3_one yX3_one ∈ gtb := gtb_of (List.mem_append_right _ (List.mem_of_getElem? (i := 157) (by decide +kernel))) (by decide +kernel)
theorem lwl_22 : Cond.methodLink R_law 22 yX4_one ∈ gtb := gtb_of (List.mem_append_right _ (List.mem_of_getElem? (i := 720) (by decide +kernel))) (by decide +kernel)
theorem lwi_X4_one : Cond.instanceMethod yX4_one ∈ gtb := gtb_of (List.mem_append_right _ (List.mem_of_getElem? (i := 721) (by decide +kernel))) (by decide +kernel)
theorem lws_X4_one : Cond.selects RX4 yX4_one yX4_one ∈ gtb := gtb_of (List.mem_append_right _ (List.mem_of_getElem? (i := 722) (by decide +kernel))) (by decide +kernel)
theorem lwl_23 : Cond.methodLink R_law 23 yX3_type ∈ gtb := gtb_of (List.mem_append_right _ (List.mem_of_getElem? (i := 177) (by decide +kernel))) (by decide +kernel)
theorem lwi_X3_type : Cond.instanceMethod yX3_type ∈ gtb := gtb_of (List.mem_append_right _ (List.mem_of_getElem? (i := 178) (by decide +kernel))) (by decide +kernel)
theorem lws_X3_type : Cond.selects RX3 yX3_type yX3_type ∈ gtb := gtb_of (List.mem_append_right _ (List.mem_of_getElem? (i := 179) (by decide +kernel))) (by decide +kernel)
theorem lwl_27 : Cond.methodLink R_law 27 yX4_type ∈ gtb := gtb_of (List.mem_append_right _ (List.mem_of_getElem? (i := 739) (by decide +kernel))) (by decide +kernel)
theorem lwi_X4_type : Cond.instanceMethod yX4_type ∈ gtb := gtb_of (List.mem_append_right _ (List.mem_of_getElem? (i := 740) (by decide +kernel))) (by decide +kernel)
theorem lws_X4_type : Cond.selects RX4 yX4_type yX4_type ∈ gtb := gtb_of (List.mem_append_right _ (List.mem_of_getElem? (i := 741) (by decide +kernel))) (by decide +kernel)
theorem lwl_28 : Cond.methodLink R_law 28 yX3_clear ∈ gtb := gtb_of (List.mem_append_right _ (List.mem_of_getElem? (i := 185) (by decide +kernel))) (by decide +kernel)
theorem lwi_X3_clear : Cond.instanceMethod yX3_clear ∈ gtb := gtb_of (List.mem_append_right _ (List.mem_of_getElem? (i := 186) (by decide +kernel))) (by decide +kernel)
theorem lws_X3_clear : Cond.selects RX3 yX3_clear yX3_clear ∈ gtb := gtb_of (List.mem_append_right _ (List.mem_of_getElem? (i := 187) (by decide +kernel))) (by decide +kernel)
theorem lwl_31 : Cond.methodLink R_law 31 yX4_clear ∈ gtb := gtb_of (List.mem_append_right _ (List.mem_of_getElem? (i := 743) (by decide +kernel))) (by decide +kernel)
theorem lwi_X4_clear : Cond.instanceMethod yX4_clear ∈ gtb := gtb_of (List.mem_append_right _ (List.mem_of_getElem? (i := 744) (by decide +kernel))) (by decide +kernel)
theorem lws_X4_clear : Cond.selects RX4 yX4_clear yX4_clear ∈ gtb := gtb_of (List.mem_append_right _ (List.mem_of_getElem? (i := 745) (by decide +kernel))) (by decide +kernel)
theorem lwl_32 : Cond.methodLink R_law 32 yX3_read ∈ gtb := gtb_of (List.mem_append_right _ (List.mem_of_getElem? (i := 189) (by decide +kernel))) (by decide +kernel)
theorem lwi_X3_read : Cond.instanceMethod yX3_read ∈ gtb := gtb_of (List.mem_append_right _ (List.mem_of_getElem? (i := 190) (by decide +kernel))) (by decide +kernel)
theorem lws_X3_read : Cond.selects RX3 yX3_read yX3_read ∈ gtb := gtb_of (List.mem_append_right _ (List.mem_of_getElem? (i := 191) (by decide +kernel))) (by decide +kernel)
theorem lwl_35 : Cond.methodLink R_law 35 yX4_read ∈ gtb := gtb_of (List.mem_append_right _ (List.mem_of_getElem? (i := 747) (by decide +kernel))) (by decide +kernel)
theorem lwi_X4_read : Cond.instanceMethod yX4_read ∈ gtb := gtb_of (List.mem_append_right _ (List.mem_of_getElem? (i := 748) (by decide +kernel))) (by decide +kernel)
theorem lws_X4_read : Cond.selects RX4 yX4_read yX4_read ∈ gtb := gtb_of (List.mem_append_right _ (List.mem_of_getElem? (i := 749) (by decide +kernel))) (by decide +kernel)
theorem lwl_36 : Cond.methodLink R_law 36 yX3_lend ∈ gtb := gtb_of (List.mem_append_right _ (List.mem_of_getElem? (i := 315) (by decide +kernel))) (by decide +kernel)
theorem lwi_X3_lend : Cond.instanceMethod yX3_lend ∈ gtb := gtb_of (List.mem_append_right _ (List.mem_of_getElem? (i := 316) (by decide +kernel))) (by decide +kernel)
theorem lws_X3_lend : Cond.selects RX3 yX3_lend yX3_lend ∈ gtb := gtb_of (List.mem_append_right _ (List.mem_of_getElem? (i := 317) (by decide +kernel))) (by decide +kernel)
theorem lwl_40 : Cond.methodLink R_law 40 yX4_lend ∈ gtb := gtb_of (List.mem_append_right _ (List.mem_of_getElem? (i := 813) (by decide +kernel))) (by decide +kernel)
theorem lwi_X4_lend : Cond.instanceMethod yX4_lend ∈ gtb := gtb_of (List.mem_append_right _ (List.mem_of_getElem? (i := 814) (by decide +kernel))) (by decide +kernel)
theorem lws_X4_lend : Cond.selects RX4 yX4_lend yX4_lend ∈ gtb := gtb_of (List.mem_append_right _ (List.mem_of_getElem? (i := 815) (by decide +kernel))) (by decide +kernel)
theorem lwl_41 : Cond.methodLink R_law 41 yX3_leave ∈ gtb := gtb_of (List.mem_append_right _ (List.mem_of_getElem? (i := 336) (by decide +kernel))) (by decide +kernel)
theorem lwi_X3_leave : Cond.instanceMethod yX3_leave ∈ gtb := gtb_of (List.mem_append_right _ (List.mem_of_getElem? (i := 337) (by decide +kernel))) (by decide +kernel)
theorem lws_X3_leave : Cond.selects RX3 yX3_leave yX3_leave ∈ gtb := gtb_of (List.mem_append_right _ (List.mem_of_getElem? (i := 338) (by decide +kernel))) (by decide +kernel)
theorem lwl_44 : Cond.methodLink R_law 44 yX4_leave ∈ gtb := gtb_of (List.mem_append_right _ (List.mem_of_getElem? (i := 849) (by decide +kernel))) (by decide +kernel)
theorem lwi_X4_leave : Cond.instanceMethod yX4_leave ∈ gtb := gtb_of (List.mem_append_right _ (List.mem_of_getElem? (i := 850) (by decide +kernel))) (by decide +kernel)
theorem lws_X4_leave : Cond.selects RX4 yX4_leave yX4_leave ∈ gtb := gtb_of (List.mem_append_right _ (List.mem_of_getElem? (i := 851) (by decide +kernel))) (by decide +kernel)
theorem lwl_45 : Cond.methodLink R_law 45 yX3_evening ∈ gtb := gtb_of (List.mem_append_right _ (List.mem_of_getElem? (i := 342) (by decide +kernel))) (by decide +kernel)
theorem lwi_X3_evening : Cond.instanceMethod yX3_evening ∈ gtb := gtb_of (List.mem_append_right _ (List.mem_of_getElem? (i := 343) (by decide +kernel))) (by decide +kernel)
theorem lws_X3_evening : Cond.selects RX3 yX3_evening yX3_evening ∈ gtb := gtb_of (List.mem_append_right _ (List.mem_of_getElem? (i := 344) (by decide +kernel))) (by decide +kernel)
theorem lwl_48 : Cond.methodLink R_law 48 yX4_evening ∈ gtb := gtb_of (List.mem_append_right _ (List.mem_of_getElem? (i := 853) (by decide +kernel))) (by decide +kernel)
theorem lwi_X4_evening : Cond.instanceMethod yX4_evening ∈ gtb := gtb_of (List.mem_append_right _ (List.mem_of_getElem? (i := 854) (by decide +kernel))) (by decide +kernel)
theorem lws_X4_evening : Cond.selects RX4 yX4_evening yX4_evening ∈ gtb := gtb_of (List.mem_append_right _ (List.mem_of_getElem? (i := 855) (by decide +kernel))) (by decide +kernel)
theorem lwl_49 : Cond.methodLink R_law 49 yX3_undo ∈ gtb := gtb_of (List.mem_append_right _ (List.mem_of_getElem? (i := 366) (by decide +kernel))) (by decide +kernel)
theorem lwi_X3_undo : Cond.instanceMethod yX3_undo ∈ gtb := gtb_of (List.mem_append_right _ (List.mem_of_getElem? (i := 367) (by decide +kernel))) (by decide +kernel)
theorem lws_X3_undo : Cond.selects RX3 yX3_undo yX3_undo ∈ gtb := gtb_of (List.mem_append_right _ (List.mem_of_getElem? (i := 368) (by decide +kernel))) (by decide +kernel)
theorem lwl_52 : Cond.methodLink R_law 52 yX4_undo ∈ gtb := gtb_of (List.mem_append_right _ (List.mem_of_getElem? (i := 864) (by decide +kernel))) (by decide +kernel)
theorem lwi_X4_undo : Cond.instanceMethod yX4_undo ∈ gtb := gtb_of (List.mem_append_right _ (List.mem_of_getElem? (i := 865) (by decide +kernel))) (by decide +kernel)
theorem lws_X4_undo : Cond.selects RX4 yX4_undo yX4_undo ∈ gtb := gtb_of (List.mem_append_right _ (List.mem_of_getElem? (i := 866) (by decide +kernel))) (by decide +kernel)
theorem lwl_53 : Cond.methodLink R_law 53 yX3_of ∈ gtb := gtb_of (List.mem_append_right _ (List.mem_of_getElem? (i := 374) (by decide +kernel))) (by decide +kernel)
theorem lwi_X3_of : Cond.instanceMethod yX3_of ∈ gtb := gtb_of (List.mem_append_right _ (List.mem_of_getElem? (i := 375) (by decide +kernel))) (by decide +kernel)
theorem lws_X3_of : Cond.selects RX3 yX3_of yX3_of ∈ gtb := gtb_of (List.mem_append_right _ (List.mem_of_getElem? (i := 376) (by decide +kernel))) (by decide +kernel)
theorem lwl_56 : Cond.methodLink R_law 56 yX4_of ∈ gtb := gtb_of (List.mem_append_right _ (List.mem_of_getElem? (i := 872) (by decide +kernel))) (by decide +kernel)
theorem lwi_X4_of : Cond.instanceMethod yX4_of ∈ gtb := gtb_of (List.mem_append_right _ (List.mem_of_getElem? (i := 873) (by decide +kernel))) (by decide +kernel)
theorem lws_X4_of : Cond.selects RX4 yX4_of yX4_of ∈ gtb := gtb_of (List.mem_append_right _ (List.mem_of_getElem? (i := 874) (by decide +kernel))) (by decide +kernel)
theorem lwl_57 : Cond.methodLink R_law 57 yX3_about ∈ gtb := gtb_of (List.mem_append_right _ (List.mem_of_getElem? (i := 399) (by decide +kernel))) (by decide +kernel)
theorem lwi_X3_about : Cond.instanceMethod yX3_about ∈ gtb := gtb_of (List.mem_append_right _ (List.mem_of_getElem? (i := 400) (by decide +kernel))) (by decide +kernel)
theorem lws_X3_about : Cond.selects RX3 yX3_about yX3_about ∈ gtb := gtb_of (List.mem_append_right _ (List.mem_of_getElem? (i := 401) (by decide +kernel))) (by decide +kernel)
theorem lwl_60 : Cond.methodLink R_law 60 yX4_about ∈ gtb := gtb_of (List.mem_append_right _ (List.mem_of_getElem? (i := 894) (by decide +kernel))) (by decide +kernel)
theorem lwi_X4_about : Cond.instanceMethod yX4_about ∈ gtb := gtb_of (List.mem_append_right _ (List.mem_of_getElem? (i := 895) (by decide +kernel))) (by decide +kernel)
theorem lws_X4_about : Cond.selects RX4 yX4_about yX4_about ∈ gtb := gtb_of (List.mem_append_right _ (List.mem_of_getElem? (i := 896) (by decide +kernel))) (by decide +kernel)
theorem lwl_61 : Cond.methodLink R_law 61 yX3_fit ∈ gtb := gtb_of (List.mem_append_right _ (List.mem_of_getElem? (i := 404) (by decide +kernel))) (by decide +kernel)
theorem lwi_X3_fit : Cond.instanceMethod yX3_fit ∈ gtb := gtb_of (List.mem_append_right _ (List.mem_of_getElem? (i := 405) (by decide +kernel))) (by decide +kernel)
theorem lws_X3_fit : Cond.selects RX3 yX3_fit yX3_fit ∈ gtb := gtb_of (List.mem_append_right _ (List.mem_of_getElem? (i := 406) (by decide +kernel))) (by decide +kernel)
theorem lwl_64 : Cond.methodLink R_law 64 yX4_fit ∈ gtb := gtb_of (List.mem_append_right _ (List.mem_of_getElem? (i := 898) (by decide +kernel))) (by decide +kernel)
theorem lwi_X4_fit : Cond.instanceMethod yX4_fit ∈ gtb := gtb_of (List.mem_append_right _ (List.mem_of_getElem? (i := 899) (by decide +kernel))) (by decide +kernel)
theorem lws_X4_fit : Cond.selects RX4 yX4_fit yX4_fit ∈ gtb := gtb_of (List.mem_append_right _ (List.mem_of_getElem? (i := 900) (by decide +kernel))) (by decide +kernel)
theorem lwl_65 : Cond.methodLink R_law 65 yX3_best ∈ gtb := gtb_of (List.mem_append_right _ (List.mem_of_getElem? (i := 409) (by decide +kernel))) (by decide +kernel)
theorem lwi_X3_best : Cond.instanceMethod yX3_best ∈ gtb := gtb_of (List.mem_append_right _ (List.mem_of_getElem? (i := 410) (by decide +kernel))) (by decide +kernel)
theorem lws_X3_best : Cond.selects RX3 yX3_best yX3_best ∈ gtb := gtb_of (List.mem_append_right _ (List.mem_of_getElem? (i := 411) (by decide +kernel))) (by decide +kernel)
theorem lwl_68 : Cond.methodLink R_law 68 yX4_best ∈ gtb := gtb_of (List.mem_append_right _ (List.mem_of_getElem? (i := 902) (by decide +kernel))) (by decide +kernel)
theorem lwi_X4_best : Cond.instanceMethod yX4_best ∈ gtb := gtb_of (List.mem_append_right _ (List.mem_of_getElem? (i := 903) (by decide +kernel))) (by decide +kernel)
theorem lws_X4_best : Cond.selects RX4 yX4_best yX4_best ∈ gtb := gtb_of (List.mem_append_right _ (List.mem_of_getElem? (i := 904) (by decide +kernel))) (by decide +kernel)
theorem lwl_69 : Cond.methodLink R_law 69 yX3_dumb ∈ gtb := gtb_of (List.mem_append_right _ (List.mem_of_getElem? (i := 427) (by decide +kernel))) (by decide +kernel)
theorem lwi_X3_dumb : Cond.instanceMethod yX3_dumb ∈ gtb := gtb_of (List.mem_append_right _ (List.mem_of_getElem? (i := 428) (by decide +kernel))) (by decide +kernel)
theorem lws_X3_dumb : Cond.selects RX3 yX3_dumb yX3_dumb ∈ gtb := gtb_of (List.mem_append_right _ (List.mem_of_getElem? (i := 429) (by decide +kernel))) (by decide +kernel)
theorem lwl_72 : Cond.methodLink R_law 72 yX4_dumb ∈ gtb := gtb_of (List.mem_append_right _ (List.mem_of_getElem? (i := 910) (by decide +kernel))) (by decide +kernel)
theorem lwi_X4_dumb : Cond.instanceMethod yX4_dumb ∈ gtb := gtb_of (List.mem_append_right _ (List.mem_of_getElem? (i := 911) (by decide +kernel))) (by decide +kernel)
theorem lws_X4_dumb : Cond.selects RX4 yX4_dumb yX4_dumb ∈ gtb := gtb_of (List.mem_append_right _ (List.mem_of_getElem? (i := 912) (by decide +kernel))) (by decide +kernel)
theorem lwl_73 : Cond.methodLink R_law 73 yX3_own ∈ gtb := gtb_of (List.mem_append_right _ (List.mem_of_getElem? (i := 431) (by decide +kernel))) (by decide +kernel)
theorem lwi_X3_own : Cond.instanceMethod yX3_own ∈ gtb := gtb_of (List.mem_append_right _ (List.mem_of_getElem? (i := 432) (by decide +kernel))) (by decide +kernel)
theorem lws_X3_own : Cond.selects RX3 yX3_own yX3_own ∈ gtb := gtb_of (List.mem_append_right _ (List.mem_of_getElem? (i := 433) (by decide +kernel))) (by decide +kernel)
theorem lwl_76 : Cond.methodLink R_law 76 yX4_own ∈ gtb := gtb_of (List.mem_append_right _ (List.mem_of_getElem? (i := 914) (by decide +kernel))) (by decide +kernel)
theorem lwi_X4_own : Cond.instanceMethod yX4_own ∈ gtb := gtb_of (List.mem_append_right _ (List.mem_of_getElem? (i := 915) (by decide +kernel))) (by decide +kernel)
theorem lws_X4_own : Cond.selects RX4 yX4_own yX4_own ∈ gtb := gtb_of (List.mem_append_right _ (List.mem_of_getElem? (i := 916) (by decide +kernel))) (by decide +kernel)
theorem lwl_77 : Cond.methodLink R_law 77 yX3_ring ∈ gtb := gtb_of (List.mem_append_right _ (List.mem_of_getElem? (i := 447) (by decide +kernel))) (by decide +kernel)
theorem lwi_X3_ring : Cond.instanceMethod yX3_ring ∈ gtb := gtb_of (List.mem_append_right _ (List.mem_of_getElem? (i := 448) (by decide +kernel))) (by decide +kernel)
theorem lws_X3_ring : Cond.selects RX3 yX3_ring yX3_ring ∈ gtb := gtb_of (List.mem_append_right _ (List.mem_of_getElem? (i := 449) (by decide +kernel))) (by decide +kernel)
theorem lwl_80 : Cond.methodLink R_law 80 yX4_ring ∈ gtb := gtb_of (List.mem_append_right _ (List.mem_of_getElem? (i := 922) (by decide +kernel))) (by decide +kernel)
theorem lwi_X4_ring : Cond.instanceMethod yX4_ring ∈ gtb := gtb_of (List.mem_append_right _ (List.mem_of_getElem? (i := 923) (by decide +kernel))) (by decide +kernel)
theorem lws_X4_ring : Cond.selects RX4 yX4_ring yX4_ring ∈ gtb := gtb_of (List.mem_append_right _ (List.mem_of_getElem? (i := 924) (by decide +kernel))) (by decide +kernel)
theorem lwl_81 : Cond.methodLink R_law 81 yX3_swaps ∈ gtb := gtb_of (List.mem_append_right _ (List.mem_of_getElem? (i := 452) (by decide +kernel))) (by decide +kernel)
theorem lwi_X3_swaps : Cond.instanceMethod yX3_swaps ∈ gtb := gtb_of (List.mem_append_right _ (List.mem_of_getElem? (i := 453) (by decide +kernel))) (by decide +kernel)
theorem lws_X3_swaps : Cond.selects RX3 yX3_swaps yX3_swaps ∈ gtb := gtb_of (List.mem_append_right _ (List.mem_of_getElem? (i := 454) (by decide +kernel))) (by decide +kernel)
theorem lwl_84 : Cond.methodLink R_law 84 yX4_swaps ∈ gtb := gtb_of (List.mem_append_right _ (List.mem_of_getElem? (i := 926) (by decide +kernel))) (by decide +kernel)
theorem lwi_X4_swaps : Cond.instanceMethod yX4_swaps ∈ gtb := gtb_of (List.mem_append_right _ (List.mem_of_getElem? (i := 927) (by decide +kernel))) (by decide +kernel)
theorem lws_X4_swaps : Cond.selects RX4 yX4_swaps yX4_swaps ∈ gtb := gtb_of (List.mem_append_right _ (List.mem_of_getElem? (i := 928) (by decide +kernel))) (by decide +kernel)
theorem lwl_85 : Cond.methodLink R_law 85 yX3_steps ∈ gtb := gtb_of (List.mem_append_right _ (List.mem_of_getElem? (i := 468) (by decide +kernel))) (by decide +kernel)
theorem lwi_X3_steps : Cond.instanceMethod yX3_steps ∈ gtb := gtb_of (List.mem_append_right _ (List.mem_of_getElem? (i := 469) (by decide +kernel))) (by decide +kernel)
theorem lws_X3_steps : Cond.selects RX3 yX3_steps yX3_steps ∈ gtb := gtb_of (List.mem_append_right _ (List.mem_of_getElem? (i := 470) (by decide +kernel))) (by decide +kernel)
theorem lwl_88 : Cond.methodLink R_law 88 yX4_steps ∈ gtb := gtb_of (List.mem_append_right _ (List.mem_of_getElem? (i := 934) (by decide +kernel))) (by decide +kernel)
theorem lwi_X4_steps : Cond.instanceMethod yX4_steps ∈ gtb := gtb_of (List.mem_append_right _ (List.mem_of_getElem? (i := 935) (by decide +kernel))) (by decide +kernel)
theorem lws_X4_steps : Cond.selects RX4 yX4_steps yX4_steps ∈ gtb := gtb_of (List.mem_append_right _ (List.mem_of_getElem? (i := 936) (by decide +kernel))) (by decide +kernel)
theorem lwl_89 : Cond.methodLink R_law 89 yX3_worst ∈ gtb := gtb_of (List.mem_append_right _ (List.mem_of_getElem? (i := 476) (by decide +kernel))) (by decide +kernel)
theorem lwi_X3_worst : Cond.instanceMethod yX3_worst ∈ gtb := gtb_of (List.mem_append_right _ (List.mem_of_getElem? (i := 477) (by decide +kernel))) (by decide +kernel)
theorem lws_X3_worst : Cond.selects RX3 yX3_worst yX3_worst ∈ gtb := gtb_of (List.mem_append_right _ (List.mem_of_getElem? (i := 478) (by decide +kernel))) (by decide +kernel)
theorem lwl_92 : Cond.methodLink R_law 92 yX4_worst ∈ gtb := gtb_of (List.mem_append_right _ (List.mem_of_getElem? (i := 950) (by decide +kernel))) (by decide +kernel)
theorem lwi_X4_worst : Cond.instanceMethod yX4_worst ∈ gtb := gtb_of (List.mem_append_right _ (List.mem_of_getElem? (i := 951) (by decide +kernel))) (by decide +kernel)
theorem lws_X4_worst : Cond.selects RX4 yX4_worst yX4_worst ∈ gtb := gtb_of (List.mem_append_right _ (List.mem_of_getElem? (i := 952) (by decide +kernel))) (by decide +kernel)
theorem lwl_93 : Cond.methodLink R_law 93 yX3_slips ∈ gtb := gtb_of (List.mem_append_right _ (List.mem_of_getElem? (i := 485) (by decide +kernel))) (by decide +kernel)
theorem lwi_X3_slips : Cond.instanceMethod yX3_slips ∈ gtb := gtb_of (List.mem_append_right _ (List.mem_of_getElem? (i := 486) (by decide +kernel))) (by decide +kernel)
theorem lws_X3_slips : Cond.selects RX3 yX3_slips yX3_slips ∈ gtb := gtb_of (List.mem_append_right _ (List.mem_of_getElem? (i := 487) (by decide +kernel))) (by decide +kernel)
theorem lwl_96 : Cond.methodLink R_law 96 yX4_slips ∈ gtb := gtb_of (List.mem_append_right _ (List.mem_of_getElem? (i := 954) (by decide +kernel))) (by decide +kernel)
theorem lwi_X4_slips : Cond.instanceMethod yX4_slips ∈ gtb := gtb_of (List.mem_append_right _ (List.mem_of_getElem? (i := 955) (by decide +kernel))) (by decide +kernel)
theorem lws_X4_slips : Cond.selects RX4 yX4_slips yX4_slips ∈ gtb := gtb_of (List.mem_append_right _ (List.mem_of_getElem? (i := 956) (by decide +kernel))) (by decide +kernel)
theorem lwl_97 : Cond.methodLink R_law 97 yX3_note ∈ gtb := gtb_of (List.mem_append_right _ (List.mem_of_getElem? (i := 491) (by decide +kernel))) (by decide +kernel)
theorem lwi_X3_note : Cond.instanceMethod yX3_note ∈ gtb := gtb_of (List.mem_append_right _ (List.mem_of_getElem? (i := 492) (by decide +kernel))) (by decide +kernel)
theorem lws_X3_note : Cond.selects RX3 yX3_note yX3_note ∈ gtb := gtb_of (List.mem_append_right _ (List.mem_of_getElem? (i := 493) (by decide +kernel))) (by decide +kernel)
theorem lwl_101 : Cond.methodLink R_law 101 yX4_note ∈ gtb := gtb_of (List.mem_append_right _ (List.mem_of_getElem? (i := 958) (by decide +kernel))) (by decide +kernel)
theorem lwi_X4_note : Cond.instanceMethod yX4_note ∈ gtb := gtb_of (List.mem_append_right _ (List.mem_of_getElem? (i := 959) (by decide +kernel))) (by decide +kernel)
theorem lws_X4_note : Cond.selects RX4 yX4_note yX4_note ∈ gtb := gtb_of (List.mem_append_right _ (List.mem_of_getElem? (i := 960) (by decide +kernel))) (by decide +kernel)
theorem lwl_102 : Cond.methodLink R_law 102 yX3_forget ∈ gtb := gtb_of (List.mem_append_right _ (List.mem_of_getElem? (i := 499) (by decide +kernel))) (by decide +kernel)
theorem lwi_X3_forget : Cond.instanceMethod yX3_forget ∈ gtb := gtb_of (List.mem_append_right _ (List.mem_of_getElem? (i := 500) (by decide +kernel))) (by decide +kernel)
theorem lws_X3_forget : Cond.selects RX3 yX3_forget yX3_forget ∈ gtb := gtb_of (List.mem_append_right _ (List.mem_of_getElem? (i := 501) (by decide +kernel))) (by decide +kernel)
theorem lwl_105 : Cond.methodLink R_law 105 yX4_forget ∈ gtb := gtb_of (List.mem_append_right _ (List.mem_of_getElem? (i := 962) (by decide +kernel))) (by decide +kernel)
theorem lwi_X4_forget : Cond.instanceMethod yX4_forget ∈ gtb := gtb_of (List.mem_append_right _ (List.mem_of_getElem? (i := 963) (by decide +kernel))) (by decide +kernel)
theorem lws_X4_forget : Cond.selects RX4 yX4_forget yX4_forget ∈ gtb := gtb_of (List.mem_append_right _ (List.mem_of_getElem? (i := 964) (by decide +kernel))) (by decide +kernel)
theorem lwl_106 : Cond.methodLink R_law 106 yX3_is ∈ gtb := gtb_of (List.mem_append_right _ (List.mem_of_getElem? (i := 503) (by decide +kernel))) (by decide +kernel)
theorem lwi_X3_is : Cond.instanceMethod yX3_is ∈ gtb := gtb_of (List.mem_append_right _ (List.mem_of_getElem? (i := 504) (by decide +kernel))) (by decide +kernel)
theorem lws_X3_is : Cond.selects RX3 yX3_is yX3_is ∈ gtb := gtb_of (List.mem_append_right _ (List.mem_of_getElem? (i := 505) (by decide +kernel))) (by decide +kernel)
theorem lwl_109 : Cond.methodLink R_law 109 yX4_is ∈ gtb := gtb_of (List.mem_append_right _ (List.mem_of_getElem? (i := 966) (by decide +kernel))) (by decide +kernel)
theorem lwi_X4_is : Cond.instanceMethod yX4_is ∈ gtb := gtb_of (List.mem_append_right _ (List.mem_of_getElem? (i := 967) (by decide +kernel))) (by decide +kernel)
theorem lws_X4_is : Cond.selects RX4 yX4_is yX4_is ∈ gtb := gtb_of (List.mem_append_right _ (List.mem_of_getElem? (i := 968) (by decide +kernel))) (by decide +kernel)
theorem lwl_110 : Cond.methodLink R_law 110 yX3_listen ∈ gtb := gtb_of (List.mem_append_right _ (List.mem_of_getElem? (i := 515) (by decide +kernel))) (by decide +kernel)
theorem lwi_X3_listen : Cond.instanceMethod yX3_listen ∈ gtb := gtb_of (List.mem_append_right _ (List.mem_of_getElem? (i := 516) (by decide +kernel))) (by decide +kernel)
theorem lws_X3_listen : Cond.selects RX3 yX3_listen yX3_listen ∈ gtb := gtb_of (List.mem_append_right _ (List.mem_of_getElem? (i := 517) (by decide +kernel))) (by decide +kernel)
theorem lwl_113 : Cond.methodLink R_law 113 yX4_listen ∈ gtb := gtb_of (List.mem_append_right _ (List.mem_of_getElem? (i := 974) (by decide +kernel))) (by decide +kernel)
theorem lwi_X4_listen : Cond.instanceMethod yX4_listen ∈ gtb := gtb_of (List.mem_append_right _ (List.mem_of_getElem? (i := 975) (by decide +kernel))) (by decide +kernel)
theorem lws_X4_listen : Cond.selects RX4 yX4_listen yX4_listen ∈ gtb := gtb_of (List.mem_append_right _ (List.mem_of_getElem? (i := 976) (by decide +kernel))) (by decide +kernel)
theorem lwl_114 : Cond.methodLink R_law 114 yX3_whose ∈ gtb := gtb_of (List.mem_append_right _ (List.mem_of_getElem? (i := 524) (by decide +kernel))) (by decide +kernel)
theorem lwi_X3_whose : Cond.instanceMethod yX3_whose ∈ gtb := gtb_of (List.mem_append_right _ (List.mem_of_getElem? (i := 525) (by decide +kernel))) (by decide +kernel)
theorem lws_X3_whose : Cond.selects RX3 yX3_whose yX3_whose ∈ gtb := gtb_of (List.mem_append_right _ (List.mem_of_getElem? (i := 526) (by decide +kernel))) (by decide +kernel)
theorem lwl_117 : Cond.methodLink R_law 117 yX4_whose ∈ gtb := gtb_of (List.mem_append_right _ (List.mem_of_getElem? (i := 985) (by decide +kernel))) (by decide +kernel)
theorem lwi_X4_whose : Cond.instanceMethod yX4_whose ∈ gtb := gtb_of (List.mem_append_right _ (List.mem_of_getElem? (i := 986) (by decide +kernel))) (by decide +kernel)
theorem lws_X4_whose : Cond.selects RX4 yX4_whose yX4_whose ∈ gtb := gtb_of (List.mem_append_right _ (List.mem_of_getElem? (i := 987) (by decide +kernel))) (by decide +kernel)
theorem lwl_118 : Cond.methodLink R_law 118 yX3_asks ∈ gtb := gtb_of (List.mem_append_right _ (List.mem_of_getElem? (i := 528) (by decide +kernel))) (by decide +kernel)
theorem lwi_X3_asks : Cond.instanceMethod yX3_asks ∈ gtb := gtb_of (List.mem_append_right _ (List.mem_of_getElem? (i := 529) (by decide +kernel))) (by decide +kernel)
theorem lws_X3_asks : Cond.selects RX3 yX3_asks yX3_asks ∈ gtb := gtb_of (List.mem_append_right _ (List.mem_of_getElem? (i := 530) (by decide +kernel))) (by decide +kernel)
theorem lwl_121 : Cond.methodLink R_law 121 yX4_asks ∈ gtb := gtb_of (List.mem_append_right _ (List.mem_of_getElem? (i := 989) (by decide +kernel))) (by decide +kernel)
theorem lwi_X4_asks : Cond.instanceMethod yX4_asks ∈ gtb := gtb_of (List.mem_append_right _ (List.mem_of_getElem? (i := 990) (by decide +kernel))) (by decide +kernel)
theorem lws_X4_asks : Cond.selects RX4 yX4_asks yX4_asks ∈ gtb := gtb_of (List.mem_append_right _ (List.mem_of_getElem? (i := 991) (by decide +kernel))) (by decide +kernel)
theorem lwl_122 : Cond.methodLink R_law 122 yX3_thieves ∈ gtb := gtb_of (List.mem_append_right _ (List.mem_of_getElem? (i := 535) (by decide +kernel))) (by decide +kernel)
theorem lwi_X3_thieves : Cond.instanceMethod yX3_thieves ∈ gtb := gtb_of (List.mem_append_right _ (List.mem_of_getElem? (i := 536) (by decide +kernel))) (by decide +kernel)
theorem lws_X3_thieves : Cond.selects RX3 yX3_thieves yX3_thieves ∈ gtb := gtb_of (List.mem_append_right _ (List.mem_of_getElem? (i := 537) (by decide +kernel))) (by decide +kernel)
theorem lwl_125 : Cond.methodLink R_law 125 yX4_thieves ∈ gtb := gtb_of (List.mem_append_right _ (List.mem_of_getElem? (i := 997) (by decide +kernel))) (by decide +kernel)
theorem lwi_X4_thieves : Cond.instanceMethod yX4_thieves ∈ gtb := gtb_of (List.mem_append_right _ (List.mem_of_getElem? (i := 998) (by decide +kernel))) (by decide +kernel)
theorem lws_X4_thieves : Cond.selects RX4 yX4_thieves yX4_thieves ∈ gtb := gtb_of (List.mem_append_right _ (List.mem_of_getElem? (i := 999) (by decide +kernel))) (by decide +kernel)
theorem lwl_126 : Cond.methodLink R_law 126 yX3_lents ∈ gtb := gtb_of (List.mem_append_right _ (List.mem_of_getElem? (i := 553) (by decide +kernel))) (by decide +kernel)
theorem lwi_X3_lents : Cond.instanceMethod yX3_lents ∈ gtb := gtb_of (List.mem_append_right _ (List.mem_of_getElem? (i := 554) (by decide +kernel))) (by decide +kernel)
theorem lws_X3_lents : Cond.selects RX3 yX3_lents yX3_lents ∈ gtb := gtb_of (List.mem_append_right _ (List.mem_of_getElem? (i := 555) (by decide +kernel))) (by decide +kernel)
theorem lwl_129 : Cond.methodLink R_law 129 yX4_lents ∈ gtb := gtb_of (List.mem_append_right _ (List.mem_of_getElem? (i := 1013) (by decide +kernel))) (by decide +kernel)
theorem lwi_X4_lents : Cond.instanceMethod yX4_lents ∈ gtb := gtb_of (List.mem_append_right _ (List.mem_of_getElem? (i := 1014) (by decide +kernel))) (by decide +kernel)
theorem lws_X4_lents : Cond.selects RX4 yX4_lents yX4_lents ∈ gtb := gtb_of (List.mem_append_right _ (List.mem_of_getElem? (i := 1015) (by decide +kernel))) (by decide +kernel)
theorem lwl_130 : Cond.methodLink R_law 130 yX3_part ∈ gtb := gtb_of (List.mem_append_right _ (List.mem_of_getElem? (i := 570) (by decide +kernel))) (by decide +kernel)
theorem lwi_X3_part : Cond.instanceMethod yX3_part ∈ gtb := gtb_of (List.mem_append_right _ (List.mem_of_getElem? (i := 571) (by decide +kernel))) (by decide +kernel)
theorem lws_X3_part : Cond.selects RX3 yX3_part yX3_part ∈ gtb := gtb_of (List.mem_append_right _ (List.mem_of_getElem? (i := 572) (by decide +kernel))) (by decide +kernel)
theorem lwl_134 : Cond.methodLink R_law 134 yX4_part ∈ gtb := gtb_of (List.mem_append_right _ (List.mem_of_getElem? (i := 1022) (by decide +kernel))) (by decide +kernel)
theorem lwi_X4_part : Cond.instanceMethod yX4_part ∈ gtb := gtb_of (List.mem_append_right _ (List.mem_of_getElem? (i := 1023) (by decide +kernel))) (by decide +kernel)
theorem lws_X4_part : Cond.selects RX4 yX4_part yX4_part ∈ gtb := gtb_of (List.mem_append_right _ (List.mem_of_getElem? (i := 1024) (by decide +kernel))) (by decide +kernel)
theorem lwl_135 : Cond.methodLink R_law 135 yX3_image ∈ gtb := gtb_of (List.mem_append_right _ (List.mem_of_getElem? (i := 574) (by decide +kernel))) (by decide +kernel)
theorem lwi_X3_image : Cond.instanceMethod yX3_image ∈ gtb := gtb_of (List.mem_append_right _ (List.mem_of_getElem? (i := 575) (by decide +kernel))) (by decide +kernel)
theorem lws_X3_image : Cond.selects RX3 yX3_image yX3_image ∈ gtb := gtb_of (List.mem_append_right _ (List.mem_of_getElem? (i := 576) (by decide +kernel))) (by decide +kernel)
theorem lwl_138 : Cond.methodLink R_law 138 yX4_image ∈ gtb := gtb_of (List.mem_append_right _ (List.mem_of_getElem? (i := 1026) (by decide +kernel))) (by decide +kernel)
theorem lwi_X4_image : Cond.instanceMethod yX4_image ∈ gtb := gtb_of (List.mem_append_right _ (List.mem_of_getElem? (i := 1027) (by decide +kernel))) (by decide +kernel)
theorem lws_X4_image : Cond.selects RX4 yX4_image yX4_image ∈ gtb := gtb_of (List.mem_append_right _ (List.mem_of_getElem? (i := 1028) (by decide +kernel))) (by decide +kernel)
theorem lwl_139 : Cond.methodLink R_law 139 yX3_from ∈ gtb := gtb_of (List.mem_append_right _ (List.mem_of_getElem? (i := 578) (by decide +kernel))) (by decide +kernel)
theorem lwi_X3_from : Cond.instanceMethod yX3_from ∈ gtb := gtb_of (List.mem_append_right _ (List.mem_of_getElem? (i := 579) (by decide +kernel))) (by decide +kernel)
theorem lws_X3_from : Cond.selects RX3 yX3_from yX3_from ∈ gtb := gtb_of (List.mem_append_right _ (List.mem_of_getElem? (i := 580) (by decide +kernel))) (by decide +kernel)
theorem lwl_142 : Cond.methodLink R_law 142 yX4_from ∈ gtb := gtb_of (List.mem_append_right _ (List.mem_of_getElem? (i := 1030) (by decide +kernel))) (by decide +kernel)
theorem lwi_X4_from : Cond.instanceMethod yX4_from ∈ gtb := gtb_of (List.mem_append_right _ (List.mem_of_getElem? (i := 1031) (by decide +kernel))) (by decide +kernel)
theorem lws_X4_from : Cond.selects RX4 yX4_from yX4_from ∈ gtb := gtb_of (List.mem_append_right _ (List.mem_of_getElem? (i := 1032) (by decide +kernel))) (by decide +kernel)
theorem lwl_143 : Cond.methodLink R_law 143 yX3_status ∈ gtb := gtb_of (List.mem_append_right _ (List.mem_of_getElem? (i := 582) (by decide +kernel))) (by decide +kernel)
theorem lwi_X3_status : Cond.instanceMethod yX3_status ∈ gtb := gtb_of (List.mem_append_right _ (List.mem_of_getElem? (i := 583) (by decide +kernel))) (by decide +kernel)
theorem lws_X3_status : Cond.selects RX3 yX3_status yX3_status ∈ gtb := gtb_of (List.mem_append_right _ (List.mem_of_getElem? (i := 584) (by decide +kernel))) (by decide +kernel)
theorem lwl_146 : Cond.methodLink R_law 146 yX4_status ∈ gtb := gtb_of (List.mem_append_right _ (List.mem_of_getElem? (i := 1034) (by decide +kernel))) (by decide +kernel)
theorem lwi_X4_status : Cond.instanceMethod yX4_status ∈ gtb := gtb_of (List.mem_append_right _ (List.mem_of_getElem? (i := 1035) (by decide +kernel))) (by decide +kernel)
theorem lws_X4_status : Cond.selects RX4 yX4_status yX4_status ∈ gtb := gtb_of (List.mem_append_right _ (List.mem_of_getElem? (i := 1036) (by decide +kernel))) (by decide +kernel)
theorem lwl_147 : Cond.methodLink R_law 147 yX3_count ∈ gtb := gtb_of (List.mem_append_right _ (List.mem_of_getElem? (i := 586) (by decide +kernel))) (by decide +kernel)
theorem lwi_X3_count : Cond.instanceMethod yX3_count ∈ gtb := gtb_of (List.mem_append_right _ (List.mem_of_getElem? (i := 587) (by decide +kernel))) (by decide +kernel)
theorem lws_X3_count : Cond.selects RX3 yX3_count yX3_count ∈ gtb := gtb_of (List.mem_append_right _ (List.mem_of_getElem? (i := 588) (by decide +kernel))) (by decide +kernel)
theorem lwl_150 : Cond.methodLink R_law 150 yX4_count ∈ gtb := gtb_of (List.mem_append_right _ (List.mem_of_getElem? (i := 1038) (by decide +kernel))) (by decide +kernel)
theorem lwi_X4_count : Cond.instanceMethod yX4_count ∈ gtb := gtb_of (List.mem_append_right _ (List.mem_of_getElem? (i := 1039) (by decide +kernel))) (by decide +kernel)
theorem lws_X4_count : Cond.selects RX4 yX4_count yX4_count ∈ gtb := gtb_of (List.mem_append_right _ (List.mem_of_getElem? (i := 1040) (by decide +kernel))) (by decide +kernel)
theorem lwl_151 : Cond.methodLink R_law 151 yX3_digest ∈ gtb := gtb_of (List.mem_append_right _ (List.mem_of_getElem? (i := 598) (by decide +kernel))) (by decide +kernel)
theorem lwi_X3_digest : Cond.instanceMethod yX3_digest ∈ gtb := gtb_of (List.mem_append_right _ (List.mem_of_getElem? (i := 599) (by decide +kernel))) (by decide +kernel)
theorem lws_X3_digest : Cond.selects RX3 yX3_digest yX3_digest ∈ gtb := gtb_of (List.mem_append_right _ (List.mem_of_getElem? (i := 600) (by decide +kernel))) (by decide +kernel)
theorem lwl_155 : Cond.methodLink R_law 155 yX4_digest ∈ gtb := gtb_of (List.mem_append_right _ (List.mem_of_getElem? (i := 1050) (by decide +kernel))) (by decide +kernel)
theorem lwi_X4_digest : Cond.instanceMethod yX4_digest ∈ gtb := gtb_of (List.mem_append_right _ (List.mem_of_getElem? (i := 1051) (by decide +kernel))) (by decide +kernel)
theorem lws_X4_digest : Cond.selects RX4 yX4_digest yX4_digest ∈ gtb := gtb_of (List.mem_append_right _ (List.mem_of_getElem? (i := 1052) (by decide +kernel))) (by decide +kernel)
theorem lcmp_self (r : Int64) : lg_cmp r r = 0 := by
  unfold lg_cmp
  rw [if_neg (fun h => Int64.lt_irrefl h), if_pos rfl]
set_option maxHeartbeats 4000000 in
set_option maxRecDepth 100000 in
theorem lc_0 (C : LC dC dI dA ad aV p s m c b L xs) (S : LSt dC dI dA ad s b i u z H locs ls) (hi : i + 6 ≤ L) (kk : ∀ (u2 : Sg) (z2 : Zs) (H2 : Heap) (locs2 : List Loc), LSt dC dI dA ad s b i u2 z2 H2 locs2 ls → W p l e room_1 s m #[Value.ref b] below meth c H2 locs2 63 2138 Q (F0 m 1028 ls [])) : W p l e room_1 s m #[Value.ref b] below meth c H locs 63 2138 Q (F0 m 184 ls []) := by
  obtain ⟨hx, hb, hml, hown, htg, hK, hR1, hR2, hT, hA⟩ := C.1
  obtain ⟨hP, hD, hS, hl, CI, MI, G⟩ := S
  obtain ⟨r, u1, u2, z2, M1, M2, C2, D2, G2⟩ := sim_i l MI (dB := mdX3_counter) (dM := mdX4_counter) (As := []) (s_counter CI G) rfl rfl mkX3_counter mkX4_counter (Nat.le_of_ble_eq_true rfl) (Nat.le_of_ble_eq_true rfl)
  have hv : lv_has ls 4 (asl ad 0 [none, some (.ref 0), some (.ref 41), some (.int (nI i))]) := lv_sub hl [1, 2, 3] rfl
  refine lv_aload_n hx hb dL_law_184 rfl (lv_at hl 1 rfl) ?_
  refine callW (As := [.ref 0]) (S' := []) (L := [none, some (.ref 0), some (.ref 41), some (.int (nI i))]) (rc := 2) C.1 ⟨hP, hD, hS, hv⟩ mkX3_counter (Nat.le_of_ble_eq_true rfl) (Nat.le_of_ble_eq_true rfl) lwl_13 M1 rfl (Nat.le_of_ble_eq_true rfl) (Nat.le_of_ble_eq_true rfl) (Nat.le_of_ble_eq_true rfl) (Or.inl ⟨rfl, by decide, ⟨_, rfl, rfl⟩, lwi_X3_counter, lws_X3_counter, dL_law_185⟩) (fun H1 locs1 h1 => ?_)
  obtain ⟨hP, hD, hS, -⟩ := h1
  refine lv_aload_n hx hb dL_law_188 rfl (lv_at hl 2 rfl) ?_
  refine callW (As := [.ref 41]) (S' := [.int r]) (L := [none, some (.ref 0), some (.ref 41), some (.int (nI i))]) (rc := 3) C.1 ⟨hP, hD, hS, hv⟩ mkX4_counter (Nat.le_of_ble_eq_true rfl) (Nat.le_of_ble_eq_true rfl) lwl_17 M2 rfl (Nat.le_of_ble_eq_true rfl) (Nat.le_of_ble_eq_true rfl) (Nat.le_of_ble_eq_true rfl) (Or.inl ⟨rfl, by decide, ⟨_, rfl, rfl⟩, lwi_X4_counter, lws_X4_counter, dL_law_189⟩) (fun H2 locs2 h2 => ?_)
  obtain ⟨hP, hD, hS, -⟩ := h2
  refine lv_icmp_eq (tgt := 1028) hx hb dL_law_192 (by decide) (fun _ => ?_) (fun h => absurd rfl h)
  exact kk u2 z2 _ _ ⟨hP, hD, hS, hl, C2, D2, G2⟩
set_option maxHeartbeats 4000000 in
set_option maxRecDepth 100000 in
theorem lc_1 (C : LC dC dI dA ad aV p s m c b L xs) (S : LSt dC dI dA ad s b i u z H locs ls) (hi : i + 6 ≤ L) (kk : ∀ (u2 : Sg) (z2 : Zs) (H2 : Heap) (locs2 : List Loc), LSt dC dI dA ad s b i u2 z2 H2 locs2 ls → W p l e room_1 s m #[Value.ref b] below meth c H2 locs2 63 2138 Q (F0 m 1028 ls [])) : W p l e room_1 s m #[Value.ref b] below meth c H locs 63 2138 Q (F0 m 197 ls []) := by
  obtain ⟨hx, hb, hml, hown, htg, hK, hR1, hR2, hT, hA⟩ := C.1
  obtain ⟨hP, hD, hS, hl, CI, MI, G⟩ := S
  obtain ⟨r, u1, u2, z2, M1, M2, C2, D2, G2⟩ := sim_i l MI (dB := mdX3_one) (dM := mdX4_one) (As := [.int (xs (i + 1)), .int (xs (i + 2)), .int (xs (i + 3))]) (s_one CI G (xs (i + 1)) (xs (i + 2)) (xs (i + 3))) rfl rfl mkX3_one mkX4_one (Nat.le_of_ble_eq_true rfl) (Nat.le_of_ble_eq_true rfl)
  have hv : lv_has ls 4 (asl ad 0 [none, some (.ref 0), some (.ref 41), some (.int (nI i))]) := lv_sub hl [1, 2, 3] rfl
  refine lv_aload_n hx hb dL_law_197 rfl (lv_at hl 1 rfl) ?_
  refine l_arg C hS hl (k := 1) (by omega) rfl dL_law_198 dL_law_199 dL_law_200 dL_law_201 dL_law_202 ?_
  refine l_arg C hS hl (k := 2) (by omega) rfl dL_law_203 dL_law_204 dL_law_205 dL_law_206 dL_law_207 ?_
  refine l_arg C hS hl (k := 3) (by omega) rfl dL_law_208 dL_law_209 dL_law_210 dL_law_211 dL_law_212 ?_
  refine callW (As := [.ref 0, .int (xs (i + 1)), .int (xs (i + 2)), .int (xs (i + 3))]) (S' := []) (L := [none, some (.ref 0), some (.ref 41), some (.int (nI i))]) (rc := 2) C.1 ⟨hP, hD, hS, hv⟩ mkX3_one (Nat.le_of_ble_eq_true rfl) (Nat.le_of_ble_eq_true rfl) lwl_18 M1 rfl (Nat.le_of_ble_eq_true rfl) (Nat.le_of_ble_eq_true rfl) (Nat.le_of_ble_eq_true rfl) (Or.inl ⟨rfl, by decide, ⟨_, rfl, rfl⟩, lwi_X3_one, lws_X3_one, dL_law_213⟩) (fun H1 locs1 h1 => ?_)
  obtain ⟨hP, hD, hS, -⟩ := h1
  refine lv_aload_n hx hb dL_law_216 rfl (lv_at hl 2 rfl) ?_
  refine l_arg C hS hl (k := 1) (by omega) rfl dL_law_217 dL_law_218 dL_law_219 dL_law_220 dL_law_221 ?_
  refine l_arg C hS hl (k := 2) (by omega) rfl dL_law_222 dL_law_223 dL_law_224 dL_law_225 dL_law_226 ?_
  refine l_arg C hS hl (k := 3) (by omega) rfl dL_law_227 dL_law_228 dL_law_229 dL_law_230 dL_law_231 ?_
  refine callW (As := [.ref 41, .int (xs (i + 1)), .int (xs (i + 2)), .int (xs (i + 3))]) (S' := [.int r]) (L := [none, some (.ref 0), some (.ref 41), some (.int (nI i))]) (rc := 3) C.1 ⟨hP, hD, hS, hv⟩ mkX4_one (Nat.le_of_ble_eq_true rfl) (Nat.le_of_ble_eq_true rfl) lwl_22 M2 rfl (Nat.le_of_ble_eq_true rfl) (Nat.le_of_ble_eq_true rfl) (Nat.le_of_ble_eq_true rfl) (Or.inl ⟨rfl, by decide, ⟨_, rfl, rfl⟩, lwi_X4_one, lws_X4_one, dL_law_232⟩) (fun H2 locs2 h2 => ?_)
  obtain ⟨hP, hD, hS, -⟩ := h2
  refine lv_icmp_eq (tgt := 1028) hx hb dL_law_235 (by decide) (fun _ => ?_) (fun h => absurd rfl h)
  exact kk u2 z2 _ _ ⟨hP, hD, hS, hl, C2, D2, G2⟩
set_option maxHeartbeats 4000000 in
set_option maxRecDepth 100000 in
theorem lc_2 (C : LC dC dI dA ad aV p s m c b L xs) (S : LSt dC dI dA ad s b i u z H locs ls) (hi : i + 6 ≤ L) (kk : ∀ (u2 : Sg) (z2 : Zs) (H2 : Heap) (locs2 : List Loc), LSt dC dI dA ad s b i u2 z2 H2 locs2 ls → W p l e room_1 s m #[Value.ref b] below meth c H2 locs2 63 2138 Q (F0 m 1028 ls [])) : W p l e room_1 s m #[Value.ref b] below meth c H locs 63 2138 Q (F0 m 240 ls []) := by
  obtain ⟨hx, hb, hml, hown, htg, hK, hR1, hR2, hT, hA⟩ := C.1
  obtain ⟨hP, hD, hS, hl, CI, MI, G⟩ := S
  obtain ⟨r, u1, u2, z2, M1, M2, C2, D2, G2⟩ := sim_i l MI (dB := mdX3_type) (dM := mdX4_type) (As := [.int (xs (i + 1))]) (s_type CI G (xs (i + 1))) rfl rfl mkX3_type mkX4_type (Nat.le_of_ble_eq_true rfl) (Nat.le_of_ble_eq_true rfl)
  have hv : lv_has ls 4 (asl ad 0 [none, some (.ref 0), some (.ref 41), some (.int (nI i))]) := lv_sub hl [1, 2, 3] rfl
  refine lv_aload_n hx hb dL_law_240 rfl (lv_at hl 1 rfl) ?_
  refine l_arg C hS hl (k := 1) (by omega) rfl dL_law_241 dL_law_242 dL_law_243 dL_law_244 dL_law_245 ?_
  refine callW (As := [.ref 0, .int (xs (i + 1))]) (S' := []) (L := [none, some (.ref 0), some (.ref 41), some (.int (nI i))]) (rc := 2) C.1 ⟨hP, hD, hS, hv⟩ mkX3_type (Nat.le_of_ble_eq_true rfl) (Nat.le_of_ble_eq_true rfl) lwl_23 M1 rfl (Nat.le_of_ble_eq_true rfl) (Nat.le_of_ble_eq_true rfl) (Nat.le_of_ble_eq_true rfl) (Or.inl ⟨rfl, by decide, ⟨_, rfl, rfl⟩, lwi_X3_type, lws_X3_type, dL_law_246⟩) (fun H1 locs1 h1 => ?_)
  obtain ⟨hP, hD, hS, -⟩ := h1
  refine lv_aload_n hx hb dL_law_249 rfl (lv_at hl 2 rfl) ?_
  refine l_arg C hS hl (k := 1) (by omega) rfl dL_law_250 dL_law_251 dL_law_252 dL_law_253 dL_law_254 ?_
  refine callW (As := [.ref 41, .int (xs (i + 1))]) (S' := [.int r]) (L := [none, some (.ref 0), some (.ref 41), some (.int (nI i))]) (rc := 3) C.1 ⟨hP, hD, hS, hv⟩ mkX4_type (Nat.le_of_ble_eq_true rfl) (Nat.le_of_ble_eq_true rfl) lwl_27 M2 rfl (Nat.le_of_ble_eq_true rfl) (Nat.le_of_ble_eq_true rfl) (Nat.le_of_ble_eq_true rfl) (Or.inl ⟨rfl, by decide, ⟨_, rfl, rfl⟩, lwi_X4_type, lws_X4_type, dL_law_255⟩) (fun H2 locs2 h2 => ?_)
  obtain ⟨hP, hD, hS, -⟩ := h2
  refine lv_icmp_eq (tgt := 1028) hx hb dL_law_258 (by decide) (fun _ => ?_) (fun h => absurd rfl h)
  exact kk u2 z2 _ _ ⟨hP, hD, hS, hl, C2, D2, G2⟩
set_option maxHeartbeats 4000000 in
set_option maxRecDepth 100000 in
theorem lc_3 (C : LC dC dI dA ad aV p s m c b L xs) (S : LSt dC dI dA ad s b i u z H locs ls) (hi : i + 6 ≤ L) (kk : ∀ (u2 : Sg) (z2 : Zs) (H2 : Heap) (locs2 : List Loc), LSt dC dI dA ad s b i u2 z2 H2 locs2 ls → W p l e room_1 s m #[Value.ref b] below meth c H2 locs2 63 2138 Q (F0 m 1028 ls [])) : W p l e room_1 s m #[Value.ref b] below meth c H locs 63 2138 Q (F0 m 263 ls []) := by
  obtain ⟨hx, hb, hml, hown, htg, hK, hR1, hR2, hT, hA⟩ := C.1
  obtain ⟨hP, hD, hS, hl, CI, MI, G⟩ := S
  obtain ⟨r, u1, u2, z2, M1, M2, C2, D2, G2⟩ := sim_i l MI (dB := mdX3_clear) (dM := mdX4_clear) (As := []) (s_clear CI G) rfl rfl mkX3_clear mkX4_clear (Nat.le_of_ble_eq_true rfl) (Nat.le_of_ble_eq_true rfl)
  have hv : lv_has ls 4 (asl ad 0 [none, some (.ref 0), some (.ref 41), some (.int (nI i))]) := lv_sub hl [1, 2, 3] rfl
  refine lv_aload_n hx hb dL_law_263 rfl (lv_at hl 1 rfl) ?_
  refine callW (As := [.ref 0]) (S' := []) (L := [none, some (.ref 0), some (.ref 41), some (.int (nI i))]) (rc := 2) C.1 ⟨hP, hD, hS, hv⟩ mkX3_clear (Nat.le_of_ble_eq_true rfl) (Nat.le_of_ble_eq_true rfl) lwl_28 M1 rfl (Nat.le_of_ble_eq_true rfl) (Nat.le_of_ble_eq_true rfl) (Nat.le_of_ble_eq_true rfl) (Or.inl ⟨rfl, by decide, ⟨_, rfl, rfl⟩, lwi_X3_clear, lws_X3_clear, dL_law_264⟩) (fun H1 locs1 h1 => ?_)
  obtain ⟨hP, hD, hS, -⟩ := h1
  refine lv_aload_n hx hb dL_law_267 rfl (lv_at hl 2 rfl) ?_
  refine callW (As := [.ref 41]) (S' := [.int r]) (L := [none, some (.ref 0), some (.ref 41), some (.int (nI i))]) (rc := 3) C.1 ⟨hP, hD, hS, hv⟩ mkX4_clear (Nat.le_of_ble_eq_true rfl) (Nat.le_of_ble_eq_true rfl) lwl_31 M2 rfl (Nat.le_of_ble_eq_true rfl) (Nat.le_of_ble_eq_true rfl) (Nat.le_of_ble_eq_true rfl) (Or.inl ⟨rfl, by decide, ⟨_, rfl, rfl⟩, lwi_X4_clear, lws_X4_clear, dL_law_268⟩) (fun H2 locs2 h2 => ?_)
  obtain ⟨hP, hD, hS, -⟩ := h2
  refine lv_icmp_eq (tgt := 1028) hx hb dL_law_271 (by decide) (fun _ => ?_) (fun h => absurd rfl h)
  exact kk u2 z2 _ _ ⟨hP, hD, hS, hl, C2, D2, G2⟩
set_option maxHeartbeats 4000000 in
set_option maxRecDepth 100000 in
theorem lc_4 (C : LC dC dI dA ad aV p s m c b L xs) (S : LSt dC dI dA ad s b i u z H locs ls) (hi : i + 6 ≤ L) (kk : ∀ (u2 : Sg) (z2 : Zs) (H2 : Heap) (locs2 : List Loc), LSt dC dI dA ad s b i u2 z2 H2 locs2 ls → W p l e room_1 s m #[Value.ref b] below meth c H2 locs2 63 2138 Q (F0 m 1028 ls [])) : W p l e room_1 s m #[Value.ref b] below meth c H locs 63 2138 Q (F0 m 276 ls []) := by
  obtain ⟨hx, hb, hml, hown, htg, hK, hR1, hR2, hT, hA⟩ := C.1
  obtain ⟨hP, hD, hS, hl, CI, MI, G⟩ := S
  obtain ⟨r, u1, u2, z2, M1, M2, C2, D2, G2⟩ := sim_i l MI (dB := mdX3_read) (dM := mdX4_read) (As := []) (s_read CI G) rfl rfl mkX3_read mkX4_read (Nat.le_of_ble_eq_true rfl) (Nat.le_of_ble_eq_true rfl)
  have hv : lv_has ls 4 (asl ad 0 [none, some (.ref 0), some (.ref 41), some (.int (nI i))]) := lv_sub hl [1, 2, 3] rfl
  refine lv_aload_n hx hb dL_law_276 rfl (lv_at hl 1 rfl) ?_
  refine callW (As := [.ref 0]) (S' := []) (L := [none, some (.ref 0), some (.ref 41), some (.int (nI i))]) (rc := 2) C.1 ⟨hP, hD, hS, hv⟩ mkX3_read (Nat.le_of_ble_eq_true rfl) (Nat.le_of_ble_eq_true rfl) lwl_32 M1 rfl (Nat.le_of_ble_eq_true rfl) (Nat.le_of_ble_eq_true rfl) (Nat.le_of_ble_eq_true rfl) (Or.inl ⟨rfl, by decide, ⟨_, rfl, rfl⟩, lwi_X3_read, lws_X3_read, dL_law_277⟩) (fun H1 locs1 h1 => ?_)
  obtain ⟨hP, hD, hS, -⟩ := h1
  refine lv_aload_n hx hb dL_law_280 rfl (lv_at hl 2 rfl) ?_
  refine callW (As := [.ref 41]) (S' := [.int r]) (L := [none, some (.ref 0), some (.ref 41), some (.int (nI i))]) (rc := 3) C.1 ⟨hP, hD, hS, hv⟩ mkX4_read (Nat.le_of_ble_eq_true rfl) (Nat.le_of_ble_eq_true rfl) lwl_35 M2 rfl (Nat.le_of_ble_eq_true rfl) (Nat.le_of_ble_eq_true rfl) (Nat.le_of_ble_eq_true rfl) (Or.inl ⟨rfl, by decide, ⟨_, rfl, rfl⟩, lwi_X4_read, lws_X4_read, dL_law_281⟩) (fun H2 locs2 h2 => ?_)
  obtain ⟨hP, hD, hS, -⟩ := h2
  refine lv_icmp_eq (tgt := 1028) hx hb dL_law_284 (by decide) (fun _ => ?_) (fun h => absurd rfl h)
  exact kk u2 z2 _ _ ⟨hP, hD, hS, hl, C2, D2, G2⟩
set_option maxHeartbeats 4000000 in
set_option maxRecDepth 100000 in
theorem lc_5 (C : LC dC dI dA ad aV p s m c b L xs) (S : LSt dC dI dA ad s b i u z H locs ls) (hi : i + 6 ≤ L) (kk : ∀ (u2 : Sg) (z2 : Zs) (H2 : Heap) (locs2 : List Loc), LSt dC dI dA ad s b i u2 z2 H2 locs2 ls → W p l e room_1 s m #[Value.ref b] below meth c H2 locs2 63 2138 Q (F0 m 1028 ls [])) : W p l e room_1 s m #[Value.ref b] below meth c H locs 63 2138 Q (F0 m 289 ls []) := by
  obtain ⟨hx, hb, hml, hown, htg, hK, hR1, hR2, hT, hA⟩ := C.1
  obtain ⟨hP, hD, hS, hl, CI, MI, G⟩ := S
  obtain ⟨r, u1, u2, z2, M1, M2, C2, D2, G2⟩ := sim_i l MI (dB := mdX3_lend) (dM := mdX4_lend) (As := [.int (xs (i + 1)), .int (xs (i + 2))]) (s_lend CI G (xs (i + 1)) (xs (i + 2))) rfl rfl mkX3_lend mkX4_lend (Nat.le_of_ble_eq_true rfl) (Nat.le_of_ble_eq_true rfl)
  have hv : lv_has ls 4 (asl ad 0 [none, some (.ref 0), some (.ref 41), some (.int (nI i))]) := lv_sub hl [1, 2, 3] rfl
  refine lv_aload_n hx hb dL_law_289 rfl (lv_at hl 1 rfl) ?_
  refine l_arg C hS hl (k := 1) (by omega) rfl dL_law_290 dL_law_291 dL_law_292 dL_law_293 dL_law_294 ?_
  refine l_arg C hS hl (k := 2) (by omega) rfl dL_law_295 dL_law_296 dL_law_297 dL_law_298 dL_law_299 ?_
  refine callW (As := [.ref 0, .int (xs (i + 1)), .int (xs (i + 2))]) (S' := []) (L := [none, some (.ref 0), some (.ref 41), some (.int (nI i))]) (rc := 2) C.1 ⟨hP, hD, hS, hv⟩ mkX3_lend (Nat.le_of_ble_eq_true rfl) (Nat.le_of_ble_eq_true rfl) lwl_36 M1 rfl (Nat.le_of_ble_eq_true rfl) (Nat.le_of_ble_eq_true rfl) (Nat.le_of_ble_eq_true rfl) (Or.inl ⟨rfl, by decide, ⟨_, rfl, rfl⟩, lwi_X3_lend, lws_X3_lend, dL_law_300⟩) (fun H1 locs1 h1 => ?_)
  obtain ⟨hP, hD, hS, -⟩ := h1
  refine lv_aload_n hx hb dL_law_303 rfl (lv_at hl 2 rfl) ?_
  refine l_arg C hS hl (k := 1) (by omega) rfl dL_law_304 dL_law_305 dL_law_306 dL_law_307 dL_law_308 ?_
  refine l_arg C hS hl (k := 2) (by omega) rfl dL_law_309 dL_law_310 dL_law_311 dL_law_312 dL_law_313 ?_
  refine callW (As := [.ref 41, .int (xs (i + 1)), .int (xs (i + 2))]) (S' := [.int r]) (L := [none, some (.ref 0), some (.ref 41), some (.int (nI i))]) (rc := 3) C.1 ⟨hP, hD, hS, hv⟩ mkX4_lend (Nat.le_of_ble_eq_true rfl) (Nat.le_of_ble_eq_true rfl) lwl_40 M2 rfl (Nat.le_of_ble_eq_true rfl) (Nat.le_of_ble_eq_true rfl) (Nat.le_of_ble_eq_true rfl) (Or.inl ⟨rfl, by decide, ⟨_, rfl, rfl⟩, lwi_X4_lend, lws_X4_lend, dL_law_314⟩) (fun H2 locs2 h2 => ?_)
  obtain ⟨hP, hD, hS, -⟩ := h2
  refine lv_icmp_eq (tgt := 1028) hx hb dL_law_317 (by decide) (fun _ => ?_) (fun h => absurd rfl h)
  exact kk u2 z2 _ _ ⟨hP, hD, hS, hl, C2, D2, G2⟩
set_option maxHeartbeats 4000000 in
set_option maxRecDepth 100000 in
theorem lc_6 (C : LC dC dI dA ad aV p s m c b L xs) (S : LSt dC dI dA ad s b i u z H locs ls) (hi : i + 6 ≤ L) (kk : ∀ (u2 : Sg) (z2 : Zs) (H2 : Heap) (locs2 : List Loc), LSt dC dI dA ad s b i u2 z2 H2 locs2 ls → W p l e room_1 s m #[Value.ref b] below meth c H2 locs2 63 2138 Q (F0 m 1028 ls [])) : W p l e room_1 s m #[Value.ref b] below meth c H locs 63 2138 Q (F0 m 322 ls []) := by
  obtain ⟨hx, hb, hml, hown, htg, hK, hR1, hR2, hT, hA⟩ := C.1
  obtain ⟨hP, hD, hS, hl, CI, MI, G⟩ := S
  obtain ⟨r, u1, u2, z2, M1, M2, C2, D2, G2⟩ := sim_i l MI (dB := mdX3_leave) (dM := mdX4_leave) (As := [.int (xs (i + 1))]) (s_leave CI G (xs (i + 1))) rfl rfl mkX3_leave mkX4_leave (Nat.le_of_ble_eq_true rfl) (Nat.le_of_ble_eq_true rfl)
  have hv : lv_has ls 4 (asl ad 0 [none, some (.ref 0), some (.ref 41), some (.int (nI i))]) := lv_sub hl [1, 2, 3] rfl
  refine lv_aload_n hx hb dL_law_322 rfl (lv_at hl 1 rfl) ?_
  refine l_arg C hS hl (k := 1) (by omega) rfl dL_law_323 dL_law_324 dL_law_325 dL_law_326 dL_law_327 ?_
  refine callW (As := [.ref 0, .int (xs (i + 1))]) (S' := []) (L := [none, some (.ref 0), some (.ref 41), some (.int (nI i))]) (rc := 2) C.1 ⟨hP, hD, hS, hv⟩ mkX3_leave (Nat.le_of_ble_eq_true rfl) (Nat.le_of_ble_eq_true rfl) lwl_41 M1 rfl (Nat.le_of_ble_eq_true rfl) (Nat.le_of_ble_eq_true rfl) (Nat.le_of_ble_eq_true rfl) (Or.inl ⟨rfl, by decide, ⟨_, rfl, rfl⟩, lwi_X3_leave, lws_X3_leave, dL_law_328⟩) (fun H1 locs1 h1 => ?_)
  obtain ⟨hP, hD, hS, -⟩ := h1
  refine lv_aload_n hx hb dL_law_331 rfl (lv_at hl 2 rfl) ?_
  refine l_arg C hS hl (k := 1) (by omega) rfl dL_law_332 dL_law_333 dL_law_334 dL_law_335 dL_law_336 ?_
  refine callW (As := [.ref 41, .int (xs (i + 1))]) (S' := [.int r]) (L := [none, some (.ref 0), some (.ref 41), some (.int (nI i))]) (rc := 3) C.1 ⟨hP, hD, hS, hv⟩ mkX4_leave (Nat.le_of_ble_eq_true rfl) (Nat.le_of_ble_eq_true rfl) lwl_44 M2 rfl (Nat.le_of_ble_eq_true rfl) (Nat.le_of_ble_eq_true rfl) (Nat.le_of_ble_eq_true rfl) (Or.inl ⟨rfl, by decide, ⟨_, rfl, rfl⟩, lwi_X4_leave, lws_X4_leave, dL_law_337⟩) (fun H2 locs2 h2 => ?_)
  obtain ⟨hP, hD, hS, -⟩ := h2
  refine lv_icmp_eq (tgt := 1028) hx hb dL_law_340 (by decide) (fun _ => ?_) (fun h => absurd rfl h)
  exact kk u2 z2 _ _ ⟨hP, hD, hS, hl, C2, D2, G2⟩
set_option maxHeartbeats 4000000 in
set_option maxRecDepth 100000 in
theorem lc_7 (C : LC dC dI dA ad aV p s m c b L xs) (S : LSt dC dI dA ad s b i u z H locs ls) (hi : i + 6 ≤ L) (kk : ∀ (u2 : Sg) (z2 : Zs) (H2 : Heap) (locs2 : List Loc), LSt dC dI dA ad s b i u2 z2 H2 locs2 ls → W p l e room_1 s m #[Value.ref b] below meth c H2 locs2 63 2138 Q (F0 m 1028 ls [])) : W p l e room_1 s m #[Value.ref b] below meth c H locs 63 2138 Q (F0 m 345 ls []) := by
  obtain ⟨hx, hb, hml, hown, htg, hK, hR1, hR2, hT, hA⟩ := C.1
  obtain ⟨hP, hD, hS, hl, CI, MI, G⟩ := S
  obtain ⟨r, u1, u2, z2, M1, M2, C2, D2, G2⟩ := sim_i l MI (dB := mdX3_evening) (dM := mdX4_evening) (As := [.int (xs (i + 1))]) (s_evening CI G (xs (i + 1))) rfl rfl mkX3_evening mkX4_evening (Nat.le_of_ble_eq_true rfl) (Nat.le_of_ble_eq_true rfl)
  have hv : lv_has ls 4 (asl ad 0 [none, some (.ref 0), some (.ref 41), some (.int (nI i))]) := lv_sub hl [1, 2, 3] rfl
  refine lv_aload_n hx hb dL_law_345 rfl (lv_at hl 1 rfl) ?_
  refine l_arg C hS hl (k := 1) (by omega) rfl dL_law_346 dL_law_347 dL_law_348 dL_law_349 dL_law_350 ?_
  refine callW (As := [.ref 0, .int (xs (i + 1))]) (S' := []) (L := [none, some (.ref 0), some (.ref 41), some (.int (nI i))]) (rc := 2) C.1 ⟨hP, hD, hS, hv⟩ mkX3_evening (Nat.le_of_ble_eq_true rfl) (Nat.le_of_ble_eq_true rfl) lwl_45 M1 rfl (Nat.le_of_ble_eq_true rfl) (Nat.le_of_ble_eq_true rfl) (Nat.le_of_ble_eq_true rfl) (Or.inl ⟨rfl, by decide, ⟨_, rfl, rfl⟩, lwi_X3_evening, lws_X3_evening, dL_law_351⟩) (fun H1 locs1 h1 => ?_)
  obtain ⟨hP, hD, hS, -⟩ := h1
  refine lv_aload_n hx hb dL_law_354 rfl (lv_at hl 2 rfl) ?_
  refine l_arg C hS hl (k := 1) (by omega) rfl dL_law_355 dL_law_356 dL_law_357 dL_law_358 dL_law_359 ?_
  refine callW (As := [.ref 41, .int (xs (i + 1))]) (S' := [.int r]) (L := [none, some (.ref 0), some (.ref 41), some (.int (nI i))]) (rc := 3) C.1 ⟨hP, hD, hS, hv⟩ mkX4_evening (Nat.le_of_ble_eq_true rfl) (Nat.le_of_ble_eq_true rfl) lwl_48 M2 rfl (Nat.le_of_ble_eq_true rfl) (Nat.le_of_ble_eq_true rfl) (Nat.le_of_ble_eq_true rfl) (Or.inl ⟨rfl, by decide, ⟨_, rfl, rfl⟩, lwi_X4_evening, lws_X4_evening, dL_law_360⟩) (fun H2 locs2 h2 => ?_)
  obtain ⟨hP, hD, hS, -⟩ := h2
  refine lv_icmp_eq (tgt := 1028) hx hb dL_law_363 (by decide) (fun _ => ?_) (fun h => absurd rfl h)
  exact kk u2 z2 _ _ ⟨hP, hD, hS, hl, C2, D2, G2⟩
set_option maxHeartbeats 4000000 in
set_option maxRecDepth 100000 in
theorem lc_8 (C : LC dC dI dA ad aV p s m c b L xs) (S : LSt dC dI dA ad s b i u z H locs ls) (hi : i + 6 ≤ L) (kk : ∀ (u2 : Sg) (z2 : Zs) (H2 : Heap) (locs2 : List Loc), LSt dC dI dA ad s b i u2 z2 H2 locs2 ls → W p l e room_1 s m #[Value.ref b] below meth c H2 locs2 63 2138 Q (F0 m 1028 ls [])) : W p l e room_1 s m #[Value.ref b] below meth c H locs 63 2138 Q (F0 m 368 ls []) := by
  obtain ⟨hx, hb, hml, hown, htg, hK, hR1, hR2, hT, hA⟩ := C.1
  obtain ⟨hP, hD, hS, hl, CI, MI, G⟩ := S
  obtain ⟨r, u1, u2, z2, M1, M2, C2, D2, G2⟩ := sim_i l MI (dB := mdX3_undo) (dM := mdX4_undo) (As := []) (s_undo CI G) rfl rfl mkX3_undo mkX4_undo (Nat.le_of_ble_eq_true rfl) (Nat.le_of_ble_eq_true rfl)
  have hv : lv_has ls 4 (asl ad 0 [none, some (.ref 0), some (.ref 41), some (.int (nI i))]) := lv_sub hl [1, 2, 3] rfl
  refine lv_aload_n hx hb dL_law_368 rfl (lv_at hl 1 rfl) ?_
  refine callW (As := [.ref 0]) (S' := []) (L := [none, some (.ref 0), some (.ref 41), some (.int (nI i))]) (rc := 2) C.1 ⟨hP, hD, hS, hv⟩ mkX3_undo (Nat.le_of_ble_eq_true rfl) (Nat.le_of_ble_eq_true rfl) lwl_49 M1 rfl (Nat.le_of_ble_eq_true rfl) (Nat.le_of_ble_eq_true rfl) (Nat.le_of_ble_eq_true rfl) (Or.inl ⟨rfl, by decide, ⟨_, rfl, rfl⟩, lwi_X3_undo, lws_X3_undo, dL_law_369⟩) (fun H1 locs1 h1 => ?_)
  obtain ⟨hP, hD, hS, -⟩ := h1
  refine lv_aload_n hx hb dL_law_372 rfl (lv_at hl 2 rfl) ?_
  refine callW (As := [.ref 41]) (S' := [.int r]) (L := [none, some (.ref 0), some (.ref 41), some (.int (nI i))]) (rc := 3) C.1 ⟨hP, hD, hS, hv⟩ mkX4_undo (Nat.le_of_ble_eq_true rfl) (Nat.le_of_ble_eq_true rfl) lwl_52 M2 rfl (Nat.le_of_ble_eq_true rfl) (Nat.le_of_ble_eq_true rfl) (Nat.le_of_ble_eq_true rfl) (Or.inl ⟨rfl, by decide, ⟨_, rfl, rfl⟩, lwi_X4_undo, lws_X4_undo, dL_law_373⟩) (fun H2 locs2 h2 => ?_)
  obtain ⟨hP, hD, hS, -⟩ := h2
  refine lv_icmp_eq (tgt := 1028) hx hb dL_law_376 (by decide) (fun _ => ?_) (fun h => absurd rfl h)
  exact kk u2 z2 _ _ ⟨hP, hD, hS, hl, C2, D2, G2⟩
set_option maxHeartbeats 4000000 in
set_option maxRecDepth 100000 in
theorem lc_9 (C : LC dC dI dA ad aV p s m c b L xs) (S : LSt dC dI dA ad s b i u z H locs ls) (hi : i + 6 ≤ L) (kk : ∀ (u2 : Sg) (z2 : Zs) (H2 : Heap) (locs2 : List Loc), LSt dC dI dA ad s b i u2 z2 H2 locs2 ls → W p l e room_1 s m #[Value.ref b] below meth c H2 locs2 63 2138 Q (F0 m 1028 ls [])) : W p l e room_1 s m #[Value.ref b] below meth c H locs 63 2138 Q (F0 m 381 ls []) := by
  obtain ⟨hx, hb, hml, hown, htg, hK, hR1, hR2, hT, hA⟩ := C.1
  obtain ⟨hP, hD, hS, hl, CI, MI, G⟩ := S
  obtain ⟨r, u1, u2, z2, M1, M2, C2, D2, G2⟩ := sim_i l MI (dB := mdX3_of) (dM := mdX4_of) (As := [.int (xs (i + 1)), .int (xs (i + 2))]) (s_of CI G (xs (i + 1)) (xs (i + 2))) rfl rfl mkX3_of mkX4_of (Nat.le_of_ble_eq_true rfl) (Nat.le_of_ble_eq_true rfl)
  have hv : lv_has ls 4 (asl ad 0 [none, some (.ref 0), some (.ref 41), some (.int (nI i))]) := lv_sub hl [1, 2, 3] rfl
  refine lv_aload_n hx hb dL_law_381 rfl (lv_at hl 1 rfl) ?_
  refine l_arg C hS hl (k := 1) (by omega) rfl dL_law_382 dL_law_383 dL_law_384 dL_law_385 dL_law_386 ?_
  refine l_arg C hS hl (k := 2) (by omega) rfl dL_law_387 dL_law_388 dL_law_389 dL_law_390 dL_law_391 ?_
  refine callW (As := [.ref 0, .int (xs (i + 1)), .int (xs (i + 2))]) (S' := []) (L := [none, some (.ref 0), some (.ref 41), some (.int (nI i))]) (rc := 2) C.1 ⟨hP, hD, hS, hv⟩ mkX3_of (Nat.le_of_ble_eq_true rfl) (Nat.le_of_ble_eq_true rfl) lwl_53 M1 rfl (Nat.le_of_ble_eq_true rfl) (Nat.le_of_ble_eq_true rfl) (Nat.le_of_ble_eq_true rfl) (Or.inl ⟨rfl, by decide, ⟨_, rfl, rfl⟩, lwi_X3_of, lws_X3_of, dL_law_392⟩) (fun H1 locs1 h1 => ?_)
  obtain ⟨hP, hD, hS, -⟩ := h1
  refine lv_aload_n hx hb dL_law_395 rfl (lv_at hl 2 rfl) ?_
  refine l_arg C hS hl (k := 1) (by omega) rfl dL_law_396 dL_law_397 dL_law_398 dL_law_399 dL_law_400 ?_
  refine l_arg C hS hl (k := 2) (by omega) rfl dL_law_401 dL_law_402 dL_law_403 dL_law_404 dL_law_405 ?_
  refine callW (As := [.ref 41, .int (xs (i + 1)), .int (xs (i + 2))]) (S' := [.int r]) (L := [none, some (.ref 0), some (.ref 41), some (.int (nI i))]) (rc := 3) C.1 ⟨hP, hD, hS, hv⟩ mkX4_of (Nat.le_of_ble_eq_true rfl) (Nat.le_of_ble_eq_true rfl) lwl_56 M2 rfl (Nat.le_of_ble_eq_true rfl) (Nat.le_of_ble_eq_true rfl) (Nat.le_of_ble_eq_true rfl) (Or.inl ⟨rfl, by decide, ⟨_, rfl, rfl⟩, lwi_X4_of, lws_X4_of, dL_law_406⟩) (fun H2 locs2 h2 => ?_)
  obtain ⟨hP, hD, hS, -⟩ := h2
  refine lv_icmp_eq (tgt := 1028) hx hb dL_law_409 (by decide) (fun _ => ?_) (fun h => absurd rfl h)
  exact kk u2 z2 _ _ ⟨hP, hD, hS, hl, C2, D2, G2⟩
set_option maxHeartbeats 4000000 in
set_option maxRecDepth 100000 in
theorem lc_10 (C : LC dC dI dA ad aV p s m c b L xs) (S : LSt dC dI dA ad s b i u z H locs ls) (hi : i + 6 ≤ L) (kk : ∀ (u2 : Sg) (z2 : Zs) (H2 : Heap) (locs2 : List Loc), LSt dC dI dA ad s b i u2 z2 H2 locs2 ls → W p l e room_1 s m #[Value.ref b] below meth c H2 locs2 63 2138 Q (F0 m 1028 ls [])) : W p l e room_1 s m #[Value.ref b] below meth c H locs 63 2138 Q (F0 m 414 ls []) := by
  obtain ⟨hx, hb, hml, hown, htg, hK, hR1, hR2, hT, hA⟩ := C.1
  obtain ⟨hP, hD, hS, hl, CI, MI, G⟩ := S
  obtain ⟨r, u1, u2, z2, M1, M2, C2, D2, G2⟩ := sim_i l MI (dB := mdX3_about) (dM := mdX4_about) (As := [.int (xs (i + 1)), .int (xs (i + 2))]) (s_about CI G (xs (i + 1)) (xs (i + 2))) rfl rfl mkX3_about mkX4_about (Nat.le_of_ble_eq_true rfl) (Nat.le_of_ble_eq_true rfl)
  have hv : lv_has ls 4 (asl ad 0 [none, some (.ref 0), some (.ref 41), some (.int (nI i))]) := lv_sub hl [1, 2, 3] rfl
  refine lv_aload_n hx hb dL_law_414 rfl (lv_at hl 1 rfl) ?_
  refine l_arg C hS hl (k := 1) (by omega) rfl dL_law_415 dL_law_416 dL_law_417 dL_law_418 dL_law_419 ?_
  refine l_arg C hS hl (k := 2) (by omega) rfl dL_law_420 dL_law_421 dL_law_422 dL_law_423 dL_law_424 ?_
  refine callW (As := [.ref 0, .int (xs (i + 1)), .int (xs (i + 2))]) (S' := []) (L := [none, some (.ref 0), some (.ref 41), some (.int (nI i))]) (rc := 2) C.1 ⟨hP, hD, hS, hv⟩ mkX3_about (Nat.le_of_ble_eq_true rfl) (Nat.le_of_ble_eq_true rfl) lwl_57 M1 rfl (Nat.le_of_ble_eq_true rfl) (Nat.le_of_ble_eq_true rfl) (Nat.le_of_ble_eq_true rfl) (Or.inl ⟨rfl, by decide, ⟨_, rfl, rfl⟩, lwi_X3_about, lws_X3_about, dL_law_425⟩) (fun H1 locs1 h1 => ?_)
  obtain ⟨hP, hD, hS, -⟩ := h1
  refine lv_aload_n hx hb dL_law_428 rfl (lv_at hl 2 rfl) ?_
  refine l_arg C hS hl (k := 1) (by omega) rfl dL_law_429 dL_law_430 dL_law_431 dL_law_432 dL_law_433 ?_
  refine l_arg C hS hl (k := 2) (by omega) rfl dL_law_434 dL_law_435 dL_law_436 dL_law_437 dL_law_438 ?_
  refine callW (As := [.ref 41, .int (xs (i + 1)), .int (xs (i + 2))]) (S' := [.int r]) (L := [none, some (.ref 0), some (.ref 41), some (.int (nI i))]) (rc := 3) C.1 ⟨hP, hD, hS, hv⟩ mkX4_about (Nat.le_of_ble_eq_true rfl) (Nat.le_of_ble_eq_true rfl) lwl_60 M2 rfl (Nat.le_of_ble_eq_true rfl) (Nat.le_of_ble_eq_true rfl) (Nat.le_of_ble_eq_true rfl) (Or.inl ⟨rfl, by decide, ⟨_, rfl, rfl⟩, lwi_X4_about, lws_X4_about, dL_law_439⟩) (fun H2 locs2 h2 => ?_)
  obtain ⟨hP, hD, hS, -⟩ := h2
  refine lv_icmp_eq (tgt := 1028) hx hb dL_law_442 (by decide) (fun _ => ?_) (fun h => absurd rfl h)
  exact kk u2 z2 _ _ ⟨hP, hD, hS, hl, C2, D2, G2⟩
set_option maxHeartbeats 4000000 in
set_option maxRecDepth 100000 in
theorem lc_11 (C : LC dC dI dA ad aV p s m c b L xs) (S : LSt dC dI dA ad s b i u z H locs ls) (hi : i + 6 ≤ L) (kk : ∀ (u2 : Sg) (z2 : Zs) (H2 : Heap) (locs2 : List Loc), LSt dC dI dA ad s b i u2 z2 H2 locs2 ls → W p l e room_1 s m #[Value.ref b] below meth c H2 locs2 63 2138 Q (F0 m 1028 ls [])) : W p l e room_1 s m #[Value.ref b] below meth c H locs 63 2138 Q (F0 m 447 ls []) := by
  obtain ⟨hx, hb, hml, hown, htg, hK, hR1, hR2, hT, hA⟩ := C.1
  obtain ⟨hP, hD, hS, hl, CI, MI, G⟩ := S
  obtain ⟨r, u1, u2, z2, M1, M2, C2, D2, G2⟩ := sim_i l MI (dB := mdX3_fit) (dM := mdX4_fit) (As := [.int (xs (i + 1)), .int (xs (i + 2))]) (s_fit CI G (xs (i + 1)) (xs (i + 2))) rfl rfl mkX3_fit mkX4_fit (Nat.le_of_ble_eq_true rfl) (Nat.le_of_ble_eq_true rfl)
  have hv : lv_has ls 4 (asl ad 0 [none, some (.ref 0), some (.ref 41), some (.int (nI i))]) := lv_sub hl [1, 2, 3] rfl
  refine lv_aload_n hx hb dL_law_447 rfl (lv_at hl 1 rfl) ?_
  refine l_arg C hS hl (k := 1) (by omega) rfl dL_law_448 dL_law_449 dL_law_450 dL_law_451 dL_law_452 ?_
  refine l_arg C hS hl (k := 2) (by omega) rfl dL_law_453 dL_law_454 dL_law_455 dL_law_456 dL_law_457 ?_
  refine callW (As := [.ref 0, .int (xs (i + 1)), .int (xs (i + 2))]) (S' := []) (L := [none, some (.ref 0), some (.ref 41), some (.int (nI i))]) (rc := 2) C.1 ⟨hP, hD, hS, hv⟩ mkX3_fit (Nat.le_of_ble_eq_true rfl) (Nat.le_of_ble_eq_true rfl) lwl_61 M1 rfl (Nat.le_of_ble_eq_true rfl) (Nat.le_of_ble_eq_true rfl) (Nat.le_of_ble_eq_true rfl) (Or.inl ⟨rfl, by decide, ⟨_, rfl, rfl⟩, lwi_X3_fit, lws_X3_fit, dL_law_458⟩) (fun H1 locs1 h1 => ?_)
  obtain ⟨hP, hD, hS, -⟩ := h1
  refine lv_aload_n hx hb dL_law_461 rfl (lv_at hl 2 rfl) ?_
  refine l_arg C hS hl (k := 1) (by omega) rfl dL_law_462 dL_law_463 dL_law_464 dL_law_465 dL_law_466 ?_
  refine l_arg C hS hl (k := 2) (by omega) rfl dL_law_467 dL_law_468 dL_law_469 dL_law_470 dL_law_471 ?_
  refine callW (As := [.ref 41, .int (xs (i + 1)), .int (xs (i + 2))]) (S' := [.int r]) (L := [none, some (.ref 0), some (.ref 41), some (.int (nI i))]) (rc := 3) C.1 ⟨hP, hD, hS, hv⟩ mkX4_fit (Nat.le_of_ble_eq_true rfl) (Nat.le_of_ble_eq_true rfl) lwl_64 M2 rfl (Nat.le_of_ble_eq_true rfl) (Nat.le_of_ble_eq_true rfl) (Nat.le_of_ble_eq_true rfl) (Or.inl ⟨rfl, by decide, ⟨_, rfl, rfl⟩, lwi_X4_fit, lws_X4_fit, dL_law_472⟩) (fun H2 locs2 h2 => ?_)
  obtain ⟨hP, hD, hS, -⟩ := h2
  refine lv_icmp_eq (tgt := 1028) hx hb dL_law_475 (by decide) (fun _ => ?_) (fun h => absurd rfl h)
  exact kk u2 z2 _ _ ⟨hP, hD, hS, hl, C2, D2, G2⟩
set_option maxHeartbeats 4000000 in
set_option maxRecDepth 100000 in
theorem lc_12 (C : LC dC dI dA ad aV p s m c b L xs) (S : LSt dC dI dA ad s b i u z H locs ls) (hi : i + 6 ≤ L) (kk : ∀ (u2 : Sg) (z2 : Zs) (H2 : Heap) (locs2 : List Loc), LSt dC dI dA ad s b i u2 z2 H2 locs2 ls → W p l e room_1 s m #[Value.ref b] below meth c H2 locs2 63 2138 Q (F0 m 1028 ls [])) : W p l e room_1 s m #[Value.ref b] below meth c H locs 63 2138 Q (F0 m 480 ls []) := by
  obtain ⟨hx, hb, hml, hown, htg, hK, hR1, hR2, hT, hA⟩ := C.1
  obtain ⟨hP, hD, hS, hl, CI, MI, G⟩ := S
  obtain ⟨r, u1, u2, z2, M1, M2, C2, D2, G2⟩ := sim_i l MI (dB := mdX3_best) (dM := mdX4_best) (As := [.int (xs (i + 1))]) (s_best CI G (xs (i + 1))) rfl rfl mkX3_best mkX4_best (Nat.le_of_ble_eq_true rfl) (Nat.le_of_ble_eq_true rfl)
  have hv : lv_has ls 4 (asl ad 0 [none, some (.ref 0), some (.ref 41), some (.int (nI i))]) := lv_sub hl [1, 2, 3] rfl
  refine lv_aload_n hx hb dL_law_480 rfl (lv_at hl 1 rfl) ?_
  refine l_arg C hS hl (k := 1) (by omega) rfl dL_law_481 dL_law_482 dL_law_483 dL_law_484 dL_law_485 ?_
  refine callW (As := [.ref 0, .int (xs (i + 1))]) (S' := []) (L := [none, some (.ref 0), some (.ref 41), some (.int (nI i))]) (rc := 2) C.1 ⟨hP, hD, hS, hv⟩ mkX3_best (Nat.le_of_ble_eq_true rfl) (Nat.le_of_ble_eq_true rfl) lwl_65 M1 rfl (Nat.le_of_ble_eq_true rfl) (Nat.le_of_ble_eq_true rfl) (Nat.le_of_ble_eq_true rfl) (Or.inl ⟨rfl, by decide, ⟨_, rfl, rfl⟩, lwi_X3_best, lws_X3_best, dL_law_486⟩) (fun H1 locs1 h1 => ?_)
  obtain ⟨hP, hD, hS, -⟩ := h1
  refine lv_aload_n hx hb dL_law_489 rfl (lv_at hl 2 rfl) ?_
  refine l_arg C hS hl (k := 1) (by omega) rfl dL_law_490 dL_law_491 dL_law_492 dL_law_493 dL_law_494 ?_
  refine callW (As := [.ref 41, .int (xs (i + 1))]) (S' := [.int r]) (L := [none, some (.ref 0), some (.ref 41), some (.int (nI i))]) (rc := 3) C.1 ⟨hP, hD, hS, hv⟩ mkX4_best (Nat.le_of_ble_eq_true rfl) (Nat.le_of_ble_eq_true rfl) lwl_68 M2 rfl (Nat.le_of_ble_eq_true rfl) (Nat.le_of_ble_eq_true rfl) (Nat.le_of_ble_eq_true rfl) (Or.inl ⟨rfl, by decide, ⟨_, rfl, rfl⟩, lwi_X4_best, lws_X4_best, dL_law_495⟩) (fun H2 locs2 h2 => ?_)
  obtain ⟨hP, hD, hS, -⟩ := h2
  refine lv_icmp_eq (tgt := 1028) hx hb dL_law_498 (by decide) (fun _ => ?_) (fun h => absurd rfl h)
  exact kk u2 z2 _ _ ⟨hP, hD, hS, hl, C2, D2, G2⟩
set_option maxHeartbeats 4000000 in
set_option maxRecDepth 100000 in
theorem lc_13 (C : LC dC dI dA ad aV p s m c b L xs) (S : LSt dC dI dA ad s b i u z H locs ls) (hi : i + 6 ≤ L) (kk : ∀ (u2 : Sg) (z2 : Zs) (H2 : Heap) (locs2 : List Loc), LSt dC dI dA ad s b i u2 z2 H2 locs2 ls → W p l e room_1 s m #[Value.ref b] below meth c H2 locs2 63 2138 Q (F0 m 1028 ls [])) : W p l e room_1 s m #[Value.ref b] below meth c H locs 63 2138 Q (F0 m 503 ls []) := by
  obtain ⟨hx, hb, hml, hown, htg, hK, hR1, hR2, hT, hA⟩ := C.1
  obtain ⟨hP, hD, hS, hl, CI, MI, G⟩ := S
  obtain ⟨r, u1, u2, z2, M1, M2, C2, D2, G2⟩ := sim_i l MI (dB := mdX3_dumb) (dM := mdX4_dumb) (As := []) (s_dumb CI G) rfl rfl mkX3_dumb mkX4_dumb (Nat.le_of_ble_eq_true rfl) (Nat.le_of_ble_eq_true rfl)
  have hv : lv_has ls 4 (asl ad 0 [none, some (.ref 0), some (.ref 41), some (.int (nI i))]) := lv_sub hl [1, 2, 3] rfl
  refine lv_aload_n hx hb dL_law_503 rfl (lv_at hl 1 rfl) ?_
  refine callW (As := [.ref 0]) (S' := []) (L := [none, some (.ref 0), some (.ref 41), some (.int (nI i))]) (rc := 2) C.1 ⟨hP, hD, hS, hv⟩ mkX3_dumb (Nat.le_of_ble_eq_true rfl) (Nat.le_of_ble_eq_true rfl) lwl_69 M1 rfl (Nat.le_of_ble_eq_true rfl) (Nat.le_of_ble_eq_true rfl) (Nat.le_of_ble_eq_true rfl) (Or.inl ⟨rfl, by decide, ⟨_, rfl, rfl⟩, lwi_X3_dumb, lws_X3_dumb, dL_law_504⟩) (fun H1 locs1 h1 => ?_)
  obtain ⟨hP, hD, hS, -⟩ := h1
  refine lv_aload_n hx hb dL_law_507 rfl (lv_at hl 2 rfl) ?_
  refine callW (As := [.ref 41]) (S' := [.int r]) (L := [none, some (.ref 0), some (.ref 41), some (.int (nI i))]) (rc := 3) C.1 ⟨hP, hD, hS, hv⟩ mkX4_dumb (Nat.le_of_ble_eq_true rfl) (Nat.le_of_ble_eq_true rfl) lwl_72 M2 rfl (Nat.le_of_ble_eq_true rfl) (Nat.le_of_ble_eq_true rfl) (Nat.le_of_ble_eq_true rfl) (Or.inl ⟨rfl, by decide, ⟨_, rfl, rfl⟩, lwi_X4_dumb, lws_X4_dumb, dL_law_508⟩) (fun H2 locs2 h2 => ?_)
  obtain ⟨hP, hD, hS, -⟩ := h2
  refine lv_icmp_eq (tgt := 1028) hx hb dL_law_511 (by decide) (fun _ => ?_) (fun h => absurd rfl h)
  exact kk u2 z2 _ _ ⟨hP, hD, hS, hl, C2, D2, G2⟩
set_option maxHeartbeats 4000000 in
set_option maxRecDepth 100000 in
theorem lc_14 (C : LC dC dI dA ad aV p s m c b L xs) (S : LSt dC dI dA ad s b i u z H locs ls) (hi : i + 6 ≤ L) (kk : ∀ (u2 : Sg) (z2 : Zs) (H2 : Heap) (locs2 : List Loc), LSt dC dI dA ad s b i u2 z2 H2 locs2 ls → W p l e room_1 s m #[Value.ref b] below meth c H2 locs2 63 2138 Q (F0 m 1028 ls [])) : W p l e room_1 s m #[Value.ref b] below meth c H locs 63 2138 Q (F0 m 516 ls []) := by
  obtain ⟨hx, hb, hml, hown, htg, hK, hR1, hR2, hT, hA⟩ := C.1
  obtain ⟨hP, hD, hS, hl, CI, MI, G⟩ := S
  obtain ⟨r, u1, u2, z2, M1, M2, C2, D2, G2⟩ := sim_i l MI (dB := mdX3_own) (dM := mdX4_own) (As := []) (s_own CI G) rfl rfl mkX3_own mkX4_own (Nat.le_of_ble_eq_true rfl) (Nat.le_of_ble_eq_true rfl)
  have hv : lv_has ls 4 (asl ad 0 [none, some (.ref 0), some (.ref 41), some (.int (nI i))]) := lv_sub hl [1, 2, 3] rfl
  refine lv_aload_n hx hb dL_law_516 rfl (lv_at hl 1 rfl) ?_
  refine callW (As := [.ref 0]) (S' := []) (L := [none, some (.ref 0), some (.ref 41), some (.int (nI i))]) (rc := 2) C.1 ⟨hP, hD, hS, hv⟩ mkX3_own (Nat.le_of_ble_eq_true rfl) (Nat.le_of_ble_eq_true rfl) lwl_73 M1 rfl (Nat.le_of_ble_eq_true rfl) (Nat.le_of_ble_eq_true rfl) (Nat.le_of_ble_eq_true rfl) (Or.inl ⟨rfl, by decide, ⟨_, rfl, rfl⟩, lwi_X3_own, lws_X3_own, dL_law_517⟩) (fun H1 locs1 h1 => ?_)
  obtain ⟨hP, hD, hS, -⟩ := h1
  refine lv_aload_n hx hb dL_law_520 rfl (lv_at hl 2 rfl) ?_
  refine callW (As := [.ref 41]) (S' := [.int r]) (L := [none, some (.ref 0), some (.ref 41), some (.int (nI i))]) (rc := 3) C.1 ⟨hP, hD, hS, hv⟩ mkX4_own (Nat.le_of_ble_eq_true rfl) (Nat.le_of_ble_eq_true rfl) lwl_76 M2 rfl (Nat.le_of_ble_eq_true rfl) (Nat.le_of_ble_eq_true rfl) (Nat.le_of_ble_eq_true rfl) (Or.inl ⟨rfl, by decide, ⟨_, rfl, rfl⟩, lwi_X4_own, lws_X4_own, dL_law_521⟩) (fun H2 locs2 h2 => ?_)
  obtain ⟨hP, hD, hS, -⟩ := h2
  refine lv_icmp_eq (tgt := 1028) hx hb dL_law_524 (by decide) (fun _ => ?_) (fun h => absurd rfl h)
  exact kk u2 z2 _ _ ⟨hP, hD, hS, hl, C2, D2, G2⟩
set_option maxHeartbeats 4000000 in
set_option maxRecDepth 100000 in
theorem lc_15 (C : LC dC dI dA ad aV p s m c b L xs) (S : LSt dC dI dA ad s b i u z H locs ls) (hi : i + 6 ≤ L) (kk : ∀ (u2 : Sg) (z2 : Zs) (H2 : Heap) (locs2 : List Loc), LSt dC dI dA ad s b i u2 z2 H2 locs2 ls → W p l e room_1 s m #[Value.ref b] below meth c H2 locs2 63 2138 Q (F0 m 1028 ls [])) : W p l e room_1 s m #[Value.ref b] below meth c H locs 63 2138 Q (F0 m 529 ls []) := by
  obtain ⟨hx, hb, hml, hown, htg, hK, hR1, hR2, hT, hA⟩ := C.1
  obtain ⟨hP, hD, hS, hl, CI, MI, G⟩ := S
  obtain ⟨r, u1, u2, z2, M1, M2, C2, D2, G2⟩ := sim_i l MI (dB := mdX3_ring) (dM := mdX4_ring) (As := [.int (xs (i + 1))]) (s_ring CI G (xs (i + 1))) rfl rfl mkX3_ring mkX4_ring (Nat.le_of_ble_eq_true rfl) (Nat.le_of_ble_eq_true rfl)
  have hv : lv_has ls 4 (asl ad 0 [none, some (.ref 0), some (.ref 41), some (.int (nI i))]) := lv_sub hl [1, 2, 3] rfl
  refine lv_aload_n hx hb dL_law_529 rfl (lv_at hl 1 rfl) ?_
  refine l_arg C hS hl (k := 1) (by omega) rfl dL_law_530 dL_law_531 dL_law_532 dL_law_533 dL_law_534 ?_
  refine callW (As := [.ref 0, .int (xs (i + 1))]) (S' := []) (L := [none, some (.ref 0), some (.ref 41), some (.int (nI i))]) (rc := 2) C.1 ⟨hP, hD, hS, hv⟩ mkX3_ring (Nat.le_of_ble_eq_true rfl) (Nat.le_of_ble_eq_true rfl) lwl_77 M1 rfl (Nat.le_of_ble_eq_true rfl) (Nat.le_of_ble_eq_true rfl) (Nat.le_of_ble_eq_true rfl) (Or.inl ⟨rfl, by decide, ⟨_, rfl, rfl⟩, lwi_X3_ring, lws_X3_ring, dL_law_535⟩) (fun H1 locs1 h1 => ?_)
  obtain ⟨hP, hD, hS, -⟩ := h1
  refine lv_aload_n hx hb dL_law_538 rfl (lv_at hl 2 rfl) ?_
  refine l_arg C hS hl (k := 1) (by omega) rfl dL_law_539 dL_law_540 dL_law_541 dL_law_542 dL_law_543 ?_
  refine callW (As := [.ref 41, .int (xs (i + 1))]) (S' := [.int r]) (L := [none, some (.ref 0), some (.ref 41), some (.int (nI i))]) (rc := 3) C.1 ⟨hP, hD, hS, hv⟩ mkX4_ring (Nat.le_of_ble_eq_true rfl) (Nat.le_of_ble_eq_true rfl) lwl_80 M2 rfl (Nat.le_of_ble_eq_true rfl) (Nat.le_of_ble_eq_true rfl) (Nat.le_of_ble_eq_true rfl) (Or.inl ⟨rfl, by decide, ⟨_, rfl, rfl⟩, lwi_X4_ring, lws_X4_ring, dL_law_544⟩) (fun H2 locs2 h2 => ?_)
  obtain ⟨hP, hD, hS, -⟩ := h2
  refine lv_icmp_eq (tgt := 1028) hx hb dL_law_547 (by decide) (fun _ => ?_) (fun h => absurd rfl h)
  exact kk u2 z2 _ _ ⟨hP, hD, hS, hl, C2, D2, G2⟩
set_option maxHeartbeats 4000000 in
set_option maxRecDepth 100000 in
theorem lc_16 (C : LC dC dI dA ad aV p s m c b L xs) (S : LSt dC dI dA ad s b i u z H locs ls) (hi : i + 6 ≤ L) (kk : ∀ (u2 : Sg) (z2 : Zs) (H2 : Heap) (locs2 : List Loc), LSt dC dI dA ad s b i u2 z2 H2 locs2 ls → W p l e room_1 s m #[Value.ref b] below meth c H2 locs2 63 2138 Q (F0 m 1028 ls [])) : W p l e room_1 s m #[Value.ref b] below meth c H locs 63 2138 Q (F0 m 552 ls []) := by
  obtain ⟨hx, hb, hml, hown, htg, hK, hR1, hR2, hT, hA⟩ := C.1
  obtain ⟨hP, hD, hS, hl, CI, MI, G⟩ := S
  obtain ⟨r, u1, u2, z2, M1, M2, C2, D2, G2⟩ := sim_i l MI (dB := mdX3_swaps) (dM := mdX4_swaps) (As := [.int (xs (i + 1))]) (s_swaps CI G (xs (i + 1))) rfl rfl mkX3_swaps mkX4_swaps (Nat.le_of_ble_eq_true rfl) (Nat.le_of_ble_eq_true rfl)
  have hv : lv_has ls 4 (asl ad 0 [none, some (.ref 0), some (.ref 41), some (.int (nI i))]) := lv_sub hl [1, 2, 3] rfl
  refine lv_aload_n hx hb dL_law_552 rfl (lv_at hl 1 rfl) ?_
  refine l_arg C hS hl (k := 1) (by omega) rfl dL_law_553 dL_law_554 dL_law_555 dL_law_556 dL_law_557 ?_
  refine callW (As := [.ref 0, .int (xs (i + 1))]) (S' := []) (L := [none, some (.ref 0), some (.ref 41), some (.int (nI i))]) (rc := 2) C.1 ⟨hP, hD, hS, hv⟩ mkX3_swaps (Nat.le_of_ble_eq_true rfl) (Nat.le_of_ble_eq_true rfl) lwl_81 M1 rfl (Nat.le_of_ble_eq_true rfl) (Nat.le_of_ble_eq_true rfl) (Nat.le_of_ble_eq_true rfl) (Or.inl ⟨rfl, by decide, ⟨_, rfl, rfl⟩, lwi_X3_swaps, lws_X3_swaps, dL_law_558⟩) (fun H1 locs1 h1 => ?_)
  obtain ⟨hP, hD, hS, -⟩ := h1
  refine lv_aload_n hx hb dL_law_561 rfl (lv_at hl 2 rfl) ?_
  refine l_arg C hS hl (k := 1) (by omega) rfl dL_law_562 dL_law_563 dL_law_564 dL_law_565 dL_law_566 ?_
  refine callW (As := [.ref 41, .int (xs (i + 1))]) (S' := [.int r]) (L := [none, some (.ref 0), some (.ref 41), some (.int (nI i))]) (rc := 3) C.1 ⟨hP, hD, hS, hv⟩ mkX4_swaps (Nat.le_of_ble_eq_true rfl) (Nat.le_of_ble_eq_true rfl) lwl_84 M2 rfl (Nat.le_of_ble_eq_true rfl) (Nat.le_of_ble_eq_true rfl) (Nat.le_of_ble_eq_true rfl) (Or.inl ⟨rfl, by decide, ⟨_, rfl, rfl⟩, lwi_X4_swaps, lws_X4_swaps, dL_law_567⟩) (fun H2 locs2 h2 => ?_)
  obtain ⟨hP, hD, hS, -⟩ := h2
  refine lv_icmp_eq (tgt := 1028) hx hb dL_law_570 (by decide) (fun _ => ?_) (fun h => absurd rfl h)
  exact kk u2 z2 _ _ ⟨hP, hD, hS, hl, C2, D2, G2⟩
set_option maxHeartbeats 4000000 in
set_option maxRecDepth 100000 in
theorem lc_17 (C : LC dC dI dA ad aV p s m c b L xs) (S : LSt dC dI dA ad s b i u z H locs ls) (hi : i + 6 ≤ L) (kk : ∀ (u2 : Sg) (z2 : Zs) (H2 : Heap) (locs2 : List Loc), LSt dC dI dA ad s b i u2 z2 H2 locs2 ls → W p l e room_1 s m #[Value.ref b] below meth c H2 locs2 63 2138 Q (F0 m 1028 ls [])) : W p l e room_1 s m #[Value.ref b] below meth c H locs 63 2138 Q (F0 m 575 ls []) := by
  obtain ⟨hx, hb, hml, hown, htg, hK, hR1, hR2, hT, hA⟩ := C.1
  obtain ⟨hP, hD, hS, hl, CI, MI, G⟩ := S
  obtain ⟨r, u1, u2, z2, M1, M2, C2, D2, G2⟩ := sim_i l MI (dB := mdX3_steps) (dM := mdX4_steps) (As := []) (s_steps CI G) rfl rfl mkX3_steps mkX4_steps (Nat.le_of_ble_eq_true rfl) (Nat.le_of_ble_eq_true rfl)
  have hv : lv_has ls 4 (asl ad 0 [none, some (.ref 0), some (.ref 41), some (.int (nI i))]) := lv_sub hl [1, 2, 3] rfl
  refine lv_aload_n hx hb dL_law_575 rfl (lv_at hl 1 rfl) ?_
  refine callW (As := [.ref 0]) (S' := []) (L := [none, some (.ref 0), some (.ref 41), some (.int (nI i))]) (rc := 2) C.1 ⟨hP, hD, hS, hv⟩ mkX3_steps (Nat.le_of_ble_eq_true rfl) (Nat.le_of_ble_eq_true rfl) lwl_85 M1 rfl (Nat.le_of_ble_eq_true rfl) (Nat.le_of_ble_eq_true rfl) (Nat.le_of_ble_eq_true rfl) (Or.inl ⟨rfl, by decide, ⟨_, rfl, rfl⟩, lwi_X3_steps, lws_X3_steps, dL_law_576⟩) (fun H1 locs1 h1 => ?_)
  obtain ⟨hP, hD, hS, -⟩ := h1
  refine lv_aload_n hx hb dL_law_579 rfl (lv_at hl 2 rfl) ?_
  refine callW (As := [.ref 41]) (S' := [.int r]) (L := [none, some (.ref 0), some (.ref 41), some (.int (nI i))]) (rc := 3) C.1 ⟨hP, hD, hS, hv⟩ mkX4_steps (Nat.le_of_ble_eq_true rfl) (Nat.le_of_ble_eq_true rfl) lwl_88 M2 rfl (Nat.le_of_ble_eq_true rfl) (Nat.le_of_ble_eq_true rfl) (Nat.le_of_ble_eq_true rfl) (Or.inl ⟨rfl, by decide, ⟨_, rfl, rfl⟩, lwi_X4_steps, lws_X4_steps, dL_law_580⟩) (fun H2 locs2 h2 => ?_)
  obtain ⟨hP, hD, hS, -⟩ := h2
  refine lv_icmp_eq (tgt := 1028) hx hb dL_law_583 (by decide) (fun _ => ?_) (fun h => absurd rfl h)
  exact kk u2 z2 _ _ ⟨hP, hD, hS, hl, C2, D2, G2⟩
set_option maxHeartbeats 4000000 in
set_option maxRecDepth 100000 in
theorem lc_18 (C : LC dC dI dA ad aV p s m c b L xs) (S : LSt dC dI dA ad s b i u z H locs ls) (hi : i + 6 ≤ L) (kk : ∀ (u2 : Sg) (z2 : Zs) (H2 : Heap) (locs2 : List Loc), LSt dC dI dA ad s b i u2 z2 H2 locs2 ls → W p l e room_1 s m #[Value.ref b] below meth c H2 locs2 63 2138 Q (F0 m 1028 ls [])) : W p l e room_1 s m #[Value.ref b] below meth c H locs 63 2138 Q (F0 m 588 ls []) := by
  obtain ⟨hx, hb, hml, hown, htg, hK, hR1, hR2, hT, hA⟩ := C.1
  obtain ⟨hP, hD, hS, hl, CI, MI, G⟩ := S
  obtain ⟨r, u1, u2, z2, M1, M2, C2, D2, G2⟩ := sim_i l MI (dB := mdX3_worst) (dM := mdX4_worst) (As := [.int (xs (i + 1))]) (s_worst CI G (xs (i + 1))) rfl rfl mkX3_worst mkX4_worst (Nat.le_of_ble_eq_true rfl) (Nat.le_of_ble_eq_true rfl)
  have hv : lv_has ls 4 (asl ad 0 [none, some (.ref 0), some (.ref 41), some (.int (nI i))]) := lv_sub hl [1, 2, 3] rfl
  refine lv_aload_n hx hb dL_law_588 rfl (lv_at hl 1 rfl) ?_
  refine l_arg C hS hl (k := 1) (by omega) rfl dL_law_589 dL_law_590 dL_law_591 dL_law_592 dL_law_593 ?_
  refine callW (As := [.ref 0, .int (xs (i + 1))]) (S' := []) (L := [none, some (.ref 0), some (.ref 41), some (.int (nI i))]) (rc := 2) C.1 ⟨hP, hD, hS, hv⟩ mkX3_worst (Nat.le_of_ble_eq_true rfl) (Nat.le_of_ble_eq_true rfl) lwl_89 M1 rfl (Nat.le_of_ble_eq_true rfl) (Nat.le_of_ble_eq_true rfl) (Nat.le_of_ble_eq_true rfl) (Or.inl ⟨rfl, by decide, ⟨_, rfl, rfl⟩, lwi_X3_worst, lws_X3_worst, dL_law_594⟩) (fun H1 locs1 h1 => ?_)
  obtain ⟨hP, hD, hS, -⟩ := h1
  refine lv_aload_n hx hb dL_law_597 rfl (lv_at hl 2 rfl) ?_
  refine l_arg C hS hl (k := 1) (by omega) rfl dL_law_598 dL_law_599 dL_law_600 dL_law_601 dL_law_602 ?_
  refine callW (As := [.ref 41, .int (xs (i + 1))]) (S' := [.int r]) (L := [none, some (.ref 0), some (.ref 41), some (.int (nI i))]) (rc := 3) C.1 ⟨hP, hD, hS, hv⟩ mkX4_worst (Nat.le_of_ble_eq_true rfl) (Nat.le_of_ble_eq_true rfl) lwl_92 M2 rfl (Nat.le_of_ble_eq_true rfl) (Nat.le_of_ble_eq_true rfl) (Nat.le_of_ble_eq_true rfl) (Or.inl ⟨rfl, by decide, ⟨_, rfl, rfl⟩, lwi_X4_worst, lws_X4_worst, dL_law_603⟩) (fun H2 locs2 h2 => ?_)
  obtain ⟨hP, hD, hS, -⟩ := h2
  refine lv_icmp_eq (tgt := 1028) hx hb dL_law_606 (by decide) (fun _ => ?_) (fun h => absurd rfl h)
  exact kk u2 z2 _ _ ⟨hP, hD, hS, hl, C2, D2, G2⟩
set_option maxHeartbeats 4000000 in
set_option maxRecDepth 100000 in
theorem lc_19 (C : LC dC dI dA ad aV p s m c b L xs) (S : LSt dC dI dA ad s b i u z H locs ls) (hi : i + 6 ≤ L) (kk : ∀ (u2 : Sg) (z2 : Zs) (H2 : Heap) (locs2 : List Loc), LSt dC dI dA ad s b i u2 z2 H2 locs2 ls → W p l e room_1 s m #[Value.ref b] below meth c H2 locs2 63 2138 Q (F0 m 1028 ls [])) : W p l e room_1 s m #[Value.ref b] below meth c H locs 63 2138 Q (F0 m 611 ls []) := by
  obtain ⟨hx, hb, hml, hown, htg, hK, hR1, hR2, hT, hA⟩ := C.1
  obtain ⟨hP, hD, hS, hl, CI, MI, G⟩ := S
  obtain ⟨r, u1, u2, z2, M1, M2, C2, D2, G2⟩ := sim_i l MI (dB := mdX3_slips) (dM := mdX4_slips) (As := [.int (xs (i + 1)), .int (xs (i + 2))]) (s_slips CI G (xs (i + 1)) (xs (i + 2))) rfl rfl mkX3_slips mkX4_slips (Nat.le_of_ble_eq_true rfl) (Nat.le_of_ble_eq_true rfl)
  have hv : lv_has ls 4 (asl ad 0 [none, some (.ref 0), some (.ref 41), some (.int (nI i))]) := lv_sub hl [1, 2, 3] rfl
  refine lv_aload_n hx hb dL_law_611 rfl (lv_at hl 1 rfl) ?_
  refine l_arg C hS hl (k := 1) (by omega) rfl dL_law_612 dL_law_613 dL_law_614 dL_law_615 dL_law_616 ?_
  refine l_arg C hS hl (k := 2) (by omega) rfl dL_law_617 dL_law_618 dL_law_619 dL_law_620 dL_law_621 ?_
  refine callW (As := [.ref 0, .int (xs (i + 1)), .int (xs (i + 2))]) (S' := []) (L := [none, some (.ref 0), some (.ref 41), some (.int (nI i))]) (rc := 2) C.1 ⟨hP, hD, hS, hv⟩ mkX3_slips (Nat.le_of_ble_eq_true rfl) (Nat.le_of_ble_eq_true rfl) lwl_93 M1 rfl (Nat.le_of_ble_eq_true rfl) (Nat.le_of_ble_eq_true rfl) (Nat.le_of_ble_eq_true rfl) (Or.inl ⟨rfl, by decide, ⟨_, rfl, rfl⟩, lwi_X3_slips, lws_X3_slips, dL_law_622⟩) (fun H1 locs1 h1 => ?_)
  obtain ⟨hP, hD, hS, -⟩ := h1
  refine lv_aload_n hx hb dL_law_625 rfl (lv_at hl 2 rfl) ?_
  refine l_arg C hS hl (k := 1) (by omega) rfl dL_law_626 dL_law_627 dL_law_628 dL_law_629 dL_law_630 ?_
  refine l_arg C hS hl (k := 2) (by omega) rfl dL_law_631 dL_law_632 dL_law_633 dL_law_634 dL_law_635 ?_
  refine callW (As := [.ref 41, .int (xs (i + 1)), .int (xs (i + 2))]) (S' := [.int r]) (L := [none, some (.ref 0), some (.ref 41), some (.int (nI i))]) (rc := 3) C.1 ⟨hP, hD, hS, hv⟩ mkX4_slips (Nat.le_of_ble_eq_true rfl) (Nat.le_of_ble_eq_true rfl) lwl_96 M2 rfl (Nat.le_of_ble_eq_true rfl) (Nat.le_of_ble_eq_true rfl) (Nat.le_of_ble_eq_true rfl) (Or.inl ⟨rfl, by decide, ⟨_, rfl, rfl⟩, lwi_X4_slips, lws_X4_slips, dL_law_636⟩) (fun H2 locs2 h2 => ?_)
  obtain ⟨hP, hD, hS, -⟩ := h2
  refine lv_icmp_eq (tgt := 1028) hx hb dL_law_639 (by decide) (fun _ => ?_) (fun h => absurd rfl h)
  exact kk u2 z2 _ _ ⟨hP, hD, hS, hl, C2, D2, G2⟩
set_option maxHeartbeats 4000000 in
set_option maxRecDepth 100000 in
theorem lc_20 (C : LC dC dI dA ad aV p s m c b L xs) (S : LSt dC dI dA ad s b i u z H locs ls) (hi : i + 6 ≤ L) (kk : ∀ (u2 : Sg) (z2 : Zs) (H2 : Heap) (locs2 : List Loc), LSt dC dI dA ad s b i u2 z2 H2 locs2 ls → W p l e room_1 s m #[Value.ref b] below meth c H2 locs2 63 2138 Q (F0 m 1028 ls [])) : W p l e room_1 s m #[Value.ref b] below meth c H locs 63 2138 Q (F0 m 644 ls []) := by
  obtain ⟨hx, hb, hml, hown, htg, hK, hR1, hR2, hT, hA⟩ := C.1
  obtain ⟨hP, hD, hS, hl, CI, MI, G⟩ := S
  obtain ⟨r, u1, u2, z2, M1, M2, C2, D2, G2⟩ := sim_i l MI (dB := mdX3_note) (dM := mdX4_note) (As := [.int (xs (i + 1)), .int (xs (i + 2)), .int (xs (i + 3)), .int (xs (i + 4)), .int (xs (i + 5))]) (s_note CI G (xs (i + 1)) (xs (i + 2)) (xs (i + 3)) (xs (i + 4)) (xs (i + 5))) rfl rfl mkX3_note mkX4_note (Nat.le_of_ble_eq_true rfl) (Nat.le_of_ble_eq_true rfl)
  have hv : lv_has ls 4 (asl ad 0 [none, some (.ref 0), some (.ref 41), some (.int (nI i))]) := lv_sub hl [1, 2, 3] rfl
  refine lv_aload_n hx hb dL_law_644 rfl (lv_at hl 1 rfl) ?_
  refine l_arg C hS hl (k := 1) (by omega) rfl dL_law_645 dL_law_646 dL_law_647 dL_law_648 dL_law_649 ?_
  refine l_arg C hS hl (k := 2) (by omega) rfl dL_law_650 dL_law_651 dL_law_652 dL_law_653 dL_law_654 ?_
  refine l_arg C hS hl (k := 3) (by omega) rfl dL_law_655 dL_law_656 dL_law_657 dL_law_658 dL_law_659 ?_
  refine l_arg C hS hl (k := 4) (by omega) rfl dL_law_660 dL_law_661 dL_law_662 dL_law_663 dL_law_664 ?_
  refine l_arg C hS hl (k := 5) (by omega) rfl dL_law_665 dL_law_666 dL_law_667 dL_law_668 dL_law_669 ?_
  refine callW (As := [.ref 0, .int (xs (i + 1)), .int (xs (i + 2)), .int (xs (i + 3)), .int (xs (i + 4)), .int (xs (i + 5))]) (S' := []) (L := [none, some (.ref 0), some (.ref 41), some (.int (nI i))]) (rc := 2) C.1 ⟨hP, hD, hS, hv⟩ mkX3_note (Nat.le_of_ble_eq_true rfl) (Nat.le_of_ble_eq_true rfl) lwl_97 M1 rfl (Nat.le_of_ble_eq_true rfl) (Nat.le_of_ble_eq_true rfl) (Nat.le_of_ble_eq_true rfl) (Or.inl ⟨rfl, by decide, ⟨_, rfl, rfl⟩, lwi_X3_note, lws_X3_note, dL_law_670⟩) (fun H1 locs1 h1 => ?_)
  obtain ⟨hP, hD, hS, -⟩ := h1
  refine lv_aload_n hx hb dL_law_673 rfl (lv_at hl 2 rfl) ?_
  refine l_arg C hS hl (k := 1) (by omega) rfl dL_law_674 dL_law_675 dL_law_676 dL_law_677 dL_law_678 ?_
  refine l_arg C hS hl (k := 2) (by omega) rfl dL_law_679 dL_law_680 dL_law_681 dL_law_682 dL_law_683 ?_
  refine l_arg C hS hl (k := 3) (by omega) rfl dL_law_684 dL_law_685 dL_law_686 dL_law_687 dL_law_688 ?_
  refine l_arg C hS hl (k := 4) (by omega) rfl dL_law_689 dL_law_690 dL_law_691 dL_law_692 dL_law_693 ?_
  refine l_arg C hS hl (k := 5) (by omega) rfl dL_law_694 dL_law_695 dL_law_696 dL_law_697 dL_law_698 ?_
  refine callW (As := [.ref 41, .int (xs (i + 1)), .int (xs (i + 2)), .int (xs (i + 3)), .int (xs (i + 4)), .int (xs (i + 5))]) (S' := [.int r]) (L := [none, some (.ref 0), some (.ref 41), some (.int (nI i))]) (rc := 3) C.1 ⟨hP, hD, hS, hv⟩ mkX4_note (Nat.le_of_ble_eq_true rfl) (Nat.le_of_ble_eq_true rfl) lwl_101 M2 rfl (Nat.le_of_ble_eq_true rfl) (Nat.le_of_ble_eq_true rfl) (Nat.le_of_ble_eq_true rfl) (Or.inl ⟨rfl, by decide, ⟨_, rfl, rfl⟩, lwi_X4_note, lws_X4_note, dL_law_699⟩) (fun H2 locs2 h2 => ?_)
  obtain ⟨hP, hD, hS, -⟩ := h2
  refine lv_icmp_eq (tgt := 1028) hx hb dL_law_702 (by decide) (fun _ => ?_) (fun h => absurd rfl h)
  exact kk u2 z2 _ _ ⟨hP, hD, hS, hl, C2, D2, G2⟩
set_option maxHeartbeats 4000000 in
set_option maxRecDepth 100000 in
theorem lc_21 (C : LC dC dI dA ad aV p s m c b L xs) (S : LSt dC dI dA ad s b i u z H locs ls) (hi : i + 6 ≤ L) (kk : ∀ (u2 : Sg) (z2 : Zs) (H2 : Heap) (locs2 : List Loc), LSt dC dI dA ad s b i u2 z2 H2 locs2 ls → W p l e room_1 s m #[Value.ref b] below meth c H2 locs2 63 2138 Q (F0 m 1028 ls [])) : W p l e room_1 s m #[Value.ref b] below meth c H locs 63 2138 Q (F0 m 707 ls []) := by
  obtain ⟨hx, hb, hml, hown, htg, hK, hR1, hR2, hT, hA⟩ := C.1
  obtain ⟨hP, hD, hS, hl, CI, MI, G⟩ := S
  obtain ⟨r, u1, u2, z2, M1, M2, C2, D2, G2⟩ := sim_i l MI (dB := mdX3_forget) (dM := mdX4_forget) (As := []) (s_forget CI G) rfl rfl mkX3_forget mkX4_forget (Nat.le_of_ble_eq_true rfl) (Nat.le_of_ble_eq_true rfl)
  have hv : lv_has ls 4 (asl ad 0 [none, some (.ref 0), some (.ref 41), some (.int (nI i))]) := lv_sub hl [1, 2, 3] rfl
  refine lv_aload_n hx hb dL_law_707 rfl (lv_at hl 1 rfl) ?_
  refine callW (As := [.ref 0]) (S' := []) (L := [none, some (.ref 0), some (.ref 41), some (.int (nI i))]) (rc := 2) C.1 ⟨hP, hD, hS, hv⟩ mkX3_forget (Nat.le_of_ble_eq_true rfl) (Nat.le_of_ble_eq_true rfl) lwl_102 M1 rfl (Nat.le_of_ble_eq_true rfl) (Nat.le_of_ble_eq_true rfl) (Nat.le_of_ble_eq_true rfl) (Or.inl ⟨rfl, by decide, ⟨_, rfl, rfl⟩, lwi_X3_forget, lws_X3_forget, dL_law_708⟩) (fun H1 locs1 h1 => ?_)
  obtain ⟨hP, hD, hS, -⟩ := h1
  refine lv_aload_n hx hb dL_law_711 rfl (lv_at hl 2 rfl) ?_
  refine callW (As := [.ref 41]) (S' := [.int r]) (L := [none, some (.ref 0), some (.ref 41), some (.int (nI i))]) (rc := 3) C.1 ⟨hP, hD, hS, hv⟩ mkX4_forget (Nat.le_of_ble_eq_true rfl) (Nat.le_of_ble_eq_true rfl) lwl_105 M2 rfl (Nat.le_of_ble_eq_true rfl) (Nat.le_of_ble_eq_true rfl) (Nat.le_of_ble_eq_true rfl) (Or.inl ⟨rfl, by decide, ⟨_, rfl, rfl⟩, lwi_X4_forget, lws_X4_forget, dL_law_712⟩) (fun H2 locs2 h2 => ?_)
  obtain ⟨hP, hD, hS, -⟩ := h2
  refine lv_icmp_eq (tgt := 1028) hx hb dL_law_715 (by decide) (fun _ => ?_) (fun h => absurd rfl h)
  exact kk u2 z2 _ _ ⟨hP, hD, hS, hl, C2, D2, G2⟩
set_option maxHeartbeats 4000000 in
set_option maxRecDepth 100000 in
theorem lc_22 (C : LC dC dI dA ad aV p s m c b L xs) (S : LSt dC dI dA ad s b i u z H locs ls) (hi : i + 6 ≤ L) (kk : ∀ (u2 : Sg) (z2 : Zs) (H2 : Heap) (locs2 : List Loc), LSt dC dI dA ad s b i u2 z2 H2 locs2 ls → W p l e room_1 s m #[Value.ref b] below meth c H2 locs2 63 2138 Q (F0 m 1028 ls [])) : W p l e room_1 s m #[Value.ref b] below meth c H locs 63 2138 Q (F0 m 720 ls []) := by
  obtain ⟨hx, hb, hml, hown, htg, hK, hR1, hR2, hT, hA⟩ := C.1
  obtain ⟨hP, hD, hS, hl, CI, MI, G⟩ := S
  obtain ⟨r, u1, u2, z2, M1, M2, C2, D2, G2⟩ := sim_i l MI (dB := mdX3_is) (dM := mdX4_is) (As := [.int (xs (i + 1))]) (s_is CI G (xs (i + 1))) rfl rfl mkX3_is mkX4_is (Nat.le_of_ble_eq_true rfl) (Nat.le_of_ble_eq_true rfl)
  have hv : lv_has ls 4 (asl ad 0 [none, some (.ref 0), some (.ref 41), some (.int (nI i))]) := lv_sub hl [1, 2, 3] rfl
  refine lv_aload_n hx hb dL_law_720 rfl (lv_at hl 1 rfl) ?_
  refine l_arg C hS hl (k := 1) (by omega) rfl dL_law_721 dL_law_722 dL_law_723 dL_law_724 dL_law_725 ?_
  refine callW (As := [.ref 0, .int (xs (i + 1))]) (S' := []) (L := [none, some (.ref 0), some (.ref 41), some (.int (nI i))]) (rc := 2) C.1 ⟨hP, hD, hS, hv⟩ mkX3_is (Nat.le_of_ble_eq_true rfl) (Nat.le_of_ble_eq_true rfl) lwl_106 M1 rfl (Nat.le_of_ble_eq_true rfl) (Nat.le_of_ble_eq_true rfl) (Nat.le_of_ble_eq_true rfl) (Or.inl ⟨rfl, by decide, ⟨_, rfl, rfl⟩, lwi_X3_is, lws_X3_is, dL_law_726⟩) (fun H1 locs1 h1 => ?_)
  obtain ⟨hP, hD, hS, -⟩ := h1
  refine lv_aload_n hx hb dL_law_729 rfl (lv_at hl 2 rfl) ?_
  refine l_arg C hS hl (k := 1) (by omega) rfl dL_law_730 dL_law_731 dL_law_732 dL_law_733 dL_law_734 ?_
  refine callW (As := [.ref 41, .int (xs (i + 1))]) (S' := [.int r]) (L := [none, some (.ref 0), some (.ref 41), some (.int (nI i))]) (rc := 3) C.1 ⟨hP, hD, hS, hv⟩ mkX4_is (Nat.le_of_ble_eq_true rfl) (Nat.le_of_ble_eq_true rfl) lwl_109 M2 rfl (Nat.le_of_ble_eq_true rfl) (Nat.le_of_ble_eq_true rfl) (Nat.le_of_ble_eq_true rfl) (Or.inl ⟨rfl, by decide, ⟨_, rfl, rfl⟩, lwi_X4_is, lws_X4_is, dL_law_735⟩) (fun H2 locs2 h2 => ?_)
  obtain ⟨hP, hD, hS, -⟩ := h2
  refine lv_icmp_eq (tgt := 1028) hx hb dL_law_738 (by decide) (fun _ => ?_) (fun h => absurd rfl h)
  exact kk u2 z2 _ _ ⟨hP, hD, hS, hl, C2, D2, G2⟩
set_option maxHeartbeats 4000000 in
set_option maxRecDepth 100000 in
theorem lc_23 (C : LC dC dI dA ad aV p s m c b L xs) (S : LSt dC dI dA ad s b i u z H locs ls) (hi : i + 6 ≤ L) (kk : ∀ (u2 : Sg) (z2 : Zs) (H2 : Heap) (locs2 : List Loc), LSt dC dI dA ad s b i u2 z2 H2 locs2 ls → W p l e room_1 s m #[Value.ref b] below meth c H2 locs2 63 2138 Q (F0 m 1028 ls [])) : W p l e room_1 s m #[Value.ref b] below meth c H locs 63 2138 Q (F0 m 743 ls []) := by
  obtain ⟨hx, hb, hml, hown, htg, hK, hR1, hR2, hT, hA⟩ := C.1
  obtain ⟨hP, hD, hS, hl, CI, MI, G⟩ := S
  obtain ⟨r, u1, u2, z2, M1, M2, C2, D2, G2⟩ := sim_i l MI (dB := mdX3_listen) (dM := mdX4_listen) (As := [.int (xs (i + 1))]) (s_listen CI G (xs (i + 1))) rfl rfl mkX3_listen mkX4_listen (Nat.le_of_ble_eq_true rfl) (Nat.le_of_ble_eq_true rfl)
  have hv : lv_has ls 4 (asl ad 0 [none, some (.ref 0), some (.ref 41), some (.int (nI i))]) := lv_sub hl [1, 2, 3] rfl
  refine lv_aload_n hx hb dL_law_743 rfl (lv_at hl 1 rfl) ?_
  refine l_arg C hS hl (k := 1) (by omega) rfl dL_law_744 dL_law_745 dL_law_746 dL_law_747 dL_law_748 ?_
  refine callW (As := [.ref 0, .int (xs (i + 1))]) (S' := []) (L := [none, some (.ref 0), some (.ref 41), some (.int (nI i))]) (rc := 2) C.1 ⟨hP, hD, hS, hv⟩ mkX3_listen (Nat.le_of_ble_eq_true rfl) (Nat.le_of_ble_eq_true rfl) lwl_110 M1 rfl (Nat.le_of_ble_eq_true rfl) (Nat.le_of_ble_eq_true rfl) (Nat.le_of_ble_eq_true rfl) (Or.inl ⟨rfl, by decide, ⟨_, rfl, rfl⟩, lwi_X3_listen, lws_X3_listen, dL_law_749⟩) (fun H1 locs1 h1 => ?_)
  obtain ⟨hP, hD, hS, -⟩ := h1
  refine lv_aload_n hx hb dL_law_752 rfl (lv_at hl 2 rfl) ?_
  refine l_arg C hS hl (k := 1) (by omega) rfl dL_law_753 dL_law_754 dL_law_755 dL_law_756 dL_law_757 ?_
  refine callW (As := [.ref 41, .int (xs (i + 1))]) (S' := [.int r]) (L := [none, some (.ref 0), some (.ref 41), some (.int (nI i))]) (rc := 3) C.1 ⟨hP, hD, hS, hv⟩ mkX4_listen (Nat.le_of_ble_eq_true rfl) (Nat.le_of_ble_eq_true rfl) lwl_113 M2 rfl (Nat.le_of_ble_eq_true rfl) (Nat.le_of_ble_eq_true rfl) (Nat.le_of_ble_eq_true rfl) (Or.inl ⟨rfl, by decide, ⟨_, rfl, rfl⟩, lwi_X4_listen, lws_X4_listen, dL_law_758⟩) (fun H2 locs2 h2 => ?_)
  obtain ⟨hP, hD, hS, -⟩ := h2
  refine lv_icmp_eq (tgt := 1028) hx hb dL_law_761 (by decide) (fun _ => ?_) (fun h => absurd rfl h)
  exact kk u2 z2 _ _ ⟨hP, hD, hS, hl, C2, D2, G2⟩
set_option maxHeartbeats 4000000 in
set_option maxRecDepth 100000 in
theorem lc_24 (C : LC dC dI dA ad aV p s m c b L xs) (S : LSt dC dI dA ad s b i u z H locs ls) (hi : i + 6 ≤ L) (kk : ∀ (u2 : Sg) (z2 : Zs) (H2 : Heap) (locs2 : List Loc), LSt dC dI dA ad s b i u2 z2 H2 locs2 ls → W p l e room_1 s m #[Value.ref b] below meth c H2 locs2 63 2138 Q (F0 m 1028 ls [])) : W p l e room_1 s m #[Value.ref b] below meth c H locs 63 2138 Q (F0 m 766 ls []) := by
  obtain ⟨hx, hb, hml, hown, htg, hK, hR1, hR2, hT, hA⟩ := C.1
  obtain ⟨hP, hD, hS, hl, CI, MI, G⟩ := S
  obtain ⟨r, u1, u2, z2, M1, M2, C2, D2, G2⟩ := sim_i l MI (dB := mdX3_whose) (dM := mdX4_whose) (As := [.int (xs (i + 1))]) (s_whose CI G (xs (i + 1))) rfl rfl mkX3_whose mkX4_whose (Nat.le_of_ble_eq_true rfl) (Nat.le_of_ble_eq_true rfl)
  have hv : lv_has ls 4 (asl ad 0 [none, some (.ref 0), some (.ref 41), some (.int (nI i))]) := lv_sub hl [1, 2, 3] rfl
  refine lv_aload_n hx hb dL_law_766 rfl (lv_at hl 1 rfl) ?_
  refine l_arg C hS hl (k := 1) (by omega) rfl dL_law_767 dL_law_768 dL_law_769 dL_law_770 dL_law_771 ?_
  refine callW (As := [.ref 0, .int (xs (i + 1))]) (S' := []) (L := [none, some (.ref 0), some (.ref 41), some (.int (nI i))]) (rc := 2) C.1 ⟨hP, hD, hS, hv⟩ mkX3_whose (Nat.le_of_ble_eq_true rfl) (Nat.le_of_ble_eq_true rfl) lwl_114 M1 rfl (Nat.le_of_ble_eq_true rfl) (Nat.le_of_ble_eq_true rfl) (Nat.le_of_ble_eq_true rfl) (Or.inl ⟨rfl, by decide, ⟨_, rfl, rfl⟩, lwi_X3_whose, lws_X3_whose, dL_law_772⟩) (fun H1 locs1 h1 => ?_)
  obtain ⟨hP, hD, hS, -⟩ := h1
  refine lv_aload_n hx hb dL_law_775 rfl (lv_at hl 2 rfl) ?_
  refine l_arg C hS hl (k := 1) (by omega) rfl dL_law_776 dL_law_777 dL_law_778 dL_law_779 dL_law_780 ?_
  refine callW (As := [.ref 41, .int (xs (i + 1))]) (S' := [.int r]) (L := [none, some (.ref 0), some (.ref 41), some (.int (nI i))]) (rc := 3) C.1 ⟨hP, hD, hS, hv⟩ mkX4_whose (Nat.le_of_ble_eq_true rfl) (Nat.le_of_ble_eq_true rfl) lwl_117 M2 rfl (Nat.le_of_ble_eq_true rfl) (Nat.le_of_ble_eq_true rfl) (Nat.le_of_ble_eq_true rfl) (Or.inl ⟨rfl, by decide, ⟨_, rfl, rfl⟩, lwi_X4_whose, lws_X4_whose, dL_law_781⟩) (fun H2 locs2 h2 => ?_)
  obtain ⟨hP, hD, hS, -⟩ := h2
  refine lv_icmp_eq (tgt := 1028) hx hb dL_law_784 (by decide) (fun _ => ?_) (fun h => absurd rfl h)
  exact kk u2 z2 _ _ ⟨hP, hD, hS, hl, C2, D2, G2⟩
set_option maxHeartbeats 4000000 in
set_option maxRecDepth 100000 in
theorem lc_25 (C : LC dC dI dA ad aV p s m c b L xs) (S : LSt dC dI dA ad s b i u z H locs ls) (hi : i + 6 ≤ L) (kk : ∀ (u2 : Sg) (z2 : Zs) (H2 : Heap) (locs2 : List Loc), LSt dC dI dA ad s b i u2 z2 H2 locs2 ls → W p l e room_1 s m #[Value.ref b] below meth c H2 locs2 63 2138 Q (F0 m 1028 ls [])) : W p l e room_1 s m #[Value.ref b] below meth c H locs 63 2138 Q (F0 m 789 ls []) := by
  obtain ⟨hx, hb, hml, hown, htg, hK, hR1, hR2, hT, hA⟩ := C.1
  obtain ⟨hP, hD, hS, hl, CI, MI, G⟩ := S
  obtain ⟨r, u1, u2, z2, M1, M2, C2, D2, G2⟩ := sim_i l MI (dB := mdX3_asks) (dM := mdX4_asks) (As := [.int (xs (i + 1)), .int (xs (i + 2)), .int (xs (i + 3))]) (s_asks CI G (xs (i + 1)) (xs (i + 2)) (xs (i + 3))) rfl rfl mkX3_asks mkX4_asks (Nat.le_of_ble_eq_true rfl) (Nat.le_of_ble_eq_true rfl)
  have hv : lv_has ls 4 (asl ad 0 [none, some (.ref 0), some (.ref 41), some (.int (nI i))]) := lv_sub hl [1, 2, 3] rfl
  refine lv_aload_n hx hb dL_law_789 rfl (lv_at hl 1 rfl) ?_
  refine l_arg C hS hl (k := 1) (by omega) rfl dL_law_790 dL_law_791 dL_law_792 dL_law_793 dL_law_794 ?_
  refine l_arg C hS hl (k := 2) (by omega) rfl dL_law_795 dL_law_796 dL_law_797 dL_law_798 dL_law_799 ?_
  refine l_arg C hS hl (k := 3) (by omega) rfl dL_law_800 dL_law_801 dL_law_802 dL_law_803 dL_law_804 ?_
  refine callW (As := [.ref 0, .int (xs (i + 1)), .int (xs (i + 2)), .int (xs (i + 3))]) (S' := []) (L := [none, some (.ref 0), some (.ref 41), some (.int (nI i))]) (rc := 2) C.1 ⟨hP, hD, hS, hv⟩ mkX3_asks (Nat.le_of_ble_eq_true rfl) (Nat.le_of_ble_eq_true rfl) lwl_118 M1 rfl (Nat.le_of_ble_eq_true rfl) (Nat.le_of_ble_eq_true rfl) (Nat.le_of_ble_eq_true rfl) (Or.inl ⟨rfl, by decide, ⟨_, rfl, rfl⟩, lwi_X3_asks, lws_X3_asks, dL_law_805⟩) (fun H1 locs1 h1 => ?_)
  obtain ⟨hP, hD, hS, -⟩ := h1
  refine lv_aload_n hx hb dL_law_808 rfl (lv_at hl 2 rfl) ?_
  refine l_arg C hS hl (k := 1) (by omega) rfl dL_law_809 dL_law_810 dL_law_811 dL_law_812 dL_law_813 ?_
  refine l_arg C hS hl (k := 2) (by omega) rfl dL_law_814 dL_law_815 dL_law_816 dL_law_817 dL_law_818 ?_
  refine l_arg C hS hl (k := 3) (by omega) rfl dL_law_819 dL_law_820 dL_law_821 dL_law_822 dL_law_823 ?_
  refine callW (As := [.ref 41, .int (xs (i + 1)), .int (xs (i + 2)), .int (xs (i + 3))]) (S' := [.int r]) (L := [none, some (.ref 0), some (.ref 41), some (.int (nI i))]) (rc := 3) C.1 ⟨hP, hD, hS, hv⟩ mkX4_asks (Nat.le_of_ble_eq_true rfl) (Nat.le_of_ble_eq_true rfl) lwl_121 M2 rfl (Nat.le_of_ble_eq_true rfl) (Nat.le_of_ble_eq_true rfl) (Nat.le_of_ble_eq_true rfl) (Or.inl ⟨rfl, by decide, ⟨_, rfl, rfl⟩, lwi_X4_asks, lws_X4_asks, dL_law_824⟩) (fun H2 locs2 h2 => ?_)
  obtain ⟨hP, hD, hS, -⟩ := h2
  refine lv_icmp_eq (tgt := 1028) hx hb dL_law_827 (by decide) (fun _ => ?_) (fun h => absurd rfl h)
  exact kk u2 z2 _ _ ⟨hP, hD, hS, hl, C2, D2, G2⟩
set_option maxHeartbeats 4000000 in
set_option maxRecDepth 100000 in
theorem lc_26 (C : LC dC dI dA ad aV p s m c b L xs) (S : LSt dC dI dA ad s b i u z H locs ls) (hi : i + 6 ≤ L) (kk : ∀ (u2 : Sg) (z2 : Zs) (H2 : Heap) (locs2 : List Loc), LSt dC dI dA ad s b i u2 z2 H2 locs2 ls → W p l e room_1 s m #[Value.ref b] below meth c H2 locs2 63 2138 Q (F0 m 1028 ls [])) : W p l e room_1 s m #[Value.ref b] below meth c H locs 63 2138 Q (F0 m 832 ls []) := by
  obtain ⟨hx, hb, hml, hown, htg, hK, hR1, hR2, hT, hA⟩ := C.1
  obtain ⟨hP, hD, hS, hl, CI, MI, G⟩ := S
  obtain ⟨r, u1, u2, z2, M1, M2, C2, D2, G2⟩ := sim_i l MI (dB := mdX3_thieves) (dM := mdX4_thieves) (As := [.int (xs (i + 1)), .int (xs (i + 2))]) (s_thieves CI G (xs (i + 1)) (xs (i + 2))) rfl rfl mkX3_thieves mkX4_thieves (Nat.le_of_ble_eq_true rfl) (Nat.le_of_ble_eq_true rfl)
  have hv : lv_has ls 4 (asl ad 0 [none, some (.ref 0), some (.ref 41), some (.int (nI i))]) := lv_sub hl [1, 2, 3] rfl
  refine lv_aload_n hx hb dL_law_832 rfl (lv_at hl 1 rfl) ?_
  refine l_arg C hS hl (k := 1) (by omega) rfl dL_law_833 dL_law_834 dL_law_835 dL_law_836 dL_law_837 ?_
  refine l_arg C hS hl (k := 2) (by omega) rfl dL_law_838 dL_law_839 dL_law_840 dL_law_841 dL_law_842 ?_
  refine callW (As := [.ref 0, .int (xs (i + 1)), .int (xs (i + 2))]) (S' := []) (L := [none, some (.ref 0), some (.ref 41), some (.int (nI i))]) (rc := 2) C.1 ⟨hP, hD, hS, hv⟩ mkX3_thieves (Nat.le_of_ble_eq_true rfl) (Nat.le_of_ble_eq_true rfl) lwl_122 M1 rfl (Nat.le_of_ble_eq_true rfl) (Nat.le_of_ble_eq_true rfl) (Nat.le_of_ble_eq_true rfl) (Or.inl ⟨rfl, by decide, ⟨_, rfl, rfl⟩, lwi_X3_thieves, lws_X3_thieves, dL_law_843⟩) (fun H1 locs1 h1 => ?_)
  obtain ⟨hP, hD, hS, -⟩ := h1
  refine lv_aload_n hx hb dL_law_846 rfl (lv_at hl 2 rfl) ?_
  refine l_arg C hS hl (k := 1) (by omega) rfl dL_law_847 dL_law_848 dL_law_849 dL_law_850 dL_law_851 ?_
  refine l_arg C hS hl (k := 2) (by omega) rfl dL_law_852 dL_law_853 dL_law_854 dL_law_855 dL_law_856 ?_
  refine callW (As := [.ref 41, .int (xs (i + 1)), .int (xs (i + 2))]) (S' := [.int r]) (L := [none, some (.ref 0), some (.ref 41), some (.int (nI i))]) (rc := 3) C.1 ⟨hP, hD, hS, hv⟩ mkX4_thieves (Nat.le_of_ble_eq_true rfl) (Nat.le_of_ble_eq_true rfl) lwl_125 M2 rfl (Nat.le_of_ble_eq_true rfl) (Nat.le_of_ble_eq_true rfl) (Nat.le_of_ble_eq_true rfl) (Or.inl ⟨rfl, by decide, ⟨_, rfl, rfl⟩, lwi_X4_thieves, lws_X4_thieves, dL_law_857⟩) (fun H2 locs2 h2 => ?_)
  obtain ⟨hP, hD, hS, -⟩ := h2
  refine lv_icmp_eq (tgt := 1028) hx hb dL_law_860 (by decide) (fun _ => ?_) (fun h => absurd rfl h)
  exact kk u2 z2 _ _ ⟨hP, hD, hS, hl, C2, D2, G2⟩
set_option maxHeartbeats 4000000 in
set_option maxRecDepth 100000 in
theorem lc_27 (C : LC dC dI dA ad aV p s m c b L xs) (S : LSt dC dI dA ad s b i u z H locs ls) (hi : i + 6 ≤ L) (kk : ∀ (u2 : Sg) (z2 : Zs) (H2 : Heap) (locs2 : List Loc), LSt dC dI dA ad s b i u2 z2 H2 locs2 ls → W p l e room_1 s m #[Value.ref b] below meth c H2 locs2 63 2138 Q (F0 m 1028 ls [])) : W p l e room_1 s m #[Value.ref b] below meth c H locs 63 2138 Q (F0 m 865 ls []) := by
  obtain ⟨hx, hb, hml, hown, htg, hK, hR1, hR2, hT, hA⟩ := C.1
  obtain ⟨hP, hD, hS, hl, CI, MI, G⟩ := S
  obtain ⟨r, u1, u2, z2, M1, M2, C2, D2, G2⟩ := sim_i l MI (dB := mdX3_lents) (dM := mdX4_lents) (As := [.int (xs (i + 1)), .int (xs (i + 2))]) (s_lents CI G (xs (i + 1)) (xs (i + 2))) rfl rfl mkX3_lents mkX4_lents (Nat.le_of_ble_eq_true rfl) (Nat.le_of_ble_eq_true rfl)
  have hv : lv_has ls 4 (asl ad 0 [none, some (.ref 0), some (.ref 41), some (.int (nI i))]) := lv_sub hl [1, 2, 3] rfl
  refine lv_aload_n hx hb dL_law_865 rfl (lv_at hl 1 rfl) ?_
  refine l_arg C hS hl (k := 1) (by omega) rfl dL_law_866 dL_law_867 dL_law_868 dL_law_869 dL_law_870 ?_
  refine l_arg C hS hl (k := 2) (by omega) rfl dL_law_871 dL_law_872 dL_law_873 dL_law_874 dL_law_875 ?_
  refine callW (As := [.ref 0, .int (xs (i + 1)), .int (xs (i + 2))]) (S' := []) (L := [none, some (.ref 0), some (.ref 41), some (.int (nI i))]) (rc := 2) C.1 ⟨hP, hD, hS, hv⟩ mkX3_lents (Nat.le_of_ble_eq_true rfl) (Nat.le_of_ble_eq_true rfl) lwl_126 M1 rfl (Nat.le_of_ble_eq_true rfl) (Nat.le_of_ble_eq_true rfl) (Nat.le_of_ble_eq_true rfl) (Or.inl ⟨rfl, by decide, ⟨_, rfl, rfl⟩, lwi_X3_lents, lws_X3_lents, dL_law_876⟩) (fun H1 locs1 h1 => ?_)
  obtain ⟨hP, hD, hS, -⟩ := h1
  refine lv_aload_n hx hb dL_law_879 rfl (lv_at hl 2 rfl) ?_
  refine l_arg C hS hl (k := 1) (by omega) rfl dL_law_880 dL_law_881 dL_law_882 dL_law_883 dL_law_884 ?_
  refine l_arg C hS hl (k := 2) (by omega) rfl dL_law_885 dL_law_886 dL_law_887 dL_law_888 dL_law_889 ?_
  refine callW (As := [.ref 41, .int (xs (i + 1)), .int (xs (i + 2))]) (S' := [.int r]) (L := [none, some (.ref 0), some (.ref 41), some (.int (nI i))]) (rc := 3) C.1 ⟨hP, hD, hS, hv⟩ mkX4_lents (Nat.le_of_ble_eq_true rfl) (Nat.le_of_ble_eq_true rfl) lwl_129 M2 rfl (Nat.le_of_ble_eq_true rfl) (Nat.le_of_ble_eq_true rfl) (Nat.le_of_ble_eq_true rfl) (Or.inl ⟨rfl, by decide, ⟨_, rfl, rfl⟩, lwi_X4_lents, lws_X4_lents, dL_law_890⟩) (fun H2 locs2 h2 => ?_)
  obtain ⟨hP, hD, hS, -⟩ := h2
  refine lv_icmp_eq (tgt := 1028) hx hb dL_law_893 (by decide) (fun _ => ?_) (fun h => absurd rfl h)
  exact kk u2 z2 _ _ ⟨hP, hD, hS, hl, C2, D2, G2⟩
set_option maxHeartbeats 4000000 in
set_option maxRecDepth 100000 in
theorem lc_28 (C : LC dC dI dA ad aV p s m c b L xs) (S : LSt dC dI dA ad s b i u z H locs ls) (hi : i + 6 ≤ L) (kk : ∀ (u2 : Sg) (z2 : Zs) (H2 : Heap) (locs2 : List Loc), LSt dC dI dA ad s b i u2 z2 H2 locs2 ls → W p l e room_1 s m #[Value.ref b] below meth c H2 locs2 63 2138 Q (F0 m 1028 ls [])) : W p l e room_1 s m #[Value.ref b] below meth c H locs 63 2138 Q (F0 m 898 ls []) := by
  obtain ⟨hx, hb, hml, hown, htg, hK, hR1, hR2, hT, hA⟩ := C.1
  obtain ⟨hP, hD, hS, hl, CI, MI, G⟩ := S
  obtain ⟨r, u1, u2, z2, M1, M2, C2, D2, G2⟩ := sim_l l MI (dB := mdX3_part) (dM := mdX4_part) (As := [.int (xs (i + 1))]) (s_part CI G (xs (i + 1))) rfl rfl mkX3_part mkX4_part (Nat.le_of_ble_eq_true rfl) (Nat.le_of_ble_eq_true rfl)
  have hv : lv_has ls 4 (asl ad 0 [none, some (.ref 0), some (.ref 41), some (.int (nI i))]) := lv_sub hl [1, 2, 3] rfl
  refine lv_aload_n hx hb dL_law_898 rfl (lv_at hl 1 rfl) ?_
  refine l_arg C hS hl (k := 1) (by omega) rfl dL_law_899 dL_law_900 dL_law_901 dL_law_902 dL_law_903 ?_
  refine callW (As := [.ref 0, .int (xs (i + 1))]) (S' := []) (L := [none, some (.ref 0), some (.ref 41), some (.int (nI i))]) (rc := 2) C.1 ⟨hP, hD, hS, hv⟩ mkX3_part (Nat.le_of_ble_eq_true rfl) (Nat.le_of_ble_eq_true rfl) lwl_130 M1 rfl (Nat.le_of_ble_eq_true rfl) (Nat.le_of_ble_eq_true rfl) (Nat.le_of_ble_eq_true rfl) (Or.inl ⟨rfl, by decide, ⟨_, rfl, rfl⟩, lwi_X3_part, lws_X3_part, dL_law_904⟩) (fun H1 locs1 h1 => ?_)
  obtain ⟨hP, hD, hS, -⟩ := h1
  refine lv_aload_n hx hb dL_law_907 rfl (lv_at hl 2 rfl) ?_
  refine l_arg C hS hl (k := 1) (by omega) rfl dL_law_908 dL_law_909 dL_law_910 dL_law_911 dL_law_912 ?_
  refine callW (As := [.ref 41, .int (xs (i + 1))]) (S' := [.long r]) (L := [none, some (.ref 0), some (.ref 41), some (.int (nI i))]) (rc := 3) C.1 ⟨hP, hD, hS, hv⟩ mkX4_part (Nat.le_of_ble_eq_true rfl) (Nat.le_of_ble_eq_true rfl) lwl_134 M2 rfl (Nat.le_of_ble_eq_true rfl) (Nat.le_of_ble_eq_true rfl) (Nat.le_of_ble_eq_true rfl) (Or.inl ⟨rfl, by decide, ⟨_, rfl, rfl⟩, lwi_X4_part, lws_X4_part, dL_law_913⟩) (fun H2 locs2 h2 => ?_)
  obtain ⟨hP, hD, hS, -⟩ := h2
  refine W.lcmp hx hb dL_law_916 ?_
  refine lv_if_eq (tgt := 1028) hx hb dL_law_917 (by decide) (fun _ => ?_) (fun h => absurd (lcmp_self r) h)
  exact kk u2 z2 _ _ ⟨hP, hD, hS, hl, C2, D2, G2⟩
set_option maxHeartbeats 4000000 in
set_option maxRecDepth 100000 in
theorem lc_29 (C : LC dC dI dA ad aV p s m c b L xs) (S : LSt dC dI dA ad s b i u z H locs ls) (hi : i + 6 ≤ L) (kk : ∀ (u2 : Sg) (z2 : Zs) (H2 : Heap) (locs2 : List Loc), LSt dC dI dA ad s b i u2 z2 H2 locs2 ls → W p l e room_1 s m #[Value.ref b] below meth c H2 locs2 63 2138 Q (F0 m 1028 ls [])) : W p l e room_1 s m #[Value.ref b] below meth c H locs 63 2138 Q (F0 m 922 ls []) := by
  obtain ⟨hx, hb, hml, hown, htg, hK, hR1, hR2, hT, hA⟩ := C.1
  obtain ⟨hP, hD, hS, hl, CI, MI, G⟩ := S
  obtain ⟨r, u1, u2, z2, M1, M2, C2, D2, G2⟩ := sim_i l MI (dB := mdX3_image) (dM := mdX4_image) (As := [.int (xs (i + 1))]) (s_image CI G (xs (i + 1))) rfl rfl mkX3_image mkX4_image (Nat.le_of_ble_eq_true rfl) (Nat.le_of_ble_eq_true rfl)
  have hv : lv_has ls 4 (asl ad 0 [none, some (.ref 0), some (.ref 41), some (.int (nI i))]) := lv_sub hl [1, 2, 3] rfl
  refine lv_aload_n hx hb dL_law_922 rfl (lv_at hl 1 rfl) ?_
  refine l_arg C hS hl (k := 1) (by omega) rfl dL_law_923 dL_law_924 dL_law_925 dL_law_926 dL_law_927 ?_
  refine callW (As := [.ref 0, .int (xs (i + 1))]) (S' := []) (L := [none, some (.ref 0), some (.ref 41), some (.int (nI i))]) (rc := 2) C.1 ⟨hP, hD, hS, hv⟩ mkX3_image (Nat.le_of_ble_eq_true rfl) (Nat.le_of_ble_eq_true rfl) lwl_135 M1 rfl (Nat.le_of_ble_eq_true rfl) (Nat.le_of_ble_eq_true rfl) (Nat.le_of_ble_eq_true rfl) (Or.inl ⟨rfl, by decide, ⟨_, rfl, rfl⟩, lwi_X3_image, lws_X3_image, dL_law_928⟩) (fun H1 locs1 h1 => ?_)
  obtain ⟨hP, hD, hS, -⟩ := h1
  refine lv_aload_n hx hb dL_law_931 rfl (lv_at hl 2 rfl) ?_
  refine l_arg C hS hl (k := 1) (by omega) rfl dL_law_932 dL_law_933 dL_law_934 dL_law_935 dL_law_936 ?_
  refine callW (As := [.ref 41, .int (xs (i + 1))]) (S' := [.int r]) (L := [none, some (.ref 0), some (.ref 41), some (.int (nI i))]) (rc := 3) C.1 ⟨hP, hD, hS, hv⟩ mkX4_image (Nat.le_of_ble_eq_true rfl) (Nat.le_of_ble_eq_true rfl) lwl_138 M2 rfl (Nat.le_of_ble_eq_true rfl) (Nat.le_of_ble_eq_true rfl) (Nat.le_of_ble_eq_true rfl) (Or.inl ⟨rfl, by decide, ⟨_, rfl, rfl⟩, lwi_X4_image, lws_X4_image, dL_law_937⟩) (fun H2 locs2 h2 => ?_)
  obtain ⟨hP, hD, hS, -⟩ := h2
  refine lv_icmp_eq (tgt := 1028) hx hb dL_law_940 (by decide) (fun _ => ?_) (fun h => absurd rfl h)
  exact kk u2 z2 _ _ ⟨hP, hD, hS, hl, C2, D2, G2⟩
set_option maxHeartbeats 4000000 in
set_option maxRecDepth 100000 in
theorem lc_30 (C : LC dC dI dA ad aV p s m c b L xs) (S : LSt dC dI dA ad s b i u z H locs ls) (hi : i + 6 ≤ L) (kk : ∀ (u2 : Sg) (z2 : Zs) (H2 : Heap) (locs2 : List Loc), LSt dC dI dA ad s b i u2 z2 H2 locs2 ls → W p l e room_1 s m #[Value.ref b] below meth c H2 locs2 63 2138 Q (F0 m 1028 ls [])) : W p l e room_1 s m #[Value.ref b] below meth c H locs 63 2138 Q (F0 m 945 ls []) := by
  obtain ⟨hx, hb, hml, hown, htg, hK, hR1, hR2, hT, hA⟩ := C.1
  obtain ⟨hP, hD, hS, hl, CI, MI, G⟩ := S
  obtain ⟨r, u1, u2, z2, M1, M2, C2, D2, G2⟩ := sim_i l MI (dB := mdX3_from) (dM := mdX4_from) (As := [.int (xs (i + 1))]) (s_from CI G (xs (i + 1))) rfl rfl mkX3_from mkX4_from (Nat.le_of_ble_eq_true rfl) (Nat.le_of_ble_eq_true rfl)
  have hv : lv_has ls 4 (asl ad 0 [none, some (.ref 0), some (.ref 41), some (.int (nI i))]) := lv_sub hl [1, 2, 3] rfl
  refine lv_aload_n hx hb dL_law_945 rfl (lv_at hl 1 rfl) ?_
  refine l_arg C hS hl (k := 1) (by omega) rfl dL_law_946 dL_law_947 dL_law_948 dL_law_949 dL_law_950 ?_
  refine callW (As := [.ref 0, .int (xs (i + 1))]) (S' := []) (L := [none, some (.ref 0), some (.ref 41), some (.int (nI i))]) (rc := 2) C.1 ⟨hP, hD, hS, hv⟩ mkX3_from (Nat.le_of_ble_eq_true rfl) (Nat.le_of_ble_eq_true rfl) lwl_139 M1 rfl (Nat.le_of_ble_eq_true rfl) (Nat.le_of_ble_eq_true rfl) (Nat.le_of_ble_eq_true rfl) (Or.inl ⟨rfl, by decide, ⟨_, rfl, rfl⟩, lwi_X3_from, lws_X3_from, dL_law_951⟩) (fun H1 locs1 h1 => ?_)
  obtain ⟨hP, hD, hS, -⟩ := h1
  refine lv_aload_n hx hb dL_law_954 rfl (lv_at hl 2 rfl) ?_
  refine l_arg C hS hl (k := 1) (by omega) rfl dL_law_955 dL_law_956 dL_law_957 dL_law_958 dL_law_959 ?_
  refine callW (As := [.ref 41, .int (xs (i + 1))]) (S' := [.int r]) (L := [none, some (.ref 0), some (.ref 41), some (.int (nI i))]) (rc := 3) C.1 ⟨hP, hD, hS, hv⟩ mkX4_from (Nat.le_of_ble_eq_true rfl) (Nat.le_of_ble_eq_true rfl) lwl_142 M2 rfl (Nat.le_of_ble_eq_true rfl) (Nat.le_of_ble_eq_true rfl) (Nat.le_of_ble_eq_true rfl) (Or.inl ⟨rfl, by decide, ⟨_, rfl, rfl⟩, lwi_X4_from, lws_X4_from, dL_law_960⟩) (fun H2 locs2 h2 => ?_)
  obtain ⟨hP, hD, hS, -⟩ := h2
  refine lv_icmp_eq (tgt := 1028) hx hb dL_law_963 (by decide) (fun _ => ?_) (fun h => absurd rfl h)
  exact kk u2 z2 _ _ ⟨hP, hD, hS, hl, C2, D2, G2⟩
set_option maxHeartbeats 4000000 in
set_option maxRecDepth 100000 in
theorem lc_31 (C : LC dC dI dA ad aV p s m c b L xs) (S : LSt dC dI dA ad s b i u z H locs ls) (hi : i + 6 ≤ L) (kk : ∀ (u2 : Sg) (z2 : Zs) (H2 : Heap) (locs2 : List Loc), LSt dC dI dA ad s b i u2 z2 H2 locs2 ls → W p l e room_1 s m #[Value.ref b] below meth c H2 locs2 63 2138 Q (F0 m 1028 ls [])) : W p l e room_1 s m #[Value.ref b] below meth c H locs 63 2138 Q (F0 m 968 ls []) := by
  obtain ⟨hx, hb, hml, hown, htg, hK, hR1, hR2, hT, hA⟩ := C.1
  obtain ⟨hP, hD, hS, hl, CI, MI, G⟩ := S
  obtain ⟨r, u1, u2, z2, M1, M2, C2, D2, G2⟩ := sim_i l MI (dB := mdX3_status) (dM := mdX4_status) (As := [.int (xs (i + 1))]) (s_status CI G (xs (i + 1))) rfl rfl mkX3_status mkX4_status (Nat.le_of_ble_eq_true rfl) (Nat.le_of_ble_eq_true rfl)
  have hv : lv_has ls 4 (asl ad 0 [none, some (.ref 0), some (.ref 41), some (.int (nI i))]) := lv_sub hl [1, 2, 3] rfl
  refine lv_aload_n hx hb dL_law_968 rfl (lv_at hl 1 rfl) ?_
  refine l_arg C hS hl (k := 1) (by omega) rfl dL_law_969 dL_law_970 dL_law_971 dL_law_972 dL_law_973 ?_
  refine callW (As := [.ref 0, .int (xs (i + 1))]) (S' := []) (L := [none, some (.ref 0), some (.ref 41), some (.int (nI i))]) (rc := 2) C.1 ⟨hP, hD, hS, hv⟩ mkX3_status (Nat.le_of_ble_eq_true rfl) (Nat.le_of_ble_eq_true rfl) lwl_143 M1 rfl (Nat.le_of_ble_eq_true rfl) (Nat.le_of_ble_eq_true rfl) (Nat.le_of_ble_eq_true rfl) (Or.inl ⟨rfl, by decide, ⟨_, rfl, rfl⟩, lwi_X3_status, lws_X3_status, dL_law_974⟩) (fun H1 locs1 h1 => ?_)
  obtain ⟨hP, hD, hS, -⟩ := h1
  refine lv_aload_n hx hb dL_law_977 rfl (lv_at hl 2 rfl) ?_
  refine l_arg C hS hl (k := 1) (by omega) rfl dL_law_978 dL_law_979 dL_law_980 dL_law_981 dL_law_982 ?_
  refine callW (As := [.ref 41, .int (xs (i + 1))]) (S' := [.int r]) (L := [none, some (.ref 0), some (.ref 41), some (.int (nI i))]) (rc := 3) C.1 ⟨hP, hD, hS, hv⟩ mkX4_status (Nat.le_of_ble_eq_true rfl) (Nat.le_of_ble_eq_true rfl) lwl_146 M2 rfl (Nat.le_of_ble_eq_true rfl) (Nat.le_of_ble_eq_true rfl) (Nat.le_of_ble_eq_true rfl) (Or.inl ⟨rfl, by decide, ⟨_, rfl, rfl⟩, lwi_X4_status, lws_X4_status, dL_law_983⟩) (fun H2 locs2 h2 => ?_)
  obtain ⟨hP, hD, hS, -⟩ := h2
  refine lv_icmp_eq (tgt := 1028) hx hb dL_law_986 (by decide) (fun _ => ?_) (fun h => absurd rfl h)
  exact kk u2 z2 _ _ ⟨hP, hD, hS, hl, C2, D2, G2⟩
set_option maxHeartbeats 4000000 in
set_option maxRecDepth 100000 in
theorem lc_32 (C : LC dC dI dA ad aV p s m c b L xs) (S : LSt dC dI dA ad s b i u z H locs ls) (hi : i + 6 ≤ L) (kk : ∀ (u2 : Sg) (z2 : Zs) (H2 : Heap) (locs2 : List Loc), LSt dC dI dA ad s b i u2 z2 H2 locs2 ls → W p l e room_1 s m #[Value.ref b] below meth c H2 locs2 63 2138 Q (F0 m 1028 ls [])) : W p l e room_1 s m #[Value.ref b] below meth c H locs 63 2138 Q (F0 m 991 ls []) := by
  obtain ⟨hx, hb, hml, hown, htg, hK, hR1, hR2, hT, hA⟩ := C.1
  obtain ⟨hP, hD, hS, hl, CI, MI, G⟩ := S
  obtain ⟨r, u1, u2, z2, M1, M2, C2, D2, G2⟩ := sim_i l MI (dB := mdX3_count) (dM := mdX4_count) (As := [.int (xs (i + 1))]) (s_count CI G (xs (i + 1))) rfl rfl mkX3_count mkX4_count (Nat.le_of_ble_eq_true rfl) (Nat.le_of_ble_eq_true rfl)
  have hv : lv_has ls 4 (asl ad 0 [none, some (.ref 0), some (.ref 41), some (.int (nI i))]) := lv_sub hl [1, 2, 3] rfl
  refine lv_aload_n hx hb dL_law_991 rfl (lv_at hl 1 rfl) ?_
  refine l_arg C hS hl (k := 1) (by omega) rfl dL_law_992 dL_law_993 dL_law_994 dL_law_995 dL_law_996 ?_
  refine callW (As := [.ref 0, .int (xs (i + 1))]) (S' := []) (L := [none, some (.ref 0), some (.ref 41), some (.int (nI i))]) (rc := 2) C.1 ⟨hP, hD, hS, hv⟩ mkX3_count (Nat.le_of_ble_eq_true rfl) (Nat.le_of_ble_eq_true rfl) lwl_147 M1 rfl (Nat.le_of_ble_eq_true rfl) (Nat.le_of_ble_eq_true rfl) (Nat.le_of_ble_eq_true rfl) (Or.inl ⟨rfl, by decide, ⟨_, rfl, rfl⟩, lwi_X3_count, lws_X3_count, dL_law_997⟩) (fun H1 locs1 h1 => ?_)
  obtain ⟨hP, hD, hS, -⟩ := h1
  refine lv_aload_n hx hb dL_law_1000 rfl (lv_at hl 2 rfl) ?_
  refine l_arg C hS hl (k := 1) (by omega) rfl dL_law_1001 dL_law_1002 dL_law_1003 dL_law_1004 dL_law_1005 ?_
  refine callW (As := [.ref 41, .int (xs (i + 1))]) (S' := [.int r]) (L := [none, some (.ref 0), some (.ref 41), some (.int (nI i))]) (rc := 3) C.1 ⟨hP, hD, hS, hv⟩ mkX4_count (Nat.le_of_ble_eq_true rfl) (Nat.le_of_ble_eq_true rfl) lwl_150 M2 rfl (Nat.le_of_ble_eq_true rfl) (Nat.le_of_ble_eq_true rfl) (Nat.le_of_ble_eq_true rfl) (Or.inl ⟨rfl, by decide, ⟨_, rfl, rfl⟩, lwi_X4_count, lws_X4_count, dL_law_1006⟩) (fun H2 locs2 h2 => ?_)
  obtain ⟨hP, hD, hS, -⟩ := h2
  refine lv_icmp_eq (tgt := 1028) hx hb dL_law_1009 (by decide) (fun _ => ?_) (fun h => absurd rfl h)
  exact kk u2 z2 _ _ ⟨hP, hD, hS, hl, C2, D2, G2⟩
set_option maxHeartbeats 4000000 in
set_option maxRecDepth 100000 in
theorem lc_33 (C : LC dC dI dA ad aV p s m c b L xs) (S : LSt dC dI dA ad s b i u z H locs ls) (hi : i + 6 ≤ L) (kk : ∀ (u2 : Sg) (z2 : Zs) (H2 : Heap) (locs2 : List Loc), LSt dC dI dA ad s b i u2 z2 H2 locs2 ls → W p l e room_1 s m #[Value.ref b] below meth c H2 locs2 63 2138 Q (F0 m 1028 ls [])) : W p l e room_1 s m #[Value.ref b] below meth c H locs 63 2138 Q (F0 m 1014 ls []) := by
  obtain ⟨hx, hb, hml, hown, htg, hK, hR1, hR2, hT, hA⟩ := C.1
  obtain ⟨hP, hD, hS, hl, CI, MI, G⟩ := S
  obtain ⟨r, u1, u2, z2, M1, M2, C2, D2, G2⟩ := sim_l l MI (dB := mdX3_digest) (dM := mdX4_digest) (As := []) (s_digest CI G) rfl rfl mkX3_digest mkX4_digest (Nat.le_of_ble_eq_true rfl) (Nat.le_of_ble_eq_true rfl)
  have hv : lv_has ls 4 (asl ad 0 [none, some (.ref 0), some (.ref 41), some (.int (nI i))]) := lv_sub hl [1, 2, 3] rfl
  refine lv_aload_n hx hb dL_law_1014 rfl (lv_at hl 1 rfl) ?_
  refine callW (As := [.ref 0]) (S' := []) (L := [none, some (.ref 0), some (.ref 41), some (.int (nI i))]) (rc := 2) C.1 ⟨hP, hD, hS, hv⟩ mkX3_digest (Nat.le_of_ble_eq_true rfl) (Nat.le_of_ble_eq_true rfl) lwl_151 M1 rfl (Nat.le_of_ble_eq_true rfl) (Nat.le_of_ble_eq_true rfl) (Nat.le_of_ble_eq_true rfl) (Or.inl ⟨rfl, by decide, ⟨_, rfl, rfl⟩, lwi_X3_digest, lws_X3_digest, dL_law_1015⟩) (fun H1 locs1 h1 => ?_)
  obtain ⟨hP, hD, hS, -⟩ := h1
  refine lv_aload_n hx hb dL_law_1018 rfl (lv_at hl 2 rfl) ?_
  refine callW (As := [.ref 41]) (S' := [.long r]) (L := [none, some (.ref 0), some (.ref 41), some (.int (nI i))]) (rc := 3) C.1 ⟨hP, hD, hS, hv⟩ mkX4_digest (Nat.le_of_ble_eq_true rfl) (Nat.le_of_ble_eq_true rfl) lwl_155 M2 rfl (Nat.le_of_ble_eq_true rfl) (Nat.le_of_ble_eq_true rfl) (Nat.le_of_ble_eq_true rfl) (Or.inl ⟨rfl, by decide, ⟨_, rfl, rfl⟩, lwi_X4_digest, lws_X4_digest, dL_law_1019⟩) (fun H2 locs2 h2 => ?_)
  obtain ⟨hP, hD, hS, -⟩ := h2
  refine W.lcmp hx hb dL_law_1022 ?_
  refine lv_if_eq (tgt := 1028) hx hb dL_law_1023 (by decide) (fun _ => ?_) (fun h => absurd (lcmp_self r) h)
  exact kk u2 z2 _ _ ⟨hP, hD, hS, hl, C2, D2, G2⟩
end LAW
