/-! ===== a run of the small machine is a run of the machine ===== -/
/-- a method: name, code, locals, answer, frames and locals' words that it needs -/
abbrev MD : Type := MethodName × ByteArray × Nat × Option FieldType × Nat × Nat
def RetOK (d : MD) (pc k : Nat) : Prop :=
  (k = 0 ∧ d.2.2.2.1 = none ∧ decode d.2.1 pc = .ok (.return_, 1)) ∨ (k = 1 ∧ d.2.2.2.1 = some .int ∧ decode d.2.1 pc = .ok (.ireturn, 1)) ∨ (k = 2 ∧ d.2.2.2.1 = some .long ∧ decode d.2.1 pc = .ok (.lreturn, 1)) ∨ (k = 3 ∧ d.2.2.2.1 = some .boolean ∧ decode d.2.1 pc = .ok (.ireturn, 1))
abbrev wsD (d : MD) : List Cond := Cond.code d.1 d.2.1 d.2.2.1 d.2.2.2.1 :: gtb
/-- what is known of a method -/
def MDok (d : MD) (n : Nat) : Prop := plainName d.1.cls = true ∧ Cond.code d.1 d.2.1 d.2.2.1 d.2.2.2.1 ∈ gtb ∧ Cond.initialized d.1.cls ∈ gtb ∧ (d.1.cls ≠ "java/lang/invoke/MethodHandle" ∧ d.1.cls ≠ "java/lang/invoke/VarHandle" ∧ (parseMethodDescriptor d.1.desc).map (fun x => x.parameters.length) = some n)
def CallOK (I : Nat → Option MD) (d : MD) (pc y na mx rc : Nat) : Prop := ∃ (d' : MD) (idx n : Nat), I y = some d' ∧ MDok d' n ∧ d'.2.2.1 = mx ∧ d'.2.2.2.2.1 + 1 ≤ d.2.2.2.2.1 ∧ 8 + (mx + 11) + d'.2.2.2.2.2 ≤ d.2.2.2.2.2 ∧ Cond.methodLink d.1.cls idx d'.1 ∈ gtb ∧
  ((na = n + 1 ∧ rc < 4 ∧ (∃ q, vwCl[rc]? = some q ∧ q.1 = d'.1.cls) ∧ Cond.instanceMethod d'.1 ∈ gtb ∧ Cond.selects d'.1.cls d'.1 d'.1 ∈ gtb ∧ decode d.2.1 pc = .ok (.invokevirtual idx, 3)) ∨ (na = n ∧ Cond.static d'.1 ∈ gtb ∧ decode d.2.1 pc = .ok (.invokestatic idx, 3)))
def AIok (I : Nat → Option MD) (d : MD) (pc : Nat) : AI → Prop
  | .inl f => SndI d.1.cls d.2.1 d.2.2.1 d.2.2.2.2.1 d.2.2.2.2.2 pc f
  | .inr (.inl k) => RetOK d pc k
  | .inr (.inr (y, na, mx, rc)) => CallOK I d pc y na mx rc
/-- what an answer may be -/
def isR (r : Option Value) : Prop := r = none ∨ (∃ v, r = some (.int v)) ∨ ∃ v, r = some (.long v)
theorem isR_map {r : Option Value} (h : isR r) (ad : Nat → Nat) : r.toList.map (cvv ad) = r.toList := by
  rcases h with rfl | ⟨v, rfl⟩ | ⟨v, rfl⟩ <;> rfl
theorem rn_isR (P : PT) : ∀ (n m : Nat) (st : St) (r : Option Value) (u : Sg), rn P n m st = some (r, u) → isR r
  | 0, m, st, r, u, h => by simp [rn] at h
  | n + 1, m, st, r, u, h => by
    rw [rn] at h
    cases hp : P m st.1 with
    | none => rw [hp] at h; cases h
    | some a =>
      rw [hp] at h
      rcases a with f | k | ⟨y, na, mx, rc⟩
      · dsimp only at h
        cases hf : f st with
        | none => rw [hf] at h; cases h
        | some st' => rw [hf] at h; exact rn_isR P n m st' r u h
      · dsimp only at h
        split at h
        · cases h; exact Or.inl rfl
        · cases h; exact Or.inr (Or.inl ⟨_, rfl⟩)
        · cases h; exact Or.inr (Or.inr ⟨_, rfl⟩)
        · split at h
          · cases h; exact Or.inr (Or.inl ⟨_, rfl⟩)
          · cases h
        · cases h
      · dsimp only at h
        split at h
        · cases h
        · exact rn_isR P n m _ r u h
def RetAt (d : MD) (pc : Nat) (r : Option Value) : Prop :=
  (r = none ∧ d.2.2.2.1 = none ∧ decode d.2.1 pc = .ok (.return_, 1)) ∨ (∃ (v : Int32) (ty : FieldType), r = some (.int v) ∧ d.2.2.2.1 = some ty ∧ narrow ty (.int v) = .int v ∧ decode d.2.1 pc = .ok (.ireturn, 1)) ∨ (∃ v : Int64, r = some (.long v) ∧ d.2.2.2.1 = some .long ∧ decode d.2.1 pc = .ok (.lreturn, 1))
def Pre (dC : Nat → ClassId) (dI : Nat → Nat → Nat) (dA : Nat → ClassId) (ad aV : Nat → Nat) (sz : Nat) (u : Sg) : State → Prop := fun U => U.heap.size = sz ∧ va_P (dC, dI) vwCl (wor dA ad u) U.heap ∧ va_K (dC, dI) vwCl (tyA dA) U ∧ va_D (fun _ => True) (wor dA ad u) ∧ Tx ad aV (AA ad sz) U U.heap
def QcR (dC : Nat → ClassId) (dI : Nat → Nat → Nat) (dA : Nat → ClassId) (ad : Nat → Nat) (sz : Nat) (r : Option Value) (u1 : Sg) : Array Value → State → Outcome → State → Prop := fun _ st oc t => oc = .returned r ∧ va_P (dC, dI) vwCl (wor dA ad u1) t.heap ∧ va_F (AA ad sz) st t
/-- the method's contract out of a run -/
def MetR (l : Launch) (d : MD) (As : List Value) (u : Sg) (r : Option Value) (u1 : Sg) : Prop :=
  ∀ (dC : Nat → ClassId) (dI : Nat → Nat → Nat) (dA : Nat → ClassId) (ad aV : Nat → Nat) (sz : Nat), Met l d.1 (wsD d) { frames := d.2.2.2.2.1, cells := 0, slots := 0, locals := d.2.2.2.2.2 } (va_Pc (As.map (cvv ad)) (Pre dC dI dA ad aV sz u)) (QcR dC dI dA ad sz r u1) 0 0 (AA ad sz)
/-- from a state of a method on -/
def BodyR (l : Launch) (d : MD) (st : St) (r : Option Value) (u1 : Sg) : Prop :=
  ∀ (dC : Nat → ClassId) (dI : Nat → Nat → Nat) (dA : Nat → ClassId) (ad aV : Nat → Nat) (A : Nat → Prop) (p : Program) (e : Env) (R : Room) (s : State) (m : MethodId) (args : Array Value) (below : List Frame) (meth : Method) (c : Code) (H : Heap) (locs : List Loc) (ls : Array Slot) (Q : State → Prop),
    Cx dC dI dA ad aV A p R s m args c d.1.cls d.2.1 d.2.2.1 d.2.2.2.2.1 d.2.2.2.2.2 → Hd dC dI dA ad A s.heap d.2.2.1 st.2.1 st.2.2.2 H locs ls →
    (∀ (H1 : Heap) (locs1 : List Loc) (ls1 : Array Slot) (pc1 : Nat), va_P (dC, dI) vwCl (wor dA ad u1) H1 → va_D A (wor dA ad u1) → va_S A s.heap H1 locs1 → RetAt d pc1 r → W p l e R s m args below meth c H1 locs1 0 0 Q (F0 m pc1 ls1 r.toList)) →
    W p l e R s m args below meth c H locs 0 0 Q (F0 m st.1 ls (st.2.2.1.map (cvv ad)))
theorem slc_app : ∀ (a b : List Value), slc (a ++ b) = slc a + slc b
  | [], b => by simp [slc]
  | v :: t, b => by simp [slc, slc_app t b]; omega
theorem slc_rev : ∀ (a : List Value), slc a.reverse = slc a
  | [] => rfl
  | v :: t => by simp [slc, slc_app, slc_rev t]; omega
theorem lg_sl_len (ad : Nat → Nat) : ∀ (a : List Value), (lg_sl (a.map (cvv ad))).length = slc a
  | [] => rfl
  | v :: t => by
    have h := lg_sl_len ad t
    have e : lg_sl ((v :: t).map (cvv ad)) = (if (cvv ad v).category = 2 then [.val (cvv ad v), .second] else [.val (cvv ad v)]) ++ lg_sl (t.map (cvv ad)) := by simp [lg_sl]
    rw [e, List.length_append, h, slc, cvv_cat]
    rcases lv_cat v with hc | hc
    · rw [hc]; rfl
    · rw [hc]; rfl
theorem asl_none (ad : Nat → Nat) : ∀ (n i : Nat), asl ad i (List.replicate n none) = []
  | 0, _ => rfl
  | n + 1, i => by rw [List.replicate_succ, asl, asl_none ad n]
theorem ent_args (ad : Nat → Nat) : ∀ (As : List Value) (n i : Nat) (q : Nat × Value), q ∈ asl ad i (ent n As) → q ∈ lv_args i (As.map (cvv ad))
  | [], n, i, q, h => by
    have : ent n [] = List.replicate n none := by cases n <;> rfl
    rw [this, asl_none] at h
    cases h
  | v :: t, 0, i, q, h => by simp [ent, asl] at h
  | .long x :: t, 1, i, q, h => by
    have h : q ∈ [(i, Value.long x)] := h
    rw [List.map_cons, lv_args]
    rw [List.mem_singleton] at h
    rw [h]
    exact List.mem_cons_self
  | .long x :: t, n + 2, i, q, h => by
    have h : q ∈ (i, Value.long x) :: asl ad (i + 2) (ent n t) := h
    rw [List.map_cons, lv_args]
    rcases List.mem_cons.mp h with h | h
    · rw [h]; exact List.mem_cons_self
    · exact List.mem_cons_of_mem _ (ent_args ad t n (i + 2) q h)
  | .double x :: t, 1, i, q, h => by
    have h : q ∈ [(i, Value.double x)] := h
    rw [List.map_cons, lv_args]
    rw [List.mem_singleton] at h
    rw [h]
    exact List.mem_cons_self
  | .double x :: t, n + 2, i, q, h => by
    have h : q ∈ (i, Value.double x) :: asl ad (i + 2) (ent n t) := h
    rw [List.map_cons, lv_args]
    rcases List.mem_cons.mp h with h | h
    · rw [h]; exact List.mem_cons_self
    · exact List.mem_cons_of_mem _ (ent_args ad t n (i + 2) q h)
  | .int x :: t, n + 1, i, q, h => by
    have h : q ∈ (i, Value.int x) :: asl ad (i + 1) (ent n t) := h
    rw [List.map_cons, lv_args]
    rcases List.mem_cons.mp h with h | h
    · rw [h]; exact List.mem_cons_self
    · exact List.mem_cons_of_mem _ (ent_args ad t n (i + 1) q h)
  | .ref x :: t, n + 1, i, q, h => by
    have h : q ∈ (i, Value.ref (ad x)) :: asl ad (i + 1) (ent n t) := h
    rw [List.map_cons, lv_args]
    rcases List.mem_cons.mp h with h | h
    · rw [h]; exact List.mem_cons_self
    · exact List.mem_cons_of_mem _ (ent_args ad t n (i + 1) q h)
  | .null :: t, n + 1, i, q, h => by
    have h : q ∈ (i, Value.null) :: asl ad (i + 1) (ent n t) := h
    rw [List.map_cons, lv_args]
    rcases List.mem_cons.mp h with h | h
    · rw [h]; exact List.mem_cons_self
    · exact List.mem_cons_of_mem _ (ent_args ad t n (i + 1) q h)
  | .float x :: t, n + 1, i, q, h => by
    have h : q ∈ (i, Value.float x) :: asl ad (i + 1) (ent n t) := h
    rw [List.map_cons, lv_args]
    rcases List.mem_cons.mp h with h | h
    · rw [h]; exact List.mem_cons_self
    · exact List.mem_cons_of_mem _ (ent_args ad t n (i + 1) q h)
  | .retAddr x :: t, n + 1, i, q, h => by
    have h : q ∈ (i, Value.retAddr x) :: asl ad (i + 1) (ent n t) := h
    rw [List.map_cons, lv_args]
    rcases List.mem_cons.mp h with h | h
    · rw [h]; exact List.mem_cons_self
    · exact List.mem_cons_of_mem _ (ent_args ad t n (i + 1) q h)

theorem met_of {l : Launch} {d : MD} {n : Nat} (hd : MDok d n) {As : List Value} {u : Sg} {r : Option Value} {u1 : Sg} (hs : slc As ≤ d.2.2.1) (hb : BodyR l d (0, ent d.2.2.1 As, [], u) r u1) : MetR l d As u r u1 := by
  intro dC dI dA ad aV sz
  refine Met.ofW (cc := d.2.1) (maxL := d.2.2.1) (ret := d.2.2.2.1) hd.1 rfl ?_
  intro p e s m args below meth c s₁ B hml hv
  obtain ⟨rfl, hsz, hP, hK, hD0, hT⟩ := hv
  have hts := atoms_spec (ws := wsD d) B.pre
  have hown : s.vm.findClass d.1.cls = some m.cls := findClass_of_methodNamed B.named
  subst hsz
  have hl := lv_entry (As.map (cvv ad)) (n := d.2.2.1) (by rw [lg_sl_len]; exact hs)
  rw [lg_entry_eq]
  refine hb dC dI dA ad aV (AA ad s.heap.size) p e _ s m _ below meth c s.heap [] _ _ ⟨B.exec, B.bytes, hml, hown, fun w hw => hts w (List.mem_cons_of_mem _ hw), hK, Nat.le_refl _, Nat.le_refl _, hT, fun q hq => Or.inr hq⟩ ⟨hP, ⟨hD0.1, fun k q hq => ?_⟩, va_S.rf, lv_mono hl (fun q hq => ent_args ad As _ 0 q hq)⟩ ?_
  · obtain ⟨h1, rfl⟩ := wor_of hq
    exact Or.inl ⟨k, h1, rfl⟩
  · intro H1 locs1 ls1 pc1 hP1 hD1 hS1 hr
    have hlocks := B.notSynchronized
    have hret := B.returns
    rcases hr with ⟨rfl, h2, h3⟩ | ⟨v, ty, rfl, h2, h3, h4⟩ | ⟨v, rfl, h2, h3⟩
    · exact W.vret B.exec B.bytes (hret.trans h2) (fun t ht hW => ⟨rfl, by rw [ht]; exact hP1, hS1.F ht⟩) hS1.2.2 h3 hlocks
    · exact W.zret B.exec B.bytes (hret.trans h2) h3 (fun t ht hW => ⟨rfl, by rw [ht]; exact hP1, hS1.F ht⟩) hS1.2.2 h4 hlocks
    · exact W.lret B.exec B.bytes (hret.trans h2) (fun t ht hW => ⟨rfl, by rw [ht]; exact hP1, hS1.F ht⟩) hS1.2.2 h3 hlocks
theorem good_tbl : ∀ w ∈ gtb, w ∈ gtb ∧ ((w.onTables && w.keeps) = true ∨ ∃ ty, w = .arrayClass ty) := by
  exact fun w hw => ⟨hw, good_of_word (List.mem_filter.mp hw).2⟩
theorem good_wsD {d : MD} {n : Nat} (hd : MDok d n) : GoodIn gtb (wsD d) := by
  intro w hw
  rcases List.mem_cons.mp hw with rfl | hw
  · exact good_tbl _ hd.2.1
  · exact good_tbl w hw
section CALLR
variable {p : Program} {l : Launch} {e : Env} {R : Room} {s : State} {m : MethodId} {args : Array Value} {below : List Frame} {meth : Method} {c : Code} {H : Heap} {locs : List Loc} {cells slots : Nat} {Q : State → Prop}
theorem callR {dC : Nat → ClassId} {dI : Nat → Nat → Nat} {dA : Nat → ClassId} {ad : Nat → Nat} {sz : Nat} {r : Option Value} {u1 : Sg} {A : Nat → Prop} {a : Array Value} {pc : Nat} {ls : Array Slot} {st0 rest : List Value} (hr : va_Run p l e R s m args below meth c H locs cells slots 0 0 (F0 m pc ls st0) rest (QcR dC dI dA ad sz r u1 a) (AA ad sz)) (hS : va_S A s.heap H locs) (hA : ∀ q, AA ad sz q → A q)
    (kk : ∀ (H1 : Heap) (locs1 : List Loc), va_P (dC, dI) vwCl (wor dA ad u1) H1 → va_S A s.heap H1 locs1 → W p l e R s m args below meth c H1 locs1 cells slots Q (F0 m (pc + 3) ls (r.toList ++ rest))) : W p l e R s m args below meth c H locs cells slots Q (F0 m pc ls st0) := by
  intro T hT X
  obtain ⟨v, st₀, t, T', L, h0, X', hL, e1, e2, ⟨hv, hP1, hz, hk⟩, st⟩ := hr T hT X
  cases hv
  rw [h0] at hz hk
  obtain ⟨t2, a1, b1⟩ := kk T'.heap (locs ++ L) (by rw [e1]; exact hP1)
    ⟨Nat.le_trans hS.1 (by rw [e1]; exact hz), fun q h1 h2 => by rw [e1, hk q (Nat.lt_of_lt_of_le h1 hS.1) (fun z => h2 (hA q z))]; exact hS.2.1 q h1 h2, fun q hq => by
      rcases List.mem_append.mp hq with h | h
      · exact hS.2.2 q h
      · exact hA _ (hL q h)⟩ T' rfl X'
  exact ⟨t2, st t2 a1, b1⟩
theorem Pre_blind {dC : Nat → ClassId} {dI : Nat → Nat → Nat} {dA : Nat → ClassId} {ad aV : Nat → Nat} {sz : Nat} {u : Sg} {av : List Value} : FrameBlind (va_Pc av (Pre dC dI dA ad aV sz u)) :=
  fun a U g mk q => ⟨q.1, q.2.1, q.2.2.1, va_K.moved (u := U) (U := U.calling g mk a) (Vm.Alike.refl U.vm) q.2.2.2.1, q.2.2.2.2.1, Tx.same (u := U) (U := U.calling g mk a) rfl q.2.2.2.2.2⟩
theorem AA_in {dC : Nat → ClassId} {dI : Nat → Nat → Nat} {dA : Nat → ClassId} {ad : Nat → Nat} {A : Nat → Prop} {u : Sg} (hD : va_D A (wor dA ad u)) (hS : va_S A s.heap H locs) (hA : ∀ q, s.heap.size ≤ q → A q) : ∀ q, AA ad H.size q → A q := by
  intro q hq
  rcases hq with ⟨k, hk, rfl⟩ | hq
  · exact hD.2 k _ (wor_at dA ad u hk)
  · exact hA q (Nat.le_trans hS.1 hq)
/-- a call of a method that is proved: the words, the room, the world -/
theorem callW {dC : Nat → ClassId} {dI : Nat → Nat → Nat} {dA : Nat → ClassId} {ad aV : Nat → Nat} {A : Nat → Prop} {own : String} {cc : ByteArray} {mx fr lc : Nat} (C0 : Cx dC dI dA ad aV A p R s m args c own cc mx fr lc) {L : List (Option Value)} {u : Sg} {ls : Array Slot} (h0 : Hd dC dI dA ad A s.heap mx L u H locs ls) {d' : MD} {idx n rc : Nat} (hd : MDok d' n) (hfr : d'.2.2.2.2.1 + 1 ≤ fr) (hlc : 8 + (d'.2.2.1 + 11) + d'.2.2.2.2.2 ≤ lc) (hl : Cond.methodLink own idx d'.1 ∈ gtb) {As S' : List Value} {r : Option Value} {u1 : Sg} (hM : MetR l d' As u r u1) (hk : rck rc As = true) (hz : slc S' ≤ 8) {pc : Nat} (hc : cells ≤ R.cells) (hs : slots ≤ R.slots)
    (hw : (As.length = n + 1 ∧ rc < 4 ∧ (∃ q, vwCl[rc]? = some q ∧ q.1 = d'.1.cls) ∧ Cond.instanceMethod d'.1 ∈ gtb ∧ Cond.selects d'.1.cls d'.1 d'.1 ∈ gtb ∧ decode cc pc = .ok (.invokevirtual idx, 3)) ∨ (As.length = n ∧ Cond.static d'.1 ∈ gtb ∧ decode cc pc = .ok (.invokestatic idx, 3)))
    (kk : ∀ (H1 : Heap) (locs1 : List Loc), Hd dC dI dA ad A s.heap mx L u1 H1 locs1 ls → W p l e R s m args below meth c H1 locs1 cells slots Q (F0 m (pc + 3) ls (r.toList ++ S'.map (cvv ad)))) : W p l e R s m args below meth c H locs cells slots Q (F0 m pc ls ((As.map (cvv ad)).reverse ++ S'.map (cvv ad))) := by
  obtain ⟨hx, hb, hml, hown, hts, hK, hR1, hR2, hT, hA⟩ := C0
  obtain ⟨hP, hD, hS, hv⟩ := h0
  have hAA := AA_in (dC := dC) (dI := dI) hD hS hA
  have cb : CallB R s args own idx d'.1 d'.2.1 d'.2.2.1 d'.2.2.2.1 (wsD d') { frames := d'.2.2.2.2.1, cells := 0, slots := 0, locals := d'.2.2.2.2.2 } 0 0 n := callB_of n hts (good_wsD hd) rfl rfl rfl (hts _ hd.2.2.1) (hts _ hl) hd.2.2.2 ⟨Nat.le_trans hfr hR1, Nat.le_trans hlc hR2⟩
  have hpre : ∀ U : State, U.heap = H → s.WarmedH U.vm → Pre dC dI dA ad aV H.size u U := fun U hU hW => ⟨by rw [hU], by rw [hU]; exact hP, va_K.moved hW.alike hK, hD.weaken (fun _ _ _ _ => trivial), by rw [hU]; exact ((hT.kept hS.2.1).moved hW).narrow hAA⟩
  rcases hw with ⟨hn, hrc, ⟨q, hq1, hq2⟩, hi, hse, hdg⟩ | ⟨hn, hst, hdg⟩
  · match As, hM, hk, hn with
    | .ref b :: As, hM, hk, hn =>
      have hbc : lyC b = rc := by
        have : (Nat.beq (lyC b) rc || Nat.beq rc 9) = true := hk
        rcases Bool.or_eq_true_iff.mp this with h | h
        · exact beq_of h
        · have := beq_of h; omega
      have hrcv := va_recv (H := H) hK hP hq1 (wor_obj hbc hrc)
      rw [hq2] at hrcv
      refine callR (va_runV (As := As.map (cvv ad)) (rest := S'.map (cvv ad)) ⟨hx, hb, hml, hown, hts⟩ (hM dC dI dA ad aV H.size) ⟨cb, hts _ hi, hts _ hse⟩ ⟨Pre_blind, hrcv, fun U hU hW => ⟨rfl, hpre U hU hW⟩⟩ rfl (by rw [List.length_map]; simpa using hn) hv.1 (by simp [cvv]) (lv_room (by rw [slc_sum]; exact hz)) hdg ⟨hc, hs⟩) hS hAA (fun H1 locs1 hP1 hS1 => kk H1 locs1 ⟨hP1, wor_D hD, hS1, hv⟩)
    | .int _ :: _, _, hk, _ => exact absurd (beq_of hk) (by omega)
    | .long _ :: _, _, hk, _ => exact absurd (beq_of hk) (by omega)
    | .float _ :: _, _, hk, _ => exact absurd (beq_of hk) (by omega)
    | .double _ :: _, _, hk, _ => exact absurd (beq_of hk) (by omega)
    | .null :: _, _, hk, _ => exact absurd (beq_of hk) (by omega)
    | .retAddr _ :: _, _, hk, _ => exact absurd (beq_of hk) (by omega)
    | [], _, hk, _ => exact absurd (beq_of hk) (by omega)
  · exact callR (va_runS (As := As.map (cvv ad)) (rest := S'.map (cvv ad)) ⟨hx, hb, hml, hown, hts⟩ (hM dC dI dA ad aV H.size) ⟨cb, hts _ hst⟩ ⟨Pre_blind, fun U hU hW => ⟨rfl, hpre U hU hW⟩⟩ rfl (by rw [List.length_map]; exact hn) hv.1 rfl (lv_room (by rw [slc_sum]; exact hz)) hdg ⟨hc, hs⟩) hS hAA (fun H1 locs1 hP1 hS1 => kk H1 locs1 ⟨hP1, wor_D hD, hS1, hv⟩)
end CALLR
theorem body {P : PT} {I : Nat → Option MD} (l : Launch) (hT : ∀ m pc ai, P m pc = some ai → ∃ d, I m = some d ∧ AIok I d pc ai) : ∀ (n m : Nat) (d : MD) (st : St) (r : Option Value) (u1 : Sg), I m = some d → rn P n m st = some (r, u1) → BodyR l d st r u1
  | 0, m, d, st, r, u1, _, h => by simp [rn] at h
  | n + 1, m, d, st, r, u1, hI, h => by
    intro dC dI dA ad aV A p e R s m' args below meth c H locs ls Q C0 h0 hret
    obtain ⟨pc, L, S, u⟩ := st
    rw [rn] at h
    dsimp only at h h0 ⊢
    cases hp : P m pc with
    | none => rw [hp] at h; cases h
    | some a =>
      obtain ⟨d2, hI2, hok⟩ := hT m pc a hp
      rw [hI] at hI2
      cases hI2
      rw [hp] at h
      rcases a with f | k | ⟨y, na, mx, rc⟩
      · dsimp only at h
        cases hf : f (pc, L, S, u) with
        | none => rw [hf] at h; cases h
        | some st' =>
          rw [hf] at h
          exact hok dC dI dA ad aV A p l e R s m' args below meth c H locs ls L S u st' Q C0 h0 hf (fun H1 locs1 ls1 h1 => body l hT n m d st' r u1 hI h dC dI dA ad aV A p e R s m' args below meth c H1 locs1 ls1 Q C0 h1 hret)
      · dsimp only at h
        have hok : RetOK d pc k := hok
        split at h
        · cases h
          rcases hok with ⟨h1, h2, h3⟩ | ⟨h1, h2, h3⟩ | ⟨h1, h2, h3⟩ | ⟨h1, h2, h3⟩ <;> first | omega | skip
          exact hret H locs ls pc h0.1 h0.2.1 h0.2.2.1 (Or.inl ⟨rfl, h2, h3⟩)
        · cases h
          rcases hok with ⟨h1, h2, h3⟩ | ⟨h1, h2, h3⟩ | ⟨h1, h2, h3⟩ | ⟨h1, h2, h3⟩ <;> first | omega | skip
          exact hret H locs ls pc h0.1 h0.2.1 h0.2.2.1 (Or.inr (Or.inl ⟨_, _, rfl, h2, rfl, h3⟩))
        · cases h
          rcases hok with ⟨h1, h2, h3⟩ | ⟨h1, h2, h3⟩ | ⟨h1, h2, h3⟩ | ⟨h1, h2, h3⟩ <;> first | omega | skip
          exact hret H locs ls pc h0.1 h0.2.1 h0.2.2.1 (Or.inr (Or.inr ⟨_, rfl, h2, h3⟩))
        · split at h
          · rename_i hv
            cases h
            rcases hok with ⟨h1, h2, h3⟩ | ⟨h1, h2, h3⟩ | ⟨h1, h2, h3⟩ | ⟨h1, h2, h3⟩ <;> first | omega | skip
            exact hret H locs ls pc h0.1 h0.2.1 h0.2.2.1 (Or.inr (Or.inl ⟨_, _, rfl, h2, by rcases hv with rfl | rfl <;> rfl, h3⟩))
          · cases h
        · cases h
      · dsimp only at h
        obtain ⟨d', idx, k, hI', hd', hmx, hfr, hlc, hl, hw⟩ := hok
        cases hz : (Nat.ble na S.length && Nat.ble (slc (S.take na)) mx && Nat.ble (slc (S.drop na)) 8 && rck rc (S.take na).reverse) with
        | false => rw [hz] at h; cases h
        | true =>
          rw [hz] at h
          dsimp only [cond] at h
          simp only [Bool.and_eq_true] at hz
          obtain ⟨⟨⟨z1, z2⟩, z3⟩, z4⟩ := hz
          have z1 := Nat.le_of_ble_eq_true z1
          have z2 := Nat.le_of_ble_eq_true z2
          have z3 := Nat.le_of_ble_eq_true z3
          cases hc : rn P n y (0, ent mx (S.take na).reverse, [], u) with
          | none => rw [hc] at h; cases h
          | some q =>
            obtain ⟨r2, u2⟩ := q
            rw [hc] at h
            dsimp only at h
            subst hmx
            have hM : MetR l d' (S.take na).reverse u r2 u2 := met_of hd' (by rw [slc_rev]; exact z2) (body l hT n y d' _ r2 u2 hI' hc)
            have hlen : (S.take na).reverse.length = na := by rw [List.length_reverse, List.length_take]; omega
            have hst : S.map (cvv ad) = (((S.take na).reverse).map (cvv ad)).reverse ++ (S.drop na).map (cvv ad) := by
              rw [List.map_reverse, List.reverse_reverse, ← List.map_append, List.take_append_drop]
            rw [hst]
            refine callW C0 h0 hd' hfr hlc hl hM z4 z3 (Nat.zero_le _) (Nat.zero_le _) (by rw [hlen]; exact hw) (fun H1 locs1 h1 => ?_)
            have := body l hT n m d _ r u1 hI h dC dI dA ad aV A p e R s m' args below meth c H1 locs1 ls Q C0 h1 hret
            rw [List.map_append, isR_map (rn_isR P n y _ r2 u2 hc)] at this
            exact this
