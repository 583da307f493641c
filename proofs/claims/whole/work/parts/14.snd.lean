/-! ===== THE SMALL MACHINE IS THE MACHINE: instruction by instruction ===== -/
/-- the tables' words that a callee may have -/
def gtb : List Cond := lw_tbl.filter goodWord
theorem gtb_of {w : Cond} (h : w ∈ lw_tbl) (hg : goodWord w = true) : w ∈ gtb := List.mem_filter.mpr ⟨h, hg⟩
theorem gtb_in {w : Cond} (h : w ∈ gtb) : w ∈ lw_tbl := (List.mem_filter.mp h).1
def cvv (ad : Nat → Nat) : Value → Value
  | .ref k => .ref (ad k)
  | v => v
theorem cvv_cat (ad : Nat → Nat) (v : Value) : (cvv ad v).category = v.category := by cases v <;> rfl
abbrev tyA (dA : Nat → ClassId) : List (ClassId × FieldType) := [(dA 0, .int), (dA 1, .byte)]
/-- the fields of each kind of object: 0 an int, 1 a long, 2 the cell so many places on -/
def fks : Nat → List (Nat × Nat)
  | 0 => [(0,0),(0,0),(0,0),(0,0),(2,1),(2,2),(2,3),(2,4),(2,5),(2,6),(2,7),(2,8)]
  | 1 => [(2,1),(0,0),(0,0),(0,0),(0,0),(0,0)]
  | 2 => [(2,1),(2,10),(2,19),(2,28),(0,0),(0,0),(2,37),(2,39),(2,40),(1,0),(1,0),(0,0),(0,0),(0,0)]
  | _ => [(2,1),(0,0),(0,0),(0,0),(2,2),(2,3),(2,4),(2,5),(2,6),(2,7),(2,8),(2,9),(2,10),(2,11),(2,12),(2,13),(0,0),(0,0),(0,0),(2,14),(2,15),(0,0),(2,16),(0,0),(2,17),(2,18),(2,19),(1,0),(1,0),(2,20),(2,21),(1,0)]
def fv (ad : Nat → Nat) (u : Sg) (k j : Nat) (q : Nat × Nat) : Value := if q.1 = 0 then .int (gI u k j) else if q.1 = 1 then .long (gJ u k j) else .ref (ad (k + q.2))
def fld (ad : Nat → Nat) (u : Sg) (k : Nat) : Nat → List (Nat × Nat) → List Value
  | _, [] => []
  | j, q :: t => fv ad u k j q :: fld ad u k (j + 1) t
theorem fld_len (ad : Nat → Nat) (u : Sg) (k : Nat) : ∀ (t : List (Nat × Nat)) (j : Nat), (fld ad u k j t).length = t.length
  | [], _ => rfl
  | _ :: t, j => by simp [fld, fld_len ad u k t (j + 1)]
theorem fld_at (ad : Nat → Nat) (u : Sg) (k : Nat) : ∀ (t : List (Nat × Nat)) (j i : Nat) (q : Nat × Nat), t[i]? = some q → (fld ad u k j t)[i]? = some (fv ad u k (j + i) q)
  | [], _, _, _, h => by simp at h
  | a :: t, j, 0, q, h => by
    simp only [List.getElem?_cons_zero, Option.some.injEq] at h
    subst h
    rfl
  | a :: t, j, i + 1, q, h => by
    rw [List.getElem?_cons_succ] at h
    have := fld_at ad u k t (j + 1) i q h
    rw [show j + 1 + i = j + (i + 1) by omega] at this
    exact this
theorem fld_set {ad : Nat → Nat} {u u' : Sg} {k : Nat} {v : Value} : ∀ (t : List (Nat × Nat)) (j i : Nat), (∀ i' q, t[i']? = some q → i' ≠ i → fv ad u' k (j + i') q = fv ad u k (j + i') q) → (∀ q, t[i]? = some q → fv ad u' k (j + i) q = v) → fld ad u' k j t = (fld ad u k j t).set i v
  | [], _, _, _, _ => rfl
  | a :: t, j, 0, h1, h2 => by
    have e1 : fld ad u' k (j + 1) t = fld ad u k (j + 1) t := by
      have : ∀ (t : List (Nat × Nat)) (j : Nat), (∀ i' q, t[i']? = some q → fv ad u' k (j + i') q = fv ad u k (j + i') q) → fld ad u' k j t = fld ad u k j t := by
        intro t
        induction t with
        | nil => intro j _; rfl
        | cons b t ih =>
          intro j h
          have g := ih (j + 1) (fun i' q hq => by
            have := h (i' + 1) q (by rw [List.getElem?_cons_succ]; exact hq)
            rw [show j + (i' + 1) = j + 1 + i' by omega] at this
            exact this)
          have g0 := h 0 b rfl
          simp only [fld, g]
          rw [show j = j + 0 from rfl, g0]
      refine this t (j + 1) (fun i' q hq => ?_)
      have := h1 (i' + 1) q (by rw [List.getElem?_cons_succ]; exact hq) (by omega)
      rw [show j + (i' + 1) = j + 1 + i' by omega] at this
      exact this
    have e2 := h2 a rfl
    simp only [fld, e1, List.set_cons_zero]
    rw [show fv ad u' k j a = v from e2]
  | a :: t, j, i + 1, h1, h2 => by
    have g := fld_set (ad := ad) (u := u) (u' := u') (k := k) (v := v) t (j + 1) i (fun i' q hq hne => by
      have := h1 (i' + 1) q (by rw [List.getElem?_cons_succ]; exact hq) (by omega)
      rw [show j + (i' + 1) = j + 1 + i' by omega] at this
      exact this) (fun q hq => by
      have := h2 q (by rw [List.getElem?_cons_succ]; exact hq)
      rw [show j + (i + 1) = j + 1 + i by omega] at this
      exact this)
    have g0 : fv ad u' k j a = fv ad u k j a := h1 0 a rfl (by omega)
    simp only [fld, g, List.set_cons_succ, g0]
def wce (dA : Nat → ClassId) (ad : Nat → Nat) (u : Sg) (k : Nat) : va_E := if lyC k = 4 then .inl (dA 0, lyN k, .inl (gA u k)) else if lyC k = 5 then .inl (dA 1, lyN k, .inl (gA u k)) else .inr (lyC k, fld ad u k 0 (fks (lyC k)))
def wor (dA : Nat → ClassId) (ad : Nat → Nat) (u : Sg) : va_W := (List.range 63).map (fun k => (ad k, wce dA ad u k))
theorem wor_at (dA : Nat → ClassId) (ad : Nat → Nat) (u : Sg) {k : Nat} (h : k < 63) : (wor dA ad u)[k]? = some (ad k, wce dA ad u k) := by
  simp [wor, h]
theorem wor_of {dA : Nat → ClassId} {ad : Nat → Nat} {u : Sg} {k : Nat} {q : Nat × va_E} (h : (wor dA ad u)[k]? = some q) : k < 63 ∧ q = (ad k, wce dA ad u k) := by
  have hk : k < 63 := by
    have := (List.getElem?_eq_some_iff.mp h).1
    simpa [wor] using this
  rw [wor_at dA ad u hk] at h
  exact ⟨hk, (Option.some.inj h).symm⟩
theorem wor_set {dA : Nat → ClassId} {ad : Nat → Nat} {u u' : Sg} {k : Nat} {E : va_E} (hE : wce dA ad u' k = E) (h : ∀ j, j ≠ k → wce dA ad u' j = wce dA ad u j) : (wor dA ad u).set k (ad k, E) = wor dA ad u' := by
  apply List.ext_getElem?
  intro i
  by_cases hi : i < 63
  · rw [wor_at dA ad u' hi]
    by_cases hk : i = k
    · subst hk
      rw [List.getElem?_set_self (by simpa [wor] using hi), hE]
    · rw [List.getElem?_set_ne (Ne.symm hk), wor_at dA ad u hi, h i hk]
  · rw [List.getElem?_eq_none (by simp [wor]; omega), List.getElem?_eq_none (by simp [wor]; omega)]
theorem wor_D {dA : Nat → ClassId} {ad : Nat → Nat} {u u' : Sg} {A : Nat → Prop} (h : va_D A (wor dA ad u)) : va_D A (wor dA ad u') := by
  refine ⟨fun i j x y hi hj hxy => ?_, fun k q hk => ?_⟩
  · obtain ⟨h1, rfl⟩ := wor_of hi
    obtain ⟨h2, rfl⟩ := wor_of hj
    exact h.1 i j _ _ (wor_at dA ad u h1) (wor_at dA ad u h2) hxy
  · obtain ⟨h1, rfl⟩ := wor_of hk
    exact h.2 k (ad k, wce dA ad u k) (wor_at dA ad u h1)
theorem nth_ge : ∀ (l : List Nat) (k : Nat), l.length ≤ k → nth l k = 9
  | [], _, _ => rfl
  | _ :: t, 0, h => by simp at h
  | _ :: t, k + 1, h => nth_ge t k (by simpa using h)
theorem ly_lt {k : Nat} (h : lyC k < 9) : k < 63 := by
  rcases Nat.lt_or_ge k 63 with q | q
  · exact q
  · have : lyC k = 9 := nth_ge lyL k (by have : lyL.length = 63 := rfl; omega)
    omega
theorem lyN_small (k : Nat) : lyN k < 2 ^ 31 := by
  rcases Nat.lt_or_ge k 63 with q | q
  · have : ∀ k, k < 63 → lyN k < 2 ^ 31 := by decide +kernel
    exact this k q
  · have : lyN k = 9 := nth_ge lnL k (by have : lnL.length = 63 := rfl; omega)
    omega
/-- the locals that are told, as the kit lists them -/
def asl (ad : Nat → Nat) : Nat → List (Option Value) → List (Nat × Value)
  | _, [] => []
  | i, none :: t => asl ad (i + 1) t
  | i, some v :: t => (i, cvv ad v) :: asl ad (i + 1) t
theorem asl_of {ad : Nat → Nat} {q : Nat × Value} : ∀ (L : List (Option Value)) (i : Nat), q ∈ asl ad i L → ∃ j v, lk L j = some v ∧ q = (i + j, cvv ad v)
  | [], _, h => by simp [asl] at h
  | none :: t, i, h => by
    obtain ⟨j, v, h1, h2⟩ := asl_of t (i + 1) h
    exact ⟨j + 1, v, h1, by rw [h2, show i + 1 + j = i + (j + 1) by omega]⟩
  | some w :: t, i, h => by
    rcases List.mem_cons.mp h with h | h
    · exact ⟨0, w, rfl, h⟩
    · obtain ⟨j, v, h1, h2⟩ := asl_of t (i + 1) h
      exact ⟨j + 1, v, h1, by rw [h2, show i + 1 + j = i + (j + 1) by omega]⟩
theorem asl_in {ad : Nat → Nat} : ∀ (L : List (Option Value)) (i j : Nat) (v : Value), lk L j = some v → (i + j, cvv ad v) ∈ asl ad i L
  | [], _, _, _, h => by simp [lk] at h
  | none :: t, i, 0, v, h => by simp [lk] at h
  | none :: t, i, j + 1, v, h => by
    have := asl_in (ad := ad) t (i + 1) j v h
    rw [show i + 1 + j = i + (j + 1) by omega] at this
    exact this
  | some w :: t, i, 0, v, h => by
    simp only [lk, Option.some.injEq] at h
    subst h
    exact List.mem_cons_self
  | some w :: t, i, j + 1, v, h => by
    have := asl_in (ad := ad) t (i + 1) j v h
    rw [show i + 1 + j = i + (j + 1) by omega] at this
    exact List.mem_cons_of_mem _ this
theorem lv_lk {ad : Nat → Nat} {ls : Array Slot} {mx i : Nat} {L : List (Option Value)} {v : Value} (h : lv_has ls mx (asl ad 0 L)) (hv : lk L i = some v) : ls[i]? = some (.val (cvv ad v)) := by
  have := h.2.2 _ (asl_in (ad := ad) L 0 i v hv)
  simpa using this
theorem lv_mono {ls : Array Slot} {n : Nat} {l l' : List (Nat × Value)} (h : lv_has ls n l) (hs : ∀ q ∈ l', q ∈ l) : lv_has ls n l' := ⟨h.1, h.2.1, fun q hq => h.2.2 q (hs q hq)⟩
theorem isL_of {v : Value} (h : isL (some v) = false) : ¬ v.category = 2 := by
  cases v <;> simp [isL, Value.category] at h ⊢
/-- what stands behind a store -/
theorem sto1_lk : ∀ (L : List (Option Value)) (i : Nat) (v : Value) (j : Nat) (w : Value), lk (sto1 L i v) j = some w → (j = i ∧ w = v) ∨ (j ≠ i ∧ lk L j = some w ∧ (j + 1 = i → isL (some w) = false))
  | [], _, _, _, _, h => by simp [sto1, lk] at h
  | _ :: t, 0, v, 0, w, h => by
    simp only [sto1, lk, Option.some.injEq] at h
    exact Or.inl ⟨rfl, h.symm⟩
  | _ :: t, 0, v, j + 1, w, h => Or.inr ⟨by omega, h, by omega⟩
  | a :: t, 1, v, 0, w, h => by
    refine Or.inr ⟨by omega, ?_⟩
    simp only [sto1, lk] at h
    cases ha : isL a with
    | true => rw [ha] at h; cases h
    | false =>
      rw [ha] at h
      have h : a = some w := h
      subst h
      exact ⟨rfl, fun _ => ha⟩
  | a :: t, 1, v, j + 1, w, h => by
    simp only [sto1, lk] at h
    rcases sto1_lk t 0 v j w h with ⟨h1, h2⟩ | ⟨h1, h2, h3⟩
    · exact Or.inl ⟨by omega, h2⟩
    · exact Or.inr ⟨by omega, h2, by omega⟩
  | a :: t, n + 2, v, 0, w, h => Or.inr ⟨by omega, h, by omega⟩
  | a :: t, n + 2, v, j + 1, w, h => by
    simp only [sto1, lk] at h
    rcases sto1_lk t (n + 1) v j w h with ⟨h1, h2⟩ | ⟨h1, h2, h3⟩
    · exact Or.inl ⟨by omega, h2⟩
    · exact Or.inr ⟨by omega, h2, fun e => h3 (by omega)⟩
theorem sto2_lk : ∀ (L : List (Option Value)) (i : Nat) (v : Value) (j : Nat) (w : Value), lk (sto2 L i v) j = some w → (j = i ∧ w = v) ∨ (j ≠ i ∧ j ≠ i + 1 ∧ lk L j = some w ∧ (j + 1 = i → isL (some w) = false))
  | [], _, _, _, _, h => by simp [sto2, lk] at h
  | _ :: [], 0, v, 0, w, h => by simp [sto2, lk] at h
  | _ :: [], 0, v, j + 1, w, h => by simp [sto2, lk] at h
  | _ :: _ :: t, 0, v, 0, w, h => by
    simp only [sto2, lk, Option.some.injEq] at h
    exact Or.inl ⟨rfl, h.symm⟩
  | _ :: _ :: t, 0, v, 1, w, h => by simp [sto2, lk] at h
  | _ :: _ :: t, 0, v, j + 2, w, h => Or.inr ⟨by omega, by omega, h, by omega⟩
  | a :: t, 1, v, 0, w, h => by
    refine Or.inr ⟨by omega, by omega, ?_⟩
    simp only [sto2, lk] at h
    cases ha : isL a with
    | true => rw [ha] at h; cases h
    | false =>
      rw [ha] at h
      have h : a = some w := h
      subst h
      exact ⟨rfl, fun _ => ha⟩
  | a :: t, 1, v, j + 1, w, h => by
    simp only [sto2, lk] at h
    rcases sto2_lk t 0 v j w h with ⟨h1, h2⟩ | ⟨h1, h2, h3, h4⟩
    · exact Or.inl ⟨by omega, h2⟩
    · exact Or.inr ⟨by omega, by omega, h3, by omega⟩
  | a :: t, n + 2, v, 0, w, h => by
    rw [sto2] at h
    exact Or.inr ⟨by omega, by omega, h, by omega⟩
  | a :: t, n + 2, v, j + 1, w, h => by
    simp only [sto2, lk] at h
    rcases sto2_lk t (n + 1) v j w h with ⟨h1, h2⟩ | ⟨h1, h2, h3, h4⟩
    · exact Or.inl ⟨by omega, h2⟩
    · exact Or.inr ⟨by omega, by omega, h3, fun e => h4 (by omega)⟩

theorem sto1_has {ad : Nat → Nat} {ls : Array Slot} {mx i : Nat} {L : List (Option Value)} {v : Value} (h : lv_has ls mx ((i, cvv ad v) :: (asl ad 0 L).filter (fun q => !(q.1 == i) && !(q.1 + 1 == i && q.2.category == 2)))) : lv_has ls mx (asl ad 0 (sto1 L i v)) := by
  refine lv_mono h (fun q hq => ?_)
  obtain ⟨j, w, h1, rfl⟩ := asl_of _ _ hq
  rw [Nat.zero_add]
  rcases sto1_lk L i v j w h1 with ⟨rfl, rfl⟩ | ⟨h2, h3, h4⟩
  · exact List.mem_cons_self
  · refine List.mem_cons_of_mem _ (List.mem_filter.mpr ⟨by have := asl_in (ad := ad) L 0 j w h3; rwa [Nat.zero_add] at this, ?_⟩)
    simp only [cvv_cat, Bool.and_eq_true, Bool.not_eq_true', beq_eq_false_iff_ne, ne_eq, Bool.and_eq_false_iff]
    refine ⟨h2, ?_⟩
    by_cases hj : j + 1 = i
    · exact Or.inr (isL_of (h4 hj))
    · exact Or.inl hj
theorem sto2_has {ad : Nat → Nat} {ls : Array Slot} {mx i : Nat} {L : List (Option Value)} {v : Value} (h : lv_has ls mx ((i, cvv ad v) :: (asl ad 0 L).filter (fun q => !(q.1 == i) && (!(q.1 == i + 1) && !(q.1 + 1 == i && q.2.category == 2))))) : lv_has ls mx (asl ad 0 (sto2 L i v)) := by
  refine lv_mono h (fun q hq => ?_)
  obtain ⟨j, w, h1, rfl⟩ := asl_of _ _ hq
  rw [Nat.zero_add]
  rcases sto2_lk L i v j w h1 with ⟨rfl, rfl⟩ | ⟨h2, h2', h3, h4⟩
  · exact List.mem_cons_self
  · refine List.mem_cons_of_mem _ (List.mem_filter.mpr ⟨by have := asl_in (ad := ad) L 0 j w h3; rwa [Nat.zero_add] at this, ?_⟩)
    simp only [cvv_cat, Bool.and_eq_true, Bool.not_eq_true', beq_eq_false_iff_ne, ne_eq, Bool.and_eq_false_iff]
    refine ⟨h2, h2', ?_⟩
    by_cases hj : j + 1 = i
    · exact Or.inr (isL_of (h4 hj))
    · exact Or.inl hj
/-- which cells a method may change: the world's, and new ones -/
def AA (ad : Nat → Nat) (sz : Nat) : Nat → Prop := fun q => (∃ k, k < 63 ∧ q = ad k) ∨ sz ≤ q
/-- the texts' lengths and bytes -/
abbrev txN : List Nat := [7, 3, 5, 4]
abbrev txB : List (List Int32) := [[99, 111, 117, 110, 116, 101, 114], [111, 110, 101], [108, 101, 97, 118, 101], [108, 101, 110, 100]]
abbrev txI : List Nat := [47, 56, 61, 66]
abbrev txS : List String := ["counter", "one", "leave", "lend"]
/-- the texts of the class at a state -/
def Tx (ad aV : Nat → Nat) (A : Nat → Prop) (U : State) (H : Heap) : Prop := vk_S 4 txN txB (fun i => ad (100 + i)) aV A U H ∧ (∀ i, i < 4 → vk_R RX2 (txI.getD i 0) (txS.getD i "") (ad (100 + i)) U) ∧ va_Z "java/lang/String" "COMPACT_STRINGS" "Z" (.int 1) A U H ∧ va_Zq "jdk/internal/util/Preconditions" "SIOOBE_FORMATTER" "Ljava/util/function/BiFunction;" A U H
theorem Tx.same {ad aV : Nat → Nat} {A : Nat → Prop} {u U : State} {H : Heap} (hv : U.vm = u.vm) (h : Tx ad aV A u H) : Tx ad aV A U H := ⟨h.1.moved (by rw [hv]; exact Vm.Alike.refl u.vm), fun i hi => (h.2.1 i hi).same hv, h.2.2.1.moved (by rw [hv]; exact Vm.Alike.refl u.vm), h.2.2.2.moved (by rw [hv]; exact Vm.Alike.refl u.vm)⟩
theorem Tx.moved {ad aV : Nat → Nat} {A : Nat → Prop} {u U : State} {H : Heap} (hW : u.WarmedH U.vm) (h : Tx ad aV A u H) : Tx ad aV A U H := ⟨h.1.moved hW.alike, fun i hi => (h.2.1 i hi).warm hW, h.2.2.1.moved hW.alike, h.2.2.2.moved hW.alike⟩
theorem Tx.kept {ad aV : Nat → Nat} {A : Nat → Prop} {U : State} {H H1 : Heap} (h : Tx ad aV A U H) (hq : ∀ a : Nat, a < H.size → ¬ A a → H1[a]? = H[a]?) : Tx ad aV A U H1 := ⟨h.1.kept hq, h.2.1, h.2.2.1.kept hq, h.2.2.2.kept hq⟩
theorem Tx.narrow {ad aV : Nat → Nat} {A B : Nat → Prop} {U : State} {H : Heap} (h : Tx ad aV A U H) (hAB : ∀ q, B q → A q) : Tx ad aV B U H := ⟨h.1.narrow hAB, h.2.1, h.2.2.1.narrow hAB, h.2.2.2.narrow hAB⟩
/-- where a method stands: the machine, its code, the tables' words, what classes are, its room, the texts -/
def Cx (dC : Nat → ClassId) (dI : Nat → Nat → Nat) (dA : Nat → ClassId) (ad aV : Nat → Nat) (A : Nat → Prop) (p : Program) (R : Room) (s : State) (m : MethodId) (args : Array Value) (c : Code) (own : String) (cc : ByteArray) (mx fr lc : Nat) : Prop :=
  p.tables.exec = Jvm.exec ∧ c.code = cc ∧ c.maxLocals = mx ∧ s.vm.findClass own = some m.cls ∧ (∀ w ∈ gtb, w.before args s = true) ∧ va_K (dC, dI) vwCl (tyA dA) s ∧ fr ≤ R.frames ∧ lc ≤ R.locals ∧ Tx ad aV A s s.heap ∧ ∀ q, s.heap.size ≤ q → A q
def Hd (dC : Nat → ClassId) (dI : Nat → Nat → Nat) (dA : Nat → ClassId) (ad : Nat → Nat) (A : Nat → Prop) (H0 : Heap) (mx : Nat) (L : List (Option Value)) (u : Sg) (H : Heap) (locs : List Loc) (ls : Array Slot) : Prop :=
  va_P (dC, dI) vwCl (wor dA ad u) H ∧ va_D A (wor dA ad u) ∧ va_S A H0 H locs ∧ lv_has ls mx (asl ad 0 L)
/-- an instruction of the small machine at a place is what the machine does there -/
def SndI (own : String) (cc : ByteArray) (mx fr lc pc : Nat) (f : St → Option St) : Prop :=
  ∀ (dC : Nat → ClassId) (dI : Nat → Nat → Nat) (dA : Nat → ClassId) (ad aV : Nat → Nat) (A : Nat → Prop) (p : Program) (l : Launch) (e : Env) (R : Room) (s : State) (m : MethodId) (args : Array Value) (below : List Frame) (meth : Method) (c : Code) (H : Heap) (locs : List Loc) (ls : Array Slot) (L : List (Option Value)) (S : List Value) (u : Sg) (st : St) (Q : State → Prop),
    Cx dC dI dA ad aV A p R s m args c own cc mx fr lc → Hd dC dI dA ad A s.heap mx L u H locs ls → f (pc, L, S, u) = some st →
    (∀ (H1 : Heap) (locs1 : List Loc) (ls1 : Array Slot), Hd dC dI dA ad A s.heap mx st.2.1 st.2.2.2 H1 locs1 ls1 → W p l e R s m args below meth c H1 locs1 0 0 Q (F0 m st.1 ls1 (st.2.2.1.map (cvv ad)))) →
    W p l e R s m args below meth c H locs 0 0 Q (F0 m pc ls (S.map (cvv ad)))
section SND
variable {own : String} {cc : ByteArray} {mx fr lc pc nx : Nat}

theorem snd_iconst {n : Int} {v : Int32} (hd : decode cc pc = .ok (.iconst n, 1)) (hv : Int32.ofInt n = v) : SndI own cc mx fr lc pc (o_iconst v (pc + 1)) := by
  intro dC dI dA ad aV A p l e R s m args below meth c H locs ls L S u st Q C0 h0 hf k
  cases hf
  exact lv_iconst C0.1 C0.2.1 hd hv (k H locs ls h0)
theorem snd_bipush {n : Int} {v : Int32} (hd : decode cc pc = .ok (.bipush n, 2)) (hv : (Int8.ofInt n).toInt32 = v) : SndI own cc mx fr lc pc (o_iconst v (pc + 2)) := by
  intro dC dI dA ad aV A p l e R s m args below meth c H locs ls L S u st Q C0 h0 hf k
  cases hf
  exact lv_bipush C0.1 C0.2.1 hd hv (k H locs ls h0)
theorem snd_sipush {n : Int} {v : Int32} (hd : decode cc pc = .ok (.sipush n, 3)) (hv : (Int16.ofInt n).toInt32 = v) : SndI own cc mx fr lc pc (o_iconst v (pc + 3)) := by
  intro dC dI dA ad aV A p l e R s m args below meth c H locs ls L S u st Q C0 h0 hf k
  cases hf
  exact lv_sipush C0.1 C0.2.1 hd hv (k H locs ls h0)
theorem snd_ldc {i : Nat} {v : Int32} (hw : Cond.constant own i v ∈ gtb) (hd : decode cc pc = .ok (.ldc i, 2)) : SndI own cc mx fr lc pc (o_iconst v (pc + 2)) := by
  intro dC dI dA ad aV A p l e R s m args below meth c H locs ls L S u st Q C0 h0 hf k
  cases hf
  exact lv_ldc C0.1 C0.2.1 C0.2.2.2.1 (C0.2.2.2.2.1 _ hw) hd (k H locs ls h0)
theorem snd_ldcw {i : Nat} {v : Int32} (hw : Cond.constant own i v ∈ gtb) (hd : decode cc pc = .ok (.ldc_w i, 3)) : SndI own cc mx fr lc pc (o_iconst v (pc + 3)) := by
  intro dC dI dA ad aV A p l e R s m args below meth c H locs ls L S u st Q C0 h0 hf k
  cases hf
  exact lv_ldcw C0.1 C0.2.1 C0.2.2.2.1 (C0.2.2.2.2.1 _ hw) hd (k H locs ls h0)
theorem snd_ldc2 {i : Nat} {v : Int64} (hw : Cond.constantLong own i v ∈ gtb) (hd : decode cc pc = .ok (.ldc2_w i, 3)) : SndI own cc mx fr lc pc (o_lconst v (pc + 3)) := by
  intro dC dI dA ad aV A p l e R s m args below meth c H locs ls L S u st Q C0 h0 hf k
  cases hf
  exact lv_ldc2 C0.1 C0.2.1 C0.2.2.2.1 (C0.2.2.2.2.1 _ hw) hd (k H locs ls h0)
theorem snd_lconst {n : Fin 2} {v : Int64} (hd : decode cc pc = .ok (.lconst n, 1)) (hv : Int64.ofNat n = v) : SndI own cc mx fr lc pc (o_lconst v (pc + 1)) := by
  intro dC dI dA ad aV A p l e R s m args below meth c H locs ls L S u st Q C0 h0 hf k
  cases hf
  exact lv_lconst C0.1 C0.2.1 hd hv (k H locs ls h0)
theorem snd_str {i j : Nat} (ho : own = RX2) (hj : j < 4) (hi : txI.getD j 0 = i) (hd : decode cc pc = .ok (.ldc i, 2)) : SndI own cc mx fr lc pc (o_str j (pc + 2)) := by
  intro dC dI dA ad aV A p l e R s m args below meth c H locs ls L S u st Q C0 h0 hf k
  cases hf
  subst ho; subst hi
  exact va_ldcS C0.1 C0.2.1 C0.2.2.2.1 (C0.2.2.2.2.2.2.2.2.1.2.1 j hj) hd (k H locs ls h0)
theorem snd_iload_n {k : Fin 4} {i : Nat} (hi : (k : Nat) = i) (hd : decode cc pc = .ok (.iload_n k, 1)) : SndI own cc mx fr lc pc (o_iload i (pc + 1)) := by
  intro dC dI dA ad aV A p l e R s m args below meth c H locs ls L S u st Q C0 h0 hf k
  have hf : (match lk L i with | some (.int x) => some (pc + 1, L, .int x :: S, u) | _ => none) = some st := hf
  split at hf
  · rename_i x hx
    cases hf
    exact lv_iload_n C0.1 C0.2.1 hd hi (lv_lk h0.2.2.2 hx) (k H locs ls h0)
  · cases hf
theorem snd_iload {i : Nat} (hd : decode cc pc = .ok (.iload i, 2)) : SndI own cc mx fr lc pc (o_iload i (pc + 2)) := by
  intro dC dI dA ad aV A p l e R s m args below meth c H locs ls L S u st Q C0 h0 hf k
  have hf : (match lk L i with | some (.int x) => some (pc + 2, L, .int x :: S, u) | _ => none) = some st := hf
  split at hf
  · rename_i x hx
    cases hf
    exact lv_iload C0.1 C0.2.1 hd (lv_lk h0.2.2.2 hx) (k H locs ls h0)
  · cases hf
theorem snd_lload_n {k : Fin 4} {i : Nat} (hi : (k : Nat) = i) (hd : decode cc pc = .ok (.lload_n k, 1)) : SndI own cc mx fr lc pc (o_lload i (pc + 1)) := by
  intro dC dI dA ad aV A p l e R s m args below meth c H locs ls L S u st Q C0 h0 hf k
  have hf : (match lk L i with | some (.long x) => some (pc + 1, L, .long x :: S, u) | _ => none) = some st := hf
  split at hf
  · rename_i x hx
    cases hf
    exact lv_lload_n C0.1 C0.2.1 hd hi (lv_lk h0.2.2.2 hx) (k H locs ls h0)
  · cases hf
theorem snd_lload {i : Nat} (hd : decode cc pc = .ok (.lload i, 2)) : SndI own cc mx fr lc pc (o_lload i (pc + 2)) := by
  intro dC dI dA ad aV A p l e R s m args below meth c H locs ls L S u st Q C0 h0 hf k
  have hf : (match lk L i with | some (.long x) => some (pc + 2, L, .long x :: S, u) | _ => none) = some st := hf
  split at hf
  · rename_i x hx
    cases hf
    exact lv_lload C0.1 C0.2.1 hd (lv_lk h0.2.2.2 hx) (k H locs ls h0)
  · cases hf
theorem snd_aload_n {k : Fin 4} {i : Nat} (hi : (k : Nat) = i) (hd : decode cc pc = .ok (.aload_n k, 1)) : SndI own cc mx fr lc pc (o_aload i (pc + 1)) := by
  intro dC dI dA ad aV A p l e R s m args below meth c H locs ls L S u st Q C0 h0 hf k
  have hf : (match lk L i with | some (.ref x) => some (pc + 1, L, .ref x :: S, u) | _ => none) = some st := hf
  split at hf
  · rename_i x hx
    cases hf
    exact lv_aload_n C0.1 C0.2.1 hd hi (lv_lk h0.2.2.2 hx) (k H locs ls h0)
  · cases hf
theorem snd_aload {i : Nat} (hd : decode cc pc = .ok (.aload i, 2)) : SndI own cc mx fr lc pc (o_aload i (pc + 2)) := by
  intro dC dI dA ad aV A p l e R s m args below meth c H locs ls L S u st Q C0 h0 hf k
  have hf : (match lk L i with | some (.ref x) => some (pc + 2, L, .ref x :: S, u) | _ => none) = some st := hf
  split at hf
  · rename_i x hx
    cases hf
    exact lv_aload C0.1 C0.2.1 hd (lv_lk h0.2.2.2 hx) (k H locs ls h0)
  · cases hf
theorem snd_istore_n {k : Fin 4} {i : Nat} (hi : (k : Nat) = i) (hm : i < mx) (hd : decode cc pc = .ok (.istore_n k, 1)) : SndI own cc mx fr lc pc (o_istore i (pc + 1)) := by
  intro dC dI dA ad aV A p l e R s m args below meth c H locs ls L S u st Q C0 h0 hf k
  unfold o_istore at hf
  dsimp only at hf
  split at hf
  · rename_i x r
    cases hf
    exact lv_istore_n C0.1 C0.2.1 hd hi h0.2.2.2 hm rfl (fun ls1 h1 => k H locs ls1 ⟨h0.1, h0.2.1, h0.2.2.1, sto1_has (v := .int x) h1⟩)
  · cases hf
theorem snd_istore {i : Nat} (hm : i < mx) (hd : decode cc pc = .ok (.istore i, 2)) : SndI own cc mx fr lc pc (o_istore i (pc + 2)) := by
  intro dC dI dA ad aV A p l e R s m args below meth c H locs ls L S u st Q C0 h0 hf k
  unfold o_istore at hf
  dsimp only at hf
  split at hf
  · rename_i x r
    cases hf
    exact lv_istore C0.1 C0.2.1 hd h0.2.2.2 hm rfl (fun ls1 h1 => k H locs ls1 ⟨h0.1, h0.2.1, h0.2.2.1, sto1_has (v := .int x) h1⟩)
  · cases hf
theorem snd_lstore_n {k : Fin 4} {i : Nat} (hi : (k : Nat) = i) (hm : i + 1 < mx) (hd : decode cc pc = .ok (.lstore_n k, 1)) : SndI own cc mx fr lc pc (o_lstore i (pc + 1)) := by
  intro dC dI dA ad aV A p l e R s m args below meth c H locs ls L S u st Q C0 h0 hf k
  unfold o_lstore at hf
  dsimp only at hf
  split at hf
  · rename_i x r
    cases hf
    exact lv_lstore_n C0.1 C0.2.1 hd hi h0.2.2.2 hm rfl (fun ls1 h1 => k H locs ls1 ⟨h0.1, h0.2.1, h0.2.2.1, sto2_has (v := .long x) h1⟩)
  · cases hf
theorem snd_lstore {i : Nat} (hm : i + 1 < mx) (hd : decode cc pc = .ok (.lstore i, 2)) : SndI own cc mx fr lc pc (o_lstore i (pc + 2)) := by
  intro dC dI dA ad aV A p l e R s m args below meth c H locs ls L S u st Q C0 h0 hf k
  unfold o_lstore at hf
  dsimp only at hf
  split at hf
  · rename_i x r
    cases hf
    exact lv_lstore C0.1 C0.2.1 hd h0.2.2.2 hm rfl (fun ls1 h1 => k H locs ls1 ⟨h0.1, h0.2.1, h0.2.2.1, sto2_has (v := .long x) h1⟩)
  · cases hf
theorem snd_iinc {i : Nat} {n : Int} {v : Int32} (hm : i < mx) (hv : Int32.ofInt n = v) (hd : decode cc pc = .ok (.iinc i n, 3)) : SndI own cc mx fr lc pc (o_iinc i v (pc + 3)) := by
  intro dC dI dA ad aV A p l e R s m args below meth c H locs ls L S u st Q C0 h0 hf k
  have hf : (match lk L i with | some (.int x) => some (pc + 3, sto1 L i (.int (x + v)), S, u) | _ => none) = some st := hf
  split at hf
  · rename_i x hx
    cases hf
    have hin := asl_in (ad := ad) L 0 i _ hx
    rw [Nat.zero_add] at hin
    obtain ⟨q, hq⟩ := List.getElem?_of_mem hin
    exact lv_iinc C0.1 C0.2.1 hd h0.2.2.2 hq (by rw [hv]) hm rfl (fun ls1 h1 => k H locs ls1 ⟨h0.1, h0.2.1, h0.2.2.1, sto1_has (v := .int (x + v)) h1⟩)
  · cases hf
theorem lv_iushr2 {p : Program} {l : Launch} {e : Env} {R : Room} {s : State} {m : MethodId} {args : Array Value} {below : List Frame} {meth : Method} {c : Code} {H : Heap} {locs : List Loc} {cells slots : Nat} {Q : State → Prop} {ls : Array Slot} {rest : List Value} {x y : Int32} (hexec : p.tables.exec = Jvm.exec) (hb : c.code = cc) (hdg : decode cc pc = .ok (.iushr, 1)) (k : W p l e R s m args below meth c H locs cells slots Q (F0 m (pc + 1) ls (.int (x.toUInt32 >>> (y.toUInt32 &&& Int32.toUInt32 31)).toInt32 :: rest))) : W p l e R s m args below meth c H locs cells slots Q (F0 m pc ls (.int y :: .int x :: rest)) := lv_iushr hexec hb hdg rfl k
theorem snd_iadd (hd : decode cc pc = .ok (.iadd, 1)) : SndI own cc mx fr lc pc (o_iadd (pc + 1)) := by
  intro dC dI dA ad aV A p l e R s m args below meth c H locs ls L S u st Q C0 h0 hf k
  unfold o_iadd at hf
  dsimp only at hf
  split at hf
  · rename_i y x r
    cases hf
    exact lv_iadd C0.1 C0.2.1 hd (k H locs ls h0)
  · cases hf
theorem snd_isub (hd : decode cc pc = .ok (.isub, 1)) : SndI own cc mx fr lc pc (o_isub (pc + 1)) := by
  intro dC dI dA ad aV A p l e R s m args below meth c H locs ls L S u st Q C0 h0 hf k
  unfold o_isub at hf
  dsimp only at hf
  split at hf
  · rename_i y x r
    cases hf
    exact lv_isub C0.1 C0.2.1 hd (k H locs ls h0)
  · cases hf
theorem snd_imul (hd : decode cc pc = .ok (.imul, 1)) : SndI own cc mx fr lc pc (o_imul (pc + 1)) := by
  intro dC dI dA ad aV A p l e R s m args below meth c H locs ls L S u st Q C0 h0 hf k
  unfold o_imul at hf
  dsimp only at hf
  split at hf
  · rename_i y x r
    cases hf
    exact lv_imul C0.1 C0.2.1 hd (k H locs ls h0)
  · cases hf
theorem snd_iand (hd : decode cc pc = .ok (.iand, 1)) : SndI own cc mx fr lc pc (o_iand (pc + 1)) := by
  intro dC dI dA ad aV A p l e R s m args below meth c H locs ls L S u st Q C0 h0 hf k
  unfold o_iand at hf
  dsimp only at hf
  split at hf
  · rename_i y x r
    cases hf
    exact lv_iand C0.1 C0.2.1 hd (k H locs ls h0)
  · cases hf
theorem snd_ior (hd : decode cc pc = .ok (.ior, 1)) : SndI own cc mx fr lc pc (o_ior (pc + 1)) := by
  intro dC dI dA ad aV A p l e R s m args below meth c H locs ls L S u st Q C0 h0 hf k
  unfold o_ior at hf
  dsimp only at hf
  split at hf
  · rename_i y x r
    cases hf
    exact lv_ior C0.1 C0.2.1 hd (k H locs ls h0)
  · cases hf
theorem snd_ixor (hd : decode cc pc = .ok (.ixor, 1)) : SndI own cc mx fr lc pc (o_ixor (pc + 1)) := by
  intro dC dI dA ad aV A p l e R s m args below meth c H locs ls L S u st Q C0 h0 hf k
  unfold o_ixor at hf
  dsimp only at hf
  split at hf
  · rename_i y x r
    cases hf
    exact lv_ixor C0.1 C0.2.1 hd (k H locs ls h0)
  · cases hf
theorem snd_ishl (hd : decode cc pc = .ok (.ishl, 1)) : SndI own cc mx fr lc pc (o_ishl (pc + 1)) := by
  intro dC dI dA ad aV A p l e R s m args below meth c H locs ls L S u st Q C0 h0 hf k
  unfold o_ishl at hf
  dsimp only at hf
  split at hf
  · rename_i y x r
    cases hf
    exact lv_ishl C0.1 C0.2.1 hd (k H locs ls h0)
  · cases hf
theorem snd_ishr (hd : decode cc pc = .ok (.ishr, 1)) : SndI own cc mx fr lc pc (o_ishr (pc + 1)) := by
  intro dC dI dA ad aV A p l e R s m args below meth c H locs ls L S u st Q C0 h0 hf k
  unfold o_ishr at hf
  dsimp only at hf
  split at hf
  · rename_i y x r
    cases hf
    exact lv_ishr C0.1 C0.2.1 hd (k H locs ls h0)
  · cases hf
theorem snd_iushr (hd : decode cc pc = .ok (.iushr, 1)) : SndI own cc mx fr lc pc (o_iushr (pc + 1)) := by
  intro dC dI dA ad aV A p l e R s m args below meth c H locs ls L S u st Q C0 h0 hf k
  unfold o_iushr at hf
  dsimp only at hf
  split at hf
  · rename_i y x r
    cases hf
    exact lv_iushr2 C0.1 C0.2.1 hd (k H locs ls h0)
  · cases hf
theorem snd_ladd (hd : decode cc pc = .ok (.ladd, 1)) : SndI own cc mx fr lc pc (o_ladd (pc + 1)) := by
  intro dC dI dA ad aV A p l e R s m args below meth c H locs ls L S u st Q C0 h0 hf k
  unfold o_ladd at hf
  dsimp only at hf
  split at hf
  · rename_i y x r
    cases hf
    exact lv_ladd C0.1 C0.2.1 hd (k H locs ls h0)
  · cases hf
theorem snd_lsub (hd : decode cc pc = .ok (.lsub, 1)) : SndI own cc mx fr lc pc (o_lsub (pc + 1)) := by
  intro dC dI dA ad aV A p l e R s m args below meth c H locs ls L S u st Q C0 h0 hf k
  unfold o_lsub at hf
  dsimp only at hf
  split at hf
  · rename_i y x r
    cases hf
    exact lv_lsub C0.1 C0.2.1 hd (k H locs ls h0)
  · cases hf
theorem snd_lmul (hd : decode cc pc = .ok (.lmul, 1)) : SndI own cc mx fr lc pc (o_lmul (pc + 1)) := by
  intro dC dI dA ad aV A p l e R s m args below meth c H locs ls L S u st Q C0 h0 hf k
  unfold o_lmul at hf
  dsimp only at hf
  split at hf
  · rename_i y x r
    cases hf
    exact lv_lmul C0.1 C0.2.1 hd (k H locs ls h0)
  · cases hf
theorem snd_lcmp (hd : decode cc pc = .ok (.lcmp, 1)) : SndI own cc mx fr lc pc (o_lcmp (pc + 1)) := by
  intro dC dI dA ad aV A p l e R s m args below meth c H locs ls L S u st Q C0 h0 hf k
  unfold o_lcmp at hf
  dsimp only at hf
  split at hf
  · rename_i y x r
    cases hf
    exact W.lcmp C0.1 C0.2.1 hd (k H locs ls h0)
  · cases hf
theorem snd_idiv (hd : decode cc pc = .ok (.idiv, 1)) : SndI own cc mx fr lc pc (o_idiv (pc + 1)) := by
  intro dC dI dA ad aV A p l e R s m args below meth c H locs ls L S u st Q C0 h0 hf k
  unfold o_idiv at hf
  dsimp only at hf
  split at hf
  · rename_i y x r
    by_cases hy : y = 0
    · rw [if_pos hy] at hf; cases hf
    rw [if_neg hy] at hf
    cases hf
    exact lv_idiv C0.1 C0.2.1 hd hy (k H locs ls h0)
  · cases hf
theorem snd_irem (hd : decode cc pc = .ok (.irem, 1)) : SndI own cc mx fr lc pc (o_irem (pc + 1)) := by
  intro dC dI dA ad aV A p l e R s m args below meth c H locs ls L S u st Q C0 h0 hf k
  unfold o_irem at hf
  dsimp only at hf
  split at hf
  · rename_i y x r
    by_cases hy : y = 0
    · rw [if_pos hy] at hf; cases hf
    rw [if_neg hy] at hf
    cases hf
    exact lv_irem C0.1 C0.2.1 hd hy (k H locs ls h0)
  · cases hf
theorem snd_ldiv (hd : decode cc pc = .ok (.ldiv, 1)) : SndI own cc mx fr lc pc (o_ldiv (pc + 1)) := by
  intro dC dI dA ad aV A p l e R s m args below meth c H locs ls L S u st Q C0 h0 hf k
  unfold o_ldiv at hf
  dsimp only at hf
  split at hf
  · rename_i y x r
    by_cases hy : y = 0
    · rw [if_pos hy] at hf; cases hf
    rw [if_neg hy] at hf
    cases hf
    exact lv_ldiv C0.1 C0.2.1 hd hy (k H locs ls h0)
  · cases hf
theorem snd_lrem (hd : decode cc pc = .ok (.lrem, 1)) : SndI own cc mx fr lc pc (o_lrem (pc + 1)) := by
  intro dC dI dA ad aV A p l e R s m args below meth c H locs ls L S u st Q C0 h0 hf k
  unfold o_lrem at hf
  dsimp only at hf
  split at hf
  · rename_i y x r
    by_cases hy : y = 0
    · rw [if_pos hy] at hf; cases hf
    rw [if_neg hy] at hf
    cases hf
    exact lv_lrem C0.1 C0.2.1 hd hy (k H locs ls h0)
  · cases hf
theorem snd_ineg (hd : decode cc pc = .ok (.ineg, 1)) : SndI own cc mx fr lc pc (o_ineg (pc + 1)) := by
  intro dC dI dA ad aV A p l e R s m args below meth c H locs ls L S u st Q C0 h0 hf k
  unfold o_ineg at hf
  dsimp only at hf
  split at hf
  · rename_i x r
    cases hf
    exact lv_ineg C0.1 C0.2.1 hd (k H locs ls h0)
  · cases hf
theorem snd_i2l (hd : decode cc pc = .ok (.i2l, 1)) : SndI own cc mx fr lc pc (o_i2l (pc + 1)) := by
  intro dC dI dA ad aV A p l e R s m args below meth c H locs ls L S u st Q C0 h0 hf k
  unfold o_i2l at hf
  dsimp only at hf
  split at hf
  · rename_i x r
    cases hf
    exact lv_i2l C0.1 C0.2.1 hd rfl (k H locs ls h0)
  · cases hf
theorem snd_l2i (hd : decode cc pc = .ok (.l2i, 1)) : SndI own cc mx fr lc pc (o_l2i (pc + 1)) := by
  intro dC dI dA ad aV A p l e R s m args below meth c H locs ls L S u st Q C0 h0 hf k
  unfold o_l2i at hf
  dsimp only at hf
  split at hf
  · rename_i x r
    cases hf
    exact lv_l2i C0.1 C0.2.1 hd rfl (k H locs ls h0)
  · cases hf
theorem snd_i2b (hd : decode cc pc = .ok (.i2b, 1)) : SndI own cc mx fr lc pc (o_i2b (pc + 1)) := by
  intro dC dI dA ad aV A p l e R s m args below meth c H locs ls L S u st Q C0 h0 hf k
  unfold o_i2b at hf
  dsimp only at hf
  split at hf
  · rename_i x r
    cases hf
    exact lv_i2b C0.1 C0.2.1 hd rfl (k H locs ls h0)
  · cases hf
theorem snd_dup (hd : decode cc pc = .ok (.dup, 1)) : SndI own cc mx fr lc pc (o_dup (pc + 1)) := by
  intro dC dI dA ad aV A p l e R s m args below meth c H locs ls L S u st Q C0 h0 hf k
  unfold o_dup at hf
  dsimp only at hf
  split at hf
  · cases hf
    exact lv_dup C0.1 C0.2.1 hd rfl (k H locs ls h0)
  · cases hf
    exact lv_dup C0.1 C0.2.1 hd rfl (k H locs ls h0)
  · cases hf
theorem snd_pop (hd : decode cc pc = .ok (.pop, 1)) : SndI own cc mx fr lc pc (o_pop (pc + 1)) := by
  intro dC dI dA ad aV A p l e R s m args below meth c H locs ls L S u st Q C0 h0 hf k
  unfold o_pop at hf
  dsimp only at hf
  split at hf
  · rename_i x r
    cases hf
    exact lv_pop (va := .int x) C0.1 C0.2.1 hd rfl (k H locs ls h0)
  · cases hf
theorem snd_dup2 (hd : decode cc pc = .ok (.dup2, 1)) : SndI own cc mx fr lc pc (o_dup2 (pc + 1)) := by
  intro dC dI dA ad aV A p l e R s m args below meth c H locs ls L S u st Q C0 h0 hf k
  unfold o_dup2 at hf
  dsimp only at hf
  split at hf
  · cases hf
    exact lv_dup2_11 C0.1 C0.2.1 hd rfl rfl (k H locs ls h0)
  · cases hf
theorem snd_goto {off : Int} {tgt : Nat} (ht : (pc : Int) + off = (tgt : Int)) (hd : decode cc pc = .ok (.goto off, 3)) : SndI own cc mx fr lc pc (o_goto tgt) := by
  intro dC dI dA ad aV A p l e R s m args below meth c H locs ls L S u st Q C0 h0 hf k
  cases hf
  exact lv_goto C0.1 C0.2.1 hd ht (k H locs ls h0)
theorem snd_ifeq {off : Int} {tgt : Nat} (ht : (pc : Int) + off = (tgt : Int)) (hd : decode cc pc = .ok (.ifCond .eq off, 3)) : SndI own cc mx fr lc pc (o_ifeq tgt (pc + 3)) := by
  intro dC dI dA ad aV A p l e R s m args below meth c H locs ls L S u st Q C0 h0 hf k
  unfold o_ifeq at hf
  dsimp only at hf
  split at hf
  · rename_i x r
    have hf := Option.some.inj hf
    refine lv_if_eq C0.1 C0.2.1 hd ht (fun hx => ?_) (fun hx => ?_)
    · rw [if_pos hx] at hf
      subst hf
      exact k H locs ls h0
    · rw [if_neg hx] at hf
      subst hf
      exact k H locs ls h0
  · cases hf
theorem snd_ifne {off : Int} {tgt : Nat} (ht : (pc : Int) + off = (tgt : Int)) (hd : decode cc pc = .ok (.ifCond .ne off, 3)) : SndI own cc mx fr lc pc (o_ifne tgt (pc + 3)) := by
  intro dC dI dA ad aV A p l e R s m args below meth c H locs ls L S u st Q C0 h0 hf k
  unfold o_ifne at hf
  dsimp only at hf
  split at hf
  · rename_i x r
    have hf := Option.some.inj hf
    refine lv_if_ne C0.1 C0.2.1 hd ht (fun hx => ?_) (fun hx => ?_)
    · rw [if_pos hx] at hf
      subst hf
      exact k H locs ls h0
    · rw [if_neg (fun z => z hx)] at hf
      subst hf
      exact k H locs ls h0
  · cases hf
theorem snd_iflt {off : Int} {tgt : Nat} (ht : (pc : Int) + off = (tgt : Int)) (hd : decode cc pc = .ok (.ifCond .lt off, 3)) : SndI own cc mx fr lc pc (o_iflt tgt (pc + 3)) := by
  intro dC dI dA ad aV A p l e R s m args below meth c H locs ls L S u st Q C0 h0 hf k
  unfold o_iflt at hf
  dsimp only at hf
  split at hf
  · rename_i x r
    have hf := Option.some.inj hf
    refine lv_if_lt C0.1 C0.2.1 hd ht (fun hx => ?_) (fun hx => ?_)
    · rw [if_pos hx] at hf
      subst hf
      exact k H locs ls h0
    · rw [if_neg hx] at hf
      subst hf
      exact k H locs ls h0
  · cases hf
theorem snd_ifge {off : Int} {tgt : Nat} (ht : (pc : Int) + off = (tgt : Int)) (hd : decode cc pc = .ok (.ifCond .ge off, 3)) : SndI own cc mx fr lc pc (o_ifge tgt (pc + 3)) := by
  intro dC dI dA ad aV A p l e R s m args below meth c H locs ls L S u st Q C0 h0 hf k
  unfold o_ifge at hf
  dsimp only at hf
  split at hf
  · rename_i x r
    have hf := Option.some.inj hf
    refine lv_if_ge C0.1 C0.2.1 hd ht (fun hx => ?_) (fun hx => ?_)
    · rw [if_pos hx] at hf
      subst hf
      exact k H locs ls h0
    · rw [if_neg hx] at hf
      subst hf
      exact k H locs ls h0
  · cases hf
theorem snd_ifgt {off : Int} {tgt : Nat} (ht : (pc : Int) + off = (tgt : Int)) (hd : decode cc pc = .ok (.ifCond .gt off, 3)) : SndI own cc mx fr lc pc (o_ifgt tgt (pc + 3)) := by
  intro dC dI dA ad aV A p l e R s m args below meth c H locs ls L S u st Q C0 h0 hf k
  unfold o_ifgt at hf
  dsimp only at hf
  split at hf
  · rename_i x r
    have hf := Option.some.inj hf
    refine lv_if_gt C0.1 C0.2.1 hd ht (fun hx => ?_) (fun hx => ?_)
    · rw [if_pos hx] at hf
      subst hf
      exact k H locs ls h0
    · rw [if_neg hx] at hf
      subst hf
      exact k H locs ls h0
  · cases hf
theorem snd_ifle {off : Int} {tgt : Nat} (ht : (pc : Int) + off = (tgt : Int)) (hd : decode cc pc = .ok (.ifCond .le off, 3)) : SndI own cc mx fr lc pc (o_ifle tgt (pc + 3)) := by
  intro dC dI dA ad aV A p l e R s m args below meth c H locs ls L S u st Q C0 h0 hf k
  unfold o_ifle at hf
  dsimp only at hf
  split at hf
  · rename_i x r
    have hf := Option.some.inj hf
    refine lv_if_le C0.1 C0.2.1 hd ht (fun hx => ?_) (fun hx => ?_)
    · rw [if_pos hx] at hf
      subst hf
      exact k H locs ls h0
    · rw [if_neg hx] at hf
      subst hf
      exact k H locs ls h0
  · cases hf
theorem snd_iceq {off : Int} {tgt : Nat} (ht : (pc : Int) + off = (tgt : Int)) (hd : decode cc pc = .ok (.if_icmp .eq off, 3)) : SndI own cc mx fr lc pc (o_iceq tgt (pc + 3)) := by
  intro dC dI dA ad aV A p l e R s m args below meth c H locs ls L S u st Q C0 h0 hf k
  unfold o_iceq at hf
  dsimp only at hf
  split at hf
  · rename_i y x r
    have hf := Option.some.inj hf
    refine lv_icmp_eq C0.1 C0.2.1 hd ht (fun hx => ?_) (fun hx => ?_)
    · rw [if_pos hx] at hf
      subst hf
      exact k H locs ls h0
    · rw [if_neg hx] at hf
      subst hf
      exact k H locs ls h0
  · cases hf
theorem snd_icne {off : Int} {tgt : Nat} (ht : (pc : Int) + off = (tgt : Int)) (hd : decode cc pc = .ok (.if_icmp .ne off, 3)) : SndI own cc mx fr lc pc (o_icne tgt (pc + 3)) := by
  intro dC dI dA ad aV A p l e R s m args below meth c H locs ls L S u st Q C0 h0 hf k
  unfold o_icne at hf
  dsimp only at hf
  split at hf
  · rename_i y x r
    have hf := Option.some.inj hf
    refine lv_icmp_ne C0.1 C0.2.1 hd ht (fun hx => ?_) (fun hx => ?_)
    · rw [if_pos hx] at hf
      subst hf
      exact k H locs ls h0
    · rw [if_neg (fun z => z hx)] at hf
      subst hf
      exact k H locs ls h0
  · cases hf
theorem snd_iclt {off : Int} {tgt : Nat} (ht : (pc : Int) + off = (tgt : Int)) (hd : decode cc pc = .ok (.if_icmp .lt off, 3)) : SndI own cc mx fr lc pc (o_iclt tgt (pc + 3)) := by
  intro dC dI dA ad aV A p l e R s m args below meth c H locs ls L S u st Q C0 h0 hf k
  unfold o_iclt at hf
  dsimp only at hf
  split at hf
  · rename_i y x r
    have hf := Option.some.inj hf
    refine lv_icmp_lt C0.1 C0.2.1 hd ht (fun hx => ?_) (fun hx => ?_)
    · rw [if_pos hx] at hf
      subst hf
      exact k H locs ls h0
    · rw [if_neg hx] at hf
      subst hf
      exact k H locs ls h0
  · cases hf
theorem snd_icge {off : Int} {tgt : Nat} (ht : (pc : Int) + off = (tgt : Int)) (hd : decode cc pc = .ok (.if_icmp .ge off, 3)) : SndI own cc mx fr lc pc (o_icge tgt (pc + 3)) := by
  intro dC dI dA ad aV A p l e R s m args below meth c H locs ls L S u st Q C0 h0 hf k
  unfold o_icge at hf
  dsimp only at hf
  split at hf
  · rename_i y x r
    have hf := Option.some.inj hf
    refine lv_icmp_ge C0.1 C0.2.1 hd ht (fun hx => ?_) (fun hx => ?_)
    · rw [if_pos hx] at hf
      subst hf
      exact k H locs ls h0
    · rw [if_neg hx] at hf
      subst hf
      exact k H locs ls h0
  · cases hf
theorem snd_icgt {off : Int} {tgt : Nat} (ht : (pc : Int) + off = (tgt : Int)) (hd : decode cc pc = .ok (.if_icmp .gt off, 3)) : SndI own cc mx fr lc pc (o_icgt tgt (pc + 3)) := by
  intro dC dI dA ad aV A p l e R s m args below meth c H locs ls L S u st Q C0 h0 hf k
  unfold o_icgt at hf
  dsimp only at hf
  split at hf
  · rename_i y x r
    have hf := Option.some.inj hf
    refine lv_icmp_gt C0.1 C0.2.1 hd ht (fun hx => ?_) (fun hx => ?_)
    · rw [if_pos hx] at hf
      subst hf
      exact k H locs ls h0
    · rw [if_neg hx] at hf
      subst hf
      exact k H locs ls h0
  · cases hf
theorem snd_icle {off : Int} {tgt : Nat} (ht : (pc : Int) + off = (tgt : Int)) (hd : decode cc pc = .ok (.if_icmp .le off, 3)) : SndI own cc mx fr lc pc (o_icle tgt (pc + 3)) := by
  intro dC dI dA ad aV A p l e R s m args below meth c H locs ls L S u st Q C0 h0 hf k
  unfold o_icle at hf
  dsimp only at hf
  split at hf
  · rename_i y x r
    have hf := Option.some.inj hf
    refine lv_icmp_le C0.1 C0.2.1 hd ht (fun hx => ?_) (fun hx => ?_)
    · rw [if_pos hx] at hf
      subst hf
      exact k H locs ls h0
    · rw [if_neg hx] at hf
      subst hf
      exact k H locs ls h0
  · cases hf
/-- what the tables say of a kind of object -/
def CF (ci : Nat) (C : String) (T : u_T) (N : Nat) (ty : Nat → FieldType) : Prop := ci < 4 ∧ vwCl[ci]? = some (C, T, N) ∧ (∀ w ∈ u_ws C T N, w ∈ gtb) ∧ (∀ k, k < N → parseFieldDescriptor (T k).2.2.1 = some (ty k)) ∧ (∀ a, a < N → ∀ b, b < N → a ≠ b → (T a).2.1 ≠ (T b).2.1)
theorem wor_obj {dA : Nat → ClassId} {ad : Nat → Nat} {u : Sg} {k ci : Nat} (h : lyC k = ci) (hc : ci < 4) : (wor dA ad u)[k]? = some (ad k, .inr (ci, fld ad u k 0 (fks ci))) := by
  rw [wor_at dA ad u (ly_lt (by omega)), wce, if_neg (by omega), if_neg (by omega), h]
theorem wor_arr {dA : Nat → ClassId} {ad : Nat → Nat} {u : Sg} {k t : Nat} (h : lyC k = t) (ht : t = 4 ∨ t = 5) : (wor dA ad u)[k]? = some (ad k, .inl (dA (t - 4), lyN k, .inl (gA u k))) := by
  rw [wor_at dA ad u (ly_lt (by omega)), wce]
  rcases ht with rfl | rfl
  · rw [if_pos h]
  · rw [if_neg (by omega), if_pos h]
theorem beq_of {a b : Nat} (h : Nat.beq a b = true) : a = b := Nat.eq_of_beq_eq_true h
theorem snd_getI {ci C T N ty j idx} {d : Nat × Nat} (cf : CF ci C T N ty) (hj : j < N) (hk : (fks ci)[j]? = some d) (hd0 : d.1 = 0) (hw : Cond.fieldLink own idx (T j).1 (T j).2.1 (T j).2.2.1 ∈ gtb) (hd : decode cc pc = .ok (.getfield idx, 3)) : SndI own cc mx fr lc pc (o_getI ci j (pc + 3)) := by
  intro dC dI dA ad aV A p l e R s m args below meth c H locs ls L S u st Q C0 h0 hf k
  unfold o_getI at hf
  dsimp only at hf
  split at hf
  · rename_i q r
    cases hq : Nat.beq (lyC q) ci with
    | false => rw [hq] at hf; cases hf
    | true =>
      rw [hq] at hf
      cases hf
      have hv := fld_at ad u q (fks ci) 0 j d hk
      rw [fv, if_pos hd0, Nat.zero_add] at hv
      exact va_get C0.1 C0.2.1 (ci := ci) C0.2.2.2.2.1 cf.2.2.1 C0.2.2.2.1 C0.2.2.2.2.2.1 h0.1 q (wor_obj (beq_of hq) cf.1) cf.2.1 j hj (C0.2.2.2.2.1 _ hw) (fun _ h => h) hv hd (k H locs ls h0)
  · cases hf
theorem snd_getJ {ci C T N ty j idx} {d : Nat × Nat} (cf : CF ci C T N ty) (hj : j < N) (hk : (fks ci)[j]? = some d) (hd0 : d.1 = 1) (hw : Cond.fieldLink own idx (T j).1 (T j).2.1 (T j).2.2.1 ∈ gtb) (hd : decode cc pc = .ok (.getfield idx, 3)) : SndI own cc mx fr lc pc (o_getJ ci j (pc + 3)) := by
  intro dC dI dA ad aV A p l e R s m args below meth c H locs ls L S u st Q C0 h0 hf k
  unfold o_getJ at hf
  dsimp only at hf
  split at hf
  · rename_i q r
    cases hq : Nat.beq (lyC q) ci with
    | false => rw [hq] at hf; cases hf
    | true =>
      rw [hq] at hf
      cases hf
      have hv := fld_at ad u q (fks ci) 0 j d hk
      rw [fv, if_neg (by omega), if_pos hd0, Nat.zero_add] at hv
      exact va_get C0.1 C0.2.1 (ci := ci) C0.2.2.2.2.1 cf.2.2.1 C0.2.2.2.1 C0.2.2.2.2.2.1 h0.1 q (wor_obj (beq_of hq) cf.1) cf.2.1 j hj (C0.2.2.2.2.1 _ hw) (fun _ h => h) hv hd (k H locs ls h0)
  · cases hf
theorem snd_getR {ci C T N ty j idx} {d : Nat} (cf : CF ci C T N ty) (hj : j < N) (hk : (fks ci)[j]? = some (2, d)) (hw : Cond.fieldLink own idx (T j).1 (T j).2.1 (T j).2.2.1 ∈ gtb) (hd : decode cc pc = .ok (.getfield idx, 3)) : SndI own cc mx fr lc pc (o_getR ci j d (pc + 3)) := by
  intro dC dI dA ad aV A p l e R s m args below meth c H locs ls L S u st Q C0 h0 hf k
  unfold o_getR at hf
  dsimp only at hf
  split at hf
  · rename_i q r
    cases hq : Nat.beq (lyC q) ci with
    | false => rw [hq] at hf; cases hf
    | true =>
      rw [hq] at hf
      cases hf
      have hv : (fld ad u q 0 (fks ci))[j]? = some (.ref (ad (q + d))) := fld_at ad u q (fks ci) 0 j (2, d) hk
      exact va_get C0.1 C0.2.1 (ci := ci) C0.2.2.2.2.1 cf.2.2.1 C0.2.2.2.1 C0.2.2.2.2.2.1 h0.1 q (wor_obj (beq_of hq) cf.1) cf.2.1 j hj (C0.2.2.2.2.1 _ hw) (fun _ h => h) hv hd (k H locs ls h0)
  · cases hf
theorem fv_pI {ad : Nat → Nat} {u : Sg} {k j i : Nat} {v : Int32} {q : Nat × Nat} (h : ¬ (k = k ∧ i = j)) : fv ad (pI u k j v) k i q = fv ad u k i q := by
  unfold fv
  rw [gI_pI, gJ_pI, if_pos rfl, if_neg (fun z => h ⟨rfl, z⟩)]
theorem wce_pI {dA : Nat → ClassId} {ad : Nat → Nat} {u : Sg} {k j : Nat} {v : Int32} {i : Nat} (h : i ≠ k) : wce dA ad (pI u k j v) i = wce dA ad u i := by
  unfold wce
  have : ∀ (t : List (Nat × Nat)) (n : Nat), fld ad (pI u k j v) i n t = fld ad u i n t := by
    intro t
    induction t with
    | nil => intro n; rfl
    | cons a t ih => intro n; simp only [fld, ih]; unfold fv; rw [gI_pI, gJ_pI, if_neg h]
  rw [gA_pI, this]
theorem wce_pJ {dA : Nat → ClassId} {ad : Nat → Nat} {u : Sg} {k j : Nat} {v : Int64} {i : Nat} (h : i ≠ k) : wce dA ad (pJ u k j v) i = wce dA ad u i := by
  unfold wce
  have : ∀ (t : List (Nat × Nat)) (n : Nat), fld ad (pJ u k j v) i n t = fld ad u i n t := by
    intro t
    induction t with
    | nil => intro n; rfl
    | cons a t ih => intro n; simp only [fld, ih]; unfold fv; rw [gI_pJ, gJ_pJ, if_neg h]
  rw [gA_pJ, this]
theorem wce_pA {dA : Nat → ClassId} {ad : Nat → Nat} {u : Sg} {k : Nat} {f : Nat → Int32} {i : Nat} (h : i ≠ k) : wce dA ad (pA u k f) i = wce dA ad u i := by
  unfold wce
  have : ∀ (t : List (Nat × Nat)) (n : Nat), fld ad (pA u k f) i n t = fld ad u i n t := by
    intro t
    induction t with
    | nil => intro n; rfl
    | cons a t ih => intro n; simp only [fld, ih]; rfl
  rw [gA_pA, if_neg h, this]
theorem set_pI {dA : Nat → ClassId} {ad : Nat → Nat} {u : Sg} {k j ci : Nat} {v : Int32} {d : Nat × Nat} (hk : lyC k = ci) (hc : ci < 4) (hj : (fks ci)[j]? = some d) (hd0 : d.1 = 0) : (wor dA ad u).set k (ad k, .inr (ci, (fld ad u k 0 (fks ci)).set j (.int v))) = wor dA ad (pI u k j v) := by
  refine wor_set ?_ (fun i hi => wce_pI hi)
  rw [wce, if_neg (by omega), if_neg (by omega), hk]
  congr 2
  refine fld_set (fks ci) 0 j (fun i q hq hne => ?_) (fun q hq => ?_)
  · rw [Nat.zero_add]; exact fv_pI (fun z => hne z.2)
  · rw [hj] at hq
    cases hq
    rw [Nat.zero_add, fv, if_pos hd0, gI_pI, if_pos rfl, if_pos rfl]
theorem set_pJ {dA : Nat → ClassId} {ad : Nat → Nat} {u : Sg} {k j ci : Nat} {v : Int64} {d : Nat × Nat} (hk : lyC k = ci) (hc : ci < 4) (hj : (fks ci)[j]? = some d) (hd0 : d.1 = 1) : (wor dA ad u).set k (ad k, .inr (ci, (fld ad u k 0 (fks ci)).set j (.long v))) = wor dA ad (pJ u k j v) := by
  refine wor_set ?_ (fun i hi => wce_pJ hi)
  rw [wce, if_neg (by omega), if_neg (by omega), hk]
  congr 2
  refine fld_set (fks ci) 0 j (fun i q hq hne => ?_) (fun q hq => ?_)
  · unfold fv
    rw [Nat.zero_add, gI_pJ, gJ_pJ, if_pos rfl, if_neg hne]
  · rw [hj] at hq
    cases hq
    rw [Nat.zero_add, fv, if_neg (by omega), if_pos hd0, gJ_pJ, if_pos rfl, if_pos rfl]
theorem set_pA {dA : Nat → ClassId} {ad : Nat → Nat} {u : Sg} {k t : Nat} {f : Nat → Int32} (hk : lyC k = t) (ht : t = 4 ∨ t = 5) : (wor dA ad u).set k (ad k, .inl (dA (t - 4), lyN k, .inl f)) = wor dA ad (pA u k f) := by
  refine wor_set ?_ (fun i hi => wce_pA hi)
  rw [wce, gA_pA, if_pos rfl]
  rcases ht with rfl | rfl
  · rw [if_pos hk]
  · rw [if_neg (by omega), if_pos hk]
theorem snd_putI {ci C T N ty j idx} {d : Nat × Nat} (cf : CF ci C T N ty) (hj : j < N) (hk : (fks ci)[j]? = some d) (hd0 : d.1 = 0) (hfin : (T j).2.2.2 = false) (hty : parseFieldDescriptor (T j).2.2.1 = some .int) (hw : Cond.fieldLink own idx (T j).1 (T j).2.1 (T j).2.2.1 ∈ gtb) (hd : decode cc pc = .ok (.putfield idx, 3)) : SndI own cc mx fr lc pc (o_putI ci j (pc + 3)) := by
  intro dC dI dA ad aV A p l e R s m args below meth c H locs ls L S u st Q C0 h0 hf k
  unfold o_putI at hf
  dsimp only at hf
  split at hf
  · rename_i v q r
    cases hq : Nat.beq (lyC q) ci with
    | false => rw [hq] at hf; cases hf
    | true =>
      rw [hq] at hf
      cases hf
      have hv := fld_at ad u q (fks ci) 0 j d hk
      refine va_put (v := .int v) C0.1 C0.2.1 (ci := ci) C0.2.2.2.2.1 cf.2.2.1 ty cf.2.2.2.1 cf.2.2.2.2 C0.2.2.2.1 C0.2.2.2.2.2.1 h0.1 h0.2.1 h0.2.2.1 q (wor_obj (beq_of hq) cf.1) cf.2.1 j hj (C0.2.2.2.2.1 _ hw) (fun _ h => h) hfin hty rfl rfl (List.getElem?_eq_some_iff.mp hv).1 hd (fun H1 locs1 hP hD hS => ?_)
      rw [set_pI (beq_of hq) cf.1 hk hd0] at hP hD
      exact k H1 locs1 ls ⟨hP, hD, hS, h0.2.2.2⟩
  · cases hf
theorem snd_putZ {ci C T N ty j idx} {d : Nat × Nat} (cf : CF ci C T N ty) (hj : j < N) (hk : (fks ci)[j]? = some d) (hd0 : d.1 = 0) (hfin : (T j).2.2.2 = false) (hty : parseFieldDescriptor (T j).2.2.1 = some .boolean) (hw : Cond.fieldLink own idx (T j).1 (T j).2.1 (T j).2.2.1 ∈ gtb) (hd : decode cc pc = .ok (.putfield idx, 3)) : SndI own cc mx fr lc pc (o_putZ ci j (pc + 3)) := by
  intro dC dI dA ad aV A p l e R s m args below meth c H locs ls L S u st Q C0 h0 hf k
  unfold o_putZ at hf
  dsimp only at hf
  split at hf
  · rename_i v q r
    cases hq : Nat.beq (lyC q) ci with
    | false => rw [hq] at hf; cases hf
    | true =>
      rw [hq] at hf
      dsimp only [cond] at hf
      by_cases hz : v = 0 ∨ v = 1
      · rw [if_pos hz] at hf
        cases hf
        have hv := fld_at ad u q (fks ci) 0 j d hk
        refine va_put (v := .int v) C0.1 C0.2.1 (ci := ci) C0.2.2.2.2.1 cf.2.2.1 ty cf.2.2.2.1 cf.2.2.2.2 C0.2.2.2.1 C0.2.2.2.2.2.1 h0.1 h0.2.1 h0.2.2.1 q (wor_obj (beq_of hq) cf.1) cf.2.1 j hj (C0.2.2.2.2.1 _ hw) (fun _ h => h) hfin hty (by rcases hz with rfl | rfl <;> rfl) (by rcases hz with rfl | rfl <;> rfl) (List.getElem?_eq_some_iff.mp hv).1 hd (fun H1 locs1 hP hD hS => ?_)
        rw [set_pI (beq_of hq) cf.1 hk hd0] at hP hD
        exact k H1 locs1 ls ⟨hP, hD, hS, h0.2.2.2⟩
      · rw [if_neg hz] at hf; cases hf
  · cases hf
theorem snd_putJ {ci C T N ty j idx} {d : Nat × Nat} (cf : CF ci C T N ty) (hj : j < N) (hk : (fks ci)[j]? = some d) (hd0 : d.1 = 1) (hfin : (T j).2.2.2 = false) (hty : parseFieldDescriptor (T j).2.2.1 = some .long) (hw : Cond.fieldLink own idx (T j).1 (T j).2.1 (T j).2.2.1 ∈ gtb) (hd : decode cc pc = .ok (.putfield idx, 3)) : SndI own cc mx fr lc pc (o_putJ ci j (pc + 3)) := by
  intro dC dI dA ad aV A p l e R s m args below meth c H locs ls L S u st Q C0 h0 hf k
  unfold o_putJ at hf
  dsimp only at hf
  split at hf
  · rename_i v q r
    cases hq : Nat.beq (lyC q) ci with
    | false => rw [hq] at hf; cases hf
    | true =>
      rw [hq] at hf
      cases hf
      have hv := fld_at ad u q (fks ci) 0 j d hk
      refine va_put (v := .long v) C0.1 C0.2.1 (ci := ci) C0.2.2.2.2.1 cf.2.2.1 ty cf.2.2.2.1 cf.2.2.2.2 C0.2.2.2.1 C0.2.2.2.2.2.1 h0.1 h0.2.1 h0.2.2.1 q (wor_obj (beq_of hq) cf.1) cf.2.1 j hj (C0.2.2.2.2.1 _ hw) (fun _ h => h) hfin hty rfl rfl (List.getElem?_eq_some_iff.mp hv).1 hd (fun H1 locs1 hP hD hS => ?_)
      rw [set_pJ (beq_of hq) cf.1 hk hd0] at hP hD
      exact k H1 locs1 ls ⟨hP, hD, hS, h0.2.2.2⟩
  · cases hf
theorem snd_iald {nx} (hn : nx = pc + 1) (hd : decode cc pc = .ok (.iaload, 1)) : SndI own cc mx fr lc pc (o_iald 4 nx) := by
  intro dC dI dA ad aV A p l e R s m args below meth c H locs ls L S u st Q C0 h0 hf k
  subst hn
  unfold o_iald at hf
  dsimp only at hf
  split at hf
  · rename_i i q r
    cases hq : Nat.beq (lyC q) 4 with
    | false => rw [hq] at hf; cases hf
    | true =>
      rw [hq] at hf
      dsimp only [cond] at hf
      by_cases hz : 0 ≤ i.toInt ∧ i.toInt < lyN q
      · rw [if_pos hz] at hf
        cases hf
        exact va_iald C0.1 C0.2.1 C0.2.2.2.2.2.1 h0.1 q 0 (wor_arr (beq_of hq) (Or.inl rfl)) rfl (vp_in_iff.mpr hz) hd (k H locs ls h0)
      · rw [if_neg hz] at hf; cases hf
  · cases hf
theorem snd_bald {nx} (hn : nx = pc + 1) (hd : decode cc pc = .ok (.baload, 1)) : SndI own cc mx fr lc pc (o_iald 5 nx) := by
  intro dC dI dA ad aV A p l e R s m args below meth c H locs ls L S u st Q C0 h0 hf k
  subst hn
  unfold o_iald at hf
  dsimp only at hf
  split at hf
  · rename_i i q r
    cases hq : Nat.beq (lyC q) 5 with
    | false => rw [hq] at hf; cases hf
    | true =>
      rw [hq] at hf
      dsimp only [cond] at hf
      by_cases hz : 0 ≤ i.toInt ∧ i.toInt < lyN q
      · rw [if_pos hz] at hf
        cases hf
        exact va_bald C0.1 C0.2.1 C0.2.2.2.2.2.1 h0.1 q 1 (wor_arr (beq_of hq) (Or.inr rfl)) rfl (vp_in_iff.mpr hz) hd (k H locs ls h0)
      · rw [if_neg hz] at hf; cases hf
  · cases hf
theorem snd_iast (hd : decode cc pc = .ok (.iastore, 1)) : SndI own cc mx fr lc pc (o_iast (pc + 1)) := by
  intro dC dI dA ad aV A p l e R s m args below meth c H locs ls L S u st Q C0 h0 hf k
  unfold o_iast at hf
  dsimp only at hf
  split at hf
  · rename_i x i q r
    cases hq : Nat.beq (lyC q) 4 with
    | false => rw [hq] at hf; cases hf
    | true =>
      rw [hq] at hf
      dsimp only [cond] at hf
      by_cases hz : 0 ≤ i.toInt ∧ i.toInt < lyN q
      · rw [if_pos hz] at hf
        cases hf
        refine va_iast C0.1 C0.2.1 C0.2.2.2.2.2.1 h0.1 h0.2.1 h0.2.2.1 q 0 (wor_arr (beq_of hq) (Or.inl rfl)) rfl (vp_in_iff.mpr hz) hd (fun H1 locs1 hP hD hS => ?_)
        rw [set_pA (beq_of hq) (Or.inl rfl)] at hP hD
        exact k H1 locs1 ls ⟨hP, hD, hS, h0.2.2.2⟩
      · rw [if_neg hz] at hf; cases hf
  · cases hf
theorem snd_bast (hd : decode cc pc = .ok (.bastore, 1)) : SndI own cc mx fr lc pc (o_bast (pc + 1)) := by
  intro dC dI dA ad aV A p l e R s m args below meth c H locs ls L S u st Q C0 h0 hf k
  unfold o_bast at hf
  dsimp only at hf
  split at hf
  · rename_i x i q r
    cases hq : Nat.beq (lyC q) 5 with
    | false => rw [hq] at hf; cases hf
    | true =>
      rw [hq] at hf
      dsimp only [cond] at hf
      by_cases hz : 0 ≤ i.toInt ∧ i.toInt < lyN q
      · rw [if_pos hz] at hf
        cases hf
        refine va_bast C0.1 C0.2.1 C0.2.2.2.2.2.1 h0.1 h0.2.1 h0.2.2.1 q 1 (wor_arr (beq_of hq) (Or.inr rfl)) rfl (vp_in_iff.mpr hz) hd (fun H1 locs1 hP hD hS => ?_)
        rw [set_pA (beq_of hq) (Or.inr rfl)] at hP hD
        exact k H1 locs1 ls ⟨hP, hD, hS, h0.2.2.2⟩
      · rw [if_neg hz] at hf; cases hf
  · cases hf
theorem slc_sum (ad : Nat → Nat) : ∀ r : List Value, ((r.map (cvv ad)).map fun v => v.category).sum = slc r
  | [] => rfl
  | v :: t => by
    have := slc_sum ad t
    simp only [List.map_cons, List.sum_cons, cvv_cat, slc, this]
theorem ls_len {dC : Nat → ClassId} {dI : Nat → Nat → Nat} {dA : Nat → ClassId} {ad : Nat → Nat} {A : Nat → Prop} {H0 : Heap} {L : List (Option Value)} {u : Sg} {H : Heap} {locs : List Loc} {ls : Array Slot} (h : Hd dC dI dA ad A H0 mx L u H locs ls) {c : Code} (hc : c.maxLocals = mx) : c.maxLocals = ls.size := hc.trans h.2.2.2.1.symm

theorem snd_max {idx : Nat} (hw : Cond.methodLink own idx Lib.Math.max.name ∈ gtb) (h2 : Cond.static Lib.Math.max.name ∈ gtb) (h3 : Cond.initialized "java/lang/Math" ∈ gtb) (h4 : Cond.code Lib.Math.max.name Lib.Math.max.code 2 (some .int) ∈ gtb) (hfr : 1 ≤ fr) (hlc : 21 ≤ lc) (hd : decode cc pc = .ok (.invokestatic idx, 3)) : SndI own cc mx fr lc pc (o_max (pc + 3)) := by
  intro dC dI dA ad aV A p l e R s m args below meth c H locs ls L S u st Q C0 h0 hf k
  unfold o_max at hf
  dsimp only at hf
  split at hf
  · rename_i y x r
    cases hq : Nat.ble (slc r) 8 with
    | false => rw [hq] at hf; cases hf
    | true =>
      rw [hq] at hf
      cases hf
      have hr := Nat.le_of_ble_eq_true hq
      exact va_mmax C0.1 C0.2.1 (ls_len h0 C0.2.2.1) C0.2.2.2.1 (C0.2.2.2.2.1 _ hw) (C0.2.2.2.2.1 _ h2) (C0.2.2.2.2.1 _ h3) (C0.2.2.2.2.1 _ h4) (Nat.le_trans hfr C0.2.2.2.2.2.2.1) (by rw [slc_sum]; have := C0.2.2.2.2.2.2.2.1; omega) (Nat.zero_le _) (Nat.zero_le _) hd (k H locs ls h0)
  · cases hf
theorem snd_min {idx : Nat} (hw : Cond.methodLink own idx Lib.Math.min.name ∈ gtb) (h2 : Cond.static Lib.Math.min.name ∈ gtb) (h3 : Cond.initialized "java/lang/Math" ∈ gtb) (h4 : Cond.code Lib.Math.min.name Lib.Math.min.code 2 (some .int) ∈ gtb) (hfr : 1 ≤ fr) (hlc : 21 ≤ lc) (hd : decode cc pc = .ok (.invokestatic idx, 3)) : SndI own cc mx fr lc pc (o_min (pc + 3)) := by
  intro dC dI dA ad aV A p l e R s m args below meth c H locs ls L S u st Q C0 h0 hf k
  unfold o_min at hf
  dsimp only at hf
  split at hf
  · rename_i y x r
    cases hq : Nat.ble (slc r) 8 with
    | false => rw [hq] at hf; cases hf
    | true =>
      rw [hq] at hf
      cases hf
      have hr := Nat.le_of_ble_eq_true hq
      exact va_mmin C0.1 C0.2.1 (ls_len h0 C0.2.2.1) C0.2.2.2.1 (C0.2.2.2.2.1 _ hw) (C0.2.2.2.2.1 _ h2) (C0.2.2.2.2.1 _ h3) (C0.2.2.2.2.1 _ h4) (Nat.le_trans hfr C0.2.2.2.2.2.2.1) (by rw [slc_sum]; have := C0.2.2.2.2.2.2.2.1; omega) (Nat.zero_le _) (Nat.zero_le _) hd (k H locs ls h0)
  · cases hf
theorem snd_abs {idx : Nat} (hw : Cond.methodLink own idx Lib.Math.abs.name ∈ gtb) (h2 : Cond.static Lib.Math.abs.name ∈ gtb) (h3 : Cond.initialized "java/lang/Math" ∈ gtb) (h4 : Cond.code Lib.Math.abs.name Lib.Math.abs.code 1 (some .int) ∈ gtb) (hfr : 1 ≤ fr) (hlc : 21 ≤ lc) (hd : decode cc pc = .ok (.invokestatic idx, 3)) : SndI own cc mx fr lc pc (o_abs (pc + 3)) := by
  intro dC dI dA ad aV A p l e R s m args below meth c H locs ls L S u st Q C0 h0 hf k
  unfold o_abs at hf
  dsimp only at hf
  split at hf
  · rename_i x r
    cases hq : Nat.ble (slc r) 8 with
    | false => rw [hq] at hf; cases hf
    | true =>
      rw [hq] at hf
      cases hf
      have hr := Nat.le_of_ble_eq_true hq
      exact va_mabs C0.1 C0.2.1 (ls_len h0 C0.2.2.1) C0.2.2.2.1 (C0.2.2.2.2.1 _ hw) (C0.2.2.2.2.1 _ h2) (C0.2.2.2.2.1 _ h3) (C0.2.2.2.2.1 _ h4) (Nat.le_trans hfr C0.2.2.2.2.2.2.1) (by rw [slc_sum]; have := C0.2.2.2.2.2.2.2.1; omega) (Nat.zero_le _) (Nat.zero_le _) hd (k H locs ls h0)
  · cases hf
theorem nn_of {z : Int32} (h : 0 ≤ z.toInt) : ¬ z < 0 := by
  intro q
  have := Int32.lt_iff_toInt_lt.mp q
  have h0 : (0 : Int32).toInt = 0 := rfl
  omega
theorem cl_of {z : Int32} (h : 0 ≤ z.toInt) : (z.toNatClampNeg : Int) = z.toInt := by
  show ((z.toInt.toNat : Nat) : Int) = z.toInt
  omega
theorem snd_copy {idx : Nat} (hw : Cond.methodLink own idx arraycopyName ∈ gtb) (h2 : Cond.native arraycopyName ∈ gtb) (h3 : Cond.static arraycopyName ∈ gtb) (h4 : Cond.initialized "java/lang/System" ∈ gtb) (hfr : 1 ≤ fr) (hlc : 8 + (nativeFrameWords "java/lang/System" "arraycopy" 5 + 11) ≤ lc) (hd : decode cc pc = .ok (.invokestatic idx, 3)) : SndI own cc mx fr lc pc (o_copy (pc + 3)) := by
  intro dC dI dA ad aV A p l e R s m args below meth c H locs ls L S u st Q C0 h0 hf k
  unfold o_copy at hf
  dsimp only at hf
  split at hf
  · rename_i n dp b sp a r
    cases hq : (Nat.beq (lyC a) 4 && Nat.beq (lyC b) 4 && Nat.ble (slc r) 8) with
    | false => rw [hq] at hf; cases hf
    | true =>
      rw [hq] at hf
      dsimp only [cond] at hf
      simp only [Bool.and_eq_true] at hq
      obtain ⟨⟨q1, q2⟩, q3⟩ := hq
      have hr := Nat.le_of_ble_eq_true q3
      by_cases hz : 0 ≤ sp.toInt ∧ 0 ≤ dp.toInt ∧ 0 ≤ n.toInt ∧ sp.toInt + n.toInt ≤ lyN a ∧ dp.toInt + n.toInt ≤ lyN b
      · rw [if_pos hz] at hf
        cases hf
        obtain ⟨z1, z2, z3, z4, z5⟩ := hz
        have e1 := cl_of z1
        have e2 := cl_of z2
        have e3 := cl_of z3
        refine va_copyi C0.1 C0.2.1 (ls_len h0 C0.2.2.1) C0.2.2.2.1 (C0.2.2.2.2.1 _ hw) (C0.2.2.2.2.1 _ h2) (C0.2.2.2.2.1 _ h3) (C0.2.2.2.2.1 _ h4) C0.2.2.2.2.2.1 h0.1 h0.2.1 h0.2.2.1 a b 0 0 (wor_arr (beq_of q1) (Or.inl rfl)) (wor_arr (beq_of q2) (Or.inl rfl)) rfl rfl rfl (nn_of z1) (nn_of z2) (nn_of z3) (by omega) (by omega) (fun _ _ => rfl) (Nat.le_trans hfr C0.2.2.2.2.2.2.1) (by rw [slc_sum]; have := C0.2.2.2.2.2.2.2.1; omega) hd (fun H1 locs1 hP hD hS => ?_)
        rw [set_pA (beq_of q2) (Or.inl rfl)] at hP hD
        exact k H1 locs1 ls ⟨hP, hD, hS, h0.2.2.2⟩
      · rw [if_neg hz] at hf; cases hf
  · cases hf
theorem snd_tsw {dflt lo hi : Int} {offs : Array Int} {len d : Nat} {ts : List Nat} (hd : decode cc pc = .ok (.tableswitch dflt lo hi offs, len)) (h1 : (pc : Int) + dflt = (d : Int)) (h2 : offs.toList.map (fun o => (pc : Int) + o) = ts.map (fun t : Nat => (t : Int))) (h3 : hi = lo + ts.length - 1) : SndI own cc mx fr lc pc (o_tsw lo ts d) := by
  intro dC dI dA ad aV A p l e R s m args below meth c H locs ls L S u st Q C0 h0 hf k
  unfold o_tsw at hf
  dsimp only at hf
  split at hf
  · rename_i x r
    have hf := Option.some.inj hf
    by_cases hx : x.toInt < lo ∨ lo + ts.length ≤ x.toInt
    · rw [swT, if_pos hx] at hf
      subst hf
      exact lv_tableOut C0.1 C0.2.1 hd (by omega) h1 (k H locs ls h0)
    · rw [swT, if_neg hx] at hf
      have hl : (x.toInt - lo).toNat < ts.length := by omega
      have e1 : (offs.toList.map (fun o => (pc : Int) + o))[(x.toInt - lo).toNat]? = some ((ts[(x.toInt - lo).toNat]'hl : Nat) : Int) := by
        rw [h2, List.getElem?_map, List.getElem?_eq_getElem hl]
        rfl
      rw [List.getElem?_map] at e1
      cases ho : offs.toList[(x.toInt - lo).toNat]? with
      | none => rw [ho] at e1; cases e1
      | some o =>
        rw [ho] at e1
        have e2 := Option.some.inj e1
        have e3 : ts.getD (x.toInt - lo).toNat d = ts[(x.toInt - lo).toNat]'hl := by
          rw [List.getD_eq_getElem?_getD, List.getElem?_eq_getElem hl]
          rfl
        rw [e3] at hf
        subst hf
        exact lv_tableIn C0.1 C0.2.1 hd (by omega) (by omega) (by rw [← Array.getElem?_toList]; exact ho) e2 (k H locs ls h0)
  · cases hf
theorem snd_lsw {dflt : Int} {ps : Array (Int × Int)} {len d : Nat} {qs : List (Int × Nat)} (hd : decode cc pc = .ok (.lookupswitch dflt ps, len)) (hp : (ps.toList.zip (ps.toList.drop 1)).all (fun (a, next) => a.1 < next.1) = true) (h1 : (pc : Int) + dflt = (d : Int)) (h2 : ∀ x : Int32, (pc : Int) + Op.lookupswitch.offset ps.toList dflt x.toInt = (swL qs d x : Int)) : SndI own cc mx fr lc pc (o_lsw qs d) := by
  intro dC dI dA ad aV A p l e R s m args below meth c H locs ls L S u st Q C0 h0 hf k
  unfold o_lsw at hf
  dsimp only at hf
  split at hf
  · rename_i x r
    cases hf
    exact lv_lookup C0.1 C0.2.1 hd hp rfl (h2 x) (k H locs ls h0)
  · cases hf

end SND
