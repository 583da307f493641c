section
/-! ===== THE SMALL MACHINE: a heap of 63 cells of fixed kinds, as three functions; instructions as functions; runs by fuel ===== -/
/-- int fields (cell, slot), long fields (cell, slot), arrays (cell, place) -/
abbrev Sg : Type := (Nat → Nat → Int32) × (Nat → Nat → Int64) × (Nat → Nat → Int32)
def gI (u : Sg) (k j : Nat) : Int32 := u.1 k j
def gJ (u : Sg) (k j : Nat) : Int64 := u.2.1 k j
def gA (u : Sg) (k : Nat) : Nat → Int32 := u.2.2 k
def pI (u : Sg) (k j : Nat) (v : Int32) : Sg := (fun k' j' => if k' = k then (if j' = j then v else u.1 k' j') else u.1 k' j', u.2)
def pJ (u : Sg) (k j : Nat) (v : Int64) : Sg := (u.1, fun k' j' => if k' = k then (if j' = j then v else u.2.1 k' j') else u.2.1 k' j', u.2.2)
def pA (u : Sg) (k : Nat) (f : Nat → Int32) : Sg := (u.1, u.2.1, fun k' => if k' = k then f else u.2.2 k')
theorem gI_pI (u : Sg) (k j : Nat) (v : Int32) (k' j' : Nat) : gI (pI u k j v) k' j' = if k' = k then (if j' = j then v else gI u k' j') else gI u k' j' := rfl
theorem gI_pJ (u : Sg) (k j : Nat) (v : Int64) (k' j' : Nat) : gI (pJ u k j v) k' j' = gI u k' j' := rfl
theorem gI_pA (u : Sg) (k : Nat) (f : Nat → Int32) (k' j' : Nat) : gI (pA u k f) k' j' = gI u k' j' := rfl
theorem gJ_pI (u : Sg) (k j : Nat) (v : Int32) (k' j' : Nat) : gJ (pI u k j v) k' j' = gJ u k' j' := rfl
theorem gJ_pJ (u : Sg) (k j : Nat) (v : Int64) (k' j' : Nat) : gJ (pJ u k j v) k' j' = if k' = k then (if j' = j then v else gJ u k' j') else gJ u k' j' := rfl
theorem gJ_pA (u : Sg) (k : Nat) (f : Nat → Int32) (k' j' : Nat) : gJ (pA u k f) k' j' = gJ u k' j' := rfl
theorem gA_pI (u : Sg) (k j : Nat) (v : Int32) (k' : Nat) : gA (pI u k j v) k' = gA u k' := rfl
theorem gA_pJ (u : Sg) (k j : Nat) (v : Int64) (k' : Nat) : gA (pJ u k j v) k' = gA u k' := rfl
theorem gA_pA (u : Sg) (k : Nat) (f : Nat → Int32) (k' : Nat) : gA (pA u k f) k' = if k' = k then f else gA u k' := rfl
theorem Sg_ext {u v : Sg} (h1 : ∀ k j, gI u k j = gI v k j) (h2 : ∀ k j, gJ u k j = gJ v k j) (h3 : ∀ k j, gA u k j = gA v k j) : u = v := by
  obtain ⟨a, b, c⟩ := u
  obtain ⟨a2, b2, c2⟩ := v
  have e1 : a = a2 := funext fun k => funext fun j => h1 k j
  have e2 : b = b2 := funext fun k => funext fun j => h2 k j
  have e3 : c = c2 := funext fun k => funext fun j => h3 k j
  rw [e1, e2, e3]
/-- the kind of each cell: 0 House, 1 Reader, 2 BorrowedVoice, 3 the reference, 4 int array, 5 byte array -/
def lyL : List Nat := [2, 0,4,4,4,4,4,4,4,4, 0,4,4,4,4,4,4,4,4, 0,4,4,4,4,4,4,4,4, 0,4,4,4,4,4,4,4,4, 1,5, 4,4, 3, 4,4,4,4,4,4,4,4,4,4,4,4,4,4,4,4,4,4,4,4,4]
/-- the length of each array -/
def lnL : List Nat := [0, 0,6,6,6,6,6,6,30,152, 0,6,6,6,6,6,6,30,152, 0,6,6,6,6,6,6,30,152, 0,6,6,6,6,6,6,30,152, 0,150, 64,64, 0, 3,6,6,6,6,6,6,6,6,6,6,6,150,18,6,152,19,6,6,460,2]
def nth : List Nat → Nat → Nat
  | [], _ => 9
  | a :: _, 0 => a
  | _ :: t, n + 1 => nth t n
def lyC (k : Nat) : Nat := nth lyL k
def lyN (k : Nat) : Nat := nth lnL k
/-- a state: place, locals, operands, heap -/
abbrev St : Type := Nat × List (Option Value) × List Value × Sg
def lk : List (Option Value) → Nat → Option Value
  | [], _ => none
  | a :: _, 0 => a
  | _ :: t, n + 1 => lk t n
def isL : Option Value → Bool
  | some (.long _) => true
  | some (.double _) => true
  | _ => false
/-- a value of one slot into place i: what it cuts in two is lost -/
def sto1 : List (Option Value) → Nat → Value → List (Option Value)
  | [], _, _ => []
  | _ :: t, 0, v => some v :: t
  | a :: t, 1, v => cond (isL a) none a :: sto1 t 0 v
  | a :: t, n + 2, v => a :: sto1 t (n + 1) v
/-- a value of two slots into places i, i + 1 -/
def sto2 : List (Option Value) → Nat → Value → List (Option Value)
  | [], _, _ => []
  | _ :: [], 0, _ => [none]
  | _ :: _ :: t, 0, v => some v :: none :: t
  | a :: t, 1, v => cond (isL a) none a :: sto2 t 0 v
  | a :: t, n + 2, v => a :: sto2 t (n + 1) v
/-- the locals at the entry -/
def ent : Nat → List Value → List (Option Value)
  | n, [] => List.replicate n none
  | 0, _ => []
  | n + 1, .long v :: t => some (.long v) :: (match n with | 0 => [] | n + 1 => none :: ent n t)
  | n + 1, .double v :: t => some (.double v) :: (match n with | 0 => [] | n + 1 => none :: ent n t)
  | n + 1, v :: t => some v :: ent n t
abbrev AI : Type := (St → Option St) ⊕ (Nat ⊕ (Nat × Nat × Nat × Nat))
/-- the receiver is of the kind rc (9: there is none) -/
def rck (rc : Nat) : List Value → Bool
  | .ref k :: _ => Nat.beq (lyC k) rc || Nat.beq rc 9
  | _ => Nat.beq rc 9
/-- how many slots these values take -/
def slc : List Value → Nat
  | [] => 0
  | v :: t => v.category + slc t
/-- the texts: counter, one, leave, lend -/
def txL : List (List Nat) := [[99, 111, 117, 110, 116, 101, 114], [111, 110, 101], [108, 101, 97, 118, 101], [108, 101, 110, 100]]
def txt (j : Nat) : List Nat := txL.getD j []

def o_iconst (v : Int32) (nxt : Nat) : St → Option St := fun st => some (nxt, st.2.1, .int v :: st.2.2.1, st.2.2.2)
def o_lconst (v : Int64) (nxt : Nat) : St → Option St := fun st => some (nxt, st.2.1, .long v :: st.2.2.1, st.2.2.2)
def o_str (j nxt : Nat) : St → Option St := fun st => some (nxt, st.2.1, .ref (100 + j) :: st.2.2.1, st.2.2.2)
def o_iload (i nxt : Nat) : St → Option St := fun st => match lk st.2.1 i with
  | some (.int x) => some (nxt, st.2.1, .int x :: st.2.2.1, st.2.2.2)
  | _ => none
def o_lload (i nxt : Nat) : St → Option St := fun st => match lk st.2.1 i with
  | some (.long x) => some (nxt, st.2.1, .long x :: st.2.2.1, st.2.2.2)
  | _ => none
def o_aload (i nxt : Nat) : St → Option St := fun st => match lk st.2.1 i with
  | some (.ref x) => some (nxt, st.2.1, .ref x :: st.2.2.1, st.2.2.2)
  | _ => none
def o_istore (i nxt : Nat) : St → Option St := fun st => match st.2.2.1 with
  | .int x :: r => some (nxt, sto1 st.2.1 i (.int x), r, st.2.2.2)
  | _ => none
def o_lstore (i nxt : Nat) : St → Option St := fun st => match st.2.2.1 with
  | .long x :: r => some (nxt, sto2 st.2.1 i (.long x), r, st.2.2.2)
  | _ => none
def o_iinc (i : Nat) (n : Int32) (nxt : Nat) : St → Option St := fun st => match lk st.2.1 i with
  | some (.int x) => some (nxt, sto1 st.2.1 i (.int (x + n)), st.2.2.1, st.2.2.2)
  | _ => none
def o_iadd (nxt : Nat) : St → Option St := fun st => match st.2.2.1 with
  | .int y :: .int x :: r => some (nxt, st.2.1, .int (x + y) :: r, st.2.2.2)
  | _ => none
def o_isub (nxt : Nat) : St → Option St := fun st => match st.2.2.1 with
  | .int y :: .int x :: r => some (nxt, st.2.1, .int (x - y) :: r, st.2.2.2)
  | _ => none
def o_imul (nxt : Nat) : St → Option St := fun st => match st.2.2.1 with
  | .int y :: .int x :: r => some (nxt, st.2.1, .int (x * y) :: r, st.2.2.2)
  | _ => none
def o_iand (nxt : Nat) : St → Option St := fun st => match st.2.2.1 with
  | .int y :: .int x :: r => some (nxt, st.2.1, .int (x &&& y) :: r, st.2.2.2)
  | _ => none
def o_ior (nxt : Nat) : St → Option St := fun st => match st.2.2.1 with
  | .int y :: .int x :: r => some (nxt, st.2.1, .int (x ||| y) :: r, st.2.2.2)
  | _ => none
def o_ixor (nxt : Nat) : St → Option St := fun st => match st.2.2.1 with
  | .int y :: .int x :: r => some (nxt, st.2.1, .int (x ^^^ y) :: r, st.2.2.2)
  | _ => none
def o_ishl (nxt : Nat) : St → Option St := fun st => match st.2.2.1 with
  | .int y :: .int x :: r => some (nxt, st.2.1, .int (x <<< (y &&& 31)) :: r, st.2.2.2)
  | _ => none
def o_ishr (nxt : Nat) : St → Option St := fun st => match st.2.2.1 with
  | .int y :: .int x :: r => some (nxt, st.2.1, .int (x >>> (y &&& 31)) :: r, st.2.2.2)
  | _ => none
def o_iushr (nxt : Nat) : St → Option St := fun st => match st.2.2.1 with
  | .int y :: .int x :: r => some (nxt, st.2.1, .int ((x.toUInt32 >>> (y.toUInt32 &&& Int32.toUInt32 31)).toInt32) :: r, st.2.2.2)
  | _ => none
def o_ladd (nxt : Nat) : St → Option St := fun st => match st.2.2.1 with
  | .long y :: .long x :: r => some (nxt, st.2.1, .long (x + y) :: r, st.2.2.2)
  | _ => none
def o_lsub (nxt : Nat) : St → Option St := fun st => match st.2.2.1 with
  | .long y :: .long x :: r => some (nxt, st.2.1, .long (x - y) :: r, st.2.2.2)
  | _ => none
def o_lmul (nxt : Nat) : St → Option St := fun st => match st.2.2.1 with
  | .long y :: .long x :: r => some (nxt, st.2.1, .long (x * y) :: r, st.2.2.2)
  | _ => none
def o_idiv (nxt : Nat) : St → Option St := fun st => match st.2.2.1 with
  | .int y :: .int x :: r => if y = 0 then none else some (nxt, st.2.1, .int (x / y) :: r, st.2.2.2)
  | _ => none
def o_irem (nxt : Nat) : St → Option St := fun st => match st.2.2.1 with
  | .int y :: .int x :: r => if y = 0 then none else some (nxt, st.2.1, .int (x - x / y * y) :: r, st.2.2.2)
  | _ => none
def o_ldiv (nxt : Nat) : St → Option St := fun st => match st.2.2.1 with
  | .long y :: .long x :: r => if y = 0 then none else some (nxt, st.2.1, .long (x / y) :: r, st.2.2.2)
  | _ => none
def o_lrem (nxt : Nat) : St → Option St := fun st => match st.2.2.1 with
  | .long y :: .long x :: r => if y = 0 then none else some (nxt, st.2.1, .long (x - x / y * y) :: r, st.2.2.2)
  | _ => none
def o_lcmp (nxt : Nat) : St → Option St := fun st => match st.2.2.1 with
  | .long y :: .long x :: r => some (nxt, st.2.1, .int (lg_cmp x y) :: r, st.2.2.2)
  | _ => none
def o_ineg (nxt : Nat) : St → Option St := fun st => match st.2.2.1 with
  | .int x :: r => some (nxt, st.2.1, .int (0 - x) :: r, st.2.2.2)
  | _ => none
def o_i2l (nxt : Nat) : St → Option St := fun st => match st.2.2.1 with
  | .int x :: r => some (nxt, st.2.1, .long x.toInt64 :: r, st.2.2.2)
  | _ => none
def o_l2i (nxt : Nat) : St → Option St := fun st => match st.2.2.1 with
  | .long x :: r => some (nxt, st.2.1, .int x.toInt32 :: r, st.2.2.2)
  | _ => none
def o_i2b (nxt : Nat) : St → Option St := fun st => match st.2.2.1 with
  | .int x :: r => some (nxt, st.2.1, .int x.toInt8.toInt32 :: r, st.2.2.2)
  | _ => none
def o_dup (nxt : Nat) : St → Option St := fun st => match st.2.2.1 with
  | .int x :: r => some (nxt, st.2.1, .int x :: .int x :: r, st.2.2.2)
  | .ref x :: r => some (nxt, st.2.1, .ref x :: .ref x :: r, st.2.2.2)
  | _ => none
def o_pop (nxt : Nat) : St → Option St := fun st => match st.2.2.1 with
  | .int x :: r => some (nxt, st.2.1, r, st.2.2.2)
  | _ => none
def o_dup2 (nxt : Nat) : St → Option St := fun st => match st.2.2.1 with
  | .int x :: .ref y :: r => some (nxt, st.2.1, .int x :: .ref y :: .int x :: .ref y :: r, st.2.2.2)
  | _ => none
def o_getI (c j nxt : Nat) : St → Option St := fun st => match st.2.2.1 with
  | .ref k :: r => cond (Nat.beq (lyC k) c) (some (nxt, st.2.1, .int (gI st.2.2.2 k j) :: r, st.2.2.2)) none
  | _ => none
def o_getJ (c j nxt : Nat) : St → Option St := fun st => match st.2.2.1 with
  | .ref k :: r => cond (Nat.beq (lyC k) c) (some (nxt, st.2.1, .long (gJ st.2.2.2 k j) :: r, st.2.2.2)) none
  | _ => none
/-- a field that holds the cell d places on -/
def o_getR (c j d nxt : Nat) : St → Option St := fun st => match st.2.2.1 with
  | .ref k :: r => cond (Nat.beq (lyC k) c) (some (nxt, st.2.1, .ref (k + d) :: r, st.2.2.2)) none
  | _ => none
def o_putI (c j nxt : Nat) : St → Option St := fun st => match st.2.2.1 with
  | .int v :: .ref k :: r => cond (Nat.beq (lyC k) c) (some (nxt, st.2.1, r, pI st.2.2.2 k j v)) none
  | _ => none
def o_putJ (c j nxt : Nat) : St → Option St := fun st => match st.2.2.1 with
  | .long v :: .ref k :: r => cond (Nat.beq (lyC k) c) (some (nxt, st.2.1, r, pJ st.2.2.2 k j v)) none
  | _ => none
def o_putZ (c j nxt : Nat) : St → Option St := fun st => match st.2.2.1 with
  | .int v :: .ref k :: r => cond (Nat.beq (lyC k) c) (if v = 0 ∨ v = 1 then some (nxt, st.2.1, r, pI st.2.2.2 k j v) else none) none
  | _ => none
def inA (i : Int32) (n : Nat) : Prop := 0 ≤ i.toInt ∧ i.toInt < n
def o_iald (t nxt : Nat) : St → Option St := fun st => match st.2.2.1 with
  | .int i :: .ref k :: r => cond (Nat.beq (lyC k) t) (if 0 ≤ i.toInt ∧ i.toInt < lyN k then some (nxt, st.2.1, .int (gA st.2.2.2 k i.toNatClampNeg) :: r, st.2.2.2) else none) none
  | _ => none
def o_iast (nxt : Nat) : St → Option St := fun st => match st.2.2.1 with
  | .int x :: .int i :: .ref k :: r => cond (Nat.beq (lyC k) 4) (if 0 ≤ i.toInt ∧ i.toInt < lyN k then some (nxt, st.2.1, r, pA st.2.2.2 k (upd (gA st.2.2.2 k) i.toNatClampNeg x)) else none) none
  | _ => none
def o_bast (nxt : Nat) : St → Option St := fun st => match st.2.2.1 with
  | .int x :: .int i :: .ref k :: r => cond (Nat.beq (lyC k) 5) (if 0 ≤ i.toInt ∧ i.toInt < lyN k then some (nxt, st.2.1, r, pA st.2.2.2 k (upd (gA st.2.2.2 k) i.toNatClampNeg (vp_nar .byte x))) else none) none
  | _ => none
def o_goto (tgt : Nat) : St → Option St := fun st => some (tgt, st.2.1, st.2.2.1, st.2.2.2)

def o_ifeq (tgt nxt : Nat) : St → Option St := fun st => match st.2.2.1 with
  | .int x :: r => some (if x = 0 then (tgt, st.2.1, r, st.2.2.2) else (nxt, st.2.1, r, st.2.2.2))
  | _ => none
def o_ifne (tgt nxt : Nat) : St → Option St := fun st => match st.2.2.1 with
  | .int x :: r => some (if ¬ x = 0 then (tgt, st.2.1, r, st.2.2.2) else (nxt, st.2.1, r, st.2.2.2))
  | _ => none
def o_iflt (tgt nxt : Nat) : St → Option St := fun st => match st.2.2.1 with
  | .int x :: r => some (if x < 0 then (tgt, st.2.1, r, st.2.2.2) else (nxt, st.2.1, r, st.2.2.2))
  | _ => none
def o_ifge (tgt nxt : Nat) : St → Option St := fun st => match st.2.2.1 with
  | .int x :: r => some (if 0 ≤ x then (tgt, st.2.1, r, st.2.2.2) else (nxt, st.2.1, r, st.2.2.2))
  | _ => none
def o_ifgt (tgt nxt : Nat) : St → Option St := fun st => match st.2.2.1 with
  | .int x :: r => some (if 0 < x then (tgt, st.2.1, r, st.2.2.2) else (nxt, st.2.1, r, st.2.2.2))
  | _ => none
def o_ifle (tgt nxt : Nat) : St → Option St := fun st => match st.2.2.1 with
  | .int x :: r => some (if x ≤ 0 then (tgt, st.2.1, r, st.2.2.2) else (nxt, st.2.1, r, st.2.2.2))
  | _ => none
def o_iceq (tgt nxt : Nat) : St → Option St := fun st => match st.2.2.1 with
  | .int y :: .int x :: r => some (if x = y then (tgt, st.2.1, r, st.2.2.2) else (nxt, st.2.1, r, st.2.2.2))
  | _ => none
def o_icne (tgt nxt : Nat) : St → Option St := fun st => match st.2.2.1 with
  | .int y :: .int x :: r => some (if ¬ x = y then (tgt, st.2.1, r, st.2.2.2) else (nxt, st.2.1, r, st.2.2.2))
  | _ => none
def o_iclt (tgt nxt : Nat) : St → Option St := fun st => match st.2.2.1 with
  | .int y :: .int x :: r => some (if x < y then (tgt, st.2.1, r, st.2.2.2) else (nxt, st.2.1, r, st.2.2.2))
  | _ => none
def o_icge (tgt nxt : Nat) : St → Option St := fun st => match st.2.2.1 with
  | .int y :: .int x :: r => some (if y ≤ x then (tgt, st.2.1, r, st.2.2.2) else (nxt, st.2.1, r, st.2.2.2))
  | _ => none
def o_icgt (tgt nxt : Nat) : St → Option St := fun st => match st.2.2.1 with
  | .int y :: .int x :: r => some (if y < x then (tgt, st.2.1, r, st.2.2.2) else (nxt, st.2.1, r, st.2.2.2))
  | _ => none
def o_icle (tgt nxt : Nat) : St → Option St := fun st => match st.2.2.1 with
  | .int y :: .int x :: r => some (if x ≤ y then (tgt, st.2.1, r, st.2.2.2) else (nxt, st.2.1, r, st.2.2.2))
  | _ => none
/-- a switch over 0 .. n - 1 less lo -/
def swT (lo : Int) (ts : List Nat) (d : Nat) (x : Int32) : Nat := if x.toInt < lo ∨ lo + ts.length ≤ x.toInt then d else ts.getD (x.toInt - lo).toNat d
def o_tsw (lo : Int) (ts : List Nat) (d : Nat) : St → Option St := fun st => match st.2.2.1 with
  | .int x :: r => some (swT lo ts d x, st.2.1, r, st.2.2.2)
  | _ => none
def swL : List (Int × Nat) → Nat → Int32 → Nat
  | [], d, _ => d
  | q :: t, d, x => if x.toInt = q.1 then q.2 else swL t d x
def o_lsw (ps : List (Int × Nat)) (d : Nat) : St → Option St := fun st => match st.2.2.1 with
  | .int x :: r => some (swL ps d x, st.2.1, r, st.2.2.2)
  | _ => none
def o_max (nxt : Nat) : St → Option St := fun st => match st.2.2.1 with
  | .int y :: .int x :: r => cond (Nat.ble (slc r) 8) (some (nxt, st.2.1, .int (if x < y then y else x) :: r, st.2.2.2)) none
  | _ => none
def o_min (nxt : Nat) : St → Option St := fun st => match st.2.2.1 with
  | .int y :: .int x :: r => cond (Nat.ble (slc r) 8) (some (nxt, st.2.1, .int (if y < x then y else x) :: r, st.2.2.2)) none
  | _ => none
def o_abs (nxt : Nat) : St → Option St := fun st => match st.2.2.1 with
  | .int x :: r => cond (Nat.ble (slc r) 8) (some (nxt, st.2.1, .int (if 0 ≤ x then x else 0 - x) :: r, st.2.2.2)) none
  | _ => none
/-- System.arraycopy of int arrays -/
def o_copy (nxt : Nat) : St → Option St := fun st => match st.2.2.1 with
  | .int n :: .int dp :: .ref b :: .int sp :: .ref a :: r => cond (Nat.beq (lyC a) 4 && Nat.beq (lyC b) 4 && Nat.ble (slc r) 8) (if 0 ≤ sp.toInt ∧ 0 ≤ dp.toInt ∧ 0 ≤ n.toInt ∧ sp.toInt + n.toInt ≤ lyN a ∧ dp.toInt + n.toInt ≤ lyN b then some (nxt, st.2.1, r, pA st.2.2.2 b (va_cpy (gA st.2.2.2 a) (gA st.2.2.2 b) sp.toNatClampNeg dp.toNatClampNeg n.toNatClampNeg)) else none) none
  | _ => none
def o_slen (nxt : Nat) : St → Option St := fun st => match st.2.2.1 with
  | .ref k :: r => if 100 ≤ k ∧ k < 104 ∧ slc r ≤ 8 then some (nxt, st.2.1, .int (nI (txt (k - 100)).length) :: r, st.2.2.2) else none
  | _ => none
def o_schr (nxt : Nat) : St → Option St := fun st => match st.2.2.1 with
  | .int i :: .ref k :: r => if 100 ≤ k ∧ k < 104 ∧ 0 ≤ i.toInt ∧ i.toInt < (txt (k - 100)).length ∧ slc r ≤ 8 then some (nxt, st.2.1, .int (nI ((txt (k - 100)).getD i.toNatClampNeg 0)) :: r, st.2.2.2) else none
  | _ => none
/-- runs: by fuel; a table tells each method's instructions by their places -/
abbrev PT : Type := Nat → Nat → Option AI
def rn (P : PT) : Nat → Nat → St → Option (Option Value × Sg)
  | 0, _, _ => none
  | n + 1, m, st => match P m st.1 with
    | none => none
    | some (.inl f) => match f st with
      | none => none
      | some st' => rn P n m st'
    | some (.inr (.inl k)) => match k, st.2.2.1 with
      | 0, [] => some (none, st.2.2.2)
      | 1, [.int v] => some (some (.int v), st.2.2.2)
      | 2, [.long v] => some (some (.long v), st.2.2.2)
      | 3, [.int v] => if v = 0 ∨ v = 1 then some (some (.int v), st.2.2.2) else none
      | _, _ => none
    | some (.inr (.inr (y, na, mx, rc))) => match cond (Nat.ble na st.2.2.1.length && Nat.ble (slc (st.2.2.1.take na)) mx && Nat.ble (slc (st.2.2.1.drop na)) 8 && rck rc (st.2.2.1.take na).reverse) (rn P n y (0, ent mx (st.2.2.1.take na).reverse, [], st.2.2.2)) none with
      | none => none
      | some (r, u) => rn P n m (st.1 + 3, st.2.1, r.toList ++ st.2.2.1.drop na, u)
theorem rn_succ (P : PT) : ∀ (n m : Nat) (st : St) (x : Option Value × Sg), rn P n m st = some x → rn P (n + 1) m st = some x
  | 0, m, st, x, h => by simp [rn] at h
  | n + 1, m, st, x, h => by
    rw [rn] at h ⊢
    cases hp : P m st.1 with
    | none => rw [hp] at h; cases h
    | some a =>
      rw [hp] at h
      rcases a with f | k | ⟨y, na, mx, rc⟩
      · dsimp only at h ⊢
        cases hf : f st with
        | none => rw [hf] at h; cases h
        | some st' => rw [hf] at h; exact rn_succ P n m st' x h
      · exact h
      · dsimp only at h ⊢
        cases hz : (Nat.ble na st.2.2.1.length && Nat.ble (slc (st.2.2.1.take na)) mx && Nat.ble (slc (st.2.2.1.drop na)) 8 && rck rc (st.2.2.1.take na).reverse) with
        | false => rw [hz] at h; cases h
        | true =>
          rw [hz] at h
          dsimp only [cond] at h ⊢
          cases hc : rn P n y (0, ent mx (st.2.2.1.take na).reverse, [], st.2.2.2) with
          | none => rw [hc] at h; cases h
          | some q =>
            rw [hc] at h
            rw [rn_succ P n y _ q hc]
            exact rn_succ P n m _ x h
theorem rn_le (P : PT) {n k m : Nat} {st : St} {x : Option Value × Sg} (h : rn P n m st = some x) : rn P (n + k) m st = some x := by
  induction k with
  | zero => exact h
  | succ k ih => exact rn_succ P _ _ _ _ ih
/-- from this state the method comes to its end, with Q -/
def VV (P : PT) (m : Nat) (st : St) (Q : Option Value → Sg → Prop) : Prop := ∃ (n : Nat) (r : Option Value) (u : Sg), rn P n m st = some (r, u) ∧ Q r u
theorem VV.s {P : PT} {m : Nat} {st st' : St} {Q : Option Value → Sg → Prop} {f : St → Option St} (hp : P m st.1 = some (.inl f)) (hf : f st = some st') (k : VV P m st' Q) : VV P m st Q := by
  obtain ⟨n, r, u, h, q⟩ := k
  refine ⟨n + 1, r, u, ?_, q⟩
  rw [rn, hp]
  dsimp only
  rw [hf]
  exact h
theorem VV.mono {P : PT} {m : Nat} {st : St} {Q Q' : Option Value → Sg → Prop} (k : VV P m st Q) (h : ∀ r u, Q r u → Q' r u) : VV P m st Q' := by
  obtain ⟨n, r, u, a, q⟩ := k
  exact ⟨n, r, u, a, h r u q⟩
theorem VV.ite {P : PT} {m : Nat} {c : Prop} [Decidable c] {a b : St} {Q : Option Value → Sg → Prop} (h1 : c → VV P m a Q) (h2 : ¬ c → VV P m b Q) : VV P m (if c then a else b) Q := by
  by_cases h : c
  · rw [if_pos h]; exact h1 h
  · rw [if_neg h]; exact h2 h
theorem VV.itt {P : PT} {m : Nat} {c : Prop} [Decidable c] {a b : St} {Q : Option Value → Sg → Prop} (h : c) (h1 : VV P m a Q) : VV P m (if c then a else b) Q := by rw [if_pos h]; exact h1
theorem VV.itf {P : PT} {m : Nat} {c : Prop} [Decidable c] {a b : St} {Q : Option Value → Sg → Prop} (h : ¬ c) (h1 : VV P m b Q) : VV P m (if c then a else b) Q := by rw [if_neg h]; exact h1
theorem VV.eq {P : PT} {m : Nat} {a b : St} {Q : Option Value → Sg → Prop} (h : a = b) (k : VV P m b Q) : VV P m a Q := h ▸ k
theorem VV.call {P : PT} {m pc : Nat} {L : List (Option Value)} {S : List Value} {u : Sg} {Q Qc : Option Value → Sg → Prop} {y na mx rc : Nat} (hp : P m pc = some (.inr (.inr (y, na, mx, rc)))) {E : List (Option Value)} {S' : List Value} (he : ent mx (S.take na).reverse = E) (hs : S.drop na = S') (hz : (Nat.ble na S.length && Nat.ble (slc (S.take na)) mx && Nat.ble (slc (S.drop na)) 8 && rck rc (S.take na).reverse) = true) (hc : VV P y (0, E, [], u) Qc)
    (k : ∀ (r : Option Value) (u' : Sg), Qc r u' → VV P m (pc + 3, L, r.toList ++ S', u') Q) : VV P m (pc, L, S, u) Q := by
  obtain ⟨n1, r, u1, h1, q1⟩ := hc
  obtain ⟨n2, r2, u2, h2, q2⟩ := k r u1 q1
  refine ⟨n1 + n2 + 1, r2, u2, ?_, q2⟩
  rw [rn]
  dsimp only
  rw [hp]
  dsimp only
  rw [hz, he, rn_le P (k := n2) h1]
  dsimp only [cond]
  rw [hs, Nat.add_comm n1 n2]
  exact rn_le P h2
/-- a call whose answer and heap are told -/
theorem VV.callE {P : PT} {m pc : Nat} {L : List (Option Value)} {S : List Value} {u : Sg} {Q : Option Value → Sg → Prop} {y na mx rc : Nat} (hp : P m pc = some (.inr (.inr (y, na, mx, rc)))) {E : List (Option Value)} {S' : List Value} (he : ent mx (S.take na).reverse = E) (hs : S.drop na = S') (hz : (Nat.ble na S.length && Nat.ble (slc (S.take na)) mx && Nat.ble (slc (S.drop na)) 8 && rck rc (S.take na).reverse) = true) {v : Value} {u1 : Sg} (hc : VV P y (0, E, [], u) (fun r t => r = some v ∧ t = u1)) {nx : Nat} (hn : pc + 3 = nx)
    (k : VV P m (nx, L, v :: S', u1) Q) : VV P m (pc, L, S, u) Q := by
  subst hn
  exact VV.call hp he hs hz hc (fun r t q => by obtain ⟨rfl, rfl⟩ := q; exact k)
theorem VV.callV {P : PT} {m pc : Nat} {L : List (Option Value)} {S : List Value} {u : Sg} {Q : Option Value → Sg → Prop} {y na mx rc : Nat} (hp : P m pc = some (.inr (.inr (y, na, mx, rc)))) {E : List (Option Value)} {S' : List Value} (he : ent mx (S.take na).reverse = E) (hs : S.drop na = S') (hz : (Nat.ble na S.length && Nat.ble (slc (S.take na)) mx && Nat.ble (slc (S.drop na)) 8 && rck rc (S.take na).reverse) = true) {u1 : Sg} (hc : VV P y (0, E, [], u) (fun r t => r = none ∧ t = u1)) {nx : Nat} (hn : pc + 3 = nx)
    (k : VV P m (nx, L, S', u1) Q) : VV P m (pc, L, S, u) Q := by
  subst hn
  exact VV.call hp he hs hz hc (fun r t q => by obtain ⟨rfl, rfl⟩ := q; exact k)
theorem VV.ret0 {P : PT} {m pc : Nat} {L : List (Option Value)} {u : Sg} {Q : Option Value → Sg → Prop} (hp : P m pc = some (.inr (.inl 0))) (q : Q none u) : VV P m (pc, L, [], u) Q := ⟨1, none, u, by rw [rn]; dsimp only; rw [hp]; rfl, q⟩
theorem VV.ret1 {P : PT} {m pc : Nat} {L : List (Option Value)} {u : Sg} {v : Int32} {Q : Option Value → Sg → Prop} (hp : P m pc = some (.inr (.inl 1))) (q : Q (some (.int v)) u) : VV P m (pc, L, [.int v], u) Q := ⟨1, some (.int v), u, by rw [rn]; dsimp only; rw [hp]; rfl, q⟩
theorem VV.ret2 {P : PT} {m pc : Nat} {L : List (Option Value)} {u : Sg} {v : Int64} {Q : Option Value → Sg → Prop} (hp : P m pc = some (.inr (.inl 2))) (q : Q (some (.long v)) u) : VV P m (pc, L, [.long v], u) Q := ⟨1, some (.long v), u, by rw [rn]; dsimp only; rw [hp]; rfl, q⟩
theorem VV.ret3 {P : PT} {m pc : Nat} {L : List (Option Value)} {u : Sg} {v : Int32} {Q : Option Value → Sg → Prop} (hp : P m pc = some (.inr (.inl 3))) (hv : v = 0 ∨ v = 1) (q : Q (some (.int v)) u) : VV P m (pc, L, [.int v], u) Q := ⟨1, some (.int v), u, by rw [rn]; dsimp only; rw [hp]; exact if_pos hv, q⟩
/-- an index that is a number -/
theorem ix_nI {n N : Nat} (h : n < N) (hN : N < 2 ^ 31) : 0 ≤ (nI n).toInt ∧ (nI n).toInt < (N : Int) := by
  rw [nI_toInt (by omega)]
  omega
theorem VV.iald {P : PT} {m pc : Nat} {L : List (Option Value)} {S : List Value} {u : Sg} {Q : Option Value → Sg → Prop} {t nx k n : Nat} {i : Int32} (hp : P m pc = some (.inl (o_iald t nx))) (ht : Nat.beq (lyC k) t = true) (hi : i = nI n) (hn : n < lyN k) (hN : lyN k < 2 ^ 31) (kk : VV P m (nx, L, .int (gA u k n) :: S, u) Q) : VV P m (pc, L, .int i :: .ref k :: S, u) Q := by
  subst hi
  refine VV.s hp ?_ kk
  show cond _ (_root_.ite _ _ _) _ = _
  rw [ht, if_pos (ix_nI hn hN), nI_clamp (by omega)]
  rfl
theorem VV.iast {P : PT} {m pc : Nat} {L : List (Option Value)} {S : List Value} {u : Sg} {Q : Option Value → Sg → Prop} {nx k n : Nat} {i x : Int32} (hp : P m pc = some (.inl (o_iast nx))) (ht : Nat.beq (lyC k) 4 = true) (hi : i = nI n) (hn : n < lyN k) (hN : lyN k < 2 ^ 31) (kk : VV P m (nx, L, S, pA u k (upd (gA u k) n x)) Q) : VV P m (pc, L, .int x :: .int i :: .ref k :: S, u) Q := by
  subst hi
  refine VV.s hp ?_ kk
  show cond _ (_root_.ite _ _ _) _ = _
  rw [ht, if_pos (ix_nI hn hN), nI_clamp (by omega)]
  rfl
theorem VV.bast {P : PT} {m pc : Nat} {L : List (Option Value)} {S : List Value} {u : Sg} {Q : Option Value → Sg → Prop} {nx k n : Nat} {i x : Int32} (hp : P m pc = some (.inl (o_bast nx))) (ht : Nat.beq (lyC k) 5 = true) (hi : i = nI n) (hn : n < lyN k) (hN : lyN k < 2 ^ 31) (kk : VV P m (nx, L, S, pA u k (upd (gA u k) n (vp_nar .byte x))) Q) : VV P m (pc, L, .int x :: .int i :: .ref k :: S, u) Q := by
  subst hi
  refine VV.s hp ?_ kk
  show cond _ (_root_.ite _ _ _) _ = _
  rw [ht, if_pos (ix_nI hn hN), nI_clamp (by omega)]
  rfl
theorem VV.copy {P : PT} {m pc : Nat} {L : List (Option Value)} {S : List Value} {u : Sg} {Q : Option Value → Sg → Prop} {nx a b sp dp n : Nat} {xs xd xn : Int32} (hp : P m pc = some (.inl (o_copy nx))) (h1 : (Nat.beq (lyC a) 4 && Nat.beq (lyC b) 4 && Nat.ble (slc S) 8) = true) (es : xs = nI sp) (ed : xd = nI dp) (en : xn = nI n) (h3 : sp + n ≤ lyN a) (h4 : dp + n ≤ lyN b) (ha : lyN a < 2 ^ 31) (hb : lyN b < 2 ^ 31) (kk : VV P m (nx, L, S, pA u b (va_cpy (gA u a) (gA u b) sp dp n)) Q) : VV P m (pc, L, .int xn :: .int xd :: .ref b :: .int xs :: .ref a :: S, u) Q := by
  subst es; subst ed; subst en
  refine VV.s hp ?_ kk
  show cond _ (_root_.ite _ _ _) _ = _
  rw [h1, if_pos (by rw [nI_toInt (by omega), nI_toInt (by omega), nI_toInt (by omega)]; omega), nI_clamp (by omega), nI_clamp (by omega), nI_clamp (by omega)]
  rfl
theorem VV.putZ {P : PT} {m pc : Nat} {L : List (Option Value)} {S : List Value} {u : Sg} {Q : Option Value → Sg → Prop} {c j nx k : Nat} {v : Int32} (hp : P m pc = some (.inl (o_putZ c j nx))) (hc : Nat.beq (lyC k) c = true) (hv : v = 0 ∨ v = 1) (kk : VV P m (nx, L, S, pI u k j v) Q) : VV P m (pc, L, .int v :: .ref k :: S, u) Q := by
  refine VV.s hp ?_ kk
  show cond _ (_root_.ite _ _ _) _ = _
  rw [hc, if_pos hv]
  rfl

theorem VV.idiv {P : PT} {m pc : Nat} {L : List (Option Value)} {S : List Value} {u : Sg} {Q : Option Value → Sg → Prop} {nx : Nat} {x y : Int32} (hp : P m pc = some (.inl (o_idiv nx))) (hy : ¬ y = 0) (kk : VV P m (nx, L, .int (x / y) :: S, u) Q) : VV P m (pc, L, .int y :: .int x :: S, u) Q := by
  refine VV.s hp ?_ kk
  show _root_.ite _ _ _ = _
  rw [if_neg hy]
theorem VV.irem {P : PT} {m pc : Nat} {L : List (Option Value)} {S : List Value} {u : Sg} {Q : Option Value → Sg → Prop} {nx : Nat} {x y : Int32} (hp : P m pc = some (.inl (o_irem nx))) (hy : ¬ y = 0) (kk : VV P m (nx, L, .int (x - x / y * y) :: S, u) Q) : VV P m (pc, L, .int y :: .int x :: S, u) Q := by
  refine VV.s hp ?_ kk
  show _root_.ite _ _ _ = _
  rw [if_neg hy]
theorem VV.ldiv {P : PT} {m pc : Nat} {L : List (Option Value)} {S : List Value} {u : Sg} {Q : Option Value → Sg → Prop} {nx : Nat} {x y : Int64} (hp : P m pc = some (.inl (o_ldiv nx))) (hy : ¬ y = 0) (kk : VV P m (nx, L, .long (x / y) :: S, u) Q) : VV P m (pc, L, .long y :: .long x :: S, u) Q := by
  refine VV.s hp ?_ kk
  show _root_.ite _ _ _ = _
  rw [if_neg hy]
theorem VV.lrem {P : PT} {m pc : Nat} {L : List (Option Value)} {S : List Value} {u : Sg} {Q : Option Value → Sg → Prop} {nx : Nat} {x y : Int64} (hp : P m pc = some (.inl (o_lrem nx))) (hy : ¬ y = 0) (kk : VV P m (nx, L, .long (x - x / y * y) :: S, u) Q) : VV P m (pc, L, .long y :: .long x :: S, u) Q := by
  refine VV.s hp ?_ kk
  show _root_.ite _ _ _ = _
  rw [if_neg hy]
theorem VV.slen {P : PT} {m pc : Nat} {L : List (Option Value)} {S : List Value} {u : Sg} {Q : Option Value → Sg → Prop} {nx j : Nat} (hp : P m pc = some (.inl (o_slen nx))) (hj : j < 4) (hz : slc S ≤ 8) (kk : VV P m (nx, L, .int (nI (txt j).length) :: S, u) Q) : VV P m (pc, L, .ref (100 + j) :: S, u) Q := by
  refine VV.s hp ((if_pos (show 100 ≤ 100 + j ∧ 100 + j < 104 ∧ slc S ≤ 8 by omega)).trans ?_) kk
  rw [Nat.add_sub_cancel_left]
theorem VV.schr {P : PT} {m pc : Nat} {L : List (Option Value)} {S : List Value} {u : Sg} {Q : Option Value → Sg → Prop} {nx j n : Nat} (hp : P m pc = some (.inl (o_schr nx))) (hj : j < 4) (hn : n < (txt j).length) (hl : (txt j).length < 2 ^ 31) (hz : slc S ≤ 8) (kk : VV P m (nx, L, .int (nI ((txt j).getD n 0)) :: S, u) Q) : VV P m (pc, L, .int (nI n) :: .ref (100 + j) :: S, u) Q := by
  have h0 : 100 + j - 100 = j := by omega
  have h1 := ix_nI hn hl
  refine VV.s hp ((if_pos (show 100 ≤ 100 + j ∧ 100 + j < 104 ∧ 0 ≤ (nI n).toInt ∧ (nI n).toInt < (txt (100 + j - 100)).length ∧ slc S ≤ 8 from ⟨by omega, by omega, h1.1, by rw [h0]; exact h1.2, hz⟩)).trans ?_) kk
  rw [h0, nI_clamp (by omega)]
end
section
/-! ===== the methods, as tables of the small machine: printed by a program out of the decoded bytecode ===== -/
def nd (k : Nat) (l r : Nat → Option AI) : Nat → Option AI := fun pc => cond (Nat.ble pc k) (l pc) (r pc)
def lf (k : Nat) (a : AI) : Nat → Option AI := fun pc => cond (Nat.beq pc k) (some a) none
def nm (k : Nat) (l r : PT) : PT := fun m => cond (Nat.ble m k) (l m) (r m)
def lm (k : Nat) (t : Nat → Option AI) : PT := fun m pc => cond (Nat.beq m k) (t pc) none
def tb_X0_empty : Nat → Option AI := (nd 7 (nd 2 (nd 0 (lf 0 (.inl (o_aload 0 1))) (nd 1 (lf 1 (.inl (o_iconst 0 2))) (lf 2 (.inl (o_putI 0 0 5))))) (nd 5 (lf 5 (.inl (o_aload 0 6))) (nd 6 (lf 6 (.inl (o_iconst 0 7))) (lf 7 (.inl (o_putI 0 1 10)))))) (nd 12 (nd 10 (lf 10 (.inl (o_aload 0 11))) (nd 11 (lf 11 (.inl (o_iconst 0 12))) (lf 12 (.inl (o_putI 0 2 15))))) (nd 16 (nd 15 (lf 15 (.inl (o_aload 0 16))) (lf 16 (.inl (o_iconst 0 17)))) (nd 17 (lf 17 (.inl (o_putI 0 3 20))) (lf 20 (.inr (.inl 0)))))))
def tb_X0_becomeLike : Nat → Option AI := (nd 74 (nd 37 (nd 17 (nd 8 (nd 1 (nd 0 (lf 0 (.inl (o_aload 0 1))) (lf 1 (.inl (o_aload 1 2)))) (nd 2 (lf 2 (.inl (o_getI 0 0 5))) (nd 5 (lf 5 (.inl (o_putI 0 0 8))) (lf 8 (.inl (o_aload 0 9)))))) (nd 10 (nd 9 (lf 9 (.inl (o_aload 1 10))) (lf 10 (.inl (o_getI 0 1 13)))) (nd 13 (lf 13 (.inl (o_putI 0 1 16))) (nd 16 (lf 16 (.inl (o_aload 0 17))) (lf 17 (.inl (o_aload 1 18))))))) (nd 26 (nd 21 (nd 18 (lf 18 (.inl (o_getI 0 2 21))) (lf 21 (.inl (o_putI 0 2 24)))) (nd 24 (lf 24 (.inl (o_aload 0 25))) (nd 25 (lf 25 (.inl (o_aload 1 26))) (lf 26 (.inl (o_getI 0 3 29)))))) (nd 32 (nd 29 (lf 29 (.inl (o_putI 0 3 32))) (lf 32 (.inl (o_aload 1 33)))) (nd 33 (lf 33 (.inl (o_getR 0 4 1 36))) (nd 36 (lf 36 (.inl (o_iconst 0 37))) (lf 37 (.inl (o_aload 0 38)))))))) (nd 56 (nd 47 (nd 41 (nd 38 (lf 38 (.inl (o_getR 0 4 1 41))) (lf 41 (.inl (o_iconst 0 42)))) (nd 42 (lf 42 (.inl (o_iconst 6 44))) (nd 44 (lf 44 (.inl (o_copy 47))) (lf 47 (.inl (o_aload 1 48)))))) (nd 51 (nd 48 (lf 48 (.inl (o_getR 0 5 2 51))) (lf 51 (.inl (o_iconst 0 52)))) (nd 52 (lf 52 (.inl (o_aload 0 53))) (nd 53 (lf 53 (.inl (o_getR 0 5 2 56))) (lf 56 (.inl (o_iconst 0 57))))))) (nd 66 (nd 59 (nd 57 (lf 57 (.inl (o_iconst 6 59))) (lf 59 (.inl (o_copy 62)))) (nd 62 (lf 62 (.inl (o_aload 1 63))) (nd 63 (lf 63 (.inl (o_getR 0 6 3 66))) (lf 66 (.inl (o_iconst 0 67)))))) (nd 68 (nd 67 (lf 67 (.inl (o_aload 0 68))) (lf 68 (.inl (o_getR 0 6 3 71)))) (nd 71 (lf 71 (.inl (o_iconst 0 72))) (nd 72 (lf 72 (.inl (o_iconst 6 74))) (lf 74 (.inl (o_copy 77))))))))) (nd 112 (nd 93 (nd 83 (nd 78 (nd 77 (lf 77 (.inl (o_aload 1 78))) (lf 78 (.inl (o_getR 0 7 4 81)))) (nd 81 (lf 81 (.inl (o_iconst 0 82))) (nd 82 (lf 82 (.inl (o_aload 0 83))) (lf 83 (.inl (o_getR 0 7 4 86)))))) (nd 87 (nd 86 (lf 86 (.inl (o_iconst 0 87))) (lf 87 (.inl (o_iconst 6 89)))) (nd 89 (lf 89 (.inl (o_copy 92))) (nd 92 (lf 92 (.inl (o_aload 1 93))) (lf 93 (.inl (o_getR 0 8 5 96))))))) (nd 102 (nd 97 (nd 96 (lf 96 (.inl (o_iconst 0 97))) (lf 97 (.inl (o_aload 0 98)))) (nd 98 (lf 98 (.inl (o_getR 0 8 5 101))) (nd 101 (lf 101 (.inl (o_iconst 0 102))) (lf 102 (.inl (o_iconst 6 104)))))) (nd 107 (nd 104 (lf 104 (.inl (o_copy 107))) (lf 107 (.inl (o_aload 1 108)))) (nd 108 (lf 108 (.inl (o_getR 0 9 6 111))) (nd 111 (lf 111 (.inl (o_iconst 0 112))) (lf 112 (.inl (o_aload 0 113)))))))) (nd 131 (nd 122 (nd 116 (nd 113 (lf 113 (.inl (o_getR 0 9 6 116))) (lf 116 (.inl (o_iconst 0 117)))) (nd 117 (lf 117 (.inl (o_iconst 6 119))) (nd 119 (lf 119 (.inl (o_copy 122))) (lf 122 (.inl (o_aload 1 123)))))) (nd 126 (nd 123 (lf 123 (.inl (o_getR 0 10 7 126))) (lf 126 (.inl (o_iconst 0 127)))) (nd 127 (lf 127 (.inl (o_aload 0 128))) (nd 128 (lf 128 (.inl (o_getR 0 10 7 131))) (lf 131 (.inl (o_iconst 0 132))))))) (nd 141 (nd 134 (nd 132 (lf 132 (.inl (o_iconst 30 134))) (lf 134 (.inl (o_copy 137)))) (nd 137 (lf 137 (.inl (o_aload 1 138))) (nd 138 (lf 138 (.inl (o_getR 0 11 8 141))) (lf 141 (.inl (o_iconst 0 142)))))) (nd 146 (nd 142 (lf 142 (.inl (o_aload 0 143))) (nd 143 (lf 143 (.inl (o_getR 0 11 8 146))) (lf 146 (.inl (o_iconst 0 147))))) (nd 147 (lf 147 (.inl (o_iconst 152 150))) (nd 150 (lf 150 (.inl (o_copy 153))) (lf 153 (.inr (.inl 0))))))))))
def tb_X0_welcome : Nat → Option AI := (nd 36 (nd 18 (nd 7 (nd 1 (nd 0 (lf 0 (.inl (o_aload 0 1))) (lf 1 (.inl (o_getI 0 0 4)))) (nd 4 (lf 4 (.inl (o_istore 4 6))) (nd 6 (lf 6 (.inl (o_aload 0 7))) (lf 7 (.inl (o_getR 0 4 1 10)))))) (nd 13 (nd 10 (lf 10 (.inl (o_iload 4 12))) (nd 12 (lf 12 (.inl (o_iload 1 13))) (lf 13 (.inl (o_iast 14))))) (nd 14 (lf 14 (.inl (o_aload 0 15))) (nd 15 (lf 15 (.inl (o_getR 0 5 2 18))) (lf 18 (.inl (o_iload 4 20))))))) (nd 26 (nd 21 (nd 20 (lf 20 (.inl (o_iload 2 21))) (lf 21 (.inl (o_iast 22)))) (nd 22 (lf 22 (.inl (o_aload 0 23))) (nd 23 (lf 23 (.inl (o_getR 0 6 3 26))) (lf 26 (.inl (o_iload 4 28)))))) (nd 30 (nd 28 (lf 28 (.inl (o_iload 3 29))) (nd 29 (lf 29 (.inl (o_iast 30))) (lf 30 (.inl (o_aload 0 31))))) (nd 31 (lf 31 (.inl (o_getR 0 7 4 34))) (nd 34 (lf 34 (.inl (o_iload 4 36))) (lf 36 (.inl (o_iload 4 38)))))))) (nd 54 (nd 45 (nd 39 (nd 38 (lf 38 (.inl (o_iast 39))) (lf 39 (.inl (o_aload 0 40)))) (nd 40 (lf 40 (.inl (o_getR 0 8 5 43))) (nd 43 (lf 43 (.inl (o_iload 4 45))) (lf 45 (.inl (o_iconst 0 46)))))) (nd 48 (nd 46 (lf 46 (.inl (o_iast 47))) (nd 47 (lf 47 (.inl (o_aload 0 48))) (lf 48 (.inl (o_getR 0 9 6 51))))) (nd 51 (lf 51 (.inl (o_iload 4 53))) (nd 53 (lf 53 (.inl (o_iconst 0 54))) (lf 54 (.inl (o_iast 55))))))) (nd 61 (nd 56 (nd 55 (lf 55 (.inl (o_aload 0 56))) (lf 56 (.inl (o_dup 57)))) (nd 57 (lf 57 (.inl (o_getI 0 0 60))) (nd 60 (lf 60 (.inl (o_iconst 1 61))) (lf 61 (.inl (o_iadd 62)))))) (nd 66 (nd 62 (lf 62 (.inl (o_putI 0 0 65))) (nd 65 (lf 65 (.inl (o_aload 0 66))) (lf 66 (.inl (o_iconst 0 67))))) (nd 67 (lf 67 (.inl (o_putI 0 3 70))) (nd 70 (lf 70 (.inl (o_iload 4 72))) (lf 72 (.inr (.inl 1)))))))))
def tb_X0_voiceWith : Nat → Option AI := (nd 14 (nd 3 (nd 1 (nd 0 (lf 0 (.inl (o_iconst 0 1))) (lf 1 (.inl (o_istore 2 2)))) (nd 2 (lf 2 (.inl (o_iload 2 3))) (lf 3 (.inl (o_aload 0 4))))) (nd 7 (nd 4 (lf 4 (.inl (o_getI 0 0 7))) (lf 7 (.inl (o_icge 28 10)))) (nd 10 (lf 10 (.inl (o_aload 0 11))) (nd 11 (lf 11 (.inl (o_getR 0 7 4 14))) (lf 14 (.inl (o_iload 2 15))))))) (nd 20 (nd 16 (nd 15 (lf 15 (.inl (o_iald 4 16))) (lf 16 (.inl (o_iload 1 17)))) (nd 17 (lf 17 (.inl (o_icne 22 20))) (lf 20 (.inl (o_iload 2 21))))) (nd 22 (nd 21 (lf 21 (.inr (.inl 1))) (lf 22 (.inl (o_iinc 2 1 25)))) (nd 25 (lf 25 (.inl (o_goto 2))) (nd 28 (lf 28 (.inl (o_iconst (-1) 29))) (lf 29 (.inr (.inl 1))))))))
def tb_X0_give : Nat → Option AI := (nd 16 (nd 6 (nd 1 (nd 0 (lf 0 (.inl (o_aload 0 1))) (lf 1 (.inl (o_iload 2 2)))) (nd 2 (lf 2 (.inr (.inr (3, 2, 3, 0)))) (nd 5 (lf 5 (.inl (o_istore 3 6))) (lf 6 (.inl (o_iload 3 7)))))) (nd 11 (nd 7 (lf 7 (.inl (o_iconst (-1) 8))) (nd 8 (lf 8 (.inl (o_iceq 16 11))) (lf 11 (.inl (o_aload 0 12))))) (nd 12 (lf 12 (.inl (o_iload 3 13))) (nd 13 (lf 13 (.inr (.inr (5, 2, 2, 0)))) (lf 16 (.inl (o_aload 0 17))))))) (nd 23 (nd 20 (nd 17 (lf 17 (.inl (o_getR 0 7 4 20))) (lf 20 (.inl (o_iload 1 21)))) (nd 21 (lf 21 (.inl (o_iload 2 22))) (nd 22 (lf 22 (.inl (o_iast 23))) (lf 23 (.inl (o_aload 0 24)))))) (nd 28 (nd 24 (lf 24 (.inl (o_getR 0 8 5 27))) (nd 27 (lf 27 (.inl (o_iload 1 28))) (lf 28 (.inl (o_iconst 0 29))))) (nd 29 (lf 29 (.inl (o_iast 30))) (nd 30 (lf 30 (.inl (o_iload 3 31))) (lf 31 (.inr (.inl 1))))))))
def tb_X0_putDown : Nat → Option AI := (nd 6 (nd 1 (nd 0 (lf 0 (.inl (o_aload 0 1))) (lf 1 (.inl (o_getR 0 7 4 4)))) (nd 4 (lf 4 (.inl (o_iload 1 5))) (nd 5 (lf 5 (.inl (o_iconst (-1) 6))) (lf 6 (.inl (o_iast 7)))))) (nd 11 (nd 7 (lf 7 (.inl (o_aload 0 8))) (nd 8 (lf 8 (.inl (o_getR 0 8 5 11))) (lf 11 (.inl (o_iload 1 12))))) (nd 12 (lf 12 (.inl (o_iconst 0 13))) (nd 13 (lf 13 (.inl (o_iast 14))) (lf 14 (.inr (.inl 0)))))))
def tb_X0_isWithAnother : Nat → Option AI := (nd 11 (nd 5 (nd 1 (nd 0 (lf 0 (.inl (o_aload 0 1))) (lf 1 (.inl (o_getR 0 7 4 4)))) (nd 4 (lf 4 (.inl (o_iload 1 5))) (lf 5 (.inl (o_iald 4 6))))) (nd 7 (nd 6 (lf 6 (.inl (o_iconst (-1) 7))) (lf 7 (.inl (o_iceq 24 10)))) (nd 10 (lf 10 (.inl (o_aload 0 11))) (lf 11 (.inl (o_getR 0 7 4 14)))))) (nd 17 (nd 15 (nd 14 (lf 14 (.inl (o_iload 1 15))) (lf 15 (.inl (o_iald 4 16)))) (nd 16 (lf 16 (.inl (o_iload 1 17))) (lf 17 (.inl (o_iceq 24 20))))) (nd 21 (nd 20 (lf 20 (.inl (o_iconst 1 21))) (lf 21 (.inl (o_goto 25)))) (nd 24 (lf 24 (.inl (o_iconst 0 25))) (lf 25 (.inr (.inl 3)))))))
def tb_X0_goOneEvening : Nat → Option AI := (nd 53 (nd 25 (nd 13 (nd 7 (nd 1 (nd 0 (lf 0 (.inl (o_aload 0 1))) (lf 1 (.inl (o_getI 0 1 4)))) (nd 4 (lf 4 (.inl (o_iconst 999 7))) (lf 7 (.inl (o_iclt 12 10))))) (nd 11 (nd 10 (lf 10 (.inl (o_iconst 0 11))) (lf 11 (.inr (.inl 1)))) (nd 12 (lf 12 (.inl (o_iconst 0 13))) (lf 13 (.inl (o_istore 1 14)))))) (nd 17 (nd 15 (nd 14 (lf 14 (.inl (o_iconst 0 15))) (lf 15 (.inl (o_istore 2 16)))) (nd 16 (lf 16 (.inl (o_iload 2 17))) (lf 17 (.inl (o_aload 0 18))))) (nd 21 (nd 18 (lf 18 (.inl (o_getI 0 0 21))) (lf 21 (.inl (o_icge 88 24)))) (nd 24 (lf 24 (.inl (o_aload 0 25))) (lf 25 (.inl (o_iload 2 26))))))) (nd 39 (nd 33 (nd 29 (nd 26 (lf 26 (.inr (.inr (6, 2, 2, 0)))) (lf 29 (.inl (o_ifeq 62 32)))) (nd 32 (lf 32 (.inl (o_aload 0 33))) (lf 33 (.inl (o_getR 0 4 1 36))))) (nd 37 (nd 36 (lf 36 (.inl (o_iload 2 37))) (lf 37 (.inl (o_iald 4 38)))) (nd 38 (lf 38 (.inl (o_aload 0 39))) (lf 39 (.inl (o_getR 0 8 5 42)))))) (nd 47 (nd 43 (nd 42 (lf 42 (.inl (o_iload 2 43))) (lf 43 (.inl (o_iald 4 44)))) (nd 44 (lf 44 (.inr (.inr (29, 2, 2, 9)))) (lf 47 (.inl (o_istore 3 48))))) (nd 49 (nd 48 (lf 48 (.inl (o_aload 0 49))) (lf 49 (.inl (o_getR 0 9 6 52)))) (nd 52 (lf 52 (.inl (o_iload 2 53))) (lf 53 (.inl (o_dup2 54)))))))) (nd 73 (nd 61 (nd 57 (nd 55 (nd 54 (lf 54 (.inl (o_iald 4 55))) (lf 55 (.inl (o_iload 3 56)))) (nd 56 (lf 56 (.inl (o_iadd 57))) (lf 57 (.inl (o_iast 58))))) (nd 59 (nd 58 (lf 58 (.inl (o_iload 1 59))) (lf 59 (.inl (o_iload 3 60)))) (nd 60 (lf 60 (.inl (o_iadd 61))) (lf 61 (.inl (o_istore 1 62)))))) (nd 67 (nd 63 (nd 62 (lf 62 (.inl (o_aload 0 63))) (lf 63 (.inl (o_getR 0 7 4 66)))) (nd 66 (lf 66 (.inl (o_iload 2 67))) (lf 67 (.inl (o_iald 4 68))))) (nd 69 (nd 68 (lf 68 (.inl (o_iconst (-1) 69))) (lf 69 (.inl (o_iceq 82 72)))) (nd 72 (lf 72 (.inl (o_aload 0 73))) (lf 73 (.inl (o_getR 0 8 5 76))))))) (nd 85 (nd 79 (nd 77 (nd 76 (lf 76 (.inl (o_iload 2 77))) (lf 77 (.inl (o_dup2 78)))) (nd 78 (lf 78 (.inl (o_iald 4 79))) (lf 79 (.inl (o_iconst 1 80))))) (nd 81 (nd 80 (lf 80 (.inl (o_iadd 81))) (lf 81 (.inl (o_iast 82)))) (nd 82 (lf 82 (.inl (o_iinc 2 1 85))) (lf 85 (.inl (o_goto 16)))))) (nd 93 (nd 89 (nd 88 (lf 88 (.inl (o_aload 0 89))) (lf 89 (.inl (o_dup 90)))) (nd 90 (lf 90 (.inl (o_getI 0 1 93))) (lf 93 (.inl (o_iconst 1 94))))) (nd 95 (nd 94 (lf 94 (.inl (o_iadd 95))) (lf 95 (.inl (o_putI 0 1 98)))) (nd 98 (lf 98 (.inl (o_iload 1 99))) (lf 99 (.inr (.inl 1)))))))))
def tb_X0_keepPast : Nat → Option AI := (nd 59 (nd 29 (nd 13 (nd 4 (nd 0 (lf 0 (.inl (o_aload 0 1))) (nd 1 (lf 1 (.inl (o_getI 0 3 4))) (lf 4 (.inl (o_iconst 8 6))))) (nd 9 (nd 6 (lf 6 (.inl (o_iclt 32 9))) (lf 9 (.inl (o_aload 0 10)))) (nd 10 (lf 10 (.inl (o_getR 0 11 8 13))) (lf 13 (.inl (o_iconst 19 15)))))) (nd 20 (nd 16 (nd 15 (lf 15 (.inl (o_aload 0 16))) (lf 16 (.inl (o_getR 0 11 8 19)))) (nd 19 (lf 19 (.inl (o_iconst 0 20))) (lf 20 (.inl (o_iconst 133 23))))) (nd 26 (nd 23 (lf 23 (.inl (o_copy 26))) (lf 26 (.inl (o_aload 0 27)))) (nd 27 (lf 27 (.inl (o_iconst 7 29))) (lf 29 (.inl (o_putI 0 3 32))))))) (nd 44 (nd 38 (nd 33 (nd 32 (lf 32 (.inl (o_aload 0 33))) (lf 33 (.inl (o_getI 0 3 36)))) (nd 36 (lf 36 (.inl (o_iconst 19 38))) (lf 38 (.inl (o_imul 39))))) (nd 40 (nd 39 (lf 39 (.inl (o_istore 1 40))) (lf 40 (.inl (o_aload 0 41)))) (nd 41 (lf 41 (.inl (o_getR 0 7 4 44))) (lf 44 (.inl (o_iconst 0 45)))))) (nd 50 (nd 46 (nd 45 (lf 45 (.inl (o_aload 0 46))) (lf 46 (.inl (o_getR 0 11 8 49)))) (nd 49 (lf 49 (.inl (o_iload 1 50))) (lf 50 (.inl (o_iconst 6 52))))) (nd 55 (nd 52 (lf 52 (.inl (o_copy 55))) (lf 55 (.inl (o_aload 0 56)))) (nd 56 (lf 56 (.inl (o_getR 0 8 5 59))) (lf 59 (.inl (o_iconst 0 60)))))))) (nd 86 (nd 73 (nd 65 (nd 61 (nd 60 (lf 60 (.inl (o_aload 0 61))) (lf 61 (.inl (o_getR 0 11 8 64)))) (nd 64 (lf 64 (.inl (o_iload 1 65))) (lf 65 (.inl (o_iconst 6 67))))) (nd 68 (nd 67 (lf 67 (.inl (o_iadd 68))) (lf 68 (.inl (o_iconst 6 70)))) (nd 70 (lf 70 (.inl (o_copy 73))) (lf 73 (.inl (o_aload 0 74)))))) (nd 79 (nd 77 (nd 74 (lf 74 (.inl (o_getR 0 9 6 77))) (lf 77 (.inl (o_iconst 0 78)))) (nd 78 (lf 78 (.inl (o_aload 0 79))) (lf 79 (.inl (o_getR 0 11 8 82))))) (nd 83 (nd 82 (lf 82 (.inl (o_iload 1 83))) (lf 83 (.inl (o_iconst 12 85)))) (nd 85 (lf 85 (.inl (o_iadd 86))) (lf 86 (.inl (o_iconst 6 88))))))) (nd 100 (nd 95 (nd 91 (nd 88 (lf 88 (.inl (o_copy 91))) (lf 91 (.inl (o_aload 0 92)))) (nd 92 (lf 92 (.inl (o_getR 0 11 8 95))) (lf 95 (.inl (o_iload 1 96))))) (nd 98 (nd 96 (lf 96 (.inl (o_iconst 18 98))) (lf 98 (.inl (o_iadd 99)))) (nd 99 (lf 99 (.inl (o_aload 0 100))) (lf 100 (.inl (o_getI 0 1 103)))))) (nd 106 (nd 104 (nd 103 (lf 103 (.inl (o_iast 104))) (lf 104 (.inl (o_aload 0 105)))) (nd 105 (lf 105 (.inl (o_dup 106))) (lf 106 (.inl (o_getI 0 3 109))))) (nd 110 (nd 109 (lf 109 (.inl (o_iconst 1 110))) (lf 110 (.inl (o_iadd 111)))) (nd 111 (lf 111 (.inl (o_putI 0 3 114))) (lf 114 (.inr (.inl 0)))))))))
def tb_X0_goBack : Nat → Option AI := (nd 45 (nd 22 (nd 9 (nd 4 (nd 0 (lf 0 (.inl (o_aload 0 1))) (nd 1 (lf 1 (.inl (o_getI 0 3 4))) (lf 4 (.inl (o_ifgt 8 7))))) (nd 7 (lf 7 (.inr (.inl 0))) (nd 8 (lf 8 (.inl (o_aload 0 9))) (lf 9 (.inl (o_dup 10)))))) (nd 14 (nd 10 (lf 10 (.inl (o_getI 0 3 13))) (nd 13 (lf 13 (.inl (o_iconst 1 14))) (lf 14 (.inl (o_isub 15))))) (nd 18 (nd 15 (lf 15 (.inl (o_putI 0 3 18))) (lf 18 (.inl (o_aload 0 19)))) (nd 19 (lf 19 (.inl (o_getI 0 3 22))) (lf 22 (.inl (o_iconst 19 24))))))) (nd 31 (nd 26 (nd 24 (lf 24 (.inl (o_imul 25))) (nd 25 (lf 25 (.inl (o_istore 1 26))) (lf 26 (.inl (o_aload 0 27))))) (nd 27 (lf 27 (.inl (o_getR 0 11 8 30))) (nd 30 (lf 30 (.inl (o_iload 1 31))) (lf 31 (.inl (o_aload 0 32)))))) (nd 36 (nd 32 (lf 32 (.inl (o_getR 0 7 4 35))) (nd 35 (lf 35 (.inl (o_iconst 0 36))) (lf 36 (.inl (o_iconst 6 38))))) (nd 41 (nd 38 (lf 38 (.inl (o_copy 41))) (lf 41 (.inl (o_aload 0 42)))) (nd 42 (lf 42 (.inl (o_getR 0 11 8 45))) (lf 45 (.inl (o_iload 1 46)))))))) (nd 67 (nd 54 (nd 49 (nd 46 (lf 46 (.inl (o_iconst 6 48))) (nd 48 (lf 48 (.inl (o_iadd 49))) (lf 49 (.inl (o_aload 0 50))))) (nd 50 (lf 50 (.inl (o_getR 0 8 5 53))) (nd 53 (lf 53 (.inl (o_iconst 0 54))) (lf 54 (.inl (o_iconst 6 56)))))) (nd 60 (nd 56 (lf 56 (.inl (o_copy 59))) (nd 59 (lf 59 (.inl (o_aload 0 60))) (lf 60 (.inl (o_getR 0 11 8 63))))) (nd 64 (nd 63 (lf 63 (.inl (o_iload 1 64))) (lf 64 (.inl (o_iconst 12 66)))) (nd 66 (lf 66 (.inl (o_iadd 67))) (lf 67 (.inl (o_aload 0 68))))))) (nd 78 (nd 72 (nd 68 (lf 68 (.inl (o_getR 0 9 6 71))) (nd 71 (lf 71 (.inl (o_iconst 0 72))) (lf 72 (.inl (o_iconst 6 74))))) (nd 74 (lf 74 (.inl (o_copy 77))) (nd 77 (lf 77 (.inl (o_aload 0 78))) (lf 78 (.inl (o_aload 0 79)))))) (nd 83 (nd 79 (lf 79 (.inl (o_getR 0 11 8 82))) (nd 82 (lf 82 (.inl (o_iload 1 83))) (lf 83 (.inl (o_iconst 18 85))))) (nd 86 (nd 85 (lf 85 (.inl (o_iadd 86))) (lf 86 (.inl (o_iald 4 87)))) (nd 87 (lf 87 (.inl (o_putI 0 1 90))) (lf 90 (.inr (.inl 0)))))))))
def tb_X0_soundOf : Nat → Option AI := (nd 7 (nd 4 (nd 0 (lf 0 (.inl (o_aload 0 1))) (nd 1 (lf 1 (.inl (o_getR 0 4 1 4))) (lf 4 (.inl (o_iload 1 5))))) (nd 5 (lf 5 (.inl (o_iald 4 6))) (nd 6 (lf 6 (.inl (o_aload 0 7))) (lf 7 (.inl (o_getR 0 5 2 10)))))) (nd 12 (nd 10 (lf 10 (.inl (o_iload 1 11))) (nd 11 (lf 11 (.inl (o_iald 4 12))) (lf 12 (.inl (o_aload 0 13))))) (nd 13 (lf 13 (.inl (o_getI 0 1 16))) (nd 16 (lf 16 (.inr (.inr (28, 3, 3, 9)))) (lf 19 (.inr (.inl 1)))))))
def tb_X0_fitWith : Nat → Option AI := (nd 8 (nd 3 (nd 0 (lf 0 (.inl (o_iconst 9 2))) (nd 2 (lf 2 (.inl (o_aload 0 3))) (lf 3 (.inl (o_iload 2 4))))) (nd 4 (lf 4 (.inr (.inr (10, 2, 2, 0)))) (nd 7 (lf 7 (.inl (o_aload 0 8))) (lf 8 (.inl (o_getR 0 6 3 11)))))) (nd 13 (nd 11 (lf 11 (.inl (o_iload 1 12))) (nd 12 (lf 12 (.inl (o_iald 4 13))) (lf 13 (.inl (o_isub 14))))) (nd 14 (lf 14 (.inl (o_abs 17))) (nd 17 (lf 17 (.inl (o_isub 18))) (lf 18 (.inr (.inl 1)))))))
def tb_X0_fitNow : Nat → Option AI := (nd 8 (nd 2 (nd 0 (lf 0 (.inl (o_aload 0 1))) (nd 1 (lf 1 (.inl (o_iload 1 2))) (lf 2 (.inr (.inr (3, 2, 3, 0)))))) (nd 6 (nd 5 (lf 5 (.inl (o_istore 2 6))) (lf 6 (.inl (o_iload 2 7)))) (nd 7 (lf 7 (.inl (o_iconst (-1) 8))) (lf 8 (.inl (o_icne 15 11)))))) (nd 15 (nd 11 (lf 11 (.inl (o_iconst 0 12))) (nd 12 (lf 12 (.inl (o_goto 21))) (lf 15 (.inl (o_aload 0 16))))) (nd 17 (nd 16 (lf 16 (.inl (o_iload 1 17))) (lf 17 (.inl (o_iload 2 18)))) (nd 18 (lf 18 (.inr (.inr (11, 3, 3, 0)))) (lf 21 (.inr (.inl 1)))))))
def tb_X0_leastFit : Nat → Option AI := (nd 17 (nd 5 (nd 2 (nd 0 (lf 0 (.inl (o_iconst (-1) 1))) (nd 1 (lf 1 (.inl (o_istore 1 2))) (lf 2 (.inl (o_iconst 0 3))))) (nd 3 (lf 3 (.inl (o_istore 2 4))) (nd 4 (lf 4 (.inl (o_iload 2 5))) (lf 5 (.inl (o_aload 0 6)))))) (nd 12 (nd 6 (lf 6 (.inl (o_getI 0 0 9))) (nd 9 (lf 9 (.inl (o_icge 38 12))) (lf 12 (.inl (o_iload 1 13))))) (nd 13 (lf 13 (.inl (o_iconst (-1) 14))) (nd 14 (lf 14 (.inl (o_iceq 30 17))) (lf 17 (.inl (o_aload 0 18))))))) (nd 27 (nd 22 (nd 18 (lf 18 (.inl (o_iload 2 19))) (nd 19 (lf 19 (.inr (.inr (12, 2, 3, 0)))) (lf 22 (.inl (o_aload 0 23))))) (nd 23 (lf 23 (.inl (o_iload 1 24))) (nd 24 (lf 24 (.inr (.inr (12, 2, 3, 0)))) (lf 27 (.inl (o_icge 32 30)))))) (nd 32 (nd 30 (lf 30 (.inl (o_iload 2 31))) (nd 31 (lf 31 (.inl (o_istore 1 32))) (lf 32 (.inl (o_iinc 2 1 35))))) (nd 35 (lf 35 (.inl (o_goto 4))) (nd 38 (lf 38 (.inl (o_iload 1 39))) (lf 39 (.inr (.inl 1))))))))
def tb_X0_ringFrom : Nat → Option AI := (nd 18 (nd 5 (nd 2 (nd 0 (lf 0 (.inl (o_iload 1 1))) (nd 1 (lf 1 (.inl (o_istore 2 2))) (lf 2 (.inl (o_iconst 1 3))))) (nd 3 (lf 3 (.inl (o_istore 3 4))) (nd 4 (lf 4 (.inl (o_iload 3 5))) (lf 5 (.inl (o_aload 0 6)))))) (nd 12 (nd 6 (lf 6 (.inl (o_getI 0 0 9))) (nd 9 (lf 9 (.inl (o_icgt 38 12))) (lf 12 (.inl (o_aload 0 13))))) (nd 14 (nd 13 (lf 13 (.inl (o_iload 2 14))) (lf 14 (.inr (.inr (3, 2, 3, 0))))) (nd 17 (lf 17 (.inl (o_istore 2 18))) (lf 18 (.inl (o_iload 2 19))))))) (nd 26 (nd 23 (nd 19 (lf 19 (.inl (o_iconst (-1) 20))) (nd 20 (lf 20 (.inl (o_icne 25 23))) (lf 23 (.inl (o_iconst 0 24))))) (nd 24 (lf 24 (.inr (.inl 1))) (nd 25 (lf 25 (.inl (o_iload 2 26))) (lf 26 (.inl (o_iload 1 27)))))) (nd 31 (nd 27 (lf 27 (.inl (o_icne 32 30))) (nd 30 (lf 30 (.inl (o_iload 3 31))) (lf 31 (.inr (.inl 1))))) (nd 35 (nd 32 (lf 32 (.inl (o_iinc 3 1 35))) (lf 35 (.inl (o_goto 4)))) (nd 38 (lf 38 (.inl (o_iconst 0 39))) (lf 39 (.inr (.inl 1))))))))
def tb_X0_ringsOfTwoOrMore : Nat → Option AI := (nd 14 (nd 4 (nd 1 (nd 0 (lf 0 (.inl (o_iconst 0 1))) (lf 1 (.inl (o_istore 1 2)))) (nd 2 (lf 2 (.inl (o_iconst 0 3))) (nd 3 (lf 3 (.inl (o_istore 2 4))) (lf 4 (.inl (o_iload 2 5)))))) (nd 9 (nd 5 (lf 5 (.inl (o_aload 0 6))) (nd 6 (lf 6 (.inl (o_getI 0 0 9))) (lf 9 (.inl (o_icge 38 12))))) (nd 12 (lf 12 (.inl (o_aload 0 13))) (nd 13 (lf 13 (.inl (o_iload 2 14))) (lf 14 (.inr (.inr (14, 2, 4, 0)))))))) (nd 23 (nd 18 (nd 17 (lf 17 (.inl (o_iconst 2 18))) (lf 18 (.inl (o_iclt 32 21)))) (nd 21 (lf 21 (.inl (o_aload 0 22))) (nd 22 (lf 22 (.inl (o_iload 2 23))) (lf 23 (.inr (.inr (16, 2, 4, 0))))))) (nd 32 (nd 26 (lf 26 (.inl (o_ifeq 32 29))) (nd 29 (lf 29 (.inl (o_iinc 1 1 32))) (lf 32 (.inl (o_iinc 2 1 35))))) (nd 35 (lf 35 (.inl (o_goto 4))) (nd 38 (lf 38 (.inl (o_iload 1 39))) (lf 39 (.inr (.inl 1))))))))
def tb_X0_isFirstOfRing : Nat → Option AI := (nd 21 (nd 8 (nd 2 (nd 0 (lf 0 (.inl (o_aload 0 1))) (nd 1 (lf 1 (.inl (o_iload 1 2))) (lf 2 (.inr (.inr (3, 2, 3, 0)))))) (nd 6 (nd 5 (lf 5 (.inl (o_istore 2 6))) (lf 6 (.inl (o_iconst 1 7)))) (nd 7 (lf 7 (.inl (o_istore 3 8))) (lf 8 (.inl (o_iload 3 9)))))) (nd 13 (nd 9 (lf 9 (.inl (o_aload 0 10))) (nd 10 (lf 10 (.inl (o_getI 0 0 13))) (lf 13 (.inl (o_icgt 45 16))))) (nd 17 (nd 16 (lf 16 (.inl (o_iload 2 17))) (lf 17 (.inl (o_iconst (-1) 18)))) (nd 18 (lf 18 (.inl (o_iceq 45 21))) (lf 21 (.inl (o_iload 2 22))))))) (nd 32 (nd 26 (nd 22 (lf 22 (.inl (o_iload 1 23))) (nd 23 (lf 23 (.inl (o_iceq 45 26))) (lf 26 (.inl (o_iload 2 27))))) (nd 28 (nd 27 (lf 27 (.inl (o_iload 1 28))) (lf 28 (.inl (o_icge 33 31)))) (nd 31 (lf 31 (.inl (o_iconst 0 32))) (lf 32 (.inr (.inl 3)))))) (nd 38 (nd 34 (nd 33 (lf 33 (.inl (o_aload 0 34))) (lf 34 (.inl (o_iload 2 35)))) (nd 35 (lf 35 (.inr (.inr (3, 2, 3, 0)))) (lf 38 (.inl (o_istore 2 39))))) (nd 42 (nd 39 (lf 39 (.inl (o_iinc 3 1 42))) (lf 42 (.inl (o_goto 8)))) (nd 45 (lf 45 (.inl (o_iconst 1 46))) (lf 46 (.inr (.inl 3))))))))
def tb_X0_bothWouldRather : Nat → Option AI := (nd 28 (nd 13 (nd 5 (nd 1 (nd 0 (lf 0 (.inl (o_aload 0 1))) (lf 1 (.inl (o_iload 1 2)))) (nd 2 (lf 2 (.inr (.inr (3, 2, 3, 0)))) (lf 5 (.inl (o_istore 3 6))))) (nd 7 (nd 6 (lf 6 (.inl (o_aload 0 7))) (lf 7 (.inl (o_iload 2 8)))) (nd 8 (lf 8 (.inr (.inr (3, 2, 3, 0)))) (nd 11 (lf 11 (.inl (o_istore 4 13))) (lf 13 (.inl (o_iload 3 14))))))) (nd 20 (nd 15 (nd 14 (lf 14 (.inl (o_iconst (-1) 15))) (lf 15 (.inl (o_iceq 60 18)))) (nd 18 (lf 18 (.inl (o_iload 4 20))) (lf 20 (.inl (o_iconst (-1) 21))))) (nd 24 (nd 21 (lf 21 (.inl (o_iceq 60 24))) (lf 24 (.inl (o_aload 0 25)))) (nd 25 (lf 25 (.inl (o_iload 1 26))) (nd 26 (lf 26 (.inl (o_iload 4 28))) (lf 28 (.inr (.inr (11, 3, 3, 0))))))))) (nd 43 (nd 34 (nd 32 (nd 31 (lf 31 (.inl (o_aload 0 32))) (lf 32 (.inl (o_iload 1 33)))) (nd 33 (lf 33 (.inl (o_iload 3 34))) (lf 34 (.inr (.inr (11, 3, 3, 0)))))) (nd 40 (nd 37 (lf 37 (.inl (o_icle 60 40))) (lf 40 (.inl (o_aload 0 41)))) (nd 41 (lf 41 (.inl (o_iload 2 42))) (nd 42 (lf 42 (.inl (o_iload 3 43))) (lf 43 (.inr (.inr (11, 3, 3, 0)))))))) (nd 50 (nd 47 (nd 46 (lf 46 (.inl (o_aload 0 47))) (lf 47 (.inl (o_iload 2 48)))) (nd 48 (lf 48 (.inl (o_iload 4 50))) (lf 50 (.inr (.inr (11, 3, 3, 0)))))) (nd 56 (nd 53 (lf 53 (.inl (o_icle 60 56))) (lf 56 (.inl (o_iconst 1 57)))) (nd 57 (lf 57 (.inl (o_goto 61))) (nd 60 (lf 60 (.inl (o_iconst 0 61))) (lf 61 (.inr (.inl 3)))))))))
def tb_X0_howManySwaps : Nat → Option AI := (nd 17 (nd 6 (nd 2 (nd 0 (lf 0 (.inl (o_iconst 0 1))) (nd 1 (lf 1 (.inl (o_istore 1 2))) (lf 2 (.inl (o_iconst 0 3))))) (nd 4 (nd 3 (lf 3 (.inl (o_istore 2 4))) (lf 4 (.inl (o_iload 2 5)))) (nd 5 (lf 5 (.inl (o_aload 0 6))) (lf 6 (.inl (o_getI 0 0 9)))))) (nd 13 (nd 9 (lf 9 (.inl (o_icge 48 12))) (nd 12 (lf 12 (.inl (o_iload 2 13))) (lf 13 (.inl (o_iconst 1 14))))) (nd 15 (nd 14 (lf 14 (.inl (o_iadd 15))) (lf 15 (.inl (o_istore 3 16)))) (nd 16 (lf 16 (.inl (o_iload 3 17))) (lf 17 (.inl (o_aload 0 18))))))) (nd 30 (nd 24 (nd 18 (lf 18 (.inl (o_getI 0 0 21))) (nd 21 (lf 21 (.inl (o_icge 42 24))) (lf 24 (.inl (o_aload 0 25))))) (nd 26 (nd 25 (lf 25 (.inl (o_iload 2 26))) (lf 26 (.inl (o_iload 3 27)))) (nd 27 (lf 27 (.inr (.inr (17, 3, 5, 0)))) (lf 30 (.inl (o_ifeq 36 33)))))) (nd 39 (nd 33 (lf 33 (.inl (o_iinc 1 1 36))) (nd 36 (lf 36 (.inl (o_iinc 3 1 39))) (lf 39 (.inl (o_goto 16))))) (nd 45 (nd 42 (lf 42 (.inl (o_iinc 2 1 45))) (lf 45 (.inl (o_goto 4)))) (nd 48 (lf 48 (.inl (o_iload 1 49))) (lf 49 (.inr (.inl 1))))))))
def tb_X0_swapAt : Nat → Option AI := (nd 27 (nd 12 (nd 3 (nd 1 (nd 0 (lf 0 (.inl (o_iconst 0 1))) (lf 1 (.inl (o_istore 2 2)))) (nd 2 (lf 2 (.inl (o_iconst 0 3))) (lf 3 (.inl (o_istore 3 4))))) (nd 5 (nd 4 (lf 4 (.inl (o_iload 3 5))) (lf 5 (.inl (o_aload 0 6)))) (nd 6 (lf 6 (.inl (o_getI 0 0 9))) (nd 9 (lf 9 (.inl (o_icge 64 12))) (lf 12 (.inl (o_iload 3 13))))))) (nd 17 (nd 14 (nd 13 (lf 13 (.inl (o_iconst 1 14))) (lf 14 (.inl (o_iadd 15)))) (nd 15 (lf 15 (.inl (o_istore 4 17))) (lf 17 (.inl (o_iload 4 19))))) (nd 20 (nd 19 (lf 19 (.inl (o_aload 0 20))) (lf 20 (.inl (o_getI 0 0 23)))) (nd 23 (lf 23 (.inl (o_icge 58 26))) (nd 26 (lf 26 (.inl (o_aload 0 27))) (lf 27 (.inl (o_iload 3 28)))))))) (nd 44 (nd 36 (nd 30 (nd 28 (lf 28 (.inl (o_iload 4 30))) (lf 30 (.inr (.inr (17, 3, 5, 0))))) (nd 33 (lf 33 (.inl (o_ifeq 52 36))) (lf 36 (.inl (o_iload 2 37))))) (nd 38 (nd 37 (lf 37 (.inl (o_iload 1 38))) (lf 38 (.inl (o_icne 49 41)))) (nd 41 (lf 41 (.inl (o_iconst 10 43))) (nd 43 (lf 43 (.inl (o_iload 3 44))) (lf 44 (.inl (o_imul 45))))))) (nd 52 (nd 47 (nd 45 (lf 45 (.inl (o_iload 4 47))) (lf 47 (.inl (o_iadd 48)))) (nd 48 (lf 48 (.inr (.inl 1))) (nd 49 (lf 49 (.inl (o_iinc 2 1 52))) (lf 52 (.inl (o_iinc 4 1 55)))))) (nd 58 (nd 55 (lf 55 (.inl (o_goto 17))) (lf 58 (.inl (o_iinc 3 1 61)))) (nd 61 (lf 61 (.inl (o_goto 4))) (nd 64 (lf 64 (.inl (o_iconst (-1) 65))) (lf 65 (.inr (.inl 1)))))))))
def tb_X0_exchange : Nat → Option AI := (nd 18 (nd 7 (nd 2 (nd 0 (lf 0 (.inl (o_aload 0 1))) (nd 1 (lf 1 (.inl (o_iload 1 2))) (lf 2 (.inr (.inr (3, 2, 3, 0)))))) (nd 5 (lf 5 (.inl (o_istore 3 6))) (nd 6 (lf 6 (.inl (o_aload 0 7))) (lf 7 (.inl (o_iload 2 8)))))) (nd 13 (nd 8 (lf 8 (.inr (.inr (3, 2, 3, 0)))) (nd 11 (lf 11 (.inl (o_istore 4 13))) (lf 13 (.inl (o_iload 3 14))))) (nd 14 (lf 14 (.inl (o_iconst (-1) 15))) (nd 15 (lf 15 (.inl (o_iceq 39 18))) (lf 18 (.inl (o_iload 4 20))))))) (nd 29 (nd 24 (nd 20 (lf 20 (.inl (o_iconst (-1) 21))) (nd 21 (lf 21 (.inl (o_iceq 39 24))) (lf 24 (.inl (o_aload 0 25))))) (nd 25 (lf 25 (.inl (o_getR 0 7 4 28))) (nd 28 (lf 28 (.inl (o_iload 3 29))) (lf 29 (.inl (o_iload 2 30)))))) (nd 32 (nd 30 (lf 30 (.inl (o_iast 31))) (nd 31 (lf 31 (.inl (o_aload 0 32))) (lf 32 (.inl (o_getR 0 7 4 35))))) (nd 37 (nd 35 (lf 35 (.inl (o_iload 4 37))) (lf 37 (.inl (o_iload 1 38)))) (nd 38 (lf 38 (.inl (o_iast 39))) (lf 39 (.inr (.inl 0))))))))
def tb_X0_writeDown : Nat → Option AI := (nd 34 (nd 16 (nd 6 (nd 1 (nd 0 (lf 0 (.inl (o_aload 0 1))) (lf 1 (.inl (o_getI 0 2 4)))) (nd 4 (lf 4 (.inl (o_iconst 5 5))) (nd 5 (lf 5 (.inl (o_imul 6))) (lf 6 (.inl (o_istore 6 8)))))) (nd 12 (nd 8 (lf 8 (.inl (o_aload 0 9))) (nd 9 (lf 9 (.inl (o_getR 0 10 7 12))) (lf 12 (.inl (o_iload 6 14))))) (nd 14 (lf 14 (.inl (o_iload 1 15))) (nd 15 (lf 15 (.inl (o_iast 16))) (lf 16 (.inl (o_aload 0 17))))))) (nd 25 (nd 22 (nd 17 (lf 17 (.inl (o_getR 0 10 7 20))) (nd 20 (lf 20 (.inl (o_iload 6 22))) (lf 22 (.inl (o_iconst 1 23))))) (nd 23 (lf 23 (.inl (o_iadd 24))) (nd 24 (lf 24 (.inl (o_iload 2 25))) (lf 25 (.inl (o_iast 26)))))) (nd 30 (nd 26 (lf 26 (.inl (o_aload 0 27))) (nd 27 (lf 27 (.inl (o_getR 0 10 7 30))) (lf 30 (.inl (o_iload 6 32))))) (nd 32 (lf 32 (.inl (o_iconst 2 33))) (nd 33 (lf 33 (.inl (o_iadd 34))) (lf 34 (.inl (o_iload 3 35)))))))) (nd 53 (nd 43 (nd 37 (nd 35 (lf 35 (.inl (o_iast 36))) (nd 36 (lf 36 (.inl (o_aload 0 37))) (lf 37 (.inl (o_getR 0 10 7 40))))) (nd 40 (lf 40 (.inl (o_iload 6 42))) (nd 42 (lf 42 (.inl (o_iconst 3 43))) (lf 43 (.inl (o_iadd 44)))))) (nd 47 (nd 44 (lf 44 (.inl (o_iload 4 46))) (nd 46 (lf 46 (.inl (o_iast 47))) (lf 47 (.inl (o_aload 0 48))))) (nd 48 (lf 48 (.inl (o_getR 0 10 7 51))) (nd 51 (lf 51 (.inl (o_iload 6 53))) (lf 53 (.inl (o_iconst 4 54))))))) (nd 60 (nd 57 (nd 54 (lf 54 (.inl (o_iadd 55))) (nd 55 (lf 55 (.inl (o_iload 5 57))) (lf 57 (.inl (o_iast 58))))) (nd 58 (lf 58 (.inl (o_aload 0 59))) (nd 59 (lf 59 (.inl (o_dup 60))) (lf 60 (.inl (o_getI 0 2 63)))))) (nd 65 (nd 63 (lf 63 (.inl (o_iconst 1 64))) (nd 64 (lf 64 (.inl (o_iadd 65))) (lf 65 (.inl (o_putI 0 2 68))))) (nd 68 (lf 68 (.inl (o_aload 0 69))) (nd 69 (lf 69 (.inl (o_getI 0 2 72))) (lf 72 (.inr (.inl 1)))))))))
def tb_X0_kindsByNotes : Nat → Option AI := (nd 39 (nd 16 (nd 5 (nd 2 (nd 0 (lf 0 (.inl (o_iconst 0 1))) (nd 1 (lf 1 (.inl (o_istore 2 2))) (lf 2 (.inl (o_iconst 0 3))))) (nd 3 (lf 3 (.inl (o_istore 3 4))) (nd 4 (lf 4 (.inl (o_iload 3 5))) (lf 5 (.inl (o_iconst 6 7)))))) (nd 11 (nd 7 (lf 7 (.inl (o_icge 83 10))) (nd 10 (lf 10 (.inl (o_iconst 1 11))) (lf 11 (.inl (o_istore 4 13))))) (nd 13 (lf 13 (.inl (o_iconst 0 14))) (nd 14 (lf 14 (.inl (o_istore 5 16))) (lf 16 (.inl (o_iload 5 18))))))) (nd 30 (nd 22 (nd 18 (lf 18 (.inl (o_aload 0 19))) (nd 19 (lf 19 (.inl (o_getI 0 2 22))) (lf 22 (.inl (o_icge 66 25))))) (nd 25 (lf 25 (.inl (o_iload 4 27))) (nd 27 (lf 27 (.inl (o_ifeq 57 30))) (lf 30 (.inl (o_aload 0 31)))))) (nd 36 (nd 31 (lf 31 (.inl (o_getR 0 10 7 34))) (nd 34 (lf 34 (.inl (o_iload 5 36))) (lf 36 (.inl (o_iconst 5 37))))) (nd 37 (lf 37 (.inl (o_imul 38))) (nd 38 (lf 38 (.inl (o_iald 4 39))) (lf 39 (.inl (o_iload 1 40)))))))) (nd 63 (nd 50 (nd 44 (nd 40 (lf 40 (.inl (o_icne 53 43))) (nd 43 (lf 43 (.inl (o_aload 0 44))) (lf 44 (.inl (o_iload 3 45))))) (nd 45 (lf 45 (.inl (o_iload 5 47))) (nd 47 (lf 47 (.inr (.inr (23, 3, 5, 0)))) (lf 50 (.inl (o_ifeq 57 53)))))) (nd 57 (nd 53 (lf 53 (.inl (o_iconst 1 54))) (nd 54 (lf 54 (.inl (o_goto 58))) (lf 57 (.inl (o_iconst 0 58))))) (nd 58 (lf 58 (.inl (o_istore 4 60))) (nd 60 (lf 60 (.inl (o_iinc 5 1 63))) (lf 63 (.inl (o_goto 16))))))) (nd 74 (nd 71 (nd 66 (lf 66 (.inl (o_iload 4 68))) (nd 68 (lf 68 (.inl (o_ifeq 77 71))) (lf 71 (.inl (o_iload 2 72))))) (nd 72 (lf 72 (.inl (o_iconst 1 73))) (nd 73 (lf 73 (.inl (o_iload 3 74))) (lf 74 (.inl (o_ishl 75)))))) (nd 77 (nd 75 (lf 75 (.inl (o_ior 76))) (nd 76 (lf 76 (.inl (o_istore 2 77))) (lf 77 (.inl (o_iinc 3 1 80))))) (nd 80 (lf 80 (.inl (o_goto 4))) (nd 83 (lf 83 (.inl (o_iload 2 84))) (lf 84 (.inr (.inl 1)))))))))
def tb_X0_isSoByNote : Nat → Option AI := (nd 32 (nd 13 (nd 4 (nd 1 (nd 0 (lf 0 (.inl (o_iload 2 1))) (lf 1 (.inl (o_iconst 5 2)))) (nd 2 (lf 2 (.inl (o_imul 3))) (nd 3 (lf 3 (.inl (o_istore 3 4))) (lf 4 (.inl (o_aload 0 5)))))) (nd 9 (nd 5 (lf 5 (.inl (o_getR 0 10 7 8))) (nd 8 (lf 8 (.inl (o_iload 3 9))) (lf 9 (.inl (o_iald 4 10))))) (nd 10 (lf 10 (.inl (o_istore 4 12))) (nd 12 (lf 12 (.inl (o_iload 1 13))) (lf 13 (.inl (o_aload 0 14))))))) (nd 24 (nd 19 (nd 14 (lf 14 (.inl (o_getR 0 5 2 17))) (nd 17 (lf 17 (.inl (o_iload 4 19))) (lf 19 (.inl (o_iald 4 20))))) (nd 20 (lf 20 (.inl (o_aload 0 21))) (nd 21 (lf 21 (.inl (o_getR 0 10 7 24))) (lf 24 (.inl (o_iload 3 25)))))) (nd 27 (nd 25 (lf 25 (.inl (o_iconst 2 26))) (nd 26 (lf 26 (.inl (o_iadd 27))) (lf 27 (.inl (o_iald 4 28))))) (nd 28 (lf 28 (.inr (.inr (28, 3, 3, 9)))) (nd 31 (lf 31 (.inl (o_aload 0 32))) (lf 32 (.inl (o_getR 0 10 7 35)))))))) (nd 50 (nd 42 (nd 37 (nd 35 (lf 35 (.inl (o_iload 3 36))) (nd 36 (lf 36 (.inl (o_iconst 3 37))) (lf 37 (.inl (o_iadd 38))))) (nd 38 (lf 38 (.inl (o_iald 4 39))) (nd 39 (lf 39 (.inl (o_icne 69 42))) (lf 42 (.inl (o_iload 1 43)))))) (nd 47 (nd 43 (lf 43 (.inl (o_aload 0 44))) (nd 44 (lf 44 (.inl (o_getR 0 10 7 47))) (lf 47 (.inl (o_iload 3 48))))) (nd 48 (lf 48 (.inl (o_iconst 1 49))) (nd 49 (lf 49 (.inl (o_iadd 50))) (lf 50 (.inl (o_iald 4 51))))))) (nd 60 (nd 55 (nd 51 (lf 51 (.inr (.inr (29, 2, 2, 9)))) (nd 54 (lf 54 (.inl (o_aload 0 55))) (lf 55 (.inl (o_getR 0 10 7 58))))) (nd 58 (lf 58 (.inl (o_iload 3 59))) (nd 59 (lf 59 (.inl (o_iconst 4 60))) (lf 60 (.inl (o_iadd 61)))))) (nd 65 (nd 61 (lf 61 (.inl (o_iald 4 62))) (nd 62 (lf 62 (.inl (o_icne 69 65))) (lf 65 (.inl (o_iconst 1 66))))) (nd 66 (lf 66 (.inl (o_goto 70))) (nd 69 (lf 69 (.inl (o_iconst 0 70))) (lf 70 (.inr (.inl 3)))))))))
def tb_X0_lendOrLeave : Nat → Option AI := (nd 16 (nd 6 (nd 1 (nd 0 (lf 0 (.inl (o_aload 0 1))) (lf 1 (.inl (o_getR 0 7 4 4)))) (nd 4 (lf 4 (.inl (o_iload 1 5))) (nd 5 (lf 5 (.inl (o_iald 4 6))) (lf 6 (.inl (o_iconst (-1) 7)))))) (nd 11 (nd 7 (lf 7 (.inl (o_icne 18 10))) (nd 10 (lf 10 (.inl (o_aload 0 11))) (lf 11 (.inl (o_iload 1 12))))) (nd 12 (lf 12 (.inl (o_iload 2 13))) (nd 13 (lf 13 (.inr (.inr (4, 3, 4, 0)))) (lf 16 (.inl (o_pop 17))))))) (nd 24 (nd 19 (nd 17 (lf 17 (.inr (.inl 0))) (nd 18 (lf 18 (.inl (o_aload 0 19))) (lf 19 (.inl (o_iload 2 20))))) (nd 20 (lf 20 (.inr (.inr (3, 2, 3, 0)))) (nd 23 (lf 23 (.inl (o_istore 3 24))) (lf 24 (.inl (o_iload 3 25)))))) (nd 29 (nd 25 (lf 25 (.inl (o_iconst (-1) 26))) (nd 26 (lf 26 (.inl (o_iceq 34 29))) (lf 29 (.inl (o_aload 0 30))))) (nd 30 (lf 30 (.inl (o_iload 3 31))) (nd 31 (lf 31 (.inr (.inr (5, 2, 2, 0)))) (lf 34 (.inr (.inl 0))))))))
def tb_X0_atCounter : Nat → Option AI := (nd 12 (nd 3 (nd 1 (nd 0 (lf 0 (.inl (o_iconst 0 1))) (lf 1 (.inl (o_istore 1 2)))) (nd 2 (lf 2 (.inl (o_iconst 0 3))) (lf 3 (.inl (o_istore 2 4))))) (nd 5 (nd 4 (lf 4 (.inl (o_iload 2 5))) (lf 5 (.inl (o_aload 0 6)))) (nd 6 (lf 6 (.inl (o_getI 0 0 9))) (nd 9 (lf 9 (.inl (o_icge 31 12))) (lf 12 (.inl (o_aload 0 13))))))) (nd 19 (nd 16 (nd 13 (lf 13 (.inl (o_getR 0 7 4 16))) (lf 16 (.inl (o_iload 2 17)))) (nd 17 (lf 17 (.inl (o_iald 4 18))) (nd 18 (lf 18 (.inl (o_iconst (-1) 19))) (lf 19 (.inl (o_icne 25 22)))))) (nd 25 (nd 22 (lf 22 (.inl (o_iinc 1 1 25))) (lf 25 (.inl (o_iinc 2 1 28)))) (nd 28 (lf 28 (.inl (o_goto 4))) (nd 31 (lf 31 (.inl (o_iload 1 32))) (lf 32 (.inr (.inl 1))))))))
def tb_X0_allSlipped : Nat → Option AI := (nd 12 (nd 3 (nd 1 (nd 0 (lf 0 (.inl (o_iconst 0 1))) (lf 1 (.inl (o_istore 1 2)))) (nd 2 (lf 2 (.inl (o_iconst 0 3))) (lf 3 (.inl (o_istore 2 4))))) (nd 5 (nd 4 (lf 4 (.inl (o_iload 2 5))) (lf 5 (.inl (o_aload 0 6)))) (nd 6 (lf 6 (.inl (o_getI 0 0 9))) (nd 9 (lf 9 (.inl (o_icge 27 12))) (lf 12 (.inl (o_iload 1 13))))))) (nd 19 (nd 14 (nd 13 (lf 13 (.inl (o_aload 0 14))) (lf 14 (.inl (o_getR 0 9 6 17)))) (nd 17 (lf 17 (.inl (o_iload 2 18))) (nd 18 (lf 18 (.inl (o_iald 4 19))) (lf 19 (.inl (o_iadd 20)))))) (nd 21 (nd 20 (lf 20 (.inl (o_istore 1 21))) (lf 21 (.inl (o_iinc 2 1 24)))) (nd 24 (lf 24 (.inl (o_goto 4))) (nd 27 (lf 27 (.inl (o_iload 1 28))) (lf 28 (.inr (.inl 1))))))))
def tb_X0_digestOn : Nat → Option AI := (nd 82 (nd 41 (nd 19 (nd 7 (nd 2 (nd 0 (lf 0 (.inl (o_lload 1 1))) (nd 1 (lf 1 (.inl (o_lstore 3 2))) (lf 2 (.inl (o_iconst 0 3))))) (nd 3 (lf 3 (.inl (o_istore 5 5))) (nd 5 (lf 5 (.inl (o_iload 5 7))) (lf 7 (.inl (o_aload 0 8)))))) (nd 14 (nd 8 (lf 8 (.inl (o_getI 0 0 11))) (nd 11 (lf 11 (.inl (o_icge 35 14))) (lf 14 (.inl (o_lconst 31 17))))) (nd 17 (lf 17 (.inl (o_lload 3 18))) (nd 18 (lf 18 (.inl (o_lmul 19))) (lf 19 (.inl (o_aload 0 20))))))) (nd 28 (nd 25 (nd 20 (lf 20 (.inl (o_getR 0 6 3 23))) (nd 23 (lf 23 (.inl (o_iload 5 25))) (lf 25 (.inl (o_iald 4 26))))) (nd 26 (lf 26 (.inl (o_i2l 27))) (nd 27 (lf 27 (.inl (o_ladd 28))) (lf 28 (.inl (o_lstore 3 29)))))) (nd 35 (nd 29 (lf 29 (.inl (o_iinc 5 1 32))) (nd 32 (lf 32 (.inl (o_goto 5))) (lf 35 (.inl (o_iconst 0 36))))) (nd 38 (nd 36 (lf 36 (.inl (o_istore 5 38))) (lf 38 (.inl (o_iload 5 40)))) (nd 40 (lf 40 (.inl (o_aload 0 41))) (lf 41 (.inl (o_getI 0 0 44)))))))) (nd 62 (nd 53 (nd 50 (nd 44 (lf 44 (.inl (o_icge 128 47))) (nd 47 (lf 47 (.inl (o_lconst 31 50))) (lf 50 (.inl (o_lload 3 51))))) (nd 51 (lf 51 (.inl (o_lmul 52))) (nd 52 (lf 52 (.inl (o_aload 0 53))) (lf 53 (.inl (o_getR 0 4 1 56)))))) (nd 59 (nd 56 (lf 56 (.inl (o_iload 5 58))) (nd 58 (lf 58 (.inl (o_iald 4 59))) (lf 59 (.inl (o_i2l 60))))) (nd 60 (lf 60 (.inl (o_ladd 61))) (nd 61 (lf 61 (.inl (o_lstore 3 62))) (lf 62 (.inl (o_lconst 31 65))))))) (nd 73 (nd 67 (nd 65 (lf 65 (.inl (o_lload 3 66))) (nd 66 (lf 66 (.inl (o_lmul 67))) (lf 67 (.inl (o_aload 0 68))))) (nd 68 (lf 68 (.inl (o_getR 0 5 2 71))) (nd 71 (lf 71 (.inl (o_iload 5 73))) (lf 73 (.inl (o_iald 4 74)))))) (nd 76 (nd 74 (lf 74 (.inl (o_i2l 75))) (nd 75 (lf 75 (.inl (o_ladd 76))) (lf 76 (.inl (o_lstore 3 77))))) (nd 80 (nd 77 (lf 77 (.inl (o_lconst 31 80))) (lf 80 (.inl (o_lload 3 81)))) (nd 81 (lf 81 (.inl (o_lmul 82))) (lf 82 (.inl (o_aload 0 83))))))))) (nd 120 (nd 101 (nd 91 (nd 88 (nd 83 (lf 83 (.inl (o_getR 0 7 4 86))) (nd 86 (lf 86 (.inl (o_iload 5 88))) (lf 88 (.inl (o_iald 4 89))))) (nd 89 (lf 89 (.inl (o_i2l 90))) (nd 90 (lf 90 (.inl (o_ladd 91))) (lf 91 (.inl (o_lstore 3 92)))))) (nd 96 (nd 92 (lf 92 (.inl (o_lconst 31 95))) (nd 95 (lf 95 (.inl (o_lload 3 96))) (lf 96 (.inl (o_lmul 97))))) (nd 97 (lf 97 (.inl (o_aload 0 98))) (nd 98 (lf 98 (.inl (o_getR 0 8 5 101))) (lf 101 (.inl (o_iload 5 103))))))) (nd 110 (nd 105 (nd 103 (lf 103 (.inl (o_iald 4 104))) (nd 104 (lf 104 (.inl (o_i2l 105))) (lf 105 (.inl (o_ladd 106))))) (nd 106 (lf 106 (.inl (o_lstore 3 107))) (nd 107 (lf 107 (.inl (o_lconst 31 110))) (lf 110 (.inl (o_lload 3 111)))))) (nd 113 (nd 111 (lf 111 (.inl (o_lmul 112))) (nd 112 (lf 112 (.inl (o_aload 0 113))) (lf 113 (.inl (o_getR 0 9 6 116))))) (nd 118 (nd 116 (lf 116 (.inl (o_iload 5 118))) (lf 118 (.inl (o_iald 4 119)))) (nd 119 (lf 119 (.inl (o_i2l 120))) (lf 120 (.inl (o_ladd 121)))))))) (nd 142 (nd 131 (nd 125 (nd 121 (lf 121 (.inl (o_lstore 3 122))) (nd 122 (lf 122 (.inl (o_iinc 5 1 125))) (lf 125 (.inl (o_goto 38))))) (nd 128 (lf 128 (.inl (o_iconst 0 129))) (nd 129 (lf 129 (.inl (o_istore 5 131))) (lf 131 (.inl (o_iload 5 133)))))) (nd 137 (nd 133 (lf 133 (.inl (o_aload 0 134))) (nd 134 (lf 134 (.inl (o_getI 0 2 137))) (lf 137 (.inl (o_iconst 5 138))))) (nd 138 (lf 138 (.inl (o_imul 139))) (nd 139 (lf 139 (.inl (o_icge 163 142))) (lf 142 (.inl (o_lconst 31 145))))))) (nd 153 (nd 147 (nd 145 (lf 145 (.inl (o_lload 3 146))) (nd 146 (lf 146 (.inl (o_lmul 147))) (lf 147 (.inl (o_aload 0 148))))) (nd 148 (lf 148 (.inl (o_getR 0 10 7 151))) (nd 151 (lf 151 (.inl (o_iload 5 153))) (lf 153 (.inl (o_iald 4 154)))))) (nd 156 (nd 154 (lf 154 (.inl (o_i2l 155))) (nd 155 (lf 155 (.inl (o_ladd 156))) (lf 156 (.inl (o_lstore 3 157))))) (nd 160 (nd 157 (lf 157 (.inl (o_iinc 5 1 160))) (lf 160 (.inl (o_goto 131)))) (nd 163 (lf 163 (.inl (o_lload 3 164))) (lf 164 (.inr (.inl 2))))))))))
def tb_X1_soundOf : Nat → Option AI := (nd 49 (nd 39 (nd 36 (nd 0 (lf 0 (.inl (o_iload 0 1))) (nd 1 (lf 1 (.inl (o_tsw 1 [36, 44, 65, 53, 44] 65))) (lf 36 (.inl (o_iconst 0 37))))) (nd 37 (lf 37 (.inl (o_iload 1 38))) (nd 38 (lf 38 (.inl (o_iconst 2 39))) (lf 39 (.inl (o_isub 40)))))) (nd 44 (nd 40 (lf 40 (.inl (o_max 43))) (nd 43 (lf 43 (.inr (.inl 1))) (lf 44 (.inl (o_iconst 9 46))))) (nd 47 (nd 46 (lf 46 (.inl (o_iload 1 47))) (lf 47 (.inl (o_iconst 2 48)))) (nd 48 (lf 48 (.inl (o_iadd 49))) (lf 49 (.inl (o_min 52))))))) (nd 57 (nd 54 (nd 52 (lf 52 (.inr (.inl 1))) (nd 53 (lf 53 (.inl (o_iconst 0 54))) (lf 54 (.inl (o_iload 1 55))))) (nd 55 (lf 55 (.inl (o_iconst 2 56))) (nd 56 (lf 56 (.inl (o_isub 57))) (lf 57 (.inl (o_iload 2 58)))))) (nd 60 (nd 58 (lf 58 (.inl (o_iconst 2 59))) (nd 59 (lf 59 (.inl (o_irem 60))) (lf 60 (.inl (o_isub 61))))) (nd 64 (nd 61 (lf 61 (.inl (o_max 64))) (lf 64 (.inr (.inl 1)))) (nd 65 (lf 65 (.inl (o_iload 1 66))) (lf 66 (.inr (.inl 1))))))))
def tb_X1_wordsOf : Nat → Option AI := (nd 40 (nd 33 (nd 1 (nd 0 (lf 0 (.inl (o_iload 0 1))) (lf 1 (.inl (o_tsw 2 [32, 37, 52, 45] 52)))) (nd 32 (lf 32 (.inl (o_iload 1 33))) (lf 33 (.inr (.inr (31, 1, 1, 9)))))) (nd 37 (nd 36 (lf 36 (.inr (.inl 1))) (lf 37 (.inl (o_iconst 1 38)))) (nd 38 (lf 38 (.inl (o_iconst 3 39))) (nd 39 (lf 39 (.inl (o_iload 1 40))) (lf 40 (.inl (o_isub 41))))))) (nd 47 (nd 44 (nd 41 (lf 41 (.inl (o_max 44))) (lf 44 (.inr (.inl 1)))) (nd 45 (lf 45 (.inl (o_iconst 2 46))) (nd 46 (lf 46 (.inl (o_iload 1 47))) (lf 47 (.inr (.inr (31, 1, 1, 9))))))) (nd 51 (nd 50 (lf 50 (.inl (o_imul 51))) (lf 51 (.inr (.inl 1)))) (nd 52 (lf 52 (.inl (o_iload 1 53))) (nd 53 (lf 53 (.inr (.inr (30, 1, 1, 9)))) (lf 56 (.inr (.inl 1))))))))
def tb_X1_plainWords : Nat → Option AI := (nd 2 (nd 0 (lf 0 (.inl (o_iload 0 1))) (nd 1 (lf 1 (.inl (o_iconst 2 2))) (lf 2 (.inl (o_icgt 9 5))))) (nd 6 (nd 5 (lf 5 (.inl (o_iconst 1 6))) (lf 6 (.inl (o_goto 10)))) (nd 9 (lf 9 (.inl (o_iconst 0 10))) (lf 10 (.inr (.inl 1))))))
def tb_X1_trebleWords : Nat → Option AI := (nd 1 (nd 0 (lf 0 (.inl (o_iload 0 1))) (lf 1 (.inr (.inr (30, 1, 1, 9))))) (nd 4 (lf 4 (.inl (o_iconst 1 5))) (nd 5 (lf 5 (.inl (o_iadd 6))) (lf 6 (.inr (.inl 1))))))
def tb_X1_mostAlike : Nat → Option AI := (nd 47 (nd 26 (nd 10 (nd 3 (nd 0 (lf 0 (.inl (o_iconst 0 1))) (nd 1 (lf 1 (.inl (o_istore 4 3))) (lf 3 (.inl (o_iconst 0 4))))) (nd 6 (nd 4 (lf 4 (.inl (o_istore 5 6))) (lf 6 (.inl (o_iload 5 8)))) (nd 8 (lf 8 (.inl (o_iconst 6 10))) (lf 10 (.inl (o_icge 114 13)))))) (nd 17 (nd 14 (nd 13 (lf 13 (.inl (o_iconst 0 14))) (lf 14 (.inl (o_istore 6 16)))) (nd 16 (lf 16 (.inl (o_iconst 0 17))) (lf 17 (.inl (o_istore 7 19))))) (nd 21 (nd 19 (lf 19 (.inl (o_iload 7 21))) (lf 21 (.inl (o_iconst 6 23)))) (nd 23 (lf 23 (.inl (o_icge 99 26))) (lf 26 (.inl (o_iload 0 27))))))) (nd 36 (nd 30 (nd 27 (lf 27 (.inl (o_iload 5 29))) (nd 29 (lf 29 (.inl (o_ishr 30))) (lf 30 (.inl (o_iconst 1 31))))) (nd 32 (nd 31 (lf 31 (.inl (o_iand 32))) (lf 32 (.inl (o_iconst 1 33)))) (nd 33 (lf 33 (.inl (o_icne 50 36))) (lf 36 (.inl (o_iload 0 37)))))) (nd 41 (nd 39 (nd 37 (lf 37 (.inl (o_iload 7 39))) (lf 39 (.inl (o_ishr 40)))) (nd 40 (lf 40 (.inl (o_iconst 1 41))) (lf 41 (.inl (o_iand 42))))) (nd 43 (nd 42 (lf 42 (.inl (o_iconst 1 43))) (lf 43 (.inl (o_icne 50 46)))) (nd 46 (lf 46 (.inl (o_iconst 1 47))) (lf 47 (.inl (o_goto 51)))))))) (nd 77 (nd 61 (nd 53 (nd 50 (lf 50 (.inl (o_iconst 0 51))) (nd 51 (lf 51 (.inl (o_istore 8 53))) (lf 53 (.inl (o_iload 8 55))))) (nd 58 (nd 55 (lf 55 (.inl (o_ifeq 93 58))) (lf 58 (.inl (o_iload 5 60)))) (nd 60 (lf 60 (.inl (o_iload 1 61))) (lf 61 (.inl (o_iload 3 62)))))) (nd 68 (nd 65 (nd 62 (lf 62 (.inr (.inr (28, 3, 3, 9)))) (lf 65 (.inl (o_iload 7 67)))) (nd 67 (lf 67 (.inl (o_iload 1 68))) (lf 68 (.inl (o_iload 3 69))))) (nd 72 (nd 69 (lf 69 (.inr (.inr (28, 3, 3, 9)))) (lf 72 (.inl (o_icne 93 75)))) (nd 75 (lf 75 (.inl (o_iload 5 77))) (lf 77 (.inl (o_iload 2 78))))))) (nd 96 (nd 84 (nd 81 (nd 78 (lf 78 (.inr (.inr (29, 2, 2, 9)))) (lf 81 (.inl (o_iload 7 83)))) (nd 83 (lf 83 (.inl (o_iload 2 84))) (lf 84 (.inr (.inr (29, 2, 2, 9)))))) (nd 90 (nd 87 (lf 87 (.inl (o_icne 93 90))) (lf 90 (.inl (o_iinc 6 1 93)))) (nd 93 (lf 93 (.inl (o_iinc 7 1 96))) (lf 96 (.inl (o_goto 19)))))) (nd 106 (nd 101 (nd 99 (lf 99 (.inl (o_iload 4 101))) (lf 101 (.inl (o_iload 6 103)))) (nd 103 (lf 103 (.inl (o_max 106))) (lf 106 (.inl (o_istore 4 108))))) (nd 111 (nd 108 (lf 108 (.inl (o_iinc 5 1 111))) (lf 111 (.inl (o_goto 6)))) (nd 114 (lf 114 (.inl (o_iload 4 116))) (lf 116 (.inr (.inl 1)))))))))
def tb_X2_append : Nat → Option AI := (nd 11 (nd 5 (nd 1 (nd 0 (lf 0 (.inl (o_aload 0 1))) (lf 1 (.inl (o_getR 1 0 1 4)))) (nd 4 (lf 4 (.inl (o_aload 0 5))) (lf 5 (.inl (o_getI 1 1 8))))) (nd 9 (nd 8 (lf 8 (.inl (o_iload 1 9))) (lf 9 (.inl (o_i2b 10)))) (nd 10 (lf 10 (.inl (o_bast 11))) (lf 11 (.inl (o_aload 0 12)))))) (nd 17 (nd 13 (nd 12 (lf 12 (.inl (o_dup 13))) (lf 13 (.inl (o_getI 1 1 16)))) (nd 16 (lf 16 (.inl (o_iconst 1 17))) (lf 17 (.inl (o_iadd 18))))) (nd 21 (nd 18 (lf 18 (.inl (o_putI 1 1 21))) (lf 21 (.inl (o_aload 0 22)))) (nd 22 (lf 22 (.inl (o_getI 1 1 25))) (lf 25 (.inr (.inl 1)))))))
def tb_X2_readInto : Nat → Option AI := (nd 35 (nd 13 (nd 6 (nd 1 (nd 0 (lf 0 (.inl (o_aload 1 1))) (lf 1 (.inr (.inr (0, 1, 1, 0))))) (nd 4 (lf 4 (.inl (o_aload 0 5))) (nd 5 (lf 5 (.inl (o_iconst 0 6))) (lf 6 (.inl (o_putI 1 4 9)))))) (nd 10 (nd 9 (lf 9 (.inl (o_iconst 0 10))) (lf 10 (.inl (o_istore 2 11)))) (nd 11 (lf 11 (.inl (o_iconst 0 12))) (nd 12 (lf 12 (.inl (o_istore 3 13))) (lf 13 (.inl (o_iload 3 14))))))) (nd 24 (nd 17 (nd 14 (lf 14 (.inl (o_iconst 150 17))) (lf 17 (.inl (o_icgt 71 20)))) (nd 20 (lf 20 (.inl (o_aload 0 21))) (nd 21 (lf 21 (.inr (.inr (43, 1, 1, 1)))) (lf 24 (.inl (o_aload 0 25)))))) (nd 28 (nd 25 (lf 25 (.inl (o_getI 1 2 28))) (lf 28 (.inl (o_ifne 37 31)))) (nd 31 (lf 31 (.inl (o_iload 2 32))) (nd 32 (lf 32 (.inl (o_ifle 37 35))) (lf 35 (.inl (o_iload 2 36)))))))) (nd 53 (nd 42 (nd 37 (nd 36 (lf 36 (.inr (.inl 1))) (lf 37 (.inl (o_iload 2 38)))) (nd 38 (lf 38 (.inl (o_ifne 51 41))) (nd 41 (lf 41 (.inl (o_aload 0 42))) (lf 42 (.inr (.inr (35, 1, 1, 1))))))) (nd 48 (nd 45 (lf 45 (.inl (o_ifeq 71 48))) (lf 48 (.inl (o_goto 62)))) (nd 51 (lf 51 (.inl (o_aload 0 52))) (nd 52 (lf 52 (.inl (o_aload 1 53))) (lf 53 (.inr (.inr (36, 2, 2, 1)))))))) (nd 68 (nd 59 (nd 56 (lf 56 (.inl (o_ifne 62 59))) (lf 59 (.inl (o_goto 71)))) (nd 62 (lf 62 (.inl (o_iinc 2 1 65))) (nd 65 (lf 65 (.inl (o_iinc 3 1 68))) (lf 68 (.inl (o_goto 13)))))) (nd 73 (nd 71 (lf 71 (.inl (o_iconst (-10) 73))) (lf 73 (.inl (o_aload 0 74)))) (nd 74 (lf 74 (.inl (o_getI 1 3 77))) (nd 77 (lf 77 (.inl (o_isub 78))) (lf 78 (.inr (.inl 1)))))))))
def tb_X2_isCounter : Nat → Option AI := (nd 9 (nd 1 (nd 0 (lf 0 (.inl (o_aload 0 1))) (lf 1 (.inl (o_str 0 3)))) (nd 3 (lf 3 (.inr (.inr (42, 2, 3, 1)))) (nd 6 (lf 6 (.inl (o_ifeq 20 9))) (lf 9 (.inl (o_aload 0 10)))))) (nd 16 (nd 10 (lf 10 (.inr (.inr (41, 1, 1, 1)))) (nd 13 (lf 13 (.inl (o_ifeq 20 16))) (lf 16 (.inl (o_iconst 1 17))))) (nd 17 (lf 17 (.inl (o_goto 21))) (nd 20 (lf 20 (.inl (o_iconst 0 21))) (lf 21 (.inr (.inl 3)))))))
def tb_X2_isItem : Nat → Option AI := (nd 25 (nd 11 (nd 3 (nd 0 (lf 0 (.inl (o_aload 0 1))) (nd 1 (lf 1 (.inl (o_str 1 3))) (lf 3 (.inr (.inr (42, 2, 3, 1)))))) (nd 9 (nd 6 (lf 6 (.inl (o_ifeq 15 9))) (lf 9 (.inl (o_aload 0 10)))) (nd 10 (lf 10 (.inl (o_aload 1 11))) (lf 11 (.inr (.inr (37, 2, 4, 1))))))) (nd 16 (nd 14 (lf 14 (.inr (.inl 3))) (nd 15 (lf 15 (.inl (o_aload 0 16))) (lf 16 (.inl (o_str 2 18))))) (nd 21 (nd 18 (lf 18 (.inr (.inr (42, 2, 3, 1)))) (lf 21 (.inl (o_ifeq 30 24)))) (nd 24 (lf 24 (.inl (o_aload 0 25))) (lf 25 (.inl (o_aload 1 26))))))) (nd 39 (nd 30 (nd 26 (lf 26 (.inr (.inr (38, 2, 3, 1)))) (nd 29 (lf 29 (.inr (.inl 3))) (lf 30 (.inl (o_aload 0 31))))) (nd 33 (nd 31 (lf 31 (.inl (o_str 3 33))) (lf 33 (.inr (.inr (42, 2, 3, 1))))) (nd 36 (lf 36 (.inl (o_ifeq 51 39))) (lf 39 (.inl (o_aload 0 40)))))) (nd 44 (nd 40 (lf 40 (.inl (o_aload 1 41))) (nd 41 (lf 41 (.inr (.inr (39, 2, 3, 1)))) (lf 44 (.inl (o_ifeq 51 47))))) (nd 48 (nd 47 (lf 47 (.inl (o_iconst 1 48))) (lf 48 (.inl (o_goto 52)))) (nd 51 (lf 51 (.inl (o_iconst 0 52))) (lf 52 (.inr (.inl 3))))))))
def tb_X2_isOne : Nat → Option AI := (nd 35 (nd 18 (nd 6 (nd 1 (nd 0 (lf 0 (.inl (o_aload 1 1))) (lf 1 (.inl (o_getI 0 0 4)))) (nd 4 (lf 4 (.inl (o_iconst 6 6))) (lf 6 (.inl (o_icge 18 9))))) (nd 10 (nd 9 (lf 9 (.inl (o_aload 0 10))) (lf 10 (.inl (o_iconst 6 12)))) (nd 12 (lf 12 (.inr (.inr (40, 2, 2, 1)))) (nd 15 (lf 15 (.inl (o_ifne 20 18))) (lf 18 (.inl (o_iconst 0 19))))))) (nd 25 (nd 20 (nd 19 (lf 19 (.inr (.inl 3))) (lf 20 (.inl (o_aload 0 21)))) (nd 21 (lf 21 (.inl (o_getI 1 5 24))) (nd 24 (lf 24 (.inl (o_istore 2 25))) (lf 25 (.inl (o_aload 0 26)))))) (nd 28 (nd 26 (lf 26 (.inl (o_iconst 10 28))) (lf 28 (.inr (.inr (40, 2, 2, 1))))) (nd 31 (lf 31 (.inl (o_ifne 36 34))) (nd 34 (lf 34 (.inl (o_iconst 0 35))) (lf 35 (.inr (.inl 3)))))))) (nd 51 (nd 41 (nd 37 (nd 36 (lf 36 (.inl (o_aload 0 37))) (lf 37 (.inl (o_getI 1 5 40)))) (nd 40 (lf 40 (.inl (o_istore 3 41))) (lf 41 (.inl (o_aload 0 42))))) (nd 44 (nd 42 (lf 42 (.inl (o_iconst 10 44))) (lf 44 (.inr (.inr (40, 2, 2, 1))))) (nd 47 (lf 47 (.inl (o_ifne 52 50))) (nd 50 (lf 50 (.inl (o_iconst 0 51))) (lf 51 (.inr (.inl 3))))))) (nd 56 (nd 53 (nd 52 (lf 52 (.inl (o_aload 1 53))) (lf 53 (.inl (o_iload 2 54)))) (nd 54 (lf 54 (.inl (o_iload 3 55))) (nd 55 (lf 55 (.inl (o_aload 0 56))) (lf 56 (.inl (o_getI 1 5 59)))))) (nd 62 (nd 59 (lf 59 (.inr (.inr (2, 4, 5, 0)))) (lf 62 (.inl (o_pop 63)))) (nd 63 (lf 63 (.inl (o_aload 0 64))) (nd 64 (lf 64 (.inr (.inr (41, 1, 1, 1)))) (lf 67 (.inr (.inl 3)))))))))
def tb_X2_isLeave : Nat → Option AI := (nd 18 (nd 8 (nd 1 (nd 0 (lf 0 (.inl (o_aload 0 1))) (lf 1 (.inl (o_aload 1 2)))) (nd 2 (lf 2 (.inl (o_getI 0 0 5))) (nd 5 (lf 5 (.inr (.inr (40, 2, 2, 1)))) (lf 8 (.inl (o_ifne 13 11)))))) (nd 13 (nd 11 (lf 11 (.inl (o_iconst 0 12))) (nd 12 (lf 12 (.inr (.inl 3))) (lf 13 (.inl (o_aload 1 14))))) (nd 14 (lf 14 (.inl (o_aload 0 15))) (nd 15 (lf 15 (.inl (o_getI 1 5 18))) (lf 18 (.inr (.inr (3, 2, 3, 0)))))))) (nd 28 (nd 23 (nd 21 (lf 21 (.inl (o_istore 2 22))) (nd 22 (lf 22 (.inl (o_iload 2 23))) (lf 23 (.inl (o_iconst (-1) 24))))) (nd 24 (lf 24 (.inl (o_icne 29 27))) (nd 27 (lf 27 (.inl (o_iconst 0 28))) (lf 28 (.inr (.inl 3)))))) (nd 31 (nd 29 (lf 29 (.inl (o_aload 1 30))) (nd 30 (lf 30 (.inl (o_iload 2 31))) (lf 31 (.inr (.inr (5, 2, 2, 0)))))) (nd 34 (lf 34 (.inl (o_aload 0 35))) (nd 35 (lf 35 (.inr (.inr (41, 1, 1, 1)))) (lf 38 (.inr (.inl 3))))))))
def tb_X2_isLend : Nat → Option AI := (nd 27 (nd 15 (nd 5 (nd 1 (nd 0 (lf 0 (.inl (o_aload 0 1))) (lf 1 (.inl (o_aload 1 2)))) (nd 2 (lf 2 (.inl (o_getI 0 0 5))) (lf 5 (.inr (.inr (40, 2, 2, 1)))))) (nd 11 (nd 8 (lf 8 (.inl (o_ifeq 24 11))) (lf 11 (.inl (o_aload 1 12)))) (nd 12 (lf 12 (.inl (o_getR 0 7 4 15))) (lf 15 (.inl (o_aload 0 16)))))) (nd 21 (nd 19 (nd 16 (lf 16 (.inl (o_getI 1 5 19))) (lf 19 (.inl (o_iald 4 20)))) (nd 20 (lf 20 (.inl (o_iconst (-1) 21))) (lf 21 (.inl (o_iceq 26 24))))) (nd 25 (nd 24 (lf 24 (.inl (o_iconst 0 25))) (lf 25 (.inr (.inl 3)))) (nd 26 (lf 26 (.inl (o_aload 0 27))) (lf 27 (.inl (o_getI 1 5 30))))))) (nd 43 (nd 33 (nd 31 (nd 30 (lf 30 (.inl (o_istore 2 31))) (lf 31 (.inl (o_aload 0 32)))) (nd 32 (lf 32 (.inl (o_aload 1 33))) (lf 33 (.inl (o_getI 0 0 36))))) (nd 39 (nd 36 (lf 36 (.inr (.inr (40, 2, 2, 1)))) (lf 39 (.inl (o_ifne 44 42)))) (nd 42 (lf 42 (.inl (o_iconst 0 43))) (lf 43 (.inr (.inl 3)))))) (nd 47 (nd 45 (nd 44 (lf 44 (.inl (o_aload 1 45))) (lf 45 (.inl (o_iload 2 46)))) (nd 46 (lf 46 (.inl (o_aload 0 47))) (lf 47 (.inl (o_getI 1 5 50))))) (nd 53 (nd 50 (lf 50 (.inr (.inr (4, 3, 4, 0)))) (lf 53 (.inl (o_pop 54)))) (nd 54 (lf 54 (.inl (o_aload 0 55))) (nd 55 (lf 55 (.inr (.inr (41, 1, 1, 1)))) (lf 58 (.inr (.inl 3)))))))))
def tb_X2_isNumberBelow : Nat → Option AI := (nd 12 (nd 4 (nd 0 (lf 0 (.inl (o_aload 0 1))) (nd 1 (lf 1 (.inr (.inr (43, 1, 1, 1)))) (lf 4 (.inl (o_aload 0 5))))) (nd 8 (nd 5 (lf 5 (.inl (o_getI 1 2 8))) (lf 8 (.inl (o_iconst 2 9)))) (nd 9 (lf 9 (.inl (o_icne 24 12))) (lf 12 (.inl (o_aload 0 13)))))) (nd 17 (nd 13 (lf 13 (.inl (o_getI 1 5 16))) (nd 16 (lf 16 (.inl (o_iload 1 17))) (lf 17 (.inl (o_icge 24 20))))) (nd 21 (nd 20 (lf 20 (.inl (o_iconst 1 21))) (lf 21 (.inl (o_goto 25)))) (nd 24 (lf 24 (.inl (o_iconst 0 25))) (lf 25 (.inr (.inl 3)))))))
def tb_X2_isStop : Nat → Option AI := (nd 8 (nd 1 (nd 0 (lf 0 (.inl (o_aload 0 1))) (lf 1 (.inr (.inr (43, 1, 1, 1))))) (nd 4 (lf 4 (.inl (o_aload 0 5))) (nd 5 (lf 5 (.inl (o_getI 1 2 8))) (lf 8 (.inl (o_iconst 3 9)))))) (nd 12 (nd 9 (lf 9 (.inl (o_icne 16 12))) (lf 12 (.inl (o_iconst 1 13)))) (nd 13 (lf 13 (.inl (o_goto 17))) (nd 16 (lf 16 (.inl (o_iconst 0 17))) (lf 17 (.inr (.inl 3)))))))
def tb_X2_isWord : Nat → Option AI := (nd 29 (nd 16 (nd 5 (nd 1 (nd 0 (lf 0 (.inl (o_aload 0 1))) (lf 1 (.inl (o_getI 1 2 4)))) (nd 4 (lf 4 (.inl (o_iconst 1 5))) (lf 5 (.inl (o_icne 24 8))))) (nd 9 (nd 8 (lf 8 (.inl (o_aload 0 9))) (lf 9 (.inl (o_getI 1 4 12)))) (nd 12 (lf 12 (.inl (o_aload 0 13))) (nd 13 (lf 13 (.inl (o_getI 1 3 16))) (lf 16 (.inl (o_isub 17))))))) (nd 24 (nd 18 (nd 17 (lf 17 (.inl (o_aload 1 18))) (lf 18 (.inl (o_slen 21)))) (nd 21 (lf 21 (.inl (o_iceq 26 24))) (lf 24 (.inl (o_iconst 0 25))))) (nd 26 (nd 25 (lf 25 (.inr (.inl 3))) (lf 26 (.inl (o_iconst 0 27)))) (nd 27 (lf 27 (.inl (o_istore 2 28))) (nd 28 (lf 28 (.inl (o_iload 2 29))) (lf 29 (.inl (o_aload 1 30)))))))) (nd 46 (nd 37 (nd 33 (nd 30 (lf 30 (.inl (o_slen 33))) (lf 33 (.inl (o_icge 63 36)))) (nd 36 (lf 36 (.inl (o_aload 0 37))) (lf 37 (.inl (o_getR 1 0 1 40))))) (nd 41 (nd 40 (lf 40 (.inl (o_aload 0 41))) (lf 41 (.inl (o_getI 1 3 44)))) (nd 44 (lf 44 (.inl (o_iload 2 45))) (nd 45 (lf 45 (.inl (o_iadd 46))) (lf 46 (.inl (o_iald 5 47))))))) (nd 55 (nd 48 (nd 47 (lf 47 (.inl (o_aload 1 48))) (lf 48 (.inl (o_iload 2 49)))) (nd 49 (lf 49 (.inl (o_schr 52))) (nd 52 (lf 52 (.inl (o_iceq 57 55))) (lf 55 (.inl (o_iconst 0 56)))))) (nd 57 (nd 56 (lf 56 (.inr (.inl 3))) (lf 57 (.inl (o_iinc 2 1 60)))) (nd 60 (lf 60 (.inl (o_goto 28))) (nd 63 (lf 63 (.inl (o_iconst 1 64))) (lf 64 (.inr (.inl 3)))))))))
def tb_X2_step : Nat → Option AI := (nd 81 (nd 39 (nd 19 (nd 8 (nd 1 (nd 0 (lf 0 (.inl (o_aload 0 1))) (lf 1 (.inl (o_aload 0 2)))) (nd 2 (lf 2 (.inl (o_getI 1 4 5))) (nd 5 (lf 5 (.inl (o_putI 1 3 8))) (lf 8 (.inl (o_aload 0 9)))))) (nd 12 (nd 9 (lf 9 (.inl (o_getI 1 3 12))) (lf 12 (.inl (o_aload 0 13)))) (nd 13 (lf 13 (.inl (o_getI 1 1 16))) (nd 16 (lf 16 (.inl (o_icge 46 19))) (lf 19 (.inl (o_aload 0 20))))))) (nd 28 (nd 23 (nd 20 (lf 20 (.inl (o_getR 1 0 1 23))) (lf 23 (.inl (o_aload 0 24)))) (nd 24 (lf 24 (.inl (o_getI 1 3 27))) (nd 27 (lf 27 (.inl (o_iald 5 28))) (lf 28 (.inl (o_iconst 32 30)))))) (nd 34 (nd 30 (lf 30 (.inl (o_icne 46 33))) (nd 33 (lf 33 (.inl (o_aload 0 34))) (lf 34 (.inl (o_dup 35))))) (nd 35 (lf 35 (.inl (o_getI 1 3 38))) (nd 38 (lf 38 (.inl (o_iconst 1 39))) (lf 39 (.inl (o_iadd 40)))))))) (nd 60 (nd 48 (nd 43 (nd 40 (lf 40 (.inl (o_putI 1 3 43))) (lf 43 (.inl (o_goto 8)))) (nd 46 (lf 46 (.inl (o_aload 0 47))) (nd 47 (lf 47 (.inl (o_aload 0 48))) (lf 48 (.inl (o_getI 1 3 51)))))) (nd 55 (nd 51 (lf 51 (.inl (o_putI 1 4 54))) (nd 54 (lf 54 (.inl (o_aload 0 55))) (lf 55 (.inl (o_iconst 0 56))))) (nd 56 (lf 56 (.inl (o_putI 1 2 59))) (nd 59 (lf 59 (.inl (o_aload 0 60))) (lf 60 (.inl (o_getI 1 3 63))))))) (nd 71 (nd 64 (nd 63 (lf 63 (.inl (o_aload 0 64))) (lf 64 (.inl (o_getI 1 1 67)))) (nd 67 (lf 67 (.inl (o_iclt 71 70))) (nd 70 (lf 70 (.inr (.inl 0))) (lf 71 (.inl (o_aload 0 72)))))) (nd 76 (nd 72 (lf 72 (.inl (o_aload 0 73))) (nd 73 (lf 73 (.inl (o_getR 1 0 1 76))) (lf 76 (.inl (o_aload 0 77))))) (nd 77 (lf 77 (.inl (o_getI 1 3 80))) (nd 80 (lf 80 (.inl (o_iald 5 81))) (lf 81 (.inr (.inr (44, 1, 1, 9)))))))))) (nd 124 (nd 101 (nd 92 (nd 87 (nd 84 (lf 84 (.inl (o_putI 1 2 87))) (lf 87 (.inl (o_aload 0 88)))) (nd 88 (lf 88 (.inl (o_dup 89))) (nd 89 (lf 89 (.inl (o_getI 1 4 92))) (lf 92 (.inl (o_iconst 1 93)))))) (nd 94 (nd 93 (lf 93 (.inl (o_iadd 94))) (lf 94 (.inl (o_putI 1 4 97)))) (nd 97 (lf 97 (.inl (o_aload 0 98))) (nd 98 (lf 98 (.inl (o_getI 1 2 101))) (lf 101 (.inl (o_iconst 1 102))))))) (nd 110 (nd 105 (nd 102 (lf 102 (.inl (o_iceq 113 105))) (lf 105 (.inl (o_aload 0 106)))) (nd 106 (lf 106 (.inl (o_getI 1 2 109))) (nd 109 (lf 109 (.inl (o_iconst 2 110))) (lf 110 (.inl (o_icne 156 113)))))) (nd 117 (nd 113 (lf 113 (.inl (o_aload 0 114))) (nd 114 (lf 114 (.inl (o_getI 1 4 117))) (lf 117 (.inl (o_aload 0 118))))) (nd 118 (lf 118 (.inl (o_getI 1 1 121))) (nd 121 (lf 121 (.inl (o_icge 156 124))) (lf 124 (.inl (o_aload 0 125)))))))) (nd 145 (nd 133 (nd 128 (nd 125 (lf 125 (.inl (o_getR 1 0 1 128))) (lf 128 (.inl (o_aload 0 129)))) (nd 129 (lf 129 (.inl (o_getI 1 4 132))) (nd 132 (lf 132 (.inl (o_iald 5 133))) (lf 133 (.inr (.inr (44, 1, 1, 9))))))) (nd 140 (nd 136 (lf 136 (.inl (o_aload 0 137))) (nd 137 (lf 137 (.inl (o_getI 1 2 140))) (lf 140 (.inl (o_icne 156 143))))) (nd 143 (lf 143 (.inl (o_aload 0 144))) (nd 144 (lf 144 (.inl (o_dup 145))) (lf 145 (.inl (o_getI 1 4 148))))))) (nd 156 (nd 149 (nd 148 (lf 148 (.inl (o_iconst 1 149))) (lf 149 (.inl (o_iadd 150)))) (nd 150 (lf 150 (.inl (o_putI 1 4 153))) (nd 153 (lf 153 (.inl (o_goto 113))) (lf 156 (.inl (o_aload 0 157)))))) (nd 161 (nd 157 (lf 157 (.inl (o_getI 1 2 160))) (nd 160 (lf 160 (.inl (o_iconst 2 161))) (lf 161 (.inl (o_icne 168 164))))) (nd 164 (lf 164 (.inl (o_aload 0 165))) (nd 165 (lf 165 (.inr (.inr (45, 1, 2, 1)))) (lf 168 (.inr (.inl 0))))))))))
def tb_X2_tokenBegunBy : Nat → Option AI := (nd 17 (nd 7 (nd 1 (nd 0 (lf 0 (.inl (o_iload 0 1))) (lf 1 (.inl (o_iconst 97 3)))) (nd 3 (lf 3 (.inl (o_iclt 14 6))) (nd 6 (lf 6 (.inl (o_iload 0 7))) (lf 7 (.inl (o_iconst 122 9)))))) (nd 13 (nd 9 (lf 9 (.inl (o_icgt 14 12))) (nd 12 (lf 12 (.inl (o_iconst 1 13))) (lf 13 (.inr (.inl 1))))) (nd 14 (lf 14 (.inl (o_iload 0 15))) (nd 15 (lf 15 (.inl (o_iconst 48 17))) (lf 17 (.inl (o_iclt 28 20))))))) (nd 28 (nd 23 (nd 20 (lf 20 (.inl (o_iload 0 21))) (nd 21 (lf 21 (.inl (o_iconst 57 23))) (lf 23 (.inl (o_icgt 28 26))))) (nd 26 (lf 26 (.inl (o_iconst 2 27))) (nd 27 (lf 27 (.inr (.inl 1))) (lf 28 (.inl (o_iload 0 29)))))) (nd 34 (nd 29 (lf 29 (.inl (o_iconst 59 31))) (nd 31 (lf 31 (.inl (o_icne 38 34))) (lf 34 (.inl (o_iconst 3 35))))) (nd 35 (lf 35 (.inl (o_goto 39))) (nd 38 (lf 38 (.inl (o_iconst 4 39))) (lf 39 (.inr (.inl 1))))))))
def tb_X2_takeValue : Nat → Option AI := (nd 29 (nd 14 (nd 5 (nd 1 (nd 0 (lf 0 (.inl (o_aload 0 1))) (lf 1 (.inl (o_getI 1 4 4)))) (nd 4 (lf 4 (.inl (o_aload 0 5))) (lf 5 (.inl (o_getI 1 3 8))))) (nd 9 (nd 8 (lf 8 (.inl (o_isub 9))) (lf 9 (.inl (o_iconst 2 10)))) (nd 10 (lf 10 (.inl (o_icle 19 13))) (nd 13 (lf 13 (.inl (o_aload 0 14))) (lf 14 (.inl (o_iconst 4 15))))))) (nd 20 (nd 18 (nd 15 (lf 15 (.inl (o_putI 1 2 18))) (lf 18 (.inr (.inl 0)))) (nd 19 (lf 19 (.inl (o_aload 0 20))) (lf 20 (.inl (o_iconst 0 21))))) (nd 24 (nd 21 (lf 21 (.inl (o_putI 1 5 24))) (lf 24 (.inl (o_aload 0 25)))) (nd 25 (lf 25 (.inl (o_getI 1 3 28))) (nd 28 (lf 28 (.inl (o_istore 1 29))) (lf 29 (.inl (o_iload 1 30)))))))) (nd 45 (nd 37 (nd 31 (nd 30 (lf 30 (.inl (o_aload 0 31))) (lf 31 (.inl (o_getI 1 4 34)))) (nd 34 (lf 34 (.inl (o_icge 64 37))) (lf 37 (.inl (o_aload 0 38))))) (nd 40 (nd 38 (lf 38 (.inl (o_iconst 10 40))) (lf 40 (.inl (o_aload 0 41)))) (nd 41 (lf 41 (.inl (o_getI 1 5 44))) (nd 44 (lf 44 (.inl (o_imul 45))) (lf 45 (.inl (o_aload 0 46))))))) (nd 52 (nd 49 (nd 46 (lf 46 (.inl (o_getR 1 0 1 49))) (lf 49 (.inl (o_iload 1 50)))) (nd 50 (lf 50 (.inl (o_iald 5 51))) (nd 51 (lf 51 (.inl (o_iadd 52))) (lf 52 (.inl (o_iconst 48 54)))))) (nd 55 (nd 54 (lf 54 (.inl (o_isub 55))) (lf 55 (.inl (o_putI 1 5 58)))) (nd 58 (lf 58 (.inl (o_iinc 1 1 61))) (nd 61 (lf 61 (.inl (o_goto 29))) (lf 64 (.inr (.inl 0)))))))))
def tb_X3_counter : Nat → Option AI := (nd 7 (nd 1 (nd 0 (lf 0 (.inl (o_aload 0 1))) (lf 1 (.inl (o_getR 2 0 1 4)))) (nd 4 (lf 4 (.inl (o_getI 0 0 7))) (lf 7 (.inl (o_istore 1 8))))) (nd 9 (nd 8 (lf 8 (.inl (o_aload 0 9))) (lf 9 (.inl (o_getR 2 0 1 12)))) (nd 12 (lf 12 (.inr (.inr (0, 1, 1, 0)))) (nd 15 (lf 15 (.inl (o_iload 1 16))) (lf 16 (.inr (.inl 1)))))))
def tb_X3_one : Nat → Option AI := (nd 27 (nd 10 (nd 2 (nd 0 (lf 0 (.inl (o_iload 1 1))) (nd 1 (lf 1 (.inl (o_iconst 0 2))) (lf 2 (.inl (o_iconst 5 3))))) (nd 6 (nd 3 (lf 3 (.inr (.inr (84, 3, 3, 9)))) (lf 6 (.inl (o_ifeq 23 9)))) (nd 9 (lf 9 (.inl (o_iload 2 10))) (lf 10 (.inr (.inr (85, 1, 1, 9))))))) (nd 17 (nd 13 (lf 13 (.inl (o_ifeq 23 16))) (nd 16 (lf 16 (.inl (o_iload 3 17))) (lf 17 (.inr (.inr (85, 1, 1, 9)))))) (nd 23 (nd 20 (lf 20 (.inl (o_ifne 28 23))) (lf 23 (.inl (o_aload 0 24)))) (nd 24 (lf 24 (.inr (.inr (80, 1, 1, 2)))) (lf 27 (.inr (.inl 1))))))) (nd 41 (nd 32 (nd 28 (lf 28 (.inl (o_aload 0 29))) (nd 29 (lf 29 (.inl (o_getR 2 0 1 32))) (lf 32 (.inl (o_getI 0 0 35))))) (nd 37 (nd 35 (lf 35 (.inl (o_iconst 6 37))) (lf 37 (.inl (o_iclt 45 40)))) (nd 40 (lf 40 (.inl (o_aload 0 41))) (lf 41 (.inr (.inr (83, 1, 1, 2))))))) (nd 49 (nd 45 (nd 44 (lf 44 (.inr (.inl 1))) (lf 45 (.inl (o_aload 0 46)))) (nd 46 (lf 46 (.inl (o_getR 2 0 1 49))) (lf 49 (.inl (o_iload 1 50))))) (nd 51 (nd 50 (lf 50 (.inl (o_iload 2 51))) (lf 51 (.inl (o_iload 3 52)))) (nd 52 (lf 52 (.inr (.inr (2, 4, 5, 0)))) (lf 55 (.inr (.inl 1))))))))
def tb_X3_type : Nat → Option AI := (nd 16 (nd 7 (nd 1 (nd 0 (lf 0 (.inl (o_iload 1 1))) (lf 1 (.inl (o_iconst 0 2)))) (nd 2 (lf 2 (.inl (o_iconst 127 4))) (nd 4 (lf 4 (.inr (.inr (84, 3, 3, 9)))) (lf 7 (.inl (o_ifne 15 10)))))) (nd 11 (nd 10 (lf 10 (.inl (o_aload 0 11))) (lf 11 (.inr (.inr (80, 1, 1, 2))))) (nd 14 (lf 14 (.inr (.inl 1))) (nd 15 (lf 15 (.inl (o_aload 0 16))) (lf 16 (.inl (o_getR 2 6 37 19))))))) (nd 29 (nd 22 (nd 19 (lf 19 (.inl (o_getI 1 1 22))) (lf 22 (.inl (o_iconst 150 25)))) (nd 25 (lf 25 (.inl (o_iclt 33 28))) (nd 28 (lf 28 (.inl (o_aload 0 29))) (lf 29 (.inr (.inr (83, 1, 1, 2))))))) (nd 34 (nd 32 (lf 32 (.inr (.inl 1))) (nd 33 (lf 33 (.inl (o_aload 0 34))) (lf 34 (.inl (o_getR 2 6 37 37))))) (nd 37 (lf 37 (.inl (o_iload 1 38))) (nd 38 (lf 38 (.inr (.inr (33, 2, 2, 1)))) (lf 41 (.inr (.inl 1))))))))
def tb_X3_clear : Nat → Option AI := (nd 8 (nd 1 (nd 0 (lf 0 (.inl (o_aload 0 1))) (lf 1 (.inl (o_getR 2 6 37 4)))) (nd 4 (lf 4 (.inl (o_getI 1 1 7))) (nd 7 (lf 7 (.inl (o_istore 1 8))) (lf 8 (.inl (o_aload 0 9)))))) (nd 12 (nd 9 (lf 9 (.inl (o_getR 2 6 37 12))) (lf 12 (.inl (o_iconst 0 13)))) (nd 13 (lf 13 (.inl (o_putI 1 1 16))) (nd 16 (lf 16 (.inl (o_iload 1 17))) (lf 17 (.inr (.inl 1)))))))
def tb_X3_read : Nat → Option AI := (nd 12 (nd 4 (nd 0 (lf 0 (.inl (o_aload 0 1))) (nd 1 (lf 1 (.inl (o_getR 2 6 37 4))) (lf 4 (.inl (o_aload 0 5))))) (nd 8 (nd 5 (lf 5 (.inl (o_getR 2 1 10 8))) (lf 8 (.inr (.inr (34, 2, 4, 1))))) (nd 11 (lf 11 (.inl (o_istore 1 12))) (lf 12 (.inl (o_iload 1 13)))))) (nd 20 (nd 16 (nd 13 (lf 13 (.inl (o_ifle 27 16))) (lf 16 (.inl (o_aload 0 17)))) (nd 17 (lf 17 (.inl (o_getR 2 0 1 20))) (lf 20 (.inl (o_aload 0 21))))) (nd 24 (nd 21 (lf 21 (.inl (o_getR 2 1 10 24))) (lf 24 (.inr (.inr (1, 2, 2, 0))))) (nd 27 (lf 27 (.inl (o_iload 1 28))) (lf 28 (.inr (.inl 1)))))))
def tb_X3_lend : Nat → Option AI := (nd 28 (nd 10 (nd 2 (nd 0 (lf 0 (.inl (o_aload 0 1))) (nd 1 (lf 1 (.inl (o_iload 1 2))) (lf 2 (.inr (.inr (86, 2, 2, 2)))))) (nd 8 (nd 5 (lf 5 (.inl (o_ifeq 16 8))) (lf 8 (.inl (o_aload 0 9)))) (nd 9 (lf 9 (.inl (o_iload 2 10))) (lf 10 (.inr (.inr (86, 2, 2, 2))))))) (nd 20 (nd 16 (nd 13 (lf 13 (.inl (o_ifne 21 16))) (lf 16 (.inl (o_aload 0 17)))) (nd 17 (lf 17 (.inr (.inr (81, 1, 1, 2)))) (lf 20 (.inr (.inl 1))))) (nd 22 (nd 21 (lf 21 (.inl (o_aload 0 22))) (lf 22 (.inl (o_getR 2 0 1 25)))) (nd 25 (lf 25 (.inl (o_getR 0 7 4 28))) (lf 28 (.inl (o_iload 1 29))))))) (nd 39 (nd 31 (nd 29 (lf 29 (.inl (o_iald 4 30))) (nd 30 (lf 30 (.inl (o_iconst (-1) 31))) (lf 31 (.inl (o_iceq 39 34))))) (nd 35 (nd 34 (lf 34 (.inl (o_aload 0 35))) (lf 35 (.inr (.inr (82, 1, 1, 2))))) (nd 38 (lf 38 (.inr (.inl 1))) (lf 39 (.inl (o_aload 0 40)))))) (nd 47 (nd 43 (nd 40 (lf 40 (.inl (o_getR 2 0 1 43))) (lf 43 (.inr (.inr (8, 1, 2, 0))))) (nd 46 (lf 46 (.inl (o_aload 0 47))) (lf 47 (.inl (o_getR 2 0 1 50))))) (nd 51 (nd 50 (lf 50 (.inl (o_iload 1 51))) (lf 51 (.inl (o_iload 2 52)))) (nd 52 (lf 52 (.inr (.inr (4, 3, 4, 0)))) (lf 55 (.inr (.inl 1))))))))
def tb_X3_leave : Nat → Option AI := (nd 22 (nd 9 (nd 2 (nd 0 (lf 0 (.inl (o_aload 0 1))) (nd 1 (lf 1 (.inl (o_iload 1 2))) (lf 2 (.inr (.inr (86, 2, 2, 2)))))) (nd 5 (lf 5 (.inl (o_ifne 13 8))) (nd 8 (lf 8 (.inl (o_aload 0 9))) (lf 9 (.inr (.inr (80, 1, 1, 2))))))) (nd 14 (nd 12 (lf 12 (.inr (.inl 1))) (nd 13 (lf 13 (.inl (o_aload 0 14))) (lf 14 (.inl (o_getR 2 0 1 17))))) (nd 18 (nd 17 (lf 17 (.inl (o_iload 1 18))) (lf 18 (.inr (.inr (3, 2, 3, 0))))) (nd 21 (lf 21 (.inl (o_istore 2 22))) (lf 22 (.inl (o_iload 2 23))))))) (nd 33 (nd 27 (nd 23 (lf 23 (.inl (o_iconst (-1) 24))) (nd 24 (lf 24 (.inl (o_icne 32 27))) (lf 27 (.inl (o_aload 0 28))))) (nd 31 (nd 28 (lf 28 (.inr (.inr (82, 1, 1, 2)))) (lf 31 (.inr (.inl 1)))) (nd 32 (lf 32 (.inl (o_aload 0 33))) (lf 33 (.inl (o_getR 2 0 1 36)))))) (nd 40 (nd 36 (lf 36 (.inr (.inr (8, 1, 2, 0)))) (nd 39 (lf 39 (.inl (o_aload 0 40))) (lf 40 (.inl (o_getR 2 0 1 43))))) (nd 44 (nd 43 (lf 43 (.inl (o_iload 2 44))) (lf 44 (.inr (.inr (5, 2, 2, 0))))) (nd 47 (lf 47 (.inl (o_iload 2 48))) (lf 48 (.inr (.inl 1))))))))
def tb_X3_evening : Nat → Option AI := (nd 24 (nd 11 (nd 2 (nd 0 (lf 0 (.inl (o_iload 1 1))) (nd 1 (lf 1 (.inl (o_iconst 1 2))) (lf 2 (.inl (o_iconst 30 4))))) (nd 7 (nd 4 (lf 4 (.inr (.inr (84, 3, 3, 9)))) (lf 7 (.inl (o_ifne 15 10)))) (nd 10 (lf 10 (.inl (o_aload 0 11))) (lf 11 (.inr (.inr (80, 1, 1, 2))))))) (nd 16 (nd 14 (lf 14 (.inr (.inl 1))) (nd 15 (lf 15 (.inl (o_aload 0 16))) (lf 16 (.inl (o_getR 2 0 1 19))))) (nd 22 (nd 19 (lf 19 (.inr (.inr (8, 1, 2, 0)))) (lf 22 (.inl (o_iconst 0 23)))) (nd 23 (lf 23 (.inl (o_istore 2 24))) (lf 24 (.inl (o_iconst 0 25))))))) (nd 33 (nd 27 (nd 25 (lf 25 (.inl (o_istore 3 26))) (nd 26 (lf 26 (.inl (o_iload 3 27))) (lf 27 (.inl (o_iload 1 28))))) (nd 31 (nd 28 (lf 28 (.inl (o_icge 47 31))) (lf 31 (.inl (o_iload 2 32)))) (nd 32 (lf 32 (.inl (o_aload 0 33))) (lf 33 (.inl (o_getR 2 0 1 36)))))) (nd 40 (nd 36 (lf 36 (.inr (.inr (7, 1, 4, 0)))) (nd 39 (lf 39 (.inl (o_iadd 40))) (lf 40 (.inl (o_istore 2 41))))) (nd 44 (nd 41 (lf 41 (.inl (o_iinc 3 1 44))) (lf 44 (.inl (o_goto 26)))) (nd 47 (lf 47 (.inl (o_iload 2 48))) (lf 48 (.inr (.inl 1))))))))
def tb_X3_undo : Nat → Option AI := (nd 14 (nd 4 (nd 0 (lf 0 (.inl (o_aload 0 1))) (nd 1 (lf 1 (.inl (o_getR 2 0 1 4))) (lf 4 (.inl (o_getI 0 3 7))))) (nd 10 (nd 7 (lf 7 (.inl (o_ifne 15 10))) (lf 10 (.inl (o_aload 0 11)))) (nd 11 (lf 11 (.inr (.inr (82, 1, 1, 2)))) (lf 14 (.inr (.inl 1)))))) (nd 19 (nd 15 (lf 15 (.inl (o_aload 0 16))) (nd 16 (lf 16 (.inl (o_getR 2 0 1 19))) (lf 19 (.inr (.inr (9, 1, 2, 0)))))) (nd 23 (nd 22 (lf 22 (.inl (o_aload 0 23))) (lf 23 (.inl (o_getR 2 0 1 26)))) (nd 26 (lf 26 (.inl (o_getI 0 1 29))) (lf 29 (.inr (.inl 1)))))))
def tb_X3_of : Nat → Option AI := (nd 48 (nd 10 (nd 2 (nd 0 (lf 0 (.inl (o_aload 0 1))) (nd 1 (lf 1 (.inl (o_iload 1 2))) (lf 2 (.inr (.inr (86, 2, 2, 2)))))) (nd 8 (nd 5 (lf 5 (.inl (o_ifeq 17 8))) (lf 8 (.inl (o_iload 2 9)))) (nd 9 (lf 9 (.inl (o_iconst 0 10))) (lf 10 (.inl (o_iconst 2 11)))))) (nd 18 (nd 14 (nd 11 (lf 11 (.inr (.inr (84, 3, 3, 9)))) (lf 14 (.inl (o_ifne 22 17)))) (nd 17 (lf 17 (.inl (o_aload 0 18))) (lf 18 (.inr (.inr (81, 1, 1, 2)))))) (nd 22 (nd 21 (lf 21 (.inr (.inl 1))) (lf 22 (.inl (o_iload 2 23)))) (nd 23 (lf 23 (.inl (o_lsw [(0, 48), (1, 58)] 67))) (lf 48 (.inl (o_aload 0 49))))))) (nd 59 (nd 55 (nd 49 (lf 49 (.inl (o_getR 2 0 1 52))) (nd 52 (lf 52 (.inl (o_getR 0 6 3 55))) (lf 55 (.inl (o_iload 1 56))))) (nd 57 (nd 56 (lf 56 (.inl (o_iald 4 57))) (lf 57 (.inr (.inl 1)))) (nd 58 (lf 58 (.inl (o_aload 0 59))) (lf 59 (.inl (o_getR 2 0 1 62)))))) (nd 67 (nd 63 (nd 62 (lf 62 (.inl (o_iload 1 63))) (lf 63 (.inr (.inr (3, 2, 3, 0))))) (nd 66 (lf 66 (.inr (.inl 1))) (lf 67 (.inl (o_aload 0 68))))) (nd 71 (nd 68 (lf 68 (.inl (o_getR 2 0 1 71))) (lf 71 (.inl (o_iload 1 72)))) (nd 72 (lf 72 (.inr (.inr (12, 2, 3, 0)))) (lf 75 (.inr (.inl 1))))))))
def tb_X3_about : Nat → Option AI := (nd 73 (nd 21 (nd 9 (nd 2 (nd 0 (lf 0 (.inl (o_aload 0 1))) (nd 1 (lf 1 (.inl (o_iload 1 2))) (lf 2 (.inr (.inr (86, 2, 2, 2)))))) (nd 5 (lf 5 (.inl (o_ifeq 17 8))) (nd 8 (lf 8 (.inl (o_iload 2 9))) (lf 9 (.inl (o_iconst 0 10)))))) (nd 14 (nd 10 (lf 10 (.inl (o_iconst 5 11))) (nd 11 (lf 11 (.inr (.inr (84, 3, 3, 9)))) (lf 14 (.inl (o_ifne 22 17))))) (nd 17 (lf 17 (.inl (o_aload 0 18))) (nd 18 (lf 18 (.inr (.inr (81, 1, 1, 2)))) (lf 21 (.inr (.inl 1))))))) (nd 63 (nd 56 (nd 22 (lf 22 (.inl (o_iload 2 23))) (nd 23 (lf 23 (.inl (o_tsw 0 [56, 66, 76, 86, 96] 106))) (lf 56 (.inl (o_aload 0 57))))) (nd 57 (lf 57 (.inl (o_getR 2 0 1 60))) (nd 60 (lf 60 (.inl (o_getR 0 4 1 63))) (lf 63 (.inl (o_iload 1 64)))))) (nd 66 (nd 64 (lf 64 (.inl (o_iald 4 65))) (nd 65 (lf 65 (.inr (.inl 1))) (lf 66 (.inl (o_aload 0 67))))) (nd 67 (lf 67 (.inl (o_getR 2 0 1 70))) (nd 70 (lf 70 (.inl (o_getR 0 5 2 73))) (lf 73 (.inl (o_iload 1 74)))))))) (nd 93 (nd 83 (nd 76 (nd 74 (lf 74 (.inl (o_iald 4 75))) (nd 75 (lf 75 (.inr (.inl 1))) (lf 76 (.inl (o_aload 0 77))))) (nd 77 (lf 77 (.inl (o_getR 2 0 1 80))) (nd 80 (lf 80 (.inl (o_getR 0 7 4 83))) (lf 83 (.inl (o_iload 1 84)))))) (nd 86 (nd 84 (lf 84 (.inl (o_iald 4 85))) (nd 85 (lf 85 (.inr (.inl 1))) (lf 86 (.inl (o_aload 0 87))))) (nd 87 (lf 87 (.inl (o_getR 2 0 1 90))) (nd 90 (lf 90 (.inl (o_getR 0 8 5 93))) (lf 93 (.inl (o_iload 1 94))))))) (nd 103 (nd 96 (nd 94 (lf 94 (.inl (o_iald 4 95))) (nd 95 (lf 95 (.inr (.inl 1))) (lf 96 (.inl (o_aload 0 97))))) (nd 97 (lf 97 (.inl (o_getR 2 0 1 100))) (nd 100 (lf 100 (.inl (o_getR 0 9 6 103))) (lf 103 (.inl (o_iload 1 104)))))) (nd 106 (nd 104 (lf 104 (.inl (o_iald 4 105))) (nd 105 (lf 105 (.inr (.inl 1))) (lf 106 (.inl (o_aload 0 107))))) (nd 110 (nd 107 (lf 107 (.inl (o_getR 2 0 1 110))) (lf 110 (.inl (o_iload 1 111)))) (nd 111 (lf 111 (.inr (.inr (10, 2, 2, 0)))) (lf 114 (.inr (.inl 1)))))))))
def tb_X3_fit : Nat → Option AI := (nd 13 (nd 5 (nd 1 (nd 0 (lf 0 (.inl (o_aload 0 1))) (lf 1 (.inl (o_iload 1 2)))) (nd 2 (lf 2 (.inr (.inr (86, 2, 2, 2)))) (lf 5 (.inl (o_ifeq 16 8))))) (nd 9 (nd 8 (lf 8 (.inl (o_aload 0 9))) (lf 9 (.inl (o_iload 2 10)))) (nd 10 (lf 10 (.inr (.inr (86, 2, 2, 2)))) (lf 13 (.inl (o_ifne 21 16)))))) (nd 21 (nd 17 (nd 16 (lf 16 (.inl (o_aload 0 17))) (lf 17 (.inr (.inr (80, 1, 1, 2))))) (nd 20 (lf 20 (.inr (.inl 1))) (lf 21 (.inl (o_aload 0 22))))) (nd 25 (nd 22 (lf 22 (.inl (o_getR 2 0 1 25))) (lf 25 (.inl (o_iload 1 26)))) (nd 26 (lf 26 (.inl (o_iload 2 27))) (nd 27 (lf 27 (.inr (.inr (11, 3, 3, 0)))) (lf 30 (.inr (.inl 1))))))))
def tb_X3_best : Nat → Option AI := (nd 19 (nd 7 (nd 2 (nd 0 (lf 0 (.inl (o_iload 1 1))) (nd 1 (lf 1 (.inl (o_iconst (-1) 2))) (lf 2 (.inl (o_iceq 18 5))))) (nd 5 (lf 5 (.inl (o_aload 0 6))) (nd 6 (lf 6 (.inl (o_iload 1 7))) (lf 7 (.inr (.inr (86, 2, 2, 2))))))) (nd 14 (nd 10 (lf 10 (.inl (o_ifne 18 13))) (nd 13 (lf 13 (.inl (o_aload 0 14))) (lf 14 (.inr (.inr (81, 1, 1, 2)))))) (nd 17 (lf 17 (.inr (.inl 1))) (nd 18 (lf 18 (.inl (o_aload 0 19))) (lf 19 (.inr (.inr (88, 1, 7, 2)))))))) (nd 31 (nd 24 (nd 22 (lf 22 (.inl (o_iload 1 23))) (nd 23 (lf 23 (.inl (o_iconst (-1) 24))) (lf 24 (.inl (o_icne 36 27))))) (nd 27 (lf 27 (.inl (o_aload 0 28))) (nd 28 (lf 28 (.inl (o_getR 2 7 39 31))) (lf 31 (.inl (o_iconst 0 32)))))) (nd 36 (nd 32 (lf 32 (.inl (o_iald 4 33))) (nd 33 (lf 33 (.inl (o_goto 41))) (lf 36 (.inl (o_aload 0 37))))) (nd 37 (lf 37 (.inl (o_iload 1 38))) (nd 38 (lf 38 (.inr (.inr (89, 2, 4, 2)))) (lf 41 (.inr (.inl 1))))))))
def tb_X3_dumb : Nat → Option AI := (nd 19 (nd 5 (nd 2 (nd 0 (lf 0 (.inl (o_iconst 0 1))) (nd 1 (lf 1 (.inl (o_istore 1 2))) (lf 2 (.inl (o_iconst 0 3))))) (nd 3 (lf 3 (.inl (o_istore 2 4))) (nd 4 (lf 4 (.inl (o_iload 2 5))) (lf 5 (.inl (o_aload 0 6)))))) (nd 12 (nd 6 (lf 6 (.inl (o_getR 2 0 1 9))) (nd 9 (lf 9 (.inl (o_getI 0 0 12))) (lf 12 (.inl (o_icge 39 15))))) (nd 15 (lf 15 (.inl (o_aload 0 16))) (nd 16 (lf 16 (.inl (o_getR 2 0 1 19))) (lf 19 (.inl (o_iload 2 20))))))) (nd 29 (nd 24 (nd 20 (lf 20 (.inr (.inr (3, 2, 3, 0)))) (nd 23 (lf 23 (.inl (o_iconst (-1) 24))) (lf 24 (.inl (o_icne 33 27))))) (nd 27 (lf 27 (.inl (o_iload 1 28))) (nd 28 (lf 28 (.inl (o_iconst 1 29))) (lf 29 (.inl (o_iload 2 30)))))) (nd 32 (nd 30 (lf 30 (.inl (o_ishl 31))) (nd 31 (lf 31 (.inl (o_ior 32))) (lf 32 (.inl (o_istore 1 33))))) (nd 36 (nd 33 (lf 33 (.inl (o_iinc 2 1 36))) (lf 36 (.inl (o_goto 4)))) (nd 39 (lf 39 (.inl (o_iload 1 40))) (lf 40 (.inr (.inl 1))))))))
def tb_X3_own : Nat → Option AI := (nd 18 (nd 8 (nd 1 (nd 0 (lf 0 (.inl (o_aload 0 1))) (lf 1 (.inl (o_getR 2 0 1 4)))) (nd 4 (lf 4 (.inr (.inr (15, 1, 3, 0)))) (nd 7 (lf 7 (.inl (o_istore 1 8))) (lf 8 (.inl (o_iconst 0 9)))))) (nd 11 (nd 9 (lf 9 (.inl (o_istore 2 10))) (nd 10 (lf 10 (.inl (o_iload 2 11))) (lf 11 (.inl (o_aload 0 12))))) (nd 12 (lf 12 (.inl (o_getR 2 0 1 15))) (nd 15 (lf 15 (.inl (o_getI 0 0 18))) (lf 18 (.inl (o_icge 43 21))))))) (nd 30 (nd 25 (nd 21 (lf 21 (.inl (o_aload 0 22))) (nd 22 (lf 22 (.inl (o_getR 2 0 1 25))) (lf 25 (.inl (o_getR 0 7 4 28))))) (nd 28 (lf 28 (.inl (o_iload 2 29))) (nd 29 (lf 29 (.inl (o_iald 4 30))) (lf 30 (.inl (o_iload 2 31)))))) (nd 37 (nd 31 (lf 31 (.inl (o_iceq 37 34))) (nd 34 (lf 34 (.inl (o_iinc 1 1 37))) (lf 37 (.inl (o_iinc 2 1 40))))) (nd 40 (lf 40 (.inl (o_goto 10))) (nd 43 (lf 43 (.inl (o_iload 1 44))) (lf 44 (.inr (.inl 1))))))))
def tb_X3_ring : Nat → Option AI := (nd 9 (nd 2 (nd 0 (lf 0 (.inl (o_aload 0 1))) (nd 1 (lf 1 (.inl (o_iload 1 2))) (lf 2 (.inr (.inr (86, 2, 2, 2)))))) (nd 5 (lf 5 (.inl (o_ifne 13 8))) (nd 8 (lf 8 (.inl (o_aload 0 9))) (lf 9 (.inr (.inr (80, 1, 1, 2))))))) (nd 14 (nd 12 (lf 12 (.inr (.inl 1))) (nd 13 (lf 13 (.inl (o_aload 0 14))) (lf 14 (.inl (o_getR 2 0 1 17))))) (nd 17 (lf 17 (.inl (o_iload 1 18))) (nd 18 (lf 18 (.inr (.inr (14, 2, 4, 0)))) (lf 21 (.inr (.inl 1)))))))
def tb_X3_swaps : Nat → Option AI := (nd 19 (nd 9 (nd 2 (nd 0 (lf 0 (.inl (o_iload 1 1))) (nd 1 (lf 1 (.inl (o_iconst (-1) 2))) (lf 2 (.inl (o_icge 10 5))))) (nd 5 (lf 5 (.inl (o_aload 0 6))) (nd 6 (lf 6 (.inr (.inr (81, 1, 1, 2)))) (lf 9 (.inr (.inl 1)))))) (nd 12 (nd 10 (lf 10 (.inl (o_iload 1 11))) (nd 11 (lf 11 (.inl (o_iconst (-1) 12))) (lf 12 (.inl (o_icne 23 15))))) (nd 15 (lf 15 (.inl (o_aload 0 16))) (nd 16 (lf 16 (.inl (o_getR 2 0 1 19))) (lf 19 (.inr (.inr (18, 1, 4, 0)))))))) (nd 31 (nd 24 (nd 22 (lf 22 (.inr (.inl 1))) (nd 23 (lf 23 (.inl (o_aload 0 24))) (lf 24 (.inl (o_getR 2 0 1 27))))) (nd 27 (lf 27 (.inl (o_iload 1 28))) (nd 28 (lf 28 (.inr (.inr (19, 2, 5, 0)))) (lf 31 (.inl (o_istore 2 32)))))) (nd 34 (nd 32 (lf 32 (.inl (o_iload 2 33))) (nd 33 (lf 33 (.inl (o_iconst (-1) 34))) (lf 34 (.inl (o_icne 42 37))))) (nd 39 (nd 37 (lf 37 (.inl (o_iconst (-5) 39))) (lf 39 (.inl (o_goto 43)))) (nd 42 (lf 42 (.inl (o_iload 2 43))) (lf 43 (.inr (.inl 1))))))))
def tb_X3_steps : Nat → Option AI := (nd 29 (nd 13 (nd 5 (nd 1 (nd 0 (lf 0 (.inl (o_aload 0 1))) (lf 1 (.inl (o_getR 2 1 10 4)))) (nd 4 (lf 4 (.inl (o_aload 0 5))) (lf 5 (.inl (o_getR 2 0 1 8))))) (nd 11 (nd 8 (lf 8 (.inr (.inr (1, 2, 2, 0)))) (lf 11 (.inl (o_iconst 0 12)))) (nd 12 (lf 12 (.inl (o_istore 1 13))) (lf 13 (.inl (o_iconst 0 14)))))) (nd 18 (nd 15 (nd 14 (lf 14 (.inl (o_istore 2 15))) (lf 15 (.inl (o_iload 2 16)))) (nd 16 (lf 16 (.inl (o_iconst 60 18))) (lf 18 (.inl (o_icge 62 21))))) (nd 22 (nd 21 (lf 21 (.inl (o_aload 0 22))) (lf 22 (.inl (o_getR 2 1 10 25)))) (nd 25 (lf 25 (.inl (o_iconst 0 26))) (nd 26 (lf 26 (.inr (.inr (19, 2, 5, 0)))) (lf 29 (.inl (o_istore 3 30)))))))) (nd 45 (nd 35 (nd 31 (nd 30 (lf 30 (.inl (o_iload 3 31))) (lf 31 (.inl (o_iconst (-1) 32)))) (nd 32 (lf 32 (.inl (o_icne 38 35))) (lf 35 (.inl (o_goto 62))))) (nd 39 (nd 38 (lf 38 (.inl (o_aload 0 39))) (lf 39 (.inl (o_getR 2 1 10 42)))) (nd 42 (lf 42 (.inl (o_iload 3 43))) (nd 43 (lf 43 (.inl (o_iconst 10 45))) (lf 45 (.inl (o_idiv 46))))))) (nd 50 (nd 47 (nd 46 (lf 46 (.inl (o_iload 3 47))) (lf 47 (.inl (o_iconst 10 49)))) (nd 49 (lf 49 (.inl (o_irem 50))) (lf 50 (.inr (.inr (20, 3, 5, 0)))))) (nd 56 (nd 53 (lf 53 (.inl (o_iinc 1 1 56))) (lf 56 (.inl (o_iinc 2 1 59)))) (nd 59 (lf 59 (.inl (o_goto 15))) (nd 62 (lf 62 (.inl (o_iload 1 63))) (lf 63 (.inr (.inl 1)))))))))
def tb_X3_worst : Nat → Option AI := (nd 21 (nd 9 (nd 2 (nd 0 (lf 0 (.inl (o_iload 1 1))) (nd 1 (lf 1 (.inl (o_iconst 0 2))) (lf 2 (.inl (o_iconst 1 3))))) (nd 3 (lf 3 (.inr (.inr (84, 3, 3, 9)))) (nd 6 (lf 6 (.inl (o_ifne 14 9))) (lf 9 (.inl (o_aload 0 10)))))) (nd 14 (nd 10 (lf 10 (.inr (.inr (80, 1, 1, 2)))) (nd 13 (lf 13 (.inr (.inl 1))) (lf 14 (.inl (o_aload 0 15))))) (nd 15 (lf 15 (.inl (o_getR 2 0 1 18))) (nd 18 (lf 18 (.inr (.inr (13, 1, 3, 0)))) (lf 21 (.inl (o_istore 2 22))))))) (nd 31 (nd 24 (nd 22 (lf 22 (.inl (o_iload 2 23))) (nd 23 (lf 23 (.inl (o_iconst (-1) 24))) (lf 24 (.inl (o_iceq 31 27))))) (nd 27 (lf 27 (.inl (o_iload 1 28))) (nd 28 (lf 28 (.inl (o_ifne 33 31))) (lf 31 (.inl (o_iload 2 32)))))) (nd 34 (nd 32 (lf 32 (.inr (.inl 1))) (nd 33 (lf 33 (.inl (o_aload 0 34))) (lf 34 (.inl (o_getR 2 0 1 37))))) (nd 37 (lf 37 (.inl (o_iload 2 38))) (nd 38 (lf 38 (.inr (.inr (12, 2, 3, 0)))) (lf 41 (.inr (.inl 1))))))))
def tb_X3_slips : Nat → Option AI := (nd 44 (nd 22 (nd 9 (nd 2 (nd 0 (lf 0 (.inl (o_aload 0 1))) (nd 1 (lf 1 (.inl (o_iload 1 2))) (lf 2 (.inr (.inr (86, 2, 2, 2)))))) (nd 5 (lf 5 (.inl (o_ifeq 18 8))) (nd 8 (lf 8 (.inl (o_iload 2 9))) (lf 9 (.inl (o_iconst 0 10)))))) (nd 15 (nd 10 (lf 10 (.inl (o_iconst 60 12))) (nd 12 (lf 12 (.inr (.inr (84, 3, 3, 9)))) (lf 15 (.inl (o_ifne 23 18))))) (nd 18 (lf 18 (.inl (o_aload 0 19))) (nd 19 (lf 19 (.inr (.inr (80, 1, 1, 2)))) (lf 22 (.inr (.inl 1))))))) (nd 32 (nd 27 (nd 23 (lf 23 (.inl (o_aload 0 24))) (nd 24 (lf 24 (.inl (o_getR 2 0 1 27))) (lf 27 (.inl (o_getR 0 9 6 30))))) (nd 30 (lf 30 (.inl (o_iload 1 31))) (nd 31 (lf 31 (.inl (o_iald 4 32))) (lf 32 (.inl (o_istore 3 33)))))) (nd 37 (nd 33 (lf 33 (.inl (o_aload 0 34))) (nd 34 (lf 34 (.inl (o_getR 2 0 1 37))) (lf 37 (.inl (o_iload 1 38))))) (nd 38 (lf 38 (.inr (.inr (6, 2, 2, 0)))) (nd 41 (lf 41 (.inl (o_ifeq 86 44))) (lf 44 (.inl (o_iconst 0 45)))))))) (nd 64 (nd 54 (nd 49 (nd 45 (lf 45 (.inl (o_istore 4 47))) (nd 47 (lf 47 (.inl (o_iload 4 49))) (lf 49 (.inl (o_iload 2 50))))) (nd 50 (lf 50 (.inl (o_icge 86 53))) (nd 53 (lf 53 (.inl (o_iload 3 54))) (lf 54 (.inl (o_aload 0 55)))))) (nd 61 (nd 55 (lf 55 (.inl (o_getR 2 0 1 58))) (nd 58 (lf 58 (.inl (o_getR 0 4 1 61))) (lf 61 (.inl (o_iload 1 62))))) (nd 62 (lf 62 (.inl (o_iald 4 63))) (nd 63 (lf 63 (.inl (o_aload 0 64))) (lf 64 (.inl (o_getR 2 0 1 67))))))) (nd 75 (nd 71 (nd 67 (lf 67 (.inl (o_getR 0 8 5 70))) (nd 70 (lf 70 (.inl (o_iload 1 71))) (lf 71 (.inl (o_iald 4 72))))) (nd 72 (lf 72 (.inl (o_iload 4 74))) (nd 74 (lf 74 (.inl (o_iadd 75))) (lf 75 (.inr (.inr (29, 2, 2, 9))))))) (nd 80 (nd 78 (lf 78 (.inl (o_iadd 79))) (nd 79 (lf 79 (.inl (o_istore 3 80))) (lf 80 (.inl (o_iinc 4 1 83))))) (nd 83 (lf 83 (.inl (o_goto 47))) (nd 86 (lf 86 (.inl (o_iload 3 87))) (lf 87 (.inr (.inl 1)))))))))
def tb_X3_note : Nat → Option AI := (nd 48 (nd 20 (nd 9 (nd 2 (nd 0 (lf 0 (.inl (o_aload 0 1))) (nd 1 (lf 1 (.inl (o_iload 1 2))) (lf 2 (.inr (.inr (86, 2, 2, 2)))))) (nd 5 (lf 5 (.inl (o_ifeq 51 8))) (nd 8 (lf 8 (.inl (o_iload 2 9))) (lf 9 (.inl (o_iconst 0 10)))))) (nd 15 (nd 10 (lf 10 (.inl (o_iconst 20 12))) (nd 12 (lf 12 (.inr (.inr (84, 3, 3, 9)))) (lf 15 (.inl (o_ifeq 51 18))))) (nd 18 (lf 18 (.inl (o_iload 3 19))) (nd 19 (lf 19 (.inl (o_iconst 0 20))) (lf 20 (.inl (o_iconst 99 22))))))) (nd 36 (nd 28 (nd 22 (lf 22 (.inr (.inr (84, 3, 3, 9)))) (nd 25 (lf 25 (.inl (o_ifeq 51 28))) (lf 28 (.inl (o_iload 4 30))))) (nd 30 (lf 30 (.inr (.inr (85, 1, 1, 9)))) (nd 33 (lf 33 (.inl (o_ifeq 51 36))) (lf 36 (.inl (o_iload 5 38)))))) (nd 41 (nd 38 (lf 38 (.inl (o_iconst 0 39))) (nd 39 (lf 39 (.inl (o_iconst 9 41))) (lf 41 (.inr (.inr (84, 3, 3, 9)))))) (nd 44 (lf 44 (.inl (o_ifeq 51 47))) (nd 47 (lf 47 (.inl (o_iconst 1 48))) (lf 48 (.inl (o_goto 52)))))))) (nd 73 (nd 60 (nd 54 (nd 51 (lf 51 (.inl (o_iconst 0 52))) (nd 52 (lf 52 (.inl (o_istore 6 54))) (lf 54 (.inl (o_iload 6 56))))) (nd 56 (lf 56 (.inl (o_ifne 64 59))) (nd 59 (lf 59 (.inl (o_aload 0 60))) (lf 60 (.inr (.inr (80, 1, 1, 2))))))) (nd 65 (nd 63 (lf 63 (.inr (.inl 1))) (nd 64 (lf 64 (.inl (o_aload 0 65))) (lf 65 (.inl (o_getR 2 0 1 68))))) (nd 68 (lf 68 (.inl (o_getI 0 2 71))) (nd 71 (lf 71 (.inl (o_iconst 6 73))) (lf 73 (.inl (o_iclt 81 76))))))) (nd 85 (nd 80 (nd 76 (lf 76 (.inl (o_aload 0 77))) (nd 77 (lf 77 (.inr (.inr (83, 1, 1, 2)))) (lf 80 (.inr (.inl 1))))) (nd 81 (lf 81 (.inl (o_aload 0 82))) (nd 82 (lf 82 (.inl (o_getR 2 0 1 85))) (lf 85 (.inl (o_iload 1 86)))))) (nd 88 (nd 86 (lf 86 (.inl (o_iload 2 87))) (nd 87 (lf 87 (.inl (o_iload 3 88))) (lf 88 (.inl (o_iload 4 90))))) (nd 90 (lf 90 (.inl (o_iload 5 92))) (nd 92 (lf 92 (.inr (.inr (21, 6, 7, 0)))) (lf 95 (.inr (.inl 1)))))))))
def tb_X3_forget : Nat → Option AI := (nd 8 (nd 1 (nd 0 (lf 0 (.inl (o_aload 0 1))) (lf 1 (.inl (o_getR 2 0 1 4)))) (nd 4 (lf 4 (.inl (o_getI 0 2 7))) (nd 7 (lf 7 (.inl (o_istore 1 8))) (lf 8 (.inl (o_aload 0 9)))))) (nd 12 (nd 9 (lf 9 (.inl (o_getR 2 0 1 12))) (lf 12 (.inl (o_iconst 0 13)))) (nd 13 (lf 13 (.inl (o_putI 0 2 16))) (nd 16 (lf 16 (.inl (o_iload 1 17))) (lf 17 (.inr (.inl 1)))))))
def tb_X3_is : Nat → Option AI := (nd 9 (nd 2 (nd 0 (lf 0 (.inl (o_aload 0 1))) (nd 1 (lf 1 (.inl (o_iload 1 2))) (lf 2 (.inr (.inr (86, 2, 2, 2)))))) (nd 5 (lf 5 (.inl (o_ifne 13 8))) (nd 8 (lf 8 (.inl (o_aload 0 9))) (lf 9 (.inr (.inr (80, 1, 1, 2))))))) (nd 14 (nd 12 (lf 12 (.inr (.inl 1))) (nd 13 (lf 13 (.inl (o_aload 0 14))) (lf 14 (.inl (o_getR 2 0 1 17))))) (nd 17 (lf 17 (.inl (o_iload 1 18))) (nd 18 (lf 18 (.inr (.inr (22, 2, 6, 0)))) (lf 21 (.inr (.inl 1)))))))
def tb_X3_listen : Nat → Option AI := (nd 46 (nd 23 (nd 12 (nd 2 (nd 0 (lf 0 (.inl (o_aload 0 1))) (nd 1 (lf 1 (.inl (o_iload 1 2))) (lf 2 (.inr (.inr (86, 2, 2, 2)))))) (nd 8 (nd 5 (lf 5 (.inl (o_ifne 13 8))) (lf 8 (.inl (o_aload 0 9)))) (nd 9 (lf 9 (.inr (.inr (80, 1, 1, 2)))) (lf 12 (.inr (.inl 1)))))) (nd 17 (nd 13 (lf 13 (.inl (o_aload 0 14))) (nd 14 (lf 14 (.inl (o_getR 2 0 1 17))) (lf 17 (.inl (o_iload 1 18))))) (nd 21 (nd 18 (lf 18 (.inr (.inr (22, 2, 6, 0)))) (lf 21 (.inl (o_istore 2 22)))) (nd 22 (lf 22 (.inl (o_iload 2 23))) (lf 23 (.inl (o_ifne 28 26))))))) (nd 34 (nd 28 (nd 26 (lf 26 (.inl (o_iconst (-1) 27))) (nd 27 (lf 27 (.inr (.inl 1))) (lf 28 (.inl (o_iconst (-1) 29))))) (nd 30 (nd 29 (lf 29 (.inl (o_istore 3 30))) (lf 30 (.inl (o_iconst 7 32)))) (nd 32 (lf 32 (.inl (o_istore 4 34))) (lf 34 (.inl (o_iconst 0 35)))))) (nd 39 (nd 35 (lf 35 (.inl (o_istore 5 37))) (nd 37 (lf 37 (.inl (o_iload 5 39))) (lf 39 (.inl (o_iconst 4 40))))) (nd 43 (nd 40 (lf 40 (.inl (o_icgt 103 43))) (lf 43 (.inl (o_iconst 0 44)))) (nd 44 (lf 44 (.inl (o_istore 6 46))) (lf 46 (.inl (o_iload 6 48)))))))) (nd 73 (nd 60 (nd 52 (nd 48 (lf 48 (.inl (o_iconst 1 49))) (nd 49 (lf 49 (.inl (o_icgt 97 52))) (lf 52 (.inl (o_iload 2 53))))) (nd 54 (nd 53 (lf 53 (.inl (o_aload 0 54))) (lf 54 (.inl (o_getR 2 0 1 57)))) (nd 57 (lf 57 (.inl (o_getR 0 5 2 60))) (lf 60 (.inl (o_iload 1 61)))))) (nd 64 (nd 61 (lf 61 (.inl (o_iald 4 62))) (nd 62 (lf 62 (.inl (o_iload 5 64))) (lf 64 (.inl (o_iload 6 66))))) (nd 69 (nd 66 (lf 66 (.inr (.inr (32, 4, 9, 9)))) (lf 69 (.inl (o_istore 7 71)))) (nd 71 (lf 71 (.inl (o_iload 7 73))) (lf 73 (.inl (o_iload 4 75))))))) (nd 87 (nd 80 (nd 75 (lf 75 (.inl (o_icge 91 78))) (nd 78 (lf 78 (.inl (o_iload 7 80))) (lf 80 (.inl (o_istore 4 82))))) (nd 84 (nd 82 (lf 82 (.inl (o_iconst 10 84))) (lf 84 (.inl (o_iload 5 86)))) (nd 86 (lf 86 (.inl (o_imul 87))) (lf 87 (.inl (o_iload 6 89)))))) (nd 94 (nd 90 (nd 89 (lf 89 (.inl (o_iadd 90))) (lf 90 (.inl (o_istore 3 91)))) (nd 91 (lf 91 (.inl (o_iinc 6 1 94))) (lf 94 (.inl (o_goto 46))))) (nd 100 (nd 97 (lf 97 (.inl (o_iinc 5 1 100))) (lf 100 (.inl (o_goto 37)))) (nd 103 (lf 103 (.inl (o_iload 3 104))) (lf 104 (.inr (.inl 1)))))))))
def tb_X3_whose : Nat → Option AI := (nd 24 (nd 12 (nd 4 (nd 0 (lf 0 (.inl (o_iload 1 1))) (nd 1 (lf 1 (.inr (.inr (85, 1, 1, 9)))) (lf 4 (.inl (o_ifne 12 7))))) (nd 8 (nd 7 (lf 7 (.inl (o_aload 0 8))) (lf 8 (.inr (.inr (80, 1, 1, 2))))) (nd 11 (lf 11 (.inr (.inl 1))) (lf 12 (.inl (o_iconst 0 13)))))) (nd 16 (nd 14 (nd 13 (lf 13 (.inl (o_istore 2 14))) (lf 14 (.inl (o_iconst 0 15)))) (nd 15 (lf 15 (.inl (o_istore 3 16))) (lf 16 (.inl (o_iload 3 17))))) (nd 18 (nd 17 (lf 17 (.inl (o_aload 0 18))) (lf 18 (.inl (o_getR 2 0 1 21)))) (nd 21 (lf 21 (.inl (o_getI 0 0 24))) (lf 24 (.inl (o_icge 51 27))))))) (nd 40 (nd 32 (nd 28 (nd 27 (lf 27 (.inl (o_aload 0 28))) (lf 28 (.inl (o_getR 2 0 1 31)))) (nd 31 (lf 31 (.inl (o_iload 3 32))) (lf 32 (.inr (.inr (10, 2, 2, 0)))))) (nd 36 (nd 35 (lf 35 (.inl (o_iload 1 36))) (lf 36 (.inl (o_icne 45 39)))) (nd 39 (lf 39 (.inl (o_iload 2 40))) (lf 40 (.inl (o_iconst 1 41)))))) (nd 44 (nd 42 (nd 41 (lf 41 (.inl (o_iload 3 42))) (lf 42 (.inl (o_ishl 43)))) (nd 43 (lf 43 (.inl (o_ior 44))) (lf 44 (.inl (o_istore 2 45))))) (nd 48 (nd 45 (lf 45 (.inl (o_iinc 3 1 48))) (lf 48 (.inl (o_goto 16)))) (nd 51 (lf 51 (.inl (o_iload 2 52))) (lf 52 (.inr (.inl 1))))))))
def tb_X3_asks : Nat → Option AI := (nd 96 (nd 47 (nd 22 (nd 9 (nd 2 (nd 0 (lf 0 (.inl (o_aload 0 1))) (nd 1 (lf 1 (.inl (o_iload 1 2))) (lf 2 (.inr (.inr (86, 2, 2, 2)))))) (nd 5 (lf 5 (.inl (o_ifeq 29 8))) (nd 8 (lf 8 (.inl (o_aload 0 9))) (lf 9 (.inl (o_iload 2 10)))))) (nd 16 (nd 10 (lf 10 (.inr (.inr (86, 2, 2, 2)))) (nd 13 (lf 13 (.inl (o_ifeq 29 16))) (lf 16 (.inl (o_iload 1 17))))) (nd 18 (nd 17 (lf 17 (.inl (o_iload 2 18))) (lf 18 (.inl (o_iceq 29 21)))) (nd 21 (lf 21 (.inl (o_aload 0 22))) (lf 22 (.inl (o_iload 3 23))))))) (nd 34 (nd 29 (nd 23 (lf 23 (.inr (.inr (86, 2, 2, 2)))) (nd 26 (lf 26 (.inl (o_ifne 34 29))) (lf 29 (.inl (o_aload 0 30))))) (nd 30 (lf 30 (.inr (.inr (80, 1, 1, 2)))) (nd 33 (lf 33 (.inr (.inl 1))) (lf 34 (.inl (o_aload 0 35)))))) (nd 41 (nd 35 (lf 35 (.inl (o_getR 2 0 1 38))) (nd 38 (lf 38 (.inl (o_getR 0 7 4 41))) (lf 41 (.inl (o_iload 3 42))))) (nd 43 (nd 42 (lf 42 (.inl (o_iald 4 43))) (lf 43 (.inl (o_iconst (-1) 44)))) (nd 44 (lf 44 (.inl (o_iceq 52 47))) (lf 47 (.inl (o_aload 0 48)))))))) (nd 72 (nd 57 (nd 52 (nd 48 (lf 48 (.inr (.inr (82, 1, 1, 2)))) (nd 51 (lf 51 (.inr (.inl 1))) (lf 52 (.inl (o_aload 0 53))))) (nd 53 (lf 53 (.inl (o_getR 2 0 1 56))) (nd 56 (lf 56 (.inl (o_iload 1 57))) (lf 57 (.inr (.inr (12, 2, 3, 0))))))) (nd 63 (nd 60 (lf 60 (.inl (o_istore 4 62))) (nd 62 (lf 62 (.inl (o_aload 0 63))) (lf 63 (.inl (o_getR 2 0 1 66))))) (nd 67 (nd 66 (lf 66 (.inl (o_iload 2 67))) (lf 67 (.inr (.inr (12, 2, 3, 0))))) (nd 70 (lf 70 (.inl (o_istore 5 72))) (lf 72 (.inl (o_iconst 0 73))))))) (nd 84 (nd 76 (nd 73 (lf 73 (.inl (o_istore 6 75))) (nd 75 (lf 75 (.inl (o_iconst 0 76))) (lf 76 (.inl (o_istore 7 78))))) (nd 80 (nd 78 (lf 78 (.inl (o_iload 7 80))) (lf 80 (.inl (o_iconst 4 81)))) (nd 81 (lf 81 (.inl (o_icge 203 84))) (lf 84 (.inl (o_iload 7 86)))))) (nd 88 (nd 86 (lf 86 (.inl (o_iconst 1 87))) (nd 87 (lf 87 (.inl (o_iand 88))) (lf 88 (.inl (o_ifeq 95 91))))) (nd 92 (nd 91 (lf 91 (.inl (o_iconst 1 92))) (lf 92 (.inl (o_goto 96)))) (nd 95 (lf 95 (.inl (o_iconst 0 96))) (lf 96 (.inl (o_istore 8 98))))))))) (nd 148 (nd 119 (nd 106 (nd 101 (nd 98 (lf 98 (.inl (o_iload 7 100))) (nd 100 (lf 100 (.inl (o_iconst 2 101))) (lf 101 (.inl (o_iand 102))))) (nd 102 (lf 102 (.inl (o_ifeq 109 105))) (nd 105 (lf 105 (.inl (o_iconst 1 106))) (lf 106 (.inl (o_goto 110)))))) (nd 112 (nd 109 (lf 109 (.inl (o_iconst 0 110))) (nd 110 (lf 110 (.inl (o_istore 9 112))) (lf 112 (.inl (o_iload 9 114))))) (nd 117 (nd 114 (lf 114 (.inl (o_ifeq 127 117))) (lf 117 (.inl (o_iload 2 118)))) (nd 118 (lf 118 (.inl (o_iload 1 119))) (lf 119 (.inl (o_icge 127 122))))))) (nd 133 (nd 127 (nd 122 (lf 122 (.inl (o_iload 4 124))) (nd 124 (lf 124 (.inl (o_goto 136))) (lf 127 (.inl (o_aload 0 128))))) (nd 131 (nd 128 (lf 128 (.inl (o_getR 2 0 1 131))) (lf 131 (.inl (o_iload 1 132)))) (nd 132 (lf 132 (.inl (o_iload 3 133))) (lf 133 (.inr (.inr (11, 3, 3, 0))))))) (nd 140 (nd 136 (lf 136 (.inl (o_istore 10 138))) (nd 138 (lf 138 (.inl (o_iload 8 140))) (lf 140 (.inl (o_ifeq 153 143))))) (nd 144 (nd 143 (lf 143 (.inl (o_iload 1 144))) (lf 144 (.inl (o_iload 2 145)))) (nd 145 (lf 145 (.inl (o_icge 153 148))) (lf 148 (.inl (o_iload 5 150)))))))) (nd 176 (nd 159 (nd 154 (nd 150 (lf 150 (.inl (o_goto 162))) (nd 153 (lf 153 (.inl (o_aload 0 154))) (lf 154 (.inl (o_getR 2 0 1 157))))) (nd 157 (lf 157 (.inl (o_iload 2 158))) (nd 158 (lf 158 (.inl (o_iload 3 159))) (lf 159 (.inr (.inr (11, 3, 3, 0))))))) (nd 166 (nd 162 (lf 162 (.inl (o_istore 11 164))) (nd 164 (lf 164 (.inl (o_iload 8 166))) (lf 166 (.inl (o_iload 10 168))))) (nd 170 (nd 168 (lf 168 (.inl (o_iload 4 170))) (lf 170 (.inr (.inr (90, 3, 4, 9))))) (nd 173 (lf 173 (.inl (o_ifeq 197 176))) (lf 176 (.inl (o_iload 9 178))))))) (nd 191 (nd 182 (nd 178 (lf 178 (.inl (o_iload 11 180))) (nd 180 (lf 180 (.inl (o_iload 5 182))) (lf 182 (.inr (.inr (90, 3, 4, 9)))))) (nd 188 (nd 185 (lf 185 (.inl (o_ifeq 197 188))) (lf 188 (.inl (o_iload 6 190)))) (nd 190 (lf 190 (.inl (o_iconst 1 191))) (lf 191 (.inl (o_iload 7 193)))))) (nd 195 (nd 193 (lf 193 (.inl (o_ishl 194))) (nd 194 (lf 194 (.inl (o_ior 195))) (lf 195 (.inl (o_istore 6 197))))) (nd 200 (nd 197 (lf 197 (.inl (o_iinc 7 1 200))) (lf 200 (.inl (o_goto 78)))) (nd 203 (lf 203 (.inl (o_iload 6 205))) (lf 205 (.inr (.inl 1))))))))))
def tb_X3_thieves : Nat → Option AI := (nd 60 (nd 29 (nd 12 (nd 4 (nd 1 (nd 0 (lf 0 (.inl (o_iload 1 1))) (lf 1 (.inl (o_iconst 0 2)))) (nd 2 (lf 2 (.inl (o_iconst 6 4))) (lf 4 (.inr (.inr (84, 3, 3, 9)))))) (nd 10 (nd 7 (lf 7 (.inl (o_ifeq 20 10))) (lf 10 (.inl (o_iload 2 11)))) (nd 11 (lf 11 (.inl (o_iconst 0 12))) (lf 12 (.inl (o_iconst 10 14)))))) (nd 21 (nd 17 (nd 14 (lf 14 (.inr (.inr (84, 3, 3, 9)))) (lf 17 (.inl (o_ifne 25 20)))) (nd 20 (lf 20 (.inl (o_aload 0 21))) (lf 21 (.inr (.inr (80, 1, 1, 2)))))) (nd 25 (nd 24 (lf 24 (.inr (.inl 1))) (lf 25 (.inl (o_aload 0 26)))) (nd 26 (lf 26 (.inl (o_getR 2 0 1 29))) (lf 29 (.inr (.inr (25, 1, 3, 0)))))))) (nd 42 (nd 36 (nd 33 (nd 32 (lf 32 (.inl (o_istore 3 33))) (lf 33 (.inl (o_lconst 0 34)))) (nd 34 (lf 34 (.inl (o_lstore 4 36))) (lf 36 (.inl (o_lconst 1 37))))) (nd 39 (nd 37 (lf 37 (.inl (o_lstore 6 39))) (lf 39 (.inl (o_iconst 0 40)))) (nd 40 (lf 40 (.inl (o_istore 8 42))) (lf 42 (.inl (o_iload 8 44)))))) (nd 50 (nd 45 (nd 44 (lf 44 (.inl (o_iload 3 45))) (lf 45 (.inl (o_icgt 102 48)))) (nd 48 (lf 48 (.inl (o_iload 8 50))) (lf 50 (.inl (o_iload 1 51))))) (nd 54 (nd 51 (lf 51 (.inl (o_iclt 80 54))) (lf 54 (.inl (o_lload 4 56)))) (nd 56 (lf 56 (.inl (o_lload 6 58))) (nd 58 (lf 58 (.inl (o_iconst 10 60))) (lf 60 (.inl (o_iload 2 61))))))))) (nd 86 (nd 72 (nd 67 (nd 62 (nd 61 (lf 61 (.inl (o_isub 62))) (lf 62 (.inl (o_iload 8 64)))) (nd 64 (lf 64 (.inr (.inr (91, 2, 5, 9)))) (lf 67 (.inl (o_lmul 68))))) (nd 69 (nd 68 (lf 68 (.inl (o_iload 2 69))) (lf 69 (.inl (o_iload 3 70)))) (nd 70 (lf 70 (.inl (o_iload 8 72))) (lf 72 (.inl (o_isub 73)))))) (nd 78 (nd 76 (nd 73 (lf 73 (.inr (.inr (91, 2, 5, 9)))) (lf 76 (.inl (o_lmul 77)))) (nd 77 (lf 77 (.inl (o_ladd 78))) (lf 78 (.inl (o_lstore 4 80))))) (nd 82 (nd 80 (lf 80 (.inl (o_lload 6 82))) (lf 82 (.inl (o_iload 3 83)))) (nd 83 (lf 83 (.inl (o_iload 8 85))) (nd 85 (lf 85 (.inl (o_isub 86))) (lf 86 (.inl (o_i2l 87)))))))) (nd 96 (nd 91 (nd 88 (nd 87 (lf 87 (.inl (o_lmul 88))) (lf 88 (.inl (o_iload 8 90)))) (nd 90 (lf 90 (.inl (o_iconst 1 91))) (lf 91 (.inl (o_iadd 92))))) (nd 93 (nd 92 (lf 92 (.inl (o_i2l 93))) (lf 93 (.inl (o_ldiv 94)))) (nd 94 (lf 94 (.inl (o_lstore 6 96))) (lf 96 (.inl (o_iinc 8 1 99)))))) (nd 105 (nd 102 (nd 99 (lf 99 (.inl (o_goto 42))) (lf 102 (.inl (o_aload 0 103)))) (nd 103 (lf 103 (.inl (o_lload 4 105))) (lf 105 (.inl (o_iconst 10 107))))) (nd 108 (nd 107 (lf 107 (.inl (o_iload 3 108))) (lf 108 (.inr (.inr (91, 2, 5, 9))))) (nd 111 (lf 111 (.inr (.inr (92, 3, 7, 2)))) (nd 114 (lf 114 (.inl (o_iconst 1 115))) (lf 115 (.inr (.inl 1))))))))))
def tb_X3_lents : Nat → Option AI := (nd 66 (nd 33 (nd 14 (nd 4 (nd 1 (nd 0 (lf 0 (.inl (o_iload 1 1))) (lf 1 (.inl (o_iconst 0 2)))) (nd 2 (lf 2 (.inl (o_iconst 999999 4))) (lf 4 (.inr (.inr (84, 3, 3, 9)))))) (nd 10 (nd 7 (lf 7 (.inl (o_ifeq 20 10))) (lf 10 (.inl (o_iload 2 11)))) (nd 11 (lf 11 (.inl (o_iconst 0 12))) (nd 12 (lf 12 (.inl (o_iconst 60 14))) (lf 14 (.inr (.inr (84, 3, 3, 9)))))))) (nd 24 (nd 20 (nd 17 (lf 17 (.inl (o_ifne 25 20))) (lf 20 (.inl (o_aload 0 21)))) (nd 21 (lf 21 (.inr (.inr (80, 1, 1, 2)))) (lf 24 (.inr (.inl 1))))) (nd 26 (nd 25 (lf 25 (.inl (o_aload 0 26))) (lf 26 (.inl (o_getR 2 0 1 29)))) (nd 29 (lf 29 (.inl (o_getI 0 0 32))) (nd 32 (lf 32 (.inl (o_istore 3 33))) (lf 33 (.inl (o_iload 3 34)))))))) (nd 50 (nd 41 (nd 37 (nd 34 (lf 34 (.inl (o_ifne 42 37))) (lf 37 (.inl (o_aload 0 38)))) (nd 38 (lf 38 (.inr (.inr (82, 1, 1, 2)))) (lf 41 (.inr (.inl 1))))) (nd 43 (nd 42 (lf 42 (.inl (o_aload 0 43))) (lf 43 (.inl (o_getR 2 1 10 46)))) (nd 46 (lf 46 (.inl (o_aload 0 47))) (nd 47 (lf 47 (.inl (o_getR 2 0 1 50))) (lf 50 (.inr (.inr (1, 2, 2, 0)))))))) (nd 58 (nd 54 (nd 53 (lf 53 (.inl (o_iconst 0 54))) (lf 54 (.inl (o_istore 4 56)))) (nd 56 (lf 56 (.inl (o_iload 1 57))) (nd 57 (lf 57 (.inl (o_i2l 58))) (lf 58 (.inl (o_lstore 5 60)))))) (nd 61 (nd 60 (lf 60 (.inl (o_iconst 0 61))) (lf 61 (.inl (o_istore 7 63)))) (nd 63 (lf 63 (.inl (o_iload 7 65))) (nd 65 (lf 65 (.inl (o_iload 2 66))) (lf 66 (.inl (o_icge 136 69))))))))) (nd 101 (nd 84 (nd 76 (nd 71 (nd 69 (lf 69 (.inl (o_lload 5 71))) (lf 71 (.inr (.inr (94, 1, 2, 9))))) (nd 74 (lf 74 (.inl (o_lstore 5 76))) (lf 76 (.inl (o_lload 5 78))))) (nd 81 (nd 78 (lf 78 (.inl (o_lconst 65536 81))) (lf 81 (.inl (o_ldiv 82)))) (nd 82 (lf 82 (.inl (o_iload 3 83))) (nd 83 (lf 83 (.inl (o_i2l 84))) (lf 84 (.inl (o_lrem 85))))))) (nd 90 (nd 86 (nd 85 (lf 85 (.inl (o_l2i 86))) (lf 86 (.inl (o_istore 8 88)))) (nd 88 (lf 88 (.inl (o_lload 5 90))) (lf 90 (.inr (.inr (94, 1, 2, 9)))))) (nd 95 (nd 93 (lf 93 (.inl (o_lstore 5 95))) (lf 95 (.inl (o_lload 5 97)))) (nd 97 (lf 97 (.inl (o_lconst 65536 100))) (nd 100 (lf 100 (.inl (o_ldiv 101))) (lf 101 (.inl (o_iload 3 102)))))))) (nd 115 (nd 105 (nd 103 (nd 102 (lf 102 (.inl (o_i2l 103))) (lf 103 (.inl (o_lrem 104)))) (nd 104 (lf 104 (.inl (o_l2i 105))) (lf 105 (.inl (o_istore 9 107))))) (nd 108 (nd 107 (lf 107 (.inl (o_aload 0 108))) (lf 108 (.inl (o_getR 2 1 10 111)))) (nd 111 (lf 111 (.inl (o_iload 9 113))) (nd 113 (lf 113 (.inl (o_iload 8 115))) (lf 115 (.inr (.inr (24, 3, 4, 0)))))))) (nd 127 (nd 120 (nd 118 (lf 118 (.inl (o_iload 4 120))) (lf 120 (.inl (o_aload 0 121)))) (nd 121 (lf 121 (.inl (o_getR 2 1 10 124))) (nd 124 (lf 124 (.inr (.inr (7, 1, 4, 0)))) (lf 127 (.inl (o_iadd 128)))))) (nd 130 (nd 128 (lf 128 (.inl (o_istore 4 130))) (lf 130 (.inl (o_iinc 7 1 133)))) (nd 133 (lf 133 (.inl (o_goto 63))) (nd 136 (lf 136 (.inl (o_iload 4 138))) (lf 138 (.inr (.inl 1))))))))))
def tb_X3_part : Nat → Option AI := (nd 13 (nd 3 (nd 1 (nd 0 (lf 0 (.inl (o_iload 1 1))) (lf 1 (.inl (o_iconst 0 2)))) (nd 2 (lf 2 (.inl (o_iconst 1 3))) (lf 3 (.inr (.inr (84, 3, 3, 9)))))) (nd 9 (nd 6 (lf 6 (.inl (o_ifne 15 9))) (lf 9 (.inl (o_aload 0 10)))) (nd 10 (lf 10 (.inr (.inr (80, 1, 1, 2)))) (lf 13 (.inl (o_i2l 14)))))) (nd 19 (nd 15 (nd 14 (lf 14 (.inr (.inl 2))) (lf 15 (.inl (o_iload 1 16)))) (nd 16 (lf 16 (.inl (o_ifne 26 19))) (lf 19 (.inl (o_aload 0 20))))) (nd 23 (nd 20 (lf 20 (.inl (o_getJ 2 9 23))) (lf 23 (.inl (o_goto 30)))) (nd 26 (lf 26 (.inl (o_aload 0 27))) (nd 27 (lf 27 (.inl (o_getJ 2 10 30))) (lf 30 (.inr (.inl 2))))))))
def tb_X3_image : Nat → Option AI := (nd 23 (nd 10 (nd 2 (nd 0 (lf 0 (.inl (o_iload 1 1))) (nd 1 (lf 1 (.inl (o_iconst 0 2))) (lf 2 (.inl (o_iconst 1 3))))) (nd 6 (nd 3 (lf 3 (.inr (.inr (84, 3, 3, 9)))) (lf 6 (.inl (o_ifne 14 9)))) (nd 9 (lf 9 (.inl (o_aload 0 10))) (lf 10 (.inr (.inr (80, 1, 1, 2))))))) (nd 15 (nd 13 (lf 13 (.inr (.inl 1))) (nd 14 (lf 14 (.inl (o_iload 1 15))) (lf 15 (.inl (o_ifne 37 18))))) (nd 19 (nd 18 (lf 18 (.inl (o_aload 0 19))) (lf 19 (.inl (o_getR 2 2 19 22)))) (nd 22 (lf 22 (.inl (o_aload 0 23))) (lf 23 (.inl (o_getR 2 0 1 26))))))) (nd 38 (nd 30 (nd 26 (lf 26 (.inr (.inr (1, 2, 2, 0)))) (nd 29 (lf 29 (.inl (o_aload 0 30))) (lf 30 (.inl (o_iconst 1 31))))) (nd 34 (nd 31 (lf 31 (.inl (o_putZ 2 4 34))) (lf 34 (.inl (o_goto 53)))) (nd 37 (lf 37 (.inl (o_aload 0 38))) (lf 38 (.inl (o_getR 2 3 28 41)))))) (nd 48 (nd 42 (nd 41 (lf 41 (.inl (o_aload 0 42))) (lf 42 (.inl (o_getR 2 0 1 45)))) (nd 45 (lf 45 (.inr (.inr (1, 2, 2, 0)))) (lf 48 (.inl (o_aload 0 49))))) (nd 50 (nd 49 (lf 49 (.inl (o_iconst 1 50))) (lf 50 (.inl (o_putZ 2 5 53)))) (nd 53 (lf 53 (.inl (o_iconst 1 54))) (lf 54 (.inr (.inl 1))))))))
def tb_X3_from : Nat → Option AI := (nd 29 (nd 13 (nd 3 (nd 1 (nd 0 (lf 0 (.inl (o_iload 1 1))) (lf 1 (.inl (o_iconst 0 2)))) (nd 2 (lf 2 (.inl (o_iconst 1 3))) (lf 3 (.inr (.inr (84, 3, 3, 9)))))) (nd 9 (nd 6 (lf 6 (.inl (o_ifne 14 9))) (lf 9 (.inl (o_aload 0 10)))) (nd 10 (lf 10 (.inr (.inr (80, 1, 1, 2)))) (lf 13 (.inr (.inl 1)))))) (nd 19 (nd 15 (nd 14 (lf 14 (.inl (o_iload 1 15))) (lf 15 (.inl (o_ifne 28 18)))) (nd 18 (lf 18 (.inl (o_aload 0 19))) (lf 19 (.inl (o_getI 2 4 22))))) (nd 25 (nd 22 (lf 22 (.inl (o_ifeq 35 25))) (lf 25 (.inl (o_goto 40)))) (nd 28 (lf 28 (.inl (o_aload 0 29))) (lf 29 (.inl (o_getI 2 5 32))))))) (nd 45 (nd 39 (nd 35 (nd 32 (lf 32 (.inl (o_ifne 40 35))) (lf 35 (.inl (o_aload 0 36)))) (nd 36 (lf 36 (.inr (.inr (82, 1, 1, 2)))) (lf 39 (.inr (.inl 1))))) (nd 41 (nd 40 (lf 40 (.inl (o_aload 0 41))) (lf 41 (.inl (o_getR 2 0 1 44)))) (nd 44 (lf 44 (.inl (o_iload 1 45))) (lf 45 (.inl (o_ifne 55 48)))))) (nd 55 (nd 49 (nd 48 (lf 48 (.inl (o_aload 0 49))) (lf 49 (.inl (o_getR 2 2 19 52)))) (nd 52 (lf 52 (.inl (o_goto 59))) (lf 55 (.inl (o_aload 0 56))))) (nd 59 (nd 56 (lf 56 (.inl (o_getR 2 3 28 59))) (lf 59 (.inr (.inr (1, 2, 2, 0))))) (nd 62 (lf 62 (.inl (o_iconst 1 63))) (lf 63 (.inr (.inl 1))))))))
def tb_X3_status : Nat → Option AI := (nd 38 (nd 29 (nd 1 (nd 0 (lf 0 (.inl (o_iload 1 1))) (lf 1 (.inl (o_tsw 0 [28, 33, 38] 43)))) (nd 28 (lf 28 (.inl (o_aload 0 29))) (lf 29 (.inl (o_getI 2 11 32))))) (nd 33 (nd 32 (lf 32 (.inr (.inl 1))) (lf 33 (.inl (o_aload 0 34)))) (nd 34 (lf 34 (.inl (o_getI 2 12 37))) (nd 37 (lf 37 (.inr (.inl 1))) (lf 38 (.inl (o_aload 0 39))))))) (nd 45 (nd 42 (nd 39 (lf 39 (.inl (o_getI 2 13 42))) (lf 42 (.inr (.inl 1)))) (nd 43 (lf 43 (.inl (o_aload 0 44))) (nd 44 (lf 44 (.inl (o_dup 45))) (lf 45 (.inl (o_getI 2 11 48)))))) (nd 49 (nd 48 (lf 48 (.inl (o_iconst 1 49))) (lf 49 (.inl (o_iadd 50)))) (nd 50 (lf 50 (.inl (o_putI 2 11 53))) (nd 53 (lf 53 (.inl (o_iconst (-1) 54))) (lf 54 (.inr (.inl 1))))))))
def tb_X3_count : Nat → Option AI := (nd 10 (nd 2 (nd 0 (lf 0 (.inl (o_iload 1 1))) (nd 1 (lf 1 (.inl (o_iconst 0 2))) (lf 2 (.inl (o_iconst 6 4))))) (nd 4 (lf 4 (.inr (.inr (84, 3, 3, 9)))) (nd 7 (lf 7 (.inl (o_ifeq 18 10))) (lf 10 (.inl (o_aload 0 11)))))) (nd 15 (nd 11 (lf 11 (.inl (o_iload 1 12))) (nd 12 (lf 12 (.inr (.inr (87, 2, 2, 2)))) (lf 15 (.inl (o_goto 22))))) (nd 18 (lf 18 (.inl (o_aload 0 19))) (nd 19 (lf 19 (.inr (.inr (80, 1, 1, 2)))) (lf 22 (.inr (.inl 1)))))))
def tb_X3_digest : Nat → Option AI := (nd 28 (nd 15 (nd 5 (nd 3 (nd 0 (lf 0 (.inl (o_lconst 1297 3))) (lf 3 (.inl (o_lstore 1 4)))) (nd 4 (lf 4 (.inl (o_iconst 0 5))) (lf 5 (.inl (o_istore 3 6))))) (nd 7 (nd 6 (lf 6 (.inl (o_iload 3 7))) (lf 7 (.inl (o_iconst 6 9)))) (nd 9 (lf 9 (.inl (o_icgt 31 12))) (nd 12 (lf 12 (.inl (o_lconst 31 15))) (lf 15 (.inl (o_lload 1 16))))))) (nd 19 (nd 17 (nd 16 (lf 16 (.inl (o_lmul 17))) (lf 17 (.inl (o_aload 0 18)))) (nd 18 (lf 18 (.inl (o_iload 3 19))) (lf 19 (.inr (.inr (87, 2, 2, 2)))))) (nd 23 (nd 22 (lf 22 (.inl (o_i2l 23))) (lf 23 (.inl (o_ladd 24)))) (nd 24 (lf 24 (.inl (o_lstore 1 25))) (nd 25 (lf 25 (.inl (o_iinc 3 1 28))) (lf 28 (.inl (o_goto 6)))))))) (nd 45 (nd 36 (nd 32 (nd 31 (lf 31 (.inl (o_aload 0 32))) (lf 32 (.inl (o_getR 2 0 1 35)))) (nd 35 (lf 35 (.inl (o_lload 1 36))) (lf 36 (.inr (.inr (27, 2, 6, 0)))))) (nd 40 (nd 39 (lf 39 (.inl (o_lstore 1 40))) (lf 40 (.inl (o_lconst 31 43)))) (nd 43 (lf 43 (.inl (o_lload 1 44))) (nd 44 (lf 44 (.inl (o_lmul 45))) (lf 45 (.inl (o_aload 0 46))))))) (nd 54 (nd 49 (nd 46 (lf 46 (.inl (o_getJ 2 9 49))) (lf 49 (.inl (o_ladd 50)))) (nd 50 (lf 50 (.inl (o_lstore 1 51))) (nd 51 (lf 51 (.inl (o_lconst 31 54))) (lf 54 (.inl (o_lload 1 55)))))) (nd 56 (nd 55 (lf 55 (.inl (o_lmul 56))) (lf 56 (.inl (o_aload 0 57)))) (nd 57 (lf 57 (.inl (o_getJ 2 10 60))) (nd 60 (lf 60 (.inl (o_ladd 61))) (lf 61 (.inr (.inl 2)))))))))
def tb_X3_bad : Nat → Option AI := (nd 5 (nd 1 (nd 0 (lf 0 (.inl (o_aload 0 1))) (lf 1 (.inl (o_dup 2)))) (nd 2 (lf 2 (.inl (o_getI 2 11 5))) (lf 5 (.inl (o_iconst 1 6))))) (nd 7 (nd 6 (lf 6 (.inl (o_iadd 7))) (lf 7 (.inl (o_putI 2 11 10)))) (nd 10 (lf 10 (.inl (o_iconst (-2) 12))) (lf 12 (.inr (.inl 1))))))
def tb_X3_badByTen : Nat → Option AI := (nd 5 (nd 1 (nd 0 (lf 0 (.inl (o_aload 0 1))) (lf 1 (.inl (o_dup 2)))) (nd 2 (lf 2 (.inl (o_getI 2 11 5))) (lf 5 (.inl (o_iconst 1 6))))) (nd 7 (nd 6 (lf 6 (.inl (o_iadd 7))) (lf 7 (.inl (o_putI 2 11 10)))) (nd 10 (lf 10 (.inl (o_iconst (-10) 12))) (lf 12 (.inr (.inl 1))))))
def tb_X3_no : Nat → Option AI := (nd 5 (nd 1 (nd 0 (lf 0 (.inl (o_aload 0 1))) (lf 1 (.inl (o_dup 2)))) (nd 2 (lf 2 (.inl (o_getI 2 12 5))) (lf 5 (.inl (o_iconst 1 6))))) (nd 7 (nd 6 (lf 6 (.inl (o_iadd 7))) (lf 7 (.inl (o_putI 2 12 10)))) (nd 10 (lf 10 (.inl (o_iconst (-3) 12))) (lf 12 (.inr (.inl 1))))))
def tb_X3_full : Nat → Option AI := (nd 5 (nd 1 (nd 0 (lf 0 (.inl (o_aload 0 1))) (lf 1 (.inl (o_dup 2)))) (nd 2 (lf 2 (.inl (o_getI 2 13 5))) (lf 5 (.inl (o_iconst 1 6))))) (nd 7 (nd 6 (lf 6 (.inl (o_iadd 7))) (lf 7 (.inl (o_putI 2 13 10)))) (nd 10 (lf 10 (.inl (o_iconst (-4) 12))) (lf 12 (.inr (.inl 1))))))
def tb_X3_within : Nat → Option AI := (nd 6 (nd 1 (nd 0 (lf 0 (.inl (o_iload 0 1))) (lf 1 (.inl (o_iload 1 2)))) (nd 2 (lf 2 (.inl (o_iclt 14 5))) (nd 5 (lf 5 (.inl (o_iload 0 6))) (lf 6 (.inl (o_iload 2 7)))))) (nd 10 (nd 7 (lf 7 (.inl (o_icgt 14 10))) (lf 10 (.inl (o_iconst 1 11)))) (nd 11 (lf 11 (.inl (o_goto 15))) (nd 14 (lf 14 (.inl (o_iconst 0 15))) (lf 15 (.inr (.inl 3)))))))
def tb_X3_isSort : Nat → Option AI := (nd 1 (nd 0 (lf 0 (.inl (o_iload 0 1))) (lf 1 (.inl (o_iconst 0 2)))) (nd 2 (lf 2 (.inl (o_iconst 9 4))) (nd 4 (lf 4 (.inr (.inr (84, 3, 3, 9)))) (lf 7 (.inr (.inl 3))))))
def tb_X3_isThere : Nat → Option AI := (nd 3 (nd 1 (nd 0 (lf 0 (.inl (o_iload 1 1))) (lf 1 (.inl (o_iconst 0 2)))) (nd 2 (lf 2 (.inl (o_aload 0 3))) (lf 3 (.inl (o_getR 2 0 1 6))))) (nd 9 (nd 6 (lf 6 (.inl (o_getI 0 0 9))) (lf 9 (.inl (o_iconst 1 10)))) (nd 10 (lf 10 (.inl (o_isub 11))) (nd 11 (lf 11 (.inr (.inr (84, 3, 3, 9)))) (lf 14 (.inr (.inl 3)))))))
def tb_X3_howMany : Nat → Option AI := (nd 64 (nd 48 (nd 40 (nd 0 (lf 0 (.inl (o_iload 1 1))) (nd 1 (lf 1 (.inl (o_tsw 0 [40, 48, 56, 64, 72, 80] 88))) (lf 40 (.inl (o_aload 0 41))))) (nd 44 (nd 41 (lf 41 (.inl (o_getR 2 0 1 44))) (lf 44 (.inl (o_getI 0 0 47)))) (nd 47 (lf 47 (.inr (.inl 1))) (lf 48 (.inl (o_aload 0 49)))))) (nd 56 (nd 52 (nd 49 (lf 49 (.inl (o_getR 2 0 1 52))) (lf 52 (.inl (o_getI 0 1 55)))) (nd 55 (lf 55 (.inr (.inl 1))) (lf 56 (.inl (o_aload 0 57))))) (nd 60 (nd 57 (lf 57 (.inl (o_getR 2 0 1 60))) (lf 60 (.inr (.inr (25, 1, 3, 0))))) (nd 63 (lf 63 (.inr (.inl 1))) (lf 64 (.inl (o_aload 0 65))))))) (nd 79 (nd 71 (nd 65 (lf 65 (.inl (o_getR 2 0 1 68))) (nd 68 (lf 68 (.inr (.inr (26, 1, 3, 0)))) (lf 71 (.inr (.inl 1))))) (nd 73 (nd 72 (lf 72 (.inl (o_aload 0 73))) (lf 73 (.inl (o_getR 2 0 1 76)))) (nd 76 (lf 76 (.inl (o_getI 0 2 79))) (lf 79 (.inr (.inl 1)))))) (nd 87 (nd 81 (nd 80 (lf 80 (.inl (o_aload 0 81))) (lf 81 (.inl (o_getR 2 0 1 84)))) (nd 84 (lf 84 (.inl (o_getI 0 3 87))) (lf 87 (.inr (.inl 1))))) (nd 89 (nd 88 (lf 88 (.inl (o_aload 0 89))) (lf 89 (.inl (o_getR 2 6 37 92)))) (nd 92 (lf 92 (.inl (o_getI 1 1 95))) (lf 95 (.inr (.inl 1))))))))
def tb_X3_findBest : Nat → Option AI := (nd 55 (nd 23 (nd 12 (nd 5 (nd 1 (nd 0 (lf 0 (.inl (o_iconst 1 1))) (lf 1 (.inl (o_aload 0 2)))) (nd 2 (lf 2 (.inl (o_getR 2 0 1 5))) (lf 5 (.inl (o_getI 0 0 8))))) (nd 9 (nd 8 (lf 8 (.inl (o_ishl 9))) (lf 9 (.inl (o_iconst 1 10)))) (nd 10 (lf 10 (.inl (o_isub 11))) (nd 11 (lf 11 (.inl (o_istore 1 12))) (lf 12 (.inl (o_aload 0 13))))))) (nd 18 (nd 16 (nd 13 (lf 13 (.inl (o_getR 2 7 39 16))) (lf 16 (.inl (o_iload 1 17)))) (nd 17 (lf 17 (.inl (o_iconst 0 18))) (lf 18 (.inl (o_iast 19))))) (nd 20 (nd 19 (lf 19 (.inl (o_iload 1 20))) (lf 20 (.inl (o_iconst 1 21)))) (nd 21 (lf 21 (.inl (o_isub 22))) (nd 22 (lf 22 (.inl (o_istore 2 23))) (lf 23 (.inl (o_iload 2 24)))))))) (nd 38 (nd 31 (nd 27 (nd 24 (lf 24 (.inl (o_iflt 122 27))) (lf 27 (.inl (o_iload 2 28)))) (nd 28 (lf 28 (.inr (.inr (182, 1, 1, 9)))) (lf 31 (.inl (o_istore 3 32))))) (nd 33 (nd 32 (lf 32 (.inl (o_iconst (-1) 33))) (lf 33 (.inl (o_istore 4 35)))) (nd 35 (lf 35 (.inl (o_iconst 0 36))) (nd 36 (lf 36 (.inl (o_istore 5 38))) (lf 38 (.inl (o_iload 5 40))))))) (nd 47 (nd 41 (nd 40 (lf 40 (.inl (o_aload 0 41))) (lf 41 (.inl (o_getR 2 0 1 44)))) (nd 44 (lf 44 (.inl (o_getI 0 0 47))) (lf 47 (.inl (o_icge 108 50))))) (nd 51 (nd 50 (lf 50 (.inl (o_iload 2 51))) (lf 51 (.inl (o_iload 5 53)))) (nd 53 (lf 53 (.inl (o_ishr 54))) (nd 54 (lf 54 (.inl (o_iconst 1 55))) (lf 55 (.inl (o_iand 56))))))))) (nd 85 (nd 73 (nd 63 (nd 59 (nd 56 (lf 56 (.inl (o_ifne 102 59))) (lf 59 (.inl (o_aload 0 60)))) (nd 60 (lf 60 (.inl (o_getR 2 0 1 63))) (lf 63 (.inl (o_iload 3 64))))) (nd 66 (nd 64 (lf 64 (.inl (o_iload 5 66))) (lf 66 (.inr (.inr (11, 3, 3, 0))))) (nd 69 (lf 69 (.inl (o_aload 0 70))) (nd 70 (lf 70 (.inl (o_getR 2 7 39 73))) (lf 73 (.inl (o_iload 2 74))))))) (nd 78 (nd 75 (nd 74 (lf 74 (.inl (o_iconst 1 75))) (lf 75 (.inl (o_iload 5 77)))) (nd 77 (lf 77 (.inl (o_ishl 78))) (lf 78 (.inl (o_ior 79))))) (nd 80 (nd 79 (lf 79 (.inl (o_iald 4 80))) (lf 80 (.inl (o_iadd 81)))) (nd 81 (lf 81 (.inl (o_istore 6 83))) (nd 83 (lf 83 (.inl (o_iload 6 85))) (lf 85 (.inl (o_iload 4 87)))))))) (nd 102 (nd 94 (nd 90 (nd 87 (lf 87 (.inl (o_icle 102 90))) (lf 90 (.inl (o_iload 6 92)))) (nd 92 (lf 92 (.inl (o_istore 4 94))) (lf 94 (.inl (o_aload 0 95))))) (nd 98 (nd 95 (lf 95 (.inl (o_getR 2 8 40 98))) (lf 98 (.inl (o_iload 2 99)))) (nd 99 (lf 99 (.inl (o_iload 5 101))) (nd 101 (lf 101 (.inl (o_iast 102))) (lf 102 (.inl (o_iinc 5 1 105))))))) (nd 112 (nd 108 (nd 105 (lf 105 (.inl (o_goto 38))) (lf 108 (.inl (o_aload 0 109)))) (nd 109 (lf 109 (.inl (o_getR 2 7 39 112))) (lf 112 (.inl (o_iload 2 113))))) (nd 115 (nd 113 (lf 113 (.inl (o_iload 4 115))) (lf 115 (.inl (o_iast 116)))) (nd 116 (lf 116 (.inl (o_iinc 2 (-1) 119))) (nd 119 (lf 119 (.inl (o_goto 23))) (lf 122 (.inr (.inl 0))))))))))
def tb_X3_bestVoiceOf : Nat → Option AI := (nd 12 (nd 4 (nd 1 (nd 0 (lf 0 (.inl (o_iconst 0 1))) (lf 1 (.inl (o_istore 2 2)))) (nd 2 (lf 2 (.inl (o_iconst 0 3))) (nd 3 (lf 3 (.inl (o_istore 3 4))) (lf 4 (.inl (o_iload 3 5)))))) (nd 9 (nd 5 (lf 5 (.inl (o_iload 1 6))) (nd 6 (lf 6 (.inl (o_icge 26 9))) (lf 9 (.inl (o_iload 2 10))))) (nd 10 (lf 10 (.inl (o_iconst 1 11))) (nd 11 (lf 11 (.inl (o_aload 0 12))) (lf 12 (.inl (o_getR 2 8 40 15))))))) (nd 20 (nd 17 (nd 15 (lf 15 (.inl (o_iload 2 16))) (nd 16 (lf 16 (.inl (o_iald 4 17))) (lf 17 (.inl (o_ishl 18))))) (nd 18 (lf 18 (.inl (o_ior 19))) (nd 19 (lf 19 (.inl (o_istore 2 20))) (lf 20 (.inl (o_iinc 3 1 23)))))) (nd 27 (nd 23 (lf 23 (.inl (o_goto 4))) (nd 26 (lf 26 (.inl (o_aload 0 27))) (lf 27 (.inl (o_getR 2 8 40 30))))) (nd 30 (lf 30 (.inl (o_iload 2 31))) (nd 31 (lf 31 (.inl (o_iald 4 32))) (lf 32 (.inr (.inl 1))))))))
def tb_X3_isContent : Nat → Option AI := (nd 13 (nd 4 (nd 1 (nd 0 (lf 0 (.inl (o_iload 1 1))) (lf 1 (.inl (o_iconst 1 2)))) (nd 2 (lf 2 (.inl (o_isub 3))) (nd 3 (lf 3 (.inl (o_istore 3 4))) (lf 4 (.inl (o_iload 0 5)))))) (nd 8 (nd 5 (lf 5 (.inl (o_ifeq 21 8))) (lf 8 (.inl (o_iload 3 9)))) (nd 9 (lf 9 (.inl (o_iload 2 10))) (nd 10 (lf 10 (.inl (o_iclt 17 13))) (lf 13 (.inl (o_iconst 1 14))))))) (nd 22 (nd 17 (nd 14 (lf 14 (.inl (o_goto 31))) (lf 17 (.inl (o_iconst 0 18)))) (nd 18 (lf 18 (.inl (o_goto 31))) (nd 21 (lf 21 (.inl (o_iload 2 22))) (lf 22 (.inl (o_iload 3 23)))))) (nd 26 (nd 23 (lf 23 (.inl (o_iclt 30 26))) (lf 26 (.inl (o_iconst 1 27)))) (nd 27 (lf 27 (.inl (o_goto 31))) (nd 30 (lf 30 (.inl (o_iconst 0 31))) (lf 31 (.inr (.inl 3))))))))
def tb_X3_power : Nat → Option AI := (nd 11 (nd 3 (nd 1 (nd 0 (lf 0 (.inl (o_lconst 1 1))) (lf 1 (.inl (o_lstore 2 2)))) (nd 2 (lf 2 (.inl (o_iconst 0 3))) (lf 3 (.inl (o_istore 4 5))))) (nd 7 (nd 5 (lf 5 (.inl (o_iload 4 7))) (lf 7 (.inl (o_iload 1 8)))) (nd 8 (lf 8 (.inl (o_icge 22 11))) (lf 11 (.inl (o_lload 2 12)))))) (nd 15 (nd 13 (nd 12 (lf 12 (.inl (o_iload 0 13))) (lf 13 (.inl (o_i2l 14)))) (nd 14 (lf 14 (.inl (o_lmul 15))) (lf 15 (.inl (o_lstore 2 16))))) (nd 19 (nd 16 (lf 16 (.inl (o_iinc 4 1 19))) (lf 19 (.inl (o_goto 5)))) (nd 22 (lf 22 (.inl (o_lload 2 23))) (lf 23 (.inr (.inl 2)))))))
def tb_X3_setFraction : Nat → Option AI := (nd 14 (nd 5 (nd 1 (nd 0 (lf 0 (.inl (o_lload 1 1))) (lf 1 (.inl (o_lload 3 2)))) (nd 2 (lf 2 (.inr (.inr (93, 2, 7, 9)))) (lf 5 (.inl (o_lstore 5 7))))) (nd 9 (nd 7 (lf 7 (.inl (o_lload 5 9))) (lf 9 (.inl (o_lconst 0 10)))) (nd 10 (lf 10 (.inl (o_lcmp 11))) (nd 11 (lf 11 (.inl (o_ifle 30 14))) (lf 14 (.inl (o_aload 0 15))))))) (nd 22 (nd 16 (nd 15 (lf 15 (.inl (o_lload 1 16))) (lf 16 (.inl (o_lload 5 18)))) (nd 18 (lf 18 (.inl (o_ldiv 19))) (nd 19 (lf 19 (.inl (o_putJ 2 9 22))) (lf 22 (.inl (o_aload 0 23)))))) (nd 24 (nd 23 (lf 23 (.inl (o_lload 3 24))) (lf 24 (.inl (o_lload 5 26)))) (nd 26 (lf 26 (.inl (o_ldiv 27))) (nd 27 (lf 27 (.inl (o_putJ 2 10 30))) (lf 30 (.inr (.inl 0))))))))
def tb_X3_greatestCommonDivisor : Nat → Option AI := (nd 16 (nd 7 (nd 1 (nd 0 (lf 0 (.inl (o_iconst 0 1))) (lf 1 (.inl (o_istore 4 3)))) (nd 3 (lf 3 (.inl (o_iload 4 5))) (nd 5 (lf 5 (.inl (o_iconst 100 7))) (lf 7 (.inl (o_icge 32 10)))))) (nd 11 (nd 10 (lf 10 (.inl (o_lload 2 11))) (lf 11 (.inl (o_lconst 0 12)))) (nd 12 (lf 12 (.inl (o_lcmp 13))) (nd 13 (lf 13 (.inl (o_ifeq 32 16))) (lf 16 (.inl (o_lload 0 17))))))) (nd 22 (nd 18 (nd 17 (lf 17 (.inl (o_lload 2 18))) (lf 18 (.inl (o_lrem 19)))) (nd 19 (lf 19 (.inl (o_lstore 5 21))) (nd 21 (lf 21 (.inl (o_lload 2 22))) (lf 22 (.inl (o_lstore 0 23)))))) (nd 26 (nd 23 (lf 23 (.inl (o_lload 5 25))) (nd 25 (lf 25 (.inl (o_lstore 2 26))) (lf 26 (.inl (o_iinc 4 1 29))))) (nd 29 (lf 29 (.inl (o_goto 3))) (nd 32 (lf 32 (.inl (o_lload 0 33))) (lf 33 (.inr (.inl 2))))))))
def tb_X3_nextOfSeed : Nat → Option AI := (nd 5 (nd 1 (nd 0 (lf 0 (.inl (o_lload 0 1))) (lf 1 (.inl (o_lconst 1103515245 4)))) (nd 4 (lf 4 (.inl (o_lmul 5))) (lf 5 (.inl (o_lconst 12345 8))))) (nd 9 (nd 8 (lf 8 (.inl (o_ladd 9))) (lf 9 (.inl (o_lconst 2147483648 12)))) (nd 12 (lf 12 (.inl (o_lrem 13))) (lf 13 (.inr (.inl 2))))))
def tb_X4_bad : Nat → Option AI := (nd 6 (nd 1 (nd 0 (lf 0 (.inl (o_aload 0 1))) (lf 1 (.inl (o_getR 3 0 1 4)))) (nd 4 (lf 4 (.inl (o_iconst 0 5))) (nd 5 (lf 5 (.inl (o_dup2 6))) (lf 6 (.inl (o_iald 4 7)))))) (nd 8 (nd 7 (lf 7 (.inl (o_iconst 1 8))) (lf 8 (.inl (o_iadd 9)))) (nd 9 (lf 9 (.inl (o_iast 10))) (nd 10 (lf 10 (.inl (o_iconst (-2) 12))) (lf 12 (.inr (.inl 1)))))))
def tb_X4_ten : Nat → Option AI := (nd 6 (nd 1 (nd 0 (lf 0 (.inl (o_aload 0 1))) (lf 1 (.inl (o_getR 3 0 1 4)))) (nd 4 (lf 4 (.inl (o_iconst 0 5))) (nd 5 (lf 5 (.inl (o_dup2 6))) (lf 6 (.inl (o_iald 4 7)))))) (nd 8 (nd 7 (lf 7 (.inl (o_iconst 1 8))) (lf 8 (.inl (o_iadd 9)))) (nd 9 (lf 9 (.inl (o_iast 10))) (nd 10 (lf 10 (.inl (o_iconst (-10) 12))) (lf 12 (.inr (.inl 1)))))))
def tb_X4_no : Nat → Option AI := (nd 6 (nd 1 (nd 0 (lf 0 (.inl (o_aload 0 1))) (lf 1 (.inl (o_getR 3 0 1 4)))) (nd 4 (lf 4 (.inl (o_iconst 1 5))) (nd 5 (lf 5 (.inl (o_dup2 6))) (lf 6 (.inl (o_iald 4 7)))))) (nd 8 (nd 7 (lf 7 (.inl (o_iconst 1 8))) (lf 8 (.inl (o_iadd 9)))) (nd 9 (lf 9 (.inl (o_iast 10))) (nd 10 (lf 10 (.inl (o_iconst (-3) 12))) (lf 12 (.inr (.inl 1)))))))
def tb_X4_full : Nat → Option AI := (nd 6 (nd 1 (nd 0 (lf 0 (.inl (o_aload 0 1))) (lf 1 (.inl (o_getR 3 0 1 4)))) (nd 4 (lf 4 (.inl (o_iconst 2 5))) (nd 5 (lf 5 (.inl (o_dup2 6))) (lf 6 (.inl (o_iald 4 7)))))) (nd 8 (nd 7 (lf 7 (.inl (o_iconst 1 8))) (lf 8 (.inl (o_iadd 9)))) (nd 9 (lf 9 (.inl (o_iast 10))) (nd 10 (lf 10 (.inl (o_iconst (-4) 12))) (lf 12 (.inr (.inl 1)))))))
def tb_X4_in : Nat → Option AI := (nd 6 (nd 1 (nd 0 (lf 0 (.inl (o_iload 0 1))) (lf 1 (.inl (o_iload 1 2)))) (nd 2 (lf 2 (.inl (o_iclt 14 5))) (nd 5 (lf 5 (.inl (o_iload 0 6))) (lf 6 (.inl (o_iload 2 7)))))) (nd 10 (nd 7 (lf 7 (.inl (o_icgt 14 10))) (lf 10 (.inl (o_iconst 1 11)))) (nd 11 (lf 11 (.inl (o_goto 15))) (nd 14 (lf 14 (.inl (o_iconst 0 15))) (lf 15 (.inr (.inl 3)))))))
def tb_X4_has : Nat → Option AI := (nd 4 (nd 1 (nd 0 (lf 0 (.inl (o_iload 0 1))) (lf 1 (.inl (o_iload 1 2)))) (nd 2 (lf 2 (.inl (o_ishr 3))) (nd 3 (lf 3 (.inl (o_iconst 1 4))) (lf 4 (.inl (o_iand 5)))))) (nd 9 (nd 5 (lf 5 (.inl (o_iconst 1 6))) (nd 6 (lf 6 (.inl (o_icne 13 9))) (lf 9 (.inl (o_iconst 1 10))))) (nd 10 (lf 10 (.inl (o_goto 14))) (nd 13 (lf 13 (.inl (o_iconst 0 14))) (lf 14 (.inr (.inl 3)))))))
def tb_X4_begin : Nat → Option AI := (nd 7 (nd 2 (nd 0 (lf 0 (.inl (o_aload 0 1))) (nd 1 (lf 1 (.inl (o_iconst 0 2))) (lf 2 (.inl (o_putI 3 1 5))))) (nd 5 (lf 5 (.inl (o_aload 0 6))) (nd 6 (lf 6 (.inl (o_iconst 0 7))) (lf 7 (.inl (o_putI 3 2 10)))))) (nd 12 (nd 10 (lf 10 (.inl (o_aload 0 11))) (nd 11 (lf 11 (.inl (o_iconst 0 12))) (lf 12 (.inl (o_putI 3 3 15))))) (nd 16 (nd 15 (lf 15 (.inl (o_aload 0 16))) (lf 16 (.inl (o_iconst 0 17)))) (nd 17 (lf 17 (.inl (o_putI 3 23 20))) (lf 20 (.inr (.inl 0)))))))
def tb_X4_isOne : Nat → Option AI := (nd 3 (nd 1 (nd 0 (lf 0 (.inl (o_iload 1 1))) (lf 1 (.inl (o_iconst 0 2)))) (nd 2 (lf 2 (.inl (o_aload 0 3))) (lf 3 (.inl (o_getI 3 1 6))))) (nd 7 (nd 6 (lf 6 (.inl (o_iconst 1 7))) (lf 7 (.inl (o_isub 8)))) (nd 8 (lf 8 (.inr (.inr (99, 3, 3, 9)))) (lf 11 (.inr (.inl 3))))))
def tb_X4_counter : Nat → Option AI := (nd 4 (nd 0 (lf 0 (.inl (o_aload 0 1))) (nd 1 (lf 1 (.inl (o_getI 3 1 4))) (lf 4 (.inl (o_istore 1 5))))) (nd 6 (nd 5 (lf 5 (.inl (o_aload 0 6))) (lf 6 (.inr (.inr (101, 1, 1, 3))))) (nd 9 (lf 9 (.inl (o_iload 1 10))) (lf 10 (.inr (.inl 1))))))
def tb_X4_addOne : Nat → Option AI := (nd 42 (nd 19 (nd 9 (nd 4 (nd 0 (lf 0 (.inl (o_aload 0 1))) (nd 1 (lf 1 (.inl (o_getR 3 4 2 4))) (lf 4 (.inl (o_aload 0 5))))) (nd 5 (lf 5 (.inl (o_getI 3 1 8))) (nd 8 (lf 8 (.inl (o_iload 1 9))) (lf 9 (.inl (o_iast 10)))))) (nd 14 (nd 10 (lf 10 (.inl (o_aload 0 11))) (nd 11 (lf 11 (.inl (o_getR 3 5 3 14))) (lf 14 (.inl (o_aload 0 15))))) (nd 15 (lf 15 (.inl (o_getI 3 1 18))) (nd 18 (lf 18 (.inl (o_iload 2 19))) (lf 19 (.inl (o_iast 20))))))) (nd 29 (nd 24 (nd 20 (lf 20 (.inl (o_aload 0 21))) (nd 21 (lf 21 (.inl (o_getR 3 6 4 24))) (lf 24 (.inl (o_aload 0 25))))) (nd 25 (lf 25 (.inl (o_getI 3 1 28))) (nd 28 (lf 28 (.inl (o_iload 3 29))) (lf 29 (.inl (o_iast 30)))))) (nd 34 (nd 30 (lf 30 (.inl (o_aload 0 31))) (nd 31 (lf 31 (.inl (o_getR 3 7 5 34))) (lf 34 (.inl (o_aload 0 35))))) (nd 38 (nd 35 (lf 35 (.inl (o_getI 3 1 38))) (lf 38 (.inl (o_aload 0 39)))) (nd 39 (lf 39 (.inl (o_getI 3 1 42))) (lf 42 (.inl (o_iast 43)))))))) (nd 63 (nd 52 (nd 47 (nd 43 (lf 43 (.inl (o_aload 0 44))) (nd 44 (lf 44 (.inl (o_getR 3 8 6 47))) (lf 47 (.inl (o_aload 0 48))))) (nd 48 (lf 48 (.inl (o_getI 3 1 51))) (nd 51 (lf 51 (.inl (o_iconst 0 52))) (lf 52 (.inl (o_iast 53)))))) (nd 57 (nd 53 (lf 53 (.inl (o_aload 0 54))) (nd 54 (lf 54 (.inl (o_getR 3 9 7 57))) (lf 57 (.inl (o_aload 0 58))))) (nd 61 (nd 58 (lf 58 (.inl (o_getI 3 1 61))) (lf 61 (.inl (o_iconst 0 62)))) (nd 62 (lf 62 (.inl (o_iast 63))) (lf 63 (.inl (o_aload 0 64))))))) (nd 73 (nd 68 (nd 64 (lf 64 (.inl (o_dup 65))) (nd 65 (lf 65 (.inl (o_getI 3 1 68))) (lf 68 (.inl (o_iconst 1 69))))) (nd 69 (lf 69 (.inl (o_iadd 70))) (nd 70 (lf 70 (.inl (o_putI 3 1 73))) (lf 73 (.inl (o_aload 0 74)))))) (nd 78 (nd 74 (lf 74 (.inl (o_iconst 0 75))) (nd 75 (lf 75 (.inl (o_putI 3 23 78))) (lf 78 (.inl (o_aload 0 79))))) (nd 82 (nd 79 (lf 79 (.inl (o_getI 3 1 82))) (lf 82 (.inl (o_iconst 1 83)))) (nd 83 (lf 83 (.inl (o_isub 84))) (lf 84 (.inr (.inl 1)))))))))
def tb_X4_one : Nat → Option AI := (nd 26 (nd 10 (nd 2 (nd 0 (lf 0 (.inl (o_iload 1 1))) (nd 1 (lf 1 (.inl (o_iconst 0 2))) (lf 2 (.inl (o_iconst 5 3))))) (nd 6 (nd 3 (lf 3 (.inr (.inr (99, 3, 3, 9)))) (lf 6 (.inl (o_ifeq 29 9)))) (nd 9 (lf 9 (.inl (o_iload 2 10))) (lf 10 (.inl (o_iconst 0 11)))))) (nd 19 (nd 13 (nd 11 (lf 11 (.inl (o_iconst 9 13))) (lf 13 (.inr (.inr (99, 3, 3, 9))))) (nd 16 (lf 16 (.inl (o_ifeq 29 19))) (lf 19 (.inl (o_iload 3 20))))) (nd 21 (nd 20 (lf 20 (.inl (o_iconst 0 21))) (lf 21 (.inl (o_iconst 9 23)))) (nd 23 (lf 23 (.inr (.inr (99, 3, 3, 9)))) (lf 26 (.inl (o_ifne 34 29))))))) (nd 43 (nd 34 (nd 30 (nd 29 (lf 29 (.inl (o_aload 0 30))) (lf 30 (.inr (.inr (95, 1, 1, 3))))) (nd 33 (lf 33 (.inr (.inl 1))) (lf 34 (.inl (o_aload 0 35))))) (nd 38 (nd 35 (lf 35 (.inl (o_getI 3 1 38))) (lf 38 (.inl (o_iconst 6 40)))) (nd 40 (lf 40 (.inl (o_icne 50 43))) (lf 43 (.inl (o_aload 0 44)))))) (nd 51 (nd 47 (nd 44 (lf 44 (.inr (.inr (98, 1, 1, 3)))) (lf 47 (.inl (o_goto 57)))) (nd 50 (lf 50 (.inl (o_aload 0 51))) (lf 51 (.inl (o_iload 1 52))))) (nd 53 (nd 52 (lf 52 (.inl (o_iload 2 53))) (lf 53 (.inl (o_iload 3 54)))) (nd 54 (lf 54 (.inr (.inr (104, 4, 4, 3)))) (lf 57 (.inr (.inl 1))))))))
def tb_X4_type : Nat → Option AI := (nd 29 (nd 11 (nd 2 (nd 0 (lf 0 (.inl (o_iload 1 1))) (nd 1 (lf 1 (.inl (o_iconst 0 2))) (lf 2 (.inl (o_iconst 127 4))))) (nd 7 (nd 4 (lf 4 (.inr (.inr (99, 3, 3, 9)))) (lf 7 (.inl (o_ifne 15 10)))) (nd 10 (lf 10 (.inl (o_aload 0 11))) (lf 11 (.inr (.inr (95, 1, 1, 3))))))) (nd 19 (nd 15 (nd 14 (lf 14 (.inr (.inl 1))) (lf 15 (.inl (o_aload 0 16)))) (nd 16 (lf 16 (.inl (o_getI 3 16 19))) (lf 19 (.inl (o_iconst 150 22))))) (nd 25 (nd 22 (lf 22 (.inl (o_icne 30 25))) (lf 25 (.inl (o_aload 0 26)))) (nd 26 (lf 26 (.inr (.inr (98, 1, 1, 3)))) (lf 29 (.inr (.inl 1))))))) (nd 40 (nd 34 (nd 30 (lf 30 (.inl (o_aload 0 31))) (nd 31 (lf 31 (.inl (o_getR 3 15 13 34))) (lf 34 (.inl (o_aload 0 35))))) (nd 38 (nd 35 (lf 35 (.inl (o_getI 3 16 38))) (lf 38 (.inl (o_iload 1 39)))) (nd 39 (lf 39 (.inl (o_iast 40))) (lf 40 (.inl (o_aload 0 41)))))) (nd 46 (nd 42 (nd 41 (lf 41 (.inl (o_dup 42))) (lf 42 (.inl (o_getI 3 16 45)))) (nd 45 (lf 45 (.inl (o_iconst 1 46))) (lf 46 (.inl (o_iadd 47))))) (nd 50 (nd 47 (lf 47 (.inl (o_putI 3 16 50))) (lf 50 (.inl (o_aload 0 51)))) (nd 51 (lf 51 (.inl (o_getI 3 16 54))) (lf 54 (.inr (.inl 1))))))))
def tb_X4_clear : Nat → Option AI := (nd 5 (nd 1 (nd 0 (lf 0 (.inl (o_aload 0 1))) (lf 1 (.inl (o_getI 3 16 4)))) (nd 4 (lf 4 (.inl (o_istore 1 5))) (lf 5 (.inl (o_aload 0 6))))) (nd 7 (nd 6 (lf 6 (.inl (o_iconst 0 7))) (lf 7 (.inl (o_putI 3 16 10)))) (nd 10 (lf 10 (.inl (o_iload 1 11))) (lf 11 (.inr (.inl 1))))))
def tb_X4_here : Nat → Option AI := (nd 11 (nd 4 (nd 0 (lf 0 (.inl (o_aload 0 1))) (nd 1 (lf 1 (.inl (o_getI 3 17 4))) (lf 4 (.inl (o_aload 0 5))))) (nd 5 (lf 5 (.inl (o_getI 3 16 8))) (nd 8 (lf 8 (.inl (o_icge 23 11))) (lf 11 (.inl (o_aload 0 12)))))) (nd 16 (nd 12 (lf 12 (.inl (o_getR 3 15 13 15))) (nd 15 (lf 15 (.inl (o_aload 0 16))) (lf 16 (.inl (o_getI 3 17 19))))) (nd 20 (nd 19 (lf 19 (.inl (o_iald 4 20))) (lf 20 (.inl (o_goto 24)))) (nd 23 (lf 23 (.inl (o_iconst (-1) 24))) (lf 24 (.inr (.inl 1)))))))
def tb_X4_skip : Nat → Option AI := (nd 10 (nd 4 (nd 0 (lf 0 (.inl (o_aload 0 1))) (nd 1 (lf 1 (.inr (.inr (108, 1, 1, 3)))) (lf 4 (.inl (o_iconst 32 6))))) (nd 6 (lf 6 (.inl (o_icne 22 9))) (nd 9 (lf 9 (.inl (o_aload 0 10))) (lf 10 (.inl (o_dup 11)))))) (nd 15 (nd 11 (lf 11 (.inl (o_getI 3 17 14))) (nd 14 (lf 14 (.inl (o_iconst 1 15))) (lf 15 (.inl (o_iadd 16))))) (nd 16 (lf 16 (.inl (o_putI 3 17 19))) (nd 19 (lf 19 (.inl (o_goto 0))) (lf 22 (.inr (.inl 0)))))))
def tb_X4_isLetter : Nat → Option AI := (nd 1 (nd 0 (lf 0 (.inl (o_iload 0 1))) (lf 1 (.inl (o_iconst 97 3)))) (nd 3 (lf 3 (.inl (o_iconst 122 5))) (nd 5 (lf 5 (.inr (.inr (99, 3, 3, 9)))) (lf 8 (.inr (.inl 3))))))
def tb_X4_isFigure : Nat → Option AI := (nd 1 (nd 0 (lf 0 (.inl (o_iload 0 1))) (lf 1 (.inl (o_iconst 48 3)))) (nd 3 (lf 3 (.inl (o_iconst 57 5))) (nd 5 (lf 5 (.inr (.inr (99, 3, 3, 9)))) (lf 8 (.inr (.inl 3))))))
def tb_X4_wordSize : Nat → Option AI := (nd 16 (nd 6 (nd 1 (nd 0 (lf 0 (.inl (o_iconst 0 1))) (lf 1 (.inl (o_istore 1 2)))) (nd 2 (lf 2 (.inl (o_aload 0 3))) (nd 3 (lf 3 (.inl (o_getI 3 17 6))) (lf 6 (.inl (o_iload 1 7)))))) (nd 9 (nd 7 (lf 7 (.inl (o_iadd 8))) (nd 8 (lf 8 (.inl (o_aload 0 9))) (lf 9 (.inl (o_getI 3 16 12))))) (nd 12 (lf 12 (.inl (o_icge 38 15))) (nd 15 (lf 15 (.inl (o_aload 0 16))) (lf 16 (.inl (o_getR 3 15 13 19))))))) (nd 25 (nd 20 (nd 19 (lf 19 (.inl (o_aload 0 20))) (lf 20 (.inl (o_getI 3 17 23)))) (nd 23 (lf 23 (.inl (o_iload 1 24))) (nd 24 (lf 24 (.inl (o_iadd 25))) (lf 25 (.inl (o_iald 4 26)))))) (nd 32 (nd 26 (lf 26 (.inr (.inr (110, 1, 1, 9)))) (nd 29 (lf 29 (.inl (o_ifeq 38 32))) (lf 32 (.inl (o_iinc 1 1 35))))) (nd 35 (lf 35 (.inl (o_goto 2))) (nd 38 (lf 38 (.inl (o_iload 1 39))) (lf 39 (.inr (.inl 1))))))))
def tb_X4_letter : Nat → Option AI := (nd 5 (nd 1 (nd 0 (lf 0 (.inl (o_aload 0 1))) (lf 1 (.inl (o_getR 3 15 13 4)))) (nd 4 (lf 4 (.inl (o_aload 0 5))) (lf 5 (.inl (o_getI 3 17 8))))) (nd 9 (nd 8 (lf 8 (.inl (o_iload 1 9))) (lf 9 (.inl (o_iadd 10)))) (nd 10 (lf 10 (.inl (o_iald 4 11))) (lf 11 (.inr (.inl 1))))))
def tb_X4_spells : Nat → Option AI := (nd 19 (nd 9 (nd 2 (nd 0 (lf 0 (.inl (o_aload 0 1))) (nd 1 (lf 1 (.inl (o_iconst 0 2))) (lf 2 (.inr (.inr (113, 2, 2, 3)))))) (nd 5 (lf 5 (.inl (o_iload 1 6))) (nd 6 (lf 6 (.inl (o_icne 41 9))) (lf 9 (.inl (o_aload 0 10)))))) (nd 14 (nd 10 (lf 10 (.inl (o_iconst 1 11))) (nd 11 (lf 11 (.inr (.inr (113, 2, 2, 3)))) (lf 14 (.inl (o_iload 2 15))))) (nd 15 (lf 15 (.inl (o_icne 41 18))) (nd 18 (lf 18 (.inl (o_aload 0 19))) (lf 19 (.inl (o_iconst 2 20))))))) (nd 29 (nd 24 (nd 20 (lf 20 (.inr (.inr (113, 2, 2, 3)))) (nd 23 (lf 23 (.inl (o_iload 3 24))) (lf 24 (.inl (o_icne 41 27))))) (nd 27 (lf 27 (.inl (o_aload 0 28))) (nd 28 (lf 28 (.inl (o_iconst 3 29))) (lf 29 (.inr (.inr (113, 2, 2, 3))))))) (nd 37 (nd 32 (lf 32 (.inl (o_iload 4 34))) (nd 34 (lf 34 (.inl (o_icne 41 37))) (lf 37 (.inl (o_iconst 1 38))))) (nd 38 (lf 38 (.inl (o_goto 42))) (nd 41 (lf 41 (.inl (o_iconst 0 42))) (lf 42 (.inr (.inl 3))))))))
def tb_X4_wordHere : Nat → Option AI := (nd 75 (nd 37 (nd 16 (nd 6 (nd 1 (nd 0 (lf 0 (.inl (o_aload 0 1))) (lf 1 (.inr (.inr (112, 1, 2, 3))))) (nd 4 (lf 4 (.inl (o_istore 1 5))) (nd 5 (lf 5 (.inl (o_iload 1 6))) (lf 6 (.inl (o_iconst 7 8)))))) (nd 11 (nd 8 (lf 8 (.inl (o_icne 59 11))) (lf 11 (.inl (o_aload 0 12)))) (nd 12 (lf 12 (.inl (o_iconst 99 14))) (nd 14 (lf 14 (.inl (o_iconst 111 16))) (lf 16 (.inl (o_iconst 117 18))))))) (nd 27 (nd 20 (nd 18 (lf 18 (.inl (o_iconst 110 20))) (lf 20 (.inr (.inr (114, 5, 5, 3))))) (nd 23 (lf 23 (.inl (o_ifeq 59 26))) (nd 26 (lf 26 (.inl (o_aload 0 27))) (lf 27 (.inl (o_iconst 4 28)))))) (nd 31 (nd 28 (lf 28 (.inr (.inr (113, 2, 2, 3)))) (lf 31 (.inl (o_iconst 116 33)))) (nd 33 (lf 33 (.inl (o_icne 59 36))) (nd 36 (lf 36 (.inl (o_aload 0 37))) (lf 37 (.inl (o_iconst 5 38)))))))) (nd 58 (nd 47 (nd 41 (nd 38 (lf 38 (.inr (.inr (113, 2, 2, 3)))) (lf 41 (.inl (o_iconst 101 43)))) (nd 43 (lf 43 (.inl (o_icne 59 46))) (nd 46 (lf 46 (.inl (o_aload 0 47))) (lf 47 (.inl (o_iconst 6 49)))))) (nd 52 (nd 49 (lf 49 (.inr (.inr (113, 2, 2, 3)))) (lf 52 (.inl (o_iconst 114 54)))) (nd 54 (lf 54 (.inl (o_icne 59 57))) (nd 57 (lf 57 (.inl (o_iconst 0 58))) (lf 58 (.inr (.inl 1))))))) (nd 65 (nd 60 (nd 59 (lf 59 (.inl (o_iload 1 60))) (lf 60 (.inl (o_iconst 3 61)))) (nd 61 (lf 61 (.inl (o_icne 96 64))) (nd 64 (lf 64 (.inl (o_aload 0 65))) (lf 65 (.inl (o_iconst 0 66)))))) (nd 69 (nd 66 (lf 66 (.inr (.inr (113, 2, 2, 3)))) (lf 69 (.inl (o_iconst 111 71)))) (nd 71 (lf 71 (.inl (o_icne 96 74))) (nd 74 (lf 74 (.inl (o_aload 0 75))) (lf 75 (.inl (o_iconst 1 76))))))))) (nd 113 (nd 95 (nd 85 (nd 79 (nd 76 (lf 76 (.inr (.inr (113, 2, 2, 3)))) (lf 79 (.inl (o_iconst 110 81)))) (nd 81 (lf 81 (.inl (o_icne 96 84))) (nd 84 (lf 84 (.inl (o_aload 0 85))) (lf 85 (.inl (o_iconst 2 86)))))) (nd 89 (nd 86 (lf 86 (.inr (.inr (113, 2, 2, 3)))) (lf 89 (.inl (o_iconst 101 91)))) (nd 91 (lf 91 (.inl (o_icne 96 94))) (nd 94 (lf 94 (.inl (o_iconst 1 95))) (lf 95 (.inr (.inl 1))))))) (nd 102 (nd 97 (nd 96 (lf 96 (.inl (o_iload 1 97))) (lf 97 (.inl (o_iconst 5 98)))) (nd 98 (lf 98 (.inl (o_icne 128 101))) (nd 101 (lf 101 (.inl (o_aload 0 102))) (lf 102 (.inl (o_iconst 108 104)))))) (nd 106 (nd 104 (lf 104 (.inl (o_iconst 101 106))) (lf 106 (.inl (o_iconst 97 108)))) (nd 108 (lf 108 (.inl (o_iconst 118 110))) (nd 110 (lf 110 (.inr (.inr (114, 5, 5, 3)))) (lf 113 (.inl (o_ifeq 128 116)))))))) (nd 130 (nd 123 (nd 117 (nd 116 (lf 116 (.inl (o_aload 0 117))) (lf 117 (.inl (o_iconst 4 118)))) (nd 118 (lf 118 (.inr (.inr (113, 2, 2, 3)))) (nd 121 (lf 121 (.inl (o_iconst 101 123))) (lf 123 (.inl (o_icne 128 126)))))) (nd 127 (nd 126 (lf 126 (.inl (o_iconst 2 127))) (lf 127 (.inr (.inl 1)))) (nd 128 (lf 128 (.inl (o_iload 1 129))) (nd 129 (lf 129 (.inl (o_iconst 4 130))) (lf 130 (.inl (o_icne 152 133))))))) (nd 140 (nd 134 (nd 133 (lf 133 (.inl (o_aload 0 134))) (lf 134 (.inl (o_iconst 108 136)))) (nd 136 (lf 136 (.inl (o_iconst 101 138))) (nd 138 (lf 138 (.inl (o_iconst 110 140))) (lf 140 (.inl (o_iconst 100 142)))))) (nd 148 (nd 142 (lf 142 (.inr (.inr (114, 5, 5, 3)))) (nd 145 (lf 145 (.inl (o_ifeq 152 148))) (lf 148 (.inl (o_iconst 3 149))))) (nd 149 (lf 149 (.inl (o_goto 153))) (nd 152 (lf 152 (.inl (o_iconst (-1) 153))) (lf 153 (.inr (.inl 1))))))))))
def tb_X4_number : Nat → Option AI := (nd 57 (nd 26 (nd 10 (nd 5 (nd 1 (nd 0 (lf 0 (.inl (o_aload 0 1))) (lf 1 (.inr (.inr (109, 1, 1, 3))))) (nd 4 (lf 4 (.inl (o_iconst 0 5))) (lf 5 (.inl (o_istore 3 6))))) (nd 7 (nd 6 (lf 6 (.inl (o_iconst 0 7))) (lf 7 (.inl (o_istore 4 9)))) (nd 9 (lf 9 (.inl (o_aload 0 10))) (lf 10 (.inl (o_getI 3 17 13)))))) (nd 16 (nd 14 (nd 13 (lf 13 (.inl (o_iload 3 14))) (lf 14 (.inl (o_iadd 15)))) (nd 15 (lf 15 (.inl (o_aload 0 16))) (lf 16 (.inl (o_getI 3 16 19))))) (nd 22 (nd 19 (lf 19 (.inl (o_icge 77 22))) (lf 22 (.inl (o_aload 0 23)))) (nd 23 (lf 23 (.inl (o_getR 3 15 13 26))) (lf 26 (.inl (o_aload 0 27))))))) (nd 40 (nd 32 (nd 30 (nd 27 (lf 27 (.inl (o_getI 3 17 30))) (lf 30 (.inl (o_iload 3 31)))) (nd 31 (lf 31 (.inl (o_iadd 32))) (lf 32 (.inl (o_iald 4 33))))) (nd 36 (nd 33 (lf 33 (.inr (.inr (111, 1, 1, 9)))) (lf 36 (.inl (o_ifeq 77 39)))) (nd 39 (lf 39 (.inl (o_iload 3 40))) (lf 40 (.inl (o_iconst 2 41)))))) (nd 48 (nd 44 (nd 41 (lf 41 (.inl (o_icge 67 44))) (lf 44 (.inl (o_iconst 10 46)))) (nd 46 (lf 46 (.inl (o_iload 4 48))) (lf 48 (.inl (o_imul 49))))) (nd 50 (nd 49 (lf 49 (.inl (o_aload 0 50))) (lf 50 (.inl (o_getR 3 15 13 53)))) (nd 53 (lf 53 (.inl (o_aload 0 54))) (nd 54 (lf 54 (.inl (o_getI 3 17 57))) (lf 57 (.inl (o_iload 3 58))))))))) (nd 86 (nd 69 (nd 61 (nd 59 (nd 58 (lf 58 (.inl (o_iadd 59))) (lf 59 (.inl (o_iald 4 60)))) (nd 60 (lf 60 (.inl (o_iadd 61))) (lf 61 (.inl (o_iconst 48 63))))) (nd 64 (nd 63 (lf 63 (.inl (o_isub 64))) (lf 64 (.inl (o_goto 69)))) (nd 67 (lf 67 (.inl (o_iload 4 69))) (lf 69 (.inl (o_istore 4 71)))))) (nd 78 (nd 74 (nd 71 (lf 71 (.inl (o_iinc 3 1 74))) (lf 74 (.inl (o_goto 9)))) (nd 77 (lf 77 (.inl (o_iload 3 78))) (lf 78 (.inl (o_iconst 1 79))))) (nd 80 (nd 79 (lf 79 (.inl (o_iconst 2 80))) (lf 80 (.inr (.inr (99, 3, 3, 9))))) (nd 83 (lf 83 (.inl (o_ifeq 96 86))) (lf 86 (.inl (o_iload 4 88))))))) (nd 99 (nd 93 (nd 89 (nd 88 (lf 88 (.inl (o_iload 1 89))) (lf 89 (.inl (o_iload 2 90)))) (nd 90 (lf 90 (.inr (.inr (99, 3, 3, 9)))) (lf 93 (.inl (o_ifne 98 96))))) (nd 97 (nd 96 (lf 96 (.inl (o_iconst 0 97))) (lf 97 (.inr (.inl 3)))) (nd 98 (lf 98 (.inl (o_aload 0 99))) (lf 99 (.inl (o_iload 4 101)))))) (nd 106 (nd 104 (nd 101 (lf 101 (.inl (o_putI 3 21 104))) (lf 104 (.inl (o_aload 0 105)))) (nd 105 (lf 105 (.inl (o_dup 106))) (lf 106 (.inl (o_getI 3 17 109))))) (nd 110 (nd 109 (lf 109 (.inl (o_iload 3 110))) (lf 110 (.inl (o_iadd 111)))) (nd 111 (lf 111 (.inl (o_putI 3 17 114))) (nd 114 (lf 114 (.inl (o_iconst 1 115))) (lf 115 (.inr (.inl 3))))))))))
def tb_X4_ends : Nat → Option AI := (nd 14 (nd 5 (nd 1 (nd 0 (lf 0 (.inl (o_aload 0 1))) (lf 1 (.inr (.inr (109, 1, 1, 3))))) (nd 4 (lf 4 (.inl (o_aload 0 5))) (lf 5 (.inr (.inr (108, 1, 1, 3)))))) (nd 10 (nd 8 (lf 8 (.inl (o_iconst 59 10))) (lf 10 (.inl (o_iceq 15 13)))) (nd 13 (lf 13 (.inl (o_iconst 0 14))) (lf 14 (.inr (.inl 3)))))) (nd 20 (nd 16 (nd 15 (lf 15 (.inl (o_aload 0 16))) (lf 16 (.inl (o_dup 17)))) (nd 17 (lf 17 (.inl (o_getI 3 17 20))) (lf 20 (.inl (o_iconst 1 21))))) (nd 22 (nd 21 (lf 21 (.inl (o_iadd 22))) (lf 22 (.inl (o_putI 3 17 25)))) (nd 25 (lf 25 (.inl (o_iconst 1 26))) (lf 26 (.inr (.inl 3)))))))
def tb_X4_readsOne : Nat → Option AI := (nd 36 (nd 14 (nd 4 (nd 1 (nd 0 (lf 0 (.inl (o_iconst 0 1))) (lf 1 (.inl (o_istore 1 2)))) (nd 2 (lf 2 (.inl (o_iload 1 3))) (nd 3 (lf 3 (.inl (o_iconst 3 4))) (lf 4 (.inl (o_icge 50 7)))))) (nd 9 (nd 7 (lf 7 (.inl (o_aload 0 8))) (nd 8 (lf 8 (.inl (o_iconst 0 9))) (lf 9 (.inl (o_iload 1 10))))) (nd 10 (lf 10 (.inl (o_ifne 17 13))) (nd 13 (lf 13 (.inl (o_iconst 5 14))) (lf 14 (.inl (o_goto 19))))))) (nd 26 (nd 19 (nd 17 (lf 17 (.inl (o_iconst 9 19))) (lf 19 (.inr (.inr (116, 3, 5, 3))))) (nd 22 (lf 22 (.inl (o_ifne 27 25))) (nd 25 (lf 25 (.inl (o_iconst 0 26))) (lf 26 (.inr (.inl 3)))))) (nd 31 (nd 27 (lf 27 (.inl (o_aload 0 28))) (nd 28 (lf 28 (.inl (o_getR 3 19 14 31))) (lf 31 (.inl (o_iconst 3 32))))) (nd 32 (lf 32 (.inl (o_aload 0 33))) (nd 33 (lf 33 (.inl (o_getI 3 18 36))) (lf 36 (.inl (o_imul 37)))))))) (nd 55 (nd 43 (nd 38 (nd 37 (lf 37 (.inl (o_iload 1 38))) (lf 38 (.inl (o_iadd 39)))) (nd 39 (lf 39 (.inl (o_aload 0 40))) (nd 40 (lf 40 (.inl (o_getI 3 21 43))) (lf 43 (.inl (o_iast 44)))))) (nd 50 (nd 44 (lf 44 (.inl (o_iinc 1 1 47))) (nd 47 (lf 47 (.inl (o_goto 2))) (lf 50 (.inl (o_aload 0 51))))) (nd 51 (lf 51 (.inl (o_getR 3 20 15 54))) (nd 54 (lf 54 (.inl (o_aload 0 55))) (lf 55 (.inl (o_getI 3 18 58))))))) (nd 65 (nd 62 (nd 58 (lf 58 (.inl (o_aload 0 59))) (nd 59 (lf 59 (.inl (o_getI 3 18 62))) (lf 62 (.inl (o_iast 63))))) (nd 63 (lf 63 (.inl (o_aload 0 64))) (nd 64 (lf 64 (.inl (o_dup 65))) (lf 65 (.inl (o_getI 3 18 68)))))) (nd 70 (nd 68 (lf 68 (.inl (o_iconst 1 69))) (nd 69 (lf 69 (.inl (o_iadd 70))) (lf 70 (.inl (o_putI 3 18 73))))) (nd 73 (lf 73 (.inl (o_aload 0 74))) (nd 74 (lf 74 (.inr (.inr (117, 1, 1, 3)))) (lf 77 (.inr (.inl 3)))))))))
def tb_X4_readVoice : Nat → Option AI := (nd 16 (nd 4 (nd 1 (nd 0 (lf 0 (.inl (o_iconst (-1) 1))) (lf 1 (.inl (o_istore 2 2)))) (nd 2 (lf 2 (.inl (o_iconst 0 3))) (nd 3 (lf 3 (.inl (o_istore 3 4))) (lf 4 (.inl (o_iload 3 5)))))) (nd 9 (nd 5 (lf 5 (.inl (o_aload 0 6))) (nd 6 (lf 6 (.inl (o_getI 3 18 9))) (lf 9 (.inl (o_icge 34 12))))) (nd 12 (lf 12 (.inl (o_aload 0 13))) (nd 13 (lf 13 (.inl (o_getR 3 20 15 16))) (lf 16 (.inl (o_iload 3 17))))))) (nd 23 (nd 18 (nd 17 (lf 17 (.inl (o_iald 4 18))) (lf 18 (.inl (o_iload 1 19)))) (nd 19 (lf 19 (.inl (o_icne 26 22))) (nd 22 (lf 22 (.inl (o_iload 3 23))) (lf 23 (.inl (o_goto 27)))))) (nd 28 (nd 26 (lf 26 (.inl (o_iload 2 27))) (nd 27 (lf 27 (.inl (o_istore 2 28))) (lf 28 (.inl (o_iinc 3 1 31))))) (nd 31 (lf 31 (.inl (o_goto 4))) (nd 34 (lf 34 (.inl (o_iload 2 35))) (lf 35 (.inr (.inl 1))))))))
def tb_X4_readsLeave : Nat → Option AI := (nd 27 (nd 12 (nd 5 (nd 1 (nd 0 (lf 0 (.inl (o_aload 0 1))) (lf 1 (.inr (.inr (109, 1, 1, 3))))) (nd 4 (lf 4 (.inl (o_aload 0 5))) (lf 5 (.inl (o_getI 3 17 8))))) (nd 9 (nd 8 (lf 8 (.inl (o_istore 1 9))) (lf 9 (.inl (o_aload 0 10)))) (nd 10 (lf 10 (.inl (o_iconst 0 11))) (nd 11 (lf 11 (.inl (o_aload 0 12))) (lf 12 (.inl (o_getI 3 18 15))))))) (nd 20 (nd 16 (nd 15 (lf 15 (.inl (o_iconst 1 16))) (lf 16 (.inl (o_isub 17)))) (nd 17 (lf 17 (.inr (.inr (116, 3, 5, 3)))) (lf 20 (.inl (o_ifne 25 23))))) (nd 24 (nd 23 (lf 23 (.inl (o_iconst 0 24))) (lf 24 (.inr (.inl 3)))) (nd 25 (lf 25 (.inl (o_aload 0 26))) (nd 26 (lf 26 (.inl (o_aload 0 27))) (lf 27 (.inl (o_getI 3 21 30)))))))) (nd 44 (nd 35 (nd 33 (nd 30 (lf 30 (.inr (.inr (119, 2, 4, 3)))) (lf 33 (.inl (o_istore 2 34)))) (nd 34 (lf 34 (.inl (o_iload 2 35))) (lf 35 (.inl (o_iconst (-1) 36))))) (nd 39 (nd 36 (lf 36 (.inl (o_icne 46 39))) (lf 39 (.inl (o_aload 0 40)))) (nd 40 (lf 40 (.inl (o_iload 1 41))) (nd 41 (lf 41 (.inl (o_putI 3 17 44))) (lf 44 (.inl (o_iconst 0 45))))))) (nd 50 (nd 46 (nd 45 (lf 45 (.inr (.inl 3))) (lf 46 (.inl (o_aload 0 47)))) (nd 47 (lf 47 (.inl (o_getR 3 20 15 50))) (lf 50 (.inl (o_iload 2 51))))) (nd 52 (nd 51 (lf 51 (.inl (o_iconst (-1) 52))) (lf 52 (.inl (o_iast 53)))) (nd 53 (lf 53 (.inl (o_aload 0 54))) (nd 54 (lf 54 (.inr (.inr (117, 1, 1, 3)))) (lf 57 (.inr (.inl 3)))))))))
def tb_X4_readsLend : Nat → Option AI := (nd 47 (nd 24 (nd 10 (nd 4 (nd 0 (lf 0 (.inl (o_aload 0 1))) (nd 1 (lf 1 (.inr (.inr (109, 1, 1, 3)))) (lf 4 (.inl (o_aload 0 5))))) (nd 8 (nd 5 (lf 5 (.inl (o_getI 3 17 8))) (lf 8 (.inl (o_istore 1 9)))) (nd 9 (lf 9 (.inl (o_aload 0 10))) (lf 10 (.inl (o_iconst 0 11)))))) (nd 16 (nd 12 (nd 11 (lf 11 (.inl (o_aload 0 12))) (lf 12 (.inl (o_getI 3 18 15)))) (nd 15 (lf 15 (.inl (o_iconst 1 16))) (lf 16 (.inl (o_isub 17))))) (nd 20 (nd 17 (lf 17 (.inr (.inr (116, 3, 5, 3)))) (lf 20 (.inl (o_ifne 25 23)))) (nd 23 (lf 23 (.inl (o_iconst 0 24))) (lf 24 (.inr (.inl 3))))))) (nd 35 (nd 29 (nd 25 (lf 25 (.inl (o_aload 0 26))) (nd 26 (lf 26 (.inl (o_getI 3 21 29))) (lf 29 (.inl (o_istore 2 30))))) (nd 31 (nd 30 (lf 30 (.inl (o_aload 0 31))) (lf 31 (.inl (o_getR 3 20 15 34)))) (nd 34 (lf 34 (.inl (o_iload 2 35))) (lf 35 (.inl (o_iald 4 36)))))) (nd 41 (nd 37 (nd 36 (lf 36 (.inl (o_iconst (-1) 37))) (lf 37 (.inl (o_iceq 47 40)))) (nd 40 (lf 40 (.inl (o_aload 0 41))) (lf 41 (.inl (o_iload 1 42))))) (nd 45 (nd 42 (lf 42 (.inl (o_putI 3 17 45))) (lf 45 (.inl (o_iconst 0 46)))) (nd 46 (lf 46 (.inr (.inl 3))) (lf 47 (.inl (o_aload 0 48)))))))) (nd 72 (nd 58 (nd 50 (nd 48 (lf 48 (.inl (o_iconst 0 49))) (nd 49 (lf 49 (.inl (o_aload 0 50))) (lf 50 (.inl (o_getI 3 18 53))))) (nd 54 (nd 53 (lf 53 (.inl (o_iconst 1 54))) (lf 54 (.inl (o_isub 55)))) (nd 55 (lf 55 (.inr (.inr (116, 3, 5, 3)))) (lf 58 (.inl (o_ifne 63 61)))))) (nd 64 (nd 62 (nd 61 (lf 61 (.inl (o_iconst 0 62))) (lf 62 (.inr (.inl 3)))) (nd 63 (lf 63 (.inl (o_aload 0 64))) (lf 64 (.inl (o_aload 0 65))))) (nd 68 (nd 65 (lf 65 (.inl (o_getI 3 21 68))) (lf 68 (.inr (.inr (119, 2, 4, 3))))) (nd 71 (lf 71 (.inl (o_istore 3 72))) (lf 72 (.inl (o_iload 3 73))))))) (nd 84 (nd 78 (nd 74 (nd 73 (lf 73 (.inl (o_iconst (-1) 74))) (lf 74 (.inl (o_iceq 84 77)))) (nd 77 (lf 77 (.inl (o_aload 0 78))) (lf 78 (.inl (o_getR 3 20 15 81))))) (nd 82 (nd 81 (lf 81 (.inl (o_iload 3 82))) (lf 82 (.inl (o_iconst (-1) 83)))) (nd 83 (lf 83 (.inl (o_iast 84))) (lf 84 (.inl (o_aload 0 85)))))) (nd 90 (nd 88 (nd 85 (lf 85 (.inl (o_getR 3 20 15 88))) (lf 88 (.inl (o_iload 2 89)))) (nd 89 (lf 89 (.inl (o_aload 0 90))) (lf 90 (.inl (o_getI 3 21 93))))) (nd 94 (nd 93 (lf 93 (.inl (o_iast 94))) (lf 94 (.inl (o_aload 0 95)))) (nd 95 (lf 95 (.inr (.inr (117, 1, 1, 3)))) (lf 98 (.inr (.inl 3)))))))))
def tb_X4_readsItem : Nat → Option AI := (nd 37 (nd 16 (nd 6 (nd 1 (nd 0 (lf 0 (.inl (o_aload 0 1))) (lf 1 (.inr (.inr (115, 1, 2, 3))))) (nd 4 (lf 4 (.inl (o_istore 1 5))) (nd 5 (lf 5 (.inl (o_iload 1 6))) (lf 6 (.inl (o_iconst 1 7)))))) (nd 11 (nd 7 (lf 7 (.inl (o_iclt 24 10))) (nd 10 (lf 10 (.inl (o_iload 1 11))) (lf 11 (.inl (o_iconst 1 12))))) (nd 12 (lf 12 (.inl (o_icne 26 15))) (nd 15 (lf 15 (.inl (o_aload 0 16))) (lf 16 (.inl (o_getI 3 18 19))))))) (nd 27 (nd 24 (nd 19 (lf 19 (.inl (o_iconst 6 21))) (nd 21 (lf 21 (.inl (o_icne 26 24))) (lf 24 (.inl (o_iconst 0 25))))) (nd 25 (lf 25 (.inr (.inl 3))) (nd 26 (lf 26 (.inl (o_aload 0 27))) (lf 27 (.inl (o_dup 28)))))) (nd 32 (nd 28 (lf 28 (.inl (o_getI 3 17 31))) (nd 31 (lf 31 (.inl (o_iload 1 32))) (lf 32 (.inl (o_iconst 1 33))))) (nd 33 (lf 33 (.inl (o_icne 40 36))) (nd 36 (lf 36 (.inl (o_iconst 3 37))) (lf 37 (.inl (o_goto 50)))))))) (nd 56 (nd 46 (nd 41 (nd 40 (lf 40 (.inl (o_iload 1 41))) (lf 41 (.inl (o_iconst 2 42)))) (nd 42 (lf 42 (.inl (o_icne 49 45))) (nd 45 (lf 45 (.inl (o_iconst 5 46))) (lf 46 (.inl (o_goto 50)))))) (nd 51 (nd 49 (lf 49 (.inl (o_iconst 4 50))) (nd 50 (lf 50 (.inl (o_iadd 51))) (lf 51 (.inl (o_putI 3 17 54))))) (nd 54 (lf 54 (.inl (o_iload 1 55))) (nd 55 (lf 55 (.inl (o_iconst 1 56))) (lf 56 (.inl (o_icne 66 59))))))) (nd 68 (nd 63 (nd 59 (lf 59 (.inl (o_aload 0 60))) (nd 60 (lf 60 (.inr (.inr (118, 1, 2, 3)))) (lf 63 (.inl (o_goto 82))))) (nd 66 (lf 66 (.inl (o_iload 1 67))) (nd 67 (lf 67 (.inl (o_iconst 2 68))) (lf 68 (.inl (o_icne 78 71)))))) (nd 75 (nd 71 (lf 71 (.inl (o_aload 0 72))) (nd 72 (lf 72 (.inr (.inr (120, 1, 3, 3)))) (lf 75 (.inl (o_goto 82))))) (nd 78 (lf 78 (.inl (o_aload 0 79))) (nd 79 (lf 79 (.inr (.inr (121, 1, 4, 3)))) (lf 82 (.inr (.inl 3)))))))))
def tb_X4_readsCounter : Nat → Option AI := (nd 38 (nd 18 (nd 6 (nd 1 (nd 0 (lf 0 (.inl (o_aload 0 1))) (lf 1 (.inl (o_iconst 0 2)))) (nd 2 (lf 2 (.inl (o_putI 3 17 5))) (nd 5 (lf 5 (.inl (o_aload 0 6))) (lf 6 (.inl (o_iconst 0 7)))))) (nd 11 (nd 7 (lf 7 (.inl (o_putI 3 18 10))) (nd 10 (lf 10 (.inl (o_aload 0 11))) (lf 11 (.inr (.inr (109, 1, 1, 3)))))) (nd 14 (lf 14 (.inl (o_aload 0 15))) (nd 15 (lf 15 (.inr (.inr (115, 1, 2, 3)))) (lf 18 (.inl (o_ifeq 23 21))))))) (nd 25 (nd 22 (nd 21 (lf 21 (.inl (o_iconst (-1) 22))) (lf 22 (.inr (.inl 1)))) (nd 23 (lf 23 (.inl (o_aload 0 24))) (nd 24 (lf 24 (.inl (o_dup 25))) (lf 25 (.inl (o_getI 3 17 28)))))) (nd 31 (nd 28 (lf 28 (.inl (o_iconst 7 30))) (nd 30 (lf 30 (.inl (o_iadd 31))) (lf 31 (.inl (o_putI 3 17 34))))) (nd 34 (lf 34 (.inl (o_aload 0 35))) (nd 35 (lf 35 (.inr (.inr (117, 1, 1, 3)))) (lf 38 (.inl (o_ifne 43 41)))))))) (nd 57 (nd 45 (nd 42 (nd 41 (lf 41 (.inl (o_iconst (-1) 42))) (lf 42 (.inr (.inl 1)))) (nd 43 (lf 43 (.inl (o_iconst 1 44))) (nd 44 (lf 44 (.inl (o_istore 1 45))) (lf 45 (.inl (o_aload 0 46)))))) (nd 50 (nd 46 (lf 46 (.inr (.inr (109, 1, 1, 3)))) (nd 49 (lf 49 (.inl (o_aload 0 50))) (lf 50 (.inl (o_getI 3 17 53))))) (nd 53 (lf 53 (.inl (o_aload 0 54))) (nd 54 (lf 54 (.inl (o_getI 3 16 57))) (lf 57 (.inl (o_icge 79 60))))))) (nd 68 (nd 61 (nd 60 (lf 60 (.inl (o_aload 0 61))) (lf 61 (.inr (.inr (122, 1, 2, 3))))) (nd 64 (lf 64 (.inl (o_ifne 69 67))) (nd 67 (lf 67 (.inl (o_iconst (-1) 68))) (lf 68 (.inr (.inl 1)))))) (nd 73 (nd 69 (lf 69 (.inl (o_iinc 1 1 72))) (nd 72 (lf 72 (.inl (o_aload 0 73))) (lf 73 (.inr (.inr (109, 1, 1, 3)))))) (nd 76 (lf 76 (.inl (o_goto 49))) (nd 79 (lf 79 (.inl (o_iload 1 80))) (lf 80 (.inr (.inl 1)))))))))
def tb_X4_read : Nat → Option AI := (nd 47 (nd 23 (nd 11 (nd 4 (nd 0 (lf 0 (.inl (o_aload 0 1))) (nd 1 (lf 1 (.inr (.inr (123, 1, 2, 3)))) (lf 4 (.inl (o_istore 1 5))))) (nd 6 (nd 5 (lf 5 (.inl (o_iload 1 6))) (lf 6 (.inl (o_ifge 17 9)))) (nd 9 (lf 9 (.inl (o_iconst (-10) 11))) (lf 11 (.inl (o_aload 0 12)))))) (nd 17 (nd 15 (nd 12 (lf 12 (.inl (o_getI 3 17 15))) (lf 15 (.inl (o_isub 16)))) (nd 16 (lf 16 (.inr (.inl 1))) (lf 17 (.inl (o_aload 0 18))))) (nd 21 (nd 18 (lf 18 (.inr (.inr (101, 1, 1, 3)))) (lf 21 (.inl (o_iconst 0 22)))) (nd 22 (lf 22 (.inl (o_istore 2 23))) (lf 23 (.inl (o_iload 2 24))))))) (nd 37 (nd 31 (nd 25 (nd 24 (lf 24 (.inl (o_aload 0 25))) (lf 25 (.inl (o_getI 3 18 28)))) (nd 28 (lf 28 (.inl (o_icge 70 31))) (lf 31 (.inl (o_aload 0 32))))) (nd 33 (nd 32 (lf 32 (.inl (o_aload 0 33))) (lf 33 (.inl (o_getR 3 19 14 36)))) (nd 36 (lf 36 (.inl (o_iconst 3 37))) (lf 37 (.inl (o_iload 2 38)))))) (nd 41 (nd 39 (nd 38 (lf 38 (.inl (o_imul 39))) (lf 39 (.inl (o_iald 4 40)))) (nd 40 (lf 40 (.inl (o_aload 0 41))) (lf 41 (.inl (o_getR 3 19 14 44))))) (nd 45 (nd 44 (lf 44 (.inl (o_iconst 3 45))) (lf 45 (.inl (o_iload 2 46)))) (nd 46 (lf 46 (.inl (o_imul 47))) (lf 47 (.inl (o_iconst 1 48)))))))) (nd 71 (nd 57 (nd 51 (nd 49 (nd 48 (lf 48 (.inl (o_iadd 49))) (lf 49 (.inl (o_iald 4 50)))) (nd 50 (lf 50 (.inl (o_aload 0 51))) (lf 51 (.inl (o_getR 3 19 14 54))))) (nd 55 (nd 54 (lf 54 (.inl (o_iconst 3 55))) (lf 55 (.inl (o_iload 2 56)))) (nd 56 (lf 56 (.inl (o_imul 57))) (lf 57 (.inl (o_iconst 2 58)))))) (nd 63 (nd 59 (nd 58 (lf 58 (.inl (o_iadd 59))) (lf 59 (.inl (o_iald 4 60)))) (nd 60 (lf 60 (.inr (.inr (104, 4, 4, 3)))) (lf 63 (.inl (o_pop 64))))) (nd 67 (nd 64 (lf 64 (.inl (o_iinc 2 1 67))) (lf 67 (.inl (o_goto 23)))) (nd 70 (lf 70 (.inl (o_iconst 0 71))) (lf 71 (.inl (o_istore 2 72))))))) (nd 85 (nd 77 (nd 73 (nd 72 (lf 72 (.inl (o_iload 2 73))) (lf 73 (.inl (o_aload 0 74)))) (nd 74 (lf 74 (.inl (o_getI 3 18 77))) (lf 77 (.inl (o_icge 98 80))))) (nd 81 (nd 80 (lf 80 (.inl (o_aload 0 81))) (lf 81 (.inl (o_getR 3 7 5 84)))) (nd 84 (lf 84 (.inl (o_iload 2 85))) (lf 85 (.inl (o_aload 0 86)))))) (nd 91 (nd 89 (nd 86 (lf 86 (.inl (o_getR 3 20 15 89))) (lf 89 (.inl (o_iload 2 90)))) (nd 90 (lf 90 (.inl (o_iald 4 91))) (lf 91 (.inl (o_iast 92))))) (nd 95 (nd 92 (lf 92 (.inl (o_iinc 2 1 95))) (lf 95 (.inl (o_goto 72)))) (nd 98 (lf 98 (.inl (o_iload 1 99))) (lf 99 (.inr (.inl 1)))))))))
def tb_X4_lesser : Nat → Option AI := (nd 2 (nd 0 (lf 0 (.inl (o_iload 0 1))) (nd 1 (lf 1 (.inl (o_iload 1 2))) (lf 2 (.inl (o_icge 9 5))))) (nd 6 (nd 5 (lf 5 (.inl (o_iload 0 6))) (lf 6 (.inl (o_goto 10)))) (nd 9 (lf 9 (.inl (o_iload 1 10))) (lf 10 (.inr (.inl 1))))))
def tb_X4_soundBy : Nat → Option AI := (nd 59 (nd 13 (nd 6 (nd 1 (nd 0 (lf 0 (.inl (o_iload 1 1))) (lf 1 (.inl (o_iconst 2 2)))) (nd 2 (lf 2 (.inl (o_icge 9 5))) (nd 5 (lf 5 (.inl (o_iconst 0 6))) (lf 6 (.inl (o_goto 12)))))) (nd 10 (nd 9 (lf 9 (.inl (o_iload 1 10))) (lf 10 (.inl (o_iconst 2 11)))) (nd 11 (lf 11 (.inl (o_isub 12))) (nd 12 (lf 12 (.inl (o_istore 3 13))) (lf 13 (.inl (o_iload 0 14))))))) (nd 52 (nd 48 (nd 14 (lf 14 (.inl (o_tsw 1 [48, 50, 87, 59, 78] 87))) (lf 48 (.inl (o_iload 3 49)))) (nd 49 (lf 49 (.inr (.inl 1))) (nd 50 (lf 50 (.inl (o_iconst 9 52))) (lf 52 (.inl (o_iload 1 53)))))) (nd 54 (nd 53 (lf 53 (.inl (o_iconst 2 54))) (lf 54 (.inl (o_iadd 55)))) (nd 55 (lf 55 (.inr (.inr (125, 2, 2, 9)))) (nd 58 (lf 58 (.inr (.inl 1))) (lf 59 (.inl (o_iload 2 60)))))))) (nd 73 (nd 66 (nd 61 (nd 60 (lf 60 (.inl (o_iconst 2 61))) (lf 61 (.inl (o_irem 62)))) (nd 62 (lf 62 (.inl (o_iconst 1 63))) (nd 63 (lf 63 (.inl (o_icne 76 66))) (lf 66 (.inl (o_iload 3 67)))))) (nd 70 (nd 67 (lf 67 (.inl (o_ifle 76 70))) (lf 70 (.inl (o_iload 3 71)))) (nd 71 (lf 71 (.inl (o_iconst 1 72))) (nd 72 (lf 72 (.inl (o_isub 73))) (lf 73 (.inl (o_goto 77))))))) (nd 81 (nd 77 (nd 76 (lf 76 (.inl (o_iload 3 77))) (lf 77 (.inr (.inl 1)))) (nd 78 (lf 78 (.inl (o_iconst 9 80))) (nd 80 (lf 80 (.inl (o_iload 1 81))) (lf 81 (.inl (o_iconst 2 82)))))) (nd 83 (nd 82 (lf 82 (.inl (o_iadd 83))) (lf 83 (.inr (.inr (125, 2, 2, 9))))) (nd 86 (lf 86 (.inr (.inl 1))) (nd 87 (lf 87 (.inl (o_iload 1 88))) (lf 88 (.inr (.inl 1)))))))))
def tb_X4_slipBy : Nat → Option AI := (nd 49 (nd 10 (nd 2 (nd 0 (lf 0 (.inl (o_iload 1 1))) (nd 1 (lf 1 (.inl (o_iconst 2 2))) (lf 2 (.inl (o_icgt 9 5))))) (nd 6 (nd 5 (lf 5 (.inl (o_iconst 1 6))) (lf 6 (.inl (o_goto 10)))) (nd 9 (lf 9 (.inl (o_iconst 0 10))) (lf 10 (.inl (o_istore 2 11)))))) (nd 45 (nd 12 (nd 11 (lf 11 (.inl (o_iload 0 12))) (lf 12 (.inl (o_tsw 2 [44, 48, 67, 61] 67)))) (nd 44 (lf 44 (.inl (o_iload 2 45))) (lf 45 (.inl (o_iconst 1 46))))) (nd 47 (nd 46 (lf 46 (.inl (o_iadd 47))) (lf 47 (.inr (.inl 1)))) (nd 48 (lf 48 (.inl (o_iload 1 49))) (lf 49 (.inl (o_iconst 2 50))))))) (nd 60 (nd 54 (nd 50 (lf 50 (.inl (o_icge 59 53))) (nd 53 (lf 53 (.inl (o_iconst 3 54))) (lf 54 (.inl (o_iload 1 55))))) (nd 56 (nd 55 (lf 55 (.inl (o_isub 56))) (lf 56 (.inl (o_goto 60)))) (nd 59 (lf 59 (.inl (o_iconst 1 60))) (lf 60 (.inr (.inl 1)))))) (nd 64 (nd 62 (nd 61 (lf 61 (.inl (o_iconst 2 62))) (lf 62 (.inl (o_iload 2 63)))) (nd 63 (lf 63 (.inl (o_iconst 1 64))) (lf 64 (.inl (o_iadd 65))))) (nd 66 (nd 65 (lf 65 (.inl (o_imul 66))) (lf 66 (.inr (.inl 1)))) (nd 67 (lf 67 (.inl (o_iload 2 68))) (lf 68 (.inr (.inl 1))))))))
def tb_X4_sound : Nat → Option AI := (nd 7 (nd 4 (nd 0 (lf 0 (.inl (o_aload 0 1))) (nd 1 (lf 1 (.inl (o_getR 3 4 2 4))) (lf 4 (.inl (o_iload 1 5))))) (nd 5 (lf 5 (.inl (o_iald 4 6))) (nd 6 (lf 6 (.inl (o_aload 0 7))) (lf 7 (.inl (o_getR 3 5 3 10)))))) (nd 12 (nd 10 (lf 10 (.inl (o_iload 1 11))) (nd 11 (lf 11 (.inl (o_iald 4 12))) (lf 12 (.inl (o_aload 0 13))))) (nd 13 (lf 13 (.inl (o_getI 3 2 16))) (nd 16 (lf 16 (.inr (.inr (126, 3, 4, 9)))) (lf 19 (.inr (.inl 1)))))))
def tb_X4_fitWith : Nat → Option AI := (nd 12 (nd 5 (nd 1 (nd 0 (lf 0 (.inl (o_aload 0 1))) (lf 1 (.inl (o_iload 2 2)))) (nd 2 (lf 2 (.inr (.inr (128, 2, 2, 3)))) (lf 5 (.inl (o_aload 0 6))))) (nd 9 (nd 6 (lf 6 (.inl (o_getR 3 6 4 9))) (lf 9 (.inl (o_iload 1 10)))) (nd 10 (lf 10 (.inl (o_iald 4 11))) (nd 11 (lf 11 (.inl (o_isub 12))) (lf 12 (.inl (o_istore 3 13))))))) (nd 19 (nd 15 (nd 13 (lf 13 (.inl (o_iconst 9 15))) (lf 15 (.inl (o_iload 3 16)))) (nd 16 (lf 16 (.inl (o_ifge 24 19))) (lf 19 (.inl (o_iload 3 20))))) (nd 21 (nd 20 (lf 20 (.inl (o_ineg 21))) (lf 21 (.inl (o_goto 25)))) (nd 24 (lf 24 (.inl (o_iload 3 25))) (nd 25 (lf 25 (.inl (o_isub 26))) (lf 26 (.inr (.inl 1))))))))
def tb_X4_voiceOf : Nat → Option AI := (nd 16 (nd 4 (nd 1 (nd 0 (lf 0 (.inl (o_iconst (-1) 1))) (lf 1 (.inl (o_istore 2 2)))) (nd 2 (lf 2 (.inl (o_iconst 0 3))) (nd 3 (lf 3 (.inl (o_istore 3 4))) (lf 4 (.inl (o_iload 3 5)))))) (nd 9 (nd 5 (lf 5 (.inl (o_aload 0 6))) (nd 6 (lf 6 (.inl (o_getI 3 1 9))) (lf 9 (.inl (o_icge 34 12))))) (nd 12 (lf 12 (.inl (o_aload 0 13))) (nd 13 (lf 13 (.inl (o_getR 3 7 5 16))) (lf 16 (.inl (o_iload 3 17))))))) (nd 23 (nd 18 (nd 17 (lf 17 (.inl (o_iald 4 18))) (lf 18 (.inl (o_iload 1 19)))) (nd 19 (lf 19 (.inl (o_icne 26 22))) (nd 22 (lf 22 (.inl (o_iload 3 23))) (lf 23 (.inl (o_goto 27)))))) (nd 28 (nd 26 (lf 26 (.inl (o_iload 2 27))) (nd 27 (lf 27 (.inl (o_istore 2 28))) (lf 28 (.inl (o_iinc 3 1 31))))) (nd 31 (lf 31 (.inl (o_goto 4))) (nd 34 (lf 34 (.inl (o_iload 2 35))) (lf 35 (.inr (.inl 1))))))))
def tb_X4_fitNow : Nat → Option AI := (nd 8 (nd 2 (nd 0 (lf 0 (.inl (o_aload 0 1))) (nd 1 (lf 1 (.inl (o_iload 1 2))) (lf 2 (.inr (.inr (130, 2, 4, 3)))))) (nd 6 (nd 5 (lf 5 (.inl (o_istore 2 6))) (lf 6 (.inl (o_iload 2 7)))) (nd 7 (lf 7 (.inl (o_iconst (-1) 8))) (lf 8 (.inl (o_icne 15 11)))))) (nd 15 (nd 11 (lf 11 (.inl (o_iconst 0 12))) (nd 12 (lf 12 (.inl (o_goto 21))) (lf 15 (.inl (o_aload 0 16))))) (nd 17 (nd 16 (lf 16 (.inl (o_iload 1 17))) (lf 17 (.inl (o_iload 2 18)))) (nd 18 (lf 18 (.inr (.inr (129, 3, 4, 3)))) (lf 21 (.inr (.inl 1)))))))
def tb_X4_lays : Nat → Option AI := (nd 29 (nd 15 (nd 6 (nd 1 (nd 0 (lf 0 (.inl (o_aload 1 1))) (lf 1 (.inl (o_iload 2 2)))) (nd 2 (lf 2 (.inl (o_aload 0 3))) (nd 3 (lf 3 (.inl (o_getI 3 2 6))) (lf 6 (.inl (o_iast 7)))))) (nd 9 (nd 7 (lf 7 (.inl (o_iconst 0 8))) (nd 8 (lf 8 (.inl (o_istore 3 9))) (lf 9 (.inl (o_iload 3 10))))) (nd 10 (lf 10 (.inl (o_iconst 6 12))) (nd 12 (lf 12 (.inl (o_icge 62 15))) (lf 15 (.inl (o_aload 1 16))))))) (nd 21 (nd 18 (nd 16 (lf 16 (.inl (o_iload 2 17))) (nd 17 (lf 17 (.inl (o_iconst 1 18))) (lf 18 (.inl (o_iadd 19))))) (nd 19 (lf 19 (.inl (o_iload 3 20))) (nd 20 (lf 20 (.inl (o_iadd 21))) (lf 21 (.inl (o_aload 0 22)))))) (nd 26 (nd 22 (lf 22 (.inl (o_getR 3 7 5 25))) (nd 25 (lf 25 (.inl (o_iload 3 26))) (lf 26 (.inl (o_iald 4 27))))) (nd 27 (lf 27 (.inl (o_iast 28))) (nd 28 (lf 28 (.inl (o_aload 1 29))) (lf 29 (.inl (o_iload 2 30)))))))) (nd 43 (nd 35 (nd 32 (nd 30 (lf 30 (.inl (o_iconst 7 32))) (lf 32 (.inl (o_iadd 33)))) (nd 33 (lf 33 (.inl (o_iload 3 34))) (nd 34 (lf 34 (.inl (o_iadd 35))) (lf 35 (.inl (o_aload 0 36)))))) (nd 40 (nd 36 (lf 36 (.inl (o_getR 3 8 6 39))) (nd 39 (lf 39 (.inl (o_iload 3 40))) (lf 40 (.inl (o_iald 4 41))))) (nd 41 (lf 41 (.inl (o_iast 42))) (nd 42 (lf 42 (.inl (o_aload 1 43))) (lf 43 (.inl (o_iload 2 44))))))) (nd 50 (nd 47 (nd 44 (lf 44 (.inl (o_iconst 13 46))) (nd 46 (lf 46 (.inl (o_iadd 47))) (lf 47 (.inl (o_iload 3 48))))) (nd 48 (lf 48 (.inl (o_iadd 49))) (nd 49 (lf 49 (.inl (o_aload 0 50))) (lf 50 (.inl (o_getR 3 9 7 53)))))) (nd 55 (nd 53 (lf 53 (.inl (o_iload 3 54))) (nd 54 (lf 54 (.inl (o_iald 4 55))) (lf 55 (.inl (o_iast 56))))) (nd 56 (lf 56 (.inl (o_iinc 3 1 59))) (nd 59 (lf 59 (.inl (o_goto 9))) (lf 62 (.inr (.inl 0)))))))))
def tb_X4_takes : Nat → Option AI := (nd 29 (nd 15 (nd 4 (nd 1 (nd 0 (lf 0 (.inl (o_aload 0 1))) (lf 1 (.inl (o_aload 1 2)))) (nd 2 (lf 2 (.inl (o_iload 2 3))) (nd 3 (lf 3 (.inl (o_iald 4 4))) (lf 4 (.inl (o_putI 3 2 7)))))) (nd 9 (nd 7 (lf 7 (.inl (o_iconst 0 8))) (nd 8 (lf 8 (.inl (o_istore 3 9))) (lf 9 (.inl (o_iload 3 10))))) (nd 10 (lf 10 (.inl (o_iconst 6 12))) (nd 12 (lf 12 (.inl (o_icge 62 15))) (lf 15 (.inl (o_aload 0 16))))))) (nd 23 (nd 20 (nd 16 (lf 16 (.inl (o_getR 3 7 5 19))) (nd 19 (lf 19 (.inl (o_iload 3 20))) (lf 20 (.inl (o_aload 1 21))))) (nd 21 (lf 21 (.inl (o_iload 2 22))) (nd 22 (lf 22 (.inl (o_iconst 1 23))) (lf 23 (.inl (o_iadd 24)))))) (nd 26 (nd 24 (lf 24 (.inl (o_iload 3 25))) (nd 25 (lf 25 (.inl (o_iadd 26))) (lf 26 (.inl (o_iald 4 27))))) (nd 27 (lf 27 (.inl (o_iast 28))) (nd 28 (lf 28 (.inl (o_aload 0 29))) (lf 29 (.inl (o_getR 3 8 6 32)))))))) (nd 43 (nd 37 (nd 33 (nd 32 (lf 32 (.inl (o_iload 3 33))) (lf 33 (.inl (o_aload 1 34)))) (nd 34 (lf 34 (.inl (o_iload 2 35))) (nd 35 (lf 35 (.inl (o_iconst 7 37))) (lf 37 (.inl (o_iadd 38)))))) (nd 40 (nd 38 (lf 38 (.inl (o_iload 3 39))) (nd 39 (lf 39 (.inl (o_iadd 40))) (lf 40 (.inl (o_iald 4 41))))) (nd 41 (lf 41 (.inl (o_iast 42))) (nd 42 (lf 42 (.inl (o_aload 0 43))) (lf 43 (.inl (o_getR 3 9 7 46))))))) (nd 52 (nd 48 (nd 46 (lf 46 (.inl (o_iload 3 47))) (nd 47 (lf 47 (.inl (o_aload 1 48))) (lf 48 (.inl (o_iload 2 49))))) (nd 49 (lf 49 (.inl (o_iconst 13 51))) (nd 51 (lf 51 (.inl (o_iadd 52))) (lf 52 (.inl (o_iload 3 53)))))) (nd 55 (nd 53 (lf 53 (.inl (o_iadd 54))) (nd 54 (lf 54 (.inl (o_iald 4 55))) (lf 55 (.inl (o_iast 56))))) (nd 56 (lf 56 (.inl (o_iinc 3 1 59))) (nd 59 (lf 59 (.inl (o_goto 9))) (lf 62 (.inr (.inl 0)))))))))
def tb_X4_notes : Nat → Option AI := (nd 36 (nd 18 (nd 9 (nd 1 (nd 0 (lf 0 (.inl (o_aload 0 1))) (lf 1 (.inl (o_getI 3 23 4)))) (nd 4 (lf 4 (.inl (o_iconst 8 6))) (nd 6 (lf 6 (.inl (o_icne 49 9))) (lf 9 (.inl (o_iconst 0 10)))))) (nd 11 (nd 10 (lf 10 (.inl (o_istore 1 11))) (lf 11 (.inl (o_iload 1 12)))) (nd 12 (lf 12 (.inl (o_iconst 133 15))) (nd 15 (lf 15 (.inl (o_icge 39 18))) (lf 18 (.inl (o_aload 0 19))))))) (nd 27 (nd 22 (nd 19 (lf 19 (.inl (o_getR 3 22 16 22))) (lf 22 (.inl (o_iload 1 23)))) (nd 23 (lf 23 (.inl (o_aload 0 24))) (nd 24 (lf 24 (.inl (o_getR 3 22 16 27))) (lf 27 (.inl (o_iload 1 28)))))) (nd 31 (nd 28 (lf 28 (.inl (o_iconst 19 30))) (nd 30 (lf 30 (.inl (o_iadd 31))) (lf 31 (.inl (o_iald 4 32))))) (nd 32 (lf 32 (.inl (o_iast 33))) (nd 33 (lf 33 (.inl (o_iinc 1 1 36))) (lf 36 (.inl (o_goto 11)))))))) (nd 54 (nd 45 (nd 40 (nd 39 (lf 39 (.inl (o_aload 0 40))) (lf 40 (.inl (o_dup 41)))) (nd 41 (lf 41 (.inl (o_getI 3 23 44))) (nd 44 (lf 44 (.inl (o_iconst 1 45))) (lf 45 (.inl (o_isub 46)))))) (nd 49 (nd 46 (lf 46 (.inl (o_putI 3 23 49))) (lf 49 (.inl (o_aload 0 50)))) (nd 50 (lf 50 (.inl (o_aload 0 51))) (nd 51 (lf 51 (.inl (o_getR 3 22 16 54))) (lf 54 (.inl (o_iconst 19 56))))))) (nd 64 (nd 57 (nd 56 (lf 56 (.inl (o_aload 0 57))) (lf 57 (.inl (o_getI 3 23 60)))) (nd 60 (lf 60 (.inl (o_imul 61))) (nd 61 (lf 61 (.inr (.inr (132, 3, 4, 3)))) (lf 64 (.inl (o_aload 0 65)))))) (nd 69 (nd 65 (lf 65 (.inl (o_dup 66))) (nd 66 (lf 66 (.inl (o_getI 3 23 69))) (lf 69 (.inl (o_iconst 1 70))))) (nd 70 (lf 70 (.inl (o_iadd 71))) (nd 71 (lf 71 (.inl (o_putI 3 23 74))) (lf 74 (.inr (.inl 0)))))))))
def tb_X4_puts : Nat → Option AI := (nd 2 (nd 0 (lf 0 (.inl (o_aload 0 1))) (nd 1 (lf 1 (.inl (o_aload 0 2))) (lf 2 (.inl (o_getR 3 24 17 5))))) (nd 5 (lf 5 (.inl (o_iconst 0 6))) (nd 6 (lf 6 (.inr (.inr (132, 3, 4, 3)))) (lf 9 (.inr (.inl 0))))))
def tb_X4_back : Nat → Option AI := (nd 2 (nd 0 (lf 0 (.inl (o_aload 0 1))) (nd 1 (lf 1 (.inl (o_aload 0 2))) (lf 2 (.inl (o_getR 3 24 17 5))))) (nd 5 (lf 5 (.inl (o_iconst 0 6))) (nd 6 (lf 6 (.inr (.inr (133, 3, 4, 3)))) (lf 9 (.inr (.inl 0))))))
def tb_X4_leaves : Nat → Option AI := (nd 6 (nd 1 (nd 0 (lf 0 (.inl (o_aload 0 1))) (lf 1 (.inl (o_getR 3 7 5 4)))) (nd 4 (lf 4 (.inl (o_iload 1 5))) (nd 5 (lf 5 (.inl (o_iconst (-1) 6))) (lf 6 (.inl (o_iast 7)))))) (nd 11 (nd 7 (lf 7 (.inl (o_aload 0 8))) (nd 8 (lf 8 (.inl (o_getR 3 8 6 11))) (lf 11 (.inl (o_iload 1 12))))) (nd 12 (lf 12 (.inl (o_iconst 0 13))) (nd 13 (lf 13 (.inl (o_iast 14))) (lf 14 (.inr (.inl 0)))))))
def tb_X4_lends : Nat → Option AI := (nd 16 (nd 6 (nd 1 (nd 0 (lf 0 (.inl (o_aload 0 1))) (lf 1 (.inl (o_iload 2 2)))) (nd 2 (lf 2 (.inr (.inr (130, 2, 4, 3)))) (nd 5 (lf 5 (.inl (o_istore 3 6))) (lf 6 (.inl (o_iload 3 7)))))) (nd 11 (nd 7 (lf 7 (.inl (o_iconst (-1) 8))) (nd 8 (lf 8 (.inl (o_iceq 16 11))) (lf 11 (.inl (o_aload 0 12))))) (nd 12 (lf 12 (.inl (o_iload 3 13))) (nd 13 (lf 13 (.inr (.inr (137, 2, 2, 3)))) (lf 16 (.inl (o_aload 0 17))))))) (nd 23 (nd 20 (nd 17 (lf 17 (.inl (o_getR 3 7 5 20))) (lf 20 (.inl (o_iload 1 21)))) (nd 21 (lf 21 (.inl (o_iload 2 22))) (nd 22 (lf 22 (.inl (o_iast 23))) (lf 23 (.inl (o_aload 0 24)))))) (nd 28 (nd 24 (lf 24 (.inl (o_getR 3 8 6 27))) (nd 27 (lf 27 (.inl (o_iload 1 28))) (lf 28 (.inl (o_iconst 0 29))))) (nd 29 (lf 29 (.inl (o_iast 30))) (nd 30 (lf 30 (.inl (o_iload 3 31))) (lf 31 (.inr (.inl 1))))))))
def tb_X4_pass : Nat → Option AI := (nd 56 (nd 27 (nd 13 (nd 3 (nd 1 (nd 0 (lf 0 (.inl (o_iconst 0 1))) (lf 1 (.inl (o_istore 1 2)))) (nd 2 (lf 2 (.inl (o_aload 0 3))) (lf 3 (.inl (o_getI 3 2 6))))) (nd 9 (nd 6 (lf 6 (.inl (o_iconst 999 9))) (lf 9 (.inl (o_icge 102 12)))) (nd 12 (lf 12 (.inl (o_iconst 0 13))) (lf 13 (.inl (o_istore 2 14)))))) (nd 19 (nd 15 (nd 14 (lf 14 (.inl (o_iload 2 15))) (lf 15 (.inl (o_aload 0 16)))) (nd 16 (lf 16 (.inl (o_getI 3 1 19))) (lf 19 (.inl (o_icge 92 22))))) (nd 23 (nd 22 (lf 22 (.inl (o_aload 0 23))) (lf 23 (.inl (o_getR 3 7 5 26)))) (nd 26 (lf 26 (.inl (o_iload 2 27))) (lf 27 (.inl (o_iald 4 28))))))) (nd 39 (nd 33 (nd 29 (nd 28 (lf 28 (.inl (o_iconst (-1) 29))) (lf 29 (.inl (o_iceq 86 32)))) (nd 32 (lf 32 (.inl (o_aload 0 33))) (lf 33 (.inl (o_getR 3 7 5 36))))) (nd 37 (nd 36 (lf 36 (.inl (o_iload 2 37))) (lf 37 (.inl (o_iald 4 38)))) (nd 38 (lf 38 (.inl (o_iload 2 39))) (lf 39 (.inl (o_icne 46 42)))))) (nd 47 (nd 43 (nd 42 (lf 42 (.inl (o_iconst 0 43))) (lf 43 (.inl (o_goto 61)))) (nd 46 (lf 46 (.inl (o_aload 0 47))) (lf 47 (.inl (o_getR 3 4 2 50))))) (nd 51 (nd 50 (lf 50 (.inl (o_iload 2 51))) (lf 51 (.inl (o_iald 4 52)))) (nd 52 (lf 52 (.inl (o_aload 0 53))) (nd 53 (lf 53 (.inl (o_getR 3 8 6 56))) (lf 56 (.inl (o_iload 2 57))))))))) (nd 76 (nd 68 (nd 62 (nd 58 (nd 57 (lf 57 (.inl (o_iald 4 58))) (lf 58 (.inr (.inr (127, 2, 3, 9))))) (nd 61 (lf 61 (.inl (o_istore 3 62))) (lf 62 (.inl (o_aload 0 63))))) (nd 66 (nd 63 (lf 63 (.inl (o_getR 3 9 7 66))) (lf 66 (.inl (o_iload 2 67)))) (nd 67 (lf 67 (.inl (o_dup2 68))) (lf 68 (.inl (o_iald 4 69)))))) (nd 72 (nd 70 (nd 69 (lf 69 (.inl (o_iload 3 70))) (lf 70 (.inl (o_iadd 71)))) (nd 71 (lf 71 (.inl (o_iast 72))) (lf 72 (.inl (o_iload 1 73))))) (nd 74 (nd 73 (lf 73 (.inl (o_iload 3 74))) (lf 74 (.inl (o_iadd 75)))) (nd 75 (lf 75 (.inl (o_istore 1 76))) (lf 76 (.inl (o_aload 0 77))))))) (nd 86 (nd 82 (nd 80 (nd 77 (lf 77 (.inl (o_getR 3 8 6 80))) (lf 80 (.inl (o_iload 2 81)))) (nd 81 (lf 81 (.inl (o_dup2 82))) (lf 82 (.inl (o_iald 4 83))))) (nd 84 (nd 83 (lf 83 (.inl (o_iconst 1 84))) (lf 84 (.inl (o_iadd 85)))) (nd 85 (lf 85 (.inl (o_iast 86))) (lf 86 (.inl (o_iinc 2 1 89)))))) (nd 94 (nd 92 (nd 89 (lf 89 (.inl (o_goto 14))) (lf 92 (.inl (o_aload 0 93)))) (nd 93 (lf 93 (.inl (o_dup 94))) (lf 94 (.inl (o_getI 3 2 97))))) (nd 98 (nd 97 (lf 97 (.inl (o_iconst 1 98))) (lf 98 (.inl (o_iadd 99)))) (nd 99 (lf 99 (.inl (o_putI 3 2 102))) (nd 102 (lf 102 (.inl (o_iload 1 103))) (lf 103 (.inr (.inl 1))))))))))
def tb_X4_lend : Nat → Option AI := (nd 22 (nd 9 (nd 2 (nd 0 (lf 0 (.inl (o_aload 0 1))) (nd 1 (lf 1 (.inl (o_iload 1 2))) (lf 2 (.inr (.inr (102, 2, 2, 3)))))) (nd 5 (lf 5 (.inl (o_ifeq 16 8))) (nd 8 (lf 8 (.inl (o_aload 0 9))) (lf 9 (.inl (o_iload 2 10)))))) (nd 16 (nd 10 (lf 10 (.inr (.inr (102, 2, 2, 3)))) (nd 13 (lf 13 (.inl (o_ifne 21 16))) (lf 16 (.inl (o_aload 0 17))))) (nd 20 (nd 17 (lf 17 (.inr (.inr (96, 1, 1, 3)))) (lf 20 (.inr (.inl 1)))) (nd 21 (lf 21 (.inl (o_aload 0 22))) (lf 22 (.inl (o_getR 3 7 5 25))))))) (nd 35 (nd 27 (nd 25 (lf 25 (.inl (o_iload 1 26))) (nd 26 (lf 26 (.inl (o_iald 4 27))) (lf 27 (.inl (o_iconst (-1) 28))))) (nd 31 (nd 28 (lf 28 (.inl (o_iceq 36 31))) (lf 31 (.inl (o_aload 0 32)))) (nd 32 (lf 32 (.inr (.inr (97, 1, 1, 3)))) (lf 35 (.inr (.inl 1)))))) (nd 40 (nd 36 (lf 36 (.inl (o_aload 0 37))) (nd 37 (lf 37 (.inr (.inr (134, 1, 2, 3)))) (lf 40 (.inl (o_aload 0 41))))) (nd 42 (nd 41 (lf 41 (.inl (o_iload 1 42))) (lf 42 (.inl (o_iload 2 43)))) (nd 43 (lf 43 (.inr (.inr (138, 3, 4, 3)))) (lf 46 (.inr (.inl 1))))))))
def tb_X4_leave : Nat → Option AI := (nd 19 (nd 9 (nd 2 (nd 0 (lf 0 (.inl (o_aload 0 1))) (nd 1 (lf 1 (.inl (o_iload 1 2))) (lf 2 (.inr (.inr (102, 2, 2, 3)))))) (nd 5 (lf 5 (.inl (o_ifne 13 8))) (nd 8 (lf 8 (.inl (o_aload 0 9))) (lf 9 (.inr (.inr (95, 1, 1, 3))))))) (nd 14 (nd 12 (lf 12 (.inr (.inl 1))) (nd 13 (lf 13 (.inl (o_aload 0 14))) (lf 14 (.inl (o_iload 1 15))))) (nd 15 (lf 15 (.inr (.inr (130, 2, 4, 3)))) (nd 18 (lf 18 (.inl (o_istore 2 19))) (lf 19 (.inl (o_iload 2 20))))))) (nd 29 (nd 24 (nd 20 (lf 20 (.inl (o_iconst (-1) 21))) (nd 21 (lf 21 (.inl (o_icne 29 24))) (lf 24 (.inl (o_aload 0 25))))) (nd 25 (lf 25 (.inr (.inr (97, 1, 1, 3)))) (nd 28 (lf 28 (.inr (.inl 1))) (lf 29 (.inl (o_aload 0 30)))))) (nd 34 (nd 30 (lf 30 (.inr (.inr (134, 1, 2, 3)))) (nd 33 (lf 33 (.inl (o_aload 0 34))) (lf 34 (.inl (o_iload 2 35))))) (nd 35 (lf 35 (.inr (.inr (137, 2, 2, 3)))) (nd 38 (lf 38 (.inl (o_iload 2 39))) (lf 39 (.inr (.inl 1))))))))
def tb_X4_evening : Nat → Option AI := (nd 22 (nd 11 (nd 2 (nd 0 (lf 0 (.inl (o_iload 1 1))) (nd 1 (lf 1 (.inl (o_iconst 1 2))) (lf 2 (.inl (o_iconst 30 4))))) (nd 7 (nd 4 (lf 4 (.inr (.inr (99, 3, 3, 9)))) (lf 7 (.inl (o_ifne 15 10)))) (nd 10 (lf 10 (.inl (o_aload 0 11))) (lf 11 (.inr (.inr (95, 1, 1, 3))))))) (nd 16 (nd 14 (lf 14 (.inr (.inl 1))) (nd 15 (lf 15 (.inl (o_aload 0 16))) (lf 16 (.inr (.inr (134, 1, 2, 3)))))) (nd 20 (nd 19 (lf 19 (.inl (o_iconst 0 20))) (lf 20 (.inl (o_istore 2 21)))) (nd 21 (lf 21 (.inl (o_iconst 0 22))) (lf 22 (.inl (o_istore 3 23))))))) (nd 34 (nd 25 (nd 23 (lf 23 (.inl (o_iload 3 24))) (nd 24 (lf 24 (.inl (o_iload 1 25))) (lf 25 (.inl (o_icge 45 28))))) (nd 29 (nd 28 (lf 28 (.inl (o_aload 0 29))) (lf 29 (.inr (.inr (139, 1, 4, 3))))) (nd 32 (lf 32 (.inl (o_istore 4 34))) (lf 34 (.inl (o_iload 2 35)))))) (nd 38 (nd 35 (lf 35 (.inl (o_iload 4 37))) (nd 37 (lf 37 (.inl (o_iadd 38))) (lf 38 (.inl (o_istore 2 39))))) (nd 42 (nd 39 (lf 39 (.inl (o_iinc 3 1 42))) (lf 42 (.inl (o_goto 23)))) (nd 45 (lf 45 (.inl (o_iload 2 46))) (lf 46 (.inr (.inl 1))))))))
def tb_X4_undo : Nat → Option AI := (nd 18 (nd 8 (nd 1 (nd 0 (lf 0 (.inl (o_aload 0 1))) (lf 1 (.inl (o_getI 3 23 4)))) (nd 4 (lf 4 (.inl (o_ifne 12 7))) (nd 7 (lf 7 (.inl (o_aload 0 8))) (lf 8 (.inr (.inr (97, 1, 1, 3))))))) (nd 13 (nd 11 (lf 11 (.inr (.inl 1))) (nd 12 (lf 12 (.inl (o_aload 0 13))) (lf 13 (.inl (o_dup 14))))) (nd 14 (lf 14 (.inl (o_getI 3 23 17))) (nd 17 (lf 17 (.inl (o_iconst 1 18))) (lf 18 (.inl (o_isub 19))))))) (nd 29 (nd 23 (nd 19 (lf 19 (.inl (o_putI 3 23 22))) (nd 22 (lf 22 (.inl (o_aload 0 23))) (lf 23 (.inl (o_aload 0 24))))) (nd 24 (lf 24 (.inl (o_getR 3 22 16 27))) (nd 27 (lf 27 (.inl (o_iconst 19 29))) (lf 29 (.inl (o_aload 0 30)))))) (nd 34 (nd 30 (lf 30 (.inl (o_getI 3 23 33))) (nd 33 (lf 33 (.inl (o_imul 34))) (lf 34 (.inr (.inr (133, 3, 4, 3)))))) (nd 37 (lf 37 (.inl (o_aload 0 38))) (nd 38 (lf 38 (.inl (o_getI 3 2 41))) (lf 41 (.inr (.inl 1))))))))
def tb_X4_of : Nat → Option AI := (nd 26 (nd 10 (nd 2 (nd 0 (lf 0 (.inl (o_aload 0 1))) (nd 1 (lf 1 (.inl (o_iload 1 2))) (lf 2 (.inr (.inr (102, 2, 2, 3)))))) (nd 8 (nd 5 (lf 5 (.inl (o_ifeq 17 8))) (lf 8 (.inl (o_iload 2 9)))) (nd 9 (lf 9 (.inl (o_iconst 0 10))) (lf 10 (.inl (o_iconst 2 11)))))) (nd 18 (nd 14 (nd 11 (lf 11 (.inr (.inr (99, 3, 3, 9)))) (lf 14 (.inl (o_ifne 22 17)))) (nd 17 (lf 17 (.inl (o_aload 0 18))) (lf 18 (.inr (.inr (96, 1, 1, 3)))))) (nd 22 (nd 21 (lf 21 (.inr (.inl 1))) (lf 22 (.inl (o_iload 2 23)))) (nd 23 (lf 23 (.inl (o_ifne 35 26))) (lf 26 (.inl (o_aload 0 27))))))) (nd 37 (nd 31 (nd 27 (lf 27 (.inl (o_getR 3 6 4 30))) (nd 30 (lf 30 (.inl (o_iload 1 31))) (lf 31 (.inl (o_iald 4 32))))) (nd 35 (nd 32 (lf 32 (.inl (o_goto 53))) (lf 35 (.inl (o_iload 2 36)))) (nd 36 (lf 36 (.inl (o_iconst 1 37))) (lf 37 (.inl (o_icne 48 40)))))) (nd 45 (nd 41 (nd 40 (lf 40 (.inl (o_aload 0 41))) (lf 41 (.inl (o_iload 1 42)))) (nd 42 (lf 42 (.inr (.inr (130, 2, 4, 3)))) (lf 45 (.inl (o_goto 53))))) (nd 49 (nd 48 (lf 48 (.inl (o_aload 0 49))) (lf 49 (.inl (o_iload 1 50)))) (nd 50 (lf 50 (.inr (.inr (131, 2, 3, 3)))) (lf 53 (.inr (.inl 1))))))))
def tb_X4_about : Nat → Option AI := (nd 64 (nd 17 (nd 8 (nd 1 (nd 0 (lf 0 (.inl (o_aload 0 1))) (lf 1 (.inl (o_iload 1 2)))) (nd 2 (lf 2 (.inr (.inr (102, 2, 2, 3)))) (nd 5 (lf 5 (.inl (o_ifeq 17 8))) (lf 8 (.inl (o_iload 2 9)))))) (nd 10 (nd 9 (lf 9 (.inl (o_iconst 0 10))) (lf 10 (.inl (o_iconst 5 11)))) (nd 11 (lf 11 (.inr (.inr (99, 3, 3, 9)))) (nd 14 (lf 14 (.inl (o_ifne 22 17))) (lf 17 (.inl (o_aload 0 18))))))) (nd 56 (nd 21 (nd 18 (lf 18 (.inr (.inr (96, 1, 1, 3)))) (lf 21 (.inr (.inl 1)))) (nd 22 (lf 22 (.inl (o_iload 2 23))) (nd 23 (lf 23 (.inl (o_tsw 0 [56, 63, 70, 77, 84] 91))) (lf 56 (.inl (o_aload 0 57)))))) (nd 61 (nd 57 (lf 57 (.inl (o_getR 3 4 2 60))) (nd 60 (lf 60 (.inl (o_iload 1 61))) (lf 61 (.inl (o_iald 4 62))))) (nd 62 (lf 62 (.inr (.inl 1))) (nd 63 (lf 63 (.inl (o_aload 0 64))) (lf 64 (.inl (o_getR 3 5 3 67)))))))) (nd 81 (nd 71 (nd 68 (nd 67 (lf 67 (.inl (o_iload 1 68))) (lf 68 (.inl (o_iald 4 69)))) (nd 69 (lf 69 (.inr (.inl 1))) (nd 70 (lf 70 (.inl (o_aload 0 71))) (lf 71 (.inl (o_getR 3 7 5 74)))))) (nd 76 (nd 74 (lf 74 (.inl (o_iload 1 75))) (nd 75 (lf 75 (.inl (o_iald 4 76))) (lf 76 (.inr (.inl 1))))) (nd 77 (lf 77 (.inl (o_aload 0 78))) (nd 78 (lf 78 (.inl (o_getR 3 8 6 81))) (lf 81 (.inl (o_iload 1 82))))))) (nd 88 (nd 83 (nd 82 (lf 82 (.inl (o_iald 4 83))) (lf 83 (.inr (.inl 1)))) (nd 84 (lf 84 (.inl (o_aload 0 85))) (nd 85 (lf 85 (.inl (o_getR 3 9 7 88))) (lf 88 (.inl (o_iload 1 89)))))) (nd 91 (nd 89 (lf 89 (.inl (o_iald 4 90))) (nd 90 (lf 90 (.inr (.inl 1))) (lf 91 (.inl (o_aload 0 92))))) (nd 92 (lf 92 (.inl (o_iload 1 93))) (nd 93 (lf 93 (.inr (.inr (128, 2, 2, 3)))) (lf 96 (.inr (.inl 1)))))))))
def tb_X4_fit : Nat → Option AI := (nd 13 (nd 5 (nd 1 (nd 0 (lf 0 (.inl (o_aload 0 1))) (lf 1 (.inl (o_iload 1 2)))) (nd 2 (lf 2 (.inr (.inr (102, 2, 2, 3)))) (lf 5 (.inl (o_ifeq 25 8))))) (nd 9 (nd 8 (lf 8 (.inl (o_aload 0 9))) (lf 9 (.inl (o_iload 2 10)))) (nd 10 (lf 10 (.inr (.inr (102, 2, 2, 3)))) (lf 13 (.inl (o_ifeq 25 16)))))) (nd 19 (nd 17 (nd 16 (lf 16 (.inl (o_aload 0 17))) (lf 17 (.inl (o_iload 1 18)))) (nd 18 (lf 18 (.inl (o_iload 2 19))) (lf 19 (.inr (.inr (129, 3, 4, 3)))))) (nd 25 (nd 22 (lf 22 (.inl (o_goto 29))) (lf 25 (.inl (o_aload 0 26)))) (nd 26 (lf 26 (.inr (.inr (95, 1, 1, 3)))) (lf 29 (.inr (.inl 1)))))))
def tb_X4_nextLine : Nat → Option AI := (nd 75 (nd 38 (nd 16 (nd 6 (nd 1 (nd 0 (lf 0 (.inl (o_aload 0 1))) (lf 1 (.inl (o_getI 3 1 4)))) (nd 4 (lf 4 (.inl (o_iconst 2 5))) (nd 5 (lf 5 (.inl (o_isub 6))) (lf 6 (.inl (o_istore 1 7)))))) (nd 11 (nd 7 (lf 7 (.inl (o_iload 1 8))) (nd 8 (lf 8 (.inl (o_iflt 34 11))) (lf 11 (.inl (o_aload 0 12))))) (nd 12 (lf 12 (.inl (o_getR 3 25 18 15))) (nd 15 (lf 15 (.inl (o_iload 1 16))) (lf 16 (.inl (o_iald 4 17))))))) (nd 24 (nd 21 (nd 17 (lf 17 (.inl (o_aload 0 18))) (nd 18 (lf 18 (.inl (o_getR 3 25 18 21))) (lf 21 (.inl (o_iload 1 22))))) (nd 22 (lf 22 (.inl (o_iconst 1 23))) (nd 23 (lf 23 (.inl (o_iadd 24))) (lf 24 (.inl (o_iald 4 25)))))) (nd 31 (nd 25 (lf 25 (.inl (o_icle 34 28))) (nd 28 (lf 28 (.inl (o_iinc 1 (-1) 31))) (lf 31 (.inl (o_goto 7))))) (nd 34 (lf 34 (.inl (o_iload 1 35))) (nd 35 (lf 35 (.inl (o_ifge 40 38))) (lf 38 (.inl (o_iconst 0 39)))))))) (nd 53 (nd 45 (nd 40 (nd 39 (lf 39 (.inr (.inl 3))) (lf 40 (.inl (o_aload 0 41)))) (nd 41 (lf 41 (.inl (o_getI 3 1 44))) (nd 44 (lf 44 (.inl (o_iconst 1 45))) (lf 45 (.inl (o_isub 46)))))) (nd 48 (nd 46 (lf 46 (.inl (o_istore 2 47))) (nd 47 (lf 47 (.inl (o_aload 0 48))) (lf 48 (.inl (o_getR 3 25 18 51))))) (nd 51 (lf 51 (.inl (o_iload 2 52))) (nd 52 (lf 52 (.inl (o_iald 4 53))) (lf 53 (.inl (o_aload 0 54))))))) (nd 65 (nd 58 (nd 54 (lf 54 (.inl (o_getR 3 25 18 57))) (nd 57 (lf 57 (.inl (o_iload 1 58))) (lf 58 (.inl (o_iald 4 59))))) (nd 59 (lf 59 (.inl (o_icge 68 62))) (nd 62 (lf 62 (.inl (o_iinc 2 (-1) 65))) (lf 65 (.inl (o_goto 47)))))) (nd 72 (nd 68 (lf 68 (.inl (o_aload 0 69))) (nd 69 (lf 69 (.inl (o_getR 3 25 18 72))) (lf 72 (.inl (o_iload 1 73))))) (nd 73 (lf 73 (.inl (o_iald 4 74))) (nd 74 (lf 74 (.inl (o_istore 3 75))) (lf 75 (.inl (o_aload 0 76))))))))) (nd 109 (nd 92 (nd 84 (nd 79 (nd 76 (lf 76 (.inl (o_getR 3 25 18 79))) (lf 79 (.inl (o_iload 1 80)))) (nd 80 (lf 80 (.inl (o_aload 0 81))) (nd 81 (lf 81 (.inl (o_getR 3 25 18 84))) (lf 84 (.inl (o_iload 2 85)))))) (nd 87 (nd 85 (lf 85 (.inl (o_iald 4 86))) (nd 86 (lf 86 (.inl (o_iast 87))) (lf 87 (.inl (o_aload 0 88))))) (nd 88 (lf 88 (.inl (o_getR 3 25 18 91))) (nd 91 (lf 91 (.inl (o_iload 2 92))) (lf 92 (.inl (o_iload 3 93))))))) (nd 99 (nd 95 (nd 93 (lf 93 (.inl (o_iast 94))) (nd 94 (lf 94 (.inl (o_iload 1 95))) (lf 95 (.inl (o_iconst 1 96))))) (nd 96 (lf 96 (.inl (o_iadd 97))) (nd 97 (lf 97 (.inl (o_istore 4 99))) (lf 99 (.inl (o_aload 0 100)))))) (nd 104 (nd 100 (lf 100 (.inl (o_getI 3 1 103))) (nd 103 (lf 103 (.inl (o_iconst 1 104))) (lf 104 (.inl (o_isub 105))))) (nd 105 (lf 105 (.inl (o_istore 5 107))) (nd 107 (lf 107 (.inl (o_iload 4 109))) (lf 109 (.inl (o_iload 5 111)))))))) (nd 132 (nd 121 (nd 115 (nd 111 (lf 111 (.inl (o_icge 153 114))) (nd 114 (lf 114 (.inl (o_aload 0 115))) (lf 115 (.inl (o_getR 3 25 18 118))))) (nd 118 (lf 118 (.inl (o_iload 4 120))) (nd 120 (lf 120 (.inl (o_iald 4 121))) (lf 121 (.inl (o_istore 3 122)))))) (nd 126 (nd 122 (lf 122 (.inl (o_aload 0 123))) (nd 123 (lf 123 (.inl (o_getR 3 25 18 126))) (lf 126 (.inl (o_iload 4 128))))) (nd 128 (lf 128 (.inl (o_aload 0 129))) (nd 129 (lf 129 (.inl (o_getR 3 25 18 132))) (lf 132 (.inl (o_iload 5 134))))))) (nd 142 (nd 136 (nd 134 (lf 134 (.inl (o_iald 4 135))) (nd 135 (lf 135 (.inl (o_iast 136))) (lf 136 (.inl (o_aload 0 137))))) (nd 137 (lf 137 (.inl (o_getR 3 25 18 140))) (nd 140 (lf 140 (.inl (o_iload 5 142))) (lf 142 (.inl (o_iload 3 143)))))) (nd 147 (nd 143 (lf 143 (.inl (o_iast 144))) (nd 144 (lf 144 (.inl (o_iinc 4 1 147))) (lf 147 (.inl (o_iinc 5 (-1) 150))))) (nd 150 (lf 150 (.inl (o_goto 107))) (nd 153 (lf 153 (.inl (o_iconst 1 154))) (lf 154 (.inr (.inl 3))))))))))
def tb_X4_best : Nat → Option AI := (nd 75 (nd 35 (nd 18 (nd 6 (nd 1 (nd 0 (lf 0 (.inl (o_iload 1 1))) (lf 1 (.inl (o_iconst (-1) 2)))) (nd 2 (lf 2 (.inl (o_iceq 18 5))) (nd 5 (lf 5 (.inl (o_aload 0 6))) (lf 6 (.inl (o_iload 1 7)))))) (nd 13 (nd 7 (lf 7 (.inr (.inr (102, 2, 2, 3)))) (nd 10 (lf 10 (.inl (o_ifne 18 13))) (lf 13 (.inl (o_aload 0 14))))) (nd 14 (lf 14 (.inr (.inr (96, 1, 1, 3)))) (nd 17 (lf 17 (.inr (.inl 1))) (lf 18 (.inl (o_iconst 0 19))))))) (nd 25 (nd 20 (nd 19 (lf 19 (.inl (o_istore 2 20))) (lf 20 (.inl (o_iload 2 21)))) (nd 21 (lf 21 (.inl (o_aload 0 22))) (nd 22 (lf 22 (.inl (o_getI 3 1 25))) (lf 25 (.inl (o_icge 41 28)))))) (nd 32 (nd 28 (lf 28 (.inl (o_aload 0 29))) (nd 29 (lf 29 (.inl (o_getR 3 25 18 32))) (lf 32 (.inl (o_iload 2 33))))) (nd 33 (lf 33 (.inl (o_iload 2 34))) (nd 34 (lf 34 (.inl (o_iast 35))) (lf 35 (.inl (o_iinc 2 1 38)))))))) (nd 53 (nd 44 (nd 41 (nd 38 (lf 38 (.inl (o_goto 20))) (lf 41 (.inl (o_iconst (-1) 42)))) (nd 42 (lf 42 (.inl (o_istore 2 43))) (nd 43 (lf 43 (.inl (o_iconst 1 44))) (lf 44 (.inl (o_istore 3 45)))))) (nd 49 (nd 45 (lf 45 (.inl (o_iload 3 46))) (nd 46 (lf 46 (.inl (o_ifeq 147 49))) (lf 49 (.inl (o_iconst 0 50))))) (nd 50 (lf 50 (.inl (o_istore 4 52))) (nd 52 (lf 52 (.inl (o_iconst 0 53))) (lf 53 (.inl (o_istore 5 55))))))) (nd 64 (nd 57 (nd 55 (lf 55 (.inl (o_iload 5 57))) (lf 57 (.inl (o_aload 0 58)))) (nd 58 (lf 58 (.inl (o_getI 3 1 61))) (nd 61 (lf 61 (.inl (o_icge 88 64))) (lf 64 (.inl (o_iload 4 66)))))) (nd 69 (nd 66 (lf 66 (.inl (o_aload 0 67))) (nd 67 (lf 67 (.inl (o_iload 5 69))) (lf 69 (.inl (o_aload 0 70))))) (nd 70 (lf 70 (.inl (o_getR 3 25 18 73))) (nd 73 (lf 73 (.inl (o_iload 5 75))) (lf 75 (.inl (o_iald 4 76))))))))) (nd 119 (nd 97 (nd 85 (nd 79 (nd 76 (lf 76 (.inr (.inr (129, 3, 4, 3)))) (lf 79 (.inl (o_iadd 80)))) (nd 80 (lf 80 (.inl (o_istore 4 82))) (nd 82 (lf 82 (.inl (o_iinc 5 1 85))) (lf 85 (.inl (o_goto 55)))))) (nd 91 (nd 88 (lf 88 (.inl (o_iconst 0 89))) (nd 89 (lf 89 (.inl (o_istore 5 91))) (lf 91 (.inl (o_iload 5 93))))) (nd 93 (lf 93 (.inl (o_aload 0 94))) (nd 94 (lf 94 (.inl (o_getI 3 1 97))) (lf 97 (.inl (o_icge 126 100))))))) (nd 107 (nd 102 (nd 100 (lf 100 (.inl (o_iload 4 102))) (lf 102 (.inl (o_iload 2 103)))) (nd 103 (lf 103 (.inl (o_icle 126 106))) (nd 106 (lf 106 (.inl (o_aload 0 107))) (lf 107 (.inl (o_getR 3 26 19 110)))))) (nd 113 (nd 110 (lf 110 (.inl (o_iload 5 112))) (nd 112 (lf 112 (.inl (o_aload 0 113))) (lf 113 (.inl (o_getR 3 25 18 116))))) (nd 116 (lf 116 (.inl (o_iload 5 118))) (nd 118 (lf 118 (.inl (o_iald 4 119))) (lf 119 (.inl (o_iast 120)))))))) (nd 140 (nd 129 (nd 123 (nd 120 (lf 120 (.inl (o_iinc 5 1 123))) (lf 123 (.inl (o_goto 91)))) (nd 126 (lf 126 (.inl (o_iload 4 128))) (nd 128 (lf 128 (.inl (o_iload 2 129))) (lf 129 (.inl (o_icle 137 132)))))) (nd 137 (nd 132 (lf 132 (.inl (o_iload 4 134))) (nd 134 (lf 134 (.inl (o_goto 138))) (lf 137 (.inl (o_iload 2 138))))) (nd 138 (lf 138 (.inl (o_istore 2 139))) (nd 139 (lf 139 (.inl (o_aload 0 140))) (lf 140 (.inr (.inr (147, 1, 6, 3)))))))) (nd 152 (nd 147 (nd 143 (lf 143 (.inl (o_istore 3 144))) (nd 144 (lf 144 (.inl (o_goto 45))) (lf 147 (.inl (o_iload 1 148))))) (nd 148 (lf 148 (.inl (o_iconst (-1) 149))) (nd 149 (lf 149 (.inl (o_icne 156 152))) (lf 152 (.inl (o_iload 2 153)))))) (nd 157 (nd 153 (lf 153 (.inl (o_goto 162))) (nd 156 (lf 156 (.inl (o_aload 0 157))) (lf 157 (.inl (o_getR 3 26 19 160))))) (nd 160 (lf 160 (.inl (o_iload 1 161))) (nd 161 (lf 161 (.inl (o_iald 4 162))) (lf 162 (.inr (.inl 1))))))))))
def tb_X4_dumb : Nat → Option AI := (nd 15 (nd 5 (nd 2 (nd 0 (lf 0 (.inl (o_iconst 0 1))) (nd 1 (lf 1 (.inl (o_istore 1 2))) (lf 2 (.inl (o_iconst 0 3))))) (nd 3 (lf 3 (.inl (o_istore 2 4))) (nd 4 (lf 4 (.inl (o_iload 2 5))) (lf 5 (.inl (o_aload 0 6)))))) (nd 12 (nd 6 (lf 6 (.inl (o_getI 3 1 9))) (nd 9 (lf 9 (.inl (o_icge 37 12))) (lf 12 (.inl (o_iload 1 13))))) (nd 13 (lf 13 (.inl (o_aload 0 14))) (nd 14 (lf 14 (.inl (o_iload 2 15))) (lf 15 (.inr (.inr (130, 2, 4, 3)))))))) (nd 25 (nd 22 (nd 18 (lf 18 (.inl (o_iconst (-1) 19))) (nd 19 (lf 19 (.inl (o_icne 28 22))) (lf 22 (.inl (o_iconst 1 23))))) (nd 23 (lf 23 (.inl (o_iload 2 24))) (nd 24 (lf 24 (.inl (o_ishl 25))) (lf 25 (.inl (o_goto 29)))))) (nd 30 (nd 28 (lf 28 (.inl (o_iconst 0 29))) (nd 29 (lf 29 (.inl (o_ior 30))) (lf 30 (.inl (o_istore 1 31))))) (nd 34 (nd 31 (lf 31 (.inl (o_iinc 2 1 34))) (lf 34 (.inl (o_goto 4)))) (nd 37 (lf 37 (.inl (o_iload 1 38))) (lf 38 (.inr (.inl 1))))))))
def tb_X4_ringOf : Nat → Option AI := (nd 15 (nd 7 (nd 2 (nd 0 (lf 0 (.inl (o_aload 0 1))) (nd 1 (lf 1 (.inl (o_iload 1 2))) (lf 2 (.inr (.inr (130, 2, 4, 3)))))) (nd 5 (lf 5 (.inl (o_istore 2 6))) (nd 6 (lf 6 (.inl (o_iconst 1 7))) (lf 7 (.inl (o_istore 3 8)))))) (nd 10 (nd 8 (lf 8 (.inl (o_iload 2 9))) (nd 9 (lf 9 (.inl (o_iconst (-1) 10))) (lf 10 (.inl (o_iceq 30 13))))) (nd 13 (lf 13 (.inl (o_iload 2 14))) (nd 14 (lf 14 (.inl (o_iload 1 15))) (lf 15 (.inl (o_iceq 30 18))))))) (nd 27 (nd 20 (nd 18 (lf 18 (.inl (o_aload 0 19))) (nd 19 (lf 19 (.inl (o_iload 2 20))) (lf 20 (.inr (.inr (130, 2, 4, 3)))))) (nd 23 (lf 23 (.inl (o_istore 2 24))) (nd 24 (lf 24 (.inl (o_iinc 3 1 27))) (lf 27 (.inl (o_goto 8)))))) (nd 32 (nd 30 (lf 30 (.inl (o_iload 2 31))) (nd 31 (lf 31 (.inl (o_iconst (-1) 32))) (lf 32 (.inl (o_icne 39 35))))) (nd 36 (nd 35 (lf 35 (.inl (o_iconst 0 36))) (lf 36 (.inl (o_goto 40)))) (nd 39 (lf 39 (.inl (o_iload 3 40))) (lf 40 (.inr (.inl 1))))))))
def tb_X4_own : Nat → Option AI := (nd 59 (nd 28 (nd 12 (nd 3 (nd 1 (nd 0 (lf 0 (.inl (o_iconst 0 1))) (lf 1 (.inl (o_istore 1 2)))) (nd 2 (lf 2 (.inl (o_iconst 0 3))) (lf 3 (.inl (o_istore 2 4))))) (nd 5 (nd 4 (lf 4 (.inl (o_iload 2 5))) (lf 5 (.inl (o_aload 0 6)))) (nd 6 (lf 6 (.inl (o_getI 3 1 9))) (nd 9 (lf 9 (.inl (o_icge 36 12))) (lf 12 (.inl (o_iload 1 13))))))) (nd 19 (nd 14 (nd 13 (lf 13 (.inl (o_aload 0 14))) (lf 14 (.inl (o_getR 3 7 5 17)))) (nd 17 (lf 17 (.inl (o_iload 2 18))) (nd 18 (lf 18 (.inl (o_iald 4 19))) (lf 19 (.inl (o_iload 2 20)))))) (nd 23 (nd 20 (lf 20 (.inl (o_icne 27 23))) (lf 23 (.inl (o_iconst 0 24)))) (nd 24 (lf 24 (.inl (o_goto 28))) (nd 27 (lf 27 (.inl (o_iconst 1 28))) (lf 28 (.inl (o_iadd 29)))))))) (nd 43 (nd 36 (nd 30 (nd 29 (lf 29 (.inl (o_istore 1 30))) (lf 30 (.inl (o_iinc 2 1 33)))) (nd 33 (lf 33 (.inl (o_goto 4))) (lf 36 (.inl (o_iconst 0 37))))) (nd 38 (nd 37 (lf 37 (.inl (o_istore 2 38))) (lf 38 (.inl (o_iload 2 39)))) (nd 39 (lf 39 (.inl (o_aload 0 40))) (nd 40 (lf 40 (.inl (o_getI 3 1 43))) (lf 43 (.inl (o_icge 134 46))))))) (nd 52 (nd 47 (nd 46 (lf 46 (.inl (o_aload 0 47))) (lf 47 (.inl (o_iload 2 48)))) (nd 48 (lf 48 (.inr (.inr (150, 2, 4, 3)))) (nd 51 (lf 51 (.inl (o_istore 3 52))) (lf 52 (.inl (o_iload 3 53)))))) (nd 54 (nd 53 (lf 53 (.inl (o_iconst 1 54))) (lf 54 (.inl (o_icle 65 57)))) (nd 57 (lf 57 (.inl (o_aload 0 58))) (nd 58 (lf 58 (.inl (o_iload 2 59))) (lf 59 (.inr (.inr (130, 2, 4, 3)))))))))) (nd 97 (nd 77 (nd 68 (nd 65 (nd 62 (lf 62 (.inl (o_goto 66))) (lf 65 (.inl (o_iload 2 66)))) (nd 66 (lf 66 (.inl (o_istore 4 68))) (lf 68 (.inl (o_iload 3 69))))) (nd 70 (nd 69 (lf 69 (.inl (o_iconst 1 70))) (lf 70 (.inl (o_icle 77 73)))) (nd 73 (lf 73 (.inl (o_iconst 1 74))) (nd 74 (lf 74 (.inl (o_goto 78))) (lf 77 (.inl (o_iconst 0 78))))))) (nd 86 (nd 80 (nd 78 (lf 78 (.inl (o_istore 5 80))) (lf 80 (.inl (o_iload 4 82)))) (nd 82 (lf 82 (.inl (o_iload 2 83))) (nd 83 (lf 83 (.inl (o_iceq 115 86))) (lf 86 (.inl (o_iload 5 88)))))) (nd 91 (nd 88 (lf 88 (.inl (o_ifeq 101 91))) (lf 91 (.inl (o_iload 4 93)))) (nd 93 (lf 93 (.inl (o_iload 2 94))) (nd 94 (lf 94 (.inl (o_icle 101 97))) (lf 97 (.inl (o_iconst 1 98)))))))) (nd 116 (nd 105 (nd 101 (nd 98 (lf 98 (.inl (o_goto 102))) (lf 101 (.inl (o_iconst 0 102)))) (nd 102 (lf 102 (.inl (o_istore 5 104))) (nd 104 (lf 104 (.inl (o_aload 0 105))) (lf 105 (.inl (o_iload 4 107)))))) (nd 110 (nd 107 (lf 107 (.inr (.inr (130, 2, 4, 3)))) (lf 110 (.inl (o_istore 4 112)))) (nd 112 (lf 112 (.inl (o_goto 80))) (nd 115 (lf 115 (.inl (o_iload 1 116))) (lf 116 (.inl (o_iload 5 118))))))) (nd 126 (nd 121 (nd 118 (lf 118 (.inl (o_ifeq 125 121))) (lf 121 (.inl (o_iconst 1 122)))) (nd 122 (lf 122 (.inl (o_goto 126))) (nd 125 (lf 125 (.inl (o_iconst 0 126))) (lf 126 (.inl (o_iadd 127)))))) (nd 128 (nd 127 (lf 127 (.inl (o_istore 1 128))) (lf 128 (.inl (o_iinc 2 1 131)))) (nd 131 (lf 131 (.inl (o_goto 38))) (nd 134 (lf 134 (.inl (o_iload 1 135))) (lf 135 (.inr (.inl 1))))))))))
def tb_X4_ring : Nat → Option AI := (nd 8 (nd 1 (nd 0 (lf 0 (.inl (o_aload 0 1))) (lf 1 (.inl (o_iload 1 2)))) (nd 2 (lf 2 (.inr (.inr (102, 2, 2, 3)))) (nd 5 (lf 5 (.inl (o_ifeq 16 8))) (lf 8 (.inl (o_aload 0 9)))))) (nd 13 (nd 9 (lf 9 (.inl (o_iload 1 10))) (nd 10 (lf 10 (.inr (.inr (150, 2, 4, 3)))) (lf 13 (.inl (o_goto 20))))) (nd 16 (lf 16 (.inl (o_aload 0 17))) (nd 17 (lf 17 (.inr (.inr (95, 1, 1, 3)))) (lf 20 (.inr (.inl 1)))))))
def tb_X4_isSwap : Nat → Option AI := (nd 28 (nd 13 (nd 5 (nd 1 (nd 0 (lf 0 (.inl (o_aload 0 1))) (lf 1 (.inl (o_iload 1 2)))) (nd 2 (lf 2 (.inr (.inr (130, 2, 4, 3)))) (lf 5 (.inl (o_istore 3 6))))) (nd 7 (nd 6 (lf 6 (.inl (o_aload 0 7))) (lf 7 (.inl (o_iload 2 8)))) (nd 8 (lf 8 (.inr (.inr (130, 2, 4, 3)))) (nd 11 (lf 11 (.inl (o_istore 4 13))) (lf 13 (.inl (o_iload 3 14))))))) (nd 20 (nd 15 (nd 14 (lf 14 (.inl (o_iconst (-1) 15))) (lf 15 (.inl (o_iceq 60 18)))) (nd 18 (lf 18 (.inl (o_iload 4 20))) (lf 20 (.inl (o_iconst (-1) 21))))) (nd 24 (nd 21 (lf 21 (.inl (o_iceq 60 24))) (lf 24 (.inl (o_aload 0 25)))) (nd 25 (lf 25 (.inl (o_iload 1 26))) (nd 26 (lf 26 (.inl (o_iload 4 28))) (lf 28 (.inr (.inr (129, 3, 4, 3))))))))) (nd 43 (nd 34 (nd 32 (nd 31 (lf 31 (.inl (o_aload 0 32))) (lf 32 (.inl (o_iload 1 33)))) (nd 33 (lf 33 (.inl (o_iload 3 34))) (lf 34 (.inr (.inr (129, 3, 4, 3)))))) (nd 40 (nd 37 (lf 37 (.inl (o_icle 60 40))) (lf 40 (.inl (o_aload 0 41)))) (nd 41 (lf 41 (.inl (o_iload 2 42))) (nd 42 (lf 42 (.inl (o_iload 3 43))) (lf 43 (.inr (.inr (129, 3, 4, 3)))))))) (nd 50 (nd 47 (nd 46 (lf 46 (.inl (o_aload 0 47))) (lf 47 (.inl (o_iload 2 48)))) (nd 48 (lf 48 (.inl (o_iload 4 50))) (lf 50 (.inr (.inr (129, 3, 4, 3)))))) (nd 56 (nd 53 (lf 53 (.inl (o_icle 60 56))) (lf 56 (.inl (o_iconst 1 57)))) (nd 57 (lf 57 (.inl (o_goto 61))) (nd 60 (lf 60 (.inl (o_iconst 0 61))) (lf 61 (.inr (.inl 3)))))))))
def tb_X4_swaps : Nat → Option AI := (nd 43 (nd 18 (nd 9 (nd 2 (nd 0 (lf 0 (.inl (o_iload 1 1))) (nd 1 (lf 1 (.inl (o_iconst (-1) 2))) (lf 2 (.inl (o_icge 10 5))))) (nd 5 (lf 5 (.inl (o_aload 0 6))) (nd 6 (lf 6 (.inr (.inr (96, 1, 1, 3)))) (lf 9 (.inr (.inl 1)))))) (nd 12 (nd 10 (lf 10 (.inl (o_iconst 0 11))) (nd 11 (lf 11 (.inl (o_istore 2 12))) (lf 12 (.inl (o_iconst (-5) 14))))) (nd 15 (nd 14 (lf 14 (.inl (o_istore 3 15))) (lf 15 (.inl (o_iconst 0 16)))) (nd 16 (lf 16 (.inl (o_istore 4 18))) (lf 18 (.inl (o_iload 4 20))))))) (nd 30 (nd 24 (nd 20 (lf 20 (.inl (o_aload 0 21))) (nd 21 (lf 21 (.inl (o_getI 3 1 24))) (lf 24 (.inl (o_icge 86 27))))) (nd 27 (lf 27 (.inl (o_iload 4 29))) (nd 29 (lf 29 (.inl (o_iconst 1 30))) (lf 30 (.inl (o_iadd 31)))))) (nd 35 (nd 31 (lf 31 (.inl (o_istore 5 33))) (nd 33 (lf 33 (.inl (o_iload 5 35))) (lf 35 (.inl (o_aload 0 36))))) (nd 39 (nd 36 (lf 36 (.inl (o_getI 3 1 39))) (lf 39 (.inl (o_icge 80 42)))) (nd 42 (lf 42 (.inl (o_aload 0 43))) (lf 43 (.inl (o_iload 4 45)))))))) (nd 69 (nd 55 (nd 50 (nd 45 (lf 45 (.inl (o_iload 5 47))) (nd 47 (lf 47 (.inr (.inr (153, 3, 5, 3)))) (lf 50 (.inl (o_ifeq 74 53))))) (nd 53 (lf 53 (.inl (o_iload 2 54))) (nd 54 (lf 54 (.inl (o_iload 1 55))) (lf 55 (.inl (o_icne 69 58)))))) (nd 62 (nd 58 (lf 58 (.inl (o_iconst 10 60))) (nd 60 (lf 60 (.inl (o_iload 4 62))) (lf 62 (.inl (o_imul 63))))) (nd 65 (nd 63 (lf 63 (.inl (o_iload 5 65))) (lf 65 (.inl (o_iadd 66)))) (nd 66 (lf 66 (.inl (o_goto 70))) (lf 69 (.inl (o_iload 3 70))))))) (nd 83 (nd 74 (nd 70 (lf 70 (.inl (o_istore 3 71))) (nd 71 (lf 71 (.inl (o_iinc 2 1 74))) (lf 74 (.inl (o_iinc 5 1 77))))) (nd 77 (lf 77 (.inl (o_goto 33))) (nd 80 (lf 80 (.inl (o_iinc 4 1 83))) (lf 83 (.inl (o_goto 18)))))) (nd 88 (nd 86 (lf 86 (.inl (o_iload 1 87))) (nd 87 (lf 87 (.inl (o_iconst (-1) 88))) (lf 88 (.inl (o_icne 95 91))))) (nd 92 (nd 91 (lf 91 (.inl (o_iload 2 92))) (lf 92 (.inl (o_goto 96)))) (nd 95 (lf 95 (.inl (o_iload 3 96))) (lf 96 (.inr (.inl 1)))))))))
def tb_X4_firstSwap : Nat → Option AI := (nd 22 (nd 10 (nd 2 (nd 0 (lf 0 (.inl (o_iconst 0 1))) (nd 1 (lf 1 (.inl (o_istore 1 2))) (lf 2 (.inl (o_iload 1 3))))) (nd 4 (nd 3 (lf 3 (.inl (o_aload 0 4))) (lf 4 (.inl (o_getI 3 1 7)))) (nd 7 (lf 7 (.inl (o_icge 50 10))) (lf 10 (.inl (o_iload 1 11)))))) (nd 14 (nd 12 (nd 11 (lf 11 (.inl (o_iconst 1 12))) (lf 12 (.inl (o_iadd 13)))) (nd 13 (lf 13 (.inl (o_istore 2 14))) (lf 14 (.inl (o_iload 2 15))))) (nd 16 (nd 15 (lf 15 (.inl (o_aload 0 16))) (lf 16 (.inl (o_getI 3 1 19)))) (nd 19 (lf 19 (.inl (o_icge 44 22))) (lf 22 (.inl (o_aload 0 23))))))) (nd 35 (nd 28 (nd 24 (nd 23 (lf 23 (.inl (o_iload 1 24))) (lf 24 (.inl (o_iload 2 25)))) (nd 25 (lf 25 (.inr (.inr (153, 3, 5, 3)))) (lf 28 (.inl (o_ifeq 38 31))))) (nd 33 (nd 31 (lf 31 (.inl (o_iconst 10 33))) (lf 33 (.inl (o_iload 1 34)))) (nd 34 (lf 34 (.inl (o_imul 35))) (lf 35 (.inl (o_iload 2 36)))))) (nd 41 (nd 37 (nd 36 (lf 36 (.inl (o_iadd 37))) (lf 37 (.inr (.inl 1)))) (nd 38 (lf 38 (.inl (o_iinc 2 1 41))) (lf 41 (.inl (o_goto 14))))) (nd 47 (nd 44 (lf 44 (.inl (o_iinc 1 1 47))) (lf 47 (.inl (o_goto 2)))) (nd 50 (lf 50 (.inl (o_iconst (-1) 51))) (lf 51 (.inr (.inl 1))))))))
def tb_X4_steps : Nat → Option AI := (nd 36 (nd 18 (nd 7 (nd 4 (nd 0 (lf 0 (.inl (o_aload 0 1))) (nd 1 (lf 1 (.inr (.inr (135, 1, 1, 3)))) (lf 4 (.inl (o_iconst 0 5))))) (nd 5 (lf 5 (.inl (o_istore 1 6))) (nd 6 (lf 6 (.inl (o_aload 0 7))) (lf 7 (.inr (.inr (155, 1, 3, 3))))))) (nd 12 (nd 10 (lf 10 (.inl (o_istore 2 11))) (nd 11 (lf 11 (.inl (o_iload 1 12))) (lf 12 (.inl (o_iconst 60 14))))) (nd 14 (lf 14 (.inl (o_icge 73 17))) (nd 17 (lf 17 (.inl (o_iload 2 18))) (lf 18 (.inl (o_iconst (-1) 19))))))) (nd 27 (nd 23 (nd 19 (lf 19 (.inl (o_iceq 73 22))) (nd 22 (lf 22 (.inl (o_aload 0 23))) (lf 23 (.inl (o_iload 2 24))))) (nd 24 (lf 24 (.inl (o_iconst 10 26))) (nd 26 (lf 26 (.inl (o_idiv 27))) (lf 27 (.inr (.inr (130, 2, 4, 3))))))) (nd 32 (nd 30 (lf 30 (.inl (o_istore 3 31))) (nd 31 (lf 31 (.inl (o_aload 0 32))) (lf 32 (.inl (o_iload 2 33))))) (nd 33 (lf 33 (.inl (o_iconst 10 35))) (nd 35 (lf 35 (.inl (o_irem 36))) (lf 36 (.inr (.inr (130, 2, 4, 3))))))))) (nd 57 (nd 47 (nd 42 (nd 39 (lf 39 (.inl (o_istore 4 41))) (nd 41 (lf 41 (.inl (o_aload 0 42))) (lf 42 (.inl (o_getR 3 7 5 45))))) (nd 45 (lf 45 (.inl (o_iload 3 46))) (nd 46 (lf 46 (.inl (o_iload 2 47))) (lf 47 (.inl (o_iconst 10 49)))))) (nd 51 (nd 49 (lf 49 (.inl (o_irem 50))) (nd 50 (lf 50 (.inl (o_iast 51))) (lf 51 (.inl (o_aload 0 52))))) (nd 52 (lf 52 (.inl (o_getR 3 7 5 55))) (nd 55 (lf 55 (.inl (o_iload 4 57))) (lf 57 (.inl (o_iload 2 58))))))) (nd 66 (nd 61 (nd 58 (lf 58 (.inl (o_iconst 10 60))) (nd 60 (lf 60 (.inl (o_idiv 61))) (lf 61 (.inl (o_iast 62))))) (nd 62 (lf 62 (.inl (o_iinc 1 1 65))) (nd 65 (lf 65 (.inl (o_aload 0 66))) (lf 66 (.inr (.inr (155, 1, 3, 3))))))) (nd 73 (nd 69 (lf 69 (.inl (o_istore 2 70))) (nd 70 (lf 70 (.inl (o_goto 11))) (lf 73 (.inl (o_aload 0 74))))) (nd 74 (lf 74 (.inr (.inr (136, 1, 1, 3)))) (nd 77 (lf 77 (.inl (o_iload 1 78))) (lf 78 (.inr (.inl 1)))))))))
def tb_X4_worst : Nat → Option AI := (nd 43 (nd 18 (nd 9 (nd 2 (nd 0 (lf 0 (.inl (o_iload 1 1))) (nd 1 (lf 1 (.inl (o_iconst 0 2))) (lf 2 (.inl (o_iconst 1 3))))) (nd 3 (lf 3 (.inr (.inr (99, 3, 3, 9)))) (nd 6 (lf 6 (.inl (o_ifne 14 9))) (lf 9 (.inl (o_aload 0 10)))))) (nd 14 (nd 10 (lf 10 (.inr (.inr (95, 1, 1, 3)))) (nd 13 (lf 13 (.inr (.inl 1))) (lf 14 (.inl (o_iconst (-1) 15))))) (nd 16 (nd 15 (lf 15 (.inl (o_istore 2 16))) (lf 16 (.inl (o_iconst (-1) 17)))) (nd 17 (lf 17 (.inl (o_istore 3 18))) (lf 18 (.inl (o_iconst 0 19))))))) (nd 30 (nd 23 (nd 19 (lf 19 (.inl (o_istore 4 21))) (nd 21 (lf 21 (.inl (o_iload 4 23))) (lf 23 (.inl (o_aload 0 24))))) (nd 24 (lf 24 (.inl (o_getI 3 1 27))) (nd 27 (lf 27 (.inl (o_icge 86 30))) (lf 30 (.inl (o_aload 0 31)))))) (nd 36 (nd 31 (lf 31 (.inl (o_iload 4 33))) (nd 33 (lf 33 (.inr (.inr (131, 2, 3, 3)))) (lf 36 (.inl (o_istore 5 38))))) (nd 39 (nd 38 (lf 38 (.inl (o_iload 2 39))) (lf 39 (.inl (o_iconst (-1) 40)))) (nd 40 (lf 40 (.inl (o_iceq 49 43))) (lf 43 (.inl (o_iload 5 45)))))))) (nd 68 (nd 54 (nd 49 (nd 45 (lf 45 (.inl (o_iload 3 46))) (nd 46 (lf 46 (.inl (o_icge 53 49))) (lf 49 (.inl (o_iconst 1 50))))) (nd 50 (lf 50 (.inl (o_goto 54))) (nd 53 (lf 53 (.inl (o_iconst 0 54))) (lf 54 (.inl (o_istore 6 56)))))) (nd 61 (nd 56 (lf 56 (.inl (o_iload 6 58))) (nd 58 (lf 58 (.inl (o_ifeq 66 61))) (lf 61 (.inl (o_iload 4 63))))) (nd 66 (nd 63 (lf 63 (.inl (o_goto 67))) (lf 66 (.inl (o_iload 2 67)))) (nd 67 (lf 67 (.inl (o_istore 2 68))) (lf 68 (.inl (o_iload 6 70))))))) (nd 80 (nd 75 (nd 70 (lf 70 (.inl (o_ifeq 78 73))) (nd 73 (lf 73 (.inl (o_iload 5 75))) (lf 75 (.inl (o_goto 79))))) (nd 78 (lf 78 (.inl (o_iload 3 79))) (nd 79 (lf 79 (.inl (o_istore 3 80))) (lf 80 (.inl (o_iinc 4 1 83)))))) (nd 87 (nd 83 (lf 83 (.inl (o_goto 21))) (nd 86 (lf 86 (.inl (o_iload 1 87))) (lf 87 (.inl (o_ifne 94 90))))) (nd 91 (nd 90 (lf 90 (.inl (o_iload 2 91))) (lf 91 (.inl (o_goto 95)))) (nd 94 (lf 94 (.inl (o_iload 3 95))) (lf 95 (.inr (.inl 1)))))))))
def tb_X4_slips : Nat → Option AI := (nd 45 (nd 23 (nd 9 (nd 2 (nd 0 (lf 0 (.inl (o_aload 0 1))) (nd 1 (lf 1 (.inl (o_iload 1 2))) (lf 2 (.inr (.inr (102, 2, 2, 3)))))) (nd 5 (lf 5 (.inl (o_ifeq 18 8))) (nd 8 (lf 8 (.inl (o_iload 2 9))) (lf 9 (.inl (o_iconst 0 10)))))) (nd 15 (nd 10 (lf 10 (.inl (o_iconst 60 12))) (nd 12 (lf 12 (.inr (.inr (99, 3, 3, 9)))) (lf 15 (.inl (o_ifne 23 18))))) (nd 19 (nd 18 (lf 18 (.inl (o_aload 0 19))) (lf 19 (.inr (.inr (95, 1, 1, 3))))) (nd 22 (lf 22 (.inr (.inl 1))) (lf 23 (.inl (o_aload 0 24))))))) (nd 33 (nd 28 (nd 24 (lf 24 (.inl (o_getR 3 9 7 27))) (nd 27 (lf 27 (.inl (o_iload 1 28))) (lf 28 (.inl (o_iald 4 29))))) (nd 30 (nd 29 (lf 29 (.inl (o_istore 3 30))) (lf 30 (.inl (o_iconst 0 31)))) (nd 31 (lf 31 (.inl (o_istore 4 33))) (lf 33 (.inl (o_iload 4 35)))))) (nd 39 (nd 35 (lf 35 (.inl (o_iload 2 36))) (nd 36 (lf 36 (.inl (o_icge 90 39))) (lf 39 (.inl (o_iload 3 40))))) (nd 41 (nd 40 (lf 40 (.inl (o_aload 0 41))) (lf 41 (.inl (o_getR 3 7 5 44)))) (nd 44 (lf 44 (.inl (o_iload 1 45))) (lf 45 (.inl (o_iald 4 46)))))))) (nd 68 (nd 55 (nd 50 (nd 46 (lf 46 (.inl (o_iconst (-1) 47))) (nd 47 (lf 47 (.inl (o_iceq 60 50))) (lf 50 (.inl (o_aload 0 51))))) (nd 51 (lf 51 (.inl (o_getR 3 7 5 54))) (nd 54 (lf 54 (.inl (o_iload 1 55))) (lf 55 (.inl (o_iald 4 56)))))) (nd 60 (nd 56 (lf 56 (.inl (o_iload 1 57))) (nd 57 (lf 57 (.inl (o_icne 64 60))) (lf 60 (.inl (o_iconst 0 61))))) (nd 64 (nd 61 (lf 61 (.inl (o_goto 82))) (lf 64 (.inl (o_aload 0 65)))) (nd 65 (lf 65 (.inl (o_getR 3 4 2 68))) (lf 68 (.inl (o_iload 1 69))))))) (nd 78 (nd 71 (nd 69 (lf 69 (.inl (o_iald 4 70))) (nd 70 (lf 70 (.inl (o_aload 0 71))) (lf 71 (.inl (o_getR 3 8 6 74))))) (nd 75 (nd 74 (lf 74 (.inl (o_iload 1 75))) (lf 75 (.inl (o_iald 4 76)))) (nd 76 (lf 76 (.inl (o_iload 4 78))) (lf 78 (.inl (o_iadd 79)))))) (nd 83 (nd 79 (lf 79 (.inr (.inr (127, 2, 3, 9)))) (nd 82 (lf 82 (.inl (o_iadd 83))) (lf 83 (.inl (o_istore 3 84))))) (nd 87 (nd 84 (lf 84 (.inl (o_iinc 4 1 87))) (lf 87 (.inl (o_goto 33)))) (nd 90 (lf 90 (.inl (o_iload 3 91))) (lf 91 (.inr (.inl 1)))))))))
def tb_X4_note : Nat → Option AI := (nd 70 (nd 33 (nd 15 (nd 5 (nd 1 (nd 0 (lf 0 (.inl (o_aload 0 1))) (lf 1 (.inl (o_iload 1 2)))) (nd 2 (lf 2 (.inr (.inr (102, 2, 2, 3)))) (lf 5 (.inl (o_ifeq 50 8))))) (nd 9 (nd 8 (lf 8 (.inl (o_iload 2 9))) (lf 9 (.inl (o_iconst 0 10)))) (nd 10 (lf 10 (.inl (o_iconst 20 12))) (nd 12 (lf 12 (.inr (.inr (99, 3, 3, 9)))) (lf 15 (.inl (o_ifeq 50 18))))))) (nd 22 (nd 19 (nd 18 (lf 18 (.inl (o_iload 3 19))) (lf 19 (.inl (o_iconst 0 20)))) (nd 20 (lf 20 (.inl (o_iconst 99 22))) (lf 22 (.inr (.inr (99, 3, 3, 9)))))) (nd 28 (nd 25 (lf 25 (.inl (o_ifeq 50 28))) (lf 28 (.inl (o_iload 4 30)))) (nd 30 (lf 30 (.inl (o_iconst 0 31))) (nd 31 (lf 31 (.inl (o_iconst 9 33))) (lf 33 (.inr (.inr (99, 3, 3, 9))))))))) (nd 54 (nd 42 (nd 39 (nd 36 (lf 36 (.inl (o_ifeq 50 39))) (lf 39 (.inl (o_iload 5 41)))) (nd 41 (lf 41 (.inl (o_iconst 0 42))) (lf 42 (.inl (o_iconst 9 44))))) (nd 47 (nd 44 (lf 44 (.inr (.inr (99, 3, 3, 9)))) (lf 47 (.inl (o_ifne 55 50)))) (nd 50 (lf 50 (.inl (o_aload 0 51))) (nd 51 (lf 51 (.inr (.inr (95, 1, 1, 3)))) (lf 54 (.inr (.inl 1))))))) (nd 61 (nd 56 (nd 55 (lf 55 (.inl (o_aload 0 56))) (lf 56 (.inl (o_getI 3 3 59)))) (nd 59 (lf 59 (.inl (o_iconst 6 61))) (lf 61 (.inl (o_icne 69 64))))) (nd 65 (nd 64 (lf 64 (.inl (o_aload 0 65))) (lf 65 (.inr (.inr (98, 1, 1, 3))))) (nd 68 (lf 68 (.inr (.inl 1))) (nd 69 (lf 69 (.inl (o_aload 0 70))) (lf 70 (.inl (o_getR 3 10 8 73))))))))) (nd 100 (nd 87 (nd 78 (nd 74 (nd 73 (lf 73 (.inl (o_aload 0 74))) (lf 74 (.inl (o_getI 3 3 77)))) (nd 77 (lf 77 (.inl (o_iload 1 78))) (lf 78 (.inl (o_iast 79))))) (nd 80 (nd 79 (lf 79 (.inl (o_aload 0 80))) (lf 80 (.inl (o_getR 3 11 9 83)))) (nd 83 (lf 83 (.inl (o_aload 0 84))) (nd 84 (lf 84 (.inl (o_getI 3 3 87))) (lf 87 (.inl (o_iload 2 88))))))) (nd 93 (nd 89 (nd 88 (lf 88 (.inl (o_iast 89))) (lf 89 (.inl (o_aload 0 90)))) (nd 90 (lf 90 (.inl (o_getR 3 12 10 93))) (lf 93 (.inl (o_aload 0 94))))) (nd 97 (nd 94 (lf 94 (.inl (o_getI 3 3 97))) (lf 97 (.inl (o_iload 3 98)))) (nd 98 (lf 98 (.inl (o_iast 99))) (nd 99 (lf 99 (.inl (o_aload 0 100))) (lf 100 (.inl (o_getR 3 13 11 103)))))))) (nd 118 (nd 109 (nd 104 (nd 103 (lf 103 (.inl (o_aload 0 104))) (lf 104 (.inl (o_getI 3 3 107)))) (nd 107 (lf 107 (.inl (o_iload 4 109))) (lf 109 (.inl (o_iast 110))))) (nd 111 (nd 110 (lf 110 (.inl (o_aload 0 111))) (lf 111 (.inl (o_getR 3 14 12 114)))) (nd 114 (lf 114 (.inl (o_aload 0 115))) (nd 115 (lf 115 (.inl (o_getI 3 3 118))) (lf 118 (.inl (o_iload 5 120))))))) (nd 126 (nd 121 (nd 120 (lf 120 (.inl (o_iast 121))) (lf 121 (.inl (o_aload 0 122)))) (nd 122 (lf 122 (.inl (o_dup 123))) (nd 123 (lf 123 (.inl (o_getI 3 3 126))) (lf 126 (.inl (o_iconst 1 127)))))) (nd 128 (nd 127 (lf 127 (.inl (o_iadd 128))) (lf 128 (.inl (o_putI 3 3 131)))) (nd 131 (lf 131 (.inl (o_aload 0 132))) (nd 132 (lf 132 (.inl (o_getI 3 3 135))) (lf 135 (.inr (.inl 1))))))))))
def tb_X4_forget : Nat → Option AI := (nd 5 (nd 1 (nd 0 (lf 0 (.inl (o_aload 0 1))) (lf 1 (.inl (o_getI 3 3 4)))) (nd 4 (lf 4 (.inl (o_istore 1 5))) (lf 5 (.inl (o_aload 0 6))))) (nd 7 (nd 6 (lf 6 (.inl (o_iconst 0 7))) (lf 7 (.inl (o_putI 3 3 10)))) (nd 10 (lf 10 (.inl (o_iload 1 11))) (lf 11 (.inr (.inl 1))))))
def tb_X4_kindsOf : Nat → Option AI := (nd 62 (nd 26 (nd 10 (nd 3 (nd 1 (nd 0 (lf 0 (.inl (o_iconst 0 1))) (lf 1 (.inl (o_istore 2 2)))) (nd 2 (lf 2 (.inl (o_iconst 0 3))) (lf 3 (.inl (o_istore 3 4))))) (nd 5 (nd 4 (lf 4 (.inl (o_iload 3 5))) (lf 5 (.inl (o_iconst 5 6)))) (nd 6 (lf 6 (.inl (o_icgt 134 9))) (nd 9 (lf 9 (.inl (o_iconst 1 10))) (lf 10 (.inl (o_istore 4 12))))))) (nd 17 (nd 13 (nd 12 (lf 12 (.inl (o_iconst 0 13))) (lf 13 (.inl (o_istore 5 15)))) (nd 15 (lf 15 (.inl (o_iload 5 17))) (lf 17 (.inl (o_aload 0 18))))) (nd 21 (nd 18 (lf 18 (.inl (o_getI 3 3 21))) (lf 21 (.inl (o_icge 113 24)))) (nd 24 (lf 24 (.inl (o_iload 3 25))) (nd 25 (lf 25 (.inl (o_aload 0 26))) (lf 26 (.inl (o_getR 3 5 3 29)))))))) (nd 42 (nd 32 (nd 30 (nd 29 (lf 29 (.inl (o_iload 1 30))) (lf 30 (.inl (o_iald 4 31)))) (nd 31 (lf 31 (.inl (o_aload 0 32))) (lf 32 (.inl (o_getR 3 12 10 35))))) (nd 37 (nd 35 (lf 35 (.inl (o_iload 5 37))) (lf 37 (.inl (o_iald 4 38)))) (nd 38 (lf 38 (.inr (.inr (126, 3, 4, 9)))) (nd 41 (lf 41 (.inl (o_aload 0 42))) (lf 42 (.inl (o_getR 3 13 11 45))))))) (nd 52 (nd 47 (nd 45 (lf 45 (.inl (o_iload 5 47))) (lf 47 (.inl (o_iald 4 48)))) (nd 48 (lf 48 (.inl (o_icne 76 51))) (nd 51 (lf 51 (.inl (o_iload 3 52))) (lf 52 (.inl (o_aload 0 53)))))) (nd 56 (nd 53 (lf 53 (.inl (o_getR 3 11 9 56))) (lf 56 (.inl (o_iload 5 58)))) (nd 58 (lf 58 (.inl (o_iald 4 59))) (nd 59 (lf 59 (.inr (.inr (127, 2, 3, 9)))) (lf 62 (.inl (o_aload 0 63))))))))) (nd 100 (nd 79 (nd 69 (nd 66 (nd 63 (lf 63 (.inl (o_getR 3 14 12 66))) (lf 66 (.inl (o_iload 5 68)))) (nd 68 (lf 68 (.inl (o_iald 4 69))) (lf 69 (.inl (o_icne 76 72))))) (nd 73 (nd 72 (lf 72 (.inl (o_iconst 1 73))) (lf 73 (.inl (o_goto 77)))) (nd 76 (lf 76 (.inl (o_iconst 0 77))) (nd 77 (lf 77 (.inl (o_istore 6 79))) (lf 79 (.inl (o_iload 4 81))))))) (nd 90 (nd 84 (nd 81 (lf 81 (.inl (o_ifeq 104 84))) (lf 84 (.inl (o_aload 0 85)))) (nd 85 (lf 85 (.inl (o_getR 3 10 8 88))) (nd 88 (lf 88 (.inl (o_iload 5 90))) (lf 90 (.inl (o_iald 4 91)))))) (nd 92 (nd 91 (lf 91 (.inl (o_iload 1 92))) (lf 92 (.inl (o_icne 100 95)))) (nd 95 (lf 95 (.inl (o_iload 6 97))) (nd 97 (lf 97 (.inl (o_ifeq 104 100))) (lf 100 (.inl (o_iconst 1 101)))))))) (nd 119 (nd 107 (nd 104 (nd 101 (lf 101 (.inl (o_goto 105))) (lf 104 (.inl (o_iconst 0 105)))) (nd 105 (lf 105 (.inl (o_istore 4 107))) (lf 107 (.inl (o_iinc 5 1 110))))) (nd 113 (nd 110 (lf 110 (.inl (o_goto 15))) (lf 113 (.inl (o_iload 2 114)))) (nd 114 (lf 114 (.inl (o_iload 4 116))) (nd 116 (lf 116 (.inl (o_ifeq 125 119))) (lf 119 (.inl (o_iconst 1 120))))))) (nd 126 (nd 121 (nd 120 (lf 120 (.inl (o_iload 3 121))) (lf 121 (.inl (o_ishl 122)))) (nd 122 (lf 122 (.inl (o_goto 126))) (nd 125 (lf 125 (.inl (o_iconst 0 126))) (lf 126 (.inl (o_ior 127)))))) (nd 128 (nd 127 (lf 127 (.inl (o_istore 2 128))) (lf 128 (.inl (o_iinc 3 1 131)))) (nd 131 (lf 131 (.inl (o_goto 4))) (nd 134 (lf 134 (.inl (o_iload 2 135))) (lf 135 (.inr (.inl 1))))))))))
def tb_X4_is : Nat → Option AI := (nd 8 (nd 1 (nd 0 (lf 0 (.inl (o_aload 0 1))) (lf 1 (.inl (o_iload 1 2)))) (nd 2 (lf 2 (.inr (.inr (102, 2, 2, 3)))) (nd 5 (lf 5 (.inl (o_ifeq 16 8))) (lf 8 (.inl (o_aload 0 9)))))) (nd 13 (nd 9 (lf 9 (.inl (o_iload 1 10))) (nd 10 (lf 10 (.inr (.inr (161, 2, 7, 3)))) (lf 13 (.inl (o_goto 20))))) (nd 16 (lf 16 (.inl (o_aload 0 17))) (nd 17 (lf 17 (.inr (.inr (95, 1, 1, 3)))) (lf 20 (.inr (.inl 1)))))))
def tb_X4_alike : Nat → Option AI := (nd 61 (nd 27 (nd 12 (nd 4 (nd 1 (nd 0 (lf 0 (.inl (o_iconst 0 1))) (lf 1 (.inl (o_istore 5 3)))) (nd 3 (lf 3 (.inl (o_iconst 0 4))) (lf 4 (.inl (o_istore 6 6))))) (nd 8 (nd 6 (lf 6 (.inl (o_iload 6 8))) (lf 8 (.inl (o_iconst 5 9)))) (nd 9 (lf 9 (.inl (o_icgt 136 12))) (lf 12 (.inl (o_iconst 0 13)))))) (nd 18 (nd 15 (nd 13 (lf 13 (.inl (o_istore 7 15))) (lf 15 (.inl (o_iconst 0 16)))) (nd 16 (lf 16 (.inl (o_istore 8 18))) (lf 18 (.inl (o_iload 8 20))))) (nd 21 (nd 20 (lf 20 (.inl (o_iconst 5 21))) (lf 21 (.inl (o_icgt 114 24)))) (nd 24 (lf 24 (.inl (o_iload 6 26))) (nd 26 (lf 26 (.inl (o_aload 0 27))) (lf 27 (.inl (o_getR 3 5 3 30)))))))) (nd 43 (nd 34 (nd 31 (nd 30 (lf 30 (.inl (o_iload 1 31))) (lf 31 (.inl (o_iald 4 32)))) (nd 32 (lf 32 (.inl (o_iload 4 34))) (lf 34 (.inr (.inr (126, 3, 4, 9)))))) (nd 39 (nd 37 (lf 37 (.inl (o_iload 8 39))) (lf 39 (.inl (o_aload 0 40)))) (nd 40 (lf 40 (.inl (o_getR 3 5 3 43))) (lf 43 (.inl (o_iload 1 44)))))) (nd 50 (nd 45 (nd 44 (lf 44 (.inl (o_iald 4 45))) (lf 45 (.inl (o_iload 4 47)))) (nd 47 (lf 47 (.inr (.inr (126, 3, 4, 9)))) (lf 50 (.inl (o_icne 72 53))))) (nd 55 (nd 53 (lf 53 (.inl (o_iload 6 55))) (lf 55 (.inl (o_iload 3 56)))) (nd 56 (lf 56 (.inr (.inr (127, 2, 3, 9)))) (nd 59 (lf 59 (.inl (o_iload 8 61))) (lf 61 (.inl (o_iload 3 62))))))))) (nd 97 (nd 77 (nd 69 (nd 65 (nd 62 (lf 62 (.inr (.inr (127, 2, 3, 9)))) (lf 65 (.inl (o_icne 72 68)))) (nd 68 (lf 68 (.inl (o_iconst 1 69))) (lf 69 (.inl (o_goto 73))))) (nd 73 (nd 72 (lf 72 (.inl (o_iconst 0 73))) (lf 73 (.inl (o_istore 9 75)))) (nd 75 (lf 75 (.inl (o_iload 7 77))) (lf 77 (.inl (o_iload 2 78)))))) (nd 86 (nd 80 (nd 78 (lf 78 (.inl (o_iload 6 80))) (lf 80 (.inr (.inr (100, 2, 2, 9))))) (nd 83 (lf 83 (.inl (o_ifeq 104 86))) (lf 86 (.inl (o_iload 2 87))))) (nd 89 (nd 87 (lf 87 (.inl (o_iload 8 89))) (lf 89 (.inr (.inr (100, 2, 2, 9))))) (nd 92 (lf 92 (.inl (o_ifeq 104 95))) (nd 95 (lf 95 (.inl (o_iload 9 97))) (lf 97 (.inl (o_ifeq 104 100)))))))) (nd 116 (nd 105 (nd 101 (nd 100 (lf 100 (.inl (o_iconst 1 101))) (lf 101 (.inl (o_goto 105)))) (nd 104 (lf 104 (.inl (o_iconst 0 105))) (lf 105 (.inl (o_iadd 106))))) (nd 108 (nd 106 (lf 106 (.inl (o_istore 7 108))) (lf 108 (.inl (o_iinc 8 1 111)))) (nd 111 (lf 111 (.inl (o_goto 18))) (nd 114 (lf 114 (.inl (o_iload 7 116))) (lf 116 (.inl (o_iload 5 118))))))) (nd 126 (nd 121 (nd 118 (lf 118 (.inl (o_icle 126 121))) (lf 121 (.inl (o_iload 7 123)))) (nd 123 (lf 123 (.inl (o_goto 128))) (lf 126 (.inl (o_iload 5 128))))) (nd 130 (nd 128 (lf 128 (.inl (o_istore 5 130))) (lf 130 (.inl (o_iinc 6 1 133)))) (nd 133 (lf 133 (.inl (o_goto 6))) (nd 136 (lf 136 (.inl (o_iload 5 138))) (lf 138 (.inr (.inl 1))))))))))
def tb_X4_listen : Nat → Option AI := (nd 44 (nd 20 (nd 9 (nd 2 (nd 0 (lf 0 (.inl (o_aload 0 1))) (nd 1 (lf 1 (.inl (o_iload 1 2))) (lf 2 (.inr (.inr (102, 2, 2, 3)))))) (nd 5 (lf 5 (.inl (o_ifne 13 8))) (nd 8 (lf 8 (.inl (o_aload 0 9))) (lf 9 (.inr (.inr (95, 1, 1, 3))))))) (nd 14 (nd 12 (lf 12 (.inr (.inl 1))) (nd 13 (lf 13 (.inl (o_aload 0 14))) (lf 14 (.inl (o_iload 1 15))))) (nd 18 (nd 15 (lf 15 (.inr (.inr (161, 2, 7, 3)))) (lf 18 (.inl (o_istore 2 19)))) (nd 19 (lf 19 (.inl (o_iconst (-1) 20))) (lf 20 (.inl (o_istore 3 21))))))) (nd 31 (nd 25 (nd 21 (lf 21 (.inl (o_iconst 7 23))) (nd 23 (lf 23 (.inl (o_istore 4 25))) (lf 25 (.inl (o_iconst 0 26))))) (nd 28 (nd 26 (lf 26 (.inl (o_istore 5 28))) (lf 28 (.inl (o_iload 5 30)))) (nd 30 (lf 30 (.inl (o_iconst 5 31))) (lf 31 (.inl (o_icge 100 34)))))) (nd 38 (nd 34 (lf 34 (.inl (o_iload 2 35))) (nd 35 (lf 35 (.inl (o_ifeq 100 38))) (lf 38 (.inl (o_iconst 0 39))))) (nd 41 (nd 39 (lf 39 (.inl (o_istore 6 41))) (lf 41 (.inl (o_iload 6 43)))) (nd 43 (lf 43 (.inl (o_iconst 2 44))) (lf 44 (.inl (o_icge 94 47)))))))) (nd 71 (nd 57 (nd 49 (nd 47 (lf 47 (.inl (o_aload 0 48))) (nd 48 (lf 48 (.inl (o_iload 1 49))) (lf 49 (.inl (o_iload 2 50))))) (nd 52 (nd 50 (lf 50 (.inl (o_iload 5 52))) (lf 52 (.inl (o_iload 6 54)))) (nd 54 (lf 54 (.inr (.inr (163, 5, 10, 3)))) (lf 57 (.inl (o_istore 7 59)))))) (nd 63 (nd 59 (lf 59 (.inl (o_iload 7 61))) (nd 61 (lf 61 (.inl (o_iload 4 63))) (lf 63 (.inl (o_icge 77 66))))) (nd 68 (nd 66 (lf 66 (.inl (o_iconst 10 68))) (lf 68 (.inl (o_iload 5 70)))) (nd 70 (lf 70 (.inl (o_imul 71))) (lf 71 (.inl (o_iload 6 73))))))) (nd 83 (nd 77 (nd 73 (lf 73 (.inl (o_iadd 74))) (nd 74 (lf 74 (.inl (o_goto 78))) (lf 77 (.inl (o_iload 3 78))))) (nd 79 (nd 78 (lf 78 (.inl (o_istore 3 79))) (lf 79 (.inl (o_iload 4 81)))) (nd 81 (lf 81 (.inl (o_iload 7 83))) (lf 83 (.inr (.inr (125, 2, 2, 9))))))) (nd 91 (nd 86 (lf 86 (.inl (o_istore 4 88))) (nd 88 (lf 88 (.inl (o_iinc 6 1 91))) (lf 91 (.inl (o_goto 41))))) (nd 97 (nd 94 (lf 94 (.inl (o_iinc 5 1 97))) (lf 97 (.inl (o_goto 28)))) (nd 100 (lf 100 (.inl (o_iload 3 101))) (lf 101 (.inr (.inl 1)))))))))
def tb_X4_whose : Nat → Option AI := (nd 24 (nd 14 (nd 4 (nd 1 (nd 0 (lf 0 (.inl (o_iload 1 1))) (lf 1 (.inl (o_iconst 0 2)))) (nd 2 (lf 2 (.inl (o_iconst 9 4))) (lf 4 (.inr (.inr (99, 3, 3, 9)))))) (nd 10 (nd 7 (lf 7 (.inl (o_ifne 15 10))) (lf 10 (.inl (o_aload 0 11)))) (nd 11 (lf 11 (.inr (.inr (95, 1, 1, 3)))) (lf 14 (.inr (.inl 1)))))) (nd 18 (nd 16 (nd 15 (lf 15 (.inl (o_iconst 0 16))) (lf 16 (.inl (o_istore 2 17)))) (nd 17 (lf 17 (.inl (o_iconst 0 18))) (lf 18 (.inl (o_istore 3 19))))) (nd 20 (nd 19 (lf 19 (.inl (o_iload 3 20))) (lf 20 (.inl (o_aload 0 21)))) (nd 21 (lf 21 (.inl (o_getI 3 1 24))) (lf 24 (.inl (o_icge 52 27))))))) (nd 38 (nd 30 (nd 28 (nd 27 (lf 27 (.inl (o_iload 2 28))) (lf 28 (.inl (o_aload 0 29)))) (nd 29 (lf 29 (.inl (o_iload 3 30))) (lf 30 (.inr (.inr (128, 2, 2, 3)))))) (nd 34 (nd 33 (lf 33 (.inl (o_iload 1 34))) (lf 34 (.inl (o_icne 43 37)))) (nd 37 (lf 37 (.inl (o_iconst 1 38))) (lf 38 (.inl (o_iload 3 39)))))) (nd 44 (nd 40 (nd 39 (lf 39 (.inl (o_ishl 40))) (lf 40 (.inl (o_goto 44)))) (nd 43 (lf 43 (.inl (o_iconst 0 44))) (lf 44 (.inl (o_ior 45))))) (nd 46 (nd 45 (lf 45 (.inl (o_istore 2 46))) (lf 46 (.inl (o_iinc 3 1 49)))) (nd 49 (lf 49 (.inl (o_goto 19))) (nd 52 (lf 52 (.inl (o_iload 2 53))) (lf 53 (.inr (.inl 1)))))))))
def tb_X4_gets : Nat → Option AI := (nd 26 (nd 11 (nd 4 (nd 0 (lf 0 (.inl (o_iload 3 1))) (nd 1 (lf 1 (.inl (o_ifeq 18 4))) (lf 4 (.inl (o_iload 5 6))))) (nd 6 (lf 6 (.inl (o_ifne 14 9))) (nd 9 (lf 9 (.inl (o_iload 4 11))) (lf 11 (.inl (o_ifne 18 14)))))) (nd 18 (nd 14 (lf 14 (.inl (o_iconst 1 15))) (nd 15 (lf 15 (.inl (o_goto 19))) (lf 18 (.inl (o_iconst 0 19))))) (nd 21 (nd 19 (lf 19 (.inl (o_istore 6 21))) (lf 21 (.inl (o_iload 6 23)))) (nd 23 (lf 23 (.inl (o_ifeq 35 26))) (lf 26 (.inl (o_aload 0 27))))))) (nd 37 (nd 29 (nd 27 (lf 27 (.inl (o_iload 1 28))) (nd 28 (lf 28 (.inl (o_iload 2 29))) (lf 29 (.inr (.inr (129, 3, 4, 3)))))) (nd 35 (nd 32 (lf 32 (.inl (o_goto 40))) (lf 35 (.inl (o_aload 0 36)))) (nd 36 (lf 36 (.inl (o_iload 1 37))) (lf 37 (.inr (.inr (131, 2, 3, 3))))))) (nd 44 (nd 40 (lf 40 (.inl (o_iload 3 41))) (nd 41 (lf 41 (.inl (o_ifeq 48 44))) (lf 44 (.inl (o_iconst 1 45))))) (nd 48 (nd 45 (lf 45 (.inl (o_goto 49))) (lf 48 (.inl (o_iconst 0 49)))) (nd 49 (lf 49 (.inl (o_isub 50))) (lf 50 (.inr (.inl 1))))))))
def tb_X4_asks : Nat → Option AI := (nd 109 (nd 53 (nd 26 (nd 10 (nd 2 (nd 0 (lf 0 (.inl (o_aload 0 1))) (nd 1 (lf 1 (.inl (o_iload 1 2))) (lf 2 (.inr (.inr (102, 2, 2, 3)))))) (nd 8 (nd 5 (lf 5 (.inl (o_ifeq 29 8))) (lf 8 (.inl (o_aload 0 9)))) (nd 9 (lf 9 (.inl (o_iload 2 10))) (lf 10 (.inr (.inr (102, 2, 2, 3))))))) (nd 18 (nd 16 (nd 13 (lf 13 (.inl (o_ifeq 29 16))) (lf 16 (.inl (o_iload 1 17)))) (nd 17 (lf 17 (.inl (o_iload 2 18))) (lf 18 (.inl (o_iceq 29 21))))) (nd 22 (nd 21 (lf 21 (.inl (o_aload 0 22))) (lf 22 (.inl (o_iload 3 23)))) (nd 23 (lf 23 (.inr (.inr (102, 2, 2, 3)))) (lf 26 (.inl (o_ifne 34 29))))))) (nd 40 (nd 34 (nd 30 (nd 29 (lf 29 (.inl (o_aload 0 30))) (lf 30 (.inr (.inr (95, 1, 1, 3))))) (nd 33 (lf 33 (.inr (.inl 1))) (lf 34 (.inl (o_aload 0 35))))) (nd 38 (nd 35 (lf 35 (.inl (o_getR 3 7 5 38))) (lf 38 (.inl (o_iload 3 39)))) (nd 39 (lf 39 (.inl (o_iald 4 40))) (lf 40 (.inl (o_iconst (-1) 41)))))) (nd 48 (nd 44 (nd 41 (lf 41 (.inl (o_iceq 49 44))) (lf 44 (.inl (o_aload 0 45)))) (nd 45 (lf 45 (.inr (.inr (97, 1, 1, 3)))) (lf 48 (.inr (.inl 1))))) (nd 50 (nd 49 (lf 49 (.inl (o_iconst 0 50))) (lf 50 (.inl (o_istore 4 52)))) (nd 52 (lf 52 (.inl (o_iconst 0 53))) (lf 53 (.inl (o_istore 5 55)))))))) (nd 82 (nd 66 (nd 61 (nd 57 (nd 55 (lf 55 (.inl (o_iload 5 57))) (lf 57 (.inl (o_iconst 4 58)))) (nd 58 (lf 58 (.inl (o_icge 222 61))) (lf 61 (.inl (o_iload 5 63))))) (nd 64 (nd 63 (lf 63 (.inl (o_iconst 2 64))) (lf 64 (.inl (o_irem 65)))) (nd 65 (lf 65 (.inl (o_iconst 1 66))) (lf 66 (.inl (o_icne 73 69)))))) (nd 74 (nd 70 (nd 69 (lf 69 (.inl (o_iconst 1 70))) (lf 70 (.inl (o_goto 74)))) (nd 73 (lf 73 (.inl (o_iconst 0 74))) (lf 74 (.inl (o_istore 6 76))))) (nd 78 (nd 76 (lf 76 (.inl (o_iload 5 78))) (lf 78 (.inl (o_iconst 1 79)))) (nd 79 (lf 79 (.inl (o_icle 86 82))) (lf 82 (.inl (o_iconst 1 83))))))) (nd 94 (nd 89 (nd 86 (nd 83 (lf 83 (.inl (o_goto 87))) (lf 86 (.inl (o_iconst 0 87)))) (nd 87 (lf 87 (.inl (o_istore 7 89))) (lf 89 (.inl (o_aload 0 90))))) (nd 91 (nd 90 (lf 90 (.inl (o_iload 1 91))) (lf 91 (.inl (o_iload 3 92)))) (nd 92 (lf 92 (.inl (o_iload 6 94))) (lf 94 (.inl (o_iload 7 96)))))) (nd 101 (nd 97 (nd 96 (lf 96 (.inl (o_iload 1 97))) (lf 97 (.inl (o_iload 2 98)))) (nd 98 (lf 98 (.inl (o_icge 105 101))) (lf 101 (.inl (o_iconst 1 102))))) (nd 105 (nd 102 (lf 102 (.inl (o_goto 106))) (lf 105 (.inl (o_iconst 0 106)))) (nd 106 (lf 106 (.inr (.inr (166, 6, 7, 3)))) (lf 109 (.inl (o_aload 0 110))))))))) (nd 162 (nd 134 (nd 121 (nd 112 (nd 110 (lf 110 (.inl (o_iload 1 111))) (nd 111 (lf 111 (.inl (o_iload 3 112))) (lf 112 (.inl (o_iload 6 114))))) (nd 117 (nd 114 (lf 114 (.inl (o_ifne 121 117))) (lf 117 (.inl (o_iconst 1 118)))) (nd 118 (lf 118 (.inl (o_goto 122))) (lf 121 (.inl (o_iconst 0 122)))))) (nd 126 (nd 124 (nd 122 (lf 122 (.inl (o_iload 7 124))) (lf 124 (.inl (o_iload 1 125)))) (nd 125 (lf 125 (.inl (o_iload 2 126))) (lf 126 (.inl (o_icge 133 129))))) (nd 130 (nd 129 (lf 129 (.inl (o_iconst 1 130))) (lf 130 (.inl (o_goto 134)))) (nd 133 (lf 133 (.inl (o_iconst 0 134))) (lf 134 (.inr (.inr (166, 6, 7, 3)))))))) (nd 148 (nd 142 (nd 140 (nd 137 (lf 137 (.inl (o_iclt 195 140))) (lf 140 (.inl (o_aload 0 141)))) (nd 141 (lf 141 (.inl (o_iload 2 142))) (lf 142 (.inl (o_iload 3 143))))) (nd 145 (nd 143 (lf 143 (.inl (o_iload 7 145))) (lf 145 (.inl (o_iload 6 147)))) (nd 147 (lf 147 (.inl (o_iload 2 148))) (lf 148 (.inl (o_iload 1 149)))))) (nd 156 (nd 152 (nd 149 (lf 149 (.inl (o_icge 156 152))) (lf 152 (.inl (o_iconst 1 153)))) (nd 153 (lf 153 (.inl (o_goto 157))) (lf 156 (.inl (o_iconst 0 157))))) (nd 160 (nd 157 (lf 157 (.inr (.inr (166, 6, 7, 3)))) (lf 160 (.inl (o_aload 0 161)))) (nd 161 (lf 161 (.inl (o_iload 2 162))) (lf 162 (.inl (o_iload 3 163)))))))) (nd 192 (nd 176 (nd 169 (nd 165 (nd 163 (lf 163 (.inl (o_iload 7 165))) (lf 165 (.inl (o_ifne 172 168)))) (nd 168 (lf 168 (.inl (o_iconst 1 169))) (lf 169 (.inl (o_goto 173))))) (nd 173 (nd 172 (lf 172 (.inl (o_iconst 0 173))) (lf 173 (.inl (o_iload 6 175)))) (nd 175 (lf 175 (.inl (o_iload 2 176))) (lf 176 (.inl (o_iload 1 177)))))) (nd 184 (nd 180 (nd 177 (lf 177 (.inl (o_icge 184 180))) (lf 180 (.inl (o_iconst 1 181)))) (nd 181 (lf 181 (.inl (o_goto 185))) (lf 184 (.inl (o_iconst 0 185))))) (nd 188 (nd 185 (lf 185 (.inr (.inr (166, 6, 7, 3)))) (lf 188 (.inl (o_iclt 195 191)))) (nd 191 (lf 191 (.inl (o_iconst 1 192))) (lf 192 (.inl (o_goto 196))))))) (nd 208 (nd 200 (nd 196 (nd 195 (lf 195 (.inl (o_iconst 0 196))) (lf 196 (.inl (o_istore 8 198)))) (nd 198 (lf 198 (.inl (o_iload 4 200))) (lf 200 (.inl (o_iload 8 202))))) (nd 205 (nd 202 (lf 202 (.inl (o_ifeq 212 205))) (lf 205 (.inl (o_iconst 1 206)))) (nd 206 (lf 206 (.inl (o_iload 5 208))) (lf 208 (.inl (o_ishl 209)))))) (nd 214 (nd 212 (nd 209 (lf 209 (.inl (o_goto 213))) (lf 212 (.inl (o_iconst 0 213)))) (nd 213 (lf 213 (.inl (o_ior 214))) (lf 214 (.inl (o_istore 4 216))))) (nd 219 (nd 216 (lf 216 (.inl (o_iinc 5 1 219))) (lf 219 (.inl (o_goto 55)))) (nd 222 (lf 222 (.inl (o_iload 4 224))) (lf 224 (.inr (.inl 1))))))))))
def tb_X4_lay : Nat → Option AI := (nd 22 (nd 9 (nd 3 (nd 0 (lf 0 (.inl (o_lload 1 1))) (nd 1 (lf 1 (.inl (o_lstore 5 3))) (lf 3 (.inl (o_lload 3 4))))) (nd 6 (nd 4 (lf 4 (.inl (o_lstore 7 6))) (lf 6 (.inl (o_lload 7 8)))) (nd 8 (lf 8 (.inl (o_lconst 0 9))) (lf 9 (.inl (o_lcmp 10)))))) (nd 15 (nd 10 (lf 10 (.inl (o_ifeq 31 13))) (nd 13 (lf 13 (.inl (o_lload 5 15))) (lf 15 (.inl (o_lload 7 17))))) (nd 18 (nd 17 (lf 17 (.inl (o_lrem 18))) (lf 18 (.inl (o_lstore 9 20)))) (nd 20 (lf 20 (.inl (o_lload 7 22))) (lf 22 (.inl (o_lstore 5 24))))))) (nd 35 (nd 28 (nd 24 (lf 24 (.inl (o_lload 9 26))) (nd 26 (lf 26 (.inl (o_lstore 7 28))) (lf 28 (.inl (o_goto 6))))) (nd 32 (nd 31 (lf 31 (.inl (o_aload 0 32))) (lf 32 (.inl (o_lload 1 33)))) (nd 33 (lf 33 (.inl (o_lload 5 35))) (lf 35 (.inl (o_ldiv 36)))))) (nd 40 (nd 36 (lf 36 (.inl (o_putJ 3 27 39))) (nd 39 (lf 39 (.inl (o_aload 0 40))) (lf 40 (.inl (o_lload 3 41))))) (nd 43 (nd 41 (lf 41 (.inl (o_lload 5 43))) (lf 43 (.inl (o_ldiv 44)))) (nd 44 (lf 44 (.inl (o_putJ 3 28 47))) (lf 47 (.inr (.inl 0))))))))
def tb_X4_atCounter : Nat → Option AI := (nd 18 (nd 5 (nd 2 (nd 0 (lf 0 (.inl (o_iconst 0 1))) (nd 1 (lf 1 (.inl (o_istore 1 2))) (lf 2 (.inl (o_iconst 0 3))))) (nd 3 (lf 3 (.inl (o_istore 2 4))) (nd 4 (lf 4 (.inl (o_iload 2 5))) (lf 5 (.inl (o_aload 0 6)))))) (nd 12 (nd 6 (lf 6 (.inl (o_getI 3 1 9))) (nd 9 (lf 9 (.inl (o_icge 38 12))) (lf 12 (.inl (o_iload 1 13))))) (nd 14 (nd 13 (lf 13 (.inl (o_aload 0 14))) (lf 14 (.inl (o_getR 3 7 5 17)))) (nd 17 (lf 17 (.inl (o_iload 2 18))) (lf 18 (.inl (o_iald 4 19))))))) (nd 26 (nd 23 (nd 19 (lf 19 (.inl (o_iconst (-1) 20))) (nd 20 (lf 20 (.inl (o_icne 29 23))) (lf 23 (.inl (o_iconst 1 24))))) (nd 24 (lf 24 (.inl (o_iload 2 25))) (nd 25 (lf 25 (.inl (o_ishl 26))) (lf 26 (.inl (o_goto 30)))))) (nd 31 (nd 29 (lf 29 (.inl (o_iconst 0 30))) (nd 30 (lf 30 (.inl (o_ior 31))) (lf 31 (.inl (o_istore 1 32))))) (nd 35 (nd 32 (lf 32 (.inl (o_iinc 2 1 35))) (lf 35 (.inl (o_goto 4)))) (nd 38 (lf 38 (.inl (o_iload 1 39))) (lf 39 (.inr (.inl 1))))))))
def tb_X4_bits : Nat → Option AI := (nd 11 (nd 3 (nd 1 (nd 0 (lf 0 (.inl (o_iconst 0 1))) (lf 1 (.inl (o_istore 1 2)))) (nd 2 (lf 2 (.inl (o_iconst 0 3))) (lf 3 (.inl (o_istore 2 4))))) (nd 5 (nd 4 (lf 4 (.inl (o_iload 2 5))) (lf 5 (.inl (o_iconst 6 7)))) (nd 7 (lf 7 (.inl (o_icge 24 10))) (nd 10 (lf 10 (.inl (o_iload 1 11))) (lf 11 (.inl (o_iload 0 12))))))) (nd 16 (nd 13 (nd 12 (lf 12 (.inl (o_iload 2 13))) (lf 13 (.inl (o_ishr 14)))) (nd 14 (lf 14 (.inl (o_iconst 1 15))) (nd 15 (lf 15 (.inl (o_iand 16))) (lf 16 (.inl (o_iadd 17)))))) (nd 18 (nd 17 (lf 17 (.inl (o_istore 1 18))) (lf 18 (.inl (o_iinc 2 1 21)))) (nd 21 (lf 21 (.inl (o_goto 4))) (nd 24 (lf 24 (.inl (o_iload 1 25))) (lf 25 (.inr (.inl 1))))))))
def tb_X4_thieves : Nat → Option AI := (nd 88 (nd 39 (nd 20 (nd 7 (nd 1 (nd 0 (lf 0 (.inl (o_iload 1 1))) (lf 1 (.inl (o_iconst 0 2)))) (nd 2 (lf 2 (.inl (o_iconst 6 4))) (nd 4 (lf 4 (.inr (.inr (99, 3, 3, 9)))) (lf 7 (.inl (o_ifeq 20 10)))))) (nd 12 (nd 10 (lf 10 (.inl (o_iload 2 11))) (nd 11 (lf 11 (.inl (o_iconst 0 12))) (lf 12 (.inl (o_iconst 10 14))))) (nd 14 (lf 14 (.inr (.inr (99, 3, 3, 9)))) (nd 17 (lf 17 (.inl (o_ifne 25 20))) (lf 20 (.inl (o_aload 0 21))))))) (nd 30 (nd 25 (nd 21 (lf 21 (.inr (.inr (95, 1, 1, 3)))) (nd 24 (lf 24 (.inr (.inl 1))) (lf 25 (.inl (o_aload 0 26))))) (nd 26 (lf 26 (.inr (.inr (169, 1, 3, 3)))) (nd 29 (lf 29 (.inl (o_istore 3 30))) (lf 30 (.inl (o_lconst 0 31)))))) (nd 34 (nd 31 (lf 31 (.inl (o_lstore 4 33))) (nd 33 (lf 33 (.inl (o_lconst 1 34))) (lf 34 (.inl (o_lstore 6 36))))) (nd 36 (lf 36 (.inl (o_iconst 0 37))) (nd 37 (lf 37 (.inl (o_istore 8 39))) (lf 39 (.inl (o_iload 8 41)))))))) (nd 66 (nd 51 (nd 45 (nd 41 (lf 41 (.inl (o_aload 0 42))) (nd 42 (lf 42 (.inl (o_getI 3 1 45))) (lf 45 (.inl (o_icge 75 48))))) (nd 48 (lf 48 (.inl (o_lload 6 50))) (nd 50 (lf 50 (.inl (o_iload 3 51))) (lf 51 (.inl (o_iload 8 53)))))) (nd 59 (nd 53 (lf 53 (.inr (.inr (100, 2, 2, 9)))) (nd 56 (lf 56 (.inl (o_ifeq 65 59))) (lf 59 (.inl (o_lconst 10 62))))) (nd 62 (lf 62 (.inl (o_goto 66))) (nd 65 (lf 65 (.inl (o_lconst 1 66))) (lf 66 (.inl (o_lmul 67))))))) (nd 78 (nd 72 (nd 67 (lf 67 (.inl (o_lstore 6 69))) (nd 69 (lf 69 (.inl (o_iinc 8 1 72))) (lf 72 (.inl (o_goto 39))))) (nd 75 (lf 75 (.inl (o_iconst 0 76))) (nd 76 (lf 76 (.inl (o_istore 8 78))) (lf 78 (.inl (o_iload 8 80)))))) (nd 84 (nd 80 (lf 80 (.inl (o_iload 3 81))) (nd 81 (lf 81 (.inl (o_icgt 174 84))) (lf 84 (.inl (o_iload 8 86))))) (nd 86 (lf 86 (.inl (o_iload 3 87))) (nd 87 (lf 87 (.inl (o_iconst (-1) 88))) (lf 88 (.inl (o_ixor 89))))))))) (nd 136 (nd 110 (nd 99 (nd 93 (nd 89 (lf 89 (.inl (o_iand 90))) (nd 90 (lf 90 (.inl (o_ifne 168 93))) (lf 93 (.inl (o_iload 8 95))))) (nd 95 (lf 95 (.inr (.inr (170, 1, 3, 9)))) (nd 98 (lf 98 (.inl (o_iload 1 99))) (lf 99 (.inl (o_iclt 168 102)))))) (nd 105 (nd 102 (lf 102 (.inl (o_lconst 1 103))) (nd 103 (lf 103 (.inl (o_lstore 9 105))) (lf 105 (.inl (o_iconst 0 106))))) (nd 106 (lf 106 (.inl (o_istore 11 108))) (nd 108 (lf 108 (.inl (o_iload 11 110))) (lf 110 (.inl (o_aload 0 111))))))) (nd 122 (nd 117 (nd 111 (lf 111 (.inl (o_getI 3 1 114))) (nd 114 (lf 114 (.inl (o_icge 161 117))) (lf 117 (.inl (o_lload 9 119))))) (nd 119 (lf 119 (.inl (o_iload 3 120))) (nd 120 (lf 120 (.inl (o_iload 11 122))) (lf 122 (.inr (.inr (100, 2, 2, 9))))))) (nd 129 (nd 125 (lf 125 (.inl (o_ifne 132 128))) (nd 128 (lf 128 (.inl (o_lconst 1 129))) (lf 129 (.inl (o_goto 152))))) (nd 132 (lf 132 (.inl (o_iload 8 134))) (nd 134 (lf 134 (.inl (o_iload 11 136))) (lf 136 (.inr (.inr (100, 2, 2, 9))))))))) (nd 158 (nd 147 (nd 144 (nd 139 (lf 139 (.inl (o_ifeq 150 142))) (nd 142 (lf 142 (.inl (o_iconst 10 144))) (lf 144 (.inl (o_iload 2 145))))) (nd 145 (lf 145 (.inl (o_isub 146))) (nd 146 (lf 146 (.inl (o_i2l 147))) (lf 147 (.inl (o_goto 152)))))) (nd 152 (nd 150 (lf 150 (.inl (o_iload 2 151))) (nd 151 (lf 151 (.inl (o_i2l 152))) (lf 152 (.inl (o_lmul 153))))) (nd 153 (lf 153 (.inl (o_lstore 9 155))) (nd 155 (lf 155 (.inl (o_iinc 11 1 158))) (lf 158 (.inl (o_goto 108))))))) (nd 171 (nd 165 (nd 161 (lf 161 (.inl (o_lload 4 163))) (nd 163 (lf 163 (.inl (o_lload 9 165))) (lf 165 (.inl (o_ladd 166))))) (nd 166 (lf 166 (.inl (o_lstore 4 168))) (nd 168 (lf 168 (.inl (o_iinc 8 1 171))) (lf 171 (.inl (o_goto 78)))))) (nd 177 (nd 174 (lf 174 (.inl (o_aload 0 175))) (nd 175 (lf 175 (.inl (o_lload 4 177))) (lf 177 (.inl (o_lload 6 179))))) (nd 179 (lf 179 (.inr (.inr (168, 3, 11, 3)))) (nd 182 (lf 182 (.inl (o_iconst 1 183))) (lf 183 (.inr (.inl 1))))))))))
def tb_X4_lents : Nat → Option AI := (nd 86 (nd 45 (nd 22 (nd 11 (nd 2 (nd 0 (lf 0 (.inl (o_iload 1 1))) (nd 1 (lf 1 (.inl (o_iconst 0 2))) (lf 2 (.inl (o_iconst 999999 5))))) (nd 5 (lf 5 (.inr (.inr (99, 3, 3, 9)))) (nd 8 (lf 8 (.inl (o_ifeq 21 11))) (lf 11 (.inl (o_iload 2 12)))))) (nd 15 (nd 12 (lf 12 (.inl (o_iconst 0 13))) (nd 13 (lf 13 (.inl (o_iconst 60 15))) (lf 15 (.inr (.inr (99, 3, 3, 9)))))) (nd 18 (lf 18 (.inl (o_ifne 26 21))) (nd 21 (lf 21 (.inl (o_aload 0 22))) (lf 22 (.inr (.inr (95, 1, 1, 3)))))))) (nd 34 (nd 27 (nd 25 (lf 25 (.inr (.inl 1))) (nd 26 (lf 26 (.inl (o_aload 0 27))) (lf 27 (.inl (o_getI 3 1 30))))) (nd 30 (lf 30 (.inl (o_ifne 38 33))) (nd 33 (lf 33 (.inl (o_aload 0 34))) (lf 34 (.inr (.inr (97, 1, 1, 3))))))) (nd 39 (nd 37 (lf 37 (.inr (.inl 1))) (nd 38 (lf 38 (.inl (o_aload 0 39))) (lf 39 (.inr (.inr (135, 1, 1, 3)))))) (nd 43 (nd 42 (lf 42 (.inl (o_iload 1 43))) (lf 43 (.inl (o_i2l 44)))) (nd 44 (lf 44 (.inl (o_lstore 3 45))) (lf 45 (.inl (o_iconst 0 46)))))))) (nd 66 (nd 54 (nd 49 (nd 46 (lf 46 (.inl (o_istore 5 48))) (nd 48 (lf 48 (.inl (o_iconst 0 49))) (lf 49 (.inl (o_istore 6 51))))) (nd 51 (lf 51 (.inl (o_iload 6 53))) (nd 53 (lf 53 (.inl (o_iload 2 54))) (lf 54 (.inl (o_icge 175 57)))))) (nd 61 (nd 57 (lf 57 (.inl (o_lload 3 58))) (nd 58 (lf 58 (.inl (o_lconst 1103515245 61))) (lf 61 (.inl (o_lmul 62))))) (nd 62 (lf 62 (.inl (o_lconst 12345 65))) (nd 65 (lf 65 (.inl (o_ladd 66))) (lf 66 (.inl (o_lconst 2147483648 69))))))) (nd 76 (nd 71 (nd 69 (lf 69 (.inl (o_lrem 70))) (nd 70 (lf 70 (.inl (o_lstore 3 71))) (lf 71 (.inl (o_lload 3 72))))) (nd 72 (lf 72 (.inl (o_lconst 65536 75))) (nd 75 (lf 75 (.inl (o_ldiv 76))) (lf 76 (.inl (o_aload 0 77)))))) (nd 81 (nd 77 (lf 77 (.inl (o_getI 3 1 80))) (nd 80 (lf 80 (.inl (o_i2l 81))) (lf 81 (.inl (o_lrem 82))))) (nd 83 (nd 82 (lf 82 (.inl (o_l2i 83))) (lf 83 (.inl (o_istore 7 85)))) (nd 85 (lf 85 (.inl (o_lload 3 86))) (lf 86 (.inl (o_lconst 1103515245 89))))))))) (nd 129 (nd 108 (nd 98 (nd 93 (nd 89 (lf 89 (.inl (o_lmul 90))) (nd 90 (lf 90 (.inl (o_lconst 12345 93))) (lf 93 (.inl (o_ladd 94))))) (nd 94 (lf 94 (.inl (o_lconst 2147483648 97))) (nd 97 (lf 97 (.inl (o_lrem 98))) (lf 98 (.inl (o_lstore 3 99)))))) (nd 103 (nd 99 (lf 99 (.inl (o_lload 3 100))) (nd 100 (lf 100 (.inl (o_lconst 65536 103))) (lf 103 (.inl (o_ldiv 104))))) (nd 104 (lf 104 (.inl (o_aload 0 105))) (nd 105 (lf 105 (.inl (o_getI 3 1 108))) (lf 108 (.inl (o_i2l 109))))))) (nd 117 (nd 111 (nd 109 (lf 109 (.inl (o_lrem 110))) (nd 110 (lf 110 (.inl (o_l2i 111))) (lf 111 (.inl (o_istore 8 113))))) (nd 113 (lf 113 (.inl (o_aload 0 114))) (nd 114 (lf 114 (.inl (o_getR 3 7 5 117))) (lf 117 (.inl (o_iload 8 119)))))) (nd 121 (nd 119 (lf 119 (.inl (o_iald 4 120))) (nd 120 (lf 120 (.inl (o_iconst (-1) 121))) (lf 121 (.inl (o_icne 136 124))))) (nd 125 (nd 124 (lf 124 (.inl (o_aload 0 125))) (lf 125 (.inl (o_iload 8 127)))) (nd 127 (lf 127 (.inl (o_iload 7 129))) (lf 129 (.inr (.inr (138, 3, 4, 3))))))))) (nd 153 (nd 142 (nd 136 (nd 132 (lf 132 (.inl (o_pop 133))) (nd 133 (lf 133 (.inl (o_goto 156))) (lf 136 (.inl (o_aload 0 137))))) (nd 137 (lf 137 (.inl (o_iload 7 139))) (nd 139 (lf 139 (.inr (.inr (130, 2, 4, 3)))) (lf 142 (.inl (o_iconst (-1) 143)))))) (nd 147 (nd 143 (lf 143 (.inl (o_iceq 156 146))) (nd 146 (lf 146 (.inl (o_aload 0 147))) (lf 147 (.inl (o_aload 0 148))))) (nd 148 (lf 148 (.inl (o_iload 7 150))) (nd 150 (lf 150 (.inr (.inr (130, 2, 4, 3)))) (lf 153 (.inr (.inr (137, 2, 2, 3)))))))) (nd 166 (nd 160 (nd 156 (lf 156 (.inl (o_aload 0 157))) (nd 157 (lf 157 (.inr (.inr (139, 1, 4, 3)))) (lf 160 (.inl (o_istore 9 162))))) (nd 162 (lf 162 (.inl (o_iload 5 164))) (nd 164 (lf 164 (.inl (o_iload 9 166))) (lf 166 (.inl (o_iadd 167)))))) (nd 172 (nd 167 (lf 167 (.inl (o_istore 5 169))) (nd 169 (lf 169 (.inl (o_iinc 6 1 172))) (lf 172 (.inl (o_goto 51))))) (nd 176 (nd 175 (lf 175 (.inl (o_aload 0 176))) (lf 176 (.inr (.inr (136, 1, 1, 3))))) (nd 179 (lf 179 (.inl (o_iload 5 181))) (lf 181 (.inr (.inl 1))))))))))
def tb_X4_part : Nat → Option AI := (nd 12 (nd 4 (nd 0 (lf 0 (.inl (o_iload 1 1))) (nd 1 (lf 1 (.inl (o_ifne 11 4))) (lf 4 (.inl (o_aload 0 5))))) (nd 8 (nd 5 (lf 5 (.inl (o_getJ 3 27 8))) (lf 8 (.inl (o_goto 28)))) (nd 11 (lf 11 (.inl (o_iload 1 12))) (lf 12 (.inl (o_iconst 1 13)))))) (nd 20 (nd 16 (nd 13 (lf 13 (.inl (o_icne 23 16))) (lf 16 (.inl (o_aload 0 17)))) (nd 17 (lf 17 (.inl (o_getJ 3 28 20))) (lf 20 (.inl (o_goto 28))))) (nd 24 (nd 23 (lf 23 (.inl (o_aload 0 24))) (lf 24 (.inr (.inr (95, 1, 1, 3))))) (nd 27 (lf 27 (.inl (o_i2l 28))) (lf 28 (.inr (.inl 2)))))))
def tb_X4_image : Nat → Option AI := (nd 128 (nd 63 (nd 32 (nd 17 (nd 6 (nd 1 (nd 0 (lf 0 (.inl (o_iload 1 1))) (lf 1 (.inl (o_iconst 0 2)))) (nd 2 (lf 2 (.inl (o_iconst 1 3))) (nd 3 (lf 3 (.inr (.inr (99, 3, 3, 9)))) (lf 6 (.inl (o_ifne 14 9)))))) (nd 10 (nd 9 (lf 9 (.inl (o_aload 0 10))) (lf 10 (.inr (.inr (95, 1, 1, 3))))) (nd 13 (lf 13 (.inr (.inl 1))) (nd 14 (lf 14 (.inl (o_iconst 230 17))) (lf 17 (.inl (o_iload 1 18))))))) (nd 24 (nd 19 (nd 18 (lf 18 (.inl (o_imul 19))) (lf 19 (.inl (o_istore 2 20)))) (nd 20 (lf 20 (.inl (o_aload 0 21))) (nd 21 (lf 21 (.inl (o_getR 3 30 21 24))) (lf 24 (.inl (o_iload 1 25)))))) (nd 27 (nd 25 (lf 25 (.inl (o_iconst 1 26))) (nd 26 (lf 26 (.inl (o_iast 27))) (lf 27 (.inl (o_aload 0 28))))) (nd 28 (lf 28 (.inl (o_getR 3 29 20 31))) (nd 31 (lf 31 (.inl (o_iload 2 32))) (lf 32 (.inl (o_aload 0 33)))))))) (nd 48 (nd 41 (nd 36 (nd 33 (lf 33 (.inl (o_getI 3 1 36))) (lf 36 (.inl (o_iast 37)))) (nd 37 (lf 37 (.inl (o_aload 0 38))) (nd 38 (lf 38 (.inl (o_getR 3 29 20 41))) (lf 41 (.inl (o_iload 2 42)))))) (nd 43 (nd 42 (lf 42 (.inl (o_iconst 1 43))) (lf 43 (.inl (o_iadd 44)))) (nd 44 (lf 44 (.inl (o_aload 0 45))) (nd 45 (lf 45 (.inl (o_getI 3 3 48))) (lf 48 (.inl (o_iast 49))))))) (nd 55 (nd 50 (nd 49 (lf 49 (.inl (o_aload 0 50))) (lf 50 (.inl (o_getR 3 29 20 53)))) (nd 53 (lf 53 (.inl (o_iload 2 54))) (nd 54 (lf 54 (.inl (o_iconst 2 55))) (lf 55 (.inl (o_iadd 56)))))) (nd 60 (nd 56 (lf 56 (.inl (o_aload 0 57))) (nd 57 (lf 57 (.inl (o_getI 3 23 60))) (lf 60 (.inl (o_iast 61))))) (nd 61 (lf 61 (.inl (o_aload 0 62))) (nd 62 (lf 62 (.inl (o_aload 0 63))) (lf 63 (.inl (o_getR 3 29 20 66))))))))) (nd 96 (nd 80 (nd 72 (nd 67 (nd 66 (lf 66 (.inl (o_iload 2 67))) (lf 67 (.inl (o_iconst 3 68)))) (nd 68 (lf 68 (.inl (o_iadd 69))) (nd 69 (lf 69 (.inr (.inr (132, 3, 4, 3)))) (lf 72 (.inl (o_iconst 0 73)))))) (nd 74 (nd 73 (lf 73 (.inl (o_istore 3 74))) (lf 74 (.inl (o_iload 3 75)))) (nd 75 (lf 75 (.inl (o_iconst 6 77))) (nd 77 (lf 77 (.inl (o_icge 222 80))) (lf 80 (.inl (o_aload 0 81))))))) (nd 88 (nd 84 (nd 81 (lf 81 (.inl (o_getR 3 29 20 84))) (lf 84 (.inl (o_iload 2 85)))) (nd 85 (lf 85 (.inl (o_iconst 22 87))) (nd 87 (lf 87 (.inl (o_iadd 88))) (lf 88 (.inl (o_iload 3 89)))))) (nd 91 (nd 89 (lf 89 (.inl (o_iadd 90))) (nd 90 (lf 90 (.inl (o_aload 0 91))) (lf 91 (.inl (o_getR 3 4 2 94))))) (nd 94 (lf 94 (.inl (o_iload 3 95))) (nd 95 (lf 95 (.inl (o_iald 4 96))) (lf 96 (.inl (o_iast 97)))))))) (nd 112 (nd 104 (nd 98 (nd 97 (lf 97 (.inl (o_aload 0 98))) (lf 98 (.inl (o_getR 3 29 20 101)))) (nd 101 (lf 101 (.inl (o_iload 2 102))) (nd 102 (lf 102 (.inl (o_iconst 28 104))) (lf 104 (.inl (o_iadd 105)))))) (nd 107 (nd 105 (lf 105 (.inl (o_iload 3 106))) (nd 106 (lf 106 (.inl (o_iadd 107))) (lf 107 (.inl (o_aload 0 108))))) (nd 108 (lf 108 (.inl (o_getR 3 5 3 111))) (nd 111 (lf 111 (.inl (o_iload 3 112))) (lf 112 (.inl (o_iald 4 113))))))) (nd 119 (nd 114 (nd 113 (lf 113 (.inl (o_iast 114))) (lf 114 (.inl (o_aload 0 115)))) (nd 115 (lf 115 (.inl (o_getR 3 29 20 118))) (nd 118 (lf 118 (.inl (o_iload 2 119))) (lf 119 (.inl (o_iconst 34 121)))))) (nd 123 (nd 121 (lf 121 (.inl (o_iadd 122))) (nd 122 (lf 122 (.inl (o_iload 3 123))) (lf 123 (.inl (o_iadd 124))))) (nd 124 (lf 124 (.inl (o_aload 0 125))) (nd 125 (lf 125 (.inl (o_getR 3 6 4 128))) (lf 128 (.inl (o_iload 3 129)))))))))) (nd 187 (nd 157 (nd 141 (nd 135 (nd 130 (nd 129 (lf 129 (.inl (o_iald 4 130))) (lf 130 (.inl (o_iast 131)))) (nd 131 (lf 131 (.inl (o_aload 0 132))) (nd 132 (lf 132 (.inl (o_getR 3 29 20 135))) (lf 135 (.inl (o_iload 2 136)))))) (nd 138 (nd 136 (lf 136 (.inl (o_iconst 40 138))) (lf 138 (.inl (o_iadd 139)))) (nd 139 (lf 139 (.inl (o_iload 3 140))) (nd 140 (lf 140 (.inl (o_iadd 141))) (lf 141 (.inl (o_aload 0 142))))))) (nd 148 (nd 145 (nd 142 (lf 142 (.inl (o_getR 3 10 8 145))) (lf 145 (.inl (o_iload 3 146)))) (nd 146 (lf 146 (.inl (o_iald 4 147))) (nd 147 (lf 147 (.inl (o_iast 148))) (lf 148 (.inl (o_aload 0 149)))))) (nd 153 (nd 149 (lf 149 (.inl (o_getR 3 29 20 152))) (nd 152 (lf 152 (.inl (o_iload 2 153))) (lf 153 (.inl (o_iconst 46 155))))) (nd 155 (lf 155 (.inl (o_iadd 156))) (nd 156 (lf 156 (.inl (o_iload 3 157))) (lf 157 (.inl (o_iadd 158)))))))) (nd 172 (nd 164 (nd 159 (nd 158 (lf 158 (.inl (o_aload 0 159))) (lf 159 (.inl (o_getR 3 11 9 162)))) (nd 162 (lf 162 (.inl (o_iload 3 163))) (nd 163 (lf 163 (.inl (o_iald 4 164))) (lf 164 (.inl (o_iast 165)))))) (nd 166 (nd 165 (lf 165 (.inl (o_aload 0 166))) (lf 166 (.inl (o_getR 3 29 20 169)))) (nd 169 (lf 169 (.inl (o_iload 2 170))) (nd 170 (lf 170 (.inl (o_iconst 52 172))) (lf 172 (.inl (o_iadd 173))))))) (nd 179 (nd 174 (nd 173 (lf 173 (.inl (o_iload 3 174))) (lf 174 (.inl (o_iadd 175)))) (nd 175 (lf 175 (.inl (o_aload 0 176))) (nd 176 (lf 176 (.inl (o_getR 3 12 10 179))) (lf 179 (.inl (o_iload 3 180)))))) (nd 182 (nd 180 (lf 180 (.inl (o_iald 4 181))) (nd 181 (lf 181 (.inl (o_iast 182))) (lf 182 (.inl (o_aload 0 183))))) (nd 183 (lf 183 (.inl (o_getR 3 29 20 186))) (nd 186 (lf 186 (.inl (o_iload 2 187))) (lf 187 (.inl (o_iconst 58 189))))))))) (nd 216 (nd 200 (nd 193 (nd 190 (nd 189 (lf 189 (.inl (o_iadd 190))) (lf 190 (.inl (o_iload 3 191)))) (nd 191 (lf 191 (.inl (o_iadd 192))) (nd 192 (lf 192 (.inl (o_aload 0 193))) (lf 193 (.inl (o_getR 3 13 11 196)))))) (nd 197 (nd 196 (lf 196 (.inl (o_iload 3 197))) (lf 197 (.inl (o_iald 4 198)))) (nd 198 (lf 198 (.inl (o_iast 199))) (nd 199 (lf 199 (.inl (o_aload 0 200))) (lf 200 (.inl (o_getR 3 29 20 203))))))) (nd 208 (nd 204 (nd 203 (lf 203 (.inl (o_iload 2 204))) (lf 204 (.inl (o_iconst 64 206)))) (nd 206 (lf 206 (.inl (o_iadd 207))) (nd 207 (lf 207 (.inl (o_iload 3 208))) (lf 208 (.inl (o_iadd 209)))))) (nd 213 (nd 209 (lf 209 (.inl (o_aload 0 210))) (nd 210 (lf 210 (.inl (o_getR 3 14 12 213))) (lf 213 (.inl (o_iload 3 214))))) (nd 214 (lf 214 (.inl (o_iald 4 215))) (nd 215 (lf 215 (.inl (o_iast 216))) (lf 216 (.inl (o_iinc 3 1 219)))))))) (nd 238 (nd 225 (nd 222 (nd 219 (lf 219 (.inl (o_goto 74))) (lf 222 (.inl (o_iconst 0 223)))) (nd 223 (lf 223 (.inl (o_istore 3 224))) (nd 224 (lf 224 (.inl (o_iload 3 225))) (lf 225 (.inl (o_iconst 152 228)))))) (nd 232 (nd 228 (lf 228 (.inl (o_icge 254 231))) (nd 231 (lf 231 (.inl (o_aload 0 232))) (lf 232 (.inl (o_getR 3 29 20 235))))) (nd 235 (lf 235 (.inl (o_iload 2 236))) (nd 236 (lf 236 (.inl (o_iconst 70 238))) (lf 238 (.inl (o_iadd 239))))))) (nd 245 (nd 240 (nd 239 (lf 239 (.inl (o_iload 3 240))) (lf 240 (.inl (o_iadd 241)))) (nd 241 (lf 241 (.inl (o_aload 0 242))) (nd 242 (lf 242 (.inl (o_getR 3 22 16 245))) (lf 245 (.inl (o_iload 3 246)))))) (nd 248 (nd 246 (lf 246 (.inl (o_iald 4 247))) (nd 247 (lf 247 (.inl (o_iast 248))) (lf 248 (.inl (o_iinc 3 1 251))))) (nd 251 (lf 251 (.inl (o_goto 224))) (nd 254 (lf 254 (.inl (o_iconst 1 255))) (lf 255 (.inr (.inl 1)))))))))))
def tb_X4_from : Nat → Option AI := (nd 133 (nd 68 (nd 34 (nd 15 (nd 6 (nd 1 (nd 0 (lf 0 (.inl (o_iload 1 1))) (lf 1 (.inl (o_iconst 0 2)))) (nd 2 (lf 2 (.inl (o_iconst 1 3))) (nd 3 (lf 3 (.inr (.inr (99, 3, 3, 9)))) (lf 6 (.inl (o_ifne 14 9)))))) (nd 10 (nd 9 (lf 9 (.inl (o_aload 0 10))) (lf 10 (.inr (.inr (95, 1, 1, 3))))) (nd 13 (lf 13 (.inr (.inl 1))) (nd 14 (lf 14 (.inl (o_aload 0 15))) (lf 15 (.inl (o_getR 3 30 21 18))))))) (nd 24 (nd 19 (nd 18 (lf 18 (.inl (o_iload 1 19))) (lf 19 (.inl (o_iald 4 20)))) (nd 20 (lf 20 (.inl (o_ifne 28 23))) (nd 23 (lf 23 (.inl (o_aload 0 24))) (lf 24 (.inr (.inr (97, 1, 1, 3))))))) (nd 31 (nd 27 (lf 27 (.inr (.inl 1))) (nd 28 (lf 28 (.inl (o_iconst 230 31))) (lf 31 (.inl (o_iload 1 32))))) (nd 32 (lf 32 (.inl (o_imul 33))) (nd 33 (lf 33 (.inl (o_istore 2 34))) (lf 34 (.inl (o_aload 0 35)))))))) (nd 51 (nd 41 (nd 36 (nd 35 (lf 35 (.inl (o_aload 0 36))) (lf 36 (.inl (o_getR 3 29 20 39)))) (nd 39 (lf 39 (.inl (o_iload 2 40))) (nd 40 (lf 40 (.inl (o_iald 4 41))) (lf 41 (.inl (o_putI 3 1 44)))))) (nd 46 (nd 44 (lf 44 (.inl (o_aload 0 45))) (nd 45 (lf 45 (.inl (o_aload 0 46))) (lf 46 (.inl (o_getR 3 29 20 49))))) (nd 49 (lf 49 (.inl (o_iload 2 50))) (nd 50 (lf 50 (.inl (o_iconst 1 51))) (lf 51 (.inl (o_iadd 52))))))) (nd 58 (nd 53 (nd 52 (lf 52 (.inl (o_iald 4 53))) (lf 53 (.inl (o_putI 3 3 56)))) (nd 56 (lf 56 (.inl (o_aload 0 57))) (nd 57 (lf 57 (.inl (o_aload 0 58))) (lf 58 (.inl (o_getR 3 29 20 61)))))) (nd 63 (nd 61 (lf 61 (.inl (o_iload 2 62))) (nd 62 (lf 62 (.inl (o_iconst 2 63))) (lf 63 (.inl (o_iadd 64))))) (nd 64 (lf 64 (.inl (o_iald 4 65))) (nd 65 (lf 65 (.inl (o_putI 3 23 68))) (lf 68 (.inl (o_aload 0 69))))))))) (nd 101 (nd 82 (nd 75 (nd 70 (nd 69 (lf 69 (.inl (o_aload 0 70))) (lf 70 (.inl (o_getR 3 29 20 73)))) (nd 73 (lf 73 (.inl (o_iload 2 74))) (nd 74 (lf 74 (.inl (o_iconst 3 75))) (lf 75 (.inl (o_iadd 76)))))) (nd 79 (nd 76 (lf 76 (.inr (.inr (133, 3, 4, 3)))) (lf 79 (.inl (o_iconst 0 80)))) (nd 80 (lf 80 (.inl (o_istore 3 81))) (nd 81 (lf 81 (.inl (o_iload 3 82))) (lf 82 (.inl (o_iconst 6 84))))))) (nd 92 (nd 87 (nd 84 (lf 84 (.inl (o_icge 229 87))) (lf 87 (.inl (o_aload 0 88)))) (nd 88 (lf 88 (.inl (o_getR 3 4 2 91))) (nd 91 (lf 91 (.inl (o_iload 3 92))) (lf 92 (.inl (o_aload 0 93)))))) (nd 97 (nd 93 (lf 93 (.inl (o_getR 3 29 20 96))) (nd 96 (lf 96 (.inl (o_iload 2 97))) (lf 97 (.inl (o_iconst 22 99))))) (nd 99 (lf 99 (.inl (o_iadd 100))) (nd 100 (lf 100 (.inl (o_iload 3 101))) (lf 101 (.inl (o_iadd 102)))))))) (nd 117 (nd 108 (nd 103 (nd 102 (lf 102 (.inl (o_iald 4 103))) (lf 103 (.inl (o_iast 104)))) (nd 104 (lf 104 (.inl (o_aload 0 105))) (nd 105 (lf 105 (.inl (o_getR 3 5 3 108))) (lf 108 (.inl (o_iload 3 109)))))) (nd 113 (nd 109 (lf 109 (.inl (o_aload 0 110))) (nd 110 (lf 110 (.inl (o_getR 3 29 20 113))) (lf 113 (.inl (o_iload 2 114))))) (nd 114 (lf 114 (.inl (o_iconst 28 116))) (nd 116 (lf 116 (.inl (o_iadd 117))) (lf 117 (.inl (o_iload 3 118))))))) (nd 122 (nd 119 (nd 118 (lf 118 (.inl (o_iadd 119))) (lf 119 (.inl (o_iald 4 120)))) (nd 120 (lf 120 (.inl (o_iast 121))) (nd 121 (lf 121 (.inl (o_aload 0 122))) (lf 122 (.inl (o_getR 3 6 4 125)))))) (nd 127 (nd 125 (lf 125 (.inl (o_iload 3 126))) (nd 126 (lf 126 (.inl (o_aload 0 127))) (lf 127 (.inl (o_getR 3 29 20 130))))) (nd 130 (lf 130 (.inl (o_iload 2 131))) (nd 131 (lf 131 (.inl (o_iconst 34 133))) (lf 133 (.inl (o_iadd 134)))))))))) (nd 193 (nd 161 (nd 147 (nd 138 (nd 135 (nd 134 (lf 134 (.inl (o_iload 3 135))) (lf 135 (.inl (o_iadd 136)))) (nd 136 (lf 136 (.inl (o_iald 4 137))) (nd 137 (lf 137 (.inl (o_iast 138))) (lf 138 (.inl (o_aload 0 139)))))) (nd 142 (nd 139 (lf 139 (.inl (o_getR 3 10 8 142))) (lf 142 (.inl (o_iload 3 143)))) (nd 143 (lf 143 (.inl (o_aload 0 144))) (nd 144 (lf 144 (.inl (o_getR 3 29 20 147))) (lf 147 (.inl (o_iload 2 148))))))) (nd 153 (nd 150 (nd 148 (lf 148 (.inl (o_iconst 40 150))) (lf 150 (.inl (o_iadd 151)))) (nd 151 (lf 151 (.inl (o_iload 3 152))) (nd 152 (lf 152 (.inl (o_iadd 153))) (lf 153 (.inl (o_iald 4 154)))))) (nd 156 (nd 154 (lf 154 (.inl (o_iast 155))) (nd 155 (lf 155 (.inl (o_aload 0 156))) (lf 156 (.inl (o_getR 3 11 9 159))))) (nd 159 (lf 159 (.inl (o_iload 3 160))) (nd 160 (lf 160 (.inl (o_aload 0 161))) (lf 161 (.inl (o_getR 3 29 20 164)))))))) (nd 177 (nd 169 (nd 165 (nd 164 (lf 164 (.inl (o_iload 2 165))) (lf 165 (.inl (o_iconst 46 167)))) (nd 167 (lf 167 (.inl (o_iadd 168))) (nd 168 (lf 168 (.inl (o_iload 3 169))) (lf 169 (.inl (o_iadd 170)))))) (nd 172 (nd 170 (lf 170 (.inl (o_iald 4 171))) (nd 171 (lf 171 (.inl (o_iast 172))) (lf 172 (.inl (o_aload 0 173))))) (nd 173 (lf 173 (.inl (o_getR 3 12 10 176))) (nd 176 (lf 176 (.inl (o_iload 3 177))) (lf 177 (.inl (o_aload 0 178))))))) (nd 185 (nd 181 (nd 178 (lf 178 (.inl (o_getR 3 29 20 181))) (lf 181 (.inl (o_iload 2 182)))) (nd 182 (lf 182 (.inl (o_iconst 52 184))) (nd 184 (lf 184 (.inl (o_iadd 185))) (lf 185 (.inl (o_iload 3 186)))))) (nd 188 (nd 186 (lf 186 (.inl (o_iadd 187))) (nd 187 (lf 187 (.inl (o_iald 4 188))) (lf 188 (.inl (o_iast 189))))) (nd 189 (lf 189 (.inl (o_aload 0 190))) (nd 190 (lf 190 (.inl (o_getR 3 13 11 193))) (lf 193 (.inl (o_iload 3 194))))))))) (nd 223 (nd 207 (nd 201 (nd 195 (nd 194 (lf 194 (.inl (o_aload 0 195))) (lf 195 (.inl (o_getR 3 29 20 198)))) (nd 198 (lf 198 (.inl (o_iload 2 199))) (nd 199 (lf 199 (.inl (o_iconst 58 201))) (lf 201 (.inl (o_iadd 202)))))) (nd 204 (nd 202 (lf 202 (.inl (o_iload 3 203))) (nd 203 (lf 203 (.inl (o_iadd 204))) (lf 204 (.inl (o_iald 4 205))))) (nd 205 (lf 205 (.inl (o_iast 206))) (nd 206 (lf 206 (.inl (o_aload 0 207))) (lf 207 (.inl (o_getR 3 14 12 210))))))) (nd 216 (nd 211 (nd 210 (lf 210 (.inl (o_iload 3 211))) (lf 211 (.inl (o_aload 0 212)))) (nd 212 (lf 212 (.inl (o_getR 3 29 20 215))) (nd 215 (lf 215 (.inl (o_iload 2 216))) (lf 216 (.inl (o_iconst 64 218)))))) (nd 220 (nd 218 (lf 218 (.inl (o_iadd 219))) (nd 219 (lf 219 (.inl (o_iload 3 220))) (lf 220 (.inl (o_iadd 221))))) (nd 221 (lf 221 (.inl (o_iald 4 222))) (nd 222 (lf 222 (.inl (o_iast 223))) (lf 223 (.inl (o_iinc 3 1 226)))))))) (nd 244 (nd 232 (nd 229 (nd 226 (lf 226 (.inl (o_goto 81))) (lf 229 (.inl (o_iconst 0 230)))) (nd 230 (lf 230 (.inl (o_istore 3 231))) (nd 231 (lf 231 (.inl (o_iload 3 232))) (lf 232 (.inl (o_iconst 152 235)))))) (nd 239 (nd 235 (lf 235 (.inl (o_icge 261 238))) (nd 238 (lf 238 (.inl (o_aload 0 239))) (lf 239 (.inl (o_getR 3 22 16 242))))) (nd 242 (lf 242 (.inl (o_iload 3 243))) (nd 243 (lf 243 (.inl (o_aload 0 244))) (lf 244 (.inl (o_getR 3 29 20 247))))))) (nd 252 (nd 248 (nd 247 (lf 247 (.inl (o_iload 2 248))) (lf 248 (.inl (o_iconst 70 250)))) (nd 250 (lf 250 (.inl (o_iadd 251))) (nd 251 (lf 251 (.inl (o_iload 3 252))) (lf 252 (.inl (o_iadd 253)))))) (nd 255 (nd 253 (lf 253 (.inl (o_iald 4 254))) (nd 254 (lf 254 (.inl (o_iast 255))) (lf 255 (.inl (o_iinc 3 1 258))))) (nd 258 (lf 258 (.inl (o_goto 231))) (nd 261 (lf 261 (.inl (o_iconst 1 262))) (lf 262 (.inr (.inl 1)))))))))))
def tb_X4_status : Nat → Option AI := (nd 15 (nd 6 (nd 1 (nd 0 (lf 0 (.inl (o_iload 1 1))) (lf 1 (.inl (o_iconst 0 2)))) (nd 2 (lf 2 (.inl (o_iconst 2 3))) (nd 3 (lf 3 (.inr (.inr (99, 3, 3, 9)))) (lf 6 (.inl (o_ifne 21 9)))))) (nd 10 (nd 9 (lf 9 (.inl (o_aload 0 10))) (lf 10 (.inl (o_getR 3 0 1 13)))) (nd 13 (lf 13 (.inl (o_iconst 0 14))) (nd 14 (lf 14 (.inl (o_dup2 15))) (lf 15 (.inl (o_iald 4 16))))))) (nd 20 (nd 17 (nd 16 (lf 16 (.inl (o_iconst 1 17))) (lf 17 (.inl (o_iadd 18)))) (nd 18 (lf 18 (.inl (o_iast 19))) (nd 19 (lf 19 (.inl (o_iconst (-1) 20))) (lf 20 (.inr (.inl 1)))))) (nd 22 (nd 21 (lf 21 (.inl (o_aload 0 22))) (lf 22 (.inl (o_getR 3 0 1 25)))) (nd 25 (lf 25 (.inl (o_iload 1 26))) (nd 26 (lf 26 (.inl (o_iald 4 27))) (lf 27 (.inr (.inl 1))))))))
def tb_X4_allSlipped : Nat → Option AI := (nd 12 (nd 3 (nd 1 (nd 0 (lf 0 (.inl (o_iconst 0 1))) (lf 1 (.inl (o_istore 1 2)))) (nd 2 (lf 2 (.inl (o_iconst 0 3))) (lf 3 (.inl (o_istore 2 4))))) (nd 5 (nd 4 (lf 4 (.inl (o_iload 2 5))) (lf 5 (.inl (o_aload 0 6)))) (nd 6 (lf 6 (.inl (o_getI 3 1 9))) (nd 9 (lf 9 (.inl (o_icge 27 12))) (lf 12 (.inl (o_iload 1 13))))))) (nd 19 (nd 14 (nd 13 (lf 13 (.inl (o_aload 0 14))) (lf 14 (.inl (o_getR 3 9 7 17)))) (nd 17 (lf 17 (.inl (o_iload 2 18))) (nd 18 (lf 18 (.inl (o_iald 4 19))) (lf 19 (.inl (o_iadd 20)))))) (nd 21 (nd 20 (lf 20 (.inl (o_istore 1 21))) (lf 21 (.inl (o_iinc 2 1 24)))) (nd 24 (lf 24 (.inl (o_goto 4))) (nd 27 (lf 27 (.inl (o_iload 1 28))) (lf 28 (.inr (.inl 1))))))))
def tb_X4_countOf : Nat → Option AI := (nd 57 (nd 45 (nd 40 (nd 0 (lf 0 (.inl (o_iload 1 1))) (nd 1 (lf 1 (.inl (o_tsw 0 [40, 45, 50, 58, 63, 68] 73))) (lf 40 (.inl (o_aload 0 41))))) (nd 41 (lf 41 (.inl (o_getI 3 1 44))) (nd 44 (lf 44 (.inr (.inl 1))) (lf 45 (.inl (o_aload 0 46)))))) (nd 50 (nd 46 (lf 46 (.inl (o_getI 3 2 49))) (nd 49 (lf 49 (.inr (.inl 1))) (lf 50 (.inl (o_aload 0 51))))) (nd 51 (lf 51 (.inr (.inr (169, 1, 3, 3)))) (nd 54 (lf 54 (.inr (.inr (170, 1, 3, 9)))) (lf 57 (.inr (.inl 1))))))) (nd 67 (nd 62 (nd 58 (lf 58 (.inl (o_aload 0 59))) (nd 59 (lf 59 (.inr (.inr (177, 1, 3, 3)))) (lf 62 (.inr (.inl 1))))) (nd 63 (lf 63 (.inl (o_aload 0 64))) (nd 64 (lf 64 (.inl (o_getI 3 3 67))) (lf 67 (.inr (.inl 1)))))) (nd 72 (nd 68 (lf 68 (.inl (o_aload 0 69))) (nd 69 (lf 69 (.inl (o_getI 3 23 72))) (lf 72 (.inr (.inl 1))))) (nd 73 (lf 73 (.inl (o_aload 0 74))) (nd 74 (lf 74 (.inl (o_getI 3 16 77))) (lf 77 (.inr (.inl 1))))))))
def tb_X4_count : Nat → Option AI := (nd 10 (nd 2 (nd 0 (lf 0 (.inl (o_iload 1 1))) (nd 1 (lf 1 (.inl (o_iconst 0 2))) (lf 2 (.inl (o_iconst 6 4))))) (nd 4 (lf 4 (.inr (.inr (99, 3, 3, 9)))) (nd 7 (lf 7 (.inl (o_ifeq 18 10))) (lf 10 (.inl (o_aload 0 11)))))) (nd 15 (nd 11 (lf 11 (.inl (o_iload 1 12))) (nd 12 (lf 12 (.inr (.inr (178, 2, 2, 3)))) (lf 15 (.inl (o_goto 22))))) (nd 18 (lf 18 (.inl (o_aload 0 19))) (nd 19 (lf 19 (.inr (.inr (95, 1, 1, 3)))) (lf 22 (.inr (.inl 1)))))))
def tb_X4_mix : Nat → Option AI := (nd 5 (nd 1 (nd 0 (lf 0 (.inl (o_aload 0 1))) (lf 1 (.inl (o_lconst 31 4)))) (nd 4 (lf 4 (.inl (o_aload 0 5))) (lf 5 (.inl (o_getJ 3 31 8))))) (nd 9 (nd 8 (lf 8 (.inl (o_lmul 9))) (lf 9 (.inl (o_lload 1 10)))) (nd 10 (lf 10 (.inl (o_ladd 11))) (nd 11 (lf 11 (.inl (o_putJ 3 31 14))) (lf 14 (.inr (.inl 0)))))))
def tb_X4_digest : Nat → Option AI := (nd 108 (nd 58 (nd 28 (nd 12 (nd 7 (nd 1 (nd 0 (lf 0 (.inl (o_aload 0 1))) (lf 1 (.inl (o_lconst 1297 4)))) (nd 4 (lf 4 (.inl (o_putJ 3 31 7))) (lf 7 (.inl (o_iconst 0 8))))) (nd 9 (nd 8 (lf 8 (.inl (o_istore 1 9))) (lf 9 (.inl (o_iload 1 10)))) (nd 10 (lf 10 (.inl (o_iconst 6 12))) (lf 12 (.inl (o_icgt 31 15)))))) (nd 18 (nd 16 (nd 15 (lf 15 (.inl (o_aload 0 16))) (lf 16 (.inl (o_aload 0 17)))) (nd 17 (lf 17 (.inl (o_iload 1 18))) (lf 18 (.inr (.inr (178, 2, 2, 3)))))) (nd 22 (nd 21 (lf 21 (.inl (o_i2l 22))) (lf 22 (.inr (.inr (180, 2, 3, 3))))) (nd 25 (lf 25 (.inl (o_iinc 1 1 28))) (lf 28 (.inl (o_goto 9))))))) (nd 42 (nd 34 (nd 32 (nd 31 (lf 31 (.inl (o_iconst 0 32))) (lf 32 (.inl (o_istore 1 33)))) (nd 33 (lf 33 (.inl (o_iload 1 34))) (lf 34 (.inl (o_aload 0 35))))) (nd 38 (nd 35 (lf 35 (.inl (o_getI 3 1 38))) (lf 38 (.inl (o_icge 58 41)))) (nd 41 (lf 41 (.inl (o_aload 0 42))) (lf 42 (.inl (o_aload 0 43)))))) (nd 48 (nd 46 (nd 43 (lf 43 (.inl (o_getR 3 6 4 46))) (lf 46 (.inl (o_iload 1 47)))) (nd 47 (lf 47 (.inl (o_iald 4 48))) (lf 48 (.inl (o_i2l 49))))) (nd 52 (nd 49 (lf 49 (.inr (.inr (180, 2, 3, 3)))) (lf 52 (.inl (o_iinc 1 1 55)))) (nd 55 (lf 55 (.inl (o_goto 33))) (lf 58 (.inl (o_iconst 0 59)))))))) (nd 84 (nd 70 (nd 62 (nd 60 (nd 59 (lf 59 (.inl (o_istore 1 60))) (lf 60 (.inl (o_iload 1 61)))) (nd 61 (lf 61 (.inl (o_aload 0 62))) (lf 62 (.inl (o_getI 3 1 65))))) (nd 68 (nd 65 (lf 65 (.inl (o_icge 129 68))) (lf 68 (.inl (o_aload 0 69)))) (nd 69 (lf 69 (.inl (o_aload 0 70))) (lf 70 (.inl (o_getR 3 4 2 73)))))) (nd 76 (nd 74 (nd 73 (lf 73 (.inl (o_iload 1 74))) (lf 74 (.inl (o_iald 4 75)))) (nd 75 (lf 75 (.inl (o_i2l 76))) (lf 76 (.inr (.inr (180, 2, 3, 3)))))) (nd 80 (nd 79 (lf 79 (.inl (o_aload 0 80))) (lf 80 (.inl (o_aload 0 81)))) (nd 81 (lf 81 (.inl (o_getR 3 5 3 84))) (lf 84 (.inl (o_iload 1 85))))))) (nd 96 (nd 90 (nd 86 (nd 85 (lf 85 (.inl (o_iald 4 86))) (lf 86 (.inl (o_i2l 87)))) (nd 87 (lf 87 (.inr (.inr (180, 2, 3, 3)))) (lf 90 (.inl (o_aload 0 91))))) (nd 92 (nd 91 (lf 91 (.inl (o_aload 0 92))) (lf 92 (.inl (o_getR 3 7 5 95)))) (nd 95 (lf 95 (.inl (o_iload 1 96))) (lf 96 (.inl (o_iald 4 97)))))) (nd 102 (nd 98 (nd 97 (lf 97 (.inl (o_i2l 98))) (lf 98 (.inr (.inr (180, 2, 3, 3))))) (nd 101 (lf 101 (.inl (o_aload 0 102))) (lf 102 (.inl (o_aload 0 103))))) (nd 106 (nd 103 (lf 103 (.inl (o_getR 3 8 6 106))) (lf 106 (.inl (o_iload 1 107)))) (nd 107 (lf 107 (.inl (o_iald 4 108))) (lf 108 (.inl (o_i2l 109))))))))) (nd 162 (nd 136 (nd 120 (nd 114 (nd 112 (nd 109 (lf 109 (.inr (.inr (180, 2, 3, 3)))) (lf 112 (.inl (o_aload 0 113)))) (nd 113 (lf 113 (.inl (o_aload 0 114))) (lf 114 (.inl (o_getR 3 9 7 117))))) (nd 118 (nd 117 (lf 117 (.inl (o_iload 1 118))) (lf 118 (.inl (o_iald 4 119)))) (nd 119 (lf 119 (.inl (o_i2l 120))) (lf 120 (.inr (.inr (180, 2, 3, 3))))))) (nd 130 (nd 126 (nd 123 (lf 123 (.inl (o_iinc 1 1 126))) (lf 126 (.inl (o_goto 60)))) (nd 129 (lf 129 (.inl (o_iconst 0 130))) (lf 130 (.inl (o_istore 1 131))))) (nd 132 (nd 131 (lf 131 (.inl (o_iload 1 132))) (lf 132 (.inl (o_aload 0 133)))) (nd 133 (lf 133 (.inl (o_getI 3 3 136))) (lf 136 (.inl (o_icge 200 139))))))) (nd 150 (nd 144 (nd 140 (nd 139 (lf 139 (.inl (o_aload 0 140))) (lf 140 (.inl (o_aload 0 141)))) (nd 141 (lf 141 (.inl (o_getR 3 10 8 144))) (lf 144 (.inl (o_iload 1 145))))) (nd 146 (nd 145 (lf 145 (.inl (o_iald 4 146))) (lf 146 (.inl (o_i2l 147)))) (nd 147 (lf 147 (.inr (.inr (180, 2, 3, 3)))) (lf 150 (.inl (o_aload 0 151)))))) (nd 156 (nd 152 (nd 151 (lf 151 (.inl (o_aload 0 152))) (lf 152 (.inl (o_getR 3 11 9 155)))) (nd 155 (lf 155 (.inl (o_iload 1 156))) (lf 156 (.inl (o_iald 4 157))))) (nd 158 (nd 157 (lf 157 (.inl (o_i2l 158))) (lf 158 (.inr (.inr (180, 2, 3, 3))))) (nd 161 (lf 161 (.inl (o_aload 0 162))) (lf 162 (.inl (o_aload 0 163)))))))) (nd 188 (nd 174 (nd 168 (nd 166 (nd 163 (lf 163 (.inl (o_getR 3 12 10 166))) (lf 166 (.inl (o_iload 1 167)))) (nd 167 (lf 167 (.inl (o_iald 4 168))) (lf 168 (.inl (o_i2l 169))))) (nd 172 (nd 169 (lf 169 (.inr (.inr (180, 2, 3, 3)))) (lf 172 (.inl (o_aload 0 173)))) (nd 173 (lf 173 (.inl (o_aload 0 174))) (lf 174 (.inl (o_getR 3 13 11 177)))))) (nd 180 (nd 178 (nd 177 (lf 177 (.inl (o_iload 1 178))) (lf 178 (.inl (o_iald 4 179)))) (nd 179 (lf 179 (.inl (o_i2l 180))) (lf 180 (.inr (.inr (180, 2, 3, 3)))))) (nd 184 (nd 183 (lf 183 (.inl (o_aload 0 184))) (lf 184 (.inl (o_aload 0 185)))) (nd 185 (lf 185 (.inl (o_getR 3 14 12 188))) (lf 188 (.inl (o_iload 1 189))))))) (nd 202 (nd 194 (nd 190 (nd 189 (lf 189 (.inl (o_iald 4 190))) (lf 190 (.inl (o_i2l 191)))) (nd 191 (lf 191 (.inr (.inr (180, 2, 3, 3)))) (lf 194 (.inl (o_iinc 1 1 197))))) (nd 200 (nd 197 (lf 197 (.inl (o_goto 131))) (lf 200 (.inl (o_aload 0 201)))) (nd 201 (lf 201 (.inl (o_aload 0 202))) (lf 202 (.inl (o_getJ 3 27 205)))))) (nd 210 (nd 208 (nd 205 (lf 205 (.inr (.inr (180, 2, 3, 3)))) (lf 208 (.inl (o_aload 0 209)))) (nd 209 (lf 209 (.inl (o_aload 0 210))) (lf 210 (.inl (o_getJ 3 28 213))))) (nd 216 (nd 213 (lf 213 (.inr (.inr (180, 2, 3, 3)))) (lf 216 (.inl (o_aload 0 217)))) (nd 217 (lf 217 (.inl (o_getJ 3 31 220))) (lf 220 (.inr (.inl 2))))))))))
def tb_J6_bitCount_0f7a4 : Nat → Option AI := (nd 26 (nd 11 (nd 4 (nd 1 (nd 0 (lf 0 (.inl (o_iload 0 1))) (lf 1 (.inl (o_iload 0 2)))) (nd 2 (lf 2 (.inl (o_iconst 1 3))) (nd 3 (lf 3 (.inl (o_iushr 4))) (lf 4 (.inl (o_iconst 1431655765 7)))))) (nd 8 (nd 7 (lf 7 (.inl (o_iand 8))) (lf 8 (.inl (o_isub 9)))) (nd 9 (lf 9 (.inl (o_istore 0 10))) (nd 10 (lf 10 (.inl (o_iload 0 11))) (lf 11 (.inl (o_iconst 858993459 14))))))) (nd 18 (nd 15 (nd 14 (lf 14 (.inl (o_iand 15))) (lf 15 (.inl (o_iload 0 16)))) (nd 16 (lf 16 (.inl (o_iconst 2 17))) (nd 17 (lf 17 (.inl (o_iushr 18))) (lf 18 (.inl (o_iconst 858993459 21)))))) (nd 23 (nd 21 (lf 21 (.inl (o_iand 22))) (nd 22 (lf 22 (.inl (o_iadd 23))) (lf 23 (.inl (o_istore 0 24))))) (nd 24 (lf 24 (.inl (o_iload 0 25))) (nd 25 (lf 25 (.inl (o_iload 0 26))) (lf 26 (.inl (o_iconst 4 27)))))))) (nd 39 (nd 33 (nd 28 (nd 27 (lf 27 (.inl (o_iushr 28))) (lf 28 (.inl (o_iadd 29)))) (nd 29 (lf 29 (.inl (o_iconst 252645135 32))) (nd 32 (lf 32 (.inl (o_iand 33))) (lf 33 (.inl (o_istore 0 34)))))) (nd 35 (nd 34 (lf 34 (.inl (o_iload 0 35))) (lf 35 (.inl (o_iload 0 36)))) (nd 36 (lf 36 (.inl (o_iconst 8 38))) (nd 38 (lf 38 (.inl (o_iushr 39))) (lf 39 (.inl (o_iadd 40))))))) (nd 45 (nd 41 (nd 40 (lf 40 (.inl (o_istore 0 41))) (lf 41 (.inl (o_iload 0 42)))) (nd 42 (lf 42 (.inl (o_iload 0 43))) (nd 43 (lf 43 (.inl (o_iconst 16 45))) (lf 45 (.inl (o_iushr 46)))))) (nd 48 (nd 46 (lf 46 (.inl (o_iadd 47))) (nd 47 (lf 47 (.inl (o_istore 0 48))) (lf 48 (.inl (o_iload 0 49))))) (nd 49 (lf 49 (.inl (o_iconst 63 51))) (nd 51 (lf 51 (.inl (o_iand 52))) (lf 52 (.inr (.inl 1)))))))))
def PP : PT := (nm 90 (nm 44 (nm 21 (nm 10 (nm 4 (nm 1 (nm 0 (lm 0 tb_X0_empty) (lm 1 tb_X0_becomeLike)) (nm 2 (lm 2 tb_X0_welcome) (nm 3 (lm 3 tb_X0_voiceWith) (lm 4 tb_X0_give)))) (nm 7 (nm 5 (lm 5 tb_X0_putDown) (nm 6 (lm 6 tb_X0_isWithAnother) (lm 7 tb_X0_goOneEvening))) (nm 8 (lm 8 tb_X0_keepPast) (nm 9 (lm 9 tb_X0_goBack) (lm 10 tb_X0_soundOf))))) (nm 15 (nm 12 (nm 11 (lm 11 tb_X0_fitWith) (lm 12 tb_X0_fitNow)) (nm 13 (lm 13 tb_X0_leastFit) (nm 14 (lm 14 tb_X0_ringFrom) (lm 15 tb_X0_ringsOfTwoOrMore)))) (nm 18 (nm 16 (lm 16 tb_X0_isFirstOfRing) (nm 17 (lm 17 tb_X0_bothWouldRather) (lm 18 tb_X0_howManySwaps))) (nm 19 (lm 19 tb_X0_swapAt) (nm 20 (lm 20 tb_X0_exchange) (lm 21 tb_X0_writeDown)))))) (nm 32 (nm 26 (nm 23 (nm 22 (lm 22 tb_X0_kindsByNotes) (lm 23 tb_X0_isSoByNote)) (nm 24 (lm 24 tb_X0_lendOrLeave) (nm 25 (lm 25 tb_X0_atCounter) (lm 26 tb_X0_allSlipped)))) (nm 29 (nm 27 (lm 27 tb_X0_digestOn) (nm 28 (lm 28 tb_X1_soundOf) (lm 29 tb_X1_wordsOf))) (nm 30 (lm 30 tb_X1_plainWords) (nm 31 (lm 31 tb_X1_trebleWords) (lm 32 tb_X1_mostAlike))))) (nm 38 (nm 35 (nm 33 (lm 33 tb_X2_append) (nm 34 (lm 34 tb_X2_readInto) (lm 35 tb_X2_isCounter))) (nm 36 (lm 36 tb_X2_isItem) (nm 37 (lm 37 tb_X2_isOne) (lm 38 tb_X2_isLeave)))) (nm 41 (nm 39 (lm 39 tb_X2_isLend) (nm 40 (lm 40 tb_X2_isNumberBelow) (lm 41 tb_X2_isStop))) (nm 42 (lm 42 tb_X2_isWord) (nm 43 (lm 43 tb_X2_step) (lm 44 tb_X2_tokenBegunBy))))))) (nm 67 (nm 55 (nm 49 (nm 46 (nm 45 (lm 45 tb_X2_takeValue) (lm 46 tb_X3_counter)) (nm 47 (lm 47 tb_X3_one) (nm 48 (lm 48 tb_X3_type) (lm 49 tb_X3_clear)))) (nm 52 (nm 50 (lm 50 tb_X3_read) (nm 51 (lm 51 tb_X3_lend) (lm 52 tb_X3_leave))) (nm 53 (lm 53 tb_X3_evening) (nm 54 (lm 54 tb_X3_undo) (lm 55 tb_X3_of))))) (nm 61 (nm 58 (nm 56 (lm 56 tb_X3_about) (nm 57 (lm 57 tb_X3_fit) (lm 58 tb_X3_best))) (nm 59 (lm 59 tb_X3_dumb) (nm 60 (lm 60 tb_X3_own) (lm 61 tb_X3_ring)))) (nm 64 (nm 62 (lm 62 tb_X3_swaps) (nm 63 (lm 63 tb_X3_steps) (lm 64 tb_X3_worst))) (nm 65 (lm 65 tb_X3_slips) (nm 66 (lm 66 tb_X3_note) (lm 67 tb_X3_forget)))))) (nm 78 (nm 72 (nm 69 (nm 68 (lm 68 tb_X3_is) (lm 69 tb_X3_listen)) (nm 70 (lm 70 tb_X3_whose) (nm 71 (lm 71 tb_X3_asks) (lm 72 tb_X3_thieves)))) (nm 75 (nm 73 (lm 73 tb_X3_lents) (nm 74 (lm 74 tb_X3_part) (lm 75 tb_X3_image))) (nm 76 (lm 76 tb_X3_from) (nm 77 (lm 77 tb_X3_status) (lm 78 tb_X3_count))))) (nm 84 (nm 81 (nm 79 (lm 79 tb_X3_digest) (nm 80 (lm 80 tb_X3_bad) (lm 81 tb_X3_badByTen))) (nm 82 (lm 82 tb_X3_no) (nm 83 (lm 83 tb_X3_full) (lm 84 tb_X3_within)))) (nm 87 (nm 85 (lm 85 tb_X3_isSort) (nm 86 (lm 86 tb_X3_isThere) (lm 87 tb_X3_howMany))) (nm 88 (lm 88 tb_X3_findBest) (nm 89 (lm 89 tb_X3_bestVoiceOf) (lm 90 tb_X3_isContent)))))))) (nm 136 (nm 113 (nm 101 (nm 95 (nm 92 (nm 91 (lm 91 tb_X3_power) (lm 92 tb_X3_setFraction)) (nm 93 (lm 93 tb_X3_greatestCommonDivisor) (nm 94 (lm 94 tb_X3_nextOfSeed) (lm 95 tb_X4_bad)))) (nm 98 (nm 96 (lm 96 tb_X4_ten) (nm 97 (lm 97 tb_X4_no) (lm 98 tb_X4_full))) (nm 99 (lm 99 tb_X4_in) (nm 100 (lm 100 tb_X4_has) (lm 101 tb_X4_begin))))) (nm 107 (nm 104 (nm 102 (lm 102 tb_X4_isOne) (nm 103 (lm 103 tb_X4_counter) (lm 104 tb_X4_addOne))) (nm 105 (lm 105 tb_X4_one) (nm 106 (lm 106 tb_X4_type) (lm 107 tb_X4_clear)))) (nm 110 (nm 108 (lm 108 tb_X4_here) (nm 109 (lm 109 tb_X4_skip) (lm 110 tb_X4_isLetter))) (nm 111 (lm 111 tb_X4_isFigure) (nm 112 (lm 112 tb_X4_wordSize) (lm 113 tb_X4_letter)))))) (nm 124 (nm 118 (nm 115 (nm 114 (lm 114 tb_X4_spells) (lm 115 tb_X4_wordHere)) (nm 116 (lm 116 tb_X4_number) (nm 117 (lm 117 tb_X4_ends) (lm 118 tb_X4_readsOne)))) (nm 121 (nm 119 (lm 119 tb_X4_readVoice) (nm 120 (lm 120 tb_X4_readsLeave) (lm 121 tb_X4_readsLend))) (nm 122 (lm 122 tb_X4_readsItem) (nm 123 (lm 123 tb_X4_readsCounter) (lm 124 tb_X4_read))))) (nm 130 (nm 127 (nm 125 (lm 125 tb_X4_lesser) (nm 126 (lm 126 tb_X4_soundBy) (lm 127 tb_X4_slipBy))) (nm 128 (lm 128 tb_X4_sound) (nm 129 (lm 129 tb_X4_fitWith) (lm 130 tb_X4_voiceOf)))) (nm 133 (nm 131 (lm 131 tb_X4_fitNow) (nm 132 (lm 132 tb_X4_lays) (lm 133 tb_X4_takes))) (nm 134 (lm 134 tb_X4_notes) (nm 135 (lm 135 tb_X4_puts) (lm 136 tb_X4_back))))))) (nm 159 (nm 147 (nm 141 (nm 138 (nm 137 (lm 137 tb_X4_leaves) (lm 138 tb_X4_lends)) (nm 139 (lm 139 tb_X4_pass) (nm 140 (lm 140 tb_X4_lend) (lm 141 tb_X4_leave)))) (nm 144 (nm 142 (lm 142 tb_X4_evening) (nm 143 (lm 143 tb_X4_undo) (lm 144 tb_X4_of))) (nm 145 (lm 145 tb_X4_about) (nm 146 (lm 146 tb_X4_fit) (lm 147 tb_X4_nextLine))))) (nm 153 (nm 150 (nm 148 (lm 148 tb_X4_best) (nm 149 (lm 149 tb_X4_dumb) (lm 150 tb_X4_ringOf))) (nm 151 (lm 151 tb_X4_own) (nm 152 (lm 152 tb_X4_ring) (lm 153 tb_X4_isSwap)))) (nm 156 (nm 154 (lm 154 tb_X4_swaps) (nm 155 (lm 155 tb_X4_firstSwap) (lm 156 tb_X4_steps))) (nm 157 (lm 157 tb_X4_worst) (nm 158 (lm 158 tb_X4_slips) (lm 159 tb_X4_note)))))) (nm 170 (nm 164 (nm 161 (nm 160 (lm 160 tb_X4_forget) (lm 161 tb_X4_kindsOf)) (nm 162 (lm 162 tb_X4_is) (nm 163 (lm 163 tb_X4_alike) (lm 164 tb_X4_listen)))) (nm 167 (nm 165 (lm 165 tb_X4_whose) (nm 166 (lm 166 tb_X4_gets) (lm 167 tb_X4_asks))) (nm 168 (lm 168 tb_X4_lay) (nm 169 (lm 169 tb_X4_atCounter) (lm 170 tb_X4_bits))))) (nm 176 (nm 173 (nm 171 (lm 171 tb_X4_thieves) (nm 172 (lm 172 tb_X4_lents) (lm 173 tb_X4_part))) (nm 174 (lm 174 tb_X4_image) (nm 175 (lm 175 tb_X4_from) (lm 176 tb_X4_status)))) (nm 179 (nm 177 (lm 177 tb_X4_allSlipped) (nm 178 (lm 178 tb_X4_countOf) (lm 179 tb_X4_count))) (nm 180 (lm 180 tb_X4_mix) (nm 181 (lm 181 tb_X4_digest) (lm 182 tb_J6_bitCount_0f7a4)))))))))
abbrev V (m : Nat) (st : St) (Q : Option Value → Sg → Prop) : Prop := VV PP m st Q
end
section
-- ===== PART A: goes FIRST, ahead of the names: the tables' words, and 'selects' of the private methods out of them =====
/-- a private method of a class that the tables say can be made, by its rows of tables_1 -/
def lw_okq (q : MethodName × Nat) : Prop := (q.1.cls ≠ "java/lang/invoke/MethodHandle" ∧ q.1.cls ≠ "java/lang/invoke/VarHandle") ∧ Cond.instantiable q.1.cls q.2 ∈ tables_1 ∧ Cond.privateMethod q.1 ∈ tables_1 ∧ Cond.instanceMethod q.1 ∈ tables_1
theorem lw_p0 : lw_okq (⟨"BorrowedVoice", "bad", "()I"⟩, 14) := ⟨⟨by decide +kernel, by decide +kernel⟩, List.mem_of_getElem? (i := 14) (by decide +kernel), List.mem_of_getElem? (i := 166) (by decide +kernel), List.mem_of_getElem? (i := 167) (by decide +kernel)⟩
theorem lw_p1 : lw_okq (⟨"BorrowedVoice", "full", "()I"⟩, 14) := ⟨⟨by decide +kernel, by decide +kernel⟩, List.mem_of_getElem? (i := 14) (by decide +kernel), List.mem_of_getElem? (i := 170) (by decide +kernel), List.mem_of_getElem? (i := 171) (by decide +kernel)⟩
theorem lw_p2 : lw_okq (⟨"BorrowedVoice$Reader", "step", "()V"⟩, 6) := ⟨⟨by decide +kernel, by decide +kernel⟩, List.mem_of_getElem? (i := 78) (by decide +kernel), List.mem_of_getElem? (i := 199) (by decide +kernel), List.mem_of_getElem? (i := 200) (by decide +kernel)⟩
theorem lw_p3 : lw_okq (⟨"BorrowedVoice$Reader", "takeValue", "()V"⟩, 6) := ⟨⟨by decide +kernel, by decide +kernel⟩, List.mem_of_getElem? (i := 78) (by decide +kernel), List.mem_of_getElem? (i := 206) (by decide +kernel), List.mem_of_getElem? (i := 207) (by decide +kernel)⟩
theorem lw_p4 : lw_okq (⟨"BorrowedVoice$Reader", "isCounter", "()Z"⟩, 6) := ⟨⟨by decide +kernel, by decide +kernel⟩, List.mem_of_getElem? (i := 78) (by decide +kernel), List.mem_of_getElem? (i := 210) (by decide +kernel), List.mem_of_getElem? (i := 211) (by decide +kernel)⟩
theorem lw_p5 : lw_okq (⟨"BorrowedVoice$Reader", "isWord", "(Ljava/lang/String;)Z"⟩, 6) := ⟨⟨by decide +kernel, by decide +kernel⟩, List.mem_of_getElem? (i := 78) (by decide +kernel), List.mem_of_getElem? (i := 215) (by decide +kernel), List.mem_of_getElem? (i := 216) (by decide +kernel)⟩
theorem lw_p6 : lw_okq (⟨"BorrowedVoice$Reader", "isStop", "()Z"⟩, 6) := ⟨⟨by decide +kernel, by decide +kernel⟩, List.mem_of_getElem? (i := 78) (by decide +kernel), List.mem_of_getElem? (i := 267) (by decide +kernel), List.mem_of_getElem? (i := 268) (by decide +kernel)⟩
theorem lw_p7 : lw_okq (⟨"BorrowedVoice$Reader", "isItem", "(LBorrowedVoice$House;)Z"⟩, 6) := ⟨⟨by decide +kernel, by decide +kernel⟩, List.mem_of_getElem? (i := 78) (by decide +kernel), List.mem_of_getElem? (i := 271) (by decide +kernel), List.mem_of_getElem? (i := 272) (by decide +kernel)⟩
theorem lw_p8 : lw_okq (⟨"BorrowedVoice$Reader", "isOne", "(LBorrowedVoice$House;)Z"⟩, 6) := ⟨⟨by decide +kernel, by decide +kernel⟩, List.mem_of_getElem? (i := 78) (by decide +kernel), List.mem_of_getElem? (i := 276) (by decide +kernel), List.mem_of_getElem? (i := 277) (by decide +kernel)⟩
theorem lw_p9 : lw_okq (⟨"BorrowedVoice$Reader", "isNumberBelow", "(I)Z"⟩, 6) := ⟨⟨by decide +kernel, by decide +kernel⟩, List.mem_of_getElem? (i := 78) (by decide +kernel), List.mem_of_getElem? (i := 280) (by decide +kernel), List.mem_of_getElem? (i := 281) (by decide +kernel)⟩
theorem lw_p10 : lw_okq (⟨"BorrowedVoice$Reader", "isLeave", "(LBorrowedVoice$House;)Z"⟩, 6) := ⟨⟨by decide +kernel, by decide +kernel⟩, List.mem_of_getElem? (i := 78) (by decide +kernel), List.mem_of_getElem? (i := 286) (by decide +kernel), List.mem_of_getElem? (i := 287) (by decide +kernel)⟩
theorem lw_p11 : lw_okq (⟨"BorrowedVoice$Reader", "isLend", "(LBorrowedVoice$House;)Z"⟩, 6) := ⟨⟨by decide +kernel, by decide +kernel⟩, List.mem_of_getElem? (i := 78) (by decide +kernel), List.mem_of_getElem? (i := 299) (by decide +kernel), List.mem_of_getElem? (i := 300) (by decide +kernel)⟩
theorem lw_p12 : lw_okq (⟨"BorrowedVoice", "isThere", "(I)Z"⟩, 14) := ⟨⟨by decide +kernel, by decide +kernel⟩, List.mem_of_getElem? (i := 14) (by decide +kernel), List.mem_of_getElem? (i := 320) (by decide +kernel), List.mem_of_getElem? (i := 321) (by decide +kernel)⟩
theorem lw_p13 : lw_okq (⟨"BorrowedVoice", "badByTen", "()I"⟩, 14) := ⟨⟨by decide +kernel, by decide +kernel⟩, List.mem_of_getElem? (i := 14) (by decide +kernel), List.mem_of_getElem? (i := 324) (by decide +kernel), List.mem_of_getElem? (i := 325) (by decide +kernel)⟩
theorem lw_p14 : lw_okq (⟨"BorrowedVoice", "no", "()I"⟩, 14) := ⟨⟨by decide +kernel, by decide +kernel⟩, List.mem_of_getElem? (i := 14) (by decide +kernel), List.mem_of_getElem? (i := 328) (by decide +kernel), List.mem_of_getElem? (i := 329) (by decide +kernel)⟩
theorem lw_p15 : lw_okq (⟨"BorrowedVoice", "findBest", "()V"⟩, 14) := ⟨⟨by decide +kernel, by decide +kernel⟩, List.mem_of_getElem? (i := 14) (by decide +kernel), List.mem_of_getElem? (i := 414) (by decide +kernel), List.mem_of_getElem? (i := 415) (by decide +kernel)⟩
def lw_privs_1 : List (MethodName × Nat) := [(⟨"BorrowedVoice", "bad", "()I"⟩, 14), (⟨"BorrowedVoice", "full", "()I"⟩, 14), (⟨"BorrowedVoice$Reader", "step", "()V"⟩, 6), (⟨"BorrowedVoice$Reader", "takeValue", "()V"⟩, 6), (⟨"BorrowedVoice$Reader", "isCounter", "()Z"⟩, 6), (⟨"BorrowedVoice$Reader", "isWord", "(Ljava/lang/String;)Z"⟩, 6), (⟨"BorrowedVoice$Reader", "isStop", "()Z"⟩, 6), (⟨"BorrowedVoice$Reader", "isItem", "(LBorrowedVoice$House;)Z"⟩, 6), (⟨"BorrowedVoice$Reader", "isOne", "(LBorrowedVoice$House;)Z"⟩, 6), (⟨"BorrowedVoice$Reader", "isNumberBelow", "(I)Z"⟩, 6), (⟨"BorrowedVoice$Reader", "isLeave", "(LBorrowedVoice$House;)Z"⟩, 6), (⟨"BorrowedVoice$Reader", "isLend", "(LBorrowedVoice$House;)Z"⟩, 6), (⟨"BorrowedVoice", "isThere", "(I)Z"⟩, 14), (⟨"BorrowedVoice", "badByTen", "()I"⟩, 14), (⟨"BorrowedVoice", "no", "()I"⟩, 14), (⟨"BorrowedVoice", "findBest", "()V"⟩, 14)]
theorem lw_r1 : ∀ q ∈ lw_privs_1, lw_okq q := List.forall_mem_cons.mpr ⟨lw_p0, List.forall_mem_cons.mpr ⟨lw_p1, List.forall_mem_cons.mpr ⟨lw_p2, List.forall_mem_cons.mpr ⟨lw_p3, List.forall_mem_cons.mpr ⟨lw_p4, List.forall_mem_cons.mpr ⟨lw_p5, List.forall_mem_cons.mpr ⟨lw_p6, List.forall_mem_cons.mpr ⟨lw_p7, List.forall_mem_cons.mpr ⟨lw_p8, List.forall_mem_cons.mpr ⟨lw_p9, List.forall_mem_cons.mpr ⟨lw_p10, List.forall_mem_cons.mpr ⟨lw_p11, List.forall_mem_cons.mpr ⟨lw_p12, List.forall_mem_cons.mpr ⟨lw_p13, List.forall_mem_cons.mpr ⟨lw_p14, List.forall_mem_cons.mpr ⟨lw_p15, fun _ h => absurd h List.not_mem_nil⟩⟩⟩⟩⟩⟩⟩⟩⟩⟩⟩⟩⟩⟩⟩⟩
theorem lw_p16 : lw_okq (⟨"BorrowedVoice", "bestVoiceOf", "(I)I"⟩, 14) := ⟨⟨by decide +kernel, by decide +kernel⟩, List.mem_of_getElem? (i := 14) (by decide +kernel), List.mem_of_getElem? (i := 424) (by decide +kernel), List.mem_of_getElem? (i := 425) (by decide +kernel)⟩
theorem lw_p17 : lw_okq (⟨"BorrowedVoice$House", "isFirstOfRing", "(I)Z"⟩, 12) := ⟨⟨by decide +kernel, by decide +kernel⟩, List.mem_of_getElem? (i := 22) (by decide +kernel), List.mem_of_getElem? (i := 444) (by decide +kernel), List.mem_of_getElem? (i := 445) (by decide +kernel)⟩
theorem lw_p18 : lw_okq (⟨"BorrowedVoice$House", "bothWouldRather", "(II)Z"⟩, 12) := ⟨⟨by decide +kernel, by decide +kernel⟩, List.mem_of_getElem? (i := 22) (by decide +kernel), List.mem_of_getElem? (i := 461) (by decide +kernel), List.mem_of_getElem? (i := 462) (by decide +kernel)⟩
theorem lw_p19 : lw_okq (⟨"BorrowedVoice$House", "isSoByNote", "(II)Z"⟩, 12) := ⟨⟨by decide +kernel, by decide +kernel⟩, List.mem_of_getElem? (i := 22) (by decide +kernel), List.mem_of_getElem? (i := 512) (by decide +kernel), List.mem_of_getElem? (i := 513) (by decide +kernel)⟩
theorem lw_p20 : lw_okq (⟨"BorrowedVoice", "setFraction", "(JJ)V"⟩, 14) := ⟨⟨by decide +kernel, by decide +kernel⟩, List.mem_of_getElem? (i := 14) (by decide +kernel), List.mem_of_getElem? (i := 547) (by decide +kernel), List.mem_of_getElem? (i := 548) (by decide +kernel)⟩
theorem lw_p21 : lw_okq (⟨"BorrowedVoice", "howMany", "(I)I"⟩, 14) := ⟨⟨by decide +kernel, by decide +kernel⟩, List.mem_of_getElem? (i := 14) (by decide +kernel), List.mem_of_getElem? (i := 591) (by decide +kernel), List.mem_of_getElem? (i := 592) (by decide +kernel)⟩
theorem lw_p22 : lw_okq (⟨"BorrowedVoiceModel", "begin", "()V"⟩, 32) := ⟨⟨by decide +kernel, by decide +kernel⟩, List.mem_of_getElem? (i := 610) (by decide +kernel), List.mem_of_getElem? (i := 616) (by decide +kernel), List.mem_of_getElem? (i := 617) (by decide +kernel)⟩
theorem lw_p23 : lw_okq (⟨"BorrowedVoiceModel", "bad", "()I"⟩, 32) := ⟨⟨by decide +kernel, by decide +kernel⟩, List.mem_of_getElem? (i := 610) (by decide +kernel), List.mem_of_getElem? (i := 728) (by decide +kernel), List.mem_of_getElem? (i := 729) (by decide +kernel)⟩
theorem lw_p24 : lw_okq (⟨"BorrowedVoiceModel", "full", "()I"⟩, 32) := ⟨⟨by decide +kernel, by decide +kernel⟩, List.mem_of_getElem? (i := 610) (by decide +kernel), List.mem_of_getElem? (i := 732) (by decide +kernel), List.mem_of_getElem? (i := 733) (by decide +kernel)⟩
theorem lw_p25 : lw_okq (⟨"BorrowedVoiceModel", "addOne", "(III)I"⟩, 32) := ⟨⟨by decide +kernel, by decide +kernel⟩, List.mem_of_getElem? (i := 610) (by decide +kernel), List.mem_of_getElem? (i := 736) (by decide +kernel), List.mem_of_getElem? (i := 737) (by decide +kernel)⟩
theorem lw_p26 : lw_okq (⟨"BorrowedVoiceModel", "readsCounter", "()I"⟩, 32) := ⟨⟨by decide +kernel, by decide +kernel⟩, List.mem_of_getElem? (i := 610) (by decide +kernel), List.mem_of_getElem? (i := 752) (by decide +kernel), List.mem_of_getElem? (i := 753) (by decide +kernel)⟩
theorem lw_p27 : lw_okq (⟨"BorrowedVoiceModel", "skip", "()V"⟩, 32) := ⟨⟨by decide +kernel, by decide +kernel⟩, List.mem_of_getElem? (i := 610) (by decide +kernel), List.mem_of_getElem? (i := 756) (by decide +kernel), List.mem_of_getElem? (i := 757) (by decide +kernel)⟩
theorem lw_p28 : lw_okq (⟨"BorrowedVoiceModel", "here", "()I"⟩, 32) := ⟨⟨by decide +kernel, by decide +kernel⟩, List.mem_of_getElem? (i := 610) (by decide +kernel), List.mem_of_getElem? (i := 760) (by decide +kernel), List.mem_of_getElem? (i := 761) (by decide +kernel)⟩
theorem lw_p29 : lw_okq (⟨"BorrowedVoiceModel", "wordHere", "()I"⟩, 32) := ⟨⟨by decide +kernel, by decide +kernel⟩, List.mem_of_getElem? (i := 610) (by decide +kernel), List.mem_of_getElem? (i := 764) (by decide +kernel), List.mem_of_getElem? (i := 765) (by decide +kernel)⟩
theorem lw_p30 : lw_okq (⟨"BorrowedVoiceModel", "wordSize", "()I"⟩, 32) := ⟨⟨by decide +kernel, by decide +kernel⟩, List.mem_of_getElem? (i := 610) (by decide +kernel), List.mem_of_getElem? (i := 768) (by decide +kernel), List.mem_of_getElem? (i := 769) (by decide +kernel)⟩
theorem lw_p31 : lw_okq (⟨"BorrowedVoiceModel", "spells", "(IIII)Z"⟩, 32) := ⟨⟨by decide +kernel, by decide +kernel⟩, List.mem_of_getElem? (i := 610) (by decide +kernel), List.mem_of_getElem? (i := 775) (by decide +kernel), List.mem_of_getElem? (i := 776) (by decide +kernel)⟩
def lw_privs_2 : List (MethodName × Nat) := [(⟨"BorrowedVoice", "bestVoiceOf", "(I)I"⟩, 14), (⟨"BorrowedVoice$House", "isFirstOfRing", "(I)Z"⟩, 12), (⟨"BorrowedVoice$House", "bothWouldRather", "(II)Z"⟩, 12), (⟨"BorrowedVoice$House", "isSoByNote", "(II)Z"⟩, 12), (⟨"BorrowedVoice", "setFraction", "(JJ)V"⟩, 14), (⟨"BorrowedVoice", "howMany", "(I)I"⟩, 14), (⟨"BorrowedVoiceModel", "begin", "()V"⟩, 32), (⟨"BorrowedVoiceModel", "bad", "()I"⟩, 32), (⟨"BorrowedVoiceModel", "full", "()I"⟩, 32), (⟨"BorrowedVoiceModel", "addOne", "(III)I"⟩, 32), (⟨"BorrowedVoiceModel", "readsCounter", "()I"⟩, 32), (⟨"BorrowedVoiceModel", "skip", "()V"⟩, 32), (⟨"BorrowedVoiceModel", "here", "()I"⟩, 32), (⟨"BorrowedVoiceModel", "wordHere", "()I"⟩, 32), (⟨"BorrowedVoiceModel", "wordSize", "()I"⟩, 32), (⟨"BorrowedVoiceModel", "spells", "(IIII)Z"⟩, 32)]
theorem lw_r2 : ∀ q ∈ lw_privs_2, lw_okq q := List.forall_mem_cons.mpr ⟨lw_p16, List.forall_mem_cons.mpr ⟨lw_p17, List.forall_mem_cons.mpr ⟨lw_p18, List.forall_mem_cons.mpr ⟨lw_p19, List.forall_mem_cons.mpr ⟨lw_p20, List.forall_mem_cons.mpr ⟨lw_p21, List.forall_mem_cons.mpr ⟨lw_p22, List.forall_mem_cons.mpr ⟨lw_p23, List.forall_mem_cons.mpr ⟨lw_p24, List.forall_mem_cons.mpr ⟨lw_p25, List.forall_mem_cons.mpr ⟨lw_p26, List.forall_mem_cons.mpr ⟨lw_p27, List.forall_mem_cons.mpr ⟨lw_p28, List.forall_mem_cons.mpr ⟨lw_p29, List.forall_mem_cons.mpr ⟨lw_p30, List.forall_mem_cons.mpr ⟨lw_p31, fun _ h => absurd h List.not_mem_nil⟩⟩⟩⟩⟩⟩⟩⟩⟩⟩⟩⟩⟩⟩⟩⟩
theorem lw_p32 : lw_okq (⟨"BorrowedVoiceModel", "letter", "(I)I"⟩, 32) := ⟨⟨by decide +kernel, by decide +kernel⟩, List.mem_of_getElem? (i := 610) (by decide +kernel), List.mem_of_getElem? (i := 779) (by decide +kernel), List.mem_of_getElem? (i := 780) (by decide +kernel)⟩
theorem lw_p33 : lw_okq (⟨"BorrowedVoiceModel", "ends", "()Z"⟩, 32) := ⟨⟨by decide +kernel, by decide +kernel⟩, List.mem_of_getElem? (i := 610) (by decide +kernel), List.mem_of_getElem? (i := 783) (by decide +kernel), List.mem_of_getElem? (i := 784) (by decide +kernel)⟩
theorem lw_p34 : lw_okq (⟨"BorrowedVoiceModel", "readsItem", "()Z"⟩, 32) := ⟨⟨by decide +kernel, by decide +kernel⟩, List.mem_of_getElem? (i := 610) (by decide +kernel), List.mem_of_getElem? (i := 787) (by decide +kernel), List.mem_of_getElem? (i := 788) (by decide +kernel)⟩
theorem lw_p35 : lw_okq (⟨"BorrowedVoiceModel", "readsOne", "()Z"⟩, 32) := ⟨⟨by decide +kernel, by decide +kernel⟩, List.mem_of_getElem? (i := 610) (by decide +kernel), List.mem_of_getElem? (i := 791) (by decide +kernel), List.mem_of_getElem? (i := 792) (by decide +kernel)⟩
theorem lw_p36 : lw_okq (⟨"BorrowedVoiceModel", "number", "(II)Z"⟩, 32) := ⟨⟨by decide +kernel, by decide +kernel⟩, List.mem_of_getElem? (i := 610) (by decide +kernel), List.mem_of_getElem? (i := 795) (by decide +kernel), List.mem_of_getElem? (i := 796) (by decide +kernel)⟩
theorem lw_p37 : lw_okq (⟨"BorrowedVoiceModel", "readsLeave", "()Z"⟩, 32) := ⟨⟨by decide +kernel, by decide +kernel⟩, List.mem_of_getElem? (i := 610) (by decide +kernel), List.mem_of_getElem? (i := 802) (by decide +kernel), List.mem_of_getElem? (i := 803) (by decide +kernel)⟩
theorem lw_p38 : lw_okq (⟨"BorrowedVoiceModel", "readVoice", "(I)I"⟩, 32) := ⟨⟨by decide +kernel, by decide +kernel⟩, List.mem_of_getElem? (i := 610) (by decide +kernel), List.mem_of_getElem? (i := 806) (by decide +kernel), List.mem_of_getElem? (i := 807) (by decide +kernel)⟩
theorem lw_p39 : lw_okq (⟨"BorrowedVoiceModel", "readsLend", "()Z"⟩, 32) := ⟨⟨by decide +kernel, by decide +kernel⟩, List.mem_of_getElem? (i := 610) (by decide +kernel), List.mem_of_getElem? (i := 810) (by decide +kernel), List.mem_of_getElem? (i := 811) (by decide +kernel)⟩
theorem lw_p40 : lw_okq (⟨"BorrowedVoiceModel", "isOne", "(I)Z"⟩, 32) := ⟨⟨by decide +kernel, by decide +kernel⟩, List.mem_of_getElem? (i := 610) (by decide +kernel), List.mem_of_getElem? (i := 818) (by decide +kernel), List.mem_of_getElem? (i := 819) (by decide +kernel)⟩
theorem lw_p41 : lw_okq (⟨"BorrowedVoiceModel", "ten", "()I"⟩, 32) := ⟨⟨by decide +kernel, by decide +kernel⟩, List.mem_of_getElem? (i := 610) (by decide +kernel), List.mem_of_getElem? (i := 822) (by decide +kernel), List.mem_of_getElem? (i := 823) (by decide +kernel)⟩
theorem lw_p42 : lw_okq (⟨"BorrowedVoiceModel", "no", "()I"⟩, 32) := ⟨⟨by decide +kernel, by decide +kernel⟩, List.mem_of_getElem? (i := 610) (by decide +kernel), List.mem_of_getElem? (i := 826) (by decide +kernel), List.mem_of_getElem? (i := 827) (by decide +kernel)⟩
theorem lw_p43 : lw_okq (⟨"BorrowedVoiceModel", "notes", "()V"⟩, 32) := ⟨⟨by decide +kernel, by decide +kernel⟩, List.mem_of_getElem? (i := 610) (by decide +kernel), List.mem_of_getElem? (i := 830) (by decide +kernel), List.mem_of_getElem? (i := 831) (by decide +kernel)⟩
theorem lw_p44 : lw_okq (⟨"BorrowedVoiceModel", "lays", "([II)V"⟩, 32) := ⟨⟨by decide +kernel, by decide +kernel⟩, List.mem_of_getElem? (i := 610) (by decide +kernel), List.mem_of_getElem? (i := 834) (by decide +kernel), List.mem_of_getElem? (i := 835) (by decide +kernel)⟩
theorem lw_p45 : lw_okq (⟨"BorrowedVoiceModel", "lends", "(II)I"⟩, 32) := ⟨⟨by decide +kernel, by decide +kernel⟩, List.mem_of_getElem? (i := 610) (by decide +kernel), List.mem_of_getElem? (i := 838) (by decide +kernel), List.mem_of_getElem? (i := 839) (by decide +kernel)⟩
theorem lw_p46 : lw_okq (⟨"BorrowedVoiceModel", "voiceOf", "(I)I"⟩, 32) := ⟨⟨by decide +kernel, by decide +kernel⟩, List.mem_of_getElem? (i := 610) (by decide +kernel), List.mem_of_getElem? (i := 842) (by decide +kernel), List.mem_of_getElem? (i := 843) (by decide +kernel)⟩
theorem lw_p47 : lw_okq (⟨"BorrowedVoiceModel", "leaves", "(I)V"⟩, 32) := ⟨⟨by decide +kernel, by decide +kernel⟩, List.mem_of_getElem? (i := 610) (by decide +kernel), List.mem_of_getElem? (i := 846) (by decide +kernel), List.mem_of_getElem? (i := 847) (by decide +kernel)⟩
def lw_privs_3 : List (MethodName × Nat) := [(⟨"BorrowedVoiceModel", "letter", "(I)I"⟩, 32), (⟨"BorrowedVoiceModel", "ends", "()Z"⟩, 32), (⟨"BorrowedVoiceModel", "readsItem", "()Z"⟩, 32), (⟨"BorrowedVoiceModel", "readsOne", "()Z"⟩, 32), (⟨"BorrowedVoiceModel", "number", "(II)Z"⟩, 32), (⟨"BorrowedVoiceModel", "readsLeave", "()Z"⟩, 32), (⟨"BorrowedVoiceModel", "readVoice", "(I)I"⟩, 32), (⟨"BorrowedVoiceModel", "readsLend", "()Z"⟩, 32), (⟨"BorrowedVoiceModel", "isOne", "(I)Z"⟩, 32), (⟨"BorrowedVoiceModel", "ten", "()I"⟩, 32), (⟨"BorrowedVoiceModel", "no", "()I"⟩, 32), (⟨"BorrowedVoiceModel", "notes", "()V"⟩, 32), (⟨"BorrowedVoiceModel", "lays", "([II)V"⟩, 32), (⟨"BorrowedVoiceModel", "lends", "(II)I"⟩, 32), (⟨"BorrowedVoiceModel", "voiceOf", "(I)I"⟩, 32), (⟨"BorrowedVoiceModel", "leaves", "(I)V"⟩, 32)]
theorem lw_r3 : ∀ q ∈ lw_privs_3, lw_okq q := List.forall_mem_cons.mpr ⟨lw_p32, List.forall_mem_cons.mpr ⟨lw_p33, List.forall_mem_cons.mpr ⟨lw_p34, List.forall_mem_cons.mpr ⟨lw_p35, List.forall_mem_cons.mpr ⟨lw_p36, List.forall_mem_cons.mpr ⟨lw_p37, List.forall_mem_cons.mpr ⟨lw_p38, List.forall_mem_cons.mpr ⟨lw_p39, List.forall_mem_cons.mpr ⟨lw_p40, List.forall_mem_cons.mpr ⟨lw_p41, List.forall_mem_cons.mpr ⟨lw_p42, List.forall_mem_cons.mpr ⟨lw_p43, List.forall_mem_cons.mpr ⟨lw_p44, List.forall_mem_cons.mpr ⟨lw_p45, List.forall_mem_cons.mpr ⟨lw_p46, List.forall_mem_cons.mpr ⟨lw_p47, fun _ h => absurd h List.not_mem_nil⟩⟩⟩⟩⟩⟩⟩⟩⟩⟩⟩⟩⟩⟩⟩⟩
theorem lw_p48 : lw_okq (⟨"BorrowedVoiceModel", "pass", "()I"⟩, 32) := ⟨⟨by decide +kernel, by decide +kernel⟩, List.mem_of_getElem? (i := 610) (by decide +kernel), List.mem_of_getElem? (i := 858) (by decide +kernel), List.mem_of_getElem? (i := 859) (by decide +kernel)⟩
theorem lw_p49 : lw_okq (⟨"BorrowedVoiceModel", "takes", "([II)V"⟩, 32) := ⟨⟨by decide +kernel, by decide +kernel⟩, List.mem_of_getElem? (i := 610) (by decide +kernel), List.mem_of_getElem? (i := 869) (by decide +kernel), List.mem_of_getElem? (i := 870) (by decide +kernel)⟩
theorem lw_p50 : lw_okq (⟨"BorrowedVoiceModel", "fitNow", "(I)I"⟩, 32) := ⟨⟨by decide +kernel, by decide +kernel⟩, List.mem_of_getElem? (i := 610) (by decide +kernel), List.mem_of_getElem? (i := 877) (by decide +kernel), List.mem_of_getElem? (i := 878) (by decide +kernel)⟩
theorem lw_p51 : lw_okq (⟨"BorrowedVoiceModel", "fitWith", "(II)I"⟩, 32) := ⟨⟨by decide +kernel, by decide +kernel⟩, List.mem_of_getElem? (i := 610) (by decide +kernel), List.mem_of_getElem? (i := 881) (by decide +kernel), List.mem_of_getElem? (i := 882) (by decide +kernel)⟩
theorem lw_p52 : lw_okq (⟨"BorrowedVoiceModel", "sound", "(I)I"⟩, 32) := ⟨⟨by decide +kernel, by decide +kernel⟩, List.mem_of_getElem? (i := 610) (by decide +kernel), List.mem_of_getElem? (i := 885) (by decide +kernel), List.mem_of_getElem? (i := 886) (by decide +kernel)⟩
theorem lw_p53 : lw_okq (⟨"BorrowedVoiceModel", "nextLine", "()Z"⟩, 32) := ⟨⟨by decide +kernel, by decide +kernel⟩, List.mem_of_getElem? (i := 610) (by decide +kernel), List.mem_of_getElem? (i := 907) (by decide +kernel), List.mem_of_getElem? (i := 908) (by decide +kernel)⟩
theorem lw_p54 : lw_okq (⟨"BorrowedVoiceModel", "ringOf", "(I)I"⟩, 32) := ⟨⟨by decide +kernel, by decide +kernel⟩, List.mem_of_getElem? (i := 610) (by decide +kernel), List.mem_of_getElem? (i := 919) (by decide +kernel), List.mem_of_getElem? (i := 920) (by decide +kernel)⟩
theorem lw_p55 : lw_okq (⟨"BorrowedVoiceModel", "isSwap", "(II)Z"⟩, 32) := ⟨⟨by decide +kernel, by decide +kernel⟩, List.mem_of_getElem? (i := 610) (by decide +kernel), List.mem_of_getElem? (i := 931) (by decide +kernel), List.mem_of_getElem? (i := 932) (by decide +kernel)⟩
theorem lw_p56 : lw_okq (⟨"BorrowedVoiceModel", "puts", "()V"⟩, 32) := ⟨⟨by decide +kernel, by decide +kernel⟩, List.mem_of_getElem? (i := 610) (by decide +kernel), List.mem_of_getElem? (i := 939) (by decide +kernel), List.mem_of_getElem? (i := 940) (by decide +kernel)⟩
theorem lw_p57 : lw_okq (⟨"BorrowedVoiceModel", "firstSwap", "()I"⟩, 32) := ⟨⟨by decide +kernel, by decide +kernel⟩, List.mem_of_getElem? (i := 610) (by decide +kernel), List.mem_of_getElem? (i := 943) (by decide +kernel), List.mem_of_getElem? (i := 944) (by decide +kernel)⟩
theorem lw_p58 : lw_okq (⟨"BorrowedVoiceModel", "back", "()V"⟩, 32) := ⟨⟨by decide +kernel, by decide +kernel⟩, List.mem_of_getElem? (i := 610) (by decide +kernel), List.mem_of_getElem? (i := 947) (by decide +kernel), List.mem_of_getElem? (i := 948) (by decide +kernel)⟩
theorem lw_p59 : lw_okq (⟨"BorrowedVoiceModel", "kindsOf", "(I)I"⟩, 32) := ⟨⟨by decide +kernel, by decide +kernel⟩, List.mem_of_getElem? (i := 610) (by decide +kernel), List.mem_of_getElem? (i := 971) (by decide +kernel), List.mem_of_getElem? (i := 972) (by decide +kernel)⟩
theorem lw_p60 : lw_okq (⟨"BorrowedVoiceModel", "alike", "(IIII)I"⟩, 32) := ⟨⟨by decide +kernel, by decide +kernel⟩, List.mem_of_getElem? (i := 610) (by decide +kernel), List.mem_of_getElem? (i := 979) (by decide +kernel), List.mem_of_getElem? (i := 980) (by decide +kernel)⟩
theorem lw_p61 : lw_okq (⟨"BorrowedVoiceModel", "gets", "(IIZZZ)I"⟩, 32) := ⟨⟨by decide +kernel, by decide +kernel⟩, List.mem_of_getElem? (i := 610) (by decide +kernel), List.mem_of_getElem? (i := 994) (by decide +kernel), List.mem_of_getElem? (i := 995) (by decide +kernel)⟩
theorem lw_p62 : lw_okq (⟨"BorrowedVoiceModel", "atCounter", "()I"⟩, 32) := ⟨⟨by decide +kernel, by decide +kernel⟩, List.mem_of_getElem? (i := 610) (by decide +kernel), List.mem_of_getElem? (i := 1002) (by decide +kernel), List.mem_of_getElem? (i := 1003) (by decide +kernel)⟩
theorem lw_p63 : lw_okq (⟨"BorrowedVoiceModel", "lay", "(JJ)V"⟩, 32) := ⟨⟨by decide +kernel, by decide +kernel⟩, List.mem_of_getElem? (i := 610) (by decide +kernel), List.mem_of_getElem? (i := 1010) (by decide +kernel), List.mem_of_getElem? (i := 1011) (by decide +kernel)⟩
def lw_privs_4 : List (MethodName × Nat) := [(⟨"BorrowedVoiceModel", "pass", "()I"⟩, 32), (⟨"BorrowedVoiceModel", "takes", "([II)V"⟩, 32), (⟨"BorrowedVoiceModel", "fitNow", "(I)I"⟩, 32), (⟨"BorrowedVoiceModel", "fitWith", "(II)I"⟩, 32), (⟨"BorrowedVoiceModel", "sound", "(I)I"⟩, 32), (⟨"BorrowedVoiceModel", "nextLine", "()Z"⟩, 32), (⟨"BorrowedVoiceModel", "ringOf", "(I)I"⟩, 32), (⟨"BorrowedVoiceModel", "isSwap", "(II)Z"⟩, 32), (⟨"BorrowedVoiceModel", "puts", "()V"⟩, 32), (⟨"BorrowedVoiceModel", "firstSwap", "()I"⟩, 32), (⟨"BorrowedVoiceModel", "back", "()V"⟩, 32), (⟨"BorrowedVoiceModel", "kindsOf", "(I)I"⟩, 32), (⟨"BorrowedVoiceModel", "alike", "(IIII)I"⟩, 32), (⟨"BorrowedVoiceModel", "gets", "(IIZZZ)I"⟩, 32), (⟨"BorrowedVoiceModel", "atCounter", "()I"⟩, 32), (⟨"BorrowedVoiceModel", "lay", "(JJ)V"⟩, 32)]
theorem lw_r4 : ∀ q ∈ lw_privs_4, lw_okq q := List.forall_mem_cons.mpr ⟨lw_p48, List.forall_mem_cons.mpr ⟨lw_p49, List.forall_mem_cons.mpr ⟨lw_p50, List.forall_mem_cons.mpr ⟨lw_p51, List.forall_mem_cons.mpr ⟨lw_p52, List.forall_mem_cons.mpr ⟨lw_p53, List.forall_mem_cons.mpr ⟨lw_p54, List.forall_mem_cons.mpr ⟨lw_p55, List.forall_mem_cons.mpr ⟨lw_p56, List.forall_mem_cons.mpr ⟨lw_p57, List.forall_mem_cons.mpr ⟨lw_p58, List.forall_mem_cons.mpr ⟨lw_p59, List.forall_mem_cons.mpr ⟨lw_p60, List.forall_mem_cons.mpr ⟨lw_p61, List.forall_mem_cons.mpr ⟨lw_p62, List.forall_mem_cons.mpr ⟨lw_p63, fun _ h => absurd h List.not_mem_nil⟩⟩⟩⟩⟩⟩⟩⟩⟩⟩⟩⟩⟩⟩⟩⟩
theorem lw_p64 : lw_okq (⟨"BorrowedVoiceModel", "countOf", "(I)I"⟩, 32) := ⟨⟨by decide +kernel, by decide +kernel⟩, List.mem_of_getElem? (i := 610) (by decide +kernel), List.mem_of_getElem? (i := 1043) (by decide +kernel), List.mem_of_getElem? (i := 1044) (by decide +kernel)⟩
theorem lw_p65 : lw_okq (⟨"BorrowedVoiceModel", "allSlipped", "()I"⟩, 32) := ⟨⟨by decide +kernel, by decide +kernel⟩, List.mem_of_getElem? (i := 610) (by decide +kernel), List.mem_of_getElem? (i := 1047) (by decide +kernel), List.mem_of_getElem? (i := 1048) (by decide +kernel)⟩
theorem lw_p66 : lw_okq (⟨"BorrowedVoiceModel", "mix", "(J)V"⟩, 32) := ⟨⟨by decide +kernel, by decide +kernel⟩, List.mem_of_getElem? (i := 610) (by decide +kernel), List.mem_of_getElem? (i := 1056) (by decide +kernel), List.mem_of_getElem? (i := 1057) (by decide +kernel)⟩
def lw_privs_5 : List (MethodName × Nat) := [(⟨"BorrowedVoiceModel", "countOf", "(I)I"⟩, 32), (⟨"BorrowedVoiceModel", "allSlipped", "()I"⟩, 32), (⟨"BorrowedVoiceModel", "mix", "(J)V"⟩, 32)]
theorem lw_r5 : ∀ q ∈ lw_privs_5, lw_okq q := List.forall_mem_cons.mpr ⟨lw_p64, List.forall_mem_cons.mpr ⟨lw_p65, List.forall_mem_cons.mpr ⟨lw_p66, fun _ h => absurd h List.not_mem_nil⟩⟩⟩
def lw_privs : List (MethodName × Nat) := lw_privs_1 ++ (lw_privs_2 ++ (lw_privs_3 ++ (lw_privs_4 ++ (lw_privs_5))))
def lw_tbl : List Cond := k2_sels lw_privs ++ tables_1
theorem lw_privs_ok : ∀ q ∈ lw_privs, lw_okq q := by
  show ∀ q ∈ lw_privs_1 ++ (lw_privs_2 ++ (lw_privs_3 ++ (lw_privs_4 ++ (lw_privs_5)))), lw_okq q
  exact List.forall_mem_append.mpr ⟨lw_r1, List.forall_mem_append.mpr ⟨lw_r2, List.forall_mem_append.mpr ⟨lw_r3, List.forall_mem_append.mpr ⟨lw_r4, lw_r5⟩⟩⟩⟩
end
section
def RX0 : String := "BorrowedVoice$House"
def TX0 : u_T := fun k => match k with
  | 0 => ("BorrowedVoice$House", "people", "I", false)
  | 1 => ("BorrowedVoice$House", "evening", "I", false)
  | 2 => ("BorrowedVoice$House", "notes", "I", false)
  | 3 => ("BorrowedVoice$House", "undos", "I", false)
  | 4 => ("BorrowedVoice$House", "kind", "[I", true)
  | 5 => ("BorrowedVoice$House", "sort", "[I", true)
  | 6 => ("BorrowedVoice$House", "wants", "[I", true)
  | 7 => ("BorrowedVoice$House", "holder", "[I", true)
  | 8 => ("BorrowedVoice$House", "used", "[I", true)
  | 9 => ("BorrowedVoice$House", "slipped", "[I", true)
  | 10 => ("BorrowedVoice$House", "noteRows", "[I", true)
  | _ => ("BorrowedVoice$House", "past", "[I", true)
def tyX0 : Nat → FieldType := fun k => match k with
  | 0 => .int
  | 1 => .int
  | 2 => .int
  | 3 => .int
  | 4 => .array .int
  | 5 => .array .int
  | 6 => .array .int
  | 7 => .array .int
  | 8 => .array .int
  | 9 => .array .int
  | 10 => .array .int
  | _ => .array .int
abbrev wsX00 : List Cond := u_ws RX0 TX0 12
theorem nmX0 : ∀ a, a < 12 → ∀ b, b < 12 → a ≠ b → (TX0 a).2.1 ≠ (TX0 b).2.1 := by decide +kernel
theorem tyX0_ok : ∀ k, k < 12 → parseFieldDescriptor (TX0 k).2.2.1 = some (tyX0 k) := by decide +kernel
abbrev cX0_init : ByteArray := prog_2_method_1_code
def yX0_init : MethodName := ⟨RX0, "<init>", "()V"⟩
abbrev cX0_empty : ByteArray := prog_2_method_2_code
def yX0_empty : MethodName := ⟨RX0, "empty", "()V"⟩
abbrev cX0_becomeLike : ByteArray := prog_2_method_3_code
def yX0_becomeLike : MethodName := ⟨RX0, "becomeLike", "(LBorrowedVoice$House;)V"⟩
abbrev cX0_welcome : ByteArray := prog_2_method_4_code
def yX0_welcome : MethodName := ⟨RX0, "welcome", "(III)I"⟩
abbrev cX0_voiceWith : ByteArray := prog_2_method_5_code
def yX0_voiceWith : MethodName := ⟨RX0, "voiceWith", "(I)I"⟩
abbrev cX0_give : ByteArray := prog_2_method_6_code
def yX0_give : MethodName := ⟨RX0, "give", "(II)I"⟩
abbrev cX0_putDown : ByteArray := prog_2_method_7_code
def yX0_putDown : MethodName := ⟨RX0, "putDown", "(I)V"⟩
abbrev cX0_isWithAnother : ByteArray := prog_2_method_8_code
def yX0_isWithAnother : MethodName := ⟨RX0, "isWithAnother", "(I)Z"⟩
abbrev cX0_goOneEvening : ByteArray := prog_2_method_9_code
def yX0_goOneEvening : MethodName := ⟨RX0, "goOneEvening", "()I"⟩
abbrev cX0_keepPast : ByteArray := prog_2_method_10_code
def yX0_keepPast : MethodName := ⟨RX0, "keepPast", "()V"⟩
abbrev cX0_goBack : ByteArray := prog_2_method_11_code
def yX0_goBack : MethodName := ⟨RX0, "goBack", "()V"⟩
abbrev cX0_soundOf : ByteArray := prog_2_method_12_code
def yX0_soundOf : MethodName := ⟨RX0, "soundOf", "(I)I"⟩
abbrev cX0_fitWith : ByteArray := prog_2_method_13_code
def yX0_fitWith : MethodName := ⟨RX0, "fitWith", "(II)I"⟩
abbrev cX0_fitNow : ByteArray := prog_2_method_14_code
def yX0_fitNow : MethodName := ⟨RX0, "fitNow", "(I)I"⟩
abbrev cX0_leastFit : ByteArray := prog_2_method_15_code
def yX0_leastFit : MethodName := ⟨RX0, "leastFit", "()I"⟩
abbrev cX0_ringFrom : ByteArray := prog_2_method_16_code
def yX0_ringFrom : MethodName := ⟨RX0, "ringFrom", "(I)I"⟩
abbrev cX0_ringsOfTwoOrMore : ByteArray := prog_2_method_17_code
def yX0_ringsOfTwoOrMore : MethodName := ⟨RX0, "ringsOfTwoOrMore", "()I"⟩
abbrev cX0_isFirstOfRing : ByteArray := prog_2_method_18_code
def yX0_isFirstOfRing : MethodName := ⟨RX0, "isFirstOfRing", "(I)Z"⟩
abbrev cX0_bothWouldRather : ByteArray := prog_2_method_19_code
def yX0_bothWouldRather : MethodName := ⟨RX0, "bothWouldRather", "(II)Z"⟩
abbrev cX0_howManySwaps : ByteArray := prog_2_method_20_code
def yX0_howManySwaps : MethodName := ⟨RX0, "howManySwaps", "()I"⟩
abbrev cX0_swapAt : ByteArray := prog_2_method_21_code
def yX0_swapAt : MethodName := ⟨RX0, "swapAt", "(I)I"⟩
abbrev cX0_exchange : ByteArray := prog_2_method_22_code
def yX0_exchange : MethodName := ⟨RX0, "exchange", "(II)V"⟩
abbrev cX0_writeDown : ByteArray := prog_2_method_23_code
def yX0_writeDown : MethodName := ⟨RX0, "writeDown", "(IIIII)I"⟩
abbrev cX0_kindsByNotes : ByteArray := prog_2_method_24_code
def yX0_kindsByNotes : MethodName := ⟨RX0, "kindsByNotes", "(I)I"⟩
abbrev cX0_isSoByNote : ByteArray := prog_2_method_25_code
def yX0_isSoByNote : MethodName := ⟨RX0, "isSoByNote", "(II)Z"⟩
abbrev cX0_lendOrLeave : ByteArray := prog_2_method_26_code
def yX0_lendOrLeave : MethodName := ⟨RX0, "lendOrLeave", "(II)V"⟩
abbrev cX0_atCounter : ByteArray := prog_2_method_27_code
def yX0_atCounter : MethodName := ⟨RX0, "atCounter", "()I"⟩
abbrev cX0_allSlipped : ByteArray := prog_2_method_28_code
def yX0_allSlipped : MethodName := ⟨RX0, "allSlipped", "()I"⟩
abbrev cX0_digestOn : ByteArray := prog_2_method_29_code
def yX0_digestOn : MethodName := ⟨RX0, "digestOn", "(J)J"⟩
def RX1 : String := "BorrowedVoice$Kinds"
def TX1 : u_T := fun k => match k with
  | _ => ("", "", "", false)
def tyX1 : Nat → FieldType := fun k => match k with
  | _ => .int
abbrev wsX10 : List Cond := u_ws RX1 TX1 0
theorem nmX1 : ∀ a, a < 0 → ∀ b, b < 0 → a ≠ b → (TX1 a).2.1 ≠ (TX1 b).2.1 := by decide +kernel
theorem tyX1_ok : ∀ k, k < 0 → parseFieldDescriptor (TX1 k).2.2.1 = some (tyX1 k) := by decide +kernel
abbrev cX1_soundOf : ByteArray := prog_3_method_2_code
def yX1_soundOf : MethodName := ⟨RX1, "soundOf", "(III)I"⟩
abbrev cX1_wordsOf : ByteArray := prog_3_method_3_code
def yX1_wordsOf : MethodName := ⟨RX1, "wordsOf", "(II)I"⟩
abbrev cX1_plainWords : ByteArray := prog_3_method_4_code
def yX1_plainWords : MethodName := ⟨RX1, "plainWords", "(I)I"⟩
abbrev cX1_trebleWords : ByteArray := prog_3_method_5_code
def yX1_trebleWords : MethodName := ⟨RX1, "trebleWords", "(I)I"⟩
abbrev cX1_mostAlike : ByteArray := prog_3_method_6_code
def yX1_mostAlike : MethodName := ⟨RX1, "mostAlike", "(IIII)I"⟩
def RX2 : String := "BorrowedVoice$Reader"
def TX2 : u_T := fun k => match k with
  | 0 => ("BorrowedVoice$Reader", "bytes", "[B", true)
  | 1 => ("BorrowedVoice$Reader", "length", "I", false)
  | 2 => ("BorrowedVoice$Reader", "token", "I", false)
  | 3 => ("BorrowedVoice$Reader", "begin", "I", false)
  | 4 => ("BorrowedVoice$Reader", "behind", "I", false)
  | _ => ("BorrowedVoice$Reader", "value", "I", false)
def tyX2 : Nat → FieldType := fun k => match k with
  | 0 => .array .byte
  | 1 => .int
  | 2 => .int
  | 3 => .int
  | 4 => .int
  | _ => .int
abbrev wsX20 : List Cond := u_ws RX2 TX2 6
theorem nmX2 : ∀ a, a < 6 → ∀ b, b < 6 → a ≠ b → (TX2 a).2.1 ≠ (TX2 b).2.1 := by decide +kernel
theorem tyX2_ok : ∀ k, k < 6 → parseFieldDescriptor (TX2 k).2.2.1 = some (tyX2 k) := by decide +kernel
abbrev cX2_init : ByteArray := prog_4_method_1_code
def yX2_init : MethodName := ⟨RX2, "<init>", "()V"⟩
abbrev cX2_append : ByteArray := prog_4_method_2_code
def yX2_append : MethodName := ⟨RX2, "append", "(I)I"⟩
abbrev cX2_readInto : ByteArray := prog_4_method_3_code
def yX2_readInto : MethodName := ⟨RX2, "readInto", "(LBorrowedVoice$House;)I"⟩
abbrev cX2_isCounter : ByteArray := prog_4_method_4_code
def yX2_isCounter : MethodName := ⟨RX2, "isCounter", "()Z"⟩
abbrev cX2_isItem : ByteArray := prog_4_method_5_code
def yX2_isItem : MethodName := ⟨RX2, "isItem", "(LBorrowedVoice$House;)Z"⟩
abbrev cX2_isOne : ByteArray := prog_4_method_6_code
def yX2_isOne : MethodName := ⟨RX2, "isOne", "(LBorrowedVoice$House;)Z"⟩
abbrev cX2_isLeave : ByteArray := prog_4_method_7_code
def yX2_isLeave : MethodName := ⟨RX2, "isLeave", "(LBorrowedVoice$House;)Z"⟩
abbrev cX2_isLend : ByteArray := prog_4_method_8_code
def yX2_isLend : MethodName := ⟨RX2, "isLend", "(LBorrowedVoice$House;)Z"⟩
abbrev cX2_isNumberBelow : ByteArray := prog_4_method_9_code
def yX2_isNumberBelow : MethodName := ⟨RX2, "isNumberBelow", "(I)Z"⟩
abbrev cX2_isStop : ByteArray := prog_4_method_10_code
def yX2_isStop : MethodName := ⟨RX2, "isStop", "()Z"⟩
abbrev cX2_isWord : ByteArray := prog_4_method_11_code
def yX2_isWord : MethodName := ⟨RX2, "isWord", "(Ljava/lang/String;)Z"⟩
abbrev cX2_step : ByteArray := prog_4_method_12_code
def yX2_step : MethodName := ⟨RX2, "step", "()V"⟩
abbrev cX2_tokenBegunBy : ByteArray := prog_4_method_13_code
def yX2_tokenBegunBy : MethodName := ⟨RX2, "tokenBegunBy", "(I)I"⟩
abbrev cX2_takeValue : ByteArray := prog_4_method_14_code
def yX2_takeValue : MethodName := ⟨RX2, "takeValue", "()V"⟩
def RX3 : String := "BorrowedVoice"
def TX3 : u_T := fun k => match k with
  | 0 => ("BorrowedVoice", "house", "LBorrowedVoice$House;", true)
  | 1 => ("BorrowedVoice", "trial", "LBorrowedVoice$House;", true)
  | 2 => ("BorrowedVoice", "firstImage", "LBorrowedVoice$House;", true)
  | 3 => ("BorrowedVoice", "secondImage", "LBorrowedVoice$House;", true)
  | 4 => ("BorrowedVoice", "firstKept", "Z", false)
  | 5 => ("BorrowedVoice", "secondKept", "Z", false)
  | 6 => ("BorrowedVoice", "reader", "LBorrowedVoice$Reader;", true)
  | 7 => ("BorrowedVoice", "bestRest", "[I", true)
  | 8 => ("BorrowedVoice", "bestNext", "[I", true)
  | 9 => ("BorrowedVoice", "above", "J", false)
  | 10 => ("BorrowedVoice", "below", "J", false)
  | 11 => ("BorrowedVoice", "bads", "I", false)
  | 12 => ("BorrowedVoice", "nos", "I", false)
  | _ => ("BorrowedVoice", "fulls", "I", false)
def tyX3 : Nat → FieldType := fun k => match k with
  | 0 => .object "BorrowedVoice$House"
  | 1 => .object "BorrowedVoice$House"
  | 2 => .object "BorrowedVoice$House"
  | 3 => .object "BorrowedVoice$House"
  | 4 => .boolean
  | 5 => .boolean
  | 6 => .object "BorrowedVoice$Reader"
  | 7 => .array .int
  | 8 => .array .int
  | 9 => .long
  | 10 => .long
  | 11 => .int
  | 12 => .int
  | _ => .int
abbrev wsX30 : List Cond := u_ws RX3 TX3 14
theorem nmX3 : ∀ a, a < 14 → ∀ b, b < 14 → a ≠ b → (TX3 a).2.1 ≠ (TX3 b).2.1 := by decide +kernel
theorem tyX3_ok : ∀ k, k < 14 → parseFieldDescriptor (TX3 k).2.2.1 = some (tyX3 k) := by decide +kernel
abbrev cX3_init : ByteArray := prog_1_method_1_code
def yX3_init : MethodName := ⟨RX3, "<init>", "()V"⟩
abbrev cX3_counter : ByteArray := prog_1_method_2_code
def yX3_counter : MethodName := ⟨RX3, "counter", "()I"⟩
abbrev cX3_one : ByteArray := prog_1_method_3_code
def yX3_one : MethodName := ⟨RX3, "one", "(III)I"⟩
abbrev cX3_type : ByteArray := prog_1_method_4_code
def yX3_type : MethodName := ⟨RX3, "type", "(I)I"⟩
abbrev cX3_clear : ByteArray := prog_1_method_5_code
def yX3_clear : MethodName := ⟨RX3, "clear", "()I"⟩
abbrev cX3_read : ByteArray := prog_1_method_6_code
def yX3_read : MethodName := ⟨RX3, "read", "()I"⟩
abbrev cX3_lend : ByteArray := prog_1_method_7_code
def yX3_lend : MethodName := ⟨RX3, "lend", "(II)I"⟩
abbrev cX3_leave : ByteArray := prog_1_method_8_code
def yX3_leave : MethodName := ⟨RX3, "leave", "(I)I"⟩
abbrev cX3_evening : ByteArray := prog_1_method_9_code
def yX3_evening : MethodName := ⟨RX3, "evening", "(I)I"⟩
abbrev cX3_undo : ByteArray := prog_1_method_10_code
def yX3_undo : MethodName := ⟨RX3, "undo", "()I"⟩
abbrev cX3_of : ByteArray := prog_1_method_11_code
def yX3_of : MethodName := ⟨RX3, "of", "(II)I"⟩
abbrev cX3_about : ByteArray := prog_1_method_12_code
def yX3_about : MethodName := ⟨RX3, "about", "(II)I"⟩
abbrev cX3_fit : ByteArray := prog_1_method_13_code
def yX3_fit : MethodName := ⟨RX3, "fit", "(II)I"⟩
abbrev cX3_best : ByteArray := prog_1_method_14_code
def yX3_best : MethodName := ⟨RX3, "best", "(I)I"⟩
abbrev cX3_dumb : ByteArray := prog_1_method_15_code
def yX3_dumb : MethodName := ⟨RX3, "dumb", "()I"⟩
abbrev cX3_own : ByteArray := prog_1_method_16_code
def yX3_own : MethodName := ⟨RX3, "own", "()I"⟩
abbrev cX3_ring : ByteArray := prog_1_method_17_code
def yX3_ring : MethodName := ⟨RX3, "ring", "(I)I"⟩
abbrev cX3_swaps : ByteArray := prog_1_method_18_code
def yX3_swaps : MethodName := ⟨RX3, "swaps", "(I)I"⟩
abbrev cX3_steps : ByteArray := prog_1_method_19_code
def yX3_steps : MethodName := ⟨RX3, "steps", "()I"⟩
abbrev cX3_worst : ByteArray := prog_1_method_20_code
def yX3_worst : MethodName := ⟨RX3, "worst", "(I)I"⟩
abbrev cX3_slips : ByteArray := prog_1_method_21_code
def yX3_slips : MethodName := ⟨RX3, "slips", "(II)I"⟩
abbrev cX3_note : ByteArray := prog_1_method_22_code
def yX3_note : MethodName := ⟨RX3, "note", "(IIIII)I"⟩
abbrev cX3_forget : ByteArray := prog_1_method_23_code
def yX3_forget : MethodName := ⟨RX3, "forget", "()I"⟩
abbrev cX3_is : ByteArray := prog_1_method_24_code
def yX3_is : MethodName := ⟨RX3, "is", "(I)I"⟩
abbrev cX3_listen : ByteArray := prog_1_method_25_code
def yX3_listen : MethodName := ⟨RX3, "listen", "(I)I"⟩
abbrev cX3_whose : ByteArray := prog_1_method_26_code
def yX3_whose : MethodName := ⟨RX3, "whose", "(I)I"⟩
abbrev cX3_asks : ByteArray := prog_1_method_27_code
def yX3_asks : MethodName := ⟨RX3, "asks", "(III)I"⟩
abbrev cX3_thieves : ByteArray := prog_1_method_28_code
def yX3_thieves : MethodName := ⟨RX3, "thieves", "(II)I"⟩
abbrev cX3_lents : ByteArray := prog_1_method_29_code
def yX3_lents : MethodName := ⟨RX3, "lents", "(II)I"⟩
abbrev cX3_part : ByteArray := prog_1_method_30_code
def yX3_part : MethodName := ⟨RX3, "part", "(I)J"⟩
abbrev cX3_image : ByteArray := prog_1_method_31_code
def yX3_image : MethodName := ⟨RX3, "image", "(I)I"⟩
abbrev cX3_from : ByteArray := prog_1_method_32_code
def yX3_from : MethodName := ⟨RX3, "from", "(I)I"⟩
abbrev cX3_status : ByteArray := prog_1_method_33_code
def yX3_status : MethodName := ⟨RX3, "status", "(I)I"⟩
abbrev cX3_count : ByteArray := prog_1_method_34_code
def yX3_count : MethodName := ⟨RX3, "count", "(I)I"⟩
abbrev cX3_digest : ByteArray := prog_1_method_35_code
def yX3_digest : MethodName := ⟨RX3, "digest", "()J"⟩
abbrev cX3_bad : ByteArray := prog_1_method_36_code
def yX3_bad : MethodName := ⟨RX3, "bad", "()I"⟩
abbrev cX3_badByTen : ByteArray := prog_1_method_37_code
def yX3_badByTen : MethodName := ⟨RX3, "badByTen", "()I"⟩
abbrev cX3_no : ByteArray := prog_1_method_38_code
def yX3_no : MethodName := ⟨RX3, "no", "()I"⟩
abbrev cX3_full : ByteArray := prog_1_method_39_code
def yX3_full : MethodName := ⟨RX3, "full", "()I"⟩
abbrev cX3_within : ByteArray := prog_1_method_40_code
def yX3_within : MethodName := ⟨RX3, "within", "(III)Z"⟩
abbrev cX3_isSort : ByteArray := prog_1_method_41_code
def yX3_isSort : MethodName := ⟨RX3, "isSort", "(I)Z"⟩
abbrev cX3_isThere : ByteArray := prog_1_method_42_code
def yX3_isThere : MethodName := ⟨RX3, "isThere", "(I)Z"⟩
abbrev cX3_howMany : ByteArray := prog_1_method_43_code
def yX3_howMany : MethodName := ⟨RX3, "howMany", "(I)I"⟩
abbrev cX3_findBest : ByteArray := prog_1_method_44_code
def yX3_findBest : MethodName := ⟨RX3, "findBest", "()V"⟩
abbrev cX3_bestVoiceOf : ByteArray := prog_1_method_45_code
def yX3_bestVoiceOf : MethodName := ⟨RX3, "bestVoiceOf", "(I)I"⟩
abbrev cX3_isContent : ByteArray := prog_1_method_46_code
def yX3_isContent : MethodName := ⟨RX3, "isContent", "(ZII)Z"⟩
abbrev cX3_power : ByteArray := prog_1_method_47_code
def yX3_power : MethodName := ⟨RX3, "power", "(II)J"⟩
abbrev cX3_setFraction : ByteArray := prog_1_method_48_code
def yX3_setFraction : MethodName := ⟨RX3, "setFraction", "(JJ)V"⟩
abbrev cX3_greatestCommonDivisor : ByteArray := prog_1_method_49_code
def yX3_greatestCommonDivisor : MethodName := ⟨RX3, "greatestCommonDivisor", "(JJ)J"⟩
abbrev cX3_nextOfSeed : ByteArray := prog_1_method_50_code
def yX3_nextOfSeed : MethodName := ⟨RX3, "nextOfSeed", "(J)J"⟩
def RX4 : String := "BorrowedVoiceModel"
def TX4 : u_T := fun k => match k with
  | 0 => ("BorrowedVoiceModel", "refused", "[I", true)
  | 1 => ("BorrowedVoiceModel", "many", "I", false)
  | 2 => ("BorrowedVoiceModel", "now", "I", false)
  | 3 => ("BorrowedVoiceModel", "noteMany", "I", false)
  | 4 => ("BorrowedVoiceModel", "kinds", "[I", true)
  | 5 => ("BorrowedVoiceModel", "sorts", "[I", true)
  | 6 => ("BorrowedVoiceModel", "wants", "[I", true)
  | 7 => ("BorrowedVoiceModel", "withs", "[I", true)
  | 8 => ("BorrowedVoiceModel", "used", "[I", true)
  | 9 => ("BorrowedVoiceModel", "slipped", "[I", true)
  | 10 => ("BorrowedVoiceModel", "noteVoice", "[I", true)
  | 11 => ("BorrowedVoiceModel", "noteUsed", "[I", true)
  | 12 => ("BorrowedVoiceModel", "noteDay", "[I", true)
  | 13 => ("BorrowedVoiceModel", "noteSort", "[I", true)
  | 14 => ("BorrowedVoiceModel", "noteWords", "[I", true)
  | 15 => ("BorrowedVoiceModel", "text", "[I", true)
  | 16 => ("BorrowedVoiceModel", "typed", "I", false)
  | 17 => ("BorrowedVoiceModel", "readAt", "I", false)
  | 18 => ("BorrowedVoiceModel", "readMany", "I", false)
  | 19 => ("BorrowedVoiceModel", "readOnes", "[I", true)
  | 20 => ("BorrowedVoiceModel", "readWiths", "[I", true)
  | 21 => ("BorrowedVoiceModel", "readNumber", "I", false)
  | 22 => ("BorrowedVoiceModel", "ahead", "[I", true)
  | 23 => ("BorrowedVoiceModel", "undoMany", "I", false)
  | 24 => ("BorrowedVoiceModel", "aside", "[I", true)
  | 25 => ("BorrowedVoiceModel", "line", "[I", true)
  | 26 => ("BorrowedVoiceModel", "bestLine", "[I", true)
  | 27 => ("BorrowedVoiceModel", "above", "J", false)
  | 28 => ("BorrowedVoiceModel", "below", "J", false)
  | 29 => ("BorrowedVoiceModel", "images", "[I", true)
  | 30 => ("BorrowedVoiceModel", "isKept", "[I", true)
  | _ => ("BorrowedVoiceModel", "h0", "J", false)
def tyX4 : Nat → FieldType := fun k => match k with
  | 0 => .array .int
  | 1 => .int
  | 2 => .int
  | 3 => .int
  | 4 => .array .int
  | 5 => .array .int
  | 6 => .array .int
  | 7 => .array .int
  | 8 => .array .int
  | 9 => .array .int
  | 10 => .array .int
  | 11 => .array .int
  | 12 => .array .int
  | 13 => .array .int
  | 14 => .array .int
  | 15 => .array .int
  | 16 => .int
  | 17 => .int
  | 18 => .int
  | 19 => .array .int
  | 20 => .array .int
  | 21 => .int
  | 22 => .array .int
  | 23 => .int
  | 24 => .array .int
  | 25 => .array .int
  | 26 => .array .int
  | 27 => .long
  | 28 => .long
  | 29 => .array .int
  | 30 => .array .int
  | _ => .long
abbrev wsX40 : List Cond := u_ws RX4 TX4 32
theorem nmX4 : ∀ a, a < 32 → ∀ b, b < 32 → a ≠ b → (TX4 a).2.1 ≠ (TX4 b).2.1 := by decide +kernel
theorem tyX4_ok : ∀ k, k < 32 → parseFieldDescriptor (TX4 k).2.2.1 = some (tyX4 k) := by decide +kernel
abbrev cX4_bad : ByteArray := prog_6_method_1_code
def yX4_bad : MethodName := ⟨RX4, "bad", "()I"⟩
abbrev cX4_ten : ByteArray := prog_6_method_2_code
def yX4_ten : MethodName := ⟨RX4, "ten", "()I"⟩
abbrev cX4_no : ByteArray := prog_6_method_3_code
def yX4_no : MethodName := ⟨RX4, "no", "()I"⟩
abbrev cX4_full : ByteArray := prog_6_method_4_code
def yX4_full : MethodName := ⟨RX4, "full", "()I"⟩
abbrev cX4_in : ByteArray := prog_6_method_5_code
def yX4_in : MethodName := ⟨RX4, "in", "(III)Z"⟩
abbrev cX4_has : ByteArray := prog_6_method_6_code
def yX4_has : MethodName := ⟨RX4, "has", "(II)Z"⟩
abbrev cX4_init : ByteArray := prog_6_method_7_code
def yX4_init : MethodName := ⟨RX4, "<init>", "()V"⟩
abbrev cX4_begin : ByteArray := prog_6_method_8_code
def yX4_begin : MethodName := ⟨RX4, "begin", "()V"⟩
abbrev cX4_isOne : ByteArray := prog_6_method_9_code
def yX4_isOne : MethodName := ⟨RX4, "isOne", "(I)Z"⟩
abbrev cX4_counter : ByteArray := prog_6_method_10_code
def yX4_counter : MethodName := ⟨RX4, "counter", "()I"⟩
abbrev cX4_addOne : ByteArray := prog_6_method_11_code
def yX4_addOne : MethodName := ⟨RX4, "addOne", "(III)I"⟩
abbrev cX4_one : ByteArray := prog_6_method_12_code
def yX4_one : MethodName := ⟨RX4, "one", "(III)I"⟩
abbrev cX4_type : ByteArray := prog_6_method_13_code
def yX4_type : MethodName := ⟨RX4, "type", "(I)I"⟩
abbrev cX4_clear : ByteArray := prog_6_method_14_code
def yX4_clear : MethodName := ⟨RX4, "clear", "()I"⟩
abbrev cX4_here : ByteArray := prog_6_method_15_code
def yX4_here : MethodName := ⟨RX4, "here", "()I"⟩
abbrev cX4_skip : ByteArray := prog_6_method_16_code
def yX4_skip : MethodName := ⟨RX4, "skip", "()V"⟩
abbrev cX4_isLetter : ByteArray := prog_6_method_17_code
def yX4_isLetter : MethodName := ⟨RX4, "isLetter", "(I)Z"⟩
abbrev cX4_isFigure : ByteArray := prog_6_method_18_code
def yX4_isFigure : MethodName := ⟨RX4, "isFigure", "(I)Z"⟩
abbrev cX4_wordSize : ByteArray := prog_6_method_19_code
def yX4_wordSize : MethodName := ⟨RX4, "wordSize", "()I"⟩
abbrev cX4_letter : ByteArray := prog_6_method_20_code
def yX4_letter : MethodName := ⟨RX4, "letter", "(I)I"⟩
abbrev cX4_spells : ByteArray := prog_6_method_21_code
def yX4_spells : MethodName := ⟨RX4, "spells", "(IIII)Z"⟩
abbrev cX4_wordHere : ByteArray := prog_6_method_22_code
def yX4_wordHere : MethodName := ⟨RX4, "wordHere", "()I"⟩
abbrev cX4_number : ByteArray := prog_6_method_23_code
def yX4_number : MethodName := ⟨RX4, "number", "(II)Z"⟩
abbrev cX4_ends : ByteArray := prog_6_method_24_code
def yX4_ends : MethodName := ⟨RX4, "ends", "()Z"⟩
abbrev cX4_readsOne : ByteArray := prog_6_method_25_code
def yX4_readsOne : MethodName := ⟨RX4, "readsOne", "()Z"⟩
abbrev cX4_readVoice : ByteArray := prog_6_method_26_code
def yX4_readVoice : MethodName := ⟨RX4, "readVoice", "(I)I"⟩
abbrev cX4_readsLeave : ByteArray := prog_6_method_27_code
def yX4_readsLeave : MethodName := ⟨RX4, "readsLeave", "()Z"⟩
abbrev cX4_readsLend : ByteArray := prog_6_method_28_code
def yX4_readsLend : MethodName := ⟨RX4, "readsLend", "()Z"⟩
abbrev cX4_readsItem : ByteArray := prog_6_method_29_code
def yX4_readsItem : MethodName := ⟨RX4, "readsItem", "()Z"⟩
abbrev cX4_readsCounter : ByteArray := prog_6_method_30_code
def yX4_readsCounter : MethodName := ⟨RX4, "readsCounter", "()I"⟩
abbrev cX4_read : ByteArray := prog_6_method_31_code
def yX4_read : MethodName := ⟨RX4, "read", "()I"⟩
abbrev cX4_lesser : ByteArray := prog_6_method_32_code
def yX4_lesser : MethodName := ⟨RX4, "lesser", "(II)I"⟩
abbrev cX4_soundBy : ByteArray := prog_6_method_33_code
def yX4_soundBy : MethodName := ⟨RX4, "soundBy", "(III)I"⟩
abbrev cX4_slipBy : ByteArray := prog_6_method_34_code
def yX4_slipBy : MethodName := ⟨RX4, "slipBy", "(II)I"⟩
abbrev cX4_sound : ByteArray := prog_6_method_35_code
def yX4_sound : MethodName := ⟨RX4, "sound", "(I)I"⟩
abbrev cX4_fitWith : ByteArray := prog_6_method_36_code
def yX4_fitWith : MethodName := ⟨RX4, "fitWith", "(II)I"⟩
abbrev cX4_voiceOf : ByteArray := prog_6_method_37_code
def yX4_voiceOf : MethodName := ⟨RX4, "voiceOf", "(I)I"⟩
abbrev cX4_fitNow : ByteArray := prog_6_method_38_code
def yX4_fitNow : MethodName := ⟨RX4, "fitNow", "(I)I"⟩
abbrev cX4_lays : ByteArray := prog_6_method_39_code
def yX4_lays : MethodName := ⟨RX4, "lays", "([II)V"⟩
abbrev cX4_takes : ByteArray := prog_6_method_40_code
def yX4_takes : MethodName := ⟨RX4, "takes", "([II)V"⟩
abbrev cX4_notes : ByteArray := prog_6_method_41_code
def yX4_notes : MethodName := ⟨RX4, "notes", "()V"⟩
abbrev cX4_puts : ByteArray := prog_6_method_42_code
def yX4_puts : MethodName := ⟨RX4, "puts", "()V"⟩
abbrev cX4_back : ByteArray := prog_6_method_43_code
def yX4_back : MethodName := ⟨RX4, "back", "()V"⟩
abbrev cX4_leaves : ByteArray := prog_6_method_44_code
def yX4_leaves : MethodName := ⟨RX4, "leaves", "(I)V"⟩
abbrev cX4_lends : ByteArray := prog_6_method_45_code
def yX4_lends : MethodName := ⟨RX4, "lends", "(II)I"⟩
abbrev cX4_pass : ByteArray := prog_6_method_46_code
def yX4_pass : MethodName := ⟨RX4, "pass", "()I"⟩
abbrev cX4_lend : ByteArray := prog_6_method_47_code
def yX4_lend : MethodName := ⟨RX4, "lend", "(II)I"⟩
abbrev cX4_leave : ByteArray := prog_6_method_48_code
def yX4_leave : MethodName := ⟨RX4, "leave", "(I)I"⟩
abbrev cX4_evening : ByteArray := prog_6_method_49_code
def yX4_evening : MethodName := ⟨RX4, "evening", "(I)I"⟩
abbrev cX4_undo : ByteArray := prog_6_method_50_code
def yX4_undo : MethodName := ⟨RX4, "undo", "()I"⟩
abbrev cX4_of : ByteArray := prog_6_method_51_code
def yX4_of : MethodName := ⟨RX4, "of", "(II)I"⟩
abbrev cX4_about : ByteArray := prog_6_method_52_code
def yX4_about : MethodName := ⟨RX4, "about", "(II)I"⟩
abbrev cX4_fit : ByteArray := prog_6_method_53_code
def yX4_fit : MethodName := ⟨RX4, "fit", "(II)I"⟩
abbrev cX4_nextLine : ByteArray := prog_6_method_54_code
def yX4_nextLine : MethodName := ⟨RX4, "nextLine", "()Z"⟩
abbrev cX4_best : ByteArray := prog_6_method_55_code
def yX4_best : MethodName := ⟨RX4, "best", "(I)I"⟩
abbrev cX4_dumb : ByteArray := prog_6_method_56_code
def yX4_dumb : MethodName := ⟨RX4, "dumb", "()I"⟩
abbrev cX4_ringOf : ByteArray := prog_6_method_57_code
def yX4_ringOf : MethodName := ⟨RX4, "ringOf", "(I)I"⟩
abbrev cX4_own : ByteArray := prog_6_method_58_code
def yX4_own : MethodName := ⟨RX4, "own", "()I"⟩
abbrev cX4_ring : ByteArray := prog_6_method_59_code
def yX4_ring : MethodName := ⟨RX4, "ring", "(I)I"⟩
abbrev cX4_isSwap : ByteArray := prog_6_method_60_code
def yX4_isSwap : MethodName := ⟨RX4, "isSwap", "(II)Z"⟩
abbrev cX4_swaps : ByteArray := prog_6_method_61_code
def yX4_swaps : MethodName := ⟨RX4, "swaps", "(I)I"⟩
abbrev cX4_firstSwap : ByteArray := prog_6_method_62_code
def yX4_firstSwap : MethodName := ⟨RX4, "firstSwap", "()I"⟩
abbrev cX4_steps : ByteArray := prog_6_method_63_code
def yX4_steps : MethodName := ⟨RX4, "steps", "()I"⟩
abbrev cX4_worst : ByteArray := prog_6_method_64_code
def yX4_worst : MethodName := ⟨RX4, "worst", "(I)I"⟩
abbrev cX4_slips : ByteArray := prog_6_method_65_code
def yX4_slips : MethodName := ⟨RX4, "slips", "(II)I"⟩
abbrev cX4_note : ByteArray := prog_6_method_66_code
def yX4_note : MethodName := ⟨RX4, "note", "(IIIII)I"⟩
abbrev cX4_forget : ByteArray := prog_6_method_67_code
def yX4_forget : MethodName := ⟨RX4, "forget", "()I"⟩
abbrev cX4_kindsOf : ByteArray := prog_6_method_68_code
def yX4_kindsOf : MethodName := ⟨RX4, "kindsOf", "(I)I"⟩
abbrev cX4_is : ByteArray := prog_6_method_69_code
def yX4_is : MethodName := ⟨RX4, "is", "(I)I"⟩
abbrev cX4_alike : ByteArray := prog_6_method_70_code
def yX4_alike : MethodName := ⟨RX4, "alike", "(IIII)I"⟩
abbrev cX4_listen : ByteArray := prog_6_method_71_code
def yX4_listen : MethodName := ⟨RX4, "listen", "(I)I"⟩
abbrev cX4_whose : ByteArray := prog_6_method_72_code
def yX4_whose : MethodName := ⟨RX4, "whose", "(I)I"⟩
abbrev cX4_gets : ByteArray := prog_6_method_73_code
def yX4_gets : MethodName := ⟨RX4, "gets", "(IIZZZ)I"⟩
abbrev cX4_asks : ByteArray := prog_6_method_74_code
def yX4_asks : MethodName := ⟨RX4, "asks", "(III)I"⟩
abbrev cX4_lay : ByteArray := prog_6_method_75_code
def yX4_lay : MethodName := ⟨RX4, "lay", "(JJ)V"⟩
abbrev cX4_atCounter : ByteArray := prog_6_method_76_code
def yX4_atCounter : MethodName := ⟨RX4, "atCounter", "()I"⟩
abbrev cX4_bits : ByteArray := prog_6_method_77_code
def yX4_bits : MethodName := ⟨RX4, "bits", "(I)I"⟩
abbrev cX4_thieves : ByteArray := prog_6_method_78_code
def yX4_thieves : MethodName := ⟨RX4, "thieves", "(II)I"⟩
abbrev cX4_lents : ByteArray := prog_6_method_79_code
def yX4_lents : MethodName := ⟨RX4, "lents", "(II)I"⟩
abbrev cX4_part : ByteArray := prog_6_method_80_code
def yX4_part : MethodName := ⟨RX4, "part", "(I)J"⟩
abbrev cX4_image : ByteArray := prog_6_method_81_code
def yX4_image : MethodName := ⟨RX4, "image", "(I)I"⟩
abbrev cX4_from : ByteArray := prog_6_method_82_code
def yX4_from : MethodName := ⟨RX4, "from", "(I)I"⟩
abbrev cX4_status : ByteArray := prog_6_method_83_code
def yX4_status : MethodName := ⟨RX4, "status", "(I)I"⟩
abbrev cX4_allSlipped : ByteArray := prog_6_method_84_code
def yX4_allSlipped : MethodName := ⟨RX4, "allSlipped", "()I"⟩
abbrev cX4_countOf : ByteArray := prog_6_method_85_code
def yX4_countOf : MethodName := ⟨RX4, "countOf", "(I)I"⟩
abbrev cX4_count : ByteArray := prog_6_method_86_code
def yX4_count : MethodName := ⟨RX4, "count", "(I)I"⟩
abbrev cX4_mix : ByteArray := prog_6_method_87_code
def yX4_mix : MethodName := ⟨RX4, "mix", "(J)V"⟩
abbrev cX4_digest : ByteArray := prog_6_method_88_code
def yX4_digest : MethodName := ⟨RX4, "digest", "()J"⟩
def RJ6 : String := "java/lang/Integer"
def TJ6 : u_T := fun k => match k with
  | _ => ("", "", "", false)
def tyJ6 : Nat → FieldType := fun k => match k with
  | _ => .int
abbrev wsJ60 : List Cond := u_ws RJ6 TJ6 0
theorem nmJ6 : ∀ a, a < 0 → ∀ b, b < 0 → a ≠ b → (TJ6 a).2.1 ≠ (TJ6 b).2.1 := by decide +kernel
theorem tyJ6_ok : ∀ k, k < 0 → parseFieldDescriptor (TJ6 k).2.2.1 = some (tyJ6 k) := by decide +kernel
abbrev cJ6_bitCount_0f7a4 : ByteArray := prog_7_method_49_code
def yJ6_bitCount_0f7a4 : MethodName := ⟨RJ6, "bitCount", "(I)I"⟩
def RJ9 : String := "java/lang/Math"
def TJ9 : u_T := fun k => match k with
  | _ => ("", "", "", false)
def tyJ9 : Nat → FieldType := fun k => match k with
  | _ => .int
abbrev wsJ90 : List Cond := u_ws RJ9 TJ9 0
theorem nmJ9 : ∀ a, a < 0 → ∀ b, b < 0 → a ≠ b → (TJ9 a).2.1 ≠ (TJ9 b).2.1 := by decide +kernel
theorem tyJ9_ok : ∀ k, k < 0 → parseFieldDescriptor (TJ9 k).2.2.1 = some (tyJ9 k) := by decide +kernel
abbrev cJ9_abs_0f7a4 : ByteArray := prog_8_method_59_code
def yJ9_abs_0f7a4 : MethodName := ⟨RJ9, "abs", "(I)I"⟩
abbrev cJ9_max_7cf53 : ByteArray := prog_8_method_65_code
def yJ9_max_7cf53 : MethodName := ⟨RJ9, "max", "(II)I"⟩
abbrev cJ9_min_7cf53 : ByteArray := prog_8_method_69_code
def yJ9_min_7cf53 : MethodName := ⟨RJ9, "min", "(II)I"⟩
def RJ0 : String := "java/lang/String"
def TJ0 : u_T := fun k => match k with
  | _ => ("", "", "", false)
def tyJ0 : Nat → FieldType := fun k => match k with
  | _ => .int
abbrev wsJ00 : List Cond := u_ws RJ0 TJ0 0
theorem nmJ0 : ∀ a, a < 0 → ∀ b, b < 0 → a ≠ b → (TJ0 a).2.1 ≠ (TJ0 b).2.1 := by decide +kernel
theorem tyJ0_ok : ∀ k, k < 0 → parseFieldDescriptor (TJ0 k).2.2.1 = some (tyJ0 k) := by decide +kernel
abbrev cJ0_length_8abf5 : ByteArray := prog_9_method_54_code
def yJ0_length_8abf5 : MethodName := ⟨RJ0, "length", "()I"⟩
abbrev cJ0_charAt_5068e : ByteArray := prog_9_method_56_code
def yJ0_charAt_5068e : MethodName := ⟨RJ0, "charAt", "(I)C"⟩
abbrev cJ0_coder_7d493 : ByteArray := prog_9_method_152_code
def yJ0_coder_7d493 : MethodName := ⟨RJ0, "coder", "()B"⟩
abbrev cJ0_isLatin1_aae02 : ByteArray := prog_9_method_154_code
def yJ0_isLatin1_aae02 : MethodName := ⟨RJ0, "isLatin1", "()Z"⟩
abbrev cJ0_checkIndex_df160 : ByteArray := prog_9_method_155_code
def yJ0_checkIndex_df160 : MethodName := ⟨RJ0, "checkIndex", "(II)V"⟩
def RJ1 : String := "java/lang/StringLatin1"
def TJ1 : u_T := fun k => match k with
  | _ => ("", "", "", false)
def tyJ1 : Nat → FieldType := fun k => match k with
  | _ => .int
abbrev wsJ10 : List Cond := u_ws RJ1 TJ1 0
theorem nmJ1 : ∀ a, a < 0 → ∀ b, b < 0 → a ≠ b → (TJ1 a).2.1 ≠ (TJ1 b).2.1 := by decide +kernel
theorem tyJ1_ok : ∀ k, k < 0 → parseFieldDescriptor (TJ1 k).2.2.1 = some (tyJ1 k) := by decide +kernel
abbrev cJ1_charAt_3b067 : ByteArray := prog_10_method_2_code
def yJ1_charAt_3b067 : MethodName := ⟨RJ1, "charAt", "([BI)C"⟩
def RJ2 : String := "java/lang/StringUTF16"
def TJ2 : u_T := fun k => match k with
  | _ => ("", "", "", false)
def tyJ2 : Nat → FieldType := fun k => match k with
  | _ => .int
abbrev wsJ20 : List Cond := u_ws RJ2 TJ2 0
theorem nmJ2 : ∀ a, a < 0 → ∀ b, b < 0 → a ≠ b → (TJ2 a).2.1 ≠ (TJ2 b).2.1 := by decide +kernel
theorem tyJ2_ok : ∀ k, k < 0 → parseFieldDescriptor (TJ2 k).2.2.1 = some (tyJ2 k) := by decide +kernel
abbrev cJ2_getChar_3b067 : ByteArray := prog_11_method_5_code
def yJ2_getChar_3b067 : MethodName := ⟨RJ2, "getChar", "([BI)C"⟩
abbrev cJ2_length_9d52b : ByteArray := prog_11_method_6_code
def yJ2_length_9d52b : MethodName := ⟨RJ2, "length", "([B)I"⟩
abbrev cJ2_charAt_3b067 : ByteArray := prog_11_method_83_code
def yJ2_charAt_3b067 : MethodName := ⟨RJ2, "charAt", "([BI)C"⟩
abbrev cJ2_checkIndex_2214a : ByteArray := prog_11_method_91_code
def yJ2_checkIndex_2214a : MethodName := ⟨RJ2, "checkIndex", "(I[B)V"⟩
def RJ10 : String := "java/lang/System"
def TJ10 : u_T := fun k => match k with
  | _ => ("", "", "", false)
def tyJ10 : Nat → FieldType := fun k => match k with
  | _ => .int
abbrev wsJ100 : List Cond := u_ws RJ10 TJ10 0
theorem nmJ10 : ∀ a, a < 0 → ∀ b, b < 0 → a ≠ b → (TJ10 a).2.1 ≠ (TJ10 b).2.1 := by decide +kernel
theorem tyJ10_ok : ∀ k, k < 0 → parseFieldDescriptor (TJ10 k).2.2.1 = some (tyJ10 k) := by decide +kernel
def RJ3 : String := "jdk/internal/util/Preconditions"
def TJ3 : u_T := fun k => match k with
  | _ => ("", "", "", false)
def tyJ3 : Nat → FieldType := fun k => match k with
  | _ => .int
abbrev wsJ30 : List Cond := u_ws RJ3 TJ3 0
theorem nmJ3 : ∀ a, a < 0 → ∀ b, b < 0 → a ≠ b → (TJ3 a).2.1 ≠ (TJ3 b).2.1 := by decide +kernel
theorem tyJ3_ok : ∀ k, k < 0 → parseFieldDescriptor (TJ3 k).2.2.1 = some (tyJ3 k) := by decide +kernel
abbrev cJ3_checkIndex_8e157 : ByteArray := prog_13_method_11_code
def yJ3_checkIndex_8e157 : MethodName := ⟨RJ3, "checkIndex", "(IILjava/util/function/BiFunction;)I"⟩
def RL : String := "BorrowedVoiceLaw"
abbrev cL_law : ByteArray := code
def yL_law : MethodName := ⟨RL, "law", "([I)Z"⟩
abbrev vwCl : List vw_C := [(RX0, TX0, 12), (RX2, TX2, 6), (RX3, TX3, 14), (RX4, TX4, 32)]
end
section
/-! ===== THE SMALL MACHINE IS THE MACHINE: instruction by instruction ===== -/
/-- the tables' words that a callee may have -/
def gtb : List Cond := lw_tbl.filter goodWord
theorem gtb_of {w : Cond} (h : w ∈ lw_tbl) (hg : goodWord w = true) : w ∈ gtb := List.mem_filter.mpr ⟨h, hg⟩
theorem gtb_in {w : Cond} (h : w ∈ gtb) : w ∈ lw_tbl := (List.mem_filter.mp h).1
def cvv (ad : Nat → Nat) : Value → Value
  | .ref k => .ref (ad k)
  | v => v
theorem cvv_cat (ad : Nat → Nat) (v : Value) : (cvv ad v).category = v.category := by cases v <;> rfl
abbrev tyA (dA : Nat → ClassId) : List (ClassId × FieldType) := [(dA 0, .int), (dA 1, .byte)]
/-- the fields of each kind of object: 0 an int, 1 a long, 2 the cell so many places on -/
def fks : Nat → List (Nat × Nat)
  | 0 => [(0,0),(0,0),(0,0),(0,0),(2,1),(2,2),(2,3),(2,4),(2,5),(2,6),(2,7),(2,8)]
  | 1 => [(2,1),(0,0),(0,0),(0,0),(0,0),(0,0)]
  | 2 => [(2,1),(2,10),(2,19),(2,28),(0,0),(0,0),(2,37),(2,39),(2,40),(1,0),(1,0),(0,0),(0,0),(0,0)]
  | _ => [(2,1),(0,0),(0,0),(0,0),(2,2),(2,3),(2,4),(2,5),(2,6),(2,7),(2,8),(2,9),(2,10),(2,11),(2,12),(2,13),(0,0),(0,0),(0,0),(2,14),(2,15),(0,0),(2,16),(0,0),(2,17),(2,18),(2,19),(1,0),(1,0),(2,20),(2,21),(1,0)]
def fv (ad : Nat → Nat) (u : Sg) (k j : Nat) (q : Nat × Nat) : Value := if q.1 = 0 then .int (gI u k j) else if q.1 = 1 then .long (gJ u k j) else .ref (ad (k + q.2))
def fld (ad : Nat → Nat) (u : Sg) (k : Nat) : Nat → List (Nat × Nat) → List Value
  | _, [] => []
  | j, q :: t => fv ad u k j q :: fld ad u k (j + 1) t
theorem fld_len (ad : Nat → Nat) (u : Sg) (k : Nat) : ∀ (t : List (Nat × Nat)) (j : Nat), (fld ad u k j t).length = t.length
  | [], _ => rfl
  | _ :: t, j => by simp [fld, fld_len ad u k t (j + 1)]
theorem fld_at (ad : Nat → Nat) (u : Sg) (k : Nat) : ∀ (t : List (Nat × Nat)) (j i : Nat) (q : Nat × Nat), t[i]? = some q → (fld ad u k j t)[i]? = some (fv ad u k (j + i) q)
  | [], _, _, _, h => by simp at h
  | a :: t, j, 0, q, h => by
    simp only [List.getElem?_cons_zero, Option.some.injEq] at h
    subst h
    rfl
  | a :: t, j, i + 1, q, h => by
    rw [List.getElem?_cons_succ] at h
    have := fld_at ad u k t (j + 1) i q h
    rw [show j + 1 + i = j + (i + 1) by omega] at this
    exact this
theorem fld_set {ad : Nat → Nat} {u u' : Sg} {k : Nat} {v : Value} : ∀ (t : List (Nat × Nat)) (j i : Nat), (∀ i' q, t[i']? = some q → i' ≠ i → fv ad u' k (j + i') q = fv ad u k (j + i') q) → (∀ q, t[i]? = some q → fv ad u' k (j + i) q = v) → fld ad u' k j t = (fld ad u k j t).set i v
  | [], _, _, _, _ => rfl
  | a :: t, j, 0, h1, h2 => by
    have e1 : fld ad u' k (j + 1) t = fld ad u k (j + 1) t := by
      have : ∀ (t : List (Nat × Nat)) (j : Nat), (∀ i' q, t[i']? = some q → fv ad u' k (j + i') q = fv ad u k (j + i') q) → fld ad u' k j t = fld ad u k j t := by
        intro t
        induction t with
        | nil => intro j _; rfl
        | cons b t ih =>
          intro j h
          have g := ih (j + 1) (fun i' q hq => by
            have := h (i' + 1) q (by rw [List.getElem?_cons_succ]; exact hq)
            rw [show j + (i' + 1) = j + 1 + i' by omega] at this
            exact this)
          have g0 := h 0 b rfl
          simp only [fld, g]
          rw [show j = j + 0 from rfl, g0]
      refine this t (j + 1) (fun i' q hq => ?_)
      have := h1 (i' + 1) q (by rw [List.getElem?_cons_succ]; exact hq) (by omega)
      rw [show j + (i' + 1) = j + 1 + i' by omega] at this
      exact this
    have e2 := h2 a rfl
    simp only [fld, e1, List.set_cons_zero]
    rw [show fv ad u' k j a = v from e2]
  | a :: t, j, i + 1, h1, h2 => by
    have g := fld_set (ad := ad) (u := u) (u' := u') (k := k) (v := v) t (j + 1) i (fun i' q hq hne => by
      have := h1 (i' + 1) q (by rw [List.getElem?_cons_succ]; exact hq) (by omega)
      rw [show j + (i' + 1) = j + 1 + i' by omega] at this
      exact this) (fun q hq => by
      have := h2 q (by rw [List.getElem?_cons_succ]; exact hq)
      rw [show j + (i + 1) = j + 1 + i by omega] at this
      exact this)
    have g0 : fv ad u' k j a = fv ad u k j a := h1 0 a rfl (by omega)
    simp only [fld, g, List.set_cons_succ, g0]
def wce (dA : Nat → ClassId) (ad : Nat → Nat) (u : Sg) (k : Nat) : va_E := if lyC k = 4 then .inl (dA 0, lyN k, .inl (gA u k)) else if lyC k = 5 then .inl (dA 1, lyN k, .inl (gA u k)) else .inr (lyC k, fld ad u k 0 (fks (lyC k)))
def wor (dA : Nat → ClassId) (ad : Nat → Nat) (u : Sg) : va_W := (List.range 63).map (fun k => (ad k, wce dA ad u k))
theorem wor_at (dA : Nat → ClassId) (ad : Nat → Nat) (u : Sg) {k : Nat} (h : k < 63) : (wor dA ad u)[k]? = some (ad k, wce dA ad u k) := by
  simp [wor, h]
theorem wor_of {dA : Nat → ClassId} {ad : Nat → Nat} {u : Sg} {k : Nat} {q : Nat × va_E} (h : (wor dA ad u)[k]? = some q) : k < 63 ∧ q = (ad k, wce dA ad u k) := by
  have hk : k < 63 := by
    have := (List.getElem?_eq_some_iff.mp h).1
    simpa [wor] using this
  rw [wor_at dA ad u hk] at h
  exact ⟨hk, (Option.some.inj h).symm⟩
theorem wor_set {dA : Nat → ClassId} {ad : Nat → Nat} {u u' : Sg} {k : Nat} {E : va_E} (hE : wce dA ad u' k = E) (h : ∀ j, j ≠ k → wce dA ad u' j = wce dA ad u j) : (wor dA ad u).set k (ad k, E) = wor dA ad u' := by
  apply List.ext_getElem?
  intro i
  by_cases hi : i < 63
  · rw [wor_at dA ad u' hi]
    by_cases hk : i = k
    · subst hk
      rw [List.getElem?_set_self (by simpa [wor] using hi), hE]
    · rw [List.getElem?_set_ne (Ne.symm hk), wor_at dA ad u hi, h i hk]
  · rw [List.getElem?_eq_none (by simp [wor]; omega), List.getElem?_eq_none (by simp [wor]; omega)]
theorem wor_D {dA : Nat → ClassId} {ad : Nat → Nat} {u u' : Sg} {A : Nat → Prop} (h : va_D A (wor dA ad u)) : va_D A (wor dA ad u') := by
  refine ⟨fun i j x y hi hj hxy => ?_, fun k q hk => ?_⟩
  · obtain ⟨h1, rfl⟩ := wor_of hi
    obtain ⟨h2, rfl⟩ := wor_of hj
    exact h.1 i j _ _ (wor_at dA ad u h1) (wor_at dA ad u h2) hxy
  · obtain ⟨h1, rfl⟩ := wor_of hk
    exact h.2 k (ad k, wce dA ad u k) (wor_at dA ad u h1)
theorem nth_ge : ∀ (l : List Nat) (k : Nat), l.length ≤ k → nth l k = 9
  | [], _, _ => rfl
  | _ :: t, 0, h => by simp at h
  | _ :: t, k + 1, h => nth_ge t k (by simpa using h)
theorem ly_lt {k : Nat} (h : lyC k < 9) : k < 63 := by
  rcases Nat.lt_or_ge k 63 with q | q
  · exact q
  · have : lyC k = 9 := nth_ge lyL k (by have : lyL.length = 63 := rfl; omega)
    omega
theorem lyN_small (k : Nat) : lyN k < 2 ^ 31 := by
  rcases Nat.lt_or_ge k 63 with q | q
  · have : ∀ k, k < 63 → lyN k < 2 ^ 31 := by decide +kernel
    exact this k q
  · have : lyN k = 9 := nth_ge lnL k (by have : lnL.length = 63 := rfl; omega)
    omega
/-- the locals that are told, as the kit lists them -/
def asl (ad : Nat → Nat) : Nat → List (Option Value) → List (Nat × Value)
  | _, [] => []
  | i, none :: t => asl ad (i + 1) t
  | i, some v :: t => (i, cvv ad v) :: asl ad (i + 1) t
theorem asl_of {ad : Nat → Nat} {q : Nat × Value} : ∀ (L : List (Option Value)) (i : Nat), q ∈ asl ad i L → ∃ j v, lk L j = some v ∧ q = (i + j, cvv ad v)
  | [], _, h => by simp [asl] at h
  | none :: t, i, h => by
    obtain ⟨j, v, h1, h2⟩ := asl_of t (i + 1) h
    exact ⟨j + 1, v, h1, by rw [h2, show i + 1 + j = i + (j + 1) by omega]⟩
  | some w :: t, i, h => by
    rcases List.mem_cons.mp h with h | h
    · exact ⟨0, w, rfl, h⟩
    · obtain ⟨j, v, h1, h2⟩ := asl_of t (i + 1) h
      exact ⟨j + 1, v, h1, by rw [h2, show i + 1 + j = i + (j + 1) by omega]⟩
theorem asl_in {ad : Nat → Nat} : ∀ (L : List (Option Value)) (i j : Nat) (v : Value), lk L j = some v → (i + j, cvv ad v) ∈ asl ad i L
  | [], _, _, _, h => by simp [lk] at h
  | none :: t, i, 0, v, h => by simp [lk] at h
  | none :: t, i, j + 1, v, h => by
    have := asl_in (ad := ad) t (i + 1) j v h
    rw [show i + 1 + j = i + (j + 1) by omega] at this
    exact this
  | some w :: t, i, 0, v, h => by
    simp only [lk, Option.some.injEq] at h
    subst h
    exact List.mem_cons_self
  | some w :: t, i, j + 1, v, h => by
    have := asl_in (ad := ad) t (i + 1) j v h
    rw [show i + 1 + j = i + (j + 1) by omega] at this
    exact List.mem_cons_of_mem _ this
theorem lv_lk {ad : Nat → Nat} {ls : Array Slot} {mx i : Nat} {L : List (Option Value)} {v : Value} (h : lv_has ls mx (asl ad 0 L)) (hv : lk L i = some v) : ls[i]? = some (.val (cvv ad v)) := by
  have := h.2.2 _ (asl_in (ad := ad) L 0 i v hv)
  simpa using this
theorem lv_mono {ls : Array Slot} {n : Nat} {l l' : List (Nat × Value)} (h : lv_has ls n l) (hs : ∀ q ∈ l', q ∈ l) : lv_has ls n l' := ⟨h.1, h.2.1, fun q hq => h.2.2 q (hs q hq)⟩
theorem isL_of {v : Value} (h : isL (some v) = false) : ¬ v.category = 2 := by
  cases v <;> simp [isL, Value.category] at h ⊢
/-- what stands behind a store -/
theorem sto1_lk : ∀ (L : List (Option Value)) (i : Nat) (v : Value) (j : Nat) (w : Value), lk (sto1 L i v) j = some w → (j = i ∧ w = v) ∨ (j ≠ i ∧ lk L j = some w ∧ (j + 1 = i → isL (some w) = false))
  | [], _, _, _, _, h => by simp [sto1, lk] at h
  | _ :: t, 0, v, 0, w, h => by
    simp only [sto1, lk, Option.some.injEq] at h
    exact Or.inl ⟨rfl, h.symm⟩
  | _ :: t, 0, v, j + 1, w, h => Or.inr ⟨by omega, h, by omega⟩
  | a :: t, 1, v, 0, w, h => by
    refine Or.inr ⟨by omega, ?_⟩
    simp only [sto1, lk] at h
    cases ha : isL a with
    | true => rw [ha] at h; cases h
    | false =>
      rw [ha] at h
      have h : a = some w := h
      subst h
      exact ⟨rfl, fun _ => ha⟩
  | a :: t, 1, v, j + 1, w, h => by
    simp only [sto1, lk] at h
    rcases sto1_lk t 0 v j w h with ⟨h1, h2⟩ | ⟨h1, h2, h3⟩
    · exact Or.inl ⟨by omega, h2⟩
    · exact Or.inr ⟨by omega, h2, by omega⟩
  | a :: t, n + 2, v, 0, w, h => Or.inr ⟨by omega, h, by omega⟩
  | a :: t, n + 2, v, j + 1, w, h => by
    simp only [sto1, lk] at h
    rcases sto1_lk t (n + 1) v j w h with ⟨h1, h2⟩ | ⟨h1, h2, h3⟩
    · exact Or.inl ⟨by omega, h2⟩
    · exact Or.inr ⟨by omega, h2, fun e => h3 (by omega)⟩
theorem sto2_lk : ∀ (L : List (Option Value)) (i : Nat) (v : Value) (j : Nat) (w : Value), lk (sto2 L i v) j = some w → (j = i ∧ w = v) ∨ (j ≠ i ∧ j ≠ i + 1 ∧ lk L j = some w ∧ (j + 1 = i → isL (some w) = false))
  | [], _, _, _, _, h => by simp [sto2, lk] at h
  | _ :: [], 0, v, 0, w, h => by simp [sto2, lk] at h
  | _ :: [], 0, v, j + 1, w, h => by simp [sto2, lk] at h
  | _ :: _ :: t, 0, v, 0, w, h => by
    simp only [sto2, lk, Option.some.injEq] at h
    exact Or.inl ⟨rfl, h.symm⟩
  | _ :: _ :: t, 0, v, 1, w, h => by simp [sto2, lk] at h
  | _ :: _ :: t, 0, v, j + 2, w, h => Or.inr ⟨by omega, by omega, h, by omega⟩
  | a :: t, 1, v, 0, w, h => by
    refine Or.inr ⟨by omega, by omega, ?_⟩
    simp only [sto2, lk] at h
    cases ha : isL a with
    | true => rw [ha] at h; cases h
    | false =>
      rw [ha] at h
      have h : a = some w := h
      subst h
      exact ⟨rfl, fun _ => ha⟩
  | a :: t, 1, v, j + 1, w, h => by
    simp only [sto2, lk] at h
    rcases sto2_lk t 0 v j w h with ⟨h1, h2⟩ | ⟨h1, h2, h3, h4⟩
    · exact Or.inl ⟨by omega, h2⟩
    · exact Or.inr ⟨by omega, by omega, h3, by omega⟩
  | a :: t, n + 2, v, 0, w, h => by
    rw [sto2] at h
    exact Or.inr ⟨by omega, by omega, h, by omega⟩
  | a :: t, n + 2, v, j + 1, w, h => by
    simp only [sto2, lk] at h
    rcases sto2_lk t (n + 1) v j w h with ⟨h1, h2⟩ | ⟨h1, h2, h3, h4⟩
    · exact Or.inl ⟨by omega, h2⟩
    · exact Or.inr ⟨by omega, by omega, h3, fun e => h4 (by omega)⟩

theorem sto1_has {ad : Nat → Nat} {ls : Array Slot} {mx i : Nat} {L : List (Option Value)} {v : Value} (h : lv_has ls mx ((i, cvv ad v) :: (asl ad 0 L).filter (fun q => !(q.1 == i) && !(q.1 + 1 == i && q.2.category == 2)))) : lv_has ls mx (asl ad 0 (sto1 L i v)) := by
  refine lv_mono h (fun q hq => ?_)
  obtain ⟨j, w, h1, rfl⟩ := asl_of _ _ hq
  rw [Nat.zero_add]
  rcases sto1_lk L i v j w h1 with ⟨rfl, rfl⟩ | ⟨h2, h3, h4⟩
  · exact List.mem_cons_self
  · refine List.mem_cons_of_mem _ (List.mem_filter.mpr ⟨by have := asl_in (ad := ad) L 0 j w h3; rwa [Nat.zero_add] at this, ?_⟩)
    simp only [cvv_cat, Bool.and_eq_true, Bool.not_eq_true', beq_eq_false_iff_ne, ne_eq, Bool.and_eq_false_iff]
    refine ⟨h2, ?_⟩
    by_cases hj : j + 1 = i
    · exact Or.inr (isL_of (h4 hj))
    · exact Or.inl hj
theorem sto2_has {ad : Nat → Nat} {ls : Array Slot} {mx i : Nat} {L : List (Option Value)} {v : Value} (h : lv_has ls mx ((i, cvv ad v) :: (asl ad 0 L).filter (fun q => !(q.1 == i) && (!(q.1 == i + 1) && !(q.1 + 1 == i && q.2.category == 2))))) : lv_has ls mx (asl ad 0 (sto2 L i v)) := by
  refine lv_mono h (fun q hq => ?_)
  obtain ⟨j, w, h1, rfl⟩ := asl_of _ _ hq
  rw [Nat.zero_add]
  rcases sto2_lk L i v j w h1 with ⟨rfl, rfl⟩ | ⟨h2, h2', h3, h4⟩
  · exact List.mem_cons_self
  · refine List.mem_cons_of_mem _ (List.mem_filter.mpr ⟨by have := asl_in (ad := ad) L 0 j w h3; rwa [Nat.zero_add] at this, ?_⟩)
    simp only [cvv_cat, Bool.and_eq_true, Bool.not_eq_true', beq_eq_false_iff_ne, ne_eq, Bool.and_eq_false_iff]
    refine ⟨h2, h2', ?_⟩
    by_cases hj : j + 1 = i
    · exact Or.inr (isL_of (h4 hj))
    · exact Or.inl hj
/-- which cells a method may change: the world's, and new ones -/
def AA (ad : Nat → Nat) (sz : Nat) : Nat → Prop := fun q => (∃ k, k < 63 ∧ q = ad k) ∨ sz ≤ q
/-- the texts' lengths and bytes -/
abbrev txN : List Nat := [7, 3, 5, 4]
abbrev txB : List (List Int32) := [[99, 111, 117, 110, 116, 101, 114], [111, 110, 101], [108, 101, 97, 118, 101], [108, 101, 110, 100]]
abbrev txI : List Nat := [47, 56, 61, 66]
abbrev txS : List String := ["counter", "one", "leave", "lend"]
/-- the texts of the class at a state -/
def Tx (ad aV : Nat → Nat) (A : Nat → Prop) (U : State) (H : Heap) : Prop := vk_S 4 txN txB (fun i => ad (100 + i)) aV A U H ∧ (∀ i, i < 4 → vk_R RX2 (txI.getD i 0) (txS.getD i "") (ad (100 + i)) U) ∧ va_Z "java/lang/String" "COMPACT_STRINGS" "Z" (.int 1) A U H ∧ va_Zq "jdk/internal/util/Preconditions" "SIOOBE_FORMATTER" "Ljava/util/function/BiFunction;" A U H
theorem Tx.same {ad aV : Nat → Nat} {A : Nat → Prop} {u U : State} {H : Heap} (hv : U.vm = u.vm) (h : Tx ad aV A u H) : Tx ad aV A U H := ⟨h.1.moved (by rw [hv]; exact Vm.Alike.refl u.vm), fun i hi => (h.2.1 i hi).same hv, h.2.2.1.moved (by rw [hv]; exact Vm.Alike.refl u.vm), h.2.2.2.moved (by rw [hv]; exact Vm.Alike.refl u.vm)⟩
theorem Tx.moved {ad aV : Nat → Nat} {A : Nat → Prop} {u U : State} {H : Heap} (hW : u.WarmedH U.vm) (h : Tx ad aV A u H) : Tx ad aV A U H := ⟨h.1.moved hW.alike, fun i hi => (h.2.1 i hi).warm hW, h.2.2.1.moved hW.alike, h.2.2.2.moved hW.alike⟩
theorem Tx.kept {ad aV : Nat → Nat} {A : Nat → Prop} {U : State} {H H1 : Heap} (h : Tx ad aV A U H) (hq : ∀ a : Nat, a < H.size → ¬ A a → H1[a]? = H[a]?) : Tx ad aV A U H1 := ⟨h.1.kept hq, h.2.1, h.2.2.1.kept hq, h.2.2.2.kept hq⟩
theorem Tx.narrow {ad aV : Nat → Nat} {A B : Nat → Prop} {U : State} {H : Heap} (h : Tx ad aV A U H) (hAB : ∀ q, B q → A q) : Tx ad aV B U H := ⟨h.1.narrow hAB, h.2.1, h.2.2.1.narrow hAB, h.2.2.2.narrow hAB⟩
/-- where a method stands: the machine, its code, the tables' words, what classes are, its room, the texts -/
def Cx (dC : Nat → ClassId) (dI : Nat → Nat → Nat) (dA : Nat → ClassId) (ad aV : Nat → Nat) (A : Nat → Prop) (p : Program) (R : Room) (s : State) (m : MethodId) (args : Array Value) (c : Code) (own : String) (cc : ByteArray) (mx fr lc : Nat) : Prop :=
  p.tables.exec = Jvm.exec ∧ c.code = cc ∧ c.maxLocals = mx ∧ s.vm.findClass own = some m.cls ∧ (∀ w ∈ gtb, w.before args s = true) ∧ va_K (dC, dI) vwCl (tyA dA) s ∧ fr ≤ R.frames ∧ lc ≤ R.locals ∧ Tx ad aV A s s.heap ∧ ∀ q, s.heap.size ≤ q → A q
def Hd (dC : Nat → ClassId) (dI : Nat → Nat → Nat) (dA : Nat → ClassId) (ad : Nat → Nat) (A : Nat → Prop) (H0 : Heap) (mx : Nat) (L : List (Option Value)) (u : Sg) (H : Heap) (locs : List Loc) (ls : Array Slot) : Prop :=
  va_P (dC, dI) vwCl (wor dA ad u) H ∧ va_D A (wor dA ad u) ∧ va_S A H0 H locs ∧ lv_has ls mx (asl ad 0 L)
/-- an instruction of the small machine at a place is what the machine does there -/
def SndI (own : String) (cc : ByteArray) (mx fr lc pc : Nat) (f : St → Option St) : Prop :=
  ∀ (dC : Nat → ClassId) (dI : Nat → Nat → Nat) (dA : Nat → ClassId) (ad aV : Nat → Nat) (A : Nat → Prop) (p : Program) (l : Launch) (e : Env) (R : Room) (s : State) (m : MethodId) (args : Array Value) (below : List Frame) (meth : Method) (c : Code) (H : Heap) (locs : List Loc) (ls : Array Slot) (L : List (Option Value)) (S : List Value) (u : Sg) (st : St) (Q : State → Prop),
    Cx dC dI dA ad aV A p R s m args c own cc mx fr lc → Hd dC dI dA ad A s.heap mx L u H locs ls → f (pc, L, S, u) = some st →
    (∀ (H1 : Heap) (locs1 : List Loc) (ls1 : Array Slot), Hd dC dI dA ad A s.heap mx st.2.1 st.2.2.2 H1 locs1 ls1 → W p l e R s m args below meth c H1 locs1 0 0 Q (F0 m st.1 ls1 (st.2.2.1.map (cvv ad)))) →
    W p l e R s m args below meth c H locs 0 0 Q (F0 m pc ls (S.map (cvv ad)))
section SND
variable {own : String} {cc : ByteArray} {mx fr lc pc nx : Nat}

theorem snd_iconst {n : Int} {v : Int32} (hd : decode cc pc = .ok (.iconst n, 1)) (hv : Int32.ofInt n = v) : SndI own cc mx fr lc pc (o_iconst v (pc + 1)) := by
  intro dC dI dA ad aV A p l e R s m args below meth c H locs ls L S u st Q C0 h0 hf k
  cases hf
  exact lv_iconst C0.1 C0.2.1 hd hv (k H locs ls h0)
theorem snd_bipush {n : Int} {v : Int32} (hd : decode cc pc = .ok (.bipush n, 2)) (hv : (Int8.ofInt n).toInt32 = v) : SndI own cc mx fr lc pc (o_iconst v (pc + 2)) := by
  intro dC dI dA ad aV A p l e R s m args below meth c H locs ls L S u st Q C0 h0 hf k
  cases hf
  exact lv_bipush C0.1 C0.2.1 hd hv (k H locs ls h0)
theorem snd_sipush {n : Int} {v : Int32} (hd : decode cc pc = .ok (.sipush n, 3)) (hv : (Int16.ofInt n).toInt32 = v) : SndI own cc mx fr lc pc (o_iconst v (pc + 3)) := by
  intro dC dI dA ad aV A p l e R s m args below meth c H locs ls L S u st Q C0 h0 hf k
  cases hf
  exact lv_sipush C0.1 C0.2.1 hd hv (k H locs ls h0)
theorem snd_ldc {i : Nat} {v : Int32} (hw : Cond.constant own i v ∈ gtb) (hd : decode cc pc = .ok (.ldc i, 2)) : SndI own cc mx fr lc pc (o_iconst v (pc + 2)) := by
  intro dC dI dA ad aV A p l e R s m args below meth c H locs ls L S u st Q C0 h0 hf k
  cases hf
  exact lv_ldc C0.1 C0.2.1 C0.2.2.2.1 (C0.2.2.2.2.1 _ hw) hd (k H locs ls h0)
theorem snd_ldcw {i : Nat} {v : Int32} (hw : Cond.constant own i v ∈ gtb) (hd : decode cc pc = .ok (.ldc_w i, 3)) : SndI own cc mx fr lc pc (o_iconst v (pc + 3)) := by
  intro dC dI dA ad aV A p l e R s m args below meth c H locs ls L S u st Q C0 h0 hf k
  cases hf
  exact lv_ldcw C0.1 C0.2.1 C0.2.2.2.1 (C0.2.2.2.2.1 _ hw) hd (k H locs ls h0)
theorem snd_ldc2 {i : Nat} {v : Int64} (hw : Cond.constantLong own i v ∈ gtb) (hd : decode cc pc = .ok (.ldc2_w i, 3)) : SndI own cc mx fr lc pc (o_lconst v (pc + 3)) := by
  intro dC dI dA ad aV A p l e R s m args below meth c H locs ls L S u st Q C0 h0 hf k
  cases hf
  exact lv_ldc2 C0.1 C0.2.1 C0.2.2.2.1 (C0.2.2.2.2.1 _ hw) hd (k H locs ls h0)
theorem snd_lconst {n : Fin 2} {v : Int64} (hd : decode cc pc = .ok (.lconst n, 1)) (hv : Int64.ofNat n = v) : SndI own cc mx fr lc pc (o_lconst v (pc + 1)) := by
  intro dC dI dA ad aV A p l e R s m args below meth c H locs ls L S u st Q C0 h0 hf k
  cases hf
  exact lv_lconst C0.1 C0.2.1 hd hv (k H locs ls h0)
theorem snd_str {i j : Nat} (ho : own = RX2) (hj : j < 4) (hi : txI.getD j 0 = i) (hd : decode cc pc = .ok (.ldc i, 2)) : SndI own cc mx fr lc pc (o_str j (pc + 2)) := by
  intro dC dI dA ad aV A p l e R s m args below meth c H locs ls L S u st Q C0 h0 hf k
  cases hf
  subst ho; subst hi
  exact va_ldcS C0.1 C0.2.1 C0.2.2.2.1 (C0.2.2.2.2.2.2.2.2.1.2.1 j hj) hd (k H locs ls h0)
theorem snd_iload_n {k : Fin 4} {i : Nat} (hi : (k : Nat) = i) (hd : decode cc pc = .ok (.iload_n k, 1)) : SndI own cc mx fr lc pc (o_iload i (pc + 1)) := by
  intro dC dI dA ad aV A p l e R s m args below meth c H locs ls L S u st Q C0 h0 hf k
  have hf : (match lk L i with | some (.int x) => some (pc + 1, L, .int x :: S, u) | _ => none) = some st := hf
  split at hf
  · rename_i x hx
    cases hf
    exact lv_iload_n C0.1 C0.2.1 hd hi (lv_lk h0.2.2.2 hx) (k H locs ls h0)
  · cases hf
theorem snd_iload {i : Nat} (hd : decode cc pc = .ok (.iload i, 2)) : SndI own cc mx fr lc pc (o_iload i (pc + 2)) := by
  intro dC dI dA ad aV A p l e R s m args below meth c H locs ls L S u st Q C0 h0 hf k
  have hf : (match lk L i with | some (.int x) => some (pc + 2, L, .int x :: S, u) | _ => none) = some st := hf
  split at hf
  · rename_i x hx
    cases hf
    exact lv_iload C0.1 C0.2.1 hd (lv_lk h0.2.2.2 hx) (k H locs ls h0)
  · cases hf
theorem snd_lload_n {k : Fin 4} {i : Nat} (hi : (k : Nat) = i) (hd : decode cc pc = .ok (.lload_n k, 1)) : SndI own cc mx fr lc pc (o_lload i (pc + 1)) := by
  intro dC dI dA ad aV A p l e R s m args below meth c H locs ls L S u st Q C0 h0 hf k
  have hf : (match lk L i with | some (.long x) => some (pc + 1, L, .long x :: S, u) | _ => none) = some st := hf
  split at hf
  · rename_i x hx
    cases hf
    exact lv_lload_n C0.1 C0.2.1 hd hi (lv_lk h0.2.2.2 hx) (k H locs ls h0)
  · cases hf
theorem snd_lload {i : Nat} (hd : decode cc pc = .ok (.lload i, 2)) : SndI own cc mx fr lc pc (o_lload i (pc + 2)) := by
  intro dC dI dA ad aV A p l e R s m args below meth c H locs ls L S u st Q C0 h0 hf k
  have hf : (match lk L i with | some (.long x) => some (pc + 2, L, .long x :: S, u) | _ => none) = some st := hf
  split at hf
  · rename_i x hx
    cases hf
    exact lv_lload C0.1 C0.2.1 hd (lv_lk h0.2.2.2 hx) (k H locs ls h0)
  · cases hf
theorem snd_aload_n {k : Fin 4} {i : Nat} (hi : (k : Nat) = i) (hd : decode cc pc = .ok (.aload_n k, 1)) : SndI own cc mx fr lc pc (o_aload i (pc + 1)) := by
  intro dC dI dA ad aV A p l e R s m args below meth c H locs ls L S u st Q C0 h0 hf k
  have hf : (match lk L i with | some (.ref x) => some (pc + 1, L, .ref x :: S, u) | _ => none) = some st := hf
  split at hf
  · rename_i x hx
    cases hf
    exact lv_aload_n C0.1 C0.2.1 hd hi (lv_lk h0.2.2.2 hx) (k H locs ls h0)
  · cases hf
theorem snd_aload {i : Nat} (hd : decode cc pc = .ok (.aload i, 2)) : SndI own cc mx fr lc pc (o_aload i (pc + 2)) := by
  intro dC dI dA ad aV A p l e R s m args below meth c H locs ls L S u st Q C0 h0 hf k
  have hf : (match lk L i with | some (.ref x) => some (pc + 2, L, .ref x :: S, u) | _ => none) = some st := hf
  split at hf
  · rename_i x hx
    cases hf
    exact lv_aload C0.1 C0.2.1 hd (lv_lk h0.2.2.2 hx) (k H locs ls h0)
  · cases hf
theorem snd_istore_n {k : Fin 4} {i : Nat} (hi : (k : Nat) = i) (hm : i < mx) (hd : decode cc pc = .ok (.istore_n k, 1)) : SndI own cc mx fr lc pc (o_istore i (pc + 1)) := by
  intro dC dI dA ad aV A p l e R s m args below meth c H locs ls L S u st Q C0 h0 hf k
  unfold o_istore at hf
  dsimp only at hf
  split at hf
  · rename_i x r
    cases hf
    exact lv_istore_n C0.1 C0.2.1 hd hi h0.2.2.2 hm rfl (fun ls1 h1 => k H locs ls1 ⟨h0.1, h0.2.1, h0.2.2.1, sto1_has (v := .int x) h1⟩)
  · cases hf
theorem snd_istore {i : Nat} (hm : i < mx) (hd : decode cc pc = .ok (.istore i, 2)) : SndI own cc mx fr lc pc (o_istore i (pc + 2)) := by
  intro dC dI dA ad aV A p l e R s m args below meth c H locs ls L S u st Q C0 h0 hf k
  unfold o_istore at hf
  dsimp only at hf
  split at hf
  · rename_i x r
    cases hf
    exact lv_istore C0.1 C0.2.1 hd h0.2.2.2 hm rfl (fun ls1 h1 => k H locs ls1 ⟨h0.1, h0.2.1, h0.2.2.1, sto1_has (v := .int x) h1⟩)
  · cases hf
theorem snd_lstore_n {k : Fin 4} {i : Nat} (hi : (k : Nat) = i) (hm : i + 1 < mx) (hd : decode cc pc = .ok (.lstore_n k, 1)) : SndI own cc mx fr lc pc (o_lstore i (pc + 1)) := by
  intro dC dI dA ad aV A p l e R s m args below meth c H locs ls L S u st Q C0 h0 hf k
  unfold o_lstore at hf
  dsimp only at hf
  split at hf
  · rename_i x r
    cases hf
    exact lv_lstore_n C0.1 C0.2.1 hd hi h0.2.2.2 hm rfl (fun ls1 h1 => k H locs ls1 ⟨h0.1, h0.2.1, h0.2.2.1, sto2_has (v := .long x) h1⟩)
  · cases hf
theorem snd_lstore {i : Nat} (hm : i + 1 < mx) (hd : decode cc pc = .ok (.lstore i, 2)) : SndI own cc mx fr lc pc (o_lstore i (pc + 2)) := by
  intro dC dI dA ad aV A p l e R s m args below meth c H locs ls L S u st Q C0 h0 hf k
  unfold o_lstore at hf
  dsimp only at hf
  split at hf
  · rename_i x r
    cases hf
    exact lv_lstore C0.1 C0.2.1 hd h0.2.2.2 hm rfl (fun ls1 h1 => k H locs ls1 ⟨h0.1, h0.2.1, h0.2.2.1, sto2_has (v := .long x) h1⟩)
  · cases hf
theorem snd_iinc {i : Nat} {n : Int} {v : Int32} (hm : i < mx) (hv : Int32.ofInt n = v) (hd : decode cc pc = .ok (.iinc i n, 3)) : SndI own cc mx fr lc pc (o_iinc i v (pc + 3)) := by
  intro dC dI dA ad aV A p l e R s m args below meth c H locs ls L S u st Q C0 h0 hf k
  have hf : (match lk L i with | some (.int x) => some (pc + 3, sto1 L i (.int (x + v)), S, u) | _ => none) = some st := hf
  split at hf
  · rename_i x hx
    cases hf
    have hin := asl_in (ad := ad) L 0 i _ hx
    rw [Nat.zero_add] at hin
    obtain ⟨q, hq⟩ := List.getElem?_of_mem hin
    exact lv_iinc C0.1 C0.2.1 hd h0.2.2.2 hq (by rw [hv]) hm rfl (fun ls1 h1 => k H locs ls1 ⟨h0.1, h0.2.1, h0.2.2.1, sto1_has (v := .int (x + v)) h1⟩)
  · cases hf
theorem lv_iushr2 {p : Program} {l : Launch} {e : Env} {R : Room} {s : State} {m : MethodId} {args : Array Value} {below : List Frame} {meth : Method} {c : Code} {H : Heap} {locs : List Loc} {cells slots : Nat} {Q : State → Prop} {ls : Array Slot} {rest : List Value} {x y : Int32} (hexec : p.tables.exec = Jvm.exec) (hb : c.code = cc) (hdg : decode cc pc = .ok (.iushr, 1)) (k : W p l e R s m args below meth c H locs cells slots Q (F0 m (pc + 1) ls (.int (x.toUInt32 >>> (y.toUInt32 &&& Int32.toUInt32 31)).toInt32 :: rest))) : W p l e R s m args below meth c H locs cells slots Q (F0 m pc ls (.int y :: .int x :: rest)) := lv_iushr hexec hb hdg rfl k
theorem snd_iadd (hd : decode cc pc = .ok (.iadd, 1)) : SndI own cc mx fr lc pc (o_iadd (pc + 1)) := by
  intro dC dI dA ad aV A p l e R s m args below meth c H locs ls L S u st Q C0 h0 hf k
  unfold o_iadd at hf
  dsimp only at hf
  split at hf
  · rename_i y x r
    cases hf
    exact lv_iadd C0.1 C0.2.1 hd (k H locs ls h0)
  · cases hf
theorem snd_isub (hd : decode cc pc = .ok (.isub, 1)) : SndI own cc mx fr lc pc (o_isub (pc + 1)) := by
  intro dC dI dA ad aV A p l e R s m args below meth c H locs ls L S u st Q C0 h0 hf k
  unfold o_isub at hf
  dsimp only at hf
  split at hf
  · rename_i y x r
    cases hf
    exact lv_isub C0.1 C0.2.1 hd (k H locs ls h0)
  · cases hf
theorem snd_imul (hd : decode cc pc = .ok (.imul, 1)) : SndI own cc mx fr lc pc (o_imul (pc + 1)) := by
  intro dC dI dA ad aV A p l e R s m args below meth c H locs ls L S u st Q C0 h0 hf k
  unfold o_imul at hf
  dsimp only at hf
  split at hf
  · rename_i y x r
    cases hf
    exact lv_imul C0.1 C0.2.1 hd (k H locs ls h0)
  · cases hf
theorem snd_iand (hd : decode cc pc = .ok (.iand, 1)) : SndI own cc mx fr lc pc (o_iand (pc + 1)) := by
  intro dC dI dA ad aV A p l e R s m args below meth c H locs ls L S u st Q C0 h0 hf k
  unfold o_iand at hf
  dsimp only at hf
  split at hf
  · rename_i y x r
    cases hf
    exact lv_iand C0.1 C0.2.1 hd (k H locs ls h0)
  · cases hf
theorem snd_ior (hd : decode cc pc = .ok (.ior, 1)) : SndI own cc mx fr lc pc (o_ior (pc + 1)) := by
  intro dC dI dA ad aV A p l e R s m args below meth c H locs ls L S u st Q C0 h0 hf k
  unfold o_ior at hf
  dsimp only at hf
  split at hf
  · rename_i y x r
    cases hf
    exact lv_ior C0.1 C0.2.1 hd (k H locs ls h0)
  · cases hf
theorem snd_ixor (hd : decode cc pc = .ok (.ixor, 1)) : SndI own cc mx fr lc pc (o_ixor (pc + 1)) := by
  intro dC dI dA ad aV A p l e R s m args below meth c H locs ls L S u st Q C0 h0 hf k
  unfold o_ixor at hf
  dsimp only at hf
  split at hf
  · rename_i y x r
    cases hf
    exact lv_ixor C0.1 C0.2.1 hd (k H locs ls h0)
  · cases hf
theorem snd_ishl (hd : decode cc pc = .ok (.ishl, 1)) : SndI own cc mx fr lc pc (o_ishl (pc + 1)) := by
  intro dC dI dA ad aV A p l e R s m args below meth c H locs ls L S u st Q C0 h0 hf k
  unfold o_ishl at hf
  dsimp only at hf
  split at hf
  · rename_i y x r
    cases hf
    exact lv_ishl C0.1 C0.2.1 hd (k H locs ls h0)
  · cases hf
theorem snd_ishr (hd : decode cc pc = .ok (.ishr, 1)) : SndI own cc mx fr lc pc (o_ishr (pc + 1)) := by
  intro dC dI dA ad aV A p l e R s m args below meth c H locs ls L S u st Q C0 h0 hf k
  unfold o_ishr at hf
  dsimp only at hf
  split at hf
  · rename_i y x r
    cases hf
    exact lv_ishr C0.1 C0.2.1 hd (k H locs ls h0)
  · cases hf
theorem snd_iushr (hd : decode cc pc = .ok (.iushr, 1)) : SndI own cc mx fr lc pc (o_iushr (pc + 1)) := by
  intro dC dI dA ad aV A p l e R s m args below meth c H locs ls L S u st Q C0 h0 hf k
  unfold o_iushr at hf
  dsimp only at hf
  split at hf
  · rename_i y x r
    cases hf
    exact lv_iushr2 C0.1 C0.2.1 hd (k H locs ls h0)
  · cases hf
theorem snd_ladd (hd : decode cc pc = .ok (.ladd, 1)) : SndI own cc mx fr lc pc (o_ladd (pc + 1)) := by
  intro dC dI dA ad aV A p l e R s m args below meth c H locs ls L S u st Q C0 h0 hf k
  unfold o_ladd at hf
  dsimp only at hf
  split at hf
  · rename_i y x r
    cases hf
    exact lv_ladd C0.1 C0.2.1 hd (k H locs ls h0)
  · cases hf
theorem snd_lsub (hd : decode cc pc = .ok (.lsub, 1)) : SndI own cc mx fr lc pc (o_lsub (pc + 1)) := by
  intro dC dI dA ad aV A p l e R s m args below meth c H locs ls L S u st Q C0 h0 hf k
  unfold o_lsub at hf
  dsimp only at hf
  split at hf
  · rename_i y x r
    cases hf
    exact lv_lsub C0.1 C0.2.1 hd (k H locs ls h0)
  · cases hf
theorem snd_lmul (hd : decode cc pc = .ok (.lmul, 1)) : SndI own cc mx fr lc pc (o_lmul (pc + 1)) := by
  intro dC dI dA ad aV A p l e R s m args below meth c H locs ls L S u st Q C0 h0 hf k
  unfold o_lmul at hf
  dsimp only at hf
  split at hf
  · rename_i y x r
    cases hf
    exact lv_lmul C0.1 C0.2.1 hd (k H locs ls h0)
  · cases hf
theorem snd_lcmp (hd : decode cc pc = .ok (.lcmp, 1)) : SndI own cc mx fr lc pc (o_lcmp (pc + 1)) := by
  intro dC dI dA ad aV A p l e R s m args below meth c H locs ls L S u st Q C0 h0 hf k
  unfold o_lcmp at hf
  dsimp only at hf
  split at hf
  · rename_i y x r
    cases hf
    exact W.lcmp C0.1 C0.2.1 hd (k H locs ls h0)
  · cases hf
theorem snd_idiv (hd : decode cc pc = .ok (.idiv, 1)) : SndI own cc mx fr lc pc (o_idiv (pc + 1)) := by
  intro dC dI dA ad aV A p l e R s m args below meth c H locs ls L S u st Q C0 h0 hf k
  unfold o_idiv at hf
  dsimp only at hf
  split at hf
  · rename_i y x r
    by_cases hy : y = 0
    · rw [if_pos hy] at hf; cases hf
    rw [if_neg hy] at hf
    cases hf
    exact lv_idiv C0.1 C0.2.1 hd hy (k H locs ls h0)
  · cases hf
theorem snd_irem (hd : decode cc pc = .ok (.irem, 1)) : SndI own cc mx fr lc pc (o_irem (pc + 1)) := by
  intro dC dI dA ad aV A p l e R s m args below meth c H locs ls L S u st Q C0 h0 hf k
  unfold o_irem at hf
  dsimp only at hf
  split at hf
  · rename_i y x r
    by_cases hy : y = 0
    · rw [if_pos hy] at hf; cases hf
    rw [if_neg hy] at hf
    cases hf
    exact lv_irem C0.1 C0.2.1 hd hy (k H locs ls h0)
  · cases hf
theorem snd_ldiv (hd : decode cc pc = .ok (.ldiv, 1)) : SndI own cc mx fr lc pc (o_ldiv (pc + 1)) := by
  intro dC dI dA ad aV A p l e R s m args below meth c H locs ls L S u st Q C0 h0 hf k
  unfold o_ldiv at hf
  dsimp only at hf
  split at hf
  · rename_i y x r
    by_cases hy : y = 0
    · rw [if_pos hy] at hf; cases hf
    rw [if_neg hy] at hf
    cases hf
    exact lv_ldiv C0.1 C0.2.1 hd hy (k H locs ls h0)
  · cases hf
theorem snd_lrem (hd : decode cc pc = .ok (.lrem, 1)) : SndI own cc mx fr lc pc (o_lrem (pc + 1)) := by
  intro dC dI dA ad aV A p l e R s m args below meth c H locs ls L S u st Q C0 h0 hf k
  unfold o_lrem at hf
  dsimp only at hf
  split at hf
  · rename_i y x r
    by_cases hy : y = 0
    · rw [if_pos hy] at hf; cases hf
    rw [if_neg hy] at hf
    cases hf
    exact lv_lrem C0.1 C0.2.1 hd hy (k H locs ls h0)
  · cases hf
theorem snd_ineg (hd : decode cc pc = .ok (.ineg, 1)) : SndI own cc mx fr lc pc (o_ineg (pc + 1)) := by
  intro dC dI dA ad aV A p l e R s m args below meth c H locs ls L S u st Q C0 h0 hf k
  unfold o_ineg at hf
  dsimp only at hf
  split at hf
  · rename_i x r
    cases hf
    exact lv_ineg C0.1 C0.2.1 hd (k H locs ls h0)
  · cases hf
theorem snd_i2l (hd : decode cc pc = .ok (.i2l, 1)) : SndI own cc mx fr lc pc (o_i2l (pc + 1)) := by
  intro dC dI dA ad aV A p l e R s m args below meth c H locs ls L S u st Q C0 h0 hf k
  unfold o_i2l at hf
  dsimp only at hf
  split at hf
  · rename_i x r
    cases hf
    exact lv_i2l C0.1 C0.2.1 hd rfl (k H locs ls h0)
  · cases hf
theorem snd_l2i (hd : decode cc pc = .ok (.l2i, 1)) : SndI own cc mx fr lc pc (o_l2i (pc + 1)) := by
  intro dC dI dA ad aV A p l e R s m args below meth c H locs ls L S u st Q C0 h0 hf k
  unfold o_l2i at hf
  dsimp only at hf
  split at hf
  · rename_i x r
    cases hf
    exact lv_l2i C0.1 C0.2.1 hd rfl (k H locs ls h0)
  · cases hf
theorem snd_i2b (hd : decode cc pc = .ok (.i2b, 1)) : SndI own cc mx fr lc pc (o_i2b (pc + 1)) := by
  intro dC dI dA ad aV A p l e R s m args below meth c H locs ls L S u st Q C0 h0 hf k
  unfold o_i2b at hf
  dsimp only at hf
  split at hf
  · rename_i x r
    cases hf
    exact lv_i2b C0.1 C0.2.1 hd rfl (k H locs ls h0)
  · cases hf
theorem snd_dup (hd : decode cc pc = .ok (.dup, 1)) : SndI own cc mx fr lc pc (o_dup (pc + 1)) := by
  intro dC dI dA ad aV A p l e R s m args below meth c H locs ls L S u st Q C0 h0 hf k
  unfold o_dup at hf
  dsimp only at hf
  split at hf
  · cases hf
    exact lv_dup C0.1 C0.2.1 hd rfl (k H locs ls h0)
  · cases hf
    exact lv_dup C0.1 C0.2.1 hd rfl (k H locs ls h0)
  · cases hf
theorem snd_pop (hd : decode cc pc = .ok (.pop, 1)) : SndI own cc mx fr lc pc (o_pop (pc + 1)) := by
  intro dC dI dA ad aV A p l e R s m args below meth c H locs ls L S u st Q C0 h0 hf k
  unfold o_pop at hf
  dsimp only at hf
  split at hf
  · rename_i x r
    cases hf
    exact lv_pop (va := .int x) C0.1 C0.2.1 hd rfl (k H locs ls h0)
  · cases hf
theorem snd_dup2 (hd : decode cc pc = .ok (.dup2, 1)) : SndI own cc mx fr lc pc (o_dup2 (pc + 1)) := by
  intro dC dI dA ad aV A p l e R s m args below meth c H locs ls L S u st Q C0 h0 hf k
  unfold o_dup2 at hf
  dsimp only at hf
  split at hf
  · cases hf
    exact lv_dup2_11 C0.1 C0.2.1 hd rfl rfl (k H locs ls h0)
  · cases hf
theorem snd_goto {off : Int} {tgt : Nat} (ht : (pc : Int) + off = (tgt : Int)) (hd : decode cc pc = .ok (.goto off, 3)) : SndI own cc mx fr lc pc (o_goto tgt) := by
  intro dC dI dA ad aV A p l e R s m args below meth c H locs ls L S u st Q C0 h0 hf k
  cases hf
  exact lv_goto C0.1 C0.2.1 hd ht (k H locs ls h0)
theorem snd_ifeq {off : Int} {tgt : Nat} (ht : (pc : Int) + off = (tgt : Int)) (hd : decode cc pc = .ok (.ifCond .eq off, 3)) : SndI own cc mx fr lc pc (o_ifeq tgt (pc + 3)) := by
  intro dC dI dA ad aV A p l e R s m args below meth c H locs ls L S u st Q C0 h0 hf k
  unfold o_ifeq at hf
  dsimp only at hf
  split at hf
  · rename_i x r
    have hf := Option.some.inj hf
    refine lv_if_eq C0.1 C0.2.1 hd ht (fun hx => ?_) (fun hx => ?_)
    · rw [if_pos hx] at hf
      subst hf
      exact k H locs ls h0
    · rw [if_neg hx] at hf
      subst hf
      exact k H locs ls h0
  · cases hf
theorem snd_ifne {off : Int} {tgt : Nat} (ht : (pc : Int) + off = (tgt : Int)) (hd : decode cc pc = .ok (.ifCond .ne off, 3)) : SndI own cc mx fr lc pc (o_ifne tgt (pc + 3)) := by
  intro dC dI dA ad aV A p l e R s m args below meth c H locs ls L S u st Q C0 h0 hf k
  unfold o_ifne at hf
  dsimp only at hf
  split at hf
  · rename_i x r
    have hf := Option.some.inj hf
    refine lv_if_ne C0.1 C0.2.1 hd ht (fun hx => ?_) (fun hx => ?_)
    · rw [if_pos hx] at hf
      subst hf
      exact k H locs ls h0
    · rw [if_neg (fun z => z hx)] at hf
      subst hf
      exact k H locs ls h0
  · cases hf
theorem snd_iflt {off : Int} {tgt : Nat} (ht : (pc : Int) + off = (tgt : Int)) (hd : decode cc pc = .ok (.ifCond .lt off, 3)) : SndI own cc mx fr lc pc (o_iflt tgt (pc + 3)) := by
  intro dC dI dA ad aV A p l e R s m args below meth c H locs ls L S u st Q C0 h0 hf k
  unfold o_iflt at hf
  dsimp only at hf
  split at hf
  · rename_i x r
    have hf := Option.some.inj hf
    refine lv_if_lt C0.1 C0.2.1 hd ht (fun hx => ?_) (fun hx => ?_)
    · rw [if_pos hx] at hf
      subst hf
      exact k H locs ls h0
    · rw [if_neg hx] at hf
      subst hf
      exact k H locs ls h0
  · cases hf
theorem snd_ifge {off : Int} {tgt : Nat} (ht : (pc : Int) + off = (tgt : Int)) (hd : decode cc pc = .ok (.ifCond .ge off, 3)) : SndI own cc mx fr lc pc (o_ifge tgt (pc + 3)) := by
  intro dC dI dA ad aV A p l e R s m args below meth c H locs ls L S u st Q C0 h0 hf k
  unfold o_ifge at hf
  dsimp only at hf
  split at hf
  · rename_i x r
    have hf := Option.some.inj hf
    refine lv_if_ge C0.1 C0.2.1 hd ht (fun hx => ?_) (fun hx => ?_)
    · rw [if_pos hx] at hf
      subst hf
      exact k H locs ls h0
    · rw [if_neg hx] at hf
      subst hf
      exact k H locs ls h0
  · cases hf
theorem snd_ifgt {off : Int} {tgt : Nat} (ht : (pc : Int) + off = (tgt : Int)) (hd : decode cc pc = .ok (.ifCond .gt off, 3)) : SndI own cc mx fr lc pc (o_ifgt tgt (pc + 3)) := by
  intro dC dI dA ad aV A p l e R s m args below meth c H locs ls L S u st Q C0 h0 hf k
  unfold o_ifgt at hf
  dsimp only at hf
  split at hf
  · rename_i x r
    have hf := Option.some.inj hf
    refine lv_if_gt C0.1 C0.2.1 hd ht (fun hx => ?_) (fun hx => ?_)
    · rw [if_pos hx] at hf
      subst hf
      exact k H locs ls h0
    · rw [if_neg hx] at hf
      subst hf
      exact k H locs ls h0
  · cases hf
theorem snd_ifle {off : Int} {tgt : Nat} (ht : (pc : Int) + off = (tgt : Int)) (hd : decode cc pc = .ok (.ifCond .le off, 3)) : SndI own cc mx fr lc pc (o_ifle tgt (pc + 3)) := by
  intro dC dI dA ad aV A p l e R s m args below meth c H locs ls L S u st Q C0 h0 hf k
  unfold o_ifle at hf
  dsimp only at hf
  split at hf
  · rename_i x r
    have hf := Option.some.inj hf
    refine lv_if_le C0.1 C0.2.1 hd ht (fun hx => ?_) (fun hx => ?_)
    · rw [if_pos hx] at hf
      subst hf
      exact k H locs ls h0
    · rw [if_neg hx] at hf
      subst hf
      exact k H locs ls h0
  · cases hf
theorem snd_iceq {off : Int} {tgt : Nat} (ht : (pc : Int) + off = (tgt : Int)) (hd : decode cc pc = .ok (.if_icmp .eq off, 3)) : SndI own cc mx fr lc pc (o_iceq tgt (pc + 3)) := by
  intro dC dI dA ad aV A p l e R s m args below meth c H locs ls L S u st Q C0 h0 hf k
  unfold o_iceq at hf
  dsimp only at hf
  split at hf
  · rename_i y x r
    have hf := Option.some.inj hf
    refine lv_icmp_eq C0.1 C0.2.1 hd ht (fun hx => ?_) (fun hx => ?_)
    · rw [if_pos hx] at hf
      subst hf
      exact k H locs ls h0
    · rw [if_neg hx] at hf
      subst hf
      exact k H locs ls h0
  · cases hf
theorem snd_icne {off : Int} {tgt : Nat} (ht : (pc : Int) + off = (tgt : Int)) (hd : decode cc pc = .ok (.if_icmp .ne off, 3)) : SndI own cc mx fr lc pc (o_icne tgt (pc + 3)) := by
  intro dC dI dA ad aV A p l e R s m args below meth c H locs ls L S u st Q C0 h0 hf k
  unfold o_icne at hf
  dsimp only at hf
  split at hf
  · rename_i y x r
    have hf := Option.some.inj hf
    refine lv_icmp_ne C0.1 C0.2.1 hd ht (fun hx => ?_) (fun hx => ?_)
    · rw [if_pos hx] at hf
      subst hf
      exact k H locs ls h0
    · rw [if_neg (fun z => z hx)] at hf
      subst hf
      exact k H locs ls h0
  · cases hf
theorem snd_iclt {off : Int} {tgt : Nat} (ht : (pc : Int) + off = (tgt : Int)) (hd : decode cc pc = .ok (.if_icmp .lt off, 3)) : SndI own cc mx fr lc pc (o_iclt tgt (pc + 3)) := by
  intro dC dI dA ad aV A p l e R s m args below meth c H locs ls L S u st Q C0 h0 hf k
  unfold o_iclt at hf
  dsimp only at hf
  split at hf
  · rename_i y x r
    have hf := Option.some.inj hf
    refine lv_icmp_lt C0.1 C0.2.1 hd ht (fun hx => ?_) (fun hx => ?_)
    · rw [if_pos hx] at hf
      subst hf
      exact k H locs ls h0
    · rw [if_neg hx] at hf
      subst hf
      exact k H locs ls h0
  · cases hf
theorem snd_icge {off : Int} {tgt : Nat} (ht : (pc : Int) + off = (tgt : Int)) (hd : decode cc pc = .ok (.if_icmp .ge off, 3)) : SndI own cc mx fr lc pc (o_icge tgt (pc + 3)) := by
  intro dC dI dA ad aV A p l e R s m args below meth c H locs ls L S u st Q C0 h0 hf k
  unfold o_icge at hf
  dsimp only at hf
  split at hf
  · rename_i y x r
    have hf := Option.some.inj hf
    refine lv_icmp_ge C0.1 C0.2.1 hd ht (fun hx => ?_) (fun hx => ?_)
    · rw [if_pos hx] at hf
      subst hf
      exact k H locs ls h0
    · rw [if_neg hx] at hf
      subst hf
      exact k H locs ls h0
  · cases hf
theorem snd_icgt {off : Int} {tgt : Nat} (ht : (pc : Int) + off = (tgt : Int)) (hd : decode cc pc = .ok (.if_icmp .gt off, 3)) : SndI own cc mx fr lc pc (o_icgt tgt (pc + 3)) := by
  intro dC dI dA ad aV A p l e R s m args below meth c H locs ls L S u st Q C0 h0 hf k
  unfold o_icgt at hf
  dsimp only at hf
  split at hf
  · rename_i y x r
    have hf := Option.some.inj hf
    refine lv_icmp_gt C0.1 C0.2.1 hd ht (fun hx => ?_) (fun hx => ?_)
    · rw [if_pos hx] at hf
      subst hf
      exact k H locs ls h0
    · rw [if_neg hx] at hf
      subst hf
      exact k H locs ls h0
  · cases hf
theorem snd_icle {off : Int} {tgt : Nat} (ht : (pc : Int) + off = (tgt : Int)) (hd : decode cc pc = .ok (.if_icmp .le off, 3)) : SndI own cc mx fr lc pc (o_icle tgt (pc + 3)) := by
  intro dC dI dA ad aV A p l e R s m args below meth c H locs ls L S u st Q C0 h0 hf k
  unfold o_icle at hf
  dsimp only at hf
  split at hf
  · rename_i y x r
    have hf := Option.some.inj hf
    refine lv_icmp_le C0.1 C0.2.1 hd ht (fun hx => ?_) (fun hx => ?_)
    · rw [if_pos hx] at hf
      subst hf
      exact k H locs ls h0
    · rw [if_neg hx] at hf
      subst hf
      exact k H locs ls h0
  · cases hf
/-- what the tables say of a kind of object -/
def CF (ci : Nat) (C : String) (T : u_T) (N : Nat) (ty : Nat → FieldType) : Prop := ci < 4 ∧ vwCl[ci]? = some (C, T, N) ∧ (∀ w ∈ u_ws C T N, w ∈ gtb) ∧ (∀ k, k < N → parseFieldDescriptor (T k).2.2.1 = some (ty k)) ∧ (∀ a, a < N → ∀ b, b < N → a ≠ b → (T a).2.1 ≠ (T b).2.1)
theorem wor_obj {dA : Nat → ClassId} {ad : Nat → Nat} {u : Sg} {k ci : Nat} (h : lyC k = ci) (hc : ci < 4) : (wor dA ad u)[k]? = some (ad k, .inr (ci, fld ad u k 0 (fks ci))) := by
  rw [wor_at dA ad u (ly_lt (by omega)), wce, if_neg (by omega), if_neg (by omega), h]
theorem wor_arr {dA : Nat → ClassId} {ad : Nat → Nat} {u : Sg} {k t : Nat} (h : lyC k = t) (ht : t = 4 ∨ t = 5) : (wor dA ad u)[k]? = some (ad k, .inl (dA (t - 4), lyN k, .inl (gA u k))) := by
  rw [wor_at dA ad u (ly_lt (by omega)), wce]
  rcases ht with rfl | rfl
  · rw [if_pos h]
  · rw [if_neg (by omega), if_pos h]
theorem beq_of {a b : Nat} (h : Nat.beq a b = true) : a = b := Nat.eq_of_beq_eq_true h
theorem snd_getI {ci C T N ty j idx} {d : Nat × Nat} (cf : CF ci C T N ty) (hj : j < N) (hk : (fks ci)[j]? = some d) (hd0 : d.1 = 0) (hw : Cond.fieldLink own idx (T j).1 (T j).2.1 (T j).2.2.1 ∈ gtb) (hd : decode cc pc = .ok (.getfield idx, 3)) : SndI own cc mx fr lc pc (o_getI ci j (pc + 3)) := by
  intro dC dI dA ad aV A p l e R s m args below meth c H locs ls L S u st Q C0 h0 hf k
  unfold o_getI at hf
  dsimp only at hf
  split at hf
  · rename_i q r
    cases hq : Nat.beq (lyC q) ci with
    | false => rw [hq] at hf; cases hf
    | true =>
      rw [hq] at hf
      cases hf
      have hv := fld_at ad u q (fks ci) 0 j d hk
      rw [fv, if_pos hd0, Nat.zero_add] at hv
      exact va_get C0.1 C0.2.1 (ci := ci) C0.2.2.2.2.1 cf.2.2.1 C0.2.2.2.1 C0.2.2.2.2.2.1 h0.1 q (wor_obj (beq_of hq) cf.1) cf.2.1 j hj (C0.2.2.2.2.1 _ hw) (fun _ h => h) hv hd (k H locs ls h0)
  · cases hf
theorem snd_getJ {ci C T N ty j idx} {d : Nat × Nat} (cf : CF ci C T N ty) (hj : j < N) (hk : (fks ci)[j]? = some d) (hd0 : d.1 = 1) (hw : Cond.fieldLink own idx (T j).1 (T j).2.1 (T j).2.2.1 ∈ gtb) (hd : decode cc pc = .ok (.getfield idx, 3)) : SndI own cc mx fr lc pc (o_getJ ci j (pc + 3)) := by
  intro dC dI dA ad aV A p l e R s m args below meth c H locs ls L S u st Q C0 h0 hf k
  unfold o_getJ at hf
  dsimp only at hf
  split at hf
  · rename_i q r
    cases hq : Nat.beq (lyC q) ci with
    | false => rw [hq] at hf; cases hf
    | true =>
      rw [hq] at hf
      cases hf
      have hv := fld_at ad u q (fks ci) 0 j d hk
      rw [fv, if_neg (by omega), if_pos hd0, Nat.zero_add] at hv
      exact va_get C0.1 C0.2.1 (ci := ci) C0.2.2.2.2.1 cf.2.2.1 C0.2.2.2.1 C0.2.2.2.2.2.1 h0.1 q (wor_obj (beq_of hq) cf.1) cf.2.1 j hj (C0.2.2.2.2.1 _ hw) (fun _ h => h) hv hd (k H locs ls h0)
  · cases hf
theorem snd_getR {ci C T N ty j idx} {d : Nat} (cf : CF ci C T N ty) (hj : j < N) (hk : (fks ci)[j]? = some (2, d)) (hw : Cond.fieldLink own idx (T j).1 (T j).2.1 (T j).2.2.1 ∈ gtb) (hd : decode cc pc = .ok (.getfield idx, 3)) : SndI own cc mx fr lc pc (o_getR ci j d (pc + 3)) := by
  intro dC dI dA ad aV A p l e R s m args below meth c H locs ls L S u st Q C0 h0 hf k
  unfold o_getR at hf
  dsimp only at hf
  split at hf
  · rename_i q r
    cases hq : Nat.beq (lyC q) ci with
    | false => rw [hq] at hf; cases hf
    | true =>
      rw [hq] at hf
      cases hf
      have hv : (fld ad u q 0 (fks ci))[j]? = some (.ref (ad (q + d))) := fld_at ad u q (fks ci) 0 j (2, d) hk
      exact va_get C0.1 C0.2.1 (ci := ci) C0.2.2.2.2.1 cf.2.2.1 C0.2.2.2.1 C0.2.2.2.2.2.1 h0.1 q (wor_obj (beq_of hq) cf.1) cf.2.1 j hj (C0.2.2.2.2.1 _ hw) (fun _ h => h) hv hd (k H locs ls h0)
  · cases hf
theorem fv_pI {ad : Nat → Nat} {u : Sg} {k j i : Nat} {v : Int32} {q : Nat × Nat} (h : ¬ (k = k ∧ i = j)) : fv ad (pI u k j v) k i q = fv ad u k i q := by
  unfold fv
  rw [gI_pI, gJ_pI, if_pos rfl, if_neg (fun z => h ⟨rfl, z⟩)]
theorem wce_pI {dA : Nat → ClassId} {ad : Nat → Nat} {u : Sg} {k j : Nat} {v : Int32} {i : Nat} (h : i ≠ k) : wce dA ad (pI u k j v) i = wce dA ad u i := by
  unfold wce
  have : ∀ (t : List (Nat × Nat)) (n : Nat), fld ad (pI u k j v) i n t = fld ad u i n t := by
    intro t
    induction t with
    | nil => intro n; rfl
    | cons a t ih => intro n; simp only [fld, ih]; unfold fv; rw [gI_pI, gJ_pI, if_neg h]
  rw [gA_pI, this]
theorem wce_pJ {dA : Nat → ClassId} {ad : Nat → Nat} {u : Sg} {k j : Nat} {v : Int64} {i : Nat} (h : i ≠ k) : wce dA ad (pJ u k j v) i = wce dA ad u i := by
  unfold wce
  have : ∀ (t : List (Nat × Nat)) (n : Nat), fld ad (pJ u k j v) i n t = fld ad u i n t := by
    intro t
    induction t with
    | nil => intro n; rfl
    | cons a t ih => intro n; simp only [fld, ih]; unfold fv; rw [gI_pJ, gJ_pJ, if_neg h]
  rw [gA_pJ, this]
theorem wce_pA {dA : Nat → ClassId} {ad : Nat → Nat} {u : Sg} {k : Nat} {f : Nat → Int32} {i : Nat} (h : i ≠ k) : wce dA ad (pA u k f) i = wce dA ad u i := by
  unfold wce
  have : ∀ (t : List (Nat × Nat)) (n : Nat), fld ad (pA u k f) i n t = fld ad u i n t := by
    intro t
    induction t with
    | nil => intro n; rfl
    | cons a t ih => intro n; simp only [fld, ih]; rfl
  rw [gA_pA, if_neg h, this]
theorem set_pI {dA : Nat → ClassId} {ad : Nat → Nat} {u : Sg} {k j ci : Nat} {v : Int32} {d : Nat × Nat} (hk : lyC k = ci) (hc : ci < 4) (hj : (fks ci)[j]? = some d) (hd0 : d.1 = 0) : (wor dA ad u).set k (ad k, .inr (ci, (fld ad u k 0 (fks ci)).set j (.int v))) = wor dA ad (pI u k j v) := by
  refine wor_set ?_ (fun i hi => wce_pI hi)
  rw [wce, if_neg (by omega), if_neg (by omega), hk]
  congr 2
  refine fld_set (fks ci) 0 j (fun i q hq hne => ?_) (fun q hq => ?_)
  · rw [Nat.zero_add]; exact fv_pI (fun z => hne z.2)
  · rw [hj] at hq
    cases hq
    rw [Nat.zero_add, fv, if_pos hd0, gI_pI, if_pos rfl, if_pos rfl]
theorem set_pJ {dA : Nat → ClassId} {ad : Nat → Nat} {u : Sg} {k j ci : Nat} {v : Int64} {d : Nat × Nat} (hk : lyC k = ci) (hc : ci < 4) (hj : (fks ci)[j]? = some d) (hd0 : d.1 = 1) : (wor dA ad u).set k (ad k, .inr (ci, (fld ad u k 0 (fks ci)).set j (.long v))) = wor dA ad (pJ u k j v) := by
  refine wor_set ?_ (fun i hi => wce_pJ hi)
  rw [wce, if_neg (by omega), if_neg (by omega), hk]
  congr 2
  refine fld_set (fks ci) 0 j (fun i q hq hne => ?_) (fun q hq => ?_)
  · unfold fv
    rw [Nat.zero_add, gI_pJ, gJ_pJ, if_pos rfl, if_neg hne]
  · rw [hj] at hq
    cases hq
    rw [Nat.zero_add, fv, if_neg (by omega), if_pos hd0, gJ_pJ, if_pos rfl, if_pos rfl]
theorem set_pA {dA : Nat → ClassId} {ad : Nat → Nat} {u : Sg} {k t : Nat} {f : Nat → Int32} (hk : lyC k = t) (ht : t = 4 ∨ t = 5) : (wor dA ad u).set k (ad k, .inl (dA (t - 4), lyN k, .inl f)) = wor dA ad (pA u k f) := by
  refine wor_set ?_ (fun i hi => wce_pA hi)
  rw [wce, gA_pA, if_pos rfl]
  rcases ht with rfl | rfl
  · rw [if_pos hk]
  · rw [if_neg (by omega), if_pos hk]
theorem snd_putI {ci C T N ty j idx} {d : Nat × Nat} (cf : CF ci C T N ty) (hj : j < N) (hk : (fks ci)[j]? = some d) (hd0 : d.1 = 0) (hfin : (T j).2.2.2 = false) (hty : parseFieldDescriptor (T j).2.2.1 = some .int) (hw : Cond.fieldLink own idx (T j).1 (T j).2.1 (T j).2.2.1 ∈ gtb) (hd : decode cc pc = .ok (.putfield idx, 3)) : SndI own cc mx fr lc pc (o_putI ci j (pc + 3)) := by
  intro dC dI dA ad aV A p l e R s m args below meth c H locs ls L S u st Q C0 h0 hf k
  unfold o_putI at hf
  dsimp only at hf
  split at hf
  · rename_i v q r
    cases hq : Nat.beq (lyC q) ci with
    | false => rw [hq] at hf; cases hf
    | true =>
      rw [hq] at hf
      cases hf
      have hv := fld_at ad u q (fks ci) 0 j d hk
      refine va_put (v := .int v) C0.1 C0.2.1 (ci := ci) C0.2.2.2.2.1 cf.2.2.1 ty cf.2.2.2.1 cf.2.2.2.2 C0.2.2.2.1 C0.2.2.2.2.2.1 h0.1 h0.2.1 h0.2.2.1 q (wor_obj (beq_of hq) cf.1) cf.2.1 j hj (C0.2.2.2.2.1 _ hw) (fun _ h => h) hfin hty rfl rfl (List.getElem?_eq_some_iff.mp hv).1 hd (fun H1 locs1 hP hD hS => ?_)
      rw [set_pI (beq_of hq) cf.1 hk hd0] at hP hD
      exact k H1 locs1 ls ⟨hP, hD, hS, h0.2.2.2⟩
  · cases hf
theorem snd_putZ {ci C T N ty j idx} {d : Nat × Nat} (cf : CF ci C T N ty) (hj : j < N) (hk : (fks ci)[j]? = some d) (hd0 : d.1 = 0) (hfin : (T j).2.2.2 = false) (hty : parseFieldDescriptor (T j).2.2.1 = some .boolean) (hw : Cond.fieldLink own idx (T j).1 (T j).2.1 (T j).2.2.1 ∈ gtb) (hd : decode cc pc = .ok (.putfield idx, 3)) : SndI own cc mx fr lc pc (o_putZ ci j (pc + 3)) := by
  intro dC dI dA ad aV A p l e R s m args below meth c H locs ls L S u st Q C0 h0 hf k
  unfold o_putZ at hf
  dsimp only at hf
  split at hf
  · rename_i v q r
    cases hq : Nat.beq (lyC q) ci with
    | false => rw [hq] at hf; cases hf
    | true =>
      rw [hq] at hf
      dsimp only [cond] at hf
      by_cases hz : v = 0 ∨ v = 1
      · rw [if_pos hz] at hf
        cases hf
        have hv := fld_at ad u q (fks ci) 0 j d hk
        refine va_put (v := .int v) C0.1 C0.2.1 (ci := ci) C0.2.2.2.2.1 cf.2.2.1 ty cf.2.2.2.1 cf.2.2.2.2 C0.2.2.2.1 C0.2.2.2.2.2.1 h0.1 h0.2.1 h0.2.2.1 q (wor_obj (beq_of hq) cf.1) cf.2.1 j hj (C0.2.2.2.2.1 _ hw) (fun _ h => h) hfin hty (by rcases hz with rfl | rfl <;> rfl) (by rcases hz with rfl | rfl <;> rfl) (List.getElem?_eq_some_iff.mp hv).1 hd (fun H1 locs1 hP hD hS => ?_)
        rw [set_pI (beq_of hq) cf.1 hk hd0] at hP hD
        exact k H1 locs1 ls ⟨hP, hD, hS, h0.2.2.2⟩
      · rw [if_neg hz] at hf; cases hf
  · cases hf
theorem snd_putJ {ci C T N ty j idx} {d : Nat × Nat} (cf : CF ci C T N ty) (hj : j < N) (hk : (fks ci)[j]? = some d) (hd0 : d.1 = 1) (hfin : (T j).2.2.2 = false) (hty : parseFieldDescriptor (T j).2.2.1 = some .long) (hw : Cond.fieldLink own idx (T j).1 (T j).2.1 (T j).2.2.1 ∈ gtb) (hd : decode cc pc = .ok (.putfield idx, 3)) : SndI own cc mx fr lc pc (o_putJ ci j (pc + 3)) := by
  intro dC dI dA ad aV A p l e R s m args below meth c H locs ls L S u st Q C0 h0 hf k
  unfold o_putJ at hf
  dsimp only at hf
  split at hf
  · rename_i v q r
    cases hq : Nat.beq (lyC q) ci with
    | false => rw [hq] at hf; cases hf
    | true =>
      rw [hq] at hf
      cases hf
      have hv := fld_at ad u q (fks ci) 0 j d hk
      refine va_put (v := .long v) C0.1 C0.2.1 (ci := ci) C0.2.2.2.2.1 cf.2.2.1 ty cf.2.2.2.1 cf.2.2.2.2 C0.2.2.2.1 C0.2.2.2.2.2.1 h0.1 h0.2.1 h0.2.2.1 q (wor_obj (beq_of hq) cf.1) cf.2.1 j hj (C0.2.2.2.2.1 _ hw) (fun _ h => h) hfin hty rfl rfl (List.getElem?_eq_some_iff.mp hv).1 hd (fun H1 locs1 hP hD hS => ?_)
      rw [set_pJ (beq_of hq) cf.1 hk hd0] at hP hD
      exact k H1 locs1 ls ⟨hP, hD, hS, h0.2.2.2⟩
  · cases hf
theorem snd_iald {nx} (hn : nx = pc + 1) (hd : decode cc pc = .ok (.iaload, 1)) : SndI own cc mx fr lc pc (o_iald 4 nx) := by
  intro dC dI dA ad aV A p l e R s m args below meth c H locs ls L S u st Q C0 h0 hf k
  subst hn
  unfold o_iald at hf
  dsimp only at hf
  split at hf
  · rename_i i q r
    cases hq : Nat.beq (lyC q) 4 with
    | false => rw [hq] at hf; cases hf
    | true =>
      rw [hq] at hf
      dsimp only [cond] at hf
      by_cases hz : 0 ≤ i.toInt ∧ i.toInt < lyN q
      · rw [if_pos hz] at hf
        cases hf
        exact va_iald C0.1 C0.2.1 C0.2.2.2.2.2.1 h0.1 q 0 (wor_arr (beq_of hq) (Or.inl rfl)) rfl (vp_in_iff.mpr hz) hd (k H locs ls h0)
      · rw [if_neg hz] at hf; cases hf
  · cases hf
theorem snd_bald {nx} (hn : nx = pc + 1) (hd : decode cc pc = .ok (.baload, 1)) : SndI own cc mx fr lc pc (o_iald 5 nx) := by
  intro dC dI dA ad aV A p l e R s m args below meth c H locs ls L S u st Q C0 h0 hf k
  subst hn
  unfold o_iald at hf
  dsimp only at hf
  split at hf
  · rename_i i q r
    cases hq : Nat.beq (lyC q) 5 with
    | false => rw [hq] at hf; cases hf
    | true =>
      rw [hq] at hf
      dsimp only [cond] at hf
      by_cases hz : 0 ≤ i.toInt ∧ i.toInt < lyN q
      · rw [if_pos hz] at hf
        cases hf
        exact va_bald C0.1 C0.2.1 C0.2.2.2.2.2.1 h0.1 q 1 (wor_arr (beq_of hq) (Or.inr rfl)) rfl (vp_in_iff.mpr hz) hd (k H locs ls h0)
      · rw [if_neg hz] at hf; cases hf
  · cases hf
theorem snd_iast (hd : decode cc pc = .ok (.iastore, 1)) : SndI own cc mx fr lc pc (o_iast (pc + 1)) := by
  intro dC dI dA ad aV A p l e R s m args below meth c H locs ls L S u st Q C0 h0 hf k
  unfold o_iast at hf
  dsimp only at hf
  split at hf
  · rename_i x i q r
    cases hq : Nat.beq (lyC q) 4 with
    | false => rw [hq] at hf; cases hf
    | true =>
      rw [hq] at hf
      dsimp only [cond] at hf
      by_cases hz : 0 ≤ i.toInt ∧ i.toInt < lyN q
      · rw [if_pos hz] at hf
        cases hf
        refine va_iast C0.1 C0.2.1 C0.2.2.2.2.2.1 h0.1 h0.2.1 h0.2.2.1 q 0 (wor_arr (beq_of hq) (Or.inl rfl)) rfl (vp_in_iff.mpr hz) hd (fun H1 locs1 hP hD hS => ?_)
        rw [set_pA (beq_of hq) (Or.inl rfl)] at hP hD
        exact k H1 locs1 ls ⟨hP, hD, hS, h0.2.2.2⟩
      · rw [if_neg hz] at hf; cases hf
  · cases hf
theorem snd_bast (hd : decode cc pc = .ok (.bastore, 1)) : SndI own cc mx fr lc pc (o_bast (pc + 1)) := by
  intro dC dI dA ad aV A p l e R s m args below meth c H locs ls L S u st Q C0 h0 hf k
  unfold o_bast at hf
  dsimp only at hf
  split at hf
  · rename_i x i q r
    cases hq : Nat.beq (lyC q) 5 with
    | false => rw [hq] at hf; cases hf
    | true =>
      rw [hq] at hf
      dsimp only [cond] at hf
      by_cases hz : 0 ≤ i.toInt ∧ i.toInt < lyN q
      · rw [if_pos hz] at hf
        cases hf
        refine va_bast C0.1 C0.2.1 C0.2.2.2.2.2.1 h0.1 h0.2.1 h0.2.2.1 q 1 (wor_arr (beq_of hq) (Or.inr rfl)) rfl (vp_in_iff.mpr hz) hd (fun H1 locs1 hP hD hS => ?_)
        rw [set_pA (beq_of hq) (Or.inr rfl)] at hP hD
        exact k H1 locs1 ls ⟨hP, hD, hS, h0.2.2.2⟩
      · rw [if_neg hz] at hf; cases hf
  · cases hf
theorem slc_sum (ad : Nat → Nat) : ∀ r : List Value, ((r.map (cvv ad)).map fun v => v.category).sum = slc r
  | [] => rfl
  | v :: t => by
    have := slc_sum ad t
    simp only [List.map_cons, List.sum_cons, cvv_cat, slc, this]
theorem ls_len {dC : Nat → ClassId} {dI : Nat → Nat → Nat} {dA : Nat → ClassId} {ad : Nat → Nat} {A : Nat → Prop} {H0 : Heap} {L : List (Option Value)} {u : Sg} {H : Heap} {locs : List Loc} {ls : Array Slot} (h : Hd dC dI dA ad A H0 mx L u H locs ls) {c : Code} (hc : c.maxLocals = mx) : c.maxLocals = ls.size := hc.trans h.2.2.2.1.symm

theorem snd_max {idx : Nat} (hw : Cond.methodLink own idx Lib.Math.max.name ∈ gtb) (h2 : Cond.static Lib.Math.max.name ∈ gtb) (h3 : Cond.initialized "java/lang/Math" ∈ gtb) (h4 : Cond.code Lib.Math.max.name Lib.Math.max.code 2 (some .int) ∈ gtb) (hfr : 1 ≤ fr) (hlc : 21 ≤ lc) (hd : decode cc pc = .ok (.invokestatic idx, 3)) : SndI own cc mx fr lc pc (o_max (pc + 3)) := by
  intro dC dI dA ad aV A p l e R s m args below meth c H locs ls L S u st Q C0 h0 hf k
  unfold o_max at hf
  dsimp only at hf
  split at hf
  · rename_i y x r
    cases hq : Nat.ble (slc r) 8 with
    | false => rw [hq] at hf; cases hf
    | true =>
      rw [hq] at hf
      cases hf
      have hr := Nat.le_of_ble_eq_true hq
      exact va_mmax C0.1 C0.2.1 (ls_len h0 C0.2.2.1) C0.2.2.2.1 (C0.2.2.2.2.1 _ hw) (C0.2.2.2.2.1 _ h2) (C0.2.2.2.2.1 _ h3) (C0.2.2.2.2.1 _ h4) (Nat.le_trans hfr C0.2.2.2.2.2.2.1) (by rw [slc_sum]; have := C0.2.2.2.2.2.2.2.1; omega) (Nat.zero_le _) (Nat.zero_le _) hd (k H locs ls h0)
  · cases hf
theorem snd_min {idx : Nat} (hw : Cond.methodLink own idx Lib.Math.min.name ∈ gtb) (h2 : Cond.static Lib.Math.min.name ∈ gtb) (h3 : Cond.initialized "java/lang/Math" ∈ gtb) (h4 : Cond.code Lib.Math.min.name Lib.Math.min.code 2 (some .int) ∈ gtb) (hfr : 1 ≤ fr) (hlc : 21 ≤ lc) (hd : decode cc pc = .ok (.invokestatic idx, 3)) : SndI own cc mx fr lc pc (o_min (pc + 3)) := by
  intro dC dI dA ad aV A p l e R s m args below meth c H locs ls L S u st Q C0 h0 hf k
  unfold o_min at hf
  dsimp only at hf
  split at hf
  · rename_i y x r
    cases hq : Nat.ble (slc r) 8 with
    | false => rw [hq] at hf; cases hf
    | true =>
      rw [hq] at hf
      cases hf
      have hr := Nat.le_of_ble_eq_true hq
      exact va_mmin C0.1 C0.2.1 (ls_len h0 C0.2.2.1) C0.2.2.2.1 (C0.2.2.2.2.1 _ hw) (C0.2.2.2.2.1 _ h2) (C0.2.2.2.2.1 _ h3) (C0.2.2.2.2.1 _ h4) (Nat.le_trans hfr C0.2.2.2.2.2.2.1) (by rw [slc_sum]; have := C0.2.2.2.2.2.2.2.1; omega) (Nat.zero_le _) (Nat.zero_le _) hd (k H locs ls h0)
  · cases hf
theorem snd_abs {idx : Nat} (hw : Cond.methodLink own idx Lib.Math.abs.name ∈ gtb) (h2 : Cond.static Lib.Math.abs.name ∈ gtb) (h3 : Cond.initialized "java/lang/Math" ∈ gtb) (h4 : Cond.code Lib.Math.abs.name Lib.Math.abs.code 1 (some .int) ∈ gtb) (hfr : 1 ≤ fr) (hlc : 21 ≤ lc) (hd : decode cc pc = .ok (.invokestatic idx, 3)) : SndI own cc mx fr lc pc (o_abs (pc + 3)) := by
  intro dC dI dA ad aV A p l e R s m args below meth c H locs ls L S u st Q C0 h0 hf k
  unfold o_abs at hf
  dsimp only at hf
  split at hf
  · rename_i x r
    cases hq : Nat.ble (slc r) 8 with
    | false => rw [hq] at hf; cases hf
    | true =>
      rw [hq] at hf
      cases hf
      have hr := Nat.le_of_ble_eq_true hq
      exact va_mabs C0.1 C0.2.1 (ls_len h0 C0.2.2.1) C0.2.2.2.1 (C0.2.2.2.2.1 _ hw) (C0.2.2.2.2.1 _ h2) (C0.2.2.2.2.1 _ h3) (C0.2.2.2.2.1 _ h4) (Nat.le_trans hfr C0.2.2.2.2.2.2.1) (by rw [slc_sum]; have := C0.2.2.2.2.2.2.2.1; omega) (Nat.zero_le _) (Nat.zero_le _) hd (k H locs ls h0)
  · cases hf
theorem nn_of {z : Int32} (h : 0 ≤ z.toInt) : ¬ z < 0 := by
  intro q
  have := Int32.lt_iff_toInt_lt.mp q
  have h0 : (0 : Int32).toInt = 0 := rfl
  omega
theorem cl_of {z : Int32} (h : 0 ≤ z.toInt) : (z.toNatClampNeg : Int) = z.toInt := by
  show ((z.toInt.toNat : Nat) : Int) = z.toInt
  omega
theorem snd_copy {idx : Nat} (hw : Cond.methodLink own idx arraycopyName ∈ gtb) (h2 : Cond.native arraycopyName ∈ gtb) (h3 : Cond.static arraycopyName ∈ gtb) (h4 : Cond.initialized "java/lang/System" ∈ gtb) (hfr : 1 ≤ fr) (hlc : 8 + (nativeFrameWords "java/lang/System" "arraycopy" 5 + 11) ≤ lc) (hd : decode cc pc = .ok (.invokestatic idx, 3)) : SndI own cc mx fr lc pc (o_copy (pc + 3)) := by
  intro dC dI dA ad aV A p l e R s m args below meth c H locs ls L S u st Q C0 h0 hf k
  unfold o_copy at hf
  dsimp only at hf
  split at hf
  · rename_i n dp b sp a r
    cases hq : (Nat.beq (lyC a) 4 && Nat.beq (lyC b) 4 && Nat.ble (slc r) 8) with
    | false => rw [hq] at hf; cases hf
    | true =>
      rw [hq] at hf
      dsimp only [cond] at hf
      simp only [Bool.and_eq_true] at hq
      obtain ⟨⟨q1, q2⟩, q3⟩ := hq
      have hr := Nat.le_of_ble_eq_true q3
      by_cases hz : 0 ≤ sp.toInt ∧ 0 ≤ dp.toInt ∧ 0 ≤ n.toInt ∧ sp.toInt + n.toInt ≤ lyN a ∧ dp.toInt + n.toInt ≤ lyN b
      · rw [if_pos hz] at hf
        cases hf
        obtain ⟨z1, z2, z3, z4, z5⟩ := hz
        have e1 := cl_of z1
        have e2 := cl_of z2
        have e3 := cl_of z3
        refine va_copyi C0.1 C0.2.1 (ls_len h0 C0.2.2.1) C0.2.2.2.1 (C0.2.2.2.2.1 _ hw) (C0.2.2.2.2.1 _ h2) (C0.2.2.2.2.1 _ h3) (C0.2.2.2.2.1 _ h4) C0.2.2.2.2.2.1 h0.1 h0.2.1 h0.2.2.1 a b 0 0 (wor_arr (beq_of q1) (Or.inl rfl)) (wor_arr (beq_of q2) (Or.inl rfl)) rfl rfl rfl (nn_of z1) (nn_of z2) (nn_of z3) (by omega) (by omega) (fun _ _ => rfl) (Nat.le_trans hfr C0.2.2.2.2.2.2.1) (by rw [slc_sum]; have := C0.2.2.2.2.2.2.2.1; omega) hd (fun H1 locs1 hP hD hS => ?_)
        rw [set_pA (beq_of q2) (Or.inl rfl)] at hP hD
        exact k H1 locs1 ls ⟨hP, hD, hS, h0.2.2.2⟩
      · rw [if_neg hz] at hf; cases hf
  · cases hf
theorem snd_tsw {dflt lo hi : Int} {offs : Array Int} {len d : Nat} {ts : List Nat} (hd : decode cc pc = .ok (.tableswitch dflt lo hi offs, len)) (h1 : (pc : Int) + dflt = (d : Int)) (h2 : offs.toList.map (fun o => (pc : Int) + o) = ts.map (fun t : Nat => (t : Int))) (h3 : hi = lo + ts.length - 1) : SndI own cc mx fr lc pc (o_tsw lo ts d) := by
  intro dC dI dA ad aV A p l e R s m args below meth c H locs ls L S u st Q C0 h0 hf k
  unfold o_tsw at hf
  dsimp only at hf
  split at hf
  · rename_i x r
    have hf := Option.some.inj hf
    by_cases hx : x.toInt < lo ∨ lo + ts.length ≤ x.toInt
    · rw [swT, if_pos hx] at hf
      subst hf
      exact lv_tableOut C0.1 C0.2.1 hd (by omega) h1 (k H locs ls h0)
    · rw [swT, if_neg hx] at hf
      have hl : (x.toInt - lo).toNat < ts.length := by omega
      have e1 : (offs.toList.map (fun o => (pc : Int) + o))[(x.toInt - lo).toNat]? = some ((ts[(x.toInt - lo).toNat]'hl : Nat) : Int) := by
        rw [h2, List.getElem?_map, List.getElem?_eq_getElem hl]
        rfl
      rw [List.getElem?_map] at e1
      cases ho : offs.toList[(x.toInt - lo).toNat]? with
      | none => rw [ho] at e1; cases e1
      | some o =>
        rw [ho] at e1
        have e2 := Option.some.inj e1
        have e3 : ts.getD (x.toInt - lo).toNat d = ts[(x.toInt - lo).toNat]'hl := by
          rw [List.getD_eq_getElem?_getD, List.getElem?_eq_getElem hl]
          rfl
        rw [e3] at hf
        subst hf
        exact lv_tableIn C0.1 C0.2.1 hd (by omega) (by omega) (by rw [← Array.getElem?_toList]; exact ho) e2 (k H locs ls h0)
  · cases hf
theorem snd_lsw {dflt : Int} {ps : Array (Int × Int)} {len d : Nat} {qs : List (Int × Nat)} (hd : decode cc pc = .ok (.lookupswitch dflt ps, len)) (hp : (ps.toList.zip (ps.toList.drop 1)).all (fun (a, next) => a.1 < next.1) = true) (h1 : (pc : Int) + dflt = (d : Int)) (h2 : ∀ x : Int32, (pc : Int) + Op.lookupswitch.offset ps.toList dflt x.toInt = (swL qs d x : Int)) : SndI own cc mx fr lc pc (o_lsw qs d) := by
  intro dC dI dA ad aV A p l e R s m args below meth c H locs ls L S u st Q C0 h0 hf k
  unfold o_lsw at hf
  dsimp only at hf
  split at hf
  · rename_i x r
    cases hf
    exact lv_lookup C0.1 C0.2.1 hd hp rfl (h2 x) (k H locs ls h0)
  · cases hf

end SND
end
section
/-! ===== a run of the small machine is a run of the machine ===== -/
/-- a method: name, code, locals, answer, frames and locals' words that it needs -/
abbrev MD : Type := MethodName × ByteArray × Nat × Option FieldType × Nat × Nat
def RetOK (d : MD) (pc k : Nat) : Prop :=
  (k = 0 ∧ d.2.2.2.1 = none ∧ decode d.2.1 pc = .ok (.return_, 1)) ∨ (k = 1 ∧ d.2.2.2.1 = some .int ∧ decode d.2.1 pc = .ok (.ireturn, 1)) ∨ (k = 2 ∧ d.2.2.2.1 = some .long ∧ decode d.2.1 pc = .ok (.lreturn, 1)) ∨ (k = 3 ∧ d.2.2.2.1 = some .boolean ∧ decode d.2.1 pc = .ok (.ireturn, 1))
abbrev wsD (d : MD) : List Cond := Cond.code d.1 d.2.1 d.2.2.1 d.2.2.2.1 :: gtb
/-- what is known of a method -/
def MDok (d : MD) (n : Nat) : Prop := plainName d.1.cls = true ∧ Cond.code d.1 d.2.1 d.2.2.1 d.2.2.2.1 ∈ gtb ∧ Cond.initialized d.1.cls ∈ gtb ∧ (d.1.cls ≠ "java/lang/invoke/MethodHandle" ∧ d.1.cls ≠ "java/lang/invoke/VarHandle" ∧ (parseMethodDescriptor d.1.desc).map (fun x => x.parameters.length) = some n)
def CallOK (I : Nat → Option MD) (d : MD) (pc y na mx rc : Nat) : Prop := ∃ (d' : MD) (idx n : Nat), I y = some d' ∧ MDok d' n ∧ d'.2.2.1 = mx ∧ d'.2.2.2.2.1 + 1 ≤ d.2.2.2.2.1 ∧ 8 + (mx + 11) + d'.2.2.2.2.2 ≤ d.2.2.2.2.2 ∧ Cond.methodLink d.1.cls idx d'.1 ∈ gtb ∧
  ((na = n + 1 ∧ rc < 4 ∧ (∃ q, vwCl[rc]? = some q ∧ q.1 = d'.1.cls) ∧ Cond.instanceMethod d'.1 ∈ gtb ∧ Cond.selects d'.1.cls d'.1 d'.1 ∈ gtb ∧ decode d.2.1 pc = .ok (.invokevirtual idx, 3)) ∨ (na = n ∧ Cond.static d'.1 ∈ gtb ∧ decode d.2.1 pc = .ok (.invokestatic idx, 3)))
def AIok (I : Nat → Option MD) (d : MD) (pc : Nat) : AI → Prop
  | .inl f => SndI d.1.cls d.2.1 d.2.2.1 d.2.2.2.2.1 d.2.2.2.2.2 pc f
  | .inr (.inl k) => RetOK d pc k
  | .inr (.inr (y, na, mx, rc)) => CallOK I d pc y na mx rc
/-- what an answer may be -/
def isR (r : Option Value) : Prop := r = none ∨ (∃ v, r = some (.int v)) ∨ ∃ v, r = some (.long v)
theorem isR_map {r : Option Value} (h : isR r) (ad : Nat → Nat) : r.toList.map (cvv ad) = r.toList := by
  rcases h with rfl | ⟨v, rfl⟩ | ⟨v, rfl⟩ <;> rfl
theorem rn_isR (P : PT) : ∀ (n m : Nat) (st : St) (r : Option Value) (u : Sg), rn P n m st = some (r, u) → isR r
  | 0, m, st, r, u, h => by simp [rn] at h
  | n + 1, m, st, r, u, h => by
    rw [rn] at h
    cases hp : P m st.1 with
    | none => rw [hp] at h; cases h
    | some a =>
      rw [hp] at h
      rcases a with f | k | ⟨y, na, mx, rc⟩
      · dsimp only at h
        cases hf : f st with
        | none => rw [hf] at h; cases h
        | some st' => rw [hf] at h; exact rn_isR P n m st' r u h
      · dsimp only at h
        split at h
        · cases h; exact Or.inl rfl
        · cases h; exact Or.inr (Or.inl ⟨_, rfl⟩)
        · cases h; exact Or.inr (Or.inr ⟨_, rfl⟩)
        · split at h
          · cases h; exact Or.inr (Or.inl ⟨_, rfl⟩)
          · cases h
        · cases h
      · dsimp only at h
        split at h
        · cases h
        · exact rn_isR P n m _ r u h
def RetAt (d : MD) (pc : Nat) (r : Option Value) : Prop :=
  (r = none ∧ d.2.2.2.1 = none ∧ decode d.2.1 pc = .ok (.return_, 1)) ∨ (∃ (v : Int32) (ty : FieldType), r = some (.int v) ∧ d.2.2.2.1 = some ty ∧ narrow ty (.int v) = .int v ∧ decode d.2.1 pc = .ok (.ireturn, 1)) ∨ (∃ v : Int64, r = some (.long v) ∧ d.2.2.2.1 = some .long ∧ decode d.2.1 pc = .ok (.lreturn, 1))
def Pre (dC : Nat → ClassId) (dI : Nat → Nat → Nat) (dA : Nat → ClassId) (ad aV : Nat → Nat) (sz : Nat) (u : Sg) : State → Prop := fun U => U.heap.size = sz ∧ va_P (dC, dI) vwCl (wor dA ad u) U.heap ∧ va_K (dC, dI) vwCl (tyA dA) U ∧ va_D (fun _ => True) (wor dA ad u) ∧ Tx ad aV (AA ad sz) U U.heap
def QcR (dC : Nat → ClassId) (dI : Nat → Nat → Nat) (dA : Nat → ClassId) (ad : Nat → Nat) (sz : Nat) (r : Option Value) (u1 : Sg) : Array Value → State → Outcome → State → Prop := fun _ st oc t => oc = .returned r ∧ va_P (dC, dI) vwCl (wor dA ad u1) t.heap ∧ va_F (AA ad sz) st t
/-- the method's contract out of a run -/
def MetR (l : Launch) (d : MD) (As : List Value) (u : Sg) (r : Option Value) (u1 : Sg) : Prop :=
  ∀ (dC : Nat → ClassId) (dI : Nat → Nat → Nat) (dA : Nat → ClassId) (ad aV : Nat → Nat) (sz : Nat), Met l d.1 (wsD d) { frames := d.2.2.2.2.1, cells := 0, slots := 0, locals := d.2.2.2.2.2 } (va_Pc (As.map (cvv ad)) (Pre dC dI dA ad aV sz u)) (QcR dC dI dA ad sz r u1) 0 0 (AA ad sz)
/-- from a state of a method on -/
def BodyR (l : Launch) (d : MD) (st : St) (r : Option Value) (u1 : Sg) : Prop :=
  ∀ (dC : Nat → ClassId) (dI : Nat → Nat → Nat) (dA : Nat → ClassId) (ad aV : Nat → Nat) (A : Nat → Prop) (p : Program) (e : Env) (R : Room) (s : State) (m : MethodId) (args : Array Value) (below : List Frame) (meth : Method) (c : Code) (H : Heap) (locs : List Loc) (ls : Array Slot) (Q : State → Prop),
    Cx dC dI dA ad aV A p R s m args c d.1.cls d.2.1 d.2.2.1 d.2.2.2.2.1 d.2.2.2.2.2 → Hd dC dI dA ad A s.heap d.2.2.1 st.2.1 st.2.2.2 H locs ls →
    (∀ (H1 : Heap) (locs1 : List Loc) (ls1 : Array Slot) (pc1 : Nat), va_P (dC, dI) vwCl (wor dA ad u1) H1 → va_D A (wor dA ad u1) → va_S A s.heap H1 locs1 → RetAt d pc1 r → W p l e R s m args below meth c H1 locs1 0 0 Q (F0 m pc1 ls1 r.toList)) →
    W p l e R s m args below meth c H locs 0 0 Q (F0 m st.1 ls (st.2.2.1.map (cvv ad)))
theorem slc_app : ∀ (a b : List Value), slc (a ++ b) = slc a + slc b
  | [], b => by simp [slc]
  | v :: t, b => by simp [slc, slc_app t b]; omega
theorem slc_rev : ∀ (a : List Value), slc a.reverse = slc a
  | [] => rfl
  | v :: t => by simp [slc, slc_app, slc_rev t]; omega
theorem lg_sl_len (ad : Nat → Nat) : ∀ (a : List Value), (lg_sl (a.map (cvv ad))).length = slc a
  | [] => rfl
  | v :: t => by
    have h := lg_sl_len ad t
    have e : lg_sl ((v :: t).map (cvv ad)) = (if (cvv ad v).category = 2 then [.val (cvv ad v), .second] else [.val (cvv ad v)]) ++ lg_sl (t.map (cvv ad)) := by simp [lg_sl]
    rw [e, List.length_append, h, slc, cvv_cat]
    rcases lv_cat v with hc | hc
    · rw [hc]; rfl
    · rw [hc]; rfl
theorem asl_none (ad : Nat → Nat) : ∀ (n i : Nat), asl ad i (List.replicate n none) = []
  | 0, _ => rfl
  | n + 1, i => by rw [List.replicate_succ, asl, asl_none ad n]
theorem ent_args (ad : Nat → Nat) : ∀ (As : List Value) (n i : Nat) (q : Nat × Value), q ∈ asl ad i (ent n As) → q ∈ lv_args i (As.map (cvv ad))
  | [], n, i, q, h => by
    have : ent n [] = List.replicate n none := by cases n <;> rfl
    rw [this, asl_none] at h
    cases h
  | v :: t, 0, i, q, h => by simp [ent, asl] at h
  | .long x :: t, 1, i, q, h => by
    have h : q ∈ [(i, Value.long x)] := h
    rw [List.map_cons, lv_args]
    rw [List.mem_singleton] at h
    rw [h]
    exact List.mem_cons_self
  | .long x :: t, n + 2, i, q, h => by
    have h : q ∈ (i, Value.long x) :: asl ad (i + 2) (ent n t) := h
    rw [List.map_cons, lv_args]
    rcases List.mem_cons.mp h with h | h
    · rw [h]; exact List.mem_cons_self
    · exact List.mem_cons_of_mem _ (ent_args ad t n (i + 2) q h)
  | .double x :: t, 1, i, q, h => by
    have h : q ∈ [(i, Value.double x)] := h
    rw [List.map_cons, lv_args]
    rw [List.mem_singleton] at h
    rw [h]
    exact List.mem_cons_self
  | .double x :: t, n + 2, i, q, h => by
    have h : q ∈ (i, Value.double x) :: asl ad (i + 2) (ent n t) := h
    rw [List.map_cons, lv_args]
    rcases List.mem_cons.mp h with h | h
    · rw [h]; exact List.mem_cons_self
    · exact List.mem_cons_of_mem _ (ent_args ad t n (i + 2) q h)
  | .int x :: t, n + 1, i, q, h => by
    have h : q ∈ (i, Value.int x) :: asl ad (i + 1) (ent n t) := h
    rw [List.map_cons, lv_args]
    rcases List.mem_cons.mp h with h | h
    · rw [h]; exact List.mem_cons_self
    · exact List.mem_cons_of_mem _ (ent_args ad t n (i + 1) q h)
  | .ref x :: t, n + 1, i, q, h => by
    have h : q ∈ (i, Value.ref (ad x)) :: asl ad (i + 1) (ent n t) := h
    rw [List.map_cons, lv_args]
    rcases List.mem_cons.mp h with h | h
    · rw [h]; exact List.mem_cons_self
    · exact List.mem_cons_of_mem _ (ent_args ad t n (i + 1) q h)
  | .null :: t, n + 1, i, q, h => by
    have h : q ∈ (i, Value.null) :: asl ad (i + 1) (ent n t) := h
    rw [List.map_cons, lv_args]
    rcases List.mem_cons.mp h with h | h
    · rw [h]; exact List.mem_cons_self
    · exact List.mem_cons_of_mem _ (ent_args ad t n (i + 1) q h)
  | .float x :: t, n + 1, i, q, h => by
    have h : q ∈ (i, Value.float x) :: asl ad (i + 1) (ent n t) := h
    rw [List.map_cons, lv_args]
    rcases List.mem_cons.mp h with h | h
    · rw [h]; exact List.mem_cons_self
    · exact List.mem_cons_of_mem _ (ent_args ad t n (i + 1) q h)
  | .retAddr x :: t, n + 1, i, q, h => by
    have h : q ∈ (i, Value.retAddr x) :: asl ad (i + 1) (ent n t) := h
    rw [List.map_cons, lv_args]
    rcases List.mem_cons.mp h with h | h
    · rw [h]; exact List.mem_cons_self
    · exact List.mem_cons_of_mem _ (ent_args ad t n (i + 1) q h)

theorem met_of {l : Launch} {d : MD} {n : Nat} (hd : MDok d n) {As : List Value} {u : Sg} {r : Option Value} {u1 : Sg} (hs : slc As ≤ d.2.2.1) (hb : BodyR l d (0, ent d.2.2.1 As, [], u) r u1) : MetR l d As u r u1 := by
  intro dC dI dA ad aV sz
  refine Met.ofW (cc := d.2.1) (maxL := d.2.2.1) (ret := d.2.2.2.1) hd.1 rfl ?_
  intro p e s m args below meth c s₁ B hml hv
  obtain ⟨rfl, hsz, hP, hK, hD0, hT⟩ := hv
  have hts := atoms_spec (ws := wsD d) B.pre
  have hown : s.vm.findClass d.1.cls = some m.cls := findClass_of_methodNamed B.named
  subst hsz
  have hl := lv_entry (As.map (cvv ad)) (n := d.2.2.1) (by rw [lg_sl_len]; exact hs)
  rw [lg_entry_eq]
  refine hb dC dI dA ad aV (AA ad s.heap.size) p e _ s m _ below meth c s.heap [] _ _ ⟨B.exec, B.bytes, hml, hown, fun w hw => hts w (List.mem_cons_of_mem _ hw), hK, Nat.le_refl _, Nat.le_refl _, hT, fun q hq => Or.inr hq⟩ ⟨hP, ⟨hD0.1, fun k q hq => ?_⟩, va_S.rf, lv_mono hl (fun q hq => ent_args ad As _ 0 q hq)⟩ ?_
  · obtain ⟨h1, rfl⟩ := wor_of hq
    exact Or.inl ⟨k, h1, rfl⟩
  · intro H1 locs1 ls1 pc1 hP1 hD1 hS1 hr
    have hlocks := B.notSynchronized
    have hret := B.returns
    rcases hr with ⟨rfl, h2, h3⟩ | ⟨v, ty, rfl, h2, h3, h4⟩ | ⟨v, rfl, h2, h3⟩
    · exact W.vret B.exec B.bytes (hret.trans h2) (fun t ht hW => ⟨rfl, by rw [ht]; exact hP1, hS1.F ht⟩) hS1.2.2 h3 hlocks
    · exact W.zret B.exec B.bytes (hret.trans h2) h3 (fun t ht hW => ⟨rfl, by rw [ht]; exact hP1, hS1.F ht⟩) hS1.2.2 h4 hlocks
    · exact W.lret B.exec B.bytes (hret.trans h2) (fun t ht hW => ⟨rfl, by rw [ht]; exact hP1, hS1.F ht⟩) hS1.2.2 h3 hlocks
theorem good_tbl : ∀ w ∈ gtb, w ∈ gtb ∧ ((w.onTables && w.keeps) = true ∨ ∃ ty, w = .arrayClass ty) := by
  exact fun w hw => ⟨hw, good_of_word (List.mem_filter.mp hw).2⟩
theorem good_wsD {d : MD} {n : Nat} (hd : MDok d n) : GoodIn gtb (wsD d) := by
  intro w hw
  rcases List.mem_cons.mp hw with rfl | hw
  · exact good_tbl _ hd.2.1
  · exact good_tbl w hw
section CALLR
variable {p : Program} {l : Launch} {e : Env} {R : Room} {s : State} {m : MethodId} {args : Array Value} {below : List Frame} {meth : Method} {c : Code} {H : Heap} {locs : List Loc} {cells slots : Nat} {Q : State → Prop}
theorem callR {dC : Nat → ClassId} {dI : Nat → Nat → Nat} {dA : Nat → ClassId} {ad : Nat → Nat} {sz : Nat} {r : Option Value} {u1 : Sg} {A : Nat → Prop} {a : Array Value} {pc : Nat} {ls : Array Slot} {st0 rest : List Value} (hr : va_Run p l e R s m args below meth c H locs cells slots 0 0 (F0 m pc ls st0) rest (QcR dC dI dA ad sz r u1 a) (AA ad sz)) (hS : va_S A s.heap H locs) (hA : ∀ q, AA ad sz q → A q)
    (kk : ∀ (H1 : Heap) (locs1 : List Loc), va_P (dC, dI) vwCl (wor dA ad u1) H1 → va_S A s.heap H1 locs1 → W p l e R s m args below meth c H1 locs1 cells slots Q (F0 m (pc + 3) ls (r.toList ++ rest))) : W p l e R s m args below meth c H locs cells slots Q (F0 m pc ls st0) := by
  intro T hT X
  obtain ⟨v, st₀, t, T', L, h0, X', hL, e1, e2, ⟨hv, hP1, hz, hk⟩, st⟩ := hr T hT X
  cases hv
  rw [h0] at hz hk
  obtain ⟨t2, a1, b1⟩ := kk T'.heap (locs ++ L) (by rw [e1]; exact hP1)
    ⟨Nat.le_trans hS.1 (by rw [e1]; exact hz), fun q h1 h2 => by rw [e1, hk q (Nat.lt_of_lt_of_le h1 hS.1) (fun z => h2 (hA q z))]; exact hS.2.1 q h1 h2, fun q hq => by
      rcases List.mem_append.mp hq with h | h
      · exact hS.2.2 q h
      · exact hA _ (hL q h)⟩ T' rfl X'
  exact ⟨t2, st t2 a1, b1⟩
theorem Pre_blind {dC : Nat → ClassId} {dI : Nat → Nat → Nat} {dA : Nat → ClassId} {ad aV : Nat → Nat} {sz : Nat} {u : Sg} {av : List Value} : FrameBlind (va_Pc av (Pre dC dI dA ad aV sz u)) :=
  fun a U g mk q => ⟨q.1, q.2.1, q.2.2.1, va_K.moved (u := U) (U := U.calling g mk a) (Vm.Alike.refl U.vm) q.2.2.2.1, q.2.2.2.2.1, Tx.same (u := U) (U := U.calling g mk a) rfl q.2.2.2.2.2⟩
theorem AA_in {dC : Nat → ClassId} {dI : Nat → Nat → Nat} {dA : Nat → ClassId} {ad : Nat → Nat} {A : Nat → Prop} {u : Sg} (hD : va_D A (wor dA ad u)) (hS : va_S A s.heap H locs) (hA : ∀ q, s.heap.size ≤ q → A q) : ∀ q, AA ad H.size q → A q := by
  intro q hq
  rcases hq with ⟨k, hk, rfl⟩ | hq
  · exact hD.2 k _ (wor_at dA ad u hk)
  · exact hA q (Nat.le_trans hS.1 hq)
/-- a call of a method that is proved: the words, the room, the world -/
theorem callW {dC : Nat → ClassId} {dI : Nat → Nat → Nat} {dA : Nat → ClassId} {ad aV : Nat → Nat} {A : Nat → Prop} {own : String} {cc : ByteArray} {mx fr lc : Nat} (C0 : Cx dC dI dA ad aV A p R s m args c own cc mx fr lc) {L : List (Option Value)} {u : Sg} {ls : Array Slot} (h0 : Hd dC dI dA ad A s.heap mx L u H locs ls) {d' : MD} {idx n rc : Nat} (hd : MDok d' n) (hfr : d'.2.2.2.2.1 + 1 ≤ fr) (hlc : 8 + (d'.2.2.1 + 11) + d'.2.2.2.2.2 ≤ lc) (hl : Cond.methodLink own idx d'.1 ∈ gtb) {As S' : List Value} {r : Option Value} {u1 : Sg} (hM : MetR l d' As u r u1) (hk : rck rc As = true) (hz : slc S' ≤ 8) {pc : Nat} (hc : cells ≤ R.cells) (hs : slots ≤ R.slots)
    (hw : (As.length = n + 1 ∧ rc < 4 ∧ (∃ q, vwCl[rc]? = some q ∧ q.1 = d'.1.cls) ∧ Cond.instanceMethod d'.1 ∈ gtb ∧ Cond.selects d'.1.cls d'.1 d'.1 ∈ gtb ∧ decode cc pc = .ok (.invokevirtual idx, 3)) ∨ (As.length = n ∧ Cond.static d'.1 ∈ gtb ∧ decode cc pc = .ok (.invokestatic idx, 3)))
    (kk : ∀ (H1 : Heap) (locs1 : List Loc), Hd dC dI dA ad A s.heap mx L u1 H1 locs1 ls → W p l e R s m args below meth c H1 locs1 cells slots Q (F0 m (pc + 3) ls (r.toList ++ S'.map (cvv ad)))) : W p l e R s m args below meth c H locs cells slots Q (F0 m pc ls ((As.map (cvv ad)).reverse ++ S'.map (cvv ad))) := by
  obtain ⟨hx, hb, hml, hown, hts, hK, hR1, hR2, hT, hA⟩ := C0
  obtain ⟨hP, hD, hS, hv⟩ := h0
  have hAA := AA_in (dC := dC) (dI := dI) hD hS hA
  have cb : CallB R s args own idx d'.1 d'.2.1 d'.2.2.1 d'.2.2.2.1 (wsD d') { frames := d'.2.2.2.2.1, cells := 0, slots := 0, locals := d'.2.2.2.2.2 } 0 0 n := callB_of n hts (good_wsD hd) rfl rfl rfl (hts _ hd.2.2.1) (hts _ hl) hd.2.2.2 ⟨Nat.le_trans hfr hR1, Nat.le_trans hlc hR2⟩
  have hpre : ∀ U : State, U.heap = H → s.WarmedH U.vm → Pre dC dI dA ad aV H.size u U := fun U hU hW => ⟨by rw [hU], by rw [hU]; exact hP, va_K.moved hW.alike hK, hD.weaken (fun _ _ _ _ => trivial), by rw [hU]; exact ((hT.kept hS.2.1).moved hW).narrow hAA⟩
  rcases hw with ⟨hn, hrc, ⟨q, hq1, hq2⟩, hi, hse, hdg⟩ | ⟨hn, hst, hdg⟩
  · match As, hM, hk, hn with
    | .ref b :: As, hM, hk, hn =>
      have hbc : lyC b = rc := by
        have : (Nat.beq (lyC b) rc || Nat.beq rc 9) = true := hk
        rcases Bool.or_eq_true_iff.mp this with h | h
        · exact beq_of h
        · have := beq_of h; omega
      have hrcv := va_recv (H := H) hK hP hq1 (wor_obj hbc hrc)
      rw [hq2] at hrcv
      refine callR (va_runV (As := As.map (cvv ad)) (rest := S'.map (cvv ad)) ⟨hx, hb, hml, hown, hts⟩ (hM dC dI dA ad aV H.size) ⟨cb, hts _ hi, hts _ hse⟩ ⟨Pre_blind, hrcv, fun U hU hW => ⟨rfl, hpre U hU hW⟩⟩ rfl (by rw [List.length_map]; simpa using hn) hv.1 (by simp [cvv]) (lv_room (by rw [slc_sum]; exact hz)) hdg ⟨hc, hs⟩) hS hAA (fun H1 locs1 hP1 hS1 => kk H1 locs1 ⟨hP1, wor_D hD, hS1, hv⟩)
    | .int _ :: _, _, hk, _ => exact absurd (beq_of hk) (by omega)
    | .long _ :: _, _, hk, _ => exact absurd (beq_of hk) (by omega)
    | .float _ :: _, _, hk, _ => exact absurd (beq_of hk) (by omega)
    | .double _ :: _, _, hk, _ => exact absurd (beq_of hk) (by omega)
    | .null :: _, _, hk, _ => exact absurd (beq_of hk) (by omega)
    | .retAddr _ :: _, _, hk, _ => exact absurd (beq_of hk) (by omega)
    | [], _, hk, _ => exact absurd (beq_of hk) (by omega)
  · exact callR (va_runS (As := As.map (cvv ad)) (rest := S'.map (cvv ad)) ⟨hx, hb, hml, hown, hts⟩ (hM dC dI dA ad aV H.size) ⟨cb, hts _ hst⟩ ⟨Pre_blind, fun U hU hW => ⟨rfl, hpre U hU hW⟩⟩ rfl (by rw [List.length_map]; exact hn) hv.1 rfl (lv_room (by rw [slc_sum]; exact hz)) hdg ⟨hc, hs⟩) hS hAA (fun H1 locs1 hP1 hS1 => kk H1 locs1 ⟨hP1, wor_D hD, hS1, hv⟩)
end CALLR
theorem body {P : PT} {I : Nat → Option MD} (l : Launch) (hT : ∀ m pc ai, P m pc = some ai → ∃ d, I m = some d ∧ AIok I d pc ai) : ∀ (n m : Nat) (d : MD) (st : St) (r : Option Value) (u1 : Sg), I m = some d → rn P n m st = some (r, u1) → BodyR l d st r u1
  | 0, m, d, st, r, u1, _, h => by simp [rn] at h
  | n + 1, m, d, st, r, u1, hI, h => by
    intro dC dI dA ad aV A p e R s m' args below meth c H locs ls Q C0 h0 hret
    obtain ⟨pc, L, S, u⟩ := st
    rw [rn] at h
    dsimp only at h h0 ⊢
    cases hp : P m pc with
    | none => rw [hp] at h; cases h
    | some a =>
      obtain ⟨d2, hI2, hok⟩ := hT m pc a hp
      rw [hI] at hI2
      cases hI2
      rw [hp] at h
      rcases a with f | k | ⟨y, na, mx, rc⟩
      · dsimp only at h
        cases hf : f (pc, L, S, u) with
        | none => rw [hf] at h; cases h
        | some st' =>
          rw [hf] at h
          exact hok dC dI dA ad aV A p l e R s m' args below meth c H locs ls L S u st' Q C0 h0 hf (fun H1 locs1 ls1 h1 => body l hT n m d st' r u1 hI h dC dI dA ad aV A p e R s m' args below meth c H1 locs1 ls1 Q C0 h1 hret)
      · dsimp only at h
        have hok : RetOK d pc k := hok
        split at h
        · cases h
          rcases hok with ⟨h1, h2, h3⟩ | ⟨h1, h2, h3⟩ | ⟨h1, h2, h3⟩ | ⟨h1, h2, h3⟩ <;> first | omega | skip
          exact hret H locs ls pc h0.1 h0.2.1 h0.2.2.1 (Or.inl ⟨rfl, h2, h3⟩)
        · cases h
          rcases hok with ⟨h1, h2, h3⟩ | ⟨h1, h2, h3⟩ | ⟨h1, h2, h3⟩ | ⟨h1, h2, h3⟩ <;> first | omega | skip
          exact hret H locs ls pc h0.1 h0.2.1 h0.2.2.1 (Or.inr (Or.inl ⟨_, _, rfl, h2, rfl, h3⟩))
        · cases h
          rcases hok with ⟨h1, h2, h3⟩ | ⟨h1, h2, h3⟩ | ⟨h1, h2, h3⟩ | ⟨h1, h2, h3⟩ <;> first | omega | skip
          exact hret H locs ls pc h0.1 h0.2.1 h0.2.2.1 (Or.inr (Or.inr ⟨_, rfl, h2, h3⟩))
        · split at h
          · rename_i hv
            cases h
            rcases hok with ⟨h1, h2, h3⟩ | ⟨h1, h2, h3⟩ | ⟨h1, h2, h3⟩ | ⟨h1, h2, h3⟩ <;> first | omega | skip
            exact hret H locs ls pc h0.1 h0.2.1 h0.2.2.1 (Or.inr (Or.inl ⟨_, _, rfl, h2, by rcases hv with rfl | rfl <;> rfl, h3⟩))
          · cases h
        · cases h
      · dsimp only at h
        obtain ⟨d', idx, k, hI', hd', hmx, hfr, hlc, hl, hw⟩ := hok
        cases hz : (Nat.ble na S.length && Nat.ble (slc (S.take na)) mx && Nat.ble (slc (S.drop na)) 8 && rck rc (S.take na).reverse) with
        | false => rw [hz] at h; cases h
        | true =>
          rw [hz] at h
          dsimp only [cond] at h
          simp only [Bool.and_eq_true] at hz
          obtain ⟨⟨⟨z1, z2⟩, z3⟩, z4⟩ := hz
          have z1 := Nat.le_of_ble_eq_true z1
          have z2 := Nat.le_of_ble_eq_true z2
          have z3 := Nat.le_of_ble_eq_true z3
          cases hc : rn P n y (0, ent mx (S.take na).reverse, [], u) with
          | none => rw [hc] at h; cases h
          | some q =>
            obtain ⟨r2, u2⟩ := q
            rw [hc] at h
            dsimp only at h
            subst hmx
            have hM : MetR l d' (S.take na).reverse u r2 u2 := met_of hd' (by rw [slc_rev]; exact z2) (body l hT n y d' _ r2 u2 hI' hc)
            have hlen : (S.take na).reverse.length = na := by rw [List.length_reverse, List.length_take]; omega
            have hst : S.map (cvv ad) = (((S.take na).reverse).map (cvv ad)).reverse ++ (S.drop na).map (cvv ad) := by
              rw [List.map_reverse, List.reverse_reverse, ← List.map_append, List.take_append_drop]
            rw [hst]
            refine callW C0 h0 hd' hfr hlc hl hM z4 z3 (Nat.zero_le _) (Nat.zero_le _) (by rw [hlen]; exact hw) (fun H1 locs1 h1 => ?_)
            have := body l hT n m d _ r u1 hI h dC dI dA ad aV A p e R s m' args below meth c H1 locs1 ls Q C0 h1 hret
            rw [List.map_append, isR_map (rn_isR P n y _ r2 u2 hc)] at this
            exact this
end
section
/-! ===== texts: length and charAt of the literals, through the library ===== -/
theorem tw_iS : Cond.initialized "java/lang/String" ∈ gtb := gtb_of (List.mem_append_right _ (List.mem_of_getElem? (i := 5) (by decide +kernel))) (by decide +kernel)
theorem tw_iL : Cond.initialized "java/lang/StringLatin1" ∈ gtb := gtb_of (List.mem_append_right _ (List.mem_of_getElem? (i := 6) (by decide +kernel))) (by decide +kernel)
theorem tw_iP : Cond.initialized "jdk/internal/util/Preconditions" ∈ gtb := gtb_of (List.mem_append_right _ (List.mem_of_getElem? (i := 7) (by decide +kernel))) (by decide +kernel)
theorem tw_c_co : Cond.code ⟨"java/lang/String", "coder", "()B"⟩ prog_9_method_152_code 1 (some .byte) ∈ gtb := gtb_of (List.mem_append_right _ (List.mem_of_getElem? (i := 225) (by decide +kernel))) (by decide +kernel)
theorem tw_i_co : Cond.instanceMethod ⟨"java/lang/String", "coder", "()B"⟩ ∈ gtb := gtb_of (List.mem_append_right _ (List.mem_of_getElem? (i := 223) (by decide +kernel))) (by decide +kernel)
theorem tw_s_co : Cond.selects "java/lang/String" ⟨"java/lang/String", "coder", "()B"⟩ ⟨"java/lang/String", "coder", "()B"⟩ ∈ gtb := gtb_of (List.mem_append_right _ (List.mem_of_getElem? (i := 224) (by decide +kernel))) (by decide +kernel)
def mdT_co : MD := (⟨"java/lang/String", "coder", "()B"⟩, prog_9_method_152_code, 1, (some .byte), 0, 0)
theorem mdT_co_ok : MDok mdT_co 0 := ⟨by decide +kernel, tw_c_co, tw_iS, by decide +kernel, by decide +kernel, by decide +kernel⟩
theorem tw_c_il : Cond.code ⟨"java/lang/String", "isLatin1", "()Z"⟩ prog_9_method_154_code 1 (some .boolean) ∈ gtb := gtb_of (List.mem_append_right _ (List.mem_of_getElem? (i := 235) (by decide +kernel))) (by decide +kernel)
theorem tw_i_il : Cond.instanceMethod ⟨"java/lang/String", "isLatin1", "()Z"⟩ ∈ gtb := gtb_of (List.mem_append_right _ (List.mem_of_getElem? (i := 233) (by decide +kernel))) (by decide +kernel)
theorem tw_s_il : Cond.selects "java/lang/String" ⟨"java/lang/String", "isLatin1", "()Z"⟩ ⟨"java/lang/String", "isLatin1", "()Z"⟩ ∈ gtb := gtb_of (List.mem_append_right _ (List.mem_of_getElem? (i := 234) (by decide +kernel))) (by decide +kernel)
def mdT_il : MD := (⟨"java/lang/String", "isLatin1", "()Z"⟩, prog_9_method_154_code, 1, (some .boolean), 0, 0)
theorem mdT_il_ok : MDok mdT_il 0 := ⟨by decide +kernel, tw_c_il, tw_iS, by decide +kernel, by decide +kernel, by decide +kernel⟩
theorem tw_c_pc : Cond.code ⟨"jdk/internal/util/Preconditions", "checkIndex", "(IILjava/util/function/BiFunction;)I"⟩ prog_13_method_11_code 3 (some .int) ∈ gtb := gtb_of (List.mem_append_right _ (List.mem_of_getElem? (i := 246) (by decide +kernel))) (by decide +kernel)
theorem tw_t_pc : Cond.static ⟨"jdk/internal/util/Preconditions", "checkIndex", "(IILjava/util/function/BiFunction;)I"⟩ ∈ gtb := gtb_of (List.mem_append_right _ (List.mem_of_getElem? (i := 245) (by decide +kernel))) (by decide +kernel)
def mdT_pc : MD := (⟨"jdk/internal/util/Preconditions", "checkIndex", "(IILjava/util/function/BiFunction;)I"⟩, prog_13_method_11_code, 3, (some .int), 0, 0)
theorem mdT_pc_ok : MDok mdT_pc 3 := ⟨by decide +kernel, tw_c_pc, tw_iP, by decide +kernel, by decide +kernel, by decide +kernel⟩
theorem tw_c_sc : Cond.code ⟨"java/lang/String", "checkIndex", "(II)V"⟩ prog_9_method_155_code 2 none ∈ gtb := gtb_of (List.mem_append_right _ (List.mem_of_getElem? (i := 241) (by decide +kernel))) (by decide +kernel)
theorem tw_t_sc : Cond.static ⟨"java/lang/String", "checkIndex", "(II)V"⟩ ∈ gtb := gtb_of (List.mem_append_right _ (List.mem_of_getElem? (i := 240) (by decide +kernel))) (by decide +kernel)
def mdT_sc : MD := (⟨"java/lang/String", "checkIndex", "(II)V"⟩, prog_9_method_155_code, 2, none, 1, 22)
theorem mdT_sc_ok : MDok mdT_sc 2 := ⟨by decide +kernel, tw_c_sc, tw_iS, by decide +kernel, by decide +kernel, by decide +kernel⟩
theorem tw_c_lc : Cond.code ⟨"java/lang/StringLatin1", "charAt", "([BI)C"⟩ prog_10_method_2_code 2 (some .char) ∈ gtb := gtb_of (List.mem_append_right _ (List.mem_of_getElem? (i := 238) (by decide +kernel))) (by decide +kernel)
theorem tw_t_lc : Cond.static ⟨"java/lang/StringLatin1", "charAt", "([BI)C"⟩ ∈ gtb := gtb_of (List.mem_append_right _ (List.mem_of_getElem? (i := 237) (by decide +kernel))) (by decide +kernel)
def mdT_lc : MD := (⟨"java/lang/StringLatin1", "charAt", "([BI)C"⟩, prog_10_method_2_code, 2, (some .char), 2, 43)
theorem mdT_lc_ok : MDok mdT_lc 2 := ⟨by decide +kernel, tw_c_lc, tw_iL, by decide +kernel, by decide +kernel, by decide +kernel⟩
theorem tw_c_ca : Cond.code ⟨"java/lang/String", "charAt", "(I)C"⟩ prog_9_method_56_code 2 (some .char) ∈ gtb := gtb_of (List.mem_append_right _ (List.mem_of_getElem? (i := 231) (by decide +kernel))) (by decide +kernel)
theorem tw_i_ca : Cond.instanceMethod ⟨"java/lang/String", "charAt", "(I)C"⟩ ∈ gtb := gtb_of (List.mem_append_right _ (List.mem_of_getElem? (i := 229) (by decide +kernel))) (by decide +kernel)
theorem tw_s_ca : Cond.selects "java/lang/String" ⟨"java/lang/String", "charAt", "(I)C"⟩ ⟨"java/lang/String", "charAt", "(I)C"⟩ ∈ gtb := gtb_of (List.mem_append_right _ (List.mem_of_getElem? (i := 230) (by decide +kernel))) (by decide +kernel)
def mdT_ca : MD := (⟨"java/lang/String", "charAt", "(I)C"⟩, prog_9_method_56_code, 2, (some .char), 3, 64)
theorem mdT_ca_ok : MDok mdT_ca 1 := ⟨by decide +kernel, tw_c_ca, tw_iS, by decide +kernel, by decide +kernel, by decide +kernel⟩
theorem tw_c_ln : Cond.code ⟨"java/lang/String", "length", "()I"⟩ prog_9_method_54_code 1 (some .int) ∈ gtb := gtb_of (List.mem_append_right _ (List.mem_of_getElem? (i := 221) (by decide +kernel))) (by decide +kernel)
theorem tw_i_ln : Cond.instanceMethod ⟨"java/lang/String", "length", "()I"⟩ ∈ gtb := gtb_of (List.mem_append_right _ (List.mem_of_getElem? (i := 219) (by decide +kernel))) (by decide +kernel)
theorem tw_s_ln : Cond.selects "java/lang/String" ⟨"java/lang/String", "length", "()I"⟩ ⟨"java/lang/String", "length", "()I"⟩ ∈ gtb := gtb_of (List.mem_append_right _ (List.mem_of_getElem? (i := 220) (by decide +kernel))) (by decide +kernel)
def mdT_ln : MD := (⟨"java/lang/String", "length", "()I"⟩, prog_9_method_54_code, 1, (some .int), 1, 20)
theorem mdT_ln_ok : MDok mdT_ln 0 := ⟨by decide +kernel, tw_c_ln, tw_iS, by decide +kernel, by decide +kernel, by decide +kernel⟩
theorem tw_l_co : Cond.methodLink "java/lang/String" 335 ⟨"java/lang/String", "coder", "()B"⟩ ∈ gtb := gtb_of (List.mem_append_right _ (List.mem_of_getElem? (i := 222) (by decide +kernel))) (by decide +kernel)
theorem tw_l_il : Cond.methodLink "java/lang/String" 492 ⟨"java/lang/String", "isLatin1", "()Z"⟩ ∈ gtb := gtb_of (List.mem_append_right _ (List.mem_of_getElem? (i := 232) (by decide +kernel))) (by decide +kernel)
theorem tw_l_lc : Cond.methodLink "java/lang/String" 495 ⟨"java/lang/StringLatin1", "charAt", "([BI)C"⟩ ∈ gtb := gtb_of (List.mem_append_right _ (List.mem_of_getElem? (i := 236) (by decide +kernel))) (by decide +kernel)
theorem tw_l_sc : Cond.methodLink "java/lang/StringLatin1" 9 ⟨"java/lang/String", "checkIndex", "(II)V"⟩ ∈ gtb := gtb_of (List.mem_append_right _ (List.mem_of_getElem? (i := 239) (by decide +kernel))) (by decide +kernel)
theorem tw_l_pc : Cond.methodLink "java/lang/String" 1059 ⟨"jdk/internal/util/Preconditions", "checkIndex", "(IILjava/util/function/BiFunction;)I"⟩ ∈ gtb := gtb_of (List.mem_append_right _ (List.mem_of_getElem? (i := 244) (by decide +kernel))) (by decide +kernel)
theorem tw_f_cs : Cond.fieldLink "java/lang/String" 38 "java/lang/String" "COMPACT_STRINGS" "Z" ∈ gtb := gtb_of (List.mem_append_right _ (List.mem_of_getElem? (i := 226) (by decide +kernel))) (by decide +kernel)
theorem tw_f_va : Cond.fieldLink "java/lang/String" 9 "java/lang/String" "value" "[B" ∈ gtb := gtb_of (List.mem_append_right _ (List.mem_of_getElem? (i := 1060) (by decide +kernel))) (by decide +kernel)
theorem tw_f_cd : Cond.fieldLink "java/lang/String" 15 "java/lang/String" "coder" "B" ∈ gtb := gtb_of (List.mem_append_right _ (List.mem_of_getElem? (i := 1061) (by decide +kernel))) (by decide +kernel)
theorem tw_f_si : Cond.fieldLink "java/lang/String" 1053 "jdk/internal/util/Preconditions" "SIOOBE_FORMATTER" "Ljava/util/function/BiFunction;" ∈ gtb := gtb_of (List.mem_append_right _ (List.mem_of_getElem? (i := 242) (by decide +kernel))) (by decide +kernel)
theorem td_co_0 : decode prog_9_method_152_code 0 = .ok (.getstatic 38, 3) := by decide +kernel
theorem td_co_3 : decode prog_9_method_152_code 3 = .ok (.ifCond .eq 10, 3) := by decide +kernel
theorem td_co_6 : decode prog_9_method_152_code 6 = .ok (.aload_n 0, 1) := by decide +kernel
theorem td_co_7 : decode prog_9_method_152_code 7 = .ok (.getfield 15, 3) := by decide +kernel
theorem td_co_10 : decode prog_9_method_152_code 10 = .ok (.goto 4, 3) := by decide +kernel
theorem td_co_14 : decode prog_9_method_152_code 14 = .ok (.ireturn, 1) := by decide +kernel
theorem td_il_0 : decode prog_9_method_154_code 0 = .ok (.getstatic 38, 3) := by decide +kernel
theorem td_il_3 : decode prog_9_method_154_code 3 = .ok (.ifCond .eq 14, 3) := by decide +kernel
theorem td_il_6 : decode prog_9_method_154_code 6 = .ok (.aload_n 0, 1) := by decide +kernel
theorem td_il_7 : decode prog_9_method_154_code 7 = .ok (.getfield 15, 3) := by decide +kernel
theorem td_il_10 : decode prog_9_method_154_code 10 = .ok (.ifCond .ne 7, 3) := by decide +kernel
theorem td_il_13 : decode prog_9_method_154_code 13 = .ok (.iconst 1, 1) := by decide +kernel
theorem td_il_14 : decode prog_9_method_154_code 14 = .ok (.goto 4, 3) := by decide +kernel
theorem td_il_18 : decode prog_9_method_154_code 18 = .ok (.ireturn, 1) := by decide +kernel
theorem td_pc_0 : decode prog_13_method_11_code 0 = .ok (.iload_n 0, 1) := by decide +kernel
theorem td_pc_1 : decode prog_13_method_11_code 1 = .ok (.ifCond .lt 8, 3) := by decide +kernel
theorem td_pc_4 : decode prog_13_method_11_code 4 = .ok (.iload_n 0, 1) := by decide +kernel
theorem td_pc_5 : decode prog_13_method_11_code 5 = .ok (.iload_n 1, 1) := by decide +kernel
theorem td_pc_6 : decode prog_13_method_11_code 6 = .ok (.if_icmp .lt 10, 3) := by decide +kernel
theorem td_pc_16 : decode prog_13_method_11_code 16 = .ok (.iload_n 0, 1) := by decide +kernel
theorem td_pc_17 : decode prog_13_method_11_code 17 = .ok (.ireturn, 1) := by decide +kernel
theorem td_sc_0 : decode prog_9_method_155_code 0 = .ok (.iload_n 0, 1) := by decide +kernel
theorem td_sc_1 : decode prog_9_method_155_code 1 = .ok (.iload_n 1, 1) := by decide +kernel
theorem td_sc_2 : decode prog_9_method_155_code 2 = .ok (.getstatic 1053, 3) := by decide +kernel
theorem td_sc_5 : decode prog_9_method_155_code 5 = .ok (.invokestatic 1059, 3) := by decide +kernel
theorem td_sc_8 : decode prog_9_method_155_code 8 = .ok (.pop, 1) := by decide +kernel
theorem td_sc_9 : decode prog_9_method_155_code 9 = .ok (.return_, 1) := by decide +kernel
theorem td_lc_0 : decode prog_10_method_2_code 0 = .ok (.iload_n 1, 1) := by decide +kernel
theorem td_lc_1 : decode prog_10_method_2_code 1 = .ok (.aload_n 0, 1) := by decide +kernel
theorem td_lc_2 : decode prog_10_method_2_code 2 = .ok (.arraylength, 1) := by decide +kernel
theorem td_lc_3 : decode prog_10_method_2_code 3 = .ok (.invokestatic 9, 3) := by decide +kernel
theorem td_lc_6 : decode prog_10_method_2_code 6 = .ok (.aload_n 0, 1) := by decide +kernel
theorem td_lc_7 : decode prog_10_method_2_code 7 = .ok (.iload_n 1, 1) := by decide +kernel
theorem td_lc_8 : decode prog_10_method_2_code 8 = .ok (.baload, 1) := by decide +kernel
theorem td_lc_9 : decode prog_10_method_2_code 9 = .ok (.sipush 255, 3) := by decide +kernel
theorem td_lc_12 : decode prog_10_method_2_code 12 = .ok (.iand, 1) := by decide +kernel
theorem td_lc_13 : decode prog_10_method_2_code 13 = .ok (.i2c, 1) := by decide +kernel
theorem td_lc_14 : decode prog_10_method_2_code 14 = .ok (.ireturn, 1) := by decide +kernel
theorem td_ca_0 : decode prog_9_method_56_code 0 = .ok (.aload_n 0, 1) := by decide +kernel
theorem td_ca_1 : decode prog_9_method_56_code 1 = .ok (.invokevirtual 492, 3) := by decide +kernel
theorem td_ca_4 : decode prog_9_method_56_code 4 = .ok (.ifCond .eq 12, 3) := by decide +kernel
theorem td_ca_7 : decode prog_9_method_56_code 7 = .ok (.aload_n 0, 1) := by decide +kernel
theorem td_ca_8 : decode prog_9_method_56_code 8 = .ok (.getfield 9, 3) := by decide +kernel
theorem td_ca_11 : decode prog_9_method_56_code 11 = .ok (.iload_n 1, 1) := by decide +kernel
theorem td_ca_12 : decode prog_9_method_56_code 12 = .ok (.invokestatic 495, 3) := by decide +kernel
theorem td_ca_15 : decode prog_9_method_56_code 15 = .ok (.ireturn, 1) := by decide +kernel
theorem td_ln_0 : decode prog_9_method_54_code 0 = .ok (.aload_n 0, 1) := by decide +kernel
theorem td_ln_1 : decode prog_9_method_54_code 1 = .ok (.getfield 9, 3) := by decide +kernel
theorem td_ln_4 : decode prog_9_method_54_code 4 = .ok (.arraylength, 1) := by decide +kernel
theorem td_ln_5 : decode prog_9_method_54_code 5 = .ok (.aload_n 0, 1) := by decide +kernel
theorem td_ln_6 : decode prog_9_method_54_code 6 = .ok (.invokevirtual 335, 3) := by decide +kernel
theorem td_ln_9 : decode prog_9_method_54_code 9 = .ok (.ishr, 1) := by decide +kernel
theorem td_ln_10 : decode prog_9_method_54_code 10 = .ok (.ireturn, 1) := by decide +kernel
/-- what holds where a text's method begins: the texts -/
def PreT (ad aV : Nat → Nat) (sz : Nat) : State → Prop := fun U => U.heap.size = sz ∧ Tx ad aV (fun q => sz ≤ q) U U.heap
def QcT (sz : Nat) (r : Option Value) : Array Value → State → Outcome → State → Prop := fun _ st oc t => oc = .returned r ∧ va_F (fun q => sz ≤ q) st t
/-- it answers r, nothing that was there changes -/
def MetT (l : Launch) (ad aV : Nat → Nat) (d : MD) (As : List Value) (r : Option Value) : Prop :=
  ∀ (sz : Nat), Met l d.1 (wsD d) { frames := d.2.2.2.2.1, cells := 0, slots := 0, locals := d.2.2.2.2.2 } (va_Pc As (PreT ad aV sz)) (QcT sz r) 0 0 (fun q => sz ≤ q)
/-- where a text's method stands -/
def CT (ad aV : Nat → Nat) (p : Program) (R : Room) (s : State) (m : MethodId) (args : Array Value) (c : Code) (own : String) (cc : ByteArray) (mx fr lc : Nat) (A : Nat → Prop) : Prop :=
  p.tables.exec = Jvm.exec ∧ c.code = cc ∧ c.maxLocals = mx ∧ s.vm.findClass own = some m.cls ∧ (∀ w ∈ gtb, w.before args s = true) ∧ fr ≤ R.frames ∧ lc ≤ R.locals ∧ Tx ad aV A s s.heap ∧ ∀ q, s.heap.size ≤ q → A q
theorem metT {l : Launch} {ad aV : Nat → Nat} {d : MD} {n : Nat} (hd : MDok d n) {As : List Value} {r : Option Value} (hs : (lg_sl As).length ≤ d.2.2.1)
    (hb : ∀ (A : Nat → Prop) (p : Program) (e : Env) (R : Room) (s : State) (m : MethodId) (args : Array Value) (below : List Frame) (meth : Method) (c : Code) (ls : Array Slot) (Q : State → Prop), CT ad aV p R s m args c d.1.cls d.2.1 d.2.2.1 d.2.2.2.2.1 d.2.2.2.2.2 A → lv_has ls d.2.2.1 (lv_args 0 As) →
      (∀ (H1 : Heap) (locs1 : List Loc) (ls1 : Array Slot) (pc1 : Nat), va_S A s.heap H1 locs1 → RetAt d pc1 r → W p l e R s m args below meth c H1 locs1 0 0 Q (F0 m pc1 ls1 r.toList)) → W p l e R s m args below meth c s.heap [] 0 0 Q (F0 m 0 ls [])) : MetT l ad aV d As r := by
  intro sz
  refine Met.ofW (cc := d.2.1) (maxL := d.2.2.1) (ret := d.2.2.2.1) hd.1 rfl ?_
  intro p e s m args below meth c s₁ B hml hv
  obtain ⟨rfl, hsz, hT⟩ := hv
  have hts := atoms_spec (ws := wsD d) B.pre
  have hown : s.vm.findClass d.1.cls = some m.cls := findClass_of_methodNamed B.named
  subst hsz
  have hl := lv_entry As (n := d.2.2.1) hs
  rw [lg_entry_eq]
  refine hb (fun q => s.heap.size ≤ q) p e _ s m _ below meth c _ _ ⟨B.exec, B.bytes, hml, hown, fun w hw => hts w (List.mem_cons_of_mem _ hw), Nat.le_refl _, Nat.le_refl _, hT, fun q hq => hq⟩ hl ?_
  intro H1 locs1 ls1 pc1 hS1 hr
  have hlocks := B.notSynchronized
  have hret := B.returns
  rcases hr with ⟨rfl, h2, h3⟩ | ⟨v, ty, rfl, h2, h3, h4⟩ | ⟨v, rfl, h2, h3⟩
  · exact W.vret B.exec B.bytes (hret.trans h2) (fun t ht hW => ⟨rfl, hS1.F ht⟩) hS1.2.2 h3 hlocks
  · exact W.zret B.exec B.bytes (hret.trans h2) h3 (fun t ht hW => ⟨rfl, hS1.F ht⟩) hS1.2.2 h4 hlocks
  · exact W.lret B.exec B.bytes (hret.trans h2) (fun t ht hW => ⟨rfl, hS1.F ht⟩) hS1.2.2 h3 hlocks
section CALLT
variable {p : Program} {l : Launch} {e : Env} {R : Room} {s : State} {m : MethodId} {args : Array Value} {below : List Frame} {meth : Method} {c : Code} {H : Heap} {locs : List Loc} {cells slots : Nat} {Q : State → Prop}
theorem runT {sz : Nat} {r : Option Value} {A : Nat → Prop} {a : Array Value} {pc : Nat} {ls : Array Slot} {st0 rest : List Value} (hr : va_Run p l e R s m args below meth c H locs cells slots 0 0 (F0 m pc ls st0) rest (QcT sz r a) (fun q => sz ≤ q)) (hS : va_S A s.heap H locs) (hsz : sz = H.size) (hA : ∀ q, s.heap.size ≤ q → A q)
    (kk : ∀ (H1 : Heap) (locs1 : List Loc), (∀ q, q < H.size → H1[q]? = H[q]?) → va_S A s.heap H1 locs1 → W p l e R s m args below meth c H1 locs1 cells slots Q (F0 m (pc + 3) ls (r.toList ++ rest))) : W p l e R s m args below meth c H locs cells slots Q (F0 m pc ls st0) := by
  subst hsz
  have hA' : ∀ q, H.size ≤ q → A q := fun q h => hA q (Nat.le_trans hS.1 h)
  intro T hT X
  obtain ⟨v, st₀, t, T', L, h0, X', hL, e1, e2, ⟨hv, hz, hk⟩, st⟩ := hr T hT X
  cases hv
  rw [h0] at hz hk
  have hk2 : ∀ q, q < H.size → T'.heap[q]? = H[q]? := fun q h => by rw [e1]; exact hk q h (Nat.not_le.mpr h)
  obtain ⟨t2, a1, b1⟩ := kk T'.heap (locs ++ L) hk2
    ⟨Nat.le_trans hS.1 (by rw [e1]; exact hz), fun q h1 h2 => by rw [hk2 q (Nat.lt_of_lt_of_le h1 hS.1)]; exact hS.2.1 q h1 h2, fun q hq => by
      rcases List.mem_append.mp hq with h | h
      · exact hS.2.2 q h
      · exact hA' _ (hL q h)⟩ T' rfl X'
  exact ⟨t2, st t2 a1, b1⟩
theorem PreT_blind {ad aV : Nat → Nat} {sz : Nat} {av : List Value} : FrameBlind (va_Pc av (PreT ad aV sz)) :=
  fun a U g mk q => ⟨q.1, q.2.1, Tx.same (u := U) (U := U.calling g mk a) rfl q.2.2⟩
/-- a call of a text's method -/
theorem callT {ad aV : Nat → Nat} {A : Nat → Prop} {own : String} {cc : ByteArray} {mx fr lc : Nat} (C0 : CT ad aV p R s m args c own cc mx fr lc A) (hS : va_S A s.heap H locs) {d' : MD} {idx n : Nat} (hd : MDok d' n) (hfr : d'.2.2.2.2.1 + 1 ≤ fr) (hlc : 8 + (d'.2.2.1 + 11) + d'.2.2.2.2.2 ≤ lc) (hl : Cond.methodLink own idx d'.1 ∈ gtb) {As rest : List Value} {r : Option Value} (hM : MetT l ad aV d' As r) (hz : (rest.map fun v => v.category).sum ≤ 8) {pc : Nat} {ls : Array Slot} (hls : ls.size = mx) (hc : cells ≤ R.cells) (hs : slots ≤ R.slots)
    (hw : (∃ i As', i < 4 ∧ As = .ref (ad (100 + i)) :: As' ∧ As'.length = n ∧ d'.1.cls = "java/lang/String" ∧ Cond.instanceMethod d'.1 ∈ gtb ∧ Cond.selects d'.1.cls d'.1 d'.1 ∈ gtb ∧ decode cc pc = .ok (.invokevirtual idx, 3)) ∨ (As.length = n ∧ Cond.static d'.1 ∈ gtb ∧ decode cc pc = .ok (.invokestatic idx, 3)))
    (kk : ∀ (H1 : Heap) (locs1 : List Loc), (∀ q, q < H.size → H1[q]? = H[q]?) → va_S A s.heap H1 locs1 → W p l e R s m args below meth c H1 locs1 cells slots Q (F0 m (pc + 3) ls (r.toList ++ rest))) : W p l e R s m args below meth c H locs cells slots Q (F0 m pc ls (As.reverse ++ rest)) := by
  obtain ⟨hx, hb, hml, hown, hts, hR1, hR2, hT, hA⟩ := C0
  have cb : CallB R s args own idx d'.1 d'.2.1 d'.2.2.1 d'.2.2.2.1 (wsD d') { frames := d'.2.2.2.2.1, cells := 0, slots := 0, locals := d'.2.2.2.2.2 } 0 0 n := callB_of n hts (good_wsD hd) rfl rfl rfl (hts _ hd.2.2.1) (hts _ hl) hd.2.2.2 ⟨Nat.le_trans hfr hR1, Nat.le_trans hlc hR2⟩
  have hpre : ∀ U : State, U.heap = H → s.WarmedH U.vm → PreT ad aV H.size U := fun U hU hW => ⟨by rw [hU], by rw [hU]; exact ((hT.kept hS.2.1).moved hW).narrow (fun q h => hA q (Nat.le_trans hS.1 h))⟩
  rcases hw with ⟨i, As', hi, rfl, hn, hcl, hin, hse, hdg⟩ | ⟨hn, hst, hdg⟩
  · have hrcv := vk_recv hT.1 hi hS
    rw [← hcl] at hrcv
    exact runT (va_runV (As := As') (rest := rest) ⟨hx, hb, hml, hown, hts⟩ (hM H.size) ⟨cb, hts _ hin, hts _ hse⟩ ⟨PreT_blind, hrcv, fun U hU hW => ⟨rfl, hpre U hU hW⟩⟩ rfl hn hls (by simp) (lv_room hz) hdg ⟨hc, hs⟩) hS rfl hA kk
  · exact runT (va_runS (As := As) (rest := rest) ⟨hx, hb, hml, hown, hts⟩ (hM H.size) ⟨cb, hts _ hst⟩ ⟨PreT_blind, fun U hU hW => ⟨rfl, hpre U hU hW⟩⟩ rfl hn hls rfl (lv_room hz) hdg ⟨hc, hs⟩) hS rfl hA kk
end CALLT
section TMET
variable {l : Launch} {ad aV : Nat → Nat}
set_option maxRecDepth 20000 in
theorem tt_co {i : Nat} (hi : i < 4) : MetT l ad aV mdT_co [.ref (ad (100 + i))] (some (.int 0)) := by
  refine metT mdT_co_ok (Nat.le_of_ble_eq_true rfl) ?_
  intro A p e R s m args below meth c ls Q C0 hl ret
  obtain ⟨hx, hb, hml, hown, hts, hR1, hR2, hT, hA⟩ := id C0
  have hS : va_S A s.heap s.heap [] := va_S.rf
  refine va_gets hx hb hT.2.2.1 hS hown (hts _ tw_f_cs) (fun x h => h) td_co_0 ?_
  refine lv_if_eq (tgt := 13) hx hb td_co_3 (by decide) (fun h => absurd h (by decide)) (fun _ => ?_)
  refine lv_aload_n hx hb td_co_6 rfl (lv_at hl 0 rfl) ?_
  refine vk_getf hx hb (hT.1.1 i hi).2.1 hS hown (hts _ tw_f_cd) (fun x h => h) td_co_7 ?_
  refine lv_goto (tgt := 14) hx hb td_co_10 (by decide) ?_
  exact ret _ _ _ _ hS (Or.inr (Or.inl ⟨0, .byte, rfl, rfl, rfl, td_co_14⟩))
set_option maxRecDepth 20000 in
theorem tt_il {i : Nat} (hi : i < 4) : MetT l ad aV mdT_il [.ref (ad (100 + i))] (some (.int 1)) := by
  refine metT mdT_il_ok (Nat.le_of_ble_eq_true rfl) ?_
  intro A p e R s m args below meth c ls Q C0 hl ret
  obtain ⟨hx, hb, hml, hown, hts, hR1, hR2, hT, hA⟩ := id C0
  have hS : va_S A s.heap s.heap [] := va_S.rf
  refine va_gets hx hb hT.2.2.1 hS hown (hts _ tw_f_cs) (fun x h => h) td_il_0 ?_
  refine lv_if_eq (tgt := 17) hx hb td_il_3 (by decide) (fun h => absurd h (by decide)) (fun _ => ?_)
  refine lv_aload_n hx hb td_il_6 rfl (lv_at hl 0 rfl) ?_
  refine vk_getf hx hb (hT.1.1 i hi).2.1 hS hown (hts _ tw_f_cd) (fun x h => h) td_il_7 ?_
  refine lv_if_ne (tgt := 17) hx hb td_il_10 (by decide) (fun h => absurd rfl h) (fun _ => ?_)
  refine lv_iconst (v := 1) hx hb td_il_13 (by decide) ?_
  refine lv_goto (tgt := 18) hx hb td_il_14 (by decide) ?_
  exact ret _ _ _ _ hS (Or.inr (Or.inl ⟨1, .boolean, rfl, rfl, rfl, td_il_18⟩))
set_option maxRecDepth 20000 in
theorem tt_pc {i n : Int32} {v : Value} (hv : v = .null ∨ ∃ t, v = .ref t) (h0 : ¬ i < 0) (h1 : i < n) : MetT l ad aV mdT_pc [.int i, .int n, v] (some (.int i)) := by
  have hz : (lg_sl [.int i, .int n, v]).length ≤ 3 := by rcases hv with rfl | ⟨t, rfl⟩ <;> exact Nat.le_of_ble_eq_true rfl
  refine metT mdT_pc_ok hz ?_
  intro A p e R s m args below meth c ls Q C0 hl ret
  obtain ⟨hx, hb, hml, hown, hts, hR1, hR2, hT, hA⟩ := id C0
  have hS : va_S A s.heap s.heap [] := va_S.rf
  refine lv_iload_n hx hb td_pc_0 rfl (lv_at hl 0 rfl) ?_
  refine lv_if_lt (tgt := 9) hx hb td_pc_1 (by decide) (fun h => absurd h h0) (fun _ => ?_)
  refine lv_iload_n hx hb td_pc_4 rfl (lv_at hl 0 rfl) ?_
  refine lv_iload_n hx hb td_pc_5 rfl (lv_at hl 1 rfl) ?_
  refine lv_icmp_lt (tgt := 16) hx hb td_pc_6 (by decide) (fun _ => ?_) (fun h => absurd h1 h)
  refine lv_iload_n hx hb td_pc_16 rfl (lv_at hl 0 rfl) ?_
  exact ret _ _ _ _ hS (Or.inr (Or.inl ⟨i, .int, rfl, rfl, rfl, td_pc_17⟩))
set_option maxRecDepth 20000 in
theorem tt_sc {i n : Int32} (h0 : ¬ i < 0) (h1 : i < n) : MetT l ad aV mdT_sc [.int i, .int n] none := by
  refine metT mdT_sc_ok (Nat.le_of_ble_eq_true rfl) ?_
  intro A p e R s m args below meth c ls Q C0 hl ret
  obtain ⟨hx, hb, hml, hown, hts, hR1, hR2, hT, hA⟩ := id C0
  have hS : va_S A s.heap s.heap [] := va_S.rf
  refine lv_iload_n hx hb td_sc_0 rfl (lv_at hl 0 rfl) ?_
  refine lv_iload_n hx hb td_sc_1 rfl (lv_at hl 1 rfl) ?_
  have hZ : ∃ v, (v = .null ∨ ∃ t, v = .ref t) ∧ va_Z "jdk/internal/util/Preconditions" "SIOOBE_FORMATTER" "Ljava/util/function/BiFunction;" v A s s.heap := by
    rcases hT.2.2.2 with h | ⟨t, h⟩
    · exact ⟨_, Or.inl rfl, h⟩
    · exact ⟨_, Or.inr ⟨t, rfl⟩, h⟩
  obtain ⟨v, hv, hZ⟩ := hZ
  refine va_gets hx hb hZ hS hown (hts _ tw_f_si) (fun x h => h) td_sc_2 ?_
  refine callT (As := [.int i, .int n, v]) (rest := []) C0 hS mdT_pc_ok (by decide) (by decide) tw_l_pc (tt_pc hv h0 h1) (Nat.zero_le _) hl.1 (Nat.zero_le _) (Nat.zero_le _) (Or.inr ⟨rfl, tw_t_pc, td_sc_5⟩) (fun H1 locs1 hk hS1 => ?_)
  refine lv_pop (va := .int i) hx hb td_sc_8 rfl ?_
  exact ret _ _ _ _ hS1 (Or.inl ⟨rfl, rfl, td_sc_9⟩)
theorem tx_b : ∀ j, j < 4 → ∀ k, k < txN.getD j 0 → ((((txB.getD j []).getD k 0) &&& 255).toUInt32 % 65536).toInt32 = nI ((txt j).getD k 0) ∧ narrow .char (.int (nI ((txt j).getD k 0))) = .int (nI ((txt j).getD k 0)) := by decide +kernel
theorem tx_n : ∀ j, j < 4 → txN.getD j 0 = (txt j).length ∧ txN.getD j 0 < 100 := by decide +kernel
set_option maxRecDepth 20000 in
theorem tt_lc {j k : Nat} (hj : j < 4) (hk : k < txN.getD j 0) : MetT l ad aV mdT_lc [.ref (aV j), .int (nI k)] (some (.int (nI ((txt j).getD k 0)))) := by
  have hN := (tx_n j hj).2
  refine metT mdT_lc_ok (Nat.le_of_ble_eq_true rfl) ?_
  intro A p e R s m args below meth c ls Q C0 hl ret
  obtain ⟨hx, hb, hml, hown, hts, hR1, hR2, hT, hA⟩ := id C0
  have hS : va_S A s.heap s.heap [] := va_S.rf
  refine lv_iload_n hx hb td_lc_0 rfl (lv_at hl 1 rfl) ?_
  refine lv_aload_n hx hb td_lc_1 rfl (lv_at hl 0 rfl) ?_
  refine va_tlen hx hb (hT.1.1 j hj).2.2.2 hS (v := nI (txN.getD j 0)) rfl td_lc_2 ?_
  refine callT (As := [.int (nI k), .int (nI (txN.getD j 0))]) (rest := []) C0 hS mdT_sc_ok (by decide) (by decide) tw_l_sc (tt_sc (nI_pos (by omega)) (nI_lt hk (by omega))) (Nat.zero_le _) hl.1 (Nat.zero_le _) (Nat.zero_le _) (Or.inr ⟨rfl, tw_t_sc, td_lc_3⟩) (fun H1 locs1 _ hS1 => ?_)
  refine lv_aload_n hx hb td_lc_6 rfl (lv_at hl 0 rfl) ?_
  refine lv_iload_n hx hb td_lc_7 rfl (lv_at hl 1 rfl) ?_
  refine va_tb hx hb (hT.1.1 j hj).2.2.2 hS1 (vp_in_nI hk (by omega)) (v := .int ((txB.getD j []).getD k 0)) (by rw [nI_clamp (by omega)]) td_lc_8 ?_
  refine lv_sipush (v := 255) hx hb td_lc_9 rfl ?_
  refine lv_iand hx hb td_lc_12 ?_
  refine lv_i2c hx hb td_lc_13 (tx_b j hj k hk).1 ?_
  exact ret _ _ _ _ hS1 (Or.inr (Or.inl ⟨_, .char, rfl, rfl, (tx_b j hj k hk).2, td_lc_14⟩))
set_option maxRecDepth 20000 in
theorem tt_ca {j k : Nat} (hj : j < 4) (hk : k < txN.getD j 0) : MetT l ad aV mdT_ca [.ref (ad (100 + j)), .int (nI k)] (some (.int (nI ((txt j).getD k 0)))) := by
  refine metT mdT_ca_ok (Nat.le_of_ble_eq_true rfl) ?_
  intro A p e R s m args below meth c ls Q C0 hl ret
  obtain ⟨hx, hb, hml, hown, hts, hR1, hR2, hT, hA⟩ := id C0
  have hS : va_S A s.heap s.heap [] := va_S.rf
  refine lv_aload_n hx hb td_ca_0 rfl (lv_at hl 0 rfl) ?_
  refine callT (As := [.ref (ad (100 + j))]) (rest := []) C0 hS mdT_il_ok (by decide) (by decide) tw_l_il (tt_il hj) (Nat.zero_le _) hl.1 (Nat.zero_le _) (Nat.zero_le _) (Or.inl ⟨j, [], hj, rfl, rfl, rfl, tw_i_il, tw_s_il, td_ca_1⟩) (fun H1 locs1 _ hS1 => ?_)
  refine lv_if_eq (tgt := 16) hx hb td_ca_4 (by decide) (fun h => absurd h (by decide)) (fun _ => ?_)
  refine lv_aload_n hx hb td_ca_7 rfl (lv_at hl 0 rfl) ?_
  refine vk_getf hx hb (hT.1.1 j hj).2.2.1 hS1 hown (hts _ tw_f_va) (fun x h => h) td_ca_8 ?_
  refine lv_iload_n hx hb td_ca_11 rfl (lv_at hl 1 rfl) ?_
  refine callT (As := [.ref (aV j), .int (nI k)]) (rest := []) C0 hS1 mdT_lc_ok (by decide) (by decide) tw_l_lc (tt_lc hj hk) (Nat.zero_le _) hl.1 (Nat.zero_le _) (Nat.zero_le _) (Or.inr ⟨rfl, tw_t_lc, td_ca_12⟩) (fun H2 locs2 _ hS2 => ?_)
  exact ret _ _ _ _ hS2 (Or.inr (Or.inl ⟨_, .char, rfl, rfl, (tx_b j hj k hk).2, td_ca_15⟩))
set_option maxRecDepth 20000 in
theorem tt_ln {j : Nat} (hj : j < 4) : MetT l ad aV mdT_ln [.ref (ad (100 + j))] (some (.int (nI (txt j).length))) := by
  refine metT mdT_ln_ok (Nat.le_of_ble_eq_true rfl) ?_
  intro A p e R s m args below meth c ls Q C0 hl ret
  obtain ⟨hx, hb, hml, hown, hts, hR1, hR2, hT, hA⟩ := id C0
  have hS : va_S A s.heap s.heap [] := va_S.rf
  refine lv_aload_n hx hb td_ln_0 rfl (lv_at hl 0 rfl) ?_
  refine vk_getf hx hb (hT.1.1 j hj).2.2.1 hS hown (hts _ tw_f_va) (fun x h => h) td_ln_1 ?_
  refine va_tlen hx hb (hT.1.1 j hj).2.2.2 hS (v := nI (txN.getD j 0)) rfl td_ln_4 ?_
  refine lv_aload_n hx hb td_ln_5 rfl (lv_at hl 0 rfl) ?_
  refine callT (As := [.ref (ad (100 + j))]) (rest := [.int (nI (txN.getD j 0))]) C0 hS mdT_co_ok (by decide) (by decide) tw_l_co (tt_co hj) (Nat.le_of_ble_eq_true rfl) hl.1 (Nat.zero_le _) (Nat.zero_le _) (Or.inl ⟨j, [], hj, rfl, rfl, rfl, tw_i_co, tw_s_co, td_ln_6⟩) (fun H1 locs1 _ hS1 => ?_)
  refine lv_ishr hx hb td_ln_9 ?_
  have e : nI (txN.getD j 0) >>> ((0 : Int32) &&& 31) = nI (txt j).length := by
    have : ∀ j, j < 4 → nI (txN.getD j 0) >>> ((0 : Int32) &&& 31) = nI (txt j).length := by decide +kernel
    exact this j hj
  rw [e]
  exact ret _ _ _ _ hS1 (Or.inr (Or.inl ⟨_, .int, rfl, rfl, rfl, td_ln_10⟩))
end TMET
theorem tx_j {b : Nat} (h1 : 100 ≤ b) (h2 : b < 104) : ∃ j : Nat, j < 4 ∧ b = 100 + j := ⟨b - 100, by omega, by omega⟩
theorem tx_jj {j : Nat} : 100 + j - 100 = j := by omega
theorem Cx.CT {dC : Nat → ClassId} {dI : Nat → Nat → Nat} {dA : Nat → ClassId} {ad aV : Nat → Nat} {A : Nat → Prop} {p : Program} {R : Room} {s : State} {m : MethodId} {args : Array Value} {c : Code} {own : String} {cc : ByteArray} {mx fr lc : Nat} (C0 : Cx dC dI dA ad aV A p R s m args c own cc mx fr lc) : CT ad aV p R s m args c own cc mx fr lc A := ⟨C0.1, C0.2.1, C0.2.2.1, C0.2.2.2.1, C0.2.2.2.2.1, C0.2.2.2.2.2.2.1, C0.2.2.2.2.2.2.2.1, C0.2.2.2.2.2.2.2.2.1, C0.2.2.2.2.2.2.2.2.2⟩
theorem Hd.kept {dC : Nat → ClassId} {dI : Nat → Nat → Nat} {dA : Nat → ClassId} {ad : Nat → Nat} {A : Nat → Prop} {H0 : Heap} {mx : Nat} {L : List (Option Value)} {u : Sg} {H H1 : Heap} {locs locs1 : List Loc} {ls : Array Slot} (h : Hd dC dI dA ad A H0 mx L u H locs ls) (hk : ∀ q, q < H.size → H1[q]? = H[q]?) (hS : va_S A H0 H1 locs1) : Hd dC dI dA ad A H0 mx L u H1 locs1 ls :=
  ⟨fun k q hq => (h.1 k q hq).kept (hk q.1 (h.1 k q hq).lt), h.2.1, hS, h.2.2.2⟩
theorem snd_slen {own : String} {cc : ByteArray} {mx fr lc pc idx : Nat} (hw : Cond.methodLink own idx ⟨"java/lang/String", "length", "()I"⟩ ∈ gtb) (hfr : 2 ≤ fr) (hlc : 40 ≤ lc) (hd : decode cc pc = .ok (.invokevirtual idx, 3)) : SndI own cc mx fr lc pc (o_slen (pc + 3)) := by
  intro dC dI dA ad aV A p l e R s m args below meth c H locs ls L S u st Q C0 h0 hf k
  rw [o_slen] at hf
  dsimp only at hf
  split at hf
  · rename_i b r
    by_cases hc : 100 ≤ b ∧ b < 104 ∧ slc r ≤ 8
    · rw [if_pos hc] at hf
      cases hf
      obtain ⟨j, hj, rfl⟩ := tx_j hc.1 hc.2.1
      rw [tx_jj] at k
      exact callT (As := [.ref (ad (100 + j))]) (rest := r.map (cvv ad)) C0.CT h0.2.2.1 mdT_ln_ok hfr hlc hw (tt_ln hj) (by rw [slc_sum]; exact hc.2.2) h0.2.2.2.1 (Nat.zero_le _) (Nat.zero_le _) (Or.inl ⟨j, [], hj, rfl, rfl, rfl, tw_i_ln, tw_s_ln, hd⟩) (fun H1 locs1 hk hS1 => k H1 locs1 ls (h0.kept hk hS1))
    · rw [if_neg hc] at hf
      cases hf
  · cases hf
theorem snd_schr {own : String} {cc : ByteArray} {mx fr lc pc idx : Nat} (hw : Cond.methodLink own idx ⟨"java/lang/String", "charAt", "(I)C"⟩ ∈ gtb) (hfr : 4 ≤ fr) (hlc : 85 ≤ lc) (hd : decode cc pc = .ok (.invokevirtual idx, 3)) : SndI own cc mx fr lc pc (o_schr (pc + 3)) := by
  intro dC dI dA ad aV A p l e R s m args below meth c H locs ls L S u st Q C0 h0 hf k
  rw [o_schr] at hf
  dsimp only at hf
  split at hf
  · rename_i i b r
    by_cases hc : 100 ≤ b ∧ b < 104 ∧ 0 ≤ i.toInt ∧ i.toInt < (txt (b - 100)).length ∧ slc r ≤ 8
    · rw [if_pos hc] at hf
      cases hf
      obtain ⟨j, hj, rfl⟩ := tx_j hc.1 hc.2.1
      rw [tx_jj] at k hc
      obtain ⟨-, -, c1, c2, c3⟩ := hc
      have hN := tx_n j hj
      have hc0 : (i.toNatClampNeg : Int) = i.toInt := by
        show ((i.toInt.toNat : Nat) : Int) = i.toInt
        omega
      have ei : i = nI i.toNatClampNeg := by
        apply Int32.toInt_inj.mp
        rw [nI_toInt (by omega)]
        omega
      have hk : i.toNatClampNeg < txN.getD j 0 := by omega
      rw [ei]
      exact callT (As := [.ref (ad (100 + j)), .int (nI i.toNatClampNeg)]) (rest := r.map (cvv ad)) C0.CT h0.2.2.1 mdT_ca_ok hfr hlc hw (tt_ca hj hk) (by rw [slc_sum]; exact c3) h0.2.2.2.1 (Nat.zero_le _) (Nat.zero_le _) (Or.inl ⟨j, [_], hj, rfl, rfl, rfl, tw_i_ca, tw_s_ca, hd⟩) (fun H1 locs1 hk hS1 => k H1 locs1 ls (h0.kept hk hS1))
    · rw [if_neg hc] at hf
      cases hf
  · cases hf
end
