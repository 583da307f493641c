/-! ===== THE SMALL MACHINE: a heap of 63 cells of fixed kinds, as three functions; instructions as functions; runs by fuel ===== -/
/-- int fields (cell, slot), long fields (cell, slot), arrays (cell, place) -/
abbrev Sg : Type := (Nat → Nat → Int32) × (Nat → Nat → Int64) × (Nat → Nat → Int32)
def gI (u : Sg) (k j : Nat) : Int32 := u.1 k j
def gJ (u : Sg) (k j : Nat) : Int64 := u.2.1 k j
def gA (u : Sg) (k : Nat) : Nat → Int32 := u.2.2 k
def pI (u : Sg) (k j : Nat) (v : Int32) : Sg := (fun k' j' => if k' = k then (if j' = j then v else u.1 k' j') else u.1 k' j', u.2)
def pJ (u : Sg) (k j : Nat) (v : Int64) : Sg := (u.1, fun k' j' => if k' = k then (if j' = j then v else u.2.1 k' j') else u.2.1 k' j', u.2.2)
def pA (u : Sg) (k : Nat) (f : Nat → Int32) : Sg := (u.1, u.2.1, fun k' => if k' = k then f else u.2.2 k')
theorem gI_pI (u : Sg) (k j : Nat) (v : Int32) (k' j' : Nat) : gI (pI u k j v) k' j' = if k' = k then (if j' = j then v else gI u k' j') else gI u k' j' := rfl
theorem gI_pJ (u : Sg) (k j : Nat) (v : Int64) (k' j' : Nat) : gI (pJ u k j v) k' j' = gI u k' j' := rfl
theorem gI_pA (u : Sg) (k : Nat) (f : Nat → Int32) (k' j' : Nat) : gI (pA u k f) k' j' = gI u k' j' := rfl
theorem gJ_pI (u : Sg) (k j : Nat) (v : Int32) (k' j' : Nat) : gJ (pI u k j v) k' j' = gJ u k' j' := rfl
theorem gJ_pJ (u : Sg) (k j : Nat) (v : Int64) (k' j' : Nat) : gJ (pJ u k j v) k' j' = if k' = k then (if j' = j then v else gJ u k' j') else gJ u k' j' := rfl
theorem gJ_pA (u : Sg) (k : Nat) (f : Nat → Int32) (k' j' : Nat) : gJ (pA u k f) k' j' = gJ u k' j' := rfl
theorem gA_pI (u : Sg) (k j : Nat) (v : Int32) (k' : Nat) : gA (pI u k j v) k' = gA u k' := rfl
theorem gA_pJ (u : Sg) (k j : Nat) (v : Int64) (k' : Nat) : gA (pJ u k j v) k' = gA u k' := rfl
theorem gA_pA (u : Sg) (k : Nat) (f : Nat → Int32) (k' : Nat) : gA (pA u k f) k' = if k' = k then f else gA u k' := rfl
theorem Sg_ext {u v : Sg} (h1 : ∀ k j, gI u k j = gI v k j) (h2 : ∀ k j, gJ u k j = gJ v k j) (h3 : ∀ k j, gA u k j = gA v k j) : u = v := by
  obtain ⟨a, b, c⟩ := u
  obtain ⟨a2, b2, c2⟩ := v
  have e1 : a = a2 := funext fun k => funext fun j => h1 k j
  have e2 : b = b2 := funext fun k => funext fun j => h2 k j
  have e3 : c = c2 := funext fun k => funext fun j => h3 k j
  rw [e1, e2, e3]
/-- the kind of each cell: 0 House, 1 Reader, 2 BorrowedVoice, 3 the reference, 4 int array, 5 byte array -/
def lyL : List Nat := [2, 0,4,4,4,4,4,4,4,4, 0,4,4,4,4,4,4,4,4, 0,4,4,4,4,4,4,4,4, 0,4,4,4,4,4,4,4,4, 1,5, 4,4, 3, 4,4,4,4,4,4,4,4,4,4,4,4,4,4,4,4,4,4,4,4,4]
/-- the length of each array -/
def lnL : List Nat := [0, 0,6,6,6,6,6,6,30,152, 0,6,6,6,6,6,6,30,152, 0,6,6,6,6,6,6,30,152, 0,6,6,6,6,6,6,30,152, 0,150, 64,64, 0, 3,6,6,6,6,6,6,6,6,6,6,6,150,18,6,152,19,6,6,460,2]
def nth : List Nat → Nat → Nat
  | [], _ => 9
  | a :: _, 0 => a
  | _ :: t, n + 1 => nth t n
def lyC (k : Nat) : Nat := nth lyL k
def lyN (k : Nat) : Nat := nth lnL k
/-- a state: place, locals, operands, heap -/
abbrev St : Type := Nat × List (Option Value) × List Value × Sg
def lk : List (Option Value) → Nat → Option Value
  | [], _ => none
  | a :: _, 0 => a
  | _ :: t, n + 1 => lk t n
def isL : Option Value → Bool
  | some (.long _) => true
  | some (.double _) => true
  | _ => false
/-- a value of one slot into place i: what it cuts in two is lost -/
def sto1 : List (Option Value) → Nat → Value → List (Option Value)
  | [], _, _ => []
  | _ :: t, 0, v => some v :: t
  | a :: t, 1, v => cond (isL a) none a :: sto1 t 0 v
  | a :: t, n + 2, v => a :: sto1 t (n + 1) v
/-- a value of two slots into places i, i + 1 -/
def sto2 : List (Option Value) → Nat → Value → List (Option Value)
  | [], _, _ => []
  | _ :: [], 0, _ => [none]
  | _ :: _ :: t, 0, v => some v :: none :: t
  | a :: t, 1, v => cond (isL a) none a :: sto2 t 0 v
  | a :: t, n + 2, v => a :: sto2 t (n + 1) v
/-- the locals at the entry -/
def ent : Nat → List Value → List (Option Value)
  | n, [] => List.replicate n none
  | 0, _ => []
  | n + 1, .long v :: t => some (.long v) :: (match n with | 0 => [] | n + 1 => none :: ent n t)
  | n + 1, .double v :: t => some (.double v) :: (match n with | 0 => [] | n + 1 => none :: ent n t)
  | n + 1, v :: t => some v :: ent n t
abbrev AI : Type := (St → Option St) ⊕ (Nat ⊕ (Nat × Nat × Nat × Nat))
/-- the receiver is of the kind rc (9: there is none) -/
def rck (rc : Nat) : List Value → Bool
  | .ref k :: _ => Nat.beq (lyC k) rc || Nat.beq rc 9
  | _ => Nat.beq rc 9
/-- how many slots these values take -/
def slc : List Value → Nat
  | [] => 0
  | v :: t => v.category + slc t
/-- the texts: counter, one, leave, lend -/
def txL : List (List Nat) := [[99, 111, 117, 110, 116, 101, 114], [111, 110, 101], [108, 101, 97, 118, 101], [108, 101, 110, 100]]
def txt (j : Nat) : List Nat := txL.getD j []

def o_iconst (v : Int32) (nxt : Nat) : St → Option St := fun st => some (nxt, st.2.1, .int v :: st.2.2.1, st.2.2.2)
def o_lconst (v : Int64) (nxt : Nat) : St → Option St := fun st => some (nxt, st.2.1, .long v :: st.2.2.1, st.2.2.2)
def o_str (j nxt : Nat) : St → Option St := fun st => some (nxt, st.2.1, .ref (100 + j) :: st.2.2.1, st.2.2.2)
def o_iload (i nxt : Nat) : St → Option St := fun st => match lk st.2.1 i with
  | some (.int x) => some (nxt, st.2.1, .int x :: st.2.2.1, st.2.2.2)
  | _ => none
def o_lload (i nxt : Nat) : St → Option St := fun st => match lk st.2.1 i with
  | some (.long x) => some (nxt, st.2.1, .long x :: st.2.2.1, st.2.2.2)
  | _ => none
def o_aload (i nxt : Nat) : St → Option St := fun st => match lk st.2.1 i with
  | some (.ref x) => some (nxt, st.2.1, .ref x :: st.2.2.1, st.2.2.2)
  | _ => none
def o_istore (i nxt : Nat) : St → Option St := fun st => match st.2.2.1 with
  | .int x :: r => some (nxt, sto1 st.2.1 i (.int x), r, st.2.2.2)
  | _ => none
def o_lstore (i nxt : Nat) : St → Option St := fun st => match st.2.2.1 with
  | .long x :: r => some (nxt, sto2 st.2.1 i (.long x), r, st.2.2.2)
  | _ => none
def o_iinc (i : Nat) (n : Int32) (nxt : Nat) : St → Option St := fun st => match lk st.2.1 i with
  | some (.int x) => some (nxt, sto1 st.2.1 i (.int (x + n)), st.2.2.1, st.2.2.2)
  | _ => none
def o_iadd (nxt : Nat) : St → Option St := fun st => match st.2.2.1 with
  | .int y :: .int x :: r => some (nxt, st.2.1, .int (x + y) :: r, st.2.2.2)
  | _ => none
def o_isub (nxt : Nat) : St → Option St := fun st => match st.2.2.1 with
  | .int y :: .int x :: r => some (nxt, st.2.1, .int (x - y) :: r, st.2.2.2)
  | _ => none
def o_imul (nxt : Nat) : St → Option St := fun st => match st.2.2.1 with
  | .int y :: .int x :: r => some (nxt, st.2.1, .int (x * y) :: r, st.2.2.2)
  | _ => none
def o_iand (nxt : Nat) : St → Option St := fun st => match st.2.2.1 with
  | .int y :: .int x :: r => some (nxt, st.2.1, .int (x &&& y) :: r, st.2.2.2)
  | _ => none
def o_ior (nxt : Nat) : St → Option St := fun st => match st.2.2.1 with
  | .int y :: .int x :: r => some (nxt, st.2.1, .int (x ||| y) :: r, st.2.2.2)
  | _ => none
def o_ixor (nxt : Nat) : St → Option St := fun st => match st.2.2.1 with
  | .int y :: .int x :: r => some (nxt, st.2.1, .int (x ^^^ y) :: r, st.2.2.2)
  | _ => none
def o_ishl (nxt : Nat) : St → Option St := fun st => match st.2.2.1 with
  | .int y :: .int x :: r => some (nxt, st.2.1, .int (x <<< (y &&& 31)) :: r, st.2.2.2)
  | _ => none
def o_ishr (nxt : Nat) : St → Option St := fun st => match st.2.2.1 with
  | .int y :: .int x :: r => some (nxt, st.2.1, .int (x >>> (y &&& 31)) :: r, st.2.2.2)
  | _ => none
def o_iushr (nxt : Nat) : St → Option St := fun st => match st.2.2.1 with
  | .int y :: .int x :: r => some (nxt, st.2.1, .int ((x.toUInt32 >>> (y.toUInt32 &&& Int32.toUInt32 31)).toInt32) :: r, st.2.2.2)
  | _ => none
def o_ladd (nxt : Nat) : St → Option St := fun st => match st.2.2.1 with
  | .long y :: .long x :: r => some (nxt, st.2.1, .long (x + y) :: r, st.2.2.2)
  | _ => none
def o_lsub (nxt : Nat) : St → Option St := fun st => match st.2.2.1 with
  | .long y :: .long x :: r => some (nxt, st.2.1, .long (x - y) :: r, st.2.2.2)
  | _ => none
def o_lmul (nxt : Nat) : St → Option St := fun st => match st.2.2.1 with
  | .long y :: .long x :: r => some (nxt, st.2.1, .long (x * y) :: r, st.2.2.2)
  | _ => none
def o_idiv (nxt : Nat) : St → Option St := fun st => match st.2.2.1 with
  | .int y :: .int x :: r => if y = 0 then none else some (nxt, st.2.1, .int (x / y) :: r, st.2.2.2)
  | _ => none
def o_irem (nxt : Nat) : St → Option St := fun st => match st.2.2.1 with
  | .int y :: .int x :: r => if y = 0 then none else some (nxt, st.2.1, .int (x - x / y * y) :: r, st.2.2.2)
  | _ => none
def o_ldiv (nxt : Nat) : St → Option St := fun st => match st.2.2.1 with
  | .long y :: .long x :: r => if y = 0 then none else some (nxt, st.2.1, .long (x / y) :: r, st.2.2.2)
  | _ => none
def o_lrem (nxt : Nat) : St → Option St := fun st => match st.2.2.1 with
  | .long y :: .long x :: r => if y = 0 then none else some (nxt, st.2.1, .long (x - x / y * y) :: r, st.2.2.2)
  | _ => none
def o_lcmp (nxt : Nat) : St → Option St := fun st => match st.2.2.1 with
  | .long y :: .long x :: r => some (nxt, st.2.1, .int (lg_cmp x y) :: r, st.2.2.2)
  | _ => none
def o_ineg (nxt : Nat) : St → Option St := fun st => match st.2.2.1 with
  | .int x :: r => some (nxt, st.2.1, .int (0 - x) :: r, st.2.2.2)
  | _ => none
def o_i2l (nxt : Nat) : St → Option St := fun st => match st.2.2.1 with
  | .int x :: r => some (nxt, st.2.1, .long x.toInt64 :: r, st.2.2.2)
  | _ => none
def o_l2i (nxt : Nat) : St → Option St := fun st => match st.2.2.1 with
  | .long x :: r => some (nxt, st.2.1, .int x.toInt32 :: r, st.2.2.2)
  | _ => none
def o_i2b (nxt : Nat) : St → Option St := fun st => match st.2.2.1 with
  | .int x :: r => some (nxt, st.2.1, .int x.toInt8.toInt32 :: r, st.2.2.2)
  | _ => none
def o_dup (nxt : Nat) : St → Option St := fun st => match st.2.2.1 with
  | .int x :: r => some (nxt, st.2.1, .int x :: .int x :: r, st.2.2.2)
  | .ref x :: r => some (nxt, st.2.1, .ref x :: .ref x :: r, st.2.2.2)
  | _ => none
def o_pop (nxt : Nat) : St → Option St := fun st => match st.2.2.1 with
  | .int x :: r => some (nxt, st.2.1, r, st.2.2.2)
  | _ => none
def o_dup2 (nxt : Nat) : St → Option St := fun st => match st.2.2.1 with
  | .int x :: .ref y :: r => some (nxt, st.2.1, .int x :: .ref y :: .int x :: .ref y :: r, st.2.2.2)
  | _ => none
def o_getI (c j nxt : Nat) : St → Option St := fun st => match st.2.2.1 with
  | .ref k :: r => cond (Nat.beq (lyC k) c) (some (nxt, st.2.1, .int (gI st.2.2.2 k j) :: r, st.2.2.2)) none
  | _ => none
def o_getJ (c j nxt : Nat) : St → Option St := fun st => match st.2.2.1 with
  | .ref k :: r => cond (Nat.beq (lyC k) c) (some (nxt, st.2.1, .long (gJ st.2.2.2 k j) :: r, st.2.2.2)) none
  | _ => none
/-- a field that holds the cell d places on -/
def o_getR (c j d nxt : Nat) : St → Option St := fun st => match st.2.2.1 with
  | .ref k :: r => cond (Nat.beq (lyC k) c) (some (nxt, st.2.1, .ref (k + d) :: r, st.2.2.2)) none
  | _ => none
def o_putI (c j nxt : Nat) : St → Option St := fun st => match st.2.2.1 with
  | .int v :: .ref k :: r => cond (Nat.beq (lyC k) c) (some (nxt, st.2.1, r, pI st.2.2.2 k j v)) none
  | _ => none
def o_putJ (c j nxt : Nat) : St → Option St := fun st => match st.2.2.1 with
  | .long v :: .ref k :: r => cond (Nat.beq (lyC k) c) (some (nxt, st.2.1, r, pJ st.2.2.2 k j v)) none
  | _ => none
def o_putZ (c j nxt : Nat) : St → Option St := fun st => match st.2.2.1 with
  | .int v :: .ref k :: r => cond (Nat.beq (lyC k) c) (if v = 0 ∨ v = 1 then some (nxt, st.2.1, r, pI st.2.2.2 k j v) else none) none
  | _ => none
def inA (i : Int32) (n : Nat) : Prop := 0 ≤ i.toInt ∧ i.toInt < n
def o_iald (t nxt : Nat) : St → Option St := fun st => match st.2.2.1 with
  | .int i :: .ref k :: r => cond (Nat.beq (lyC k) t) (if 0 ≤ i.toInt ∧ i.toInt < lyN k then some (nxt, st.2.1, .int (gA st.2.2.2 k i.toNatClampNeg) :: r, st.2.2.2) else none) none
  | _ => none
def o_iast (nxt : Nat) : St → Option St := fun st => match st.2.2.1 with
  | .int x :: .int i :: .ref k :: r => cond (Nat.beq (lyC k) 4) (if 0 ≤ i.toInt ∧ i.toInt < lyN k then some (nxt, st.2.1, r, pA st.2.2.2 k (upd (gA st.2.2.2 k) i.toNatClampNeg x)) else none) none
  | _ => none
def o_bast (nxt : Nat) : St → Option St := fun st => match st.2.2.1 with
  | .int x :: .int i :: .ref k :: r => cond (Nat.beq (lyC k) 5) (if 0 ≤ i.toInt ∧ i.toInt < lyN k then some (nxt, st.2.1, r, pA st.2.2.2 k (upd (gA st.2.2.2 k) i.toNatClampNeg (vp_nar .byte x))) else none) none
  | _ => none
def o_goto (tgt : Nat) : St → Option St := fun st => some (tgt, st.2.1, st.2.2.1, st.2.2.2)

def o_ifeq (tgt nxt : Nat) : St → Option St := fun st => match st.2.2.1 with
  | .int x :: r => some (if x = 0 then (tgt, st.2.1, r, st.2.2.2) else (nxt, st.2.1, r, st.2.2.2))
  | _ => none
def o_ifne (tgt nxt : Nat) : St → Option St := fun st => match st.2.2.1 with
  | .int x :: r => some (if ¬ x = 0 then (tgt, st.2.1, r, st.2.2.2) else (nxt, st.2.1, r, st.2.2.2))
  | _ => none
def o_iflt (tgt nxt : Nat) : St → Option St := fun st => match st.2.2.1 with
  | .int x :: r => some (if x < 0 then (tgt, st.2.1, r, st.2.2.2) else (nxt, st.2.1, r, st.2.2.2))
  | _ => none
def o_ifge (tgt nxt : Nat) : St → Option St := fun st => match st.2.2.1 with
  | .int x :: r => some (if 0 ≤ x then (tgt, st.2.1, r, st.2.2.2) else (nxt, st.2.1, r, st.2.2.2))
  | _ => none
def o_ifgt (tgt nxt : Nat) : St → Option St := fun st => match st.2.2.1 with
  | .int x :: r => some (if 0 < x then (tgt, st.2.1, r, st.2.2.2) else (nxt, st.2.1, r, st.2.2.2))
  | _ => none
def o_ifle (tgt nxt : Nat) : St → Option St := fun st => match st.2.2.1 with
  | .int x :: r => some (if x ≤ 0 then (tgt, st.2.1, r, st.2.2.2) else (nxt, st.2.1, r, st.2.2.2))
  | _ => none
def o_iceq (tgt nxt : Nat) : St → Option St := fun st => match st.2.2.1 with
  | .int y :: .int x :: r => some (if x = y then (tgt, st.2.1, r, st.2.2.2) else (nxt, st.2.1, r, st.2.2.2))
  | _ => none
def o_icne (tgt nxt : Nat) : St → Option St := fun st => match st.2.2.1 with
  | .int y :: .int x :: r => some (if ¬ x = y then (tgt, st.2.1, r, st.2.2.2) else (nxt, st.2.1, r, st.2.2.2))
  | _ => none
def o_iclt (tgt nxt : Nat) : St → Option St := fun st => match st.2.2.1 with
  | .int y :: .int x :: r => some (if x < y then (tgt, st.2.1, r, st.2.2.2) else (nxt, st.2.1, r, st.2.2.2))
  | _ => none
def o_icge (tgt nxt : Nat) : St → Option St := fun st => match st.2.2.1 with
  | .int y :: .int x :: r => some (if y ≤ x then (tgt, st.2.1, r, st.2.2.2) else (nxt, st.2.1, r, st.2.2.2))
  | _ => none
def o_icgt (tgt nxt : Nat) : St → Option St := fun st => match st.2.2.1 with
  | .int y :: .int x :: r => some (if y < x then (tgt, st.2.1, r, st.2.2.2) else (nxt, st.2.1, r, st.2.2.2))
  | _ => none
def o_icle (tgt nxt : Nat) : St → Option St := fun st => match st.2.2.1 with
  | .int y :: .int x :: r => some (if x ≤ y then (tgt, st.2.1, r, st.2.2.2) else (nxt, st.2.1, r, st.2.2.2))
  | _ => none
/-- a switch over 0 .. n - 1 less lo -/
def swT (lo : Int) (ts : List Nat) (d : Nat) (x : Int32) : Nat := if x.toInt < lo ∨ lo + ts.length ≤ x.toInt then d else ts.getD (x.toInt - lo).toNat d
def o_tsw (lo : Int) (ts : List Nat) (d : Nat) : St → Option St := fun st => match st.2.2.1 with
  | .int x :: r => some (swT lo ts d x, st.2.1, r, st.2.2.2)
  | _ => none
def swL : List (Int × Nat) → Nat → Int32 → Nat
  | [], d, _ => d
  | q :: t, d, x => if x.toInt = q.1 then q.2 else swL t d x
def o_lsw (ps : List (Int × Nat)) (d : Nat) : St → Option St := fun st => match st.2.2.1 with
  | .int x :: r => some (swL ps d x, st.2.1, r, st.2.2.2)
  | _ => none
def o_max (nxt : Nat) : St → Option St := fun st => match st.2.2.1 with
  | .int y :: .int x :: r => cond (Nat.ble (slc r) 8) (some (nxt, st.2.1, .int (if x < y then y else x) :: r, st.2.2.2)) none
  | _ => none
def o_min (nxt : Nat) : St → Option St := fun st => match st.2.2.1 with
  | .int y :: .int x :: r => cond (Nat.ble (slc r) 8) (some (nxt, st.2.1, .int (if y < x then y else x) :: r, st.2.2.2)) none
  | _ => none
def o_abs (nxt : Nat) : St → Option St := fun st => match st.2.2.1 with
  | .int x :: r => cond (Nat.ble (slc r) 8) (some (nxt, st.2.1, .int (if 0 ≤ x then x else 0 - x) :: r, st.2.2.2)) none
  | _ => none
/-- System.arraycopy of int arrays -/
def o_copy (nxt : Nat) : St → Option St := fun st => match st.2.2.1 with
  | .int n :: .int dp :: .ref b :: .int sp :: .ref a :: r => cond (Nat.beq (lyC a) 4 && Nat.beq (lyC b) 4 && Nat.ble (slc r) 8) (if 0 ≤ sp.toInt ∧ 0 ≤ dp.toInt ∧ 0 ≤ n.toInt ∧ sp.toInt + n.toInt ≤ lyN a ∧ dp.toInt + n.toInt ≤ lyN b then some (nxt, st.2.1, r, pA st.2.2.2 b (va_cpy (gA st.2.2.2 a) (gA st.2.2.2 b) sp.toNatClampNeg dp.toNatClampNeg n.toNatClampNeg)) else none) none
  | _ => none
def o_slen (nxt : Nat) : St → Option St := fun st => match st.2.2.1 with
  | .ref k :: r => if 100 ≤ k ∧ k < 104 ∧ slc r ≤ 8 then some (nxt, st.2.1, .int (nI (txt (k - 100)).length) :: r, st.2.2.2) else none
  | _ => none
def o_schr (nxt : Nat) : St → Option St := fun st => match st.2.2.1 with
  | .int i :: .ref k :: r => if 100 ≤ k ∧ k < 104 ∧ 0 ≤ i.toInt ∧ i.toInt < (txt (k - 100)).length ∧ slc r ≤ 8 then some (nxt, st.2.1, .int (nI ((txt (k - 100)).getD i.toNatClampNeg 0)) :: r, st.2.2.2) else none
  | _ => none
/-- runs: by fuel; a table tells each method's instructions by their places -/
abbrev PT : Type := Nat → Nat → Option AI
def rn (P : PT) : Nat → Nat → St → Option (Option Value × Sg)
  | 0, _, _ => none
  | n + 1, m, st => match P m st.1 with
    | none => none
    | some (.inl f) => match f st with
      | none => none
      | some st' => rn P n m st'
    | some (.inr (.inl k)) => match k, st.2.2.1 with
      | 0, [] => some (none, st.2.2.2)
      | 1, [.int v] => some (some (.int v), st.2.2.2)
      | 2, [.long v] => some (some (.long v), st.2.2.2)
      | 3, [.int v] => if v = 0 ∨ v = 1 then some (some (.int v), st.2.2.2) else none
      | _, _ => none
    | some (.inr (.inr (y, na, mx, rc))) => match cond (Nat.ble na st.2.2.1.length && Nat.ble (slc (st.2.2.1.take na)) mx && Nat.ble (slc (st.2.2.1.drop na)) 8 && rck rc (st.2.2.1.take na).reverse) (rn P n y (0, ent mx (st.2.2.1.take na).reverse, [], st.2.2.2)) none with
      | none => none
      | some (r, u) => rn P n m (st.1 + 3, st.2.1, r.toList ++ st.2.2.1.drop na, u)
theorem rn_succ (P : PT) : ∀ (n m : Nat) (st : St) (x : Option Value × Sg), rn P n m st = some x → rn P (n + 1) m st = some x
  | 0, m, st, x, h => by simp [rn] at h
  | n + 1, m, st, x, h => by
    rw [rn] at h ⊢
    cases hp : P m st.1 with
    | none => rw [hp] at h; cases h
    | some a =>
      rw [hp] at h
      rcases a with f | k | ⟨y, na, mx, rc⟩
      · dsimp only at h ⊢
        cases hf : f st with
        | none => rw [hf] at h; cases h
        | some st' => rw [hf] at h; exact rn_succ P n m st' x h
      · exact h
      · dsimp only at h ⊢
        cases hz : (Nat.ble na st.2.2.1.length && Nat.ble (slc (st.2.2.1.take na)) mx && Nat.ble (slc (st.2.2.1.drop na)) 8 && rck rc (st.2.2.1.take na).reverse) with
        | false => rw [hz] at h; cases h
        | true =>
          rw [hz] at h
          dsimp only [cond] at h ⊢
          cases hc : rn P n y (0, ent mx (st.2.2.1.take na).reverse, [], st.2.2.2) with
          | none => rw [hc] at h; cases h
          | some q =>
            rw [hc] at h
            rw [rn_succ P n y _ q hc]
            exact rn_succ P n m _ x h
theorem rn_le (P : PT) {n k m : Nat} {st : St} {x : Option Value × Sg} (h : rn P n m st = some x) : rn P (n + k) m st = some x := by
  induction k with
  | zero => exact h
  | succ k ih => exact rn_succ P _ _ _ _ ih
/-- from this state the method comes to its end, with Q -/
def VV (P : PT) (m : Nat) (st : St) (Q : Option Value → Sg → Prop) : Prop := ∃ (n : Nat) (r : Option Value) (u : Sg), rn P n m st = some (r, u) ∧ Q r u
theorem VV.s {P : PT} {m : Nat} {st st' : St} {Q : Option Value → Sg → Prop} {f : St → Option St} (hp : P m st.1 = some (.inl f)) (hf : f st = some st') (k : VV P m st' Q) : VV P m st Q := by
  obtain ⟨n, r, u, h, q⟩ := k
  refine ⟨n + 1, r, u, ?_, q⟩
  rw [rn, hp]
  dsimp only
  rw [hf]
  exact h
theorem VV.mono {P : PT} {m : Nat} {st : St} {Q Q' : Option Value → Sg → Prop} (k : VV P m st Q) (h : ∀ r u, Q r u → Q' r u) : VV P m st Q' := by
  obtain ⟨n, r, u, a, q⟩ := k
  exact ⟨n, r, u, a, h r u q⟩
theorem VV.ite {P : PT} {m : Nat} {c : Prop} [Decidable c] {a b : St} {Q : Option Value → Sg → Prop} (h1 : c → VV P m a Q) (h2 : ¬ c → VV P m b Q) : VV P m (if c then a else b) Q := by
  by_cases h : c
  · rw [if_pos h]; exact h1 h
  · rw [if_neg h]; exact h2 h
theorem VV.itt {P : PT} {m : Nat} {c : Prop} [Decidable c] {a b : St} {Q : Option Value → Sg → Prop} (h : c) (h1 : VV P m a Q) : VV P m (if c then a else b) Q := by rw [if_pos h]; exact h1
theorem VV.itf {P : PT} {m : Nat} {c : Prop} [Decidable c] {a b : St} {Q : Option Value → Sg → Prop} (h : ¬ c) (h1 : VV P m b Q) : VV P m (if c then a else b) Q := by rw [if_neg h]; exact h1
theorem VV.eq {P : PT} {m : Nat} {a b : St} {Q : Option Value → Sg → Prop} (h : a = b) (k : VV P m b Q) : VV P m a Q := h ▸ k
theorem VV.call {P : PT} {m pc : Nat} {L : List (Option Value)} {S : List Value} {u : Sg} {Q Qc : Option Value → Sg → Prop} {y na mx rc : Nat} (hp : P m pc = some (.inr (.inr (y, na, mx, rc)))) {E : List (Option Value)} {S' : List Value} (he : ent mx (S.take na).reverse = E) (hs : S.drop na = S') (hz : (Nat.ble na S.length && Nat.ble (slc (S.take na)) mx && Nat.ble (slc (S.drop na)) 8 && rck rc (S.take na).reverse) = true) (hc : VV P y (0, E, [], u) Qc)
    (k : ∀ (r : Option Value) (u' : Sg), Qc r u' → VV P m (pc + 3, L, r.toList ++ S', u') Q) : VV P m (pc, L, S, u) Q := by
  obtain ⟨n1, r, u1, h1, q1⟩ := hc
  obtain ⟨n2, r2, u2, h2, q2⟩ := k r u1 q1
  refine ⟨n1 + n2 + 1, r2, u2, ?_, q2⟩
  rw [rn]
  dsimp only
  rw [hp]
  dsimp only
  rw [hz, he, rn_le P (k := n2) h1]
  dsimp only [cond]
  rw [hs, Nat.add_comm n1 n2]
  exact rn_le P h2
/-- a call whose answer and heap are told -/
theorem VV.callE {P : PT} {m pc : Nat} {L : List (Option Value)} {S : List Value} {u : Sg} {Q : Option Value → Sg → Prop} {y na mx rc : Nat} (hp : P m pc = some (.inr (.inr (y, na, mx, rc)))) {E : List (Option Value)} {S' : List Value} (he : ent mx (S.take na).reverse = E) (hs : S.drop na = S') (hz : (Nat.ble na S.length && Nat.ble (slc (S.take na)) mx && Nat.ble (slc (S.drop na)) 8 && rck rc (S.take na).reverse) = true) {v : Value} {u1 : Sg} (hc : VV P y (0, E, [], u) (fun r t => r = some v ∧ t = u1)) {nx : Nat} (hn : pc + 3 = nx)
    (k : VV P m (nx, L, v :: S', u1) Q) : VV P m (pc, L, S, u) Q := by
  subst hn
  exact VV.call hp he hs hz hc (fun r t q => by obtain ⟨rfl, rfl⟩ := q; exact k)
theorem VV.callV {P : PT} {m pc : Nat} {L : List (Option Value)} {S : List Value} {u : Sg} {Q : Option Value → Sg → Prop} {y na mx rc : Nat} (hp : P m pc = some (.inr (.inr (y, na, mx, rc)))) {E : List (Option Value)} {S' : List Value} (he : ent mx (S.take na).reverse = E) (hs : S.drop na = S') (hz : (Nat.ble na S.length && Nat.ble (slc (S.take na)) mx && Nat.ble (slc (S.drop na)) 8 && rck rc (S.take na).reverse) = true) {u1 : Sg} (hc : VV P y (0, E, [], u) (fun r t => r = none ∧ t = u1)) {nx : Nat} (hn : pc + 3 = nx)
    (k : VV P m (nx, L, S', u1) Q) : VV P m (pc, L, S, u) Q := by
  subst hn
  exact VV.call hp he hs hz hc (fun r t q => by obtain ⟨rfl, rfl⟩ := q; exact k)
theorem VV.ret0 {P : PT} {m pc : Nat} {L : List (Option Value)} {u : Sg} {Q : Option Value → Sg → Prop} (hp : P m pc = some (.inr (.inl 0))) (q : Q none u) : VV P m (pc, L, [], u) Q := ⟨1, none, u, by rw [rn]; dsimp only; rw [hp]; rfl, q⟩
theorem VV.ret1 {P : PT} {m pc : Nat} {L : List (Option Value)} {u : Sg} {v : Int32} {Q : Option Value → Sg → Prop} (hp : P m pc = some (.inr (.inl 1))) (q : Q (some (.int v)) u) : VV P m (pc, L, [.int v], u) Q := ⟨1, some (.int v), u, by rw [rn]; dsimp only; rw [hp]; rfl, q⟩
theorem VV.ret2 {P : PT} {m pc : Nat} {L : List (Option Value)} {u : Sg} {v : Int64} {Q : Option Value → Sg → Prop} (hp : P m pc = some (.inr (.inl 2))) (q : Q (some (.long v)) u) : VV P m (pc, L, [.long v], u) Q := ⟨1, some (.long v), u, by rw [rn]; dsimp only; rw [hp]; rfl, q⟩
theorem VV.ret3 {P : PT} {m pc : Nat} {L : List (Option Value)} {u : Sg} {v : Int32} {Q : Option Value → Sg → Prop} (hp : P m pc = some (.inr (.inl 3))) (hv : v = 0 ∨ v = 1) (q : Q (some (.int v)) u) : VV P m (pc, L, [.int v], u) Q := ⟨1, some (.int v), u, by rw [rn]; dsimp only; rw [hp]; exact if_pos hv, q⟩
/-- an index that is a number -/
theorem ix_nI {n N : Nat} (h : n < N) (hN : N < 2 ^ 31) : 0 ≤ (nI n).toInt ∧ (nI n).toInt < (N : Int) := by
  rw [nI_toInt (by omega)]
  omega
theorem VV.iald {P : PT} {m pc : Nat} {L : List (Option Value)} {S : List Value} {u : Sg} {Q : Option Value → Sg → Prop} {t nx k n : Nat} {i : Int32} (hp : P m pc = some (.inl (o_iald t nx))) (ht : Nat.beq (lyC k) t = true) (hi : i = nI n) (hn : n < lyN k) (hN : lyN k < 2 ^ 31) (kk : VV P m (nx, L, .int (gA u k n) :: S, u) Q) : VV P m (pc, L, .int i :: .ref k :: S, u) Q := by
  subst hi
  refine VV.s hp ?_ kk
  show cond _ (_root_.ite _ _ _) _ = _
  rw [ht, if_pos (ix_nI hn hN), nI_clamp (by omega)]
  rfl
theorem VV.iast {P : PT} {m pc : Nat} {L : List (Option Value)} {S : List Value} {u : Sg} {Q : Option Value → Sg → Prop} {nx k n : Nat} {i x : Int32} (hp : P m pc = some (.inl (o_iast nx))) (ht : Nat.beq (lyC k) 4 = true) (hi : i = nI n) (hn : n < lyN k) (hN : lyN k < 2 ^ 31) (kk : VV P m (nx, L, S, pA u k (upd (gA u k) n x)) Q) : VV P m (pc, L, .int x :: .int i :: .ref k :: S, u) Q := by
  subst hi
  refine VV.s hp ?_ kk
  show cond _ (_root_.ite _ _ _) _ = _
  rw [ht, if_pos (ix_nI hn hN), nI_clamp (by omega)]
  rfl
theorem VV.bast {P : PT} {m pc : Nat} {L : List (Option Value)} {S : List Value} {u : Sg} {Q : Option Value → Sg → Prop} {nx k n : Nat} {i x : Int32} (hp : P m pc = some (.inl (o_bast nx))) (ht : Nat.beq (lyC k) 5 = true) (hi : i = nI n) (hn : n < lyN k) (hN : lyN k < 2 ^ 31) (kk : VV P m (nx, L, S, pA u k (upd (gA u k) n (vp_nar .byte x))) Q) : VV P m (pc, L, .int x :: .int i :: .ref k :: S, u) Q := by
  subst hi
  refine VV.s hp ?_ kk
  show cond _ (_root_.ite _ _ _) _ = _
  rw [ht, if_pos (ix_nI hn hN), nI_clamp (by omega)]
  rfl
theorem VV.copy {P : PT} {m pc : Nat} {L : List (Option Value)} {S : List Value} {u : Sg} {Q : Option Value → Sg → Prop} {nx a b sp dp n : Nat} {xs xd xn : Int32} (hp : P m pc = some (.inl (o_copy nx))) (h1 : (Nat.beq (lyC a) 4 && Nat.beq (lyC b) 4 && Nat.ble (slc S) 8) = true) (es : xs = nI sp) (ed : xd = nI dp) (en : xn = nI n) (h3 : sp + n ≤ lyN a) (h4 : dp + n ≤ lyN b) (ha : lyN a < 2 ^ 31) (hb : lyN b < 2 ^ 31) (kk : VV P m (nx, L, S, pA u b (va_cpy (gA u a) (gA u b) sp dp n)) Q) : VV P m (pc, L, .int xn :: .int xd :: .ref b :: .int xs :: .ref a :: S, u) Q := by
  subst es; subst ed; subst en
  refine VV.s hp ?_ kk
  show cond _ (_root_.ite _ _ _) _ = _
  rw [h1, if_pos (by rw [nI_toInt (by omega), nI_toInt (by omega), nI_toInt (by omega)]; omega), nI_clamp (by omega), nI_clamp (by omega), nI_clamp (by omega)]
  rfl
theorem VV.putZ {P : PT} {m pc : Nat} {L : List (Option Value)} {S : List Value} {u : Sg} {Q : Option Value → Sg → Prop} {c j nx k : Nat} {v : Int32} (hp : P m pc = some (.inl (o_putZ c j nx))) (hc : Nat.beq (lyC k) c = true) (hv : v = 0 ∨ v = 1) (kk : VV P m (nx, L, S, pI u k j v) Q) : VV P m (pc, L, .int v :: .ref k :: S, u) Q := by
  refine VV.s hp ?_ kk
  show cond _ (_root_.ite _ _ _) _ = _
  rw [hc, if_pos hv]
  rfl

theorem VV.idiv {P : PT} {m pc : Nat} {L : List (Option Value)} {S : List Value} {u : Sg} {Q : Option Value → Sg → Prop} {nx : Nat} {x y : Int32} (hp : P m pc = some (.inl (o_idiv nx))) (hy : ¬ y = 0) (kk : VV P m (nx, L, .int (x / y) :: S, u) Q) : VV P m (pc, L, .int y :: .int x :: S, u) Q := by
  refine VV.s hp ?_ kk
  show _root_.ite _ _ _ = _
  rw [if_neg hy]
theorem VV.irem {P : PT} {m pc : Nat} {L : List (Option Value)} {S : List Value} {u : Sg} {Q : Option Value → Sg → Prop} {nx : Nat} {x y : Int32} (hp : P m pc = some (.inl (o_irem nx))) (hy : ¬ y = 0) (kk : VV P m (nx, L, .int (x - x / y * y) :: S, u) Q) : VV P m (pc, L, .int y :: .int x :: S, u) Q := by
  refine VV.s hp ?_ kk
  show _root_.ite _ _ _ = _
  rw [if_neg hy]
theorem VV.ldiv {P : PT} {m pc : Nat} {L : List (Option Value)} {S : List Value} {u : Sg} {Q : Option Value → Sg → Prop} {nx : Nat} {x y : Int64} (hp : P m pc = some (.inl (o_ldiv nx))) (hy : ¬ y = 0) (kk : VV P m (nx, L, .long (x / y) :: S, u) Q) : VV P m (pc, L, .long y :: .long x :: S, u) Q := by
  refine VV.s hp ?_ kk
  show _root_.ite _ _ _ = _
  rw [if_neg hy]
theorem VV.lrem {P : PT} {m pc : Nat} {L : List (Option Value)} {S : List Value} {u : Sg} {Q : Option Value → Sg → Prop} {nx : Nat} {x y : Int64} (hp : P m pc = some (.inl (o_lrem nx))) (hy : ¬ y = 0) (kk : VV P m (nx, L, .long (x - x / y * y) :: S, u) Q) : VV P m (pc, L, .long y :: .long x :: S, u) Q := by
  refine VV.s hp ?_ kk
  show _root_.ite _ _ _ = _
  rw [if_neg hy]
theorem VV.slen {P : PT} {m pc : Nat} {L : List (Option Value)} {S : List Value} {u : Sg} {Q : Option Value → Sg → Prop} {nx j : Nat} (hp : P m pc = some (.inl (o_slen nx))) (hj : j < 4) (hz : slc S ≤ 8) (kk : VV P m (nx, L, .int (nI (txt j).length) :: S, u) Q) : VV P m (pc, L, .ref (100 + j) :: S, u) Q := by
  refine VV.s hp ((if_pos (show 100 ≤ 100 + j ∧ 100 + j < 104 ∧ slc S ≤ 8 by omega)).trans ?_) kk
  rw [Nat.add_sub_cancel_left]
theorem VV.schr {P : PT} {m pc : Nat} {L : List (Option Value)} {S : List Value} {u : Sg} {Q : Option Value → Sg → Prop} {nx j n : Nat} (hp : P m pc = some (.inl (o_schr nx))) (hj : j < 4) (hn : n < (txt j).length) (hl : (txt j).length < 2 ^ 31) (hz : slc S ≤ 8) (kk : VV P m (nx, L, .int (nI ((txt j).getD n 0)) :: S, u) Q) : VV P m (pc, L, .int (nI n) :: .ref (100 + j) :: S, u) Q := by
  have h0 : 100 + j - 100 = j := by omega
  have h1 := ix_nI hn hl
  refine VV.s hp ((if_pos (show 100 ≤ 100 + j ∧ 100 + j < 104 ∧ 0 ≤ (nI n).toInt ∧ (nI n).toInt < (txt (100 + j - 100)).length ∧ slc S ≤ 8 from ⟨by omega, by omega, h1.1, by rw [h0]; exact h1.2, hz⟩)).trans ?_) kk
  rw [h0, nI_clamp (by omega)]
