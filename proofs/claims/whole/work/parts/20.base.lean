/-! ===== what a state is: numbers; how class and reference hold it ===== -/
/-- a house: people, evening, notes, undos; kind, sort, wants, holder (0: the counter, p + 1: with p), used, slipped; notes (five numbers each); the past (holder, used, slipped, evening) -/
abbrev Hs : Type := (Nat × Nat × Nat × Nat) × ((Nat → Nat) × (Nat → Nat) × (Nat → Nat) × (Nat → Nat) × (Nat → Nat) × (Nat → Int32)) × (Nat → Nat → Nat) × ((Nat → Nat → Nat) × (Nat → Nat → Nat) × (Nat → Nat → Int32) × (Nat → Nat))
abbrev hn (h : Hs) : Nat := h.1.1
abbrev hev (h : Hs) : Nat := h.1.2.1
abbrev hnn (h : Hs) : Nat := h.1.2.2.1
abbrev hun (h : Hs) : Nat := h.1.2.2.2
abbrev hkd (h : Hs) : Nat → Nat := h.2.1.1
abbrev hso (h : Hs) : Nat → Nat := h.2.1.2.1
abbrev hwa (h : Hs) : Nat → Nat := h.2.1.2.2.1
abbrev hho (h : Hs) : Nat → Nat := h.2.1.2.2.2.1
abbrev hus (h : Hs) : Nat → Nat := h.2.1.2.2.2.2.1
abbrev hsl (h : Hs) : Nat → Int32 := h.2.1.2.2.2.2.2
abbrev hN (h : Hs) : Nat → Nat → Nat := h.2.2.1
abbrev hPh (h : Hs) : Nat → Nat → Nat := h.2.2.2.1
abbrev hPu (h : Hs) : Nat → Nat → Nat := h.2.2.2.2.1
abbrev hPs (h : Hs) : Nat → Nat → Int32 := h.2.2.2.2.2.1
abbrev hPe (h : Hs) : Nat → Nat := h.2.2.2.2.2.2
/-- a holder as the arrays have it -/
def cI (x : Nat) : Int32 := nI x - 1
theorem cI_0 : cI 0 = -1 := rfl
theorem cI_s (p : Nat) : cI (p + 1) = nI p := nI_pred p
theorem cI_toInt {x : Nat} (h : x < 2 ^ 31) : (cI x).toInt = (x : Int) - 1 := by
  cases x with
  | zero => rfl
  | succ n => rw [cI_s, nI_toInt (by omega)]; omega
theorem cI_inj {x y : Nat} (hx : x < 2 ^ 31) (hy : y < 2 ^ 31) : cI x = cI y ↔ x = y := by
  refine ⟨fun h => ?_, fun h => by rw [h]⟩
  have := congrArg Int32.toInt h
  rw [cI_toInt hx, cI_toInt hy] at this
  omega
theorem cI_none {x : Nat} (hx : x < 2 ^ 31) : cI x = -1 ↔ x = 0 := by
  rw [← cI_0, cI_inj hx (by omega)]
theorem cI_nI {x p : Nat} (hx : x < 2 ^ 31) (hp : p + 1 < 2 ^ 31) : cI x = nI p ↔ x = p + 1 := by
  rw [← cI_s, cI_inj hx hp]
/-- a house of the class, at cell b -/
def HRep (u : Sg) (b : Nat) (h : Hs) : Prop :=
  (gI u b 0 = nI (hn h) ∧ gI u b 1 = nI (hev h) ∧ gI u b 2 = nI (hnn h) ∧ gI u b 3 = nI (hun h)) ∧
  (∀ v, v < hn h → gA u (b + 1) v = nI (hkd h v) ∧ gA u (b + 2) v = nI (hso h v) ∧ gA u (b + 3) v = nI (hwa h v) ∧ gA u (b + 4) v = cI (hho h v) ∧ gA u (b + 5) v = nI (hus h v) ∧ gA u (b + 6) v = hsl h v) ∧
  (∀ i c, i < hnn h → c < 5 → gA u (b + 7) (5 * i + c) = nI (hN h i c)) ∧
  (∀ k, k < hun h → gA u (b + 8) (19 * k + 18) = nI (hPe h k) ∧ ∀ v, v < hn h → gA u (b + 8) (19 * k + v) = cI (hPh h k v) ∧ gA u (b + 8) (19 * k + 6 + v) = nI (hPu h k v) ∧ gA u (b + 8) (19 * k + 12 + v) = hPs h k v)
/-- the reference's own -/
def MRep (u : Sg) (h : Hs) : Prop :=
  (gI u 41 1 = nI (hn h) ∧ gI u 41 2 = nI (hev h) ∧ gI u 41 3 = nI (hnn h) ∧ gI u 41 23 = nI (hun h)) ∧
  (∀ v, v < hn h → gA u 43 v = nI (hkd h v) ∧ gA u 44 v = nI (hso h v) ∧ gA u 45 v = nI (hwa h v) ∧ gA u 46 v = cI (hho h v) ∧ gA u 47 v = nI (hus h v) ∧ gA u 48 v = hsl h v) ∧
  (∀ i c, i < hnn h → c < 5 → gA u (49 + c) i = nI (hN h i c)) ∧
  (∀ k, k < hun h → gA u 57 (19 * k) = nI (hPe h k) ∧ ∀ v, v < hn h → gA u 57 (19 * k + 1 + v) = cI (hPh h k v) ∧ gA u 57 (19 * k + 7 + v) = nI (hPu h k v) ∧ gA u 57 (19 * k + 13 + v) = hPs h k v)
/-- the reference's image, from place a on -/
def IRep (u : Sg) (a : Nat) (h : Hs) : Prop :=
  (gA u 61 a = nI (hn h) ∧ gA u 61 (a + 3) = nI (hev h) ∧ gA u 61 (a + 1) = nI (hnn h) ∧ gA u 61 (a + 2) = nI (hun h)) ∧
  (∀ v, v < hn h → gA u 61 (a + 22 + v) = nI (hkd h v) ∧ gA u 61 (a + 28 + v) = nI (hso h v) ∧ gA u 61 (a + 34 + v) = nI (hwa h v) ∧ gA u 61 (a + 4 + v) = cI (hho h v) ∧ gA u 61 (a + 10 + v) = nI (hus h v) ∧ gA u 61 (a + 16 + v) = hsl h v) ∧
  (∀ i c, i < hnn h → c < 5 → gA u 61 (a + 40 + 6 * c + i) = nI (hN h i c)) ∧
  (∀ k, k < hun h → gA u 61 (a + 70 + 19 * k) = nI (hPe h k) ∧ ∀ v, v < hn h → gA u 61 (a + 71 + 19 * k + v) = cI (hPh h k v) ∧ gA u 61 (a + 77 + 19 * k + v) = nI (hPu h k v) ∧ gA u 61 (a + 83 + 19 * k + v) = hPs h k v)
/-- where voices are: with people who are there, nobody has two -/
def GoodW (n : Nat) (ho us : Nat → Nat) (e : Nat) : Prop := (∀ v, v < n → ho v ≤ n ∧ us v ≤ e) ∧ ∀ v w, v < n → w < n → ho v = ho w → ho v ≠ 0 → v = w
def GoodH (h : Hs) : Prop :=
  (hn h ≤ 6 ∧ hev h ≤ 999 ∧ hnn h ≤ 6 ∧ hun h ≤ 8) ∧ (∀ v, v < hn h → hkd h v ≤ 5 ∧ hso h v ≤ 9 ∧ hwa h v ≤ 9) ∧ GoodW (hn h) (hho h) (hus h) (hev h) ∧
  (∀ i, i < hnn h → hN h i 0 < hn h ∧ hN h i 1 ≤ 20 ∧ hN h i 2 ≤ 99 ∧ hN h i 3 ≤ 9 ∧ hN h i 4 ≤ 9) ∧
  ∀ k, k < hun h → hPe h k ≤ 999 ∧ GoodW (hn h) (hPh h k) (hPu h k) (hPe h k)
/-- all: the house, two images, the text, the fraction, what was refused -/
abbrev Zs : Type := Hs × (Option Hs × Option Hs) × (Nat × (Nat → Nat)) × (Int64 × Int64) × (Int32 × Int32 × Int32)
abbrev zh (z : Zs) : Hs := z.1
def ImC (u : Sg) (j b : Nat) : Option Hs → Prop
  | none => gI u 0 j = 0
  | some h => gI u 0 j = 1 ∧ HRep u b h
def ImM (u : Sg) (i : Nat) : Option Hs → Prop
  | none => gA u 62 i = 0
  | some h => gA u 62 i = 1 ∧ IRep u (230 * i) h
def GoodO : Option Hs → Prop
  | none => True
  | some h => GoodH h
def CInv (u : Sg) (z : Zs) : Prop :=
  HRep u 1 z.1 ∧ ImC u 4 19 z.2.1.1 ∧ ImC u 5 28 z.2.1.2 ∧ (gI u 37 1 = nI z.2.2.1.1 ∧ ∀ j, j < z.2.2.1.1 → gA u 38 j = nI (z.2.2.1.2 j)) ∧ (gJ u 0 9 = z.2.2.2.1.1 ∧ gJ u 0 10 = z.2.2.2.1.2) ∧ gI u 0 11 = z.2.2.2.2.1 ∧ gI u 0 12 = z.2.2.2.2.2.1 ∧ gI u 0 13 = z.2.2.2.2.2.2
def MInv (u : Sg) (z : Zs) : Prop :=
  MRep u z.1 ∧ ImM u 0 z.2.1.1 ∧ ImM u 1 z.2.1.2 ∧ (gI u 41 16 = nI z.2.2.1.1 ∧ ∀ j, j < z.2.2.1.1 → gA u 54 j = nI (z.2.2.1.2 j)) ∧ (gJ u 41 27 = z.2.2.2.1.1 ∧ gJ u 41 28 = z.2.2.2.1.2) ∧ gA u 42 0 = z.2.2.2.2.1 ∧ gA u 42 1 = z.2.2.2.2.2.1 ∧ gA u 42 2 = z.2.2.2.2.2.2
def GoodZ (z : Zs) : Prop := GoodH z.1 ∧ GoodO z.2.1.1 ∧ GoodO z.2.1.2 ∧ z.2.2.1.1 ≤ 150 ∧ ∀ j, j < z.2.2.1.1 → z.2.2.1.2 j < 128
/-- two heaps agree on these cells -/
def Agr (K : Nat → Prop) (u t : Sg) : Prop := ∀ k, K k → (∀ j, gI t k j = gI u k j) ∧ (∀ j, gJ t k j = gJ u k j) ∧ gA t k = gA u k
theorem Agr.rf {K : Nat → Prop} {u : Sg} : Agr K u u := fun _ _ => ⟨fun _ => rfl, fun _ => rfl, rfl⟩
theorem Agr.tr {K : Nat → Prop} {u v w : Sg} (h1 : Agr K u v) (h2 : Agr K v w) : Agr K u w := fun k hk => ⟨fun j => ((h2 k hk).1 j).trans ((h1 k hk).1 j), fun j => ((h2 k hk).2.1 j).trans ((h1 k hk).2.1 j), (h2 k hk).2.2.trans (h1 k hk).2.2⟩
theorem Agr.sub {K K' : Nat → Prop} {u v : Sg} (h : Agr K u v) (hs : ∀ k, K' k → K k) : Agr K' u v := fun k hk => h k (hs k hk)
theorem Agr.I {K : Nat → Prop} {u v : Sg} {k j : Nat} {x : Int32} (h : Agr K u v) (hk : ¬ K k) : Agr K u (pI v k j x) := fun q hq => by
  have hne : q ≠ k := fun e => hk (e ▸ hq)
  refine ⟨fun i => ?_, (h q hq).2.1, (h q hq).2.2⟩
  rw [gI_pI, if_neg hne]
  exact (h q hq).1 i
theorem Agr.J {K : Nat → Prop} {u v : Sg} {k j : Nat} {x : Int64} (h : Agr K u v) (hk : ¬ K k) : Agr K u (pJ v k j x) := fun q hq => by
  have hne : q ≠ k := fun e => hk (e ▸ hq)
  refine ⟨(h q hq).1, fun i => ?_, (h q hq).2.2⟩
  rw [gJ_pJ, if_neg hne]
  exact (h q hq).2.1 i
theorem Agr.A {K : Nat → Prop} {u v : Sg} {k : Nat} {f : Nat → Int32} (h : Agr K u v) (hk : ¬ K k) : Agr K u (pA v k f) := fun q hq => by
  have hne : q ≠ k := fun e => hk (e ▸ hq)
  refine ⟨(h q hq).1, (h q hq).2.1, ?_⟩
  rw [gA_pA, if_neg hne]
  exact (h q hq).2.2
/-- the class's cells, the reference's cells -/
abbrev onC : Nat → Prop := fun k => k ≤ 40
abbrev onM : Nat → Prop := fun k => 41 ≤ k
abbrev onH (b : Nat) : Nat → Prop := fun k => b ≤ k ∧ k ≤ b + 8
abbrev offH (b : Nat) : Nat → Prop := fun k => k < b ∨ b + 9 ≤ k
theorem HRep.keep {u t : Sg} {b : Nat} {h : Hs} (a : Agr (onH b) u t) (r : HRep u b h) : HRep t b h := by
  have g : ∀ k, b ≤ k → k ≤ b + 8 → gA t k = gA u k := fun k h1 h2 => (a k ⟨h1, h2⟩).2.2
  have gi := (a b ⟨Nat.le_refl _, by omega⟩).1
  unfold HRep
  rw [gi, gi, gi, gi, g (b + 1) (by omega) (by omega), g (b + 2) (by omega) (by omega), g (b + 3) (by omega) (by omega), g (b + 4) (by omega) (by omega), g (b + 5) (by omega) (by omega), g (b + 6) (by omega) (by omega), g (b + 7) (by omega) (by omega), g (b + 8) (by omega) (by omega)]
  exact r
theorem CInv.keep {u t : Sg} {z : Zs} (a : Agr onC u t) (r : CInv u z) : CInv t z := by
  obtain ⟨h1, h2, h3, ⟨h4, h5⟩, ⟨h6, h7⟩, h8, h9, h10⟩ := r
  have g0 := a 0 (by omega)
  have g37 := a 37 (by omega)
  have g38 := a 38 (by omega)
  refine ⟨h1.keep (a.sub (fun k hk => by have := hk.2; show k ≤ 40; omega)), ?_, ?_, ⟨by rw [g37.1]; exact h4, fun j hj => by rw [g38.2.2]; exact h5 j hj⟩, ⟨by rw [g0.2.1]; exact h6, by rw [g0.2.1]; exact h7⟩, by rw [g0.1]; exact h8, by rw [g0.1]; exact h9, by rw [g0.1]; exact h10⟩
  · revert h2
    cases z.2.1.1 with
    | none => intro h2; show gI t 0 4 = 0; rw [g0.1]; exact h2
    | some q => intro h2; exact ⟨by rw [g0.1]; exact h2.1, h2.2.keep (a.sub (fun k hk => by have := hk.2; show k ≤ 40; omega))⟩
  · revert h3
    cases z.2.1.2 with
    | none => intro h2; show gI t 0 5 = 0; rw [g0.1]; exact h2
    | some q => intro h2; exact ⟨by rw [g0.1]; exact h2.1, h2.2.keep (a.sub (fun k hk => by have := hk.2; show k ≤ 40; omega))⟩
theorem MRep.keep {u t : Sg} {h : Hs} (a : Agr onM u t) (r : MRep u h) : MRep t h := by
  have g : ∀ k, 41 ≤ k → gA t k = gA u k := fun k h1 => (a k h1).2.2
  have gi := (a 41 (Nat.le_refl _)).1
  refine ⟨by rw [gi, gi, gi, gi]; exact r.1, fun v hv => by rw [g 43 (by omega), g 44 (by omega), g 45 (by omega), g 46 (by omega), g 47 (by omega), g 48 (by omega)]; exact r.2.1 v hv, fun i c hi hc => by rw [g (49 + c) (by omega)]; exact r.2.2.1 i c hi hc, ?_⟩
  rw [g 57 (by omega)]
  exact r.2.2.2
theorem MInv.keep {u t : Sg} {z : Zs} (a : Agr onM u t) (r : MInv u z) : MInv t z := by
  obtain ⟨h1, h2, h3, ⟨h4, h5⟩, ⟨h6, h7⟩, h8, h9, h10⟩ := r
  have g : ∀ k, 41 ≤ k → gA t k = gA u k := fun k h1 => (a k h1).2.2
  have gi := (a 41 (Nat.le_refl _)).1
  have gj := (a 41 (Nat.le_refl _)).2.1
  refine ⟨h1.keep a, ?_, ?_, ⟨by rw [gi]; exact h4, fun j hj => by rw [g 54 (by omega)]; exact h5 j hj⟩, ⟨by rw [gj]; exact h6, by rw [gj]; exact h7⟩, by rw [g 42 (by omega)]; exact h8, by rw [g 42 (by omega)]; exact h9, by rw [g 42 (by omega)]; exact h10⟩
  · revert h2
    cases z.2.1.1 with
    | none => intro h2; show gA t 62 0 = 0; rw [g 62 (by omega)]; exact h2
    | some q => intro h2; exact ⟨by rw [g 62 (by omega)]; exact h2.1, by have := h2.2; unfold IRep at this ⊢; rw [g 61 (by omega)]; exact this⟩
  · revert h3
    cases z.2.1.2 with
    | none => intro h2; show gA t 62 1 = 0; rw [g 62 (by omega)]; exact h2
    | some q => intro h2; exact ⟨by rw [g 62 (by omega)]; exact h2.1, by have := h2.2; unfold IRep at this ⊢; rw [g 61 (by omega)]; exact this⟩
/-- the answer and the heap, told -/
abbrev is (v : Value) (u : Sg) : Option Value → Sg → Prop := fun r t => r = some v ∧ t = u
abbrev isN (u : Sg) : Option Value → Sg → Prop := fun r t => r = none ∧ t = u
