/-! ===== reading: what a text says (numbers alone); the class goes on by a token ===== -/
section RD1
def rdRun (c : Nat → Bool) : Nat → Nat → Nat
  | 0, i => i
  | k + 1, i => if c i = true then rdRun c k (i + 1) else i
theorem rdRun_le (c : Nat → Bool) : ∀ k i, i ≤ rdRun c k i ∧ rdRun c k i ≤ i + k
  | 0, i => ⟨Nat.le_refl _, Nat.le_refl _⟩
  | k + 1, i => by
    rw [rdRun]
    have := rdRun_le c k (i + 1)
    split <;> omega
theorem rdRun_s {c : Nat → Bool} {N i : Nat} (h : i < N) : rdRun c (N - i) i = if c i = true then rdRun c (N - (i + 1)) (i + 1) else i := by
  obtain ⟨k, hk⟩ : ∃ k, N - i = k + 1 := ⟨N - i - 1, by omega⟩
  rw [hk, rdRun, show N - (i + 1) = k by omega]
theorem rdRun_0 {c : Nat → Bool} {N i : Nat} (h : N ≤ i) : rdRun c (N - i) i = i := by
  rw [show N - i = 0 by omega]; rfl
def isBl (T : Nat → Nat) (j : Nat) : Bool := decide (T j = 32)
def isLe (T : Nat → Nat) (j : Nat) : Bool := decide (97 ≤ T j ∧ T j ≤ 122)
def isFi (T : Nat → Nat) (j : Nat) : Bool := decide (48 ≤ T j ∧ T j ≤ 57)
/-- where blanks, a word, a number end -/
def rdSk (T : Nat → Nat) (N i : Nat) : Nat := rdRun (isBl T) (N - i) i
def rdWz (T : Nat → Nat) (N i : Nat) : Nat := rdRun (isLe T) (N - i) i
def rdFz (T : Nat → Nat) (N i : Nat) : Nat := rdRun (isFi T) (N - i) i
theorem rdSk_le (T : Nat → Nat) {N i : Nat} (h : i ≤ N) : i ≤ rdSk T N i ∧ rdSk T N i ≤ N := by
  have := rdRun_le (isBl T) (N - i) i
  unfold rdSk; omega
theorem rdWz_le (T : Nat → Nat) {N i : Nat} (h : i ≤ N) : i ≤ rdWz T N i ∧ rdWz T N i ≤ N := by
  have := rdRun_le (isLe T) (N - i) i
  unfold rdWz; omega
theorem rdFz_le (T : Nat → Nat) {N i : Nat} (h : i ≤ N) : i ≤ rdFz T N i ∧ rdFz T N i ≤ N := by
  have := rdRun_le (isFi T) (N - i) i
  unfold rdFz; omega
def rdV (T : Nat → Nat) (s e : Nat) : Nat := if e = s + 1 then T s - 48 else 10 * (T s - 48) + (T (s + 1) - 48)
/-- a number below b, or where it isn't -/
def rdNum (T : Nat → Nat) (N i b : Nat) : Nat ⊕ (Nat × Nat) :=
  if (1 ≤ rdFz T N (rdSk T N i) - rdSk T N i ∧ rdFz T N (rdSk T N i) - rdSk T N i ≤ 2) ∧ rdV T (rdSk T N i) (rdFz T N (rdSk T N i)) < b then .inr (rdV T (rdSk T N i) (rdFz T N (rdSk T N i)), rdFz T N (rdSk T N i)) else .inl (rdSk T N i)
def rdEnd (T : Nat → Nat) (N i : Nat) : Nat ⊕ Nat := if rdSk T N i < N ∧ T (rdSk T N i) = 59 then .inr (rdSk T N i + 1) else .inl (rdSk T N i)
def eqw (T : Nat → Nat) : List Nat → Nat → Bool
  | [], _ => true
  | c :: r, i => decide (T i = c) && eqw T r (i + 1)
/-- the word j stands at s -/
def rdW (T : Nat → Nat) (N j s : Nat) : Bool := decide (rdWz T N s - s = (txt j).length) && eqw T (txt j) s
def tk (c : Nat) : Nat := if 97 ≤ c ∧ c ≤ 122 then 1 else if 48 ≤ c ∧ c ≤ 57 then 2 else if c = 59 then 3 else 4
theorem tk_1 {T : Nat → Nat} {j : Nat} : tk (T j) = 1 ↔ isLe T j = true := by
  unfold tk isLe
  rw [decide_eq_true_iff]
  split
  · rename_i h; exact ⟨fun _ => h, fun _ => rfl⟩
  · rename_i h
    refine ⟨fun q => ?_, fun q => absurd q h⟩
    split at q
    · omega
    · split at q <;> omega
theorem tk_2 {T : Nat → Nat} {j : Nat} : tk (T j) = 2 ↔ isFi T j = true := by
  unfold tk isFi
  rw [decide_eq_true_iff]
  split
  · rename_i h; exact ⟨fun q => by omega, fun q => by omega⟩
  · split
    · rename_i h; exact ⟨fun _ => h, fun _ => rfl⟩
    · rename_i h
      refine ⟨fun q => ?_, fun q => absurd q h⟩
      split at q <;> omega
theorem tk_3 {T : Nat → Nat} {j : Nat} : tk (T j) = 3 ↔ T j = 59 := by
  unfold tk
  split
  · rename_i h; exact ⟨fun q => by omega, fun q => by omega⟩
  · split
    · rename_i h; exact ⟨fun q => by omega, fun q => by omega⟩
    · split
      · rename_i h; exact ⟨fun _ => h, fun _ => rfl⟩
      · rename_i h; exact ⟨fun q => by omega, fun q => absurd q h⟩
theorem tk_le (c : Nat) : 1 ≤ tk c ∧ tk c ≤ 4 := by
  unfold tk
  split
  · omega
  · split
    · omega
    · split <;> omega
/-- the class's token from i on: its sort, where it ends -/
def tkS (T : Nat → Nat) (N s : Nat) : Nat := if s < N then (if tk (T s) = 2 ∧ 2 < rdFz T N s - s then 4 else tk (T s)) else 0
def tkE (T : Nat → Nat) (N s : Nat) : Nat := if s < N then (if tk (T s) = 1 then rdWz T N s else if tk (T s) = 2 then rdFz T N s else s + 1) else s
variable {u : Sg} {z : Zs}
abbrev o37 : Nat → Prop := fun k => k ≠ 37
/-- the reader behind a step -/
def RS (T : Nat → Nat) (N s : Nat) (t : Sg) : Prop := gI t 37 1 = nI N ∧ gI t 37 2 = nI (tkS T N s) ∧ gI t 37 3 = nI s ∧ gI t 37 4 = nI (tkE T N s) ∧ (tkS T N s = 2 → gI t 37 5 = nI (rdV T s (rdFz T N s)))
theorem e_tok {c : Nat} (hc : c < 128) : V 44 (0, [some (.int (nI c))], [], u) (is (.int (nI (tk c))) u) := by
  have fin : ¬ (97 ≤ c ∧ c ≤ 122) → V 44 (14, [some (.int (nI c))], [], u) (is (.int (nI (tk c))) u) := by
    intro h1
    unfold tk
    rw [if_neg h1]
    have last : ¬ (48 ≤ c ∧ c ≤ 57) → V 44 (28, [some (.int (nI c))], [], u) (is (.int (nI (if 48 ≤ c ∧ c ≤ 57 then 2 else if c = 59 then 3 else 4))) u) := by
      intro h2
      rw [if_neg h2]
      ((repeat refine VV.s rfl rfl ?_); (try (conv => arg 3; simp only [Nat.reduceAdd, sto1, sto2, isL, cond_true, cond_false, List.drop_succ_cons, List.drop_zero, List.drop_nil])))
      refine VV.ite (fun q => ?_) (fun q => ?_)
      · have q : ¬ nI c = nI 59 := q
        rw [eq_nI (by omega) (by omega)] at q
        ((repeat refine VV.s rfl rfl ?_); (try (conv => arg 3; simp only [Nat.reduceAdd, sto1, sto2, isL, cond_true, cond_false, List.drop_succ_cons, List.drop_zero, List.drop_nil])))
        rw [if_neg q]
        exact VV.ret1 rfl ⟨rfl, rfl⟩
      · have q : ¬ ¬ nI c = nI 59 := q
        rw [eq_nI (by omega) (by omega)] at q
        ((repeat refine VV.s rfl rfl ?_); (try (conv => arg 3; simp only [Nat.reduceAdd, sto1, sto2, isL, cond_true, cond_false, List.drop_succ_cons, List.drop_zero, List.drop_nil])))
        rw [if_pos (Classical.not_not.mp q)]
        exact VV.ret1 rfl ⟨rfl, rfl⟩
    ((repeat refine VV.s rfl rfl ?_); (try (conv => arg 3; simp only [Nat.reduceAdd, sto1, sto2, isL, cond_true, cond_false, List.drop_succ_cons, List.drop_zero, List.drop_nil])))
    refine VV.ite (fun q => ?_) (fun q => ?_)
    · have q : nI c < nI 48 := q
      rw [lt_nI (by omega) (by omega)] at q
      exact last (by omega)
    · have q : ¬ nI c < nI 48 := q
      rw [lt_nI (by omega) (by omega)] at q
      ((repeat refine VV.s rfl rfl ?_); (try (conv => arg 3; simp only [Nat.reduceAdd, sto1, sto2, isL, cond_true, cond_false, List.drop_succ_cons, List.drop_zero, List.drop_nil])))
      refine VV.ite (fun q2 => ?_) (fun q2 => ?_)
      · have q2 : nI 57 < nI c := q2
        rw [lt_nI (by omega) (by omega)] at q2
        exact last (by omega)
      · have q2 : ¬ nI 57 < nI c := q2
        rw [lt_nI (by omega) (by omega)] at q2
        rw [if_pos (by omega)]
        ((repeat refine VV.s rfl rfl ?_); (try (conv => arg 3; simp only [Nat.reduceAdd, sto1, sto2, isL, cond_true, cond_false, List.drop_succ_cons, List.drop_zero, List.drop_nil])))
        exact VV.ret1 rfl ⟨rfl, rfl⟩
  ((repeat refine VV.s rfl rfl ?_); (try (conv => arg 3; simp only [Nat.reduceAdd, sto1, sto2, isL, cond_true, cond_false, List.drop_succ_cons, List.drop_zero, List.drop_nil])))
  refine VV.ite (fun q => ?_) (fun q => ?_)
  · have q : nI c < nI 97 := q
    rw [lt_nI (by omega) (by omega)] at q
    exact fin (by omega)
  · have q : ¬ nI c < nI 97 := q
    rw [lt_nI (by omega) (by omega)] at q
    ((repeat refine VV.s rfl rfl ?_); (try (conv => arg 3; simp only [Nat.reduceAdd, sto1, sto2, isL, cond_true, cond_false, List.drop_succ_cons, List.drop_zero, List.drop_nil])))
    refine VV.ite (fun q2 => ?_) (fun q2 => ?_)
    · have q2 : nI 122 < nI c := q2
      rw [lt_nI (by omega) (by omega)] at q2
      exact fin (by omega)
    · have q2 : ¬ nI 122 < nI c := q2
      rw [lt_nI (by omega) (by omega)] at q2
      ((repeat refine VV.s rfl rfl ?_); (try (conv => arg 3; simp only [Nat.reduceAdd, sto1, sto2, isL, cond_true, cond_false, List.drop_succ_cons, List.drop_zero, List.drop_nil])))
      refine VV.ret1 rfl ⟨?_, rfl⟩
      unfold tk
      rw [if_pos (by omega)]
      rfl
theorem val1 {b : Nat} (h : 48 ≤ b) (v : Nat) : (10 : Int32) * nI v + nI b - 48 = nI (10 * v + (b - 48)) := by
  rw [show (10 : Int32) = nI 10 from rfl, show (48 : Int32) = nI 48 from rfl, pk_mul, nI_add, pk_sub (by omega)]
  congr 1
  omega
set_option maxHeartbeats 8000000 in
theorem e_takeValue {T : Nat → Nat} {N s e : Nat} (hN : N ≤ 150) (hB : ∀ j, j < N → gA u 38 j = nI (T j)) (he : e ≤ N) (hs : s < e) (h3 : gI u 37 3 = nI s) (h4 : gI u 37 4 = nI e) (hf : ∀ j, s ≤ j → j < e → 48 ≤ T j) : V 45 (0, [some (.ref 37), none], [], u) (fun r t => r = none ∧ ((2 < e - s ∧ t = pI u 37 2 4) ∨ (e - s ≤ 2 ∧ (gI t 37 1 = gI u 37 1 ∧ gI t 37 2 = gI u 37 2 ∧ gI t 37 3 = gI u 37 3 ∧ gI t 37 4 = gI u 37 4 ∧ gI t 37 5 = nI (rdV T s e) ∧ Agr o37 u t)))) := by
  ((repeat refine VV.s rfl rfl ?_); (try (conv => arg 3; simp only [Nat.reduceAdd, sto1, sto2, isL, cond_true, cond_false, List.drop_succ_cons, List.drop_zero, List.drop_nil])))
  rw [h3, h4, pk_sub (by omega)]
  refine VV.ite (fun q => ?_) (fun q => ?_)
  · have q : nI (e - s) ≤ nI 2 := q
    rw [le_nI (by omega) (by omega)] at q
    ((repeat (fail_if_success show VV _ _ (29, _, _, _) _); refine VV.s rfl rfl ?_); (try (conv => arg 3; simp only [Nat.reduceAdd, sto1, sto2, isL, cond_true, cond_false, List.drop_succ_cons, List.drop_zero, List.drop_nil])))
    rw [show gI (pI u 37 5 0) 37 3 = nI s from h3]
    refine VV.s rfl rfl ?_
    refine VV.s rfl rfl ?_
    refine VV.s rfl rfl ?_
    refine VV.s rfl rfl ?_
    refine VV.itf (show ¬ gI u 37 4 ≤ nI s by rw [h4]; exact nI_ge (by omega) (by omega)) ?_
    ((repeat refine VV.s rfl rfl ?_); (try (conv => arg 3; simp only [Nat.reduceAdd, sto1, sto2, isL, cond_true, cond_false, List.drop_succ_cons, List.drop_zero, List.drop_nil])))
    refine VV.iald rfl rfl rfl (show s < 150 by omega) (by decide) ?_
    ((repeat (fail_if_success show VV _ _ (29, _, _, _) _); refine VV.s rfl rfl ?_); (try (conv => arg 3; simp only [Nat.reduceAdd, sto1, sto2, isL, cond_true, cond_false, List.drop_succ_cons, List.drop_zero, List.drop_nil])))
    rw [show gA (pI u 37 5 0) 38 s = nI (T s) from hB s (by omega), nI_1]
    have e1 : (10 : Int32) * gI (pI u 37 5 0) 37 5 + nI (T s) - 48 = nI (T s - 48) := by
      have := val1 (hf s (by omega) (by omega)) 0
      rw [show 10 * 0 + (T s - 48) = T s - 48 by omega] at this
      exact this
    rw [e1]
    by_cases c : e = s + 1
    · refine VV.s rfl rfl ?_
      refine VV.s rfl rfl ?_
      refine VV.s rfl rfl ?_
      refine VV.s rfl rfl ?_
      refine VV.itt (show gI u 37 4 ≤ nI (s + 1) by rw [h4]; exact nI_le (by omega) (by omega)) ?_
      refine VV.ret0 rfl ⟨rfl, Or.inr ⟨by omega, rfl, rfl, h3, h4, ?_, (Agr.rf).I (fun q => q rfl) |>.I (fun q => q rfl)⟩⟩
      show nI (T s - 48) = _
      unfold rdV
      rw [if_pos c]
    · refine VV.s rfl rfl ?_
      refine VV.s rfl rfl ?_
      refine VV.s rfl rfl ?_
      refine VV.s rfl rfl ?_
      refine VV.itf (show ¬ gI u 37 4 ≤ nI (s + 1) by rw [h4]; exact nI_ge (by omega) (by omega)) ?_
      ((repeat refine VV.s rfl rfl ?_); (try (conv => arg 3; simp only [Nat.reduceAdd, sto1, sto2, isL, cond_true, cond_false, List.drop_succ_cons, List.drop_zero, List.drop_nil])))
      refine VV.iald rfl rfl rfl (show (s + 1) < 150 by omega) (by decide) ?_
      ((repeat (fail_if_success show VV _ _ (29, _, _, _) _); refine VV.s rfl rfl ?_); (try (conv => arg 3; simp only [Nat.reduceAdd, sto1, sto2, isL, cond_true, cond_false, List.drop_succ_cons, List.drop_zero, List.drop_nil])))
      rw [show gA (pI (pI u 37 5 0) 37 5 (nI (T s - 48))) 38 (s + 1) = nI (T (s + 1)) from hB (s + 1) (by omega), nI_1]
      have e2 : (10 : Int32) * gI (pI (pI u 37 5 0) 37 5 (nI (T s - 48))) 37 5 + nI (T (s + 1)) - 48 = nI (10 * (T s - 48) + (T (s + 1) - 48)) := val1 (hf (s + 1) (by omega) (by omega)) (T s - 48)
      rw [e2]
      refine VV.s rfl rfl ?_
      refine VV.s rfl rfl ?_
      refine VV.s rfl rfl ?_
      refine VV.s rfl rfl ?_
      refine VV.itt (show gI u 37 4 ≤ nI (s + 1 + 1) by rw [h4]; exact nI_le (by omega) (by omega)) ?_
      refine VV.ret0 rfl ⟨rfl, Or.inr ⟨by omega, rfl, rfl, h3, h4, ?_, (Agr.rf).I (fun q => q rfl) |>.I (fun q => q rfl) |>.I (fun q => q rfl)⟩⟩
      show nI (10 * (T s - 48) + (T (s + 1) - 48)) = _
      unfold rdV
      rw [if_neg c]
  · have q : ¬ nI (e - s) ≤ nI 2 := q
    rw [le_nI (by omega) (by omega)] at q
    ((repeat refine VV.s rfl rfl ?_); (try (conv => arg 3; simp only [Nat.reduceAdd, sto1, sto2, isL, cond_true, cond_false, List.drop_succ_cons, List.drop_zero, List.drop_nil])))
    exact VV.ret0 rfl ⟨rfl, Or.inl ⟨by omega, rfl⟩⟩
end RD1
