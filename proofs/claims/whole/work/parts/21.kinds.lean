/-! ===== small numbers, kinds of voices: class ===== -/
theorem lt_nI {a b : Nat} (ha : a < 2 ^ 31) (hb : b < 2 ^ 31) : (nI a < nI b) = (a < b) := propext (nI_ltI ha hb)
theorem le_nI {a b : Nat} (ha : a < 2 ^ 31) (hb : b < 2 ^ 31) : (nI a ≤ nI b) = (a ≤ b) := propext (nI_leI ha hb)
theorem eq_nI {a b : Nat} (ha : a < 2 ^ 31) (hb : b < 2 ^ 31) : (nI a = nI b) = (a = b) := propext (nI_eq ha hb)
theorem if01 {c : Prop} [Decidable c] : ((if c then (0 : Int32) else 1) = 0) = c := by
  by_cases h : c
  · rw [if_pos h]; simp [h]
  · rw [if_neg h]; simp [h]
theorem if10 {c : Prop} [Decidable c] : ((if c then (1 : Int32) else 0) = 0) = ¬ c := by
  by_cases h : c
  · rw [if_pos h]; simp [h]
  · rw [if_neg h]; simp [h]
/-- as which sort a kind sounds; how many words it lets slip; how fit one is -/
def sdN (k s d : Nat) : Nat := if k = 1 then s - 2 else if k = 2 ∨ k = 5 then min 9 (s + 2) else if k = 4 then s - 2 - d % 2 else s
def plN (u : Nat) : Nat := if u ≤ 2 then 1 else 0
def wdN (k u : Nat) : Nat := if k = 2 then plN u + 1 else if k = 3 then max 1 (3 - u) else if k = 5 then 2 * (plN u + 1) else plN u
def ftN (a w : Nat) : Nat := 9 - (a - w) - (w - a)
theorem sdN_le {k s d : Nat} (hs : s ≤ 9) : sdN k s d ≤ 9 := by
  unfold sdN
  split
  · omega
  · split
    · omega
    · split <;> omega
theorem ftN_le (a w : Nat) : ftN a w ≤ 9 := by unfold ftN; omega
theorem plN_le (u : Nat) : plN u ≤ 1 := by unfold plN; split <;> omega
theorem wdN_le (k u : Nat) : wdN k u ≤ 4 := by
  have := plN_le u
  unfold wdN
  split
  · omega
  · split
    · omega
    · split <;> omega
theorem e_plain {u : Sg} {x : Nat} (hx : x < 2 ^ 31) : V 30 (0, [some (.int (nI x))], [], u) (is (.int (nI (plN x))) u) := by
  ((repeat refine VV.s rfl rfl ?_); (try (conv => arg 3; simp only [Nat.reduceAdd, sto1, sto2, isL, cond_true, cond_false, List.drop_succ_cons, List.drop_zero, List.drop_nil])))
  refine VV.ite (fun h => ?_) (fun h => ?_)
  · ((repeat refine VV.s rfl rfl ?_); (try (conv => arg 3; simp only [Nat.reduceAdd, sto1, sto2, isL, cond_true, cond_false, List.drop_succ_cons, List.drop_zero, List.drop_nil])))
    refine VV.ret1 rfl ⟨?_, rfl⟩
    have h : nI 2 < nI x := h
    rw [lt_nI (by omega) hx] at h
    rw [plN, if_neg (by omega)]; rfl
  · ((repeat refine VV.s rfl rfl ?_); (try (conv => arg 3; simp only [Nat.reduceAdd, sto1, sto2, isL, cond_true, cond_false, List.drop_succ_cons, List.drop_zero, List.drop_nil])))
    refine VV.ret1 rfl ⟨?_, rfl⟩
    have h : ¬ nI 2 < nI x := h
    rw [lt_nI (by omega) hx] at h
    rw [plN, if_pos (by omega)]; rfl
theorem e_treble {u : Sg} {x : Nat} (hx : x < 2 ^ 31) : V 31 (0, [some (.int (nI x))], [], u) (is (.int (nI (plN x + 1))) u) := by
  ((repeat refine VV.s rfl rfl ?_); (try (conv => arg 3; simp only [Nat.reduceAdd, sto1, sto2, isL, cond_true, cond_false, List.drop_succ_cons, List.drop_zero, List.drop_nil])))
  refine VV.callE rfl rfl rfl rfl (e_plain hx) rfl ?_
  ((repeat refine VV.s rfl rfl ?_); (try (conv => arg 3; simp only [Nat.reduceAdd, sto1, sto2, isL, cond_true, cond_false, List.drop_succ_cons, List.drop_zero, List.drop_nil])))
  exact VV.ret1 rfl ⟨by rw [← nI_1], rfl⟩
theorem swT_in {lo : Int} {ts : List Nat} {d : Nat} {k : Nat} (hk : k < 2 ^ 31) (h1 : lo ≤ k) (h2 : (k : Int) < lo + ts.length) {t : Nat} (ht : ts.getD (k - lo).toNat d = t) : swT lo ts d (nI k) = t := by
  rw [swT, nI_toInt hk, if_neg (by omega)]
  exact ht
theorem swT_out {lo : Int} {ts : List Nat} {d : Nat} {k : Nat} (hk : k < 2 ^ 31) (h1 : (k : Int) < lo ∨ lo + ts.length ≤ k) : swT lo ts d (nI k) = d := by
  rw [swT, nI_toInt hk, if_pos h1]
theorem V.pc {m pc pc' : Nat} {L : List (Option Value)} {S : List Value} {u : Sg} {Q : Option Value → Sg → Prop} (h : pc = pc') (k : V m (pc', L, S, u) Q) : V m (pc, L, S, u) Q := by subst h; exact k
theorem le6 {k : Nat} (h : k ≤ 5) : k = 0 ∨ k = 1 ∨ k = 2 ∨ k = 3 ∨ k = 4 ∨ k = 5 := by omega
theorem e_words {u : Sg} {k x : Nat} (hk : k ≤ 5) (hx : x < 2 ^ 31) : V 29 (0, [some (.int (nI k)), some (.int (nI x))], [], u) (is (.int (nI (wdN k x))) u) := by
  ((repeat refine VV.s rfl rfl ?_); (try (conv => arg 3; simp only [Nat.reduceAdd, sto1, sto2, isL, cond_true, cond_false, List.drop_succ_cons, List.drop_zero, List.drop_nil])))
  rcases le6 hk with rfl | rfl | rfl | rfl | rfl | rfl
  · refine V.pc (swT_out (by omega) (by decide)) ?_
    ((repeat refine VV.s rfl rfl ?_); (try (conv => arg 3; simp only [Nat.reduceAdd, sto1, sto2, isL, cond_true, cond_false, List.drop_succ_cons, List.drop_zero, List.drop_nil])))
    refine VV.callE rfl rfl rfl rfl (e_plain hx) rfl ?_
    exact VV.ret1 rfl ⟨rfl, rfl⟩
  · refine V.pc (swT_out (by omega) (by decide)) ?_
    ((repeat refine VV.s rfl rfl ?_); (try (conv => arg 3; simp only [Nat.reduceAdd, sto1, sto2, isL, cond_true, cond_false, List.drop_succ_cons, List.drop_zero, List.drop_nil])))
    refine VV.callE rfl rfl rfl rfl (e_plain hx) rfl ?_
    exact VV.ret1 rfl ⟨rfl, rfl⟩
  · refine V.pc (swT_in (by omega) (by decide) (by decide) rfl) ?_
    ((repeat refine VV.s rfl rfl ?_); (try (conv => arg 3; simp only [Nat.reduceAdd, sto1, sto2, isL, cond_true, cond_false, List.drop_succ_cons, List.drop_zero, List.drop_nil])))
    refine VV.callE rfl rfl rfl rfl (e_treble hx) rfl ?_
    exact VV.ret1 rfl ⟨rfl, rfl⟩
  · refine V.pc (swT_in (by omega) (by decide) (by decide) rfl) ?_
    ((repeat refine VV.s rfl rfl ?_); (try (conv => arg 3; simp only [Nat.reduceAdd, sto1, sto2, isL, cond_true, cond_false, List.drop_succ_cons, List.drop_zero, List.drop_nil])))
    refine VV.ret1 rfl ⟨?_, rfl⟩
    congr 2
    show (if nI 1 < nI 3 - nI x then nI 3 - nI x else nI 1) = nI (max 1 (3 - x))
    by_cases h : x ≤ 3
    · rcases (show x = 0 ∨ x = 1 ∨ x = 2 ∨ x = 3 by omega) with rfl | rfl | rfl | rfl <;> decide
    · rw [if_neg]
      · congr 1; omega
      · intro q
        have := Int32.lt_iff_toInt_lt.mp q
        have h0 : 3 - (x : Int) < 0 := by omega
        have h1 : (nI 3 - nI x).toInt = 3 - (x : Int) := by
          have e3 : (nI 3).toInt = 3 := nI_toInt (by omega)
          have ex : (nI x).toInt = x := nI_toInt hx
          rw [Int32.toInt_sub, e3, ex]
          show (3 - (x : Int)).bmod (2 ^ 32) = _
          rw [Int.bmod_eq_of_le (by omega) (by omega)]
        rw [h1, nI_toInt (by omega)] at this
        omega
  · refine V.pc (swT_in (by omega) (by decide) (by decide) rfl) ?_
    ((repeat refine VV.s rfl rfl ?_); (try (conv => arg 3; simp only [Nat.reduceAdd, sto1, sto2, isL, cond_true, cond_false, List.drop_succ_cons, List.drop_zero, List.drop_nil])))
    refine VV.callE rfl rfl rfl rfl (e_plain hx) rfl ?_
    exact VV.ret1 rfl ⟨rfl, rfl⟩
  · refine V.pc (swT_in (by omega) (by decide) (by decide) rfl) ?_
    ((repeat refine VV.s rfl rfl ?_); (try (conv => arg 3; simp only [Nat.reduceAdd, sto1, sto2, isL, cond_true, cond_false, List.drop_succ_cons, List.drop_zero, List.drop_nil])))
    refine VV.callE rfl rfl rfl rfl (e_treble hx) rfl ?_
    ((repeat refine VV.s rfl rfl ?_); (try (conv => arg 3; simp only [Nat.reduceAdd, sto1, sto2, isL, cond_true, cond_false, List.drop_succ_cons, List.drop_zero, List.drop_nil])))
    exact VV.ret1 rfl ⟨by show _ = some (Value.int (nI (2 * (plN x + 1)))); rw [← pk_mul]; rfl, rfl⟩
theorem sd_max : ∀ s, s < 10 → (if (0 : Int32) < nI s - 2 then nI s - 2 else 0) = nI (s - 2) := by decide +kernel
theorem sd_min : ∀ s, s < 10 → (if nI s + 2 < (9 : Int32) then nI s + 2 else 9) = nI (min 9 (s + 2)) := by decide +kernel
theorem sd_old : ∀ s, s < 10 → ∀ d, d < 2 → (if (0 : Int32) < nI s - 2 - nI d then nI s - 2 - nI d else 0) = nI (s - 2 - d) := by decide +kernel
theorem ft_abs : ∀ a, a < 10 → ∀ w, w < 10 → (9 : Int32) - (if 0 ≤ nI a - nI w then nI a - nI w else 0 - (nI a - nI w)) = nI (ftN a w) := by decide +kernel
theorem e_Ksound {u : Sg} {k s d : Nat} (hk : k ≤ 5) (hs : s ≤ 9) (hd : d < 2 ^ 31) : V 28 (0, [some (.int (nI k)), some (.int (nI s)), some (.int (nI d))], [], u) (is (.int (nI (sdN k s d))) u) := by
  ((repeat refine VV.s rfl rfl ?_); (try (conv => arg 3; simp only [Nat.reduceAdd, sto1, sto2, isL, cond_true, cond_false, List.drop_succ_cons, List.drop_zero, List.drop_nil])))
  rcases le6 hk with rfl | rfl | rfl | rfl | rfl | rfl
  · refine V.pc (swT_out (by omega) (by decide)) ?_
    ((repeat refine VV.s rfl rfl ?_); (try (conv => arg 3; simp only [Nat.reduceAdd, sto1, sto2, isL, cond_true, cond_false, List.drop_succ_cons, List.drop_zero, List.drop_nil])))
    exact VV.ret1 rfl ⟨rfl, rfl⟩
  · refine V.pc (swT_in (by omega) (by decide) (by decide) rfl) ?_
    ((repeat refine VV.s rfl rfl ?_); (try (conv => arg 3; simp only [Nat.reduceAdd, sto1, sto2, isL, cond_true, cond_false, List.drop_succ_cons, List.drop_zero, List.drop_nil])))
    exact VV.ret1 rfl ⟨congrArg (fun x => some (Value.int x)) (sd_max s (by omega)), rfl⟩
  · refine V.pc (swT_in (by omega) (by decide) (by decide) rfl) ?_
    ((repeat refine VV.s rfl rfl ?_); (try (conv => arg 3; simp only [Nat.reduceAdd, sto1, sto2, isL, cond_true, cond_false, List.drop_succ_cons, List.drop_zero, List.drop_nil])))
    exact VV.ret1 rfl ⟨congrArg (fun x => some (Value.int x)) (sd_min s (by omega)), rfl⟩
  · refine V.pc (swT_in (by omega) (by decide) (by decide) rfl) ?_
    ((repeat refine VV.s rfl rfl ?_); (try (conv => arg 3; simp only [Nat.reduceAdd, sto1, sto2, isL, cond_true, cond_false, List.drop_succ_cons, List.drop_zero, List.drop_nil])))
    exact VV.ret1 rfl ⟨rfl, rfl⟩
  · refine V.pc (swT_in (by omega) (by decide) (by decide) rfl) ?_
    ((repeat refine VV.s rfl rfl ?_); (try (conv => arg 3; simp only [Nat.reduceAdd, sto1, sto2, isL, cond_true, cond_false, List.drop_succ_cons, List.drop_zero, List.drop_nil])))
    refine VV.ret1 rfl ⟨congrArg (fun x => some (Value.int x)) ?_, rfl⟩
    have e : nI d - nI d / 2 * 2 = nI (d % 2) := pk_rem (d := 2) hd (by omega) (by omega)
    rw [e]
    exact sd_old s (by omega) (d % 2) (by omega)
  · refine V.pc (swT_in (by omega) (by decide) (by decide) rfl) ?_
    ((repeat refine VV.s rfl rfl ?_); (try (conv => arg 3; simp only [Nat.reduceAdd, sto1, sto2, isL, cond_true, cond_false, List.drop_succ_cons, List.drop_zero, List.drop_nil])))
    exact VV.ret1 rfl ⟨congrArg (fun x => some (Value.int x)) (sd_min s (by omega)), rfl⟩
