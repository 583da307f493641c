/-! ===== reading: the reference's blanks, words, numbers, ends ===== -/
section RM1
variable {u : Sg} {z : Zs} {T : Nat → Nat} {N : Nat}
abbrev TM (T : Nat → Nat) (N : Nat) (u : Sg) : Prop := N ≤ 150 ∧ (∀ j, j < N → T j < 128) ∧ (∀ j, j < N → gA u 54 j = nI (T j)) ∧ gI u 41 16 = nI N
/-- nothing but the place, the number may have changed -/
def F17 (u t : Sg) : Prop := (∀ k, gA t k = gA u k) ∧ (∀ k j, k ≠ 41 ∨ (j ≠ 17 ∧ j ≠ 21) → gI t k j = gI u k j) ∧ ∀ k j, gJ t k j = gJ u k j
theorem F17.rf : F17 u u := ⟨fun _ => rfl, fun _ _ _ => rfl, fun _ _ => rfl⟩
theorem F17.tr {v w : Sg} (a : F17 u v) (b : F17 v w) : F17 u w := ⟨fun k => (b.1 k).trans (a.1 k), fun k j h => (b.2.1 k j h).trans (a.2.1 k j h), fun k j => (b.2.2 k j).trans (a.2.2 k j)⟩
theorem F17.I {v : Sg} {j : Nat} {x : Int32} (a : F17 u v) (hj : j = 17 ∨ j = 21) : F17 u (pI v 41 j x) := ⟨a.1, fun k i h => by
  rw [gI_pI]
  by_cases e : k = 41
  · rw [if_pos e, if_neg (by omega)]; exact a.2.1 k i h
  · rw [if_neg e]; exact a.2.1 k i h, a.2.2⟩
theorem TM.keep {t : Sg} (X : TM T N u) (A : F17 u t) : TM T N t := ⟨X.1, X.2.1, by rw [A.1]; exact X.2.2.1, by rw [A.2.1 41 16 (Or.inr ⟨by decide, by decide⟩)]; exact X.2.2.2⟩
theorem f_here {i : Nat} (X : TM T N u) (hi : i ≤ N) (g : gI u 41 17 = nI i) : V 108 (0, [some (.ref 41)], [], u) (is (.int (if i < N then nI (T i) else -1)) u) := by
  obtain ⟨hN, hT, hB, hn⟩ := X
  ((repeat refine VV.s rfl rfl ?_); (try (conv => arg 3; simp only [Nat.reduceAdd, sto1, sto2, isL, cond_true, cond_false, List.drop_succ_cons, List.drop_zero, List.drop_nil])))
  refine VV.ite (fun q => ?_) (fun q => ?_)
  · rw [g, hn, le_nI (by omega) (by omega)] at q
    ((repeat refine VV.s rfl rfl ?_); (try (conv => arg 3; simp only [Nat.reduceAdd, sto1, sto2, isL, cond_true, cond_false, List.drop_succ_cons, List.drop_zero, List.drop_nil])))
    exact VV.ret1 rfl ⟨by rw [if_neg (by omega)], rfl⟩
  · rw [g, hn, le_nI (by omega) (by omega)] at q
    ((repeat refine VV.s rfl rfl ?_); (try (conv => arg 3; simp only [Nat.reduceAdd, sto1, sto2, isL, cond_true, cond_false, List.drop_succ_cons, List.drop_zero, List.drop_nil])))
    refine VV.iald (n := i) rfl rfl g (show i < 150 by omega) (by decide) ?_
    ((repeat refine VV.s rfl rfl ?_); (try (conv => arg 3; simp only [Nat.reduceAdd, sto1, sto2, isL, cond_true, cond_false, List.drop_succ_cons, List.drop_zero, List.drop_nil])))
    exact VV.ret1 rfl ⟨by rw [if_pos (by omega), hB i (by omega)], rfl⟩
theorem f_skip (X : TM T N u) : ∀ k i t, i + k = N → F17 u t → gI t 41 17 = nI i → V 109 (0, [some (.ref 41)], [], t) (fun r t => r = none ∧ gI t 41 17 = nI (rdSk T N i) ∧ F17 u t) := by
  have hN := X.1
  intro k
  induction k with
  | zero =>
    intro i t hi A g
    have e : rdSk T N i = i := rdRun_0 (by omega)
    rw [e]
    ((repeat refine VV.s rfl rfl ?_); (try (conv => arg 3; simp only [Nat.reduceAdd, sto1, sto2, isL, cond_true, cond_false, List.drop_succ_cons, List.drop_zero, List.drop_nil])))
    refine VV.callE rfl rfl rfl rfl (f_here (X.keep A) (i := i) (by omega) g) rfl ?_
    rw [if_neg (by omega)]
    refine VV.s rfl rfl ?_
    refine VV.s rfl rfl ?_
    refine VV.itt (by decide) ?_
    exact VV.ret0 rfl ⟨rfl, g, A⟩
  | succ k ih =>
    intro i t hi A g
    have hT := X.2.1 i (by omega)
    have e : rdSk T N i = if isBl T i = true then rdSk T N (i + 1) else i := rdRun_s (by omega)
    rw [e]
    ((repeat refine VV.s rfl rfl ?_); (try (conv => arg 3; simp only [Nat.reduceAdd, sto1, sto2, isL, cond_true, cond_false, List.drop_succ_cons, List.drop_zero, List.drop_nil])))
    refine VV.callE rfl rfl rfl rfl (f_here (X.keep A) (i := i) (by omega) g) rfl ?_
    rw [if_pos (by omega)]
    ((repeat refine VV.s rfl rfl ?_); (try (conv => arg 3; simp only [Nat.reduceAdd, sto1, sto2, isL, cond_true, cond_false, List.drop_succ_cons, List.drop_zero, List.drop_nil])))
    refine VV.ite (fun q => ?_) (fun q => ?_)
    · have q : ¬ nI (T i) = nI 32 := q
      rw [eq_nI (by omega) (by omega)] at q
      rw [if_neg (by unfold isBl; rw [decide_eq_true_iff]; exact q)]
      exact VV.ret0 rfl ⟨rfl, g, A⟩
    · have q : ¬ ¬ nI (T i) = nI 32 := q
      rw [eq_nI (by omega) (by omega)] at q
      rw [if_pos (by unfold isBl; rw [decide_eq_true_iff]; exact Classical.not_not.mp q)]
      ((repeat (fail_if_success show VV _ _ (0, _, _, _) _); refine VV.s rfl rfl ?_); (try (conv => arg 3; simp only [Nat.reduceAdd, sto1, sto2, isL, cond_true, cond_false, List.drop_succ_cons, List.drop_zero, List.drop_nil])))
      refine ih (i + 1) _ (by omega) (A.I (Or.inl rfl)) ?_
      show gI t 41 17 + 1 = _
      rw [g, nI_1]
theorem f_skip0 {i : Nat} (X : TM T N u) (hi : i ≤ N) (g : gI u 41 17 = nI i) : V 109 (0, [some (.ref 41)], [], u) (fun r t => r = none ∧ gI t 41 17 = nI (rdSk T N i) ∧ F17 u t) := f_skip X (N - i) i u (by omega) F17.rf g
theorem rng_nI {c lo hi : Nat} (h1 : c < 2 ^ 31) (h2 : lo < 2 ^ 31) (h3 : hi < 2 ^ 31) : (nI c < nI lo ∨ nI hi < nI c) ↔ ¬ (lo ≤ c ∧ c ≤ hi) := by
  rw [lt_nI h1 h2, lt_nI h3 h1]; omega
theorem f_isLetter {i : Nat} (hT : T i < 128) : V 110 (0, [some (.int (nI (T i)))], [], u) (is (.int (b01 (isLe T i))) u) := by
  ((repeat refine VV.s rfl rfl ?_); (try (conv => arg 3; simp only [Nat.reduceAdd, sto1, sto2, isL, cond_true, cond_false, List.drop_succ_cons, List.drop_zero, List.drop_nil])))
  by_cases c : 97 ≤ T i ∧ T i ≤ 122
  · refine VV.callE rfl rfl rfl rfl (f_inY (lo := nI 97) (hi := nI 122) (fun q => (rng_nI (by omega) (by omega) (by omega)).mp q c)) rfl ?_
    rw [show isLe T i = true from decide_eq_true c]
    exact VV.ret3 rfl (Or.inr rfl) ⟨rfl, rfl⟩
  · refine VV.callE rfl rfl rfl rfl (f_inN (lo := nI 97) (hi := nI 122) ((rng_nI (by omega) (by omega) (by omega)).mpr c)) rfl ?_
    rw [show isLe T i = false from decide_eq_false c]
    exact VV.ret3 rfl (Or.inl rfl) ⟨rfl, rfl⟩
theorem f_isFigure {i : Nat} (hT : T i < 128) : V 111 (0, [some (.int (nI (T i)))], [], u) (is (.int (b01 (isFi T i))) u) := by
  ((repeat refine VV.s rfl rfl ?_); (try (conv => arg 3; simp only [Nat.reduceAdd, sto1, sto2, isL, cond_true, cond_false, List.drop_succ_cons, List.drop_zero, List.drop_nil])))
  by_cases c : 48 ≤ T i ∧ T i ≤ 57
  · refine VV.callE rfl rfl rfl rfl (f_inY (lo := nI 48) (hi := nI 57) (fun q => (rng_nI (by omega) (by omega) (by omega)).mp q c)) rfl ?_
    rw [show isFi T i = true from decide_eq_true c]
    exact VV.ret3 rfl (Or.inr rfl) ⟨rfl, rfl⟩
  · refine VV.callE rfl rfl rfl rfl (f_inN (lo := nI 48) (hi := nI 57) ((rng_nI (by omega) (by omega) (by omega)).mpr c)) rfl ?_
    rw [show isFi T i = false from decide_eq_false c]
    exact VV.ret3 rfl (Or.inl rfl) ⟨rfl, rfl⟩
set_option maxHeartbeats 4000000 in
theorem f_wordSize {s : Nat} (X : TM T N u) (hs : s ≤ N) (g : gI u 41 17 = nI s) : V 112 (0, [some (.ref 41), none], [], u) (is (.int (nI (rdWz T N s - s))) u) := by
  obtain ⟨hN, hT, hB, hn⟩ := X
  have lp : ∀ k n, s + n + k = N → rdWz T N (s + n) = rdWz T N s → V 112 (2, [some (.ref 41), some (.int (nI n))], [], u) (is (.int (nI (rdWz T N s - s))) u) := by
    intro k
    induction k with
    | zero =>
      intro n hk e
      have e2 : rdWz T N (s + n) = s + n := rdRun_0 (by omega)
      ((repeat refine VV.s rfl rfl ?_); (try (conv => arg 3; simp only [Nat.reduceAdd, sto1, sto2, isL, cond_true, cond_false, List.drop_succ_cons, List.drop_zero, List.drop_nil])))
      refine VV.itt (by rw [g, hn, nI_add]; exact nI_le (by omega) (by omega)) ?_
      ((repeat refine VV.s rfl rfl ?_); (try (conv => arg 3; simp only [Nat.reduceAdd, sto1, sto2, isL, cond_true, cond_false, List.drop_succ_cons, List.drop_zero, List.drop_nil])))
      exact VV.ret1 rfl ⟨by rw [← e, e2, Nat.add_sub_cancel_left], rfl⟩
    | succ k ih =>
      intro n hk e
      have e2 : rdWz T N (s + n) = _ := rdWz_s (by omega)
      ((repeat refine VV.s rfl rfl ?_); (try (conv => arg 3; simp only [Nat.reduceAdd, sto1, sto2, isL, cond_true, cond_false, List.drop_succ_cons, List.drop_zero, List.drop_nil])))
      refine VV.itf (by rw [g, hn, nI_add]; exact nI_ge (by omega) (by omega)) ?_
      ((repeat refine VV.s rfl rfl ?_); (try (conv => arg 3; simp only [Nat.reduceAdd, sto1, sto2, isL, cond_true, cond_false, List.drop_succ_cons, List.drop_zero, List.drop_nil])))
      refine VV.iald (n := s + n) rfl rfl (by rw [g, nI_add]) (show s + n < 150 by omega) (by decide) ?_
      rw [hB (s + n) (by omega)]
      refine VV.callE rfl rfl rfl rfl (f_isLetter (hT (s + n) (by omega))) rfl ?_
      refine VV.s rfl rfl ?_
      cases c : isLe T (s + n) with
      | true =>
        rw [c, if_pos rfl] at e2
        refine VV.itf (by decide) ?_
        ((repeat (fail_if_success show VV _ _ (2, _, _, _) _); refine VV.s rfl rfl ?_); (try (conv => arg 3; simp only [Nat.reduceAdd, sto1, sto2, isL, cond_true, cond_false, List.drop_succ_cons, List.drop_zero, List.drop_nil])))
        rw [nI_1]
        exact ih (n + 1) (by omega) (by rw [← e, e2]; rfl)
      | false =>
        rw [c, if_neg (by decide)] at e2
        refine VV.itt rfl ?_
        ((repeat refine VV.s rfl rfl ?_); (try (conv => arg 3; simp only [Nat.reduceAdd, sto1, sto2, isL, cond_true, cond_false, List.drop_succ_cons, List.drop_zero, List.drop_nil])))
        exact VV.ret1 rfl ⟨by rw [← e, e2, Nat.add_sub_cancel_left], rfl⟩
  ((repeat (fail_if_success show VV _ _ (2, _, _, _) _); refine VV.s rfl rfl ?_); (try (conv => arg 3; simp only [Nat.reduceAdd, sto1, sto2, isL, cond_true, cond_false, List.drop_succ_cons, List.drop_zero, List.drop_nil])))
  exact lp (N - s) 0 (by omega) rfl
theorem f_letter {s i : Nat} (X : TM T N u) (hs : s + i < N) (g : gI u 41 17 = nI s) : V 113 (0, [some (.ref 41), some (.int (nI i))], [], u) (is (.int (nI (T (s + i)))) u) := by
  have hN := X.1
  ((repeat refine VV.s rfl rfl ?_); (try (conv => arg 3; simp only [Nat.reduceAdd, sto1, sto2, isL, cond_true, cond_false, List.drop_succ_cons, List.drop_zero, List.drop_nil])))
  refine VV.iald (n := s + i) rfl rfl (by rw [g, nI_add]) (show s + i < 150 by omega) (by decide) ?_
  exact VV.ret1 rfl ⟨by rw [X.2.2.1 (s + i) hs], rfl⟩
theorem f_spells {s a b c d : Nat} (X : TM T N u) (hs : s + 3 < N) (g : gI u 41 17 = nI s) (ha : a < 128) (hb : b < 128) (hc : c < 128) (hd : d < 128) : V 114 (0, [some (.ref 41), some (.int (nI a)), some (.int (nI b)), some (.int (nI c)), some (.int (nI d))], [], u) (is (.int (b01 (decide (T s = a) && (decide (T (s + 1) = b) && (decide (T (s + 2) = c) && decide (T (s + 3) = d)))))) u) := by
  have t0 := X.2.1 s (by omega)
  have t1 := X.2.1 (s + 1) (by omega)
  have t2 := X.2.1 (s + 2) (by omega)
  have t3 := X.2.1 (s + 3) (by omega)
  have no : ∀ x : Bool, x = false → V 114 (41, [some (.ref 41), some (.int (nI a)), some (.int (nI b)), some (.int (nI c)), some (.int (nI d))], [], u) (is (.int (b01 x)) u) := by
    intro x hx
    subst hx
    ((repeat refine VV.s rfl rfl ?_); (try (conv => arg 3; simp only [Nat.reduceAdd, sto1, sto2, isL, cond_true, cond_false, List.drop_succ_cons, List.drop_zero, List.drop_nil])))
    exact VV.ret3 rfl (Or.inl rfl) ⟨rfl, rfl⟩
  ((repeat refine VV.s rfl rfl ?_); (try (conv => arg 3; simp only [Nat.reduceAdd, sto1, sto2, isL, cond_true, cond_false, List.drop_succ_cons, List.drop_zero, List.drop_nil])))
  refine VV.callE rfl rfl rfl rfl (f_letter (i := 0) X (by omega) g) rfl ?_
  ((repeat refine VV.s rfl rfl ?_); (try (conv => arg 3; simp only [Nat.reduceAdd, sto1, sto2, isL, cond_true, cond_false, List.drop_succ_cons, List.drop_zero, List.drop_nil])))
  refine VV.ite (fun q => ?_) (fun q => ?_)
  · have q : ¬ nI (T s) = nI a := q
    rw [eq_nI (by omega) (by omega)] at q
    exact no _ (by rw [decide_eq_false q]; rfl)
  have q : ¬ ¬ nI (T s) = nI a := q
  rw [eq_nI (by omega) (by omega)] at q
  rw [decide_eq_true (Classical.not_not.mp q), Bool.true_and]
  ((repeat refine VV.s rfl rfl ?_); (try (conv => arg 3; simp only [Nat.reduceAdd, sto1, sto2, isL, cond_true, cond_false, List.drop_succ_cons, List.drop_zero, List.drop_nil])))
  refine VV.callE rfl rfl rfl rfl (f_letter (i := 1) X (by omega) g) rfl ?_
  ((repeat refine VV.s rfl rfl ?_); (try (conv => arg 3; simp only [Nat.reduceAdd, sto1, sto2, isL, cond_true, cond_false, List.drop_succ_cons, List.drop_zero, List.drop_nil])))
  refine VV.ite (fun q => ?_) (fun q => ?_)
  · rw [eq_nI (by omega) (by omega)] at q
    exact no _ (by rw [decide_eq_false q]; rfl)
  rw [eq_nI (by omega) (by omega)] at q
  rw [decide_eq_true (Classical.not_not.mp q), Bool.true_and]
  ((repeat refine VV.s rfl rfl ?_); (try (conv => arg 3; simp only [Nat.reduceAdd, sto1, sto2, isL, cond_true, cond_false, List.drop_succ_cons, List.drop_zero, List.drop_nil])))
  refine VV.callE rfl rfl rfl rfl (f_letter (i := 2) X (by omega) g) rfl ?_
  ((repeat refine VV.s rfl rfl ?_); (try (conv => arg 3; simp only [Nat.reduceAdd, sto1, sto2, isL, cond_true, cond_false, List.drop_succ_cons, List.drop_zero, List.drop_nil])))
  refine VV.ite (fun q => ?_) (fun q => ?_)
  · rw [eq_nI (by omega) (by omega)] at q
    exact no _ (by rw [decide_eq_false q]; rfl)
  rw [eq_nI (by omega) (by omega)] at q
  rw [decide_eq_true (Classical.not_not.mp q), Bool.true_and]
  ((repeat refine VV.s rfl rfl ?_); (try (conv => arg 3; simp only [Nat.reduceAdd, sto1, sto2, isL, cond_true, cond_false, List.drop_succ_cons, List.drop_zero, List.drop_nil])))
  refine VV.callE rfl rfl rfl rfl (f_letter (i := 3) X (by omega) g) rfl ?_
  ((repeat refine VV.s rfl rfl ?_); (try (conv => arg 3; simp only [Nat.reduceAdd, sto1, sto2, isL, cond_true, cond_false, List.drop_succ_cons, List.drop_zero, List.drop_nil])))
  refine VV.ite (fun q => ?_) (fun q => ?_)
  · rw [eq_nI (by omega) (by omega)] at q
    exact no _ (decide_eq_false q)
  rw [eq_nI (by omega) (by omega)] at q
  rw [decide_eq_true (Classical.not_not.mp q)]
  ((repeat refine VV.s rfl rfl ?_); (try (conv => arg 3; simp only [Nat.reduceAdd, sto1, sto2, isL, cond_true, cond_false, List.drop_succ_cons, List.drop_zero, List.drop_nil])))
  exact VV.ret3 rfl (Or.inr rfl) ⟨rfl, rfl⟩
end RM1
