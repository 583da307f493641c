/-! ===== reading: the reference's words, numbers, ends ===== -/
section RM2
variable {u : Sg} {z : Zs} {T : Nat → Nat} {N : Nat}
def whN (T : Nat → Nat) (N s : Nat) : Nat := if rdW T N 0 s = true then 1 else if rdW T N 1 s = true then 2 else if rdW T N 2 s = true then 3 else if rdW T N 3 s = true then 4 else 0
theorem rdW_no {j s : Nat} (h : ¬ rdWz T N s - s = (txt j).length) : rdW T N j s = false := by
  unfold rdW
  rw [decide_eq_false h, Bool.false_and]
theorem rdW_yes {j s : Nat} (h : rdWz T N s - s = (txt j).length) : rdW T N j s = eqw T (txt j) s := by
  unfold rdW
  rw [decide_eq_true h, Bool.true_and]
set_option maxHeartbeats 16000000 in
theorem f_wordHere {s : Nat} (X : TM T N u) (hs : s ≤ N) (g : gI u 41 17 = nI s) : V 115 (0, [some (.ref 41), none], [], u) (is (.int (cI (whN T N s))) u) := by
  have hN := X.1
  have hw := rdWz_le T hs
  have hT := X.2.1
  have k128 : rdW T N 0 s = false → rdW T N 1 s = false → rdW T N 2 s = false → V 115 (128, [some (.ref 41), some (.int (nI (rdWz T N s - s)))], [], u) (is (.int (cI (whN T N s))) u) := by
    intro w0 w1 w2
    unfold whN
    rw [w0, w1, w2, if_neg (by decide), if_neg (by decide), if_neg (by decide)]
    ((repeat refine VV.s rfl rfl ?_); (try (conv => arg 3; simp only [Nat.reduceAdd, sto1, sto2, isL, cond_true, cond_false, List.drop_succ_cons, List.drop_zero, List.drop_nil])))
    refine VV.ite (fun q => ?_) (fun q => ?_)
    · have q : ¬ nI (rdWz T N s - s) = nI 4 := q
      rw [eq_nI (by omega) (by omega)] at q
      rw [rdW_no (j := 3) q, if_neg (by decide)]
      ((repeat refine VV.s rfl rfl ?_); (try (conv => arg 3; simp only [Nat.reduceAdd, sto1, sto2, isL, cond_true, cond_false, List.drop_succ_cons, List.drop_zero, List.drop_nil])))
      exact VV.ret1 rfl ⟨rfl, rfl⟩
    · have q : ¬ ¬ nI (rdWz T N s - s) = nI 4 := q
      rw [eq_nI (by omega) (by omega)] at q
      have q := Classical.not_not.mp q
      rw [rdW_yes (j := 3) q]
      ((repeat refine VV.s rfl rfl ?_); (try (conv => arg 3; simp only [Nat.reduceAdd, sto1, sto2, isL, cond_true, cond_false, List.drop_succ_cons, List.drop_zero, List.drop_nil])))
      refine VV.callE rfl rfl rfl rfl (f_spells (a := 108) (b := 101) (c := 110) (d := 100) X (by omega) g (by omega) (by omega) (by omega) (by omega)) rfl ?_
      have e : eqw T (txt 3) s = (decide (T s = 108) && (decide (T (s + 1) = 101) && (decide (T (s + 2) = 110) && decide (T (s + 3) = 100)))) := by
        show (decide (T s = 108) && (decide (T (s + 1) = 101) && (decide (T (s + 2) = 110) && (decide (T (s + 3) = 100) && true)))) = _
        rw [Bool.and_true]
      rw [e]
      refine VV.s rfl rfl ?_
      cases (decide (T s = 108) && (decide (T (s + 1) = 101) && (decide (T (s + 2) = 110) && decide (T (s + 3) = 100)))) with
      | true =>
        refine VV.itf (by decide) ?_
        ((repeat refine VV.s rfl rfl ?_); (try (conv => arg 3; simp only [Nat.reduceAdd, sto1, sto2, isL, cond_true, cond_false, List.drop_succ_cons, List.drop_zero, List.drop_nil])))
        exact VV.ret1 rfl ⟨rfl, rfl⟩
      | false =>
        refine VV.itt rfl ?_
        ((repeat refine VV.s rfl rfl ?_); (try (conv => arg 3; simp only [Nat.reduceAdd, sto1, sto2, isL, cond_true, cond_false, List.drop_succ_cons, List.drop_zero, List.drop_nil])))
        exact VV.ret1 rfl ⟨rfl, rfl⟩
  have k96 : rdW T N 0 s = false → rdW T N 1 s = false → V 115 (96, [some (.ref 41), some (.int (nI (rdWz T N s - s)))], [], u) (is (.int (cI (whN T N s))) u) := by
    intro w0 w1
    ((repeat refine VV.s rfl rfl ?_); (try (conv => arg 3; simp only [Nat.reduceAdd, sto1, sto2, isL, cond_true, cond_false, List.drop_succ_cons, List.drop_zero, List.drop_nil])))
    refine VV.ite (fun q => ?_) (fun q => ?_)
    · have q : ¬ nI (rdWz T N s - s) = nI 5 := q
      rw [eq_nI (by omega) (by omega)] at q
      exact k128 w0 w1 (rdW_no (j := 2) q)
    · have q : ¬ ¬ nI (rdWz T N s - s) = nI 5 := q
      rw [eq_nI (by omega) (by omega)] at q
      have q := Classical.not_not.mp q
      have t4 := hT (s + 4) (by omega)
      ((repeat refine VV.s rfl rfl ?_); (try (conv => arg 3; simp only [Nat.reduceAdd, sto1, sto2, isL, cond_true, cond_false, List.drop_succ_cons, List.drop_zero, List.drop_nil])))
      refine VV.callE rfl rfl rfl rfl (f_spells (a := 108) (b := 101) (c := 97) (d := 118) X (by omega) g (by omega) (by omega) (by omega) (by omega)) rfl ?_
      have e : eqw T (txt 2) s = ((decide (T s = 108) && (decide (T (s + 1) = 101) && (decide (T (s + 2) = 97) && decide (T (s + 3) = 118)))) && decide (T (s + 4) = 101)) := by
        show (decide (T s = 108) && (decide (T (s + 1) = 101) && (decide (T (s + 2) = 97) && (decide (T (s + 3) = 118) && (decide (T (s + 4) = 101) && true))))) = _
        simp only [Bool.and_true, Bool.and_assoc]
      have e2 := (rdW_yes (j := 2) q).trans e
      refine VV.s rfl rfl ?_
      cases c1 : (decide (T s = 108) && (decide (T (s + 1) = 101) && (decide (T (s + 2) = 97) && decide (T (s + 3) = 118)))) with
      | false =>
        rw [c1, Bool.false_and] at e2
        refine VV.itt rfl ?_
        exact k128 w0 w1 e2
      | true =>
        rw [c1, Bool.true_and] at e2
        refine VV.itf (by decide) ?_
        ((repeat refine VV.s rfl rfl ?_); (try (conv => arg 3; simp only [Nat.reduceAdd, sto1, sto2, isL, cond_true, cond_false, List.drop_succ_cons, List.drop_zero, List.drop_nil])))
        refine VV.callE rfl rfl rfl rfl (f_letter (i := 4) X (by omega) g) rfl ?_
        ((repeat refine VV.s rfl rfl ?_); (try (conv => arg 3; simp only [Nat.reduceAdd, sto1, sto2, isL, cond_true, cond_false, List.drop_succ_cons, List.drop_zero, List.drop_nil])))
        refine VV.ite (fun q2 => ?_) (fun q2 => ?_)
        · have q2 : ¬ nI (T (s + 4)) = nI 101 := q2
          rw [eq_nI (by omega) (by omega)] at q2
          exact k128 w0 w1 (e2.trans (decide_eq_false q2))
        · have q2 : ¬ ¬ nI (T (s + 4)) = nI 101 := q2
          rw [eq_nI (by omega) (by omega)] at q2
          ((repeat refine VV.s rfl rfl ?_); (try (conv => arg 3; simp only [Nat.reduceAdd, sto1, sto2, isL, cond_true, cond_false, List.drop_succ_cons, List.drop_zero, List.drop_nil])))
          refine VV.ret1 rfl ⟨?_, rfl⟩
          unfold whN
          rw [if_neg (by rw [w0]; decide), if_neg (by rw [w1]; decide), if_pos (by rw [e2]; exact decide_eq_true (Classical.not_not.mp q2))]
          rfl
  have k59 : rdW T N 0 s = false → V 115 (59, [some (.ref 41), some (.int (nI (rdWz T N s - s)))], [], u) (is (.int (cI (whN T N s))) u) := by
    intro w0
    ((repeat refine VV.s rfl rfl ?_); (try (conv => arg 3; simp only [Nat.reduceAdd, sto1, sto2, isL, cond_true, cond_false, List.drop_succ_cons, List.drop_zero, List.drop_nil])))
    refine VV.ite (fun q => ?_) (fun q => ?_)
    · have q : ¬ nI (rdWz T N s - s) = nI 3 := q
      rw [eq_nI (by omega) (by omega)] at q
      exact k96 w0 (rdW_no (j := 1) q)
    · have q : ¬ ¬ nI (rdWz T N s - s) = nI 3 := q
      rw [eq_nI (by omega) (by omega)] at q
      have q := Classical.not_not.mp q
      have t0 := hT s (by omega)
      have t1 := hT (s + 1) (by omega)
      have t2 := hT (s + 2) (by omega)
      have e : rdW T N 1 s = (decide (T s = 111) && (decide (T (s + 1) = 110) && (decide (T (s + 2) = 101) && true))) := rdW_yes (j := 1) q
      ((repeat refine VV.s rfl rfl ?_); (try (conv => arg 3; simp only [Nat.reduceAdd, sto1, sto2, isL, cond_true, cond_false, List.drop_succ_cons, List.drop_zero, List.drop_nil])))
      refine VV.callE rfl rfl rfl rfl (f_letter (i := 0) X (by omega) g) rfl ?_
      ((repeat refine VV.s rfl rfl ?_); (try (conv => arg 3; simp only [Nat.reduceAdd, sto1, sto2, isL, cond_true, cond_false, List.drop_succ_cons, List.drop_zero, List.drop_nil])))
      refine VV.ite (fun q2 => ?_) (fun q2 => ?_)
      · have q2 : ¬ nI (T s) = nI 111 := q2
        rw [eq_nI (by omega) (by omega)] at q2
        exact k96 w0 (by rw [e, decide_eq_false q2]; rfl)
      have q2 : ¬ ¬ nI (T s) = nI 111 := q2
      rw [eq_nI (by omega) (by omega)] at q2
      rw [decide_eq_true (Classical.not_not.mp q2), Bool.true_and] at e
      ((repeat refine VV.s rfl rfl ?_); (try (conv => arg 3; simp only [Nat.reduceAdd, sto1, sto2, isL, cond_true, cond_false, List.drop_succ_cons, List.drop_zero, List.drop_nil])))
      refine VV.callE rfl rfl rfl rfl (f_letter (i := 1) X (by omega) g) rfl ?_
      ((repeat refine VV.s rfl rfl ?_); (try (conv => arg 3; simp only [Nat.reduceAdd, sto1, sto2, isL, cond_true, cond_false, List.drop_succ_cons, List.drop_zero, List.drop_nil])))
      refine VV.ite (fun q2 => ?_) (fun q2 => ?_)
      · have q2 : ¬ nI (T (s + 1)) = nI 110 := q2
        rw [eq_nI (by omega) (by omega)] at q2
        exact k96 w0 (by rw [e, decide_eq_false q2]; rfl)
      have q2 : ¬ ¬ nI (T (s + 1)) = nI 110 := q2
      rw [eq_nI (by omega) (by omega)] at q2
      rw [decide_eq_true (Classical.not_not.mp q2), Bool.true_and] at e
      ((repeat refine VV.s rfl rfl ?_); (try (conv => arg 3; simp only [Nat.reduceAdd, sto1, sto2, isL, cond_true, cond_false, List.drop_succ_cons, List.drop_zero, List.drop_nil])))
      refine VV.callE rfl rfl rfl rfl (f_letter (i := 2) X (by omega) g) rfl ?_
      ((repeat refine VV.s rfl rfl ?_); (try (conv => arg 3; simp only [Nat.reduceAdd, sto1, sto2, isL, cond_true, cond_false, List.drop_succ_cons, List.drop_zero, List.drop_nil])))
      refine VV.ite (fun q2 => ?_) (fun q2 => ?_)
      · have q2 : ¬ nI (T (s + 2)) = nI 101 := q2
        rw [eq_nI (by omega) (by omega)] at q2
        exact k96 w0 (by rw [e, decide_eq_false q2]; rfl)
      have q2 : ¬ ¬ nI (T (s + 2)) = nI 101 := q2
      rw [eq_nI (by omega) (by omega)] at q2
      rw [decide_eq_true (Classical.not_not.mp q2), Bool.true_and] at e
      ((repeat refine VV.s rfl rfl ?_); (try (conv => arg 3; simp only [Nat.reduceAdd, sto1, sto2, isL, cond_true, cond_false, List.drop_succ_cons, List.drop_zero, List.drop_nil])))
      refine VV.ret1 rfl ⟨?_, rfl⟩
      unfold whN
      rw [if_neg (by rw [w0]; decide), if_pos e]
      rfl
  ((repeat refine VV.s rfl rfl ?_); (try (conv => arg 3; simp only [Nat.reduceAdd, sto1, sto2, isL, cond_true, cond_false, List.drop_succ_cons, List.drop_zero, List.drop_nil])))
  refine VV.callE rfl rfl rfl rfl (f_wordSize X hs g) rfl ?_
  ((repeat refine VV.s rfl rfl ?_); (try (conv => arg 3; simp only [Nat.reduceAdd, sto1, sto2, isL, cond_true, cond_false, List.drop_succ_cons, List.drop_zero, List.drop_nil])))
  refine VV.ite (fun q => ?_) (fun q => ?_)
  · have q : ¬ nI (rdWz T N s - s) = nI 7 := q
    rw [eq_nI (by omega) (by omega)] at q
    exact k59 (rdW_no (j := 0) q)
  · have q : ¬ ¬ nI (rdWz T N s - s) = nI 7 := q
    rw [eq_nI (by omega) (by omega)] at q
    have q := Classical.not_not.mp q
    have t4 := hT (s + 4) (by omega)
    have t5 := hT (s + 5) (by omega)
    have t6 := hT (s + 6) (by omega)
    have e : rdW T N 0 s = ((decide (T s = 99) && (decide (T (s + 1) = 111) && (decide (T (s + 2) = 117) && decide (T (s + 3) = 110)))) && (decide (T (s + 4) = 116) && (decide (T (s + 5) = 101) && decide (T (s + 6) = 114)))) := by
      refine (rdW_yes (j := 0) q).trans ?_
      show (decide (T s = 99) && (decide (T (s + 1) = 111) && (decide (T (s + 2) = 117) && (decide (T (s + 3) = 110) && (decide (T (s + 4) = 116) && (decide (T (s + 5) = 101) && (decide (T (s + 6) = 114) && true))))))) = _
      simp only [Bool.and_true, Bool.and_assoc]
    ((repeat refine VV.s rfl rfl ?_); (try (conv => arg 3; simp only [Nat.reduceAdd, sto1, sto2, isL, cond_true, cond_false, List.drop_succ_cons, List.drop_zero, List.drop_nil])))
    refine VV.callE rfl rfl rfl rfl (f_spells (a := 99) (b := 111) (c := 117) (d := 110) X (by omega) g (by omega) (by omega) (by omega) (by omega)) rfl ?_
    refine VV.s rfl rfl ?_
    cases c1 : (decide (T s = 99) && (decide (T (s + 1) = 111) && (decide (T (s + 2) = 117) && decide (T (s + 3) = 110)))) with
    | false =>
      rw [c1, Bool.false_and] at e
      refine VV.itt rfl ?_
      exact k59 e
    | true =>
      rw [c1, Bool.true_and] at e
      refine VV.itf (by decide) ?_
      ((repeat refine VV.s rfl rfl ?_); (try (conv => arg 3; simp only [Nat.reduceAdd, sto1, sto2, isL, cond_true, cond_false, List.drop_succ_cons, List.drop_zero, List.drop_nil])))
      refine VV.callE rfl rfl rfl rfl (f_letter (i := 4) X (by omega) g) rfl ?_
      ((repeat refine VV.s rfl rfl ?_); (try (conv => arg 3; simp only [Nat.reduceAdd, sto1, sto2, isL, cond_true, cond_false, List.drop_succ_cons, List.drop_zero, List.drop_nil])))
      refine VV.ite (fun q2 => ?_) (fun q2 => ?_)
      · have q2 : ¬ nI (T (s + 4)) = nI 116 := q2
        rw [eq_nI (by omega) (by omega)] at q2
        exact k59 (by rw [e, decide_eq_false q2]; rfl)
      have q2 : ¬ ¬ nI (T (s + 4)) = nI 116 := q2
      rw [eq_nI (by omega) (by omega)] at q2
      rw [decide_eq_true (Classical.not_not.mp q2), Bool.true_and] at e
      ((repeat refine VV.s rfl rfl ?_); (try (conv => arg 3; simp only [Nat.reduceAdd, sto1, sto2, isL, cond_true, cond_false, List.drop_succ_cons, List.drop_zero, List.drop_nil])))
      refine VV.callE rfl rfl rfl rfl (f_letter (i := 5) X (by omega) g) rfl ?_
      ((repeat refine VV.s rfl rfl ?_); (try (conv => arg 3; simp only [Nat.reduceAdd, sto1, sto2, isL, cond_true, cond_false, List.drop_succ_cons, List.drop_zero, List.drop_nil])))
      refine VV.ite (fun q2 => ?_) (fun q2 => ?_)
      · have q2 : ¬ nI (T (s + 5)) = nI 101 := q2
        rw [eq_nI (by omega) (by omega)] at q2
        exact k59 (by rw [e, decide_eq_false q2]; rfl)
      have q2 : ¬ ¬ nI (T (s + 5)) = nI 101 := q2
      rw [eq_nI (by omega) (by omega)] at q2
      rw [decide_eq_true (Classical.not_not.mp q2), Bool.true_and] at e
      ((repeat refine VV.s rfl rfl ?_); (try (conv => arg 3; simp only [Nat.reduceAdd, sto1, sto2, isL, cond_true, cond_false, List.drop_succ_cons, List.drop_zero, List.drop_nil])))
      refine VV.callE rfl rfl rfl rfl (f_letter (i := 6) X (by omega) g) rfl ?_
      ((repeat refine VV.s rfl rfl ?_); (try (conv => arg 3; simp only [Nat.reduceAdd, sto1, sto2, isL, cond_true, cond_false, List.drop_succ_cons, List.drop_zero, List.drop_nil])))
      refine VV.ite (fun q2 => ?_) (fun q2 => ?_)
      · have q2 : ¬ nI (T (s + 6)) = nI 114 := q2
        rw [eq_nI (by omega) (by omega)] at q2
        exact k59 (by rw [e, decide_eq_false q2])
      have q2 : ¬ ¬ nI (T (s + 6)) = nI 114 := q2
      rw [eq_nI (by omega) (by omega)] at q2
      rw [decide_eq_true (Classical.not_not.mp q2)] at e
      ((repeat refine VV.s rfl rfl ?_); (try (conv => arg 3; simp only [Nat.reduceAdd, sto1, sto2, isL, cond_true, cond_false, List.drop_succ_cons, List.drop_zero, List.drop_nil])))
      refine VV.ret1 rfl ⟨?_, rfl⟩
      unfold whN
      rw [if_pos e]
      rfl
theorem f_ends {i : Nat} (X : TM T N u) (hi : i ≤ N) (g : gI u 41 17 = nI i) : V 117 (0, [some (.ref 41)], [], u) (fun r t => F17 u t ∧ ((∃ f, rdEnd T N i = .inl f ∧ r = some (.int 0) ∧ gI t 41 17 = nI f) ∨ ∃ e, rdEnd T N i = .inr e ∧ r = some (.int 1) ∧ gI t 41 17 = nI e)) := by
  have hs := rdSk_le T hi
  have hN := X.1
  ((repeat refine VV.s rfl rfl ?_); (try (conv => arg 3; simp only [Nat.reduceAdd, sto1, sto2, isL, cond_true, cond_false, List.drop_succ_cons, List.drop_zero, List.drop_nil])))
  refine VV.call rfl rfl rfl rfl (f_skip0 X hi g) (fun r t q => ?_)
  obtain ⟨rfl, k, A⟩ := q
  ((repeat refine VV.s rfl rfl ?_); (try (conv => arg 3; simp only [Nat.reduceAdd, sto1, sto2, isL, cond_true, cond_false, List.drop_succ_cons, List.drop_zero, List.drop_nil])))
  refine VV.callE rfl rfl rfl rfl (f_here (X.keep A) hs.2 k) rfl ?_
  unfold rdEnd
  by_cases c : rdSk T N i < N
  · have hT := X.2.1 _ c
    rw [if_pos c]
    ((repeat refine VV.s rfl rfl ?_); (try (conv => arg 3; simp only [Nat.reduceAdd, sto1, sto2, isL, cond_true, cond_false, List.drop_succ_cons, List.drop_zero, List.drop_nil])))
    refine VV.ite (fun q => ?_) (fun q => ?_)
    · have q : nI (T (rdSk T N i)) = nI 59 := q
      rw [eq_nI (by omega) (by omega)] at q
      ((repeat refine VV.s rfl rfl ?_); (try (conv => arg 3; simp only [Nat.reduceAdd, sto1, sto2, isL, cond_true, cond_false, List.drop_succ_cons, List.drop_zero, List.drop_nil])))
      refine VV.ret3 rfl (Or.inr rfl) ⟨A.I (Or.inl rfl), Or.inr ⟨_, if_pos ⟨c, q⟩, rfl, ?_⟩⟩
      show gI t 41 17 + 1 = _
      rw [k, nI_1]
    · have q : ¬ nI (T (rdSk T N i)) = nI 59 := q
      rw [eq_nI (by omega) (by omega)] at q
      ((repeat refine VV.s rfl rfl ?_); (try (conv => arg 3; simp only [Nat.reduceAdd, sto1, sto2, isL, cond_true, cond_false, List.drop_succ_cons, List.drop_zero, List.drop_nil])))
      exact VV.ret3 rfl (Or.inl rfl) ⟨A, Or.inl ⟨_, if_neg (fun x => q x.2), rfl, k⟩⟩
  · rw [if_neg c]
    refine VV.s rfl rfl ?_
    refine VV.s rfl rfl ?_
    refine VV.itf (by decide) ?_
    ((repeat refine VV.s rfl rfl ?_); (try (conv => arg 3; simp only [Nat.reduceAdd, sto1, sto2, isL, cond_true, cond_false, List.drop_succ_cons, List.drop_zero, List.drop_nil])))
    exact VV.ret3 rfl (Or.inl rfl) ⟨A, Or.inl ⟨_, if_neg (fun x => c x.1), rfl, k⟩⟩
theorem cI_ltv {b v : Nat} (hb : b < 2 ^ 31) (hv : v + 1 < 2 ^ 31) : cI b < nI v ↔ b ≤ v := by
  rw [Int32.lt_iff_toInt_lt, cI_toInt hb, nI_toInt (by omega)]
  omega
/-- the number's figures so far -/
def vvN (T : Nat → Nat) (s n : Nat) : Nat := if n = 0 then 0 else rdV T s (s + min n 2)
theorem vvN_lt (X : ∀ j, j < N → T j < 128) {s n : Nat} (h : s + n ≤ N) : vvN T s n < 2000 := by
  unfold vvN
  split
  · omega
  · have := X s (by omega)
    unfold rdV
    split
    · omega
    · have := X (s + 1) (by omega)
      omega
set_option maxHeartbeats 16000000 in
theorem f_number {i b : Nat} (X : TM T N u) (hi : i ≤ N) (g : gI u 41 17 = nI i) (hb : b < 100) : V 116 (0, [some (.ref 41), some (.int 0), some (.int (cI b)), none, none], [], u) (fun r t => F17 u t ∧ ((∃ f, rdNum T N i b = .inl f ∧ r = some (.int 0) ∧ gI t 41 17 = nI f) ∨ ∃ v e, rdNum T N i b = .inr (v, e) ∧ r = some (.int 1) ∧ gI t 41 21 = nI v ∧ gI t 41 17 = nI e)) := by
  have hs := rdSk_le T hi
  have hN := X.1
  ((repeat refine VV.s rfl rfl ?_); (try (conv => arg 3; simp only [Nat.reduceAdd, sto1, sto2, isL, cond_true, cond_false, List.drop_succ_cons, List.drop_zero, List.drop_nil])))
  refine VV.call rfl rfl rfl rfl (f_skip0 X hi g) (fun r t q => ?_)
  obtain ⟨rfl, k, A⟩ := q
  obtain ⟨-, hT, hB, hn⟩ := X.keep A
  have hf := rdFz_le T (N := N) (i := rdSk T N i) hs.2
  have fin : ∀ n, rdSk T N i + n = rdFz T N (rdSk T N i) → V 116 (77, [some (.ref 41), some (.int 0), some (.int (cI b)), some (.int (nI n)), some (.int (nI (vvN T (rdSk T N i) n)))], [], t) (fun r t => F17 u t ∧ ((∃ f, rdNum T N i b = .inl f ∧ r = some (.int 0) ∧ gI t 41 17 = nI f) ∨ ∃ v e, rdNum T N i b = .inr (v, e) ∧ r = some (.int 1) ∧ gI t 41 21 = nI v ∧ gI t 41 17 = nI e)) := by
    intro n hn2
    have hv := vvN_lt hT (show rdSk T N i + n ≤ N by omega)
    ((repeat refine VV.s rfl rfl ?_); (try (conv => arg 3; simp only [Nat.reduceAdd, sto1, sto2, isL, cond_true, cond_false, List.drop_succ_cons, List.drop_zero, List.drop_nil])))
    unfold rdNum
    by_cases c : 1 ≤ n ∧ n ≤ 2
    · have ev : vvN T (rdSk T N i) n = rdV T (rdSk T N i) (rdFz T N (rdSk T N i)) := by
        unfold vvN
        rw [if_neg (by omega), Nat.min_eq_left c.2, hn2]
      refine VV.callE rfl rfl rfl rfl (f_inY (lo := nI 1) (hi := nI 2) (fun q => (rng_nI (by omega) (by omega) (by omega)).mp q c)) rfl ?_
      refine VV.s rfl rfl ?_
      refine VV.itf (by decide) ?_
      ((repeat refine VV.s rfl rfl ?_); (try (conv => arg 3; simp only [Nat.reduceAdd, sto1, sto2, isL, cond_true, cond_false, List.drop_succ_cons, List.drop_zero, List.drop_nil])))
      by_cases c2 : vvN T (rdSk T N i) n < b
      · refine VV.callE rfl rfl rfl rfl (f_inY (fun q => by
          rcases q with q | q
          · exact nI_nlt (b := 0) (by omega) (by omega) q
          · rw [cI_ltv (by omega) (by omega)] at q; omega)) rfl ?_
        refine VV.s rfl rfl ?_
        refine VV.itt (by decide) ?_
        ((repeat refine VV.s rfl rfl ?_); (try (conv => arg 3; simp only [Nat.reduceAdd, sto1, sto2, isL, cond_true, cond_false, List.drop_succ_cons, List.drop_zero, List.drop_nil])))
        refine VV.ret3 rfl (Or.inr rfl) ⟨(A.I (Or.inr rfl)).I (Or.inl rfl), Or.inr ⟨_, _, if_pos ⟨by omega, by rw [← ev]; exact c2⟩, rfl, by rw [← ev]; rfl, ?_⟩⟩
        show gI t 41 17 + nI n = _
        rw [k, nI_add, hn2]
      · refine VV.callE rfl rfl rfl rfl (f_inN (Or.inr ((cI_ltv (by omega) (by omega)).mpr (by omega)))) rfl ?_
        refine VV.s rfl rfl ?_
        refine VV.itf (fun x => x rfl) ?_
        ((repeat refine VV.s rfl rfl ?_); (try (conv => arg 3; simp only [Nat.reduceAdd, sto1, sto2, isL, cond_true, cond_false, List.drop_succ_cons, List.drop_zero, List.drop_nil])))
        exact VV.ret3 rfl (Or.inl rfl) ⟨A, Or.inl ⟨_, if_neg (fun x => by have := x.2; rw [← ev] at this; omega), rfl, k⟩⟩
    · refine VV.callE rfl rfl rfl rfl (f_inN (lo := nI 1) (hi := nI 2) ((rng_nI (by omega) (by omega) (by omega)).mpr c)) rfl ?_
      refine VV.s rfl rfl ?_
      refine VV.itt rfl ?_
      ((repeat refine VV.s rfl rfl ?_); (try (conv => arg 3; simp only [Nat.reduceAdd, sto1, sto2, isL, cond_true, cond_false, List.drop_succ_cons, List.drop_zero, List.drop_nil])))
      exact VV.ret3 rfl (Or.inl rfl) ⟨A, Or.inl ⟨_, if_neg (fun x => by have := x.1; omega), rfl, k⟩⟩
  have lp : ∀ m n, rdSk T N i + n + m = N → rdFz T N (rdSk T N i + n) = rdFz T N (rdSk T N i) → (∀ j, rdSk T N i ≤ j → j < rdSk T N i + n → 48 ≤ T j) → V 116 (9, [some (.ref 41), some (.int 0), some (.int (cI b)), some (.int (nI n)), some (.int (nI (vvN T (rdSk T N i) n)))], [], t) (fun r t => F17 u t ∧ ((∃ f, rdNum T N i b = .inl f ∧ r = some (.int 0) ∧ gI t 41 17 = nI f) ∨ ∃ v e, rdNum T N i b = .inr (v, e) ∧ r = some (.int 1) ∧ gI t 41 21 = nI v ∧ gI t 41 17 = nI e)) := by
    intro m
    induction m with
    | zero =>
      intro n hm e hd
      have e2 : rdFz T N (rdSk T N i + n) = rdSk T N i + n := rdRun_0 (by omega)
      ((repeat refine VV.s rfl rfl ?_); (try (conv => arg 3; simp only [Nat.reduceAdd, sto1, sto2, isL, cond_true, cond_false, List.drop_succ_cons, List.drop_zero, List.drop_nil])))
      refine VV.itt (by rw [k, hn, nI_add]; exact nI_le (by omega) (by omega)) ?_
      exact fin n (by omega)
    | succ m ih =>
      intro n hm e hd
      have e2 : rdFz T N (rdSk T N i + n) = _ := rdFz_s (by omega)
      ((repeat refine VV.s rfl rfl ?_); (try (conv => arg 3; simp only [Nat.reduceAdd, sto1, sto2, isL, cond_true, cond_false, List.drop_succ_cons, List.drop_zero, List.drop_nil])))
      refine VV.itf (by rw [k, hn, nI_add]; exact nI_ge (by omega) (by omega)) ?_
      ((repeat refine VV.s rfl rfl ?_); (try (conv => arg 3; simp only [Nat.reduceAdd, sto1, sto2, isL, cond_true, cond_false, List.drop_succ_cons, List.drop_zero, List.drop_nil])))
      refine VV.iald (n := rdSk T N i + n) rfl rfl (by rw [k, nI_add]) (show rdSk T N i + n < 150 by omega) (by decide) ?_
      rw [hB _ (by omega)]
      refine VV.callE rfl rfl rfl rfl (f_isFigure (hT _ (by omega))) rfl ?_
      refine VV.s rfl rfl ?_
      cases c : isFi T (rdSk T N i + n) with
      | false =>
        rw [c, if_neg (by decide)] at e2
        refine VV.itt rfl ?_
        exact fin n (by omega)
      | true =>
        rw [c, if_pos rfl] at e2
        have hc : 48 ≤ T (rdSk T N i + n) ∧ T (rdSk T N i + n) ≤ 57 := of_decide_eq_true c
        have hd2 : ∀ j, rdSk T N i ≤ j → j < rdSk T N i + (n + 1) → 48 ≤ T j := by
          intro j h1 h2
          by_cases x : j = rdSk T N i + n
          · rw [x]; exact hc.1
          · exact hd j h1 (by omega)
        have nx := ih (n + 1) (by omega) (by rw [← e, e2]; rfl) hd2
        refine VV.itf (by decide) ?_
        ((repeat refine VV.s rfl rfl ?_); (try (conv => arg 3; simp only [Nat.reduceAdd, sto1, sto2, isL, cond_true, cond_false, List.drop_succ_cons, List.drop_zero, List.drop_nil])))
        refine VV.ite (fun q => ?_) (fun q => ?_)
        · have q : nI 2 ≤ nI n := q
          rw [le_nI (by omega) (by omega)] at q
          ((repeat (fail_if_success show VV _ _ (9, _, _, _) _); refine VV.s rfl rfl ?_); (try (conv => arg 3; simp only [Nat.reduceAdd, sto1, sto2, isL, cond_true, cond_false, List.drop_succ_cons, List.drop_zero, List.drop_nil])))
          rw [nI_1]
          have ev : vvN T (rdSk T N i) (n + 1) = vvN T (rdSk T N i) n := by
            unfold vvN
            rw [if_neg (by omega), if_neg (by omega), Nat.min_eq_right (by omega), Nat.min_eq_right q]
          rw [ev] at nx
          exact nx
        · have q : ¬ nI 2 ≤ nI n := q
          rw [le_nI (by omega) (by omega)] at q
          ((repeat refine VV.s rfl rfl ?_); (try (conv => arg 3; simp only [Nat.reduceAdd, sto1, sto2, isL, cond_true, cond_false, List.drop_succ_cons, List.drop_zero, List.drop_nil])))
          refine VV.iald (n := rdSk T N i + n) rfl rfl (by rw [k, nI_add]) (show rdSk T N i + n < 150 by omega) (by decide) ?_
          rw [hB _ (by omega)]
          ((repeat (fail_if_success show VV _ _ (9, _, _, _) _); refine VV.s rfl rfl ?_); (try (conv => arg 3; simp only [Nat.reduceAdd, sto1, sto2, isL, cond_true, cond_false, List.drop_succ_cons, List.drop_zero, List.drop_nil])))
          rw [nI_1, val1 hc.1]
          have ev : vvN T (rdSk T N i) (n + 1) = 10 * vvN T (rdSk T N i) n + (T (rdSk T N i + n) - 48) := by
            unfold vvN rdV
            rcases (show n = 0 ∨ n = 1 by omega) with rfl | rfl
            · rw [if_neg (by omega), if_pos rfl, if_pos (by omega), Nat.add_zero]; omega
            · rw [if_neg (by omega), if_neg (by omega), if_neg (by omega), if_pos (by omega)]
          rw [ev] at nx
          exact nx
  ((repeat (fail_if_success show VV _ _ (9, _, _, _) _); refine VV.s rfl rfl ?_); (try (conv => arg 3; simp only [Nat.reduceAdd, sto1, sto2, isL, cond_true, cond_false, List.drop_succ_cons, List.drop_zero, List.drop_nil])))
  exact lp (N - rdSk T N i) 0 (by omega) rfl (fun j h1 h2 => by omega)
end RM2
