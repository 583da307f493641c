/-! ===== a house of the class: counts, notes, the digest, rings ===== -/
def ctr (ho : Nat → Nat) : Nat → Nat → Nat → Nat
  | 0, _, a => a
  | k + 1, i, a => ctr ho k (i + 1) (if ho i = 0 then a + 1 else a)
set_option maxHeartbeats 4000000 in
theorem e_atCounter_loop {u : Sg} {h : Hs} (R : HRep u 1 h) (G : GoodH h) : ∀ k i a, i + k = hn h → V 25 (4, [some (.ref 1), some (.int (nI a)), some (.int (nI i))], [], u) (is (.int (nI (ctr (hho h) k i a))) u) := by
  have hN := R.1.1
  have h6 := G.1.1
  intro k
  induction k with
  | zero =>
    intro i a hi
    ((repeat refine VV.s rfl rfl ?_); (try (conv => arg 3; simp only [Nat.reduceAdd, sto1, sto2, isL, cond_true, cond_false, List.drop_succ_cons, List.drop_zero, List.drop_nil])))
    refine VV.itt (by rw [hN]; exact nI_le (by omega) (by omega)) ?_
    ((repeat refine VV.s rfl rfl ?_); (try (conv => arg 3; simp only [Nat.reduceAdd, sto1, sto2, isL, cond_true, cond_false, List.drop_succ_cons, List.drop_zero, List.drop_nil])))
    exact VV.ret1 rfl ⟨rfl, rfl⟩
  | succ k ih =>
    intro i a hi
    ((repeat refine VV.s rfl rfl ?_); (try (conv => arg 3; simp only [Nat.reduceAdd, sto1, sto2, isL, cond_true, cond_false, List.drop_succ_cons, List.drop_zero, List.drop_nil])))
    refine VV.itf (by rw [hN]; exact nI_ge (by omega) (by omega)) ?_
    ((repeat refine VV.s rfl rfl ?_); (try (conv => arg 3; simp only [Nat.reduceAdd, sto1, sto2, isL, cond_true, cond_false, List.drop_succ_cons, List.drop_zero, List.drop_nil])))
    refine VV.iald rfl rfl rfl (show i < 6 by omega) (by decide) ?_
    ((repeat refine VV.s rfl rfl ?_); (try (conv => arg 3; simp only [Nat.reduceAdd, sto1, sto2, isL, cond_true, cond_false, List.drop_succ_cons, List.drop_zero, List.drop_nil])))
    have hl := (G.2.2.1.1 i (by omega)).1
    rw [(R.2.1 i (by omega)).2.2.2.1, ctr]
    refine VV.ite (fun q => ?_) (fun q => ?_)
    · rw [cI_none (by omega)] at q
      ((repeat (fail_if_success show VV _ _ (4, _, _, _) _); refine VV.s rfl rfl ?_); (try (conv => arg 3; simp only [Nat.reduceAdd, sto1, sto2, isL, cond_true, cond_false, List.drop_succ_cons, List.drop_zero, List.drop_nil])))
      rw [if_neg q, nI_1]
      exact ih (i + 1) a (by omega)
    · rw [cI_none (by omega)] at q
      ((repeat (fail_if_success show VV _ _ (4, _, _, _) _); refine VV.s rfl rfl ?_); (try (conv => arg 3; simp only [Nat.reduceAdd, sto1, sto2, isL, cond_true, cond_false, List.drop_succ_cons, List.drop_zero, List.drop_nil])))
      rw [if_pos (Classical.not_not.mp q), nI_1, nI_1]
      exact ih (i + 1) (a + 1) (by omega)
def ctrH (h : Hs) : Nat := ctr (hho h) (hn h) 0 0
theorem e_atCounter {u : Sg} {h : Hs} (R : HRep u 1 h) (G : GoodH h) : V 25 (0, [some (.ref 1), none, none], [], u) (is (.int (nI (ctrH h))) u) := by
  ((repeat (fail_if_success show VV _ _ (4, _, _, _) _); refine VV.s rfl rfl ?_); (try (conv => arg 3; simp only [Nat.reduceAdd, sto1, sto2, isL, cond_true, cond_false, List.drop_succ_cons, List.drop_zero, List.drop_nil])))
  exact e_atCounter_loop R G (hn h) 0 0 (by omega)
theorem ctr_le (ho : Nat → Nat) : ∀ k i a, ctr ho k i a ≤ a + k
  | 0, _, a => by rw [ctr]; omega
  | k + 1, i, a => by
    rw [ctr]
    have := ctr_le ho k (i + 1) (if ho i = 0 then a + 1 else a)
    split at this <;> split <;> omega
theorem ctrH_le (h : Hs) : ctrH h ≤ hn h := by
  have := ctr_le (hho h) (hn h) 0 0
  unfold ctrH; omega
def sms (sl : Nat → Int32) : Nat → Nat → Int32 → Int32
  | 0, _, a => a
  | k + 1, i, a => sms sl k (i + 1) (a + sl i)
set_option maxHeartbeats 4000000 in
theorem e_allSlipped_loop {u : Sg} {h : Hs} (R : HRep u 1 h) (G : GoodH h) : ∀ k i a, i + k = hn h → V 26 (4, [some (.ref 1), some (.int a), some (.int (nI i))], [], u) (is (.int (sms (hsl h) k i a)) u) := by
  have hN := R.1.1
  have h6 := G.1.1
  intro k
  induction k with
  | zero =>
    intro i a hi
    ((repeat refine VV.s rfl rfl ?_); (try (conv => arg 3; simp only [Nat.reduceAdd, sto1, sto2, isL, cond_true, cond_false, List.drop_succ_cons, List.drop_zero, List.drop_nil])))
    refine VV.itt (by rw [hN]; exact nI_le (by omega) (by omega)) ?_
    ((repeat refine VV.s rfl rfl ?_); (try (conv => arg 3; simp only [Nat.reduceAdd, sto1, sto2, isL, cond_true, cond_false, List.drop_succ_cons, List.drop_zero, List.drop_nil])))
    exact VV.ret1 rfl ⟨rfl, rfl⟩
  | succ k ih =>
    intro i a hi
    ((repeat refine VV.s rfl rfl ?_); (try (conv => arg 3; simp only [Nat.reduceAdd, sto1, sto2, isL, cond_true, cond_false, List.drop_succ_cons, List.drop_zero, List.drop_nil])))
    refine VV.itf (by rw [hN]; exact nI_ge (by omega) (by omega)) ?_
    ((repeat refine VV.s rfl rfl ?_); (try (conv => arg 3; simp only [Nat.reduceAdd, sto1, sto2, isL, cond_true, cond_false, List.drop_succ_cons, List.drop_zero, List.drop_nil])))
    refine VV.iald rfl rfl rfl (show i < 6 by omega) (by decide) ?_
    ((repeat (fail_if_success show VV _ _ (4, _, _, _) _); refine VV.s rfl rfl ?_); (try (conv => arg 3; simp only [Nat.reduceAdd, sto1, sto2, isL, cond_true, cond_false, List.drop_succ_cons, List.drop_zero, List.drop_nil])))
    rw [(R.2.1 i (by omega)).2.2.2.2.2, nI_1, sms]
    exact ih (i + 1) _ (by omega)
def smsH (h : Hs) : Int32 := sms (hsl h) (hn h) 0 0
theorem e_allSlipped {u : Sg} {h : Hs} (R : HRep u 1 h) (G : GoodH h) : V 26 (0, [some (.ref 1), none, none], [], u) (is (.int (smsH h)) u) := by
  ((repeat (fail_if_success show VV _ _ (4, _, _, _) _); refine VV.s rfl rfl ?_); (try (conv => arg 3; simp only [Nat.reduceAdd, sto1, sto2, isL, cond_true, cond_false, List.drop_succ_cons, List.drop_zero, List.drop_nil])))
  exact e_allSlipped_loop R G (hn h) 0 0 (by omega)
/-- by kind k a note i is so -/
def soN (h : Hs) (k i : Nat) : Bool := decide (sdN k (hso h (hN h i 0)) (hN h i 2) = hN h i 3 ∧ wdN k (hN h i 1) = hN h i 4)
theorem mul5 (i : Nat) : nI i * 5 = nI (5 * i) := by
  have e : (5 : Int32) = nI 5 := rfl
  rw [e, pk_mul, Nat.mul_comm]
theorem add_nI (a b : Nat) : nI a + nI b = nI (a + b) := nI_add a b
set_option maxHeartbeats 4000000 in
theorem e_isSo {u : Sg} {h : Hs} (R : HRep u 1 h) (G : GoodH h) {k i : Nat} (hk : k ≤ 5) (hi : i < hnn h) : V 23 (0, [some (.ref 1), some (.int (nI k)), some (.int (nI i)), none, none], [], u) (is (.int (if soN h k i then 1 else 0)) u) := by
  have h6 := G.1.1
  have h62 := G.1.2.2.1
  obtain ⟨g0, g1, g2, g3, g4⟩ := G.2.2.2.1 i hi
  have r0 := R.2.2.1 i 0 hi (by omega)
  have r1 := R.2.2.1 i 1 hi (by omega)
  have r2 := R.2.2.1 i 2 hi (by omega)
  have r3 := R.2.2.1 i 3 hi (by omega)
  have r4 := R.2.2.1 i 4 hi (by omega)
  obtain ⟨-, k2, -⟩ := R.2.1 _ g0
  have s9 := (G.2.1 _ g0).2.1
  have e1 : nI (5 * i) + 1 = nI (5 * i + 1) := nI_1 _
  have e2 : nI (5 * i) + 2 = nI (5 * i + 2) := add_nI _ 2
  have e3 : nI (5 * i) + 3 = nI (5 * i + 3) := add_nI _ 3
  have e4 : nI (5 * i) + 4 = nI (5 * i + 4) := add_nI _ 4
  have hs9 := sdN_le (k := k) (d := hN h i 2) s9
  have hw4 := wdN_le k (hN h i 1)
  ((repeat refine VV.s rfl rfl ?_); (try (conv => arg 3; simp only [Nat.reduceAdd, sto1, sto2, isL, cond_true, cond_false, List.drop_succ_cons, List.drop_zero, List.drop_nil])))
  rw [mul5]
  refine VV.iald rfl rfl rfl (show 5 * i < 30 by omega) (by decide) ?_
  rw [show 5 * i = 5 * i + 0 from rfl, r0]
  ((repeat refine VV.s rfl rfl ?_); (try (conv => arg 3; simp only [Nat.reduceAdd, sto1, sto2, isL, cond_true, cond_false, List.drop_succ_cons, List.drop_zero, List.drop_nil])))
  refine VV.iald rfl rfl rfl (show (hN h i 0) < 6 by omega) (by decide) ?_
  ((repeat refine VV.s rfl rfl ?_); (try (conv => arg 3; simp only [Nat.reduceAdd, sto1, sto2, isL, cond_true, cond_false, List.drop_succ_cons, List.drop_zero, List.drop_nil])))
  rw [k2, Nat.add_zero, e2]
  refine VV.iald rfl rfl rfl (show 5 * i + 2 < 30 by omega) (by decide) ?_
  rw [r2]
  refine VV.callE rfl rfl rfl rfl (e_Ksound hk s9 (by omega)) rfl ?_
  ((repeat refine VV.s rfl rfl ?_); (try (conv => arg 3; simp only [Nat.reduceAdd, sto1, sto2, isL, cond_true, cond_false, List.drop_succ_cons, List.drop_zero, List.drop_nil])))
  rw [e3]
  refine VV.iald rfl rfl rfl (show 5 * i + 3 < 30 by omega) (by decide) ?_
  rw [r3]
  ((repeat refine VV.s rfl rfl ?_); (try (conv => arg 3; simp only [Nat.reduceAdd, sto1, sto2, isL, cond_true, cond_false, List.drop_succ_cons, List.drop_zero, List.drop_nil])))
  unfold soN
  refine VV.ite (fun q => ?_) (fun q => ?_)
  · rw [eq_nI (by omega) (by omega)] at q
    ((repeat refine VV.s rfl rfl ?_); (try (conv => arg 3; simp only [Nat.reduceAdd, sto1, sto2, isL, cond_true, cond_false, List.drop_succ_cons, List.drop_zero, List.drop_nil])))
    exact VV.ret3 rfl (Or.inl rfl) ⟨by rw [if_neg (by simp [q])], rfl⟩
  · rw [eq_nI (by omega) (by omega)] at q
    have q := Classical.not_not.mp q
    ((repeat refine VV.s rfl rfl ?_); (try (conv => arg 3; simp only [Nat.reduceAdd, sto1, sto2, isL, cond_true, cond_false, List.drop_succ_cons, List.drop_zero, List.drop_nil])))
    rw [e1]
    refine VV.iald rfl rfl rfl (show 5 * i + 1 < 30 by omega) (by decide) ?_
    rw [r1]
    refine VV.callE rfl rfl rfl rfl (e_words hk (by omega)) rfl ?_
    ((repeat refine VV.s rfl rfl ?_); (try (conv => arg 3; simp only [Nat.reduceAdd, sto1, sto2, isL, cond_true, cond_false, List.drop_succ_cons, List.drop_zero, List.drop_nil])))
    rw [e4]
    refine VV.iald rfl rfl rfl (show 5 * i + 4 < 30 by omega) (by decide) ?_
    rw [r4]
    ((repeat refine VV.s rfl rfl ?_); (try (conv => arg 3; simp only [Nat.reduceAdd, sto1, sto2, isL, cond_true, cond_false, List.drop_succ_cons, List.drop_zero, List.drop_nil])))
    refine VV.ite (fun q2 => ?_) (fun q2 => ?_)
    · rw [eq_nI (by omega) (by omega)] at q2
      ((repeat refine VV.s rfl rfl ?_); (try (conv => arg 3; simp only [Nat.reduceAdd, sto1, sto2, isL, cond_true, cond_false, List.drop_succ_cons, List.drop_zero, List.drop_nil])))
      exact VV.ret3 rfl (Or.inl rfl) ⟨by rw [if_neg (by simp [q2])], rfl⟩
    · rw [eq_nI (by omega) (by omega)] at q2
      have q2 := Classical.not_not.mp q2
      ((repeat refine VV.s rfl rfl ?_); (try (conv => arg 3; simp only [Nat.reduceAdd, sto1, sto2, isL, cond_true, cond_false, List.drop_succ_cons, List.drop_zero, List.drop_nil])))
      exact VV.ret3 rfl (Or.inr rfl) ⟨by rw [if_pos (by simp [q, q2])], rfl⟩
/-- all notes of v are so by kind k -/
def alN (h : Hs) (v k : Nat) : Nat → Nat → Bool → Bool
  | 0, _, a => a
  | m + 1, i, a => alN h v k m (i + 1) (a && (decide (hN h i 0 ≠ v) || soN h k i))
def b01 (b : Bool) : Int32 := if b then 1 else 0
set_option maxHeartbeats 4000000 in
theorem e_kinds_in {u : Sg} {h : Hs} (R : HRep u 1 h) (G : GoodH h) {v k : Nat} {bs : Int32} (hv : v < 2 ^ 31) (hk : k ≤ 5) {Q : Option Value → Sg → Prop} (K : ∀ d, V 22 (66, [some (.ref 1), some (.int (nI v)), some (.int bs), some (.int (nI k)), some (.int (b01 (alN h v k (hnn h) 0 true))), d], [], u) Q) : ∀ m i a, i + m = hnn h → alN h v k m i a = alN h v k (hnn h) 0 true → V 22 (16, [some (.ref 1), some (.int (nI v)), some (.int bs), some (.int (nI k)), some (.int (b01 a)), some (.int (nI i))], [], u) Q := by
  have hN := R.1.2.2.1
  have h6 := G.1.2.2.1
  intro m
  induction m with
  | zero =>
    intro i a hi ha
    ((repeat refine VV.s rfl rfl ?_); (try (conv => arg 3; simp only [Nat.reduceAdd, sto1, sto2, isL, cond_true, cond_false, List.drop_succ_cons, List.drop_zero, List.drop_nil])))
    refine VV.itt (by rw [hN]; exact nI_le (by omega) (by omega)) ?_
    have ha : a = alN h v k (hnn h) 0 true := ha
    rw [ha]
    exact K _
  | succ m ih =>
    intro i a hi ha
    have r0 := R.2.2.1 i 0 (by omega) (by omega)
    have g0 := (G.2.2.2.1 i (by omega)).1
    have h60 := G.1.1
    rw [alN] at ha
    ((repeat refine VV.s rfl rfl ?_); (try (conv => arg 3; simp only [Nat.reduceAdd, sto1, sto2, isL, cond_true, cond_false, List.drop_succ_cons, List.drop_zero, List.drop_nil])))
    refine VV.itf (by rw [hN]; exact nI_ge (by omega) (by omega)) ?_
    ((repeat refine VV.s rfl rfl ?_); (try (conv => arg 3; simp only [Nat.reduceAdd, sto1, sto2, isL, cond_true, cond_false, List.drop_succ_cons, List.drop_zero, List.drop_nil])))
    cases a with
    | false =>
      refine VV.itt rfl ?_
      ((repeat (fail_if_success show VV _ _ (16, _, _, _) _); refine VV.s rfl rfl ?_); (try (conv => arg 3; simp only [Nat.reduceAdd, sto1, sto2, isL, cond_true, cond_false, List.drop_succ_cons, List.drop_zero, List.drop_nil])))
      rw [nI_1]
      exact ih (i + 1) false (by omega) ha
    | true =>
      refine VV.itf (by decide) ?_
      ((repeat refine VV.s rfl rfl ?_); (try (conv => arg 3; simp only [Nat.reduceAdd, sto1, sto2, isL, cond_true, cond_false, List.drop_succ_cons, List.drop_zero, List.drop_nil])))
      rw [mul5]
      refine VV.iald rfl rfl rfl (show 5 * i < 30 by omega) (by decide) ?_
      rw [show 5 * i = 5 * i + 0 from rfl, r0]
      ((repeat refine VV.s rfl rfl ?_); (try (conv => arg 3; simp only [Nat.reduceAdd, sto1, sto2, isL, cond_true, cond_false, List.drop_succ_cons, List.drop_zero, List.drop_nil])))
      refine VV.ite (fun q => ?_) (fun q => ?_)
      · rw [eq_nI (by omega) hv] at q
        ((repeat (fail_if_success show VV _ _ (16, _, _, _) _); refine VV.s rfl rfl ?_); (try (conv => arg 3; simp only [Nat.reduceAdd, sto1, sto2, isL, cond_true, cond_false, List.drop_succ_cons, List.drop_zero, List.drop_nil])))
        rw [nI_1]
        exact ih (i + 1) true (by omega) (by rw [← ha]; simp [q])
      · rw [eq_nI (by omega) hv] at q
        have q := Classical.not_not.mp q
        ((repeat refine VV.s rfl rfl ?_); (try (conv => arg 3; simp only [Nat.reduceAdd, sto1, sto2, isL, cond_true, cond_false, List.drop_succ_cons, List.drop_zero, List.drop_nil])))
        refine VV.callE rfl rfl rfl rfl (e_isSo R G hk (show i < hnn h by omega)) rfl ?_
        ((repeat refine VV.s rfl rfl ?_); (try (conv => arg 3; simp only [Nat.reduceAdd, sto1, sto2, isL, cond_true, cond_false, List.drop_succ_cons, List.drop_zero, List.drop_nil])))
        cases hs : soN h k i with
        | true =>
          refine VV.itf (by decide) ?_
          ((repeat (fail_if_success show VV _ _ (16, _, _, _) _); refine VV.s rfl rfl ?_); (try (conv => arg 3; simp only [Nat.reduceAdd, sto1, sto2, isL, cond_true, cond_false, List.drop_succ_cons, List.drop_zero, List.drop_nil])))
          rw [nI_1]
          exact ih (i + 1) true (by omega) (by rw [← ha]; simp [q, hs])
        | false =>
          refine VV.itt (by decide) ?_
          ((repeat (fail_if_success show VV _ _ (16, _, _, _) _); refine VV.s rfl rfl ?_); (try (conv => arg 3; simp only [Nat.reduceAdd, sto1, sto2, isL, cond_true, cond_false, List.drop_succ_cons, List.drop_zero, List.drop_nil])))
          rw [nI_1]
          exact ih (i + 1) false (by omega) (by rw [← ha]; simp [q, hs])
def kbN (h : Hs) (v : Nat) : Nat → Nat → Int32 → Int32
  | 0, _, a => a
  | m + 1, k, a => kbN h v m (k + 1) (if alN h v k (hnn h) 0 true then a ||| (1 <<< (nI k &&& 31)) else a)
set_option maxHeartbeats 4000000 in
theorem e_kinds_out {u : Sg} {h : Hs} (R : HRep u 1 h) (G : GoodH h) {v : Nat} (hv : v < 2 ^ 31) : ∀ m k a d4 d5, k + m = 6 → V 22 (4, [some (.ref 1), some (.int (nI v)), some (.int a), some (.int (nI k)), d4, d5], [], u) (is (.int (kbN h v m k a)) u) := by
  intro m
  induction m with
  | zero =>
    intro k a d4 d5 hk
    ((repeat refine VV.s rfl rfl ?_); (try (conv => arg 3; simp only [Nat.reduceAdd, sto1, sto2, isL, cond_true, cond_false, List.drop_succ_cons, List.drop_zero, List.drop_nil])))
    refine VV.itt (nI_le (a := 6) (by omega) (by omega)) ?_
    ((repeat refine VV.s rfl rfl ?_); (try (conv => arg 3; simp only [Nat.reduceAdd, sto1, sto2, isL, cond_true, cond_false, List.drop_succ_cons, List.drop_zero, List.drop_nil])))
    exact VV.ret1 rfl ⟨rfl, rfl⟩
  | succ m ih =>
    intro k a d4 d5 hk
    ((repeat refine VV.s rfl rfl ?_); (try (conv => arg 3; simp only [Nat.reduceAdd, sto1, sto2, isL, cond_true, cond_false, List.drop_succ_cons, List.drop_zero, List.drop_nil])))
    refine VV.itf (nI_ge (b := 6) (by omega) (by omega)) ?_
    ((repeat (fail_if_success show VV _ _ (16, _, _, _) _); refine VV.s rfl rfl ?_); (try (conv => arg 3; simp only [Nat.reduceAdd, sto1, sto2, isL, cond_true, cond_false, List.drop_succ_cons, List.drop_zero, List.drop_nil])))
    rw [kbN]
    refine e_kinds_in R G hv (by omega) (fun d => ?_) (hnn h) 0 true (by omega) rfl
    ((repeat refine VV.s rfl rfl ?_); (try (conv => arg 3; simp only [Nat.reduceAdd, sto1, sto2, isL, cond_true, cond_false, List.drop_succ_cons, List.drop_zero, List.drop_nil])))
    cases hs : alN h v k (hnn h) 0 true with
    | true =>
      refine VV.itf (by decide) ?_
      ((repeat (fail_if_success show VV _ _ (4, _, _, _) _); refine VV.s rfl rfl ?_); (try (conv => arg 3; simp only [Nat.reduceAdd, sto1, sto2, isL, cond_true, cond_false, List.drop_succ_cons, List.drop_zero, List.drop_nil])))
      rw [nI_1]
      exact ih (k + 1) _ _ _ (by omega)
    | false =>
      refine VV.itt rfl ?_
      ((repeat (fail_if_success show VV _ _ (4, _, _, _) _); refine VV.s rfl rfl ?_); (try (conv => arg 3; simp only [Nat.reduceAdd, sto1, sto2, isL, cond_true, cond_false, List.drop_succ_cons, List.drop_zero, List.drop_nil])))
      rw [nI_1]
      exact ih (k + 1) _ _ _ (by omega)
def isK (h : Hs) (v : Nat) : Int32 := kbN h v 6 0 0
theorem e_kindsByNotes {u : Sg} {h : Hs} (R : HRep u 1 h) (G : GoodH h) {v : Nat} (hv : v < 2 ^ 31) : V 22 (0, [some (.ref 1), some (.int (nI v)), none, none, none, none], [], u) (is (.int (isK h v)) u) := by
  ((repeat (fail_if_success show VV _ _ (4, _, _, _) _); refine VV.s rfl rfl ?_); (try (conv => arg 3; simp only [Nat.reduceAdd, sto1, sto2, isL, cond_true, cond_false, List.drop_succ_cons, List.drop_zero, List.drop_nil])))
  exact e_kinds_out R G hv 6 0 0 none none (by omega)
/-- the ring of p -/
def rgF (h : Hs) (p : Nat) : Nat → Nat → Nat → Nat
  | 0, _, _ => 0
  | k + 1, st, x => match voH h x with
    | 0 => 0
    | v + 1 => if v = p then st else rgF h p k (st + 1) v
set_option maxHeartbeats 4000000 in
theorem e_ring_loop {u : Sg} {h : Hs} (R : HRep u 1 h) (G : GoodH h) {p : Nat} (hp : p < hn h) : ∀ k st x, st + k = hn h + 1 → x < hn h → V 14 (4, [some (.ref 1), some (.int (nI p)), some (.int (nI x)), some (.int (nI st))], [], u) (is (.int (nI (rgF h p k st x))) u) := by
  have hN := R.1.1
  have h6 := G.1.1
  intro k
  induction k with
  | zero =>
    intro st x hs hx
    ((repeat refine VV.s rfl rfl ?_); (try (conv => arg 3; simp only [Nat.reduceAdd, sto1, sto2, isL, cond_true, cond_false, List.drop_succ_cons, List.drop_zero, List.drop_nil])))
    refine VV.itt (by rw [hN]; exact nI_lt (by omega) (by omega)) ?_
    ((repeat refine VV.s rfl rfl ?_); (try (conv => arg 3; simp only [Nat.reduceAdd, sto1, sto2, isL, cond_true, cond_false, List.drop_succ_cons, List.drop_zero, List.drop_nil])))
    exact VV.ret1 rfl ⟨rfl, rfl⟩
  | succ k ih =>
    intro st x hs hx
    ((repeat refine VV.s rfl rfl ?_); (try (conv => arg 3; simp only [Nat.reduceAdd, sto1, sto2, isL, cond_true, cond_false, List.drop_succ_cons, List.drop_zero, List.drop_nil])))
    refine VV.itf (by rw [hN]; exact nI_nlt (by omega) (by omega)) ?_
    ((repeat refine VV.s rfl rfl ?_); (try (conv => arg 3; simp only [Nat.reduceAdd, sto1, sto2, isL, cond_true, cond_false, List.drop_succ_cons, List.drop_zero, List.drop_nil])))
    refine VV.callE rfl rfl rfl rfl (e_voiceWith (Or.inl rfl) R G (p := x) (by omega)) rfl ?_
    ((repeat refine VV.s rfl rfl ?_); (try (conv => arg 3; simp only [Nat.reduceAdd, sto1, sto2, isL, cond_true, cond_false, List.drop_succ_cons, List.drop_zero, List.drop_nil])))
    rw [rgF]
    rcases voH_spec h x with ⟨a1, -⟩ | ⟨v, hv, a1, -⟩
    · rw [a1]
      refine VV.itf (fun z => z cI_0) ?_
      ((repeat refine VV.s rfl rfl ?_); (try (conv => arg 3; simp only [Nat.reduceAdd, sto1, sto2, isL, cond_true, cond_false, List.drop_succ_cons, List.drop_zero, List.drop_nil])))
      exact VV.ret1 rfl ⟨rfl, rfl⟩
    · rw [a1, cI_s]
      refine VV.itt (nI_ne1 (by omega)) ?_
      ((repeat refine VV.s rfl rfl ?_); (try (conv => arg 3; simp only [Nat.reduceAdd, sto1, sto2, isL, cond_true, cond_false, List.drop_succ_cons, List.drop_zero, List.drop_nil])))
      refine VV.ite (fun q => ?_) (fun q => ?_)
      · rw [eq_nI (by omega) (by omega)] at q
        ((repeat (fail_if_success show VV _ _ (4, _, _, _) _); refine VV.s rfl rfl ?_); (try (conv => arg 3; simp only [Nat.reduceAdd, sto1, sto2, isL, cond_true, cond_false, List.drop_succ_cons, List.drop_zero, List.drop_nil])))
        rw [nI_1]
        show V _ _ (is (.int (nI (if v = p then st else rgF h p k (st + 1) v))) u)
        rw [if_neg q]
        exact ih (st + 1) v (by omega) hv
      · rw [eq_nI (by omega) (by omega)] at q
        ((repeat refine VV.s rfl rfl ?_); (try (conv => arg 3; simp only [Nat.reduceAdd, sto1, sto2, isL, cond_true, cond_false, List.drop_succ_cons, List.drop_zero, List.drop_nil])))
        refine VV.ret1 rfl ⟨?_, rfl⟩
        show _ = some (Value.int (nI (if v = p then st else rgF h p k (st + 1) v)))
        rw [if_pos (Classical.not_not.mp q)]
def rgH (h : Hs) (p : Nat) : Nat := rgF h p (hn h) 1 p
theorem e_ringFrom {u : Sg} {h : Hs} (R : HRep u 1 h) (G : GoodH h) {p : Nat} (hp : p < hn h) : V 14 (0, [some (.ref 1), some (.int (nI p)), none, none], [], u) (is (.int (nI (rgH h p))) u) := by
  ((repeat (fail_if_success show VV _ _ (4, _, _, _) _); refine VV.s rfl rfl ?_); (try (conv => arg 3; simp only [Nat.reduceAdd, sto1, sto2, isL, cond_true, cond_false, List.drop_succ_cons, List.drop_zero, List.drop_nil])))
  exact e_ring_loop R G hp (hn h) 1 p (by omega) hp
/-- p is the least of its ring -/
def rgL (h : Hs) (p : Nat) : Nat → Nat → Bool
  | 0, _ => true
  | _ + 1, 0 => true
  | k + 1, v + 1 => if v = p then true else if v < p then false else rgL h p k (voH h v)
set_option maxHeartbeats 4000000 in
theorem e_first_loop {u : Sg} {h : Hs} (R : HRep u 1 h) (G : GoodH h) {p : Nat} (hp : p < hn h) : ∀ k st x, st + k = hn h + 1 → x ≤ hn h → V 16 (8, [some (.ref 1), some (.int (nI p)), some (.int (cI x)), some (.int (nI st))], [], u) (is (.int (b01 (rgL h p k x))) u) := by
  have hN := R.1.1
  have h6 := G.1.1
  intro k
  induction k with
  | zero =>
    intro st x hs hx
    ((repeat refine VV.s rfl rfl ?_); (try (conv => arg 3; simp only [Nat.reduceAdd, sto1, sto2, isL, cond_true, cond_false, List.drop_succ_cons, List.drop_zero, List.drop_nil])))
    refine VV.itt (by rw [hN]; exact nI_lt (by omega) (by omega)) ?_
    ((repeat refine VV.s rfl rfl ?_); (try (conv => arg 3; simp only [Nat.reduceAdd, sto1, sto2, isL, cond_true, cond_false, List.drop_succ_cons, List.drop_zero, List.drop_nil])))
    exact VV.ret3 rfl (Or.inr rfl) ⟨rfl, rfl⟩
  | succ k ih =>
    intro st x hs hx
    ((repeat refine VV.s rfl rfl ?_); (try (conv => arg 3; simp only [Nat.reduceAdd, sto1, sto2, isL, cond_true, cond_false, List.drop_succ_cons, List.drop_zero, List.drop_nil])))
    refine VV.itf (by rw [hN]; exact nI_nlt (by omega) (by omega)) ?_
    ((repeat refine VV.s rfl rfl ?_); (try (conv => arg 3; simp only [Nat.reduceAdd, sto1, sto2, isL, cond_true, cond_false, List.drop_succ_cons, List.drop_zero, List.drop_nil])))
    cases x with
    | zero =>
      refine VV.itt cI_0 ?_
      ((repeat refine VV.s rfl rfl ?_); (try (conv => arg 3; simp only [Nat.reduceAdd, sto1, sto2, isL, cond_true, cond_false, List.drop_succ_cons, List.drop_zero, List.drop_nil])))
      exact VV.ret3 rfl (Or.inr rfl) ⟨rfl, rfl⟩
    | succ v =>
      rw [cI_s]
      refine VV.itf (nI_ne1 (by omega)) ?_
      ((repeat refine VV.s rfl rfl ?_); (try (conv => arg 3; simp only [Nat.reduceAdd, sto1, sto2, isL, cond_true, cond_false, List.drop_succ_cons, List.drop_zero, List.drop_nil])))
      rw [rgL]
      refine VV.ite (fun q => ?_) (fun q => ?_)
      · rw [eq_nI (by omega) (by omega)] at q
        ((repeat refine VV.s rfl rfl ?_); (try (conv => arg 3; simp only [Nat.reduceAdd, sto1, sto2, isL, cond_true, cond_false, List.drop_succ_cons, List.drop_zero, List.drop_nil])))
        exact VV.ret3 rfl (Or.inr rfl) ⟨by rw [if_pos q]; rfl, rfl⟩
      · rw [eq_nI (by omega) (by omega)] at q
        ((repeat refine VV.s rfl rfl ?_); (try (conv => arg 3; simp only [Nat.reduceAdd, sto1, sto2, isL, cond_true, cond_false, List.drop_succ_cons, List.drop_zero, List.drop_nil])))
        rw [if_neg q]
        refine VV.ite (fun q2 => ?_) (fun q2 => ?_)
        · rw [le_nI (by omega) (by omega)] at q2
          ((repeat refine VV.s rfl rfl ?_); (try (conv => arg 3; simp only [Nat.reduceAdd, sto1, sto2, isL, cond_true, cond_false, List.drop_succ_cons, List.drop_zero, List.drop_nil])))
          refine VV.callE rfl rfl rfl rfl (e_voiceWith (Or.inl rfl) R G (p := v) (by omega)) rfl ?_
          ((repeat (fail_if_success show VV _ _ (8, _, _, _) _); refine VV.s rfl rfl ?_); (try (conv => arg 3; simp only [Nat.reduceAdd, sto1, sto2, isL, cond_true, cond_false, List.drop_succ_cons, List.drop_zero, List.drop_nil])))
          rw [if_neg (by omega), nI_1]
          exact ih (st + 1) _ (by omega) (voH_le h v)
        · rw [le_nI (by omega) (by omega)] at q2
          ((repeat refine VV.s rfl rfl ?_); (try (conv => arg 3; simp only [Nat.reduceAdd, sto1, sto2, isL, cond_true, cond_false, List.drop_succ_cons, List.drop_zero, List.drop_nil])))
          exact VV.ret3 rfl (Or.inl rfl) ⟨by rw [if_pos (by omega)]; rfl, rfl⟩
theorem e_isFirst {u : Sg} {h : Hs} (R : HRep u 1 h) (G : GoodH h) {p : Nat} (hp : p < hn h) : V 16 (0, [some (.ref 1), some (.int (nI p)), none, none], [], u) (is (.int (b01 (rgL h p (hn h) (voH h p)))) u) := by
  have h6 := G.1.1
  ((repeat refine VV.s rfl rfl ?_); (try (conv => arg 3; simp only [Nat.reduceAdd, sto1, sto2, isL, cond_true, cond_false, List.drop_succ_cons, List.drop_zero, List.drop_nil])))
  refine VV.callE rfl rfl rfl rfl (e_voiceWith (Or.inl rfl) R G (p := p) (by omega)) rfl ?_
  ((repeat (fail_if_success show VV _ _ (8, _, _, _) _); refine VV.s rfl rfl ?_); (try (conv => arg 3; simp only [Nat.reduceAdd, sto1, sto2, isL, cond_true, cond_false, List.drop_succ_cons, List.drop_zero, List.drop_nil])))
  exact e_first_loop R G hp (hn h) 1 _ (by omega) (voH_le h p)
def rgs (h : Hs) : Nat → Nat → Nat → Nat
  | 0, _, a => a
  | k + 1, p, a => rgs h k (p + 1) (if 2 ≤ rgH h p ∧ rgL h p (hn h) (voH h p) = true then a + 1 else a)
theorem rgF_le (h : Hs) (p : Nat) : ∀ k st x, rgF h p k st x ≤ st + k
  | 0, st, x => by rw [rgF]; omega
  | k + 1, st, x => by
    rw [rgF]
    split
    · omega
    · split
      · omega
      · have := rgF_le h p k (st + 1) ‹_›
        omega
set_option maxHeartbeats 4000000 in
theorem e_rings_loop {u : Sg} {h : Hs} (R : HRep u 1 h) (G : GoodH h) : ∀ k p a, p + k = hn h → V 15 (4, [some (.ref 1), some (.int (nI a)), some (.int (nI p))], [], u) (is (.int (nI (rgs h k p a))) u) := by
  have hN := R.1.1
  have h6 := G.1.1
  intro k
  induction k with
  | zero =>
    intro p a hi
    ((repeat refine VV.s rfl rfl ?_); (try (conv => arg 3; simp only [Nat.reduceAdd, sto1, sto2, isL, cond_true, cond_false, List.drop_succ_cons, List.drop_zero, List.drop_nil])))
    refine VV.itt (by rw [hN]; exact nI_le (by omega) (by omega)) ?_
    ((repeat refine VV.s rfl rfl ?_); (try (conv => arg 3; simp only [Nat.reduceAdd, sto1, sto2, isL, cond_true, cond_false, List.drop_succ_cons, List.drop_zero, List.drop_nil])))
    exact VV.ret1 rfl ⟨rfl, rfl⟩
  | succ k ih =>
    intro p a hi
    ((repeat refine VV.s rfl rfl ?_); (try (conv => arg 3; simp only [Nat.reduceAdd, sto1, sto2, isL, cond_true, cond_false, List.drop_succ_cons, List.drop_zero, List.drop_nil])))
    refine VV.itf (by rw [hN]; exact nI_ge (by omega) (by omega)) ?_
    ((repeat refine VV.s rfl rfl ?_); (try (conv => arg 3; simp only [Nat.reduceAdd, sto1, sto2, isL, cond_true, cond_false, List.drop_succ_cons, List.drop_zero, List.drop_nil])))
    refine VV.callE rfl rfl rfl rfl (e_ringFrom R G (show p < hn h by omega)) rfl ?_
    ((repeat refine VV.s rfl rfl ?_); (try (conv => arg 3; simp only [Nat.reduceAdd, sto1, sto2, isL, cond_true, cond_false, List.drop_succ_cons, List.drop_zero, List.drop_nil])))
    have hl := rgF_le h p (hn h) 1 p
    have hl : rgH h p ≤ 1 + hn h := hl
    rw [rgs]
    refine VV.ite (fun q => ?_) (fun q => ?_)
    · have q : nI (rgH h p) < nI 2 := q
      rw [lt_nI (by omega) (by omega)] at q
      ((repeat (fail_if_success show VV _ _ (4, _, _, _) _); refine VV.s rfl rfl ?_); (try (conv => arg 3; simp only [Nat.reduceAdd, sto1, sto2, isL, cond_true, cond_false, List.drop_succ_cons, List.drop_zero, List.drop_nil])))
      rw [if_neg (by omega), nI_1]
      exact ih (p + 1) a (by omega)
    · have q : ¬ nI (rgH h p) < nI 2 := q
      rw [lt_nI (by omega) (by omega)] at q
      ((repeat refine VV.s rfl rfl ?_); (try (conv => arg 3; simp only [Nat.reduceAdd, sto1, sto2, isL, cond_true, cond_false, List.drop_succ_cons, List.drop_zero, List.drop_nil])))
      refine VV.callE rfl rfl rfl rfl (e_isFirst R G (show p < hn h by omega)) rfl ?_
      ((repeat refine VV.s rfl rfl ?_); (try (conv => arg 3; simp only [Nat.reduceAdd, sto1, sto2, isL, cond_true, cond_false, List.drop_succ_cons, List.drop_zero, List.drop_nil])))
      cases hs : rgL h p (hn h) (voH h p) with
      | true =>
        refine VV.itf (by decide) ?_
        ((repeat (fail_if_success show VV _ _ (4, _, _, _) _); refine VV.s rfl rfl ?_); (try (conv => arg 3; simp only [Nat.reduceAdd, sto1, sto2, isL, cond_true, cond_false, List.drop_succ_cons, List.drop_zero, List.drop_nil])))
        rw [if_pos ⟨by omega, rfl⟩, nI_1, nI_1]
        exact ih (p + 1) (a + 1) (by omega)
      | false =>
        refine VV.itt rfl ?_
        ((repeat (fail_if_success show VV _ _ (4, _, _, _) _); refine VV.s rfl rfl ?_); (try (conv => arg 3; simp only [Nat.reduceAdd, sto1, sto2, isL, cond_true, cond_false, List.drop_succ_cons, List.drop_zero, List.drop_nil])))
        rw [if_neg (by simp), nI_1]
        exact ih (p + 1) a (by omega)
theorem e_rings {u : Sg} {h : Hs} (R : HRep u 1 h) (G : GoodH h) : V 15 (0, [some (.ref 1), none, none], [], u) (is (.int (nI (rgs h (hn h) 0 0))) u) := by
  ((repeat (fail_if_success show VV _ _ (4, _, _, _) _); refine VV.s rfl rfl ?_); (try (conv => arg 3; simp only [Nat.reduceAdd, sto1, sto2, isL, cond_true, cond_false, List.drop_succ_cons, List.drop_zero, List.drop_nil])))
  exact e_rings_loop R G (hn h) 0 0 (by omega)
