/-! ===== a house of the class: what is read, by loops ===== -/
theorem nI_ne1 {v : Nat} (h : v < 2 ^ 31) : ¬ nI v = -1 := by
  intro z
  have := congrArg Int32.toInt z
  rw [nI_toInt h] at this
  exact absurd this (by have : (-1 : Int32).toInt = -1 := rfl; omega)
/-- the least fit, as p + 1 -/
def wst (fn : Nat → Nat) : Nat → Nat → Nat → Nat
  | 0, _, w => w
  | k + 1, i, w => wst fn k (i + 1) (if w = 0 ∨ fn i < fn (w - 1) then i + 1 else w)
set_option maxHeartbeats 4000000 in
theorem e_leastFit_loop {u : Sg} {h : Hs} (R : HRep u 1 h) (G : GoodH h) : ∀ k i w, i + k = hn h → w ≤ i → V 13 (4, [some (.ref 1), some (.int (cI w)), some (.int (nI i))], [], u) (is (.int (cI (wst (fnH h) k i w))) u) := by
  have hN := R.1.1
  have h6 := G.1.1
  have hf := fun p hp => e_fitNow (Or.inl rfl) R G (p := p) hp
  intro k
  induction k with
  | zero =>
    intro i w hi hw
    ((repeat refine VV.s rfl rfl ?_); (try (conv => arg 3; simp only [Nat.reduceAdd, sto1, sto2, isL, cond_true, cond_false, List.drop_succ_cons, List.drop_zero, List.drop_nil])))
    refine VV.itt (by rw [hN]; exact nI_le (by omega) (by omega)) ?_
    ((repeat refine VV.s rfl rfl ?_); (try (conv => arg 3; simp only [Nat.reduceAdd, sto1, sto2, isL, cond_true, cond_false, List.drop_succ_cons, List.drop_zero, List.drop_nil])))
    exact VV.ret1 rfl ⟨rfl, rfl⟩
  | succ k ih =>
    intro i w hi hw
    ((repeat refine VV.s rfl rfl ?_); (try (conv => arg 3; simp only [Nat.reduceAdd, sto1, sto2, isL, cond_true, cond_false, List.drop_succ_cons, List.drop_zero, List.drop_nil])))
    refine VV.itf (by rw [hN]; exact nI_ge (by omega) (by omega)) ?_
    ((repeat refine VV.s rfl rfl ?_); (try (conv => arg 3; simp only [Nat.reduceAdd, sto1, sto2, isL, cond_true, cond_false, List.drop_succ_cons, List.drop_zero, List.drop_nil])))
    rw [wst]
    cases w with
    | zero =>
      refine VV.itt cI_0 ?_
      ((repeat (fail_if_success show VV _ _ (4, _, _, _) _); refine VV.s rfl rfl ?_); (try (conv => arg 3; simp only [Nat.reduceAdd, sto1, sto2, isL, cond_true, cond_false, List.drop_succ_cons, List.drop_zero, List.drop_nil])))
      rw [if_pos (Or.inl rfl), nI_1, ← cI_s]
      exact ih (i + 1) (i + 1) (by omega) (by omega)
    | succ w =>
      rw [cI_s]
      refine VV.itf (nI_ne1 (by omega)) ?_
      ((repeat refine VV.s rfl rfl ?_); (try (conv => arg 3; simp only [Nat.reduceAdd, sto1, sto2, isL, cond_true, cond_false, List.drop_succ_cons, List.drop_zero, List.drop_nil])))
      refine VV.callE rfl rfl rfl rfl (hf i (by omega)) rfl ?_
      ((repeat refine VV.s rfl rfl ?_); (try (conv => arg 3; simp only [Nat.reduceAdd, sto1, sto2, isL, cond_true, cond_false, List.drop_succ_cons, List.drop_zero, List.drop_nil])))
      refine VV.callE rfl rfl rfl rfl (hf w (by omega)) rfl ?_
      ((repeat refine VV.s rfl rfl ?_); (try (conv => arg 3; simp only [Nat.reduceAdd, sto1, sto2, isL, cond_true, cond_false, List.drop_succ_cons, List.drop_zero, List.drop_nil])))
      have l1 := fnH_le h i
      have l2 := fnH_le h w
      refine VV.ite (fun q => ?_) (fun q => ?_)
      · rw [le_nI (by omega) (by omega)] at q
        ((repeat (fail_if_success show VV _ _ (4, _, _, _) _); refine VV.s rfl rfl ?_); (try (conv => arg 3; simp only [Nat.reduceAdd, sto1, sto2, isL, cond_true, cond_false, List.drop_succ_cons, List.drop_zero, List.drop_nil])))
        rw [if_neg (by simp; omega), nI_1, ← cI_s]
        exact ih (i + 1) (w + 1) (by omega) (by omega)
      · rw [le_nI (by omega) (by omega)] at q
        ((repeat (fail_if_success show VV _ _ (4, _, _, _) _); refine VV.s rfl rfl ?_); (try (conv => arg 3; simp only [Nat.reduceAdd, sto1, sto2, isL, cond_true, cond_false, List.drop_succ_cons, List.drop_zero, List.drop_nil])))
        rw [if_pos (Or.inr (by simp; omega)), nI_1, ← cI_s]
        exact ih (i + 1) (i + 1) (by omega) (by omega)
def wstH (h : Hs) : Nat := wst (fnH h) (hn h) 0 0
theorem e_leastFit {u : Sg} {h : Hs} (R : HRep u 1 h) (G : GoodH h) : V 13 (0, [some (.ref 1), none, none], [], u) (is (.int (cI (wstH h))) u) := by
  ((repeat (fail_if_success show VV _ _ (4, _, _, _) _); refine VV.s rfl rfl ?_); (try (conv => arg 3; simp only [Nat.reduceAdd, sto1, sto2, isL, cond_true, cond_false, List.drop_succ_cons, List.drop_zero, List.drop_nil])))
  exact e_leastFit_loop R G (hn h) 0 0 (by omega) (by omega)
theorem wst_le (fn : Nat → Nat) : ∀ k i w, w ≤ i → wst fn k i w ≤ i + k
  | 0, i, w, h => by rw [wst]; omega
  | k + 1, i, w, h => by
    rw [wst]
    have := wst_le fn k (i + 1) (if w = 0 ∨ fn i < fn (w - 1) then i + 1 else w) (by split <;> omega)
    omega
theorem wstH_le (h : Hs) : wstH h ≤ hn h := by
  have := wst_le (fnH h) (hn h) 0 0 (by omega)
  unfold wstH; omega
/-- both would rather have the other one's -/
def swP (h : Hs) (i j : Nat) : Bool := match voH h i, voH h j with
  | a + 1, b + 1 => decide (ftH h i a < ftH h i b ∧ ftH h j b < ftH h j a)
  | _, _ => false
set_option maxHeartbeats 4000000 in
theorem e_both {b : Nat} (hb : b = 1 ∨ b = 10) {u : Sg} {h : Hs} (R : HRep u b h) (G : GoodH h) {i j : Nat} (hi : i < hn h) (hj : j < hn h) : V 17 (0, [some (.ref b), some (.int (nI i)), some (.int (nI j)), none, none], [], u) (is (.int (if swP h i j then 1 else 0)) u) := by
  have h6 := G.1.1
  have v1 := e_voiceWith hb R G (p := i) (by omega)
  have v2 := e_voiceWith hb R G (p := j) (by omega)
  have hf := fun p v hp hv => e_fitWith hb R G (p := p) (v := v) hp hv
  have x1 := voH_spec h i
  have x2 := voH_spec h j
  rcases hb with rfl | rfl
  all_goals
    ((repeat refine VV.s rfl rfl ?_); (try (conv => arg 3; simp only [Nat.reduceAdd, sto1, sto2, isL, cond_true, cond_false, List.drop_succ_cons, List.drop_zero, List.drop_nil])))
    refine VV.callE rfl rfl rfl rfl v1 rfl ?_
    ((repeat refine VV.s rfl rfl ?_); (try (conv => arg 3; simp only [Nat.reduceAdd, sto1, sto2, isL, cond_true, cond_false, List.drop_succ_cons, List.drop_zero, List.drop_nil])))
    refine VV.callE rfl rfl rfl rfl v2 rfl ?_
    ((repeat refine VV.s rfl rfl ?_); (try (conv => arg 3; simp only [Nat.reduceAdd, sto1, sto2, isL, cond_true, cond_false, List.drop_succ_cons, List.drop_zero, List.drop_nil])))
    unfold swP
    rcases x1 with ⟨a1, -⟩ | ⟨a, ha, a1, -⟩
    · rw [a1]
      refine VV.itt cI_0 ?_
      ((repeat refine VV.s rfl rfl ?_); (try (conv => arg 3; simp only [Nat.reduceAdd, sto1, sto2, isL, cond_true, cond_false, List.drop_succ_cons, List.drop_zero, List.drop_nil])))
      exact VV.ret3 rfl (Or.inl rfl) ⟨rfl, rfl⟩
    · rw [a1, cI_s]
      refine VV.itf (nI_ne1 (by omega)) ?_
      ((repeat refine VV.s rfl rfl ?_); (try (conv => arg 3; simp only [Nat.reduceAdd, sto1, sto2, isL, cond_true, cond_false, List.drop_succ_cons, List.drop_zero, List.drop_nil])))
      rcases x2 with ⟨b1, -⟩ | ⟨c, hc, b1, -⟩
      · rw [b1]
        refine VV.itt cI_0 ?_
        ((repeat refine VV.s rfl rfl ?_); (try (conv => arg 3; simp only [Nat.reduceAdd, sto1, sto2, isL, cond_true, cond_false, List.drop_succ_cons, List.drop_zero, List.drop_nil])))
        exact VV.ret3 rfl (Or.inl rfl) ⟨rfl, rfl⟩
      · rw [b1, cI_s]
        refine VV.itf (nI_ne1 (by omega)) ?_
        ((repeat refine VV.s rfl rfl ?_); (try (conv => arg 3; simp only [Nat.reduceAdd, sto1, sto2, isL, cond_true, cond_false, List.drop_succ_cons, List.drop_zero, List.drop_nil])))
        refine VV.callE rfl rfl rfl rfl (hf i c hi hc) rfl ?_
        ((repeat refine VV.s rfl rfl ?_); (try (conv => arg 3; simp only [Nat.reduceAdd, sto1, sto2, isL, cond_true, cond_false, List.drop_succ_cons, List.drop_zero, List.drop_nil])))
        refine VV.callE rfl rfl rfl rfl (hf i a hi ha) rfl ?_
        ((repeat refine VV.s rfl rfl ?_); (try (conv => arg 3; simp only [Nat.reduceAdd, sto1, sto2, isL, cond_true, cond_false, List.drop_succ_cons, List.drop_zero, List.drop_nil])))
        have l1 := ftH_le h i c
        have l2 := ftH_le h i a
        have l3 := ftH_le h j a
        have l4 := ftH_le h j c
        refine VV.ite (fun q => ?_) (fun q => ?_)
        · rw [le_nI (by omega) (by omega)] at q
          ((repeat refine VV.s rfl rfl ?_); (try (conv => arg 3; simp only [Nat.reduceAdd, sto1, sto2, isL, cond_true, cond_false, List.drop_succ_cons, List.drop_zero, List.drop_nil])))
          refine VV.ret3 rfl (Or.inl rfl) ⟨?_, rfl⟩
          rw [if_neg (by simp; omega)]
        · rw [le_nI (by omega) (by omega)] at q
          ((repeat refine VV.s rfl rfl ?_); (try (conv => arg 3; simp only [Nat.reduceAdd, sto1, sto2, isL, cond_true, cond_false, List.drop_succ_cons, List.drop_zero, List.drop_nil])))
          refine VV.callE rfl rfl rfl rfl (hf j a hj ha) rfl ?_
          ((repeat refine VV.s rfl rfl ?_); (try (conv => arg 3; simp only [Nat.reduceAdd, sto1, sto2, isL, cond_true, cond_false, List.drop_succ_cons, List.drop_zero, List.drop_nil])))
          refine VV.callE rfl rfl rfl rfl (hf j c hj hc) rfl ?_
          ((repeat refine VV.s rfl rfl ?_); (try (conv => arg 3; simp only [Nat.reduceAdd, sto1, sto2, isL, cond_true, cond_false, List.drop_succ_cons, List.drop_zero, List.drop_nil])))
          refine VV.ite (fun q2 => ?_) (fun q2 => ?_)
          · rw [le_nI (by omega) (by omega)] at q2
            ((repeat refine VV.s rfl rfl ?_); (try (conv => arg 3; simp only [Nat.reduceAdd, sto1, sto2, isL, cond_true, cond_false, List.drop_succ_cons, List.drop_zero, List.drop_nil])))
            refine VV.ret3 rfl (Or.inl rfl) ⟨?_, rfl⟩
            rw [if_neg (by simp; omega)]
          · rw [le_nI (by omega) (by omega)] at q2
            ((repeat refine VV.s rfl rfl ?_); (try (conv => arg 3; simp only [Nat.reduceAdd, sto1, sto2, isL, cond_true, cond_false, List.drop_succ_cons, List.drop_zero, List.drop_nil])))
            refine VV.ret3 rfl (Or.inr rfl) ⟨?_, rfl⟩
            rw [if_pos (by simp; omega)]
/-- the swaps, in order, as 10 i + j -/
def swJ (h : Hs) (i : Nat) : Nat → Nat → List Nat
  | 0, _ => []
  | k + 1, j => if swP h i j then (10 * i + j) :: swJ h i k (j + 1) else swJ h i k (j + 1)
def swI (h : Hs) : Nat → Nat → List Nat
  | 0, _ => []
  | k + 1, i => swJ h i (hn h - (i + 1)) (i + 1) ++ swI h k (i + 1)
def swapL (h : Hs) : List Nat := swI h (hn h) 0
theorem ten_nI (i j : Nat) : (10 : Int32) * nI i + nI j = nI (10 * i + j) := by
  have e : (10 : Int32) = nI 10 := rfl
  rw [e, pk_mul, nI_add]
set_option maxHeartbeats 4000000 in
theorem e_swCount_in {u : Sg} {h : Hs} (R : HRep u 1 h) (G : GoodH h) {i a : Nat} (hi : i < hn h) {Q : Option Value → Sg → Prop} (K : ∀ d, V 18 (42, [some (.ref 1), some (.int (nI (a + (swJ h i (hn h - (i + 1)) (i + 1)).length))), some (.int (nI i)), d], [], u) Q) : ∀ k j c, j + k = hn h → c + (swJ h i k j).length = a + (swJ h i (hn h - (i + 1)) (i + 1)).length → V 18 (16, [some (.ref 1), some (.int (nI c)), some (.int (nI i)), some (.int (nI j))], [], u) Q := by
  have hN := R.1.1
  have h6 := G.1.1
  intro k
  induction k with
  | zero =>
    intro j c hj hc
    ((repeat refine VV.s rfl rfl ?_); (try (conv => arg 3; simp only [Nat.reduceAdd, sto1, sto2, isL, cond_true, cond_false, List.drop_succ_cons, List.drop_zero, List.drop_nil])))
    refine VV.itt (by rw [hN]; exact nI_le (by omega) (by omega)) ?_
    have hc : c = a + (swJ h i (hn h - (i + 1)) (i + 1)).length := hc
    rw [hc]
    exact K _
  | succ k ih =>
    intro j c hj hc
    ((repeat refine VV.s rfl rfl ?_); (try (conv => arg 3; simp only [Nat.reduceAdd, sto1, sto2, isL, cond_true, cond_false, List.drop_succ_cons, List.drop_zero, List.drop_nil])))
    refine VV.itf (by rw [hN]; exact nI_ge (by omega) (by omega)) ?_
    ((repeat refine VV.s rfl rfl ?_); (try (conv => arg 3; simp only [Nat.reduceAdd, sto1, sto2, isL, cond_true, cond_false, List.drop_succ_cons, List.drop_zero, List.drop_nil])))
    refine VV.callE rfl rfl rfl rfl (e_both (Or.inl rfl) R G hi (show j < hn h by omega)) rfl ?_
    ((repeat refine VV.s rfl rfl ?_); (try (conv => arg 3; simp only [Nat.reduceAdd, sto1, sto2, isL, cond_true, cond_false, List.drop_succ_cons, List.drop_zero, List.drop_nil])))
    rw [swJ] at hc
    cases hs : swP h i j with
    | true =>
      rw [hs] at hc
      refine VV.itf (by decide) ?_
      ((repeat (fail_if_success show VV _ _ (16, _, _, _) _); refine VV.s rfl rfl ?_); (try (conv => arg 3; simp only [Nat.reduceAdd, sto1, sto2, isL, cond_true, cond_false, List.drop_succ_cons, List.drop_zero, List.drop_nil])))
      rw [nI_1, nI_1]
      exact ih (j + 1) (c + 1) (by omega) (by simp at hc; omega)
    | false =>
      rw [hs] at hc
      refine VV.itt (by decide) ?_
      ((repeat (fail_if_success show VV _ _ (16, _, _, _) _); refine VV.s rfl rfl ?_); (try (conv => arg 3; simp only [Nat.reduceAdd, sto1, sto2, isL, cond_true, cond_false, List.drop_succ_cons, List.drop_zero, List.drop_nil])))
      rw [nI_1]
      exact ih (j + 1) c (by omega) (by simpa using hc)
set_option maxHeartbeats 4000000 in
theorem e_swCount_out {u : Sg} {h : Hs} (R : HRep u 1 h) (G : GoodH h) : ∀ k i c d, i + k = hn h → V 18 (4, [some (.ref 1), some (.int (nI c)), some (.int (nI i)), d], [], u) (is (.int (nI (c + (swI h k i).length))) u) := by
  have hN := R.1.1
  have h6 := G.1.1
  intro k
  induction k with
  | zero =>
    intro i c d hi
    ((repeat refine VV.s rfl rfl ?_); (try (conv => arg 3; simp only [Nat.reduceAdd, sto1, sto2, isL, cond_true, cond_false, List.drop_succ_cons, List.drop_zero, List.drop_nil])))
    refine VV.itt (by rw [hN]; exact nI_le (by omega) (by omega)) ?_
    ((repeat refine VV.s rfl rfl ?_); (try (conv => arg 3; simp only [Nat.reduceAdd, sto1, sto2, isL, cond_true, cond_false, List.drop_succ_cons, List.drop_zero, List.drop_nil])))
    exact VV.ret1 rfl ⟨rfl, rfl⟩
  | succ k ih =>
    intro i c d hi
    ((repeat refine VV.s rfl rfl ?_); (try (conv => arg 3; simp only [Nat.reduceAdd, sto1, sto2, isL, cond_true, cond_false, List.drop_succ_cons, List.drop_zero, List.drop_nil])))
    refine VV.itf (by rw [hN]; exact nI_ge (by omega) (by omega)) ?_
    ((repeat (fail_if_success show VV _ _ (16, _, _, _) _); refine VV.s rfl rfl ?_); (try (conv => arg 3; simp only [Nat.reduceAdd, sto1, sto2, isL, cond_true, cond_false, List.drop_succ_cons, List.drop_zero, List.drop_nil])))
    rw [nI_1, swI, List.length_append, ← Nat.add_assoc]
    refine e_swCount_in R G (a := c) (by omega) (fun d2 => ?_) (hn h - (i + 1)) (i + 1) c (by omega) rfl
    ((repeat (fail_if_success show VV _ _ (4, _, _, _) _); refine VV.s rfl rfl ?_); (try (conv => arg 3; simp only [Nat.reduceAdd, sto1, sto2, isL, cond_true, cond_false, List.drop_succ_cons, List.drop_zero, List.drop_nil])))
    rw [nI_1]
    exact ih (i + 1) _ _ (by omega)
theorem e_howManySwaps {u : Sg} {h : Hs} (R : HRep u 1 h) (G : GoodH h) : V 18 (0, [some (.ref 1), none, none, none], [], u) (is (.int (nI (swapL h).length)) u) := by
  ((repeat (fail_if_success show VV _ _ (4, _, _, _) _); refine VV.s rfl rfl ?_); (try (conv => arg 3; simp only [Nat.reduceAdd, sto1, sto2, isL, cond_true, cond_false, List.drop_succ_cons, List.drop_zero, List.drop_nil])))
  have := e_swCount_out R G (hn h) 0 0 none (by omega)
  rw [Nat.zero_add] at this
  exact this
/-- the k-th of a list, -1: there is none -/
def kth (l : List Nat) (k : Nat) : Int32 := match l[k]? with
  | some c => nI c
  | none => -1
set_option maxHeartbeats 4000000 in
theorem e_swapAt_in {b : Nat} (hb : b = 1 ∨ b = 10) {u : Sg} {h : Hs} (R : HRep u b h) (G : GoodH h) {i x : Nat} (hx : x < 2 ^ 31) (hi : i < hn h) {rest : List Nat} (K : ∀ c d, c ≤ x → V 19 (58, [some (.ref b), some (.int (nI x)), some (.int (nI c)), some (.int (nI i)), d], [], u) (is (.int (kth rest (x - c))) u)) : ∀ k j c, j + k = hn h → c ≤ x → V 19 (17, [some (.ref b), some (.int (nI x)), some (.int (nI c)), some (.int (nI i)), some (.int (nI j))], [], u) (is (.int (kth (swJ h i k j ++ rest) (x - c))) u) := by
  have hN := R.1.1
  have h6 := G.1.1
  have hw := fun j hj => e_both hb R G hi (j := j) hj
  rcases hb with rfl | rfl
  all_goals
    intro k
    induction k with
    | zero =>
      intro j c hj hc
      ((repeat refine VV.s rfl rfl ?_); (try (conv => arg 3; simp only [Nat.reduceAdd, sto1, sto2, isL, cond_true, cond_false, List.drop_succ_cons, List.drop_zero, List.drop_nil])))
      refine VV.itt (by rw [hN]; exact nI_le (by omega) (by omega)) ?_
      exact K c _ hc
    | succ k ih =>
      intro j c hj hc
      ((repeat refine VV.s rfl rfl ?_); (try (conv => arg 3; simp only [Nat.reduceAdd, sto1, sto2, isL, cond_true, cond_false, List.drop_succ_cons, List.drop_zero, List.drop_nil])))
      refine VV.itf (by rw [hN]; exact nI_ge (by omega) (by omega)) ?_
      ((repeat refine VV.s rfl rfl ?_); (try (conv => arg 3; simp only [Nat.reduceAdd, sto1, sto2, isL, cond_true, cond_false, List.drop_succ_cons, List.drop_zero, List.drop_nil])))
      refine VV.callE rfl rfl rfl rfl (hw j (by omega)) rfl ?_
      ((repeat refine VV.s rfl rfl ?_); (try (conv => arg 3; simp only [Nat.reduceAdd, sto1, sto2, isL, cond_true, cond_false, List.drop_succ_cons, List.drop_zero, List.drop_nil])))
      rw [swJ]
      cases hs : swP h i j with
      | true =>
        refine VV.itf (by decide) ?_
        ((repeat refine VV.s rfl rfl ?_); (try (conv => arg 3; simp only [Nat.reduceAdd, sto1, sto2, isL, cond_true, cond_false, List.drop_succ_cons, List.drop_zero, List.drop_nil])))
        rw [if_pos rfl]
        refine VV.ite (fun q => ?_) (fun q => ?_)
        · rw [eq_nI (by omega) hx] at q
          ((repeat (fail_if_success show VV _ _ (17, _, _, _) _); refine VV.s rfl rfl ?_); (try (conv => arg 3; simp only [Nat.reduceAdd, sto1, sto2, isL, cond_true, cond_false, List.drop_succ_cons, List.drop_zero, List.drop_nil])))
          rw [nI_1, nI_1]
          have e : kth ((10 * i + j) :: swJ h i k (j + 1) ++ rest) (x - c) = kth (swJ h i k (j + 1) ++ rest) (x - (c + 1)) := by
            rw [show x - c = (x - (c + 1)) + 1 by omega]
            rfl
          rw [e]
          exact ih (j + 1) (c + 1) (by omega) (by omega)
        · rw [eq_nI (by omega) hx] at q
          have q := Classical.not_not.mp q
          ((repeat refine VV.s rfl rfl ?_); (try (conv => arg 3; simp only [Nat.reduceAdd, sto1, sto2, isL, cond_true, cond_false, List.drop_succ_cons, List.drop_zero, List.drop_nil])))
          refine VV.ret1 rfl ⟨?_, rfl⟩
          rw [q, Nat.sub_self, ten_nI]
          rfl
      | false =>
        refine VV.itt (by decide) ?_
        ((repeat (fail_if_success show VV _ _ (17, _, _, _) _); refine VV.s rfl rfl ?_); (try (conv => arg 3; simp only [Nat.reduceAdd, sto1, sto2, isL, cond_true, cond_false, List.drop_succ_cons, List.drop_zero, List.drop_nil])))
        rw [nI_1, if_neg (by simp)]
        exact ih (j + 1) c (by omega) hc
set_option maxHeartbeats 4000000 in
theorem e_swapAt_out {b : Nat} (hb : b = 1 ∨ b = 10) {u : Sg} {h : Hs} (R : HRep u b h) (G : GoodH h) {x : Nat} (hx : x < 2 ^ 31) : ∀ k i c d, i + k = hn h → c ≤ x → V 19 (4, [some (.ref b), some (.int (nI x)), some (.int (nI c)), some (.int (nI i)), d], [], u) (is (.int (kth (swI h k i) (x - c))) u) := by
  have hN := R.1.1
  have h6 := G.1.1
  have hin := fun i hi rest K => e_swapAt_in hb R G (i := i) hx hi (rest := rest) K
  rcases hb with rfl | rfl
  all_goals
    intro k
    induction k with
    | zero =>
      intro i c d hi hc
      ((repeat refine VV.s rfl rfl ?_); (try (conv => arg 3; simp only [Nat.reduceAdd, sto1, sto2, isL, cond_true, cond_false, List.drop_succ_cons, List.drop_zero, List.drop_nil])))
      refine VV.itt (by rw [hN]; exact nI_le (by omega) (by omega)) ?_
      ((repeat refine VV.s rfl rfl ?_); (try (conv => arg 3; simp only [Nat.reduceAdd, sto1, sto2, isL, cond_true, cond_false, List.drop_succ_cons, List.drop_zero, List.drop_nil])))
      exact VV.ret1 rfl ⟨by simp [swI, kth], rfl⟩
    | succ k ih =>
      intro i c d hi hc
      ((repeat refine VV.s rfl rfl ?_); (try (conv => arg 3; simp only [Nat.reduceAdd, sto1, sto2, isL, cond_true, cond_false, List.drop_succ_cons, List.drop_zero, List.drop_nil])))
      refine VV.itf (by rw [hN]; exact nI_ge (by omega) (by omega)) ?_
      ((repeat (fail_if_success show VV _ _ (17, _, _, _) _); refine VV.s rfl rfl ?_); (try (conv => arg 3; simp only [Nat.reduceAdd, sto1, sto2, isL, cond_true, cond_false, List.drop_succ_cons, List.drop_zero, List.drop_nil])))
      rw [nI_1, swI]
      refine hin i (by omega) (swI h k (i + 1)) (fun c2 d2 hc2 => ?_) (hn h - (i + 1)) (i + 1) c (by omega) hc
      ((repeat (fail_if_success show VV _ _ (4, _, _, _) _); refine VV.s rfl rfl ?_); (try (conv => arg 3; simp only [Nat.reduceAdd, sto1, sto2, isL, cond_true, cond_false, List.drop_succ_cons, List.drop_zero, List.drop_nil])))
      rw [nI_1]
      exact ih (i + 1) c2 _ (by omega) hc2
theorem e_swapAt {b : Nat} (hb : b = 1 ∨ b = 10) {u : Sg} {h : Hs} (R : HRep u b h) (G : GoodH h) {x : Nat} (hx : x < 2 ^ 31) : V 19 (0, [some (.ref b), some (.int (nI x)), none, none, none], [], u) (is (.int (kth (swapL h) x)) u) := by
  refine VV.s rfl rfl ?_
  refine VV.s rfl rfl ?_
  refine VV.s rfl rfl ?_
  refine VV.s rfl rfl ?_
  exact e_swapAt_out hb R G hx (hn h) 0 0 none (by omega) (by omega)
