/-! ===== the reference: asking, Lents, the fraction, status, counts, the digest ===== -/
section M7
variable {u : Sg} {z : Zs}
set_option maxHeartbeats 16000000 in
theorem m_asks_it (C : MInv u z) (G : GoodH z.1) {a b v i : Nat} (ha : a < hn z.1) (hb : b < hn z.1) (hv : v < hn z.1) (hne : a ≠ b) (hi : i < 4) {x y : Bool} {bs : Int32} {d8 : Option Value} {Q : Option Value → Sg → Prop} (K : ∀ d6 d7 d8, V 167 (55, [some (.ref 41), some (.int (nI a)), some (.int (nI b)), some (.int (nI v)), some (.int (if rst2 z.1 a b v x y then bs ||| (1 <<< (nI i &&& 31)) else bs)), some (.int (nI (i + 1))), d6, d7, d8], [], u) Q) : V 167 (89, [some (.ref 41), some (.int (nI a)), some (.int (nI b)), some (.int (nI v)), some (.int bs), some (.int (nI i)), some (.int (b01 x)), some (.int (b01 y)), d8], [], u) Q := by
  have h6 := G.1.1
  have g1 := gt_cnt z.1 a b v x y hne
  have g2 := gt_cnt z.1 b a v y x (Ne.symm hne)
  have tail : V 167 (198, [some (.ref 41), some (.int (nI a)), some (.int (nI b)), some (.int (nI v)), some (.int bs), some (.int (nI i)), some (.int (b01 x)), some (.int (b01 y)), some (.int (b01 (rst2 z.1 a b v x y)))], [], u) Q := by
    refine VV.s rfl rfl ?_
    refine VV.s rfl rfl ?_
    refine VV.s rfl rfl ?_
    have k2 := K (some (.int (b01 x))) (some (.int (b01 y))) (some (.int (b01 (rst2 z.1 a b v x y))))
    cases hr : rst2 z.1 a b v x y with
    | true =>
      rw [hr] at k2
      refine VV.itf (by decide) ?_
      ((repeat (fail_if_success show VV _ _ (55, _, _, _) _); refine VV.s rfl rfl ?_); (try (conv => arg 3; simp only [Nat.reduceAdd, sto1, sto2, isL, cond_true, cond_false, List.drop_succ_cons, List.drop_zero, List.drop_nil])))
      rw [nI_1]
      exact k2
    | false =>
      rw [hr] at k2
      refine VV.itt rfl ?_
      ((repeat (fail_if_success show VV _ _ (55, _, _, _) _); refine VV.s rfl rfl ?_); (try (conv => arg 3; simp only [Nat.reduceAdd, sto1, sto2, isL, cond_true, cond_false, List.drop_succ_cons, List.drop_zero, List.drop_nil])))
      rw [nI_1, or0]
      exact k2
  have no : rst2 z.1 a b v x y = false → ∀ d8, V 167 (195, [some (.ref 41), some (.int (nI a)), some (.int (nI b)), some (.int (nI v)), some (.int bs), some (.int (nI i)), some (.int (b01 x)), some (.int (b01 y)), d8], [], u) Q := by
    intro hr d8
    rw [hr] at tail
    ((repeat (fail_if_success show VV _ _ (198, _, _, _) _); refine VV.s rfl rfl ?_); (try (conv => arg 3; simp only [Nat.reduceAdd, sto1, sto2, isL, cond_true, cond_false, List.drop_succ_cons, List.drop_zero, List.drop_nil])))
    exact tail
  have yes : rst2 z.1 a b v x y = true → ∀ d8, V 167 (191, [some (.ref 41), some (.int (nI a)), some (.int (nI b)), some (.int (nI v)), some (.int bs), some (.int (nI i)), some (.int (b01 x)), some (.int (b01 y)), d8], [], u) Q := by
    intro hr d8
    rw [hr] at tail
    ((repeat (fail_if_success show VV _ _ (198, _, _, _) _); refine VV.s rfl rfl ?_); (try (conv => arg 3; simp only [Nat.reduceAdd, sto1, sto2, isL, cond_true, cond_false, List.drop_succ_cons, List.drop_zero, List.drop_nil])))
    exact tail
  have fab : ∀ (p q : Nat), p < hn z.1 → q < hn z.1 → p ≠ q → (nI q ≤ nI p ∧ decide (p < q) = false) ∨ (¬ nI q ≤ nI p ∧ decide (p < q) = true) := by
    intro p q hp hq hpq
    rcases Nat.lt_or_gt_of_ne hpq with c | c
    · exact Or.inr ⟨nI_ge c (by omega), by simp [c]⟩
    · exact Or.inl ⟨nI_le (by omega) (by omega), by simp; omega⟩
  have bn : ∀ w : Bool, (¬ b01 w = 0) = (w = true) := by intro w; cases w <;> simp [b01]
  have nb : ∀ w : Bool, (if w = true then (0 : Int32) else 1) = b01 (!w) := by intro w; cases w <;> rfl
  have part1 : ∀ (S : List Value) (Q' : Option Value → Sg → Prop), True → True := fun _ _ _ => trivial
  -- first pair of answers
  have p1 : V 167 (137, [some (.ref 41), some (.int (nI a)), some (.int (nI b)), some (.int (nI v)), some (.int bs), some (.int (nI i)), some (.int (b01 x)), some (.int (b01 y)), d8], [.int (gtA z.1 a v (!x) y (decide (a < b))), .int (gtA z.1 a v x y (decide (a < b)))], u) Q := by
    have p2 : V 167 (188, [some (.ref 41), some (.int (nI a)), some (.int (nI b)), some (.int (nI v)), some (.int bs), some (.int (nI i)), some (.int (b01 x)), some (.int (b01 y)), d8], [.int (gtA z.1 b v (!y) x (decide (b < a))), .int (gtA z.1 b v y x (decide (b < a)))], u) Q ∨ cnt x (byA z.1 v a b y) (fnH z.1 a) = false := by
      cases hc : cnt x (byA z.1 v a b y) (fnH z.1 a) with
      | false => exact Or.inr rfl
      | true =>
        left
        ((repeat refine VV.s rfl rfl ?_); (try (conv => arg 3; simp only [Nat.reduceAdd, sto1, sto2, isL, cond_true, cond_false, List.drop_succ_cons, List.drop_zero, List.drop_nil])))
        refine VV.ite (fun q => ?_) (fun q => ?_)
        · rw [g2] at q
          exact no (by unfold rst2; rw [hc]; simpa using q) _
        · rw [g2] at q
          exact yes (by unfold rst2; rw [hc]; simpa using q) _
    refine VV.s rfl rfl ?_
    rcases p2 with p2 | p2
    · refine VV.ite (fun q => ?_) (fun q => ?_)
      · rw [g1] at q
        exact no (by unfold rst2; simp [q]) _
      · rcases fab b a hb ha (Ne.symm hne) with ⟨c1, c2⟩ | ⟨c1, c2⟩
        · ((repeat refine VV.s rfl rfl ?_); (try (conv => arg 3; simp only [Nat.reduceAdd, sto1, sto2, isL, cond_true, cond_false, List.drop_succ_cons, List.drop_zero, List.drop_nil])))
          refine VV.itt c1 ?_
          ((repeat refine VV.s rfl rfl ?_); (try (conv => arg 3; simp only [Nat.reduceAdd, sto1, sto2, isL, cond_true, cond_false, List.drop_succ_cons, List.drop_zero, List.drop_nil])))
          refine VV.callE rfl rfl rfl rfl (f_gets C.1 G (a := y) (o := x) (f := false) hb hv) rfl ?_
          ((repeat refine VV.s rfl rfl ?_); (try (conv => arg 3; simp only [Nat.reduceAdd, sto1, sto2, isL, cond_true, cond_false, List.drop_succ_cons, List.drop_zero, List.drop_nil])))
          rw [c2] at p2
          cases y with
          | true =>
            refine VV.itt (by decide) ?_
            ((repeat refine VV.s rfl rfl ?_); (try (conv => arg 3; simp only [Nat.reduceAdd, sto1, sto2, isL, cond_true, cond_false, List.drop_succ_cons, List.drop_zero, List.drop_nil])))
            refine VV.itt c1 ?_
            ((repeat refine VV.s rfl rfl ?_); (try (conv => arg 3; simp only [Nat.reduceAdd, sto1, sto2, isL, cond_true, cond_false, List.drop_succ_cons, List.drop_zero, List.drop_nil])))
            refine VV.callE rfl rfl rfl rfl (f_gets C.1 G (a := false) (o := x) (f := false) hb hv) rfl ?_
            exact p2
          | false =>
            refine VV.itf (fun q => q rfl) ?_
            ((repeat refine VV.s rfl rfl ?_); (try (conv => arg 3; simp only [Nat.reduceAdd, sto1, sto2, isL, cond_true, cond_false, List.drop_succ_cons, List.drop_zero, List.drop_nil])))
            refine VV.itt c1 ?_
            ((repeat refine VV.s rfl rfl ?_); (try (conv => arg 3; simp only [Nat.reduceAdd, sto1, sto2, isL, cond_true, cond_false, List.drop_succ_cons, List.drop_zero, List.drop_nil])))
            refine VV.callE rfl rfl rfl rfl (f_gets C.1 G (a := true) (o := x) (f := false) hb hv) rfl ?_
            exact p2
        · ((repeat refine VV.s rfl rfl ?_); (try (conv => arg 3; simp only [Nat.reduceAdd, sto1, sto2, isL, cond_true, cond_false, List.drop_succ_cons, List.drop_zero, List.drop_nil])))
          refine VV.itf c1 ?_
          ((repeat refine VV.s rfl rfl ?_); (try (conv => arg 3; simp only [Nat.reduceAdd, sto1, sto2, isL, cond_true, cond_false, List.drop_succ_cons, List.drop_zero, List.drop_nil])))
          refine VV.callE rfl rfl rfl rfl (f_gets C.1 G (a := y) (o := x) (f := true) hb hv) rfl ?_
          ((repeat refine VV.s rfl rfl ?_); (try (conv => arg 3; simp only [Nat.reduceAdd, sto1, sto2, isL, cond_true, cond_false, List.drop_succ_cons, List.drop_zero, List.drop_nil])))
          rw [c2] at p2
          cases y with
          | true =>
            refine VV.itt (by decide) ?_
            ((repeat refine VV.s rfl rfl ?_); (try (conv => arg 3; simp only [Nat.reduceAdd, sto1, sto2, isL, cond_true, cond_false, List.drop_succ_cons, List.drop_zero, List.drop_nil])))
            refine VV.itf c1 ?_
            ((repeat refine VV.s rfl rfl ?_); (try (conv => arg 3; simp only [Nat.reduceAdd, sto1, sto2, isL, cond_true, cond_false, List.drop_succ_cons, List.drop_zero, List.drop_nil])))
            refine VV.callE rfl rfl rfl rfl (f_gets C.1 G (a := false) (o := x) (f := true) hb hv) rfl ?_
            exact p2
          | false =>
            refine VV.itf (fun q => q rfl) ?_
            ((repeat refine VV.s rfl rfl ?_); (try (conv => arg 3; simp only [Nat.reduceAdd, sto1, sto2, isL, cond_true, cond_false, List.drop_succ_cons, List.drop_zero, List.drop_nil])))
            refine VV.itf c1 ?_
            ((repeat refine VV.s rfl rfl ?_); (try (conv => arg 3; simp only [Nat.reduceAdd, sto1, sto2, isL, cond_true, cond_false, List.drop_succ_cons, List.drop_zero, List.drop_nil])))
            refine VV.callE rfl rfl rfl rfl (f_gets C.1 G (a := true) (o := x) (f := true) hb hv) rfl ?_
            exact p2
    · refine VV.itt (by rw [g1, p2]; decide) ?_
      exact no (by unfold rst2; rw [p2]; rfl) _
  rcases fab a b ha hb hne with ⟨c1, c2⟩ | ⟨c1, c2⟩
  · rw [c2] at p1
    ((repeat refine VV.s rfl rfl ?_); (try (conv => arg 3; simp only [Nat.reduceAdd, sto1, sto2, isL, cond_true, cond_false, List.drop_succ_cons, List.drop_zero, List.drop_nil])))
    refine VV.itt c1 ?_
    ((repeat refine VV.s rfl rfl ?_); (try (conv => arg 3; simp only [Nat.reduceAdd, sto1, sto2, isL, cond_true, cond_false, List.drop_succ_cons, List.drop_zero, List.drop_nil])))
    refine VV.callE rfl rfl rfl rfl (f_gets C.1 G (a := x) (o := y) (f := false) ha hv) rfl ?_
    ((repeat refine VV.s rfl rfl ?_); (try (conv => arg 3; simp only [Nat.reduceAdd, sto1, sto2, isL, cond_true, cond_false, List.drop_succ_cons, List.drop_zero, List.drop_nil])))
    cases x with
    | true =>
      refine VV.itt (by decide) ?_
      ((repeat refine VV.s rfl rfl ?_); (try (conv => arg 3; simp only [Nat.reduceAdd, sto1, sto2, isL, cond_true, cond_false, List.drop_succ_cons, List.drop_zero, List.drop_nil])))
      refine VV.itt c1 ?_
      ((repeat refine VV.s rfl rfl ?_); (try (conv => arg 3; simp only [Nat.reduceAdd, sto1, sto2, isL, cond_true, cond_false, List.drop_succ_cons, List.drop_zero, List.drop_nil])))
      refine VV.callE rfl rfl rfl rfl (f_gets C.1 G (a := false) (o := y) (f := false) ha hv) rfl ?_
      exact p1
    | false =>
      refine VV.itf (fun q => q rfl) ?_
      ((repeat refine VV.s rfl rfl ?_); (try (conv => arg 3; simp only [Nat.reduceAdd, sto1, sto2, isL, cond_true, cond_false, List.drop_succ_cons, List.drop_zero, List.drop_nil])))
      refine VV.itt c1 ?_
      ((repeat refine VV.s rfl rfl ?_); (try (conv => arg 3; simp only [Nat.reduceAdd, sto1, sto2, isL, cond_true, cond_false, List.drop_succ_cons, List.drop_zero, List.drop_nil])))
      refine VV.callE rfl rfl rfl rfl (f_gets C.1 G (a := true) (o := y) (f := false) ha hv) rfl ?_
      exact p1
  · rw [c2] at p1
    ((repeat refine VV.s rfl rfl ?_); (try (conv => arg 3; simp only [Nat.reduceAdd, sto1, sto2, isL, cond_true, cond_false, List.drop_succ_cons, List.drop_zero, List.drop_nil])))
    refine VV.itf c1 ?_
    ((repeat refine VV.s rfl rfl ?_); (try (conv => arg 3; simp only [Nat.reduceAdd, sto1, sto2, isL, cond_true, cond_false, List.drop_succ_cons, List.drop_zero, List.drop_nil])))
    refine VV.callE rfl rfl rfl rfl (f_gets C.1 G (a := x) (o := y) (f := true) ha hv) rfl ?_
    ((repeat refine VV.s rfl rfl ?_); (try (conv => arg 3; simp only [Nat.reduceAdd, sto1, sto2, isL, cond_true, cond_false, List.drop_succ_cons, List.drop_zero, List.drop_nil])))
    cases x with
    | true =>
      refine VV.itt (by decide) ?_
      ((repeat refine VV.s rfl rfl ?_); (try (conv => arg 3; simp only [Nat.reduceAdd, sto1, sto2, isL, cond_true, cond_false, List.drop_succ_cons, List.drop_zero, List.drop_nil])))
      refine VV.itf c1 ?_
      ((repeat refine VV.s rfl rfl ?_); (try (conv => arg 3; simp only [Nat.reduceAdd, sto1, sto2, isL, cond_true, cond_false, List.drop_succ_cons, List.drop_zero, List.drop_nil])))
      refine VV.callE rfl rfl rfl rfl (f_gets C.1 G (a := false) (o := y) (f := true) ha hv) rfl ?_
      exact p1
    | false =>
      refine VV.itf (fun q => q rfl) ?_
      ((repeat refine VV.s rfl rfl ?_); (try (conv => arg 3; simp only [Nat.reduceAdd, sto1, sto2, isL, cond_true, cond_false, List.drop_succ_cons, List.drop_zero, List.drop_nil])))
      refine VV.itf c1 ?_
      ((repeat refine VV.s rfl rfl ?_); (try (conv => arg 3; simp only [Nat.reduceAdd, sto1, sto2, isL, cond_true, cond_false, List.drop_succ_cons, List.drop_zero, List.drop_nil])))
      refine VV.callE rfl rfl rfl rfl (f_gets C.1 G (a := true) (o := y) (f := true) ha hv) rfl ?_
      exact p1
set_option maxHeartbeats 4000000 in
theorem m_asks_loop (C : MInv u z) (G : GoodH z.1) {a b v : Nat} (ha : a < hn z.1) (hb : b < hn z.1) (hv : v < hn z.1) (hne : a ≠ b) : ∀ k i bs d6 d7 d8, i + k = 4 → V 167 (55, [some (.ref 41), some (.int (nI a)), some (.int (nI b)), some (.int (nI v)), some (.int bs), some (.int (nI i)), d6, d7, d8], [], u) (is (.int (bts (rst z.1 a b v) k i bs)) u) := by
  intro k
  induction k with
  | zero =>
    intro i bs d6 d7 d8 hi
    ((repeat refine VV.s rfl rfl ?_); (try (conv => arg 3; simp only [Nat.reduceAdd, sto1, sto2, isL, cond_true, cond_false, List.drop_succ_cons, List.drop_zero, List.drop_nil])))
    refine VV.itt (nI_le (a := 4) (by omega) (by omega)) ?_
    ((repeat refine VV.s rfl rfl ?_); (try (conv => arg 3; simp only [Nat.reduceAdd, sto1, sto2, isL, cond_true, cond_false, List.drop_succ_cons, List.drop_zero, List.drop_nil])))
    exact VV.ret1 rfl ⟨rfl, rfl⟩
  | succ k ih =>
    intro i bs d6 d7 d8 hi
    have it := fun x y d8 (K : ∀ d6 d7 d8, V 167 (55, [some (.ref 41), some (.int (nI a)), some (.int (nI b)), some (.int (nI v)), some (.int (if rst2 z.1 a b v x y then bs ||| (1 <<< (nI i &&& 31)) else bs)), some (.int (nI (i + 1))), d6, d7, d8], [], u) (is (.int (bts (rst z.1 a b v) (k + 1) i bs)) u)) => m_asks_it C G ha hb hv hne (show i < 4 by omega) (x := x) (y := y) (bs := bs) (d8 := d8) K
    have go : ∀ d6 d7 d8, V 167 (55, [some (.ref 41), some (.int (nI a)), some (.int (nI b)), some (.int (nI v)), some (.int (if rst z.1 a b v i then bs ||| (1 <<< (nI i &&& 31)) else bs)), some (.int (nI (i + 1))), d6, d7, d8], [], u) (is (.int (bts (rst z.1 a b v) (k + 1) i bs)) u) := fun d6 d7 d8 => by
      rw [bts]
      exact ih (i + 1) _ _ _ _ (by omega)
    ((repeat refine VV.s rfl rfl ?_); (try (conv => arg 3; simp only [Nat.reduceAdd, sto1, sto2, isL, cond_true, cond_false, List.drop_succ_cons, List.drop_zero, List.drop_nil])))
    refine VV.itf (nI_ge (b := 4) (by omega) (by omega)) ?_
    ((repeat (fail_if_success show VV _ _ (64, _, _, _) _); refine VV.s rfl rfl ?_); (try (conv => arg 3; simp only [Nat.reduceAdd, sto1, sto2, isL, cond_true, cond_false, List.drop_succ_cons, List.drop_zero, List.drop_nil])))
    refine VV.irem rfl (by decide) ?_
    have e : nI i - nI i / 2 * 2 = nI (i % 2) := pk_rem (d := 2) (by omega) (by omega) (by omega)
    rw [e]
    ((repeat refine VV.s rfl rfl ?_); (try (conv => arg 3; simp only [Nat.reduceAdd, sto1, sto2, isL, cond_true, cond_false, List.drop_succ_cons, List.drop_zero, List.drop_nil])))
    refine VV.ite (fun q => ?_) (fun q => ?_)
    · have q : ¬ nI (i % 2) = nI 1 := q
      rw [eq_nI (by omega) (by omega)] at q
      ((repeat refine VV.s rfl rfl ?_); (try (conv => arg 3; simp only [Nat.reduceAdd, sto1, sto2, isL, cond_true, cond_false, List.drop_succ_cons, List.drop_zero, List.drop_nil])))
      refine VV.ite (fun q2 => ?_) (fun q2 => ?_)
      · have q2 : nI i ≤ nI 1 := q2
        rw [le_nI (by omega) (by omega)] at q2
        ((repeat (fail_if_success show VV _ _ (89, _, _, _) _); refine VV.s rfl rfl ?_); (try (conv => arg 3; simp only [Nat.reduceAdd, sto1, sto2, isL, cond_true, cond_false, List.drop_succ_cons, List.drop_zero, List.drop_nil])))
        refine it false false _ (fun d6 d7 d8 => ?_)
        have := go d6 d7 d8
        unfold rst at this
        rw [show decide (i % 2 = 1) = false from by simp [q], show decide (2 ≤ i) = false from by simp; omega] at this
        exact this
      · have q2 : ¬ nI i ≤ nI 1 := q2
        rw [le_nI (by omega) (by omega)] at q2
        ((repeat (fail_if_success show VV _ _ (89, _, _, _) _); refine VV.s rfl rfl ?_); (try (conv => arg 3; simp only [Nat.reduceAdd, sto1, sto2, isL, cond_true, cond_false, List.drop_succ_cons, List.drop_zero, List.drop_nil])))
        refine it false true _ (fun d6 d7 d8 => ?_)
        have := go d6 d7 d8
        unfold rst at this
        rw [show decide (i % 2 = 1) = false from by simp [q], show decide (2 ≤ i) = true from by simp; omega] at this
        exact this
    · have q : ¬ ¬ nI (i % 2) = nI 1 := q
      rw [eq_nI (by omega) (by omega)] at q
      have q := Classical.not_not.mp q
      ((repeat refine VV.s rfl rfl ?_); (try (conv => arg 3; simp only [Nat.reduceAdd, sto1, sto2, isL, cond_true, cond_false, List.drop_succ_cons, List.drop_zero, List.drop_nil])))
      refine VV.ite (fun q2 => ?_) (fun q2 => ?_)
      · have q2 : nI i ≤ nI 1 := q2
        rw [le_nI (by omega) (by omega)] at q2
        ((repeat (fail_if_success show VV _ _ (89, _, _, _) _); refine VV.s rfl rfl ?_); (try (conv => arg 3; simp only [Nat.reduceAdd, sto1, sto2, isL, cond_true, cond_false, List.drop_succ_cons, List.drop_zero, List.drop_nil])))
        refine it true false _ (fun d6 d7 d8 => ?_)
        have := go d6 d7 d8
        unfold rst at this
        rw [show decide (i % 2 = 1) = true from by simp [q], show decide (2 ≤ i) = false from by simp; omega] at this
        exact this
      · have q2 : ¬ nI i ≤ nI 1 := q2
        rw [le_nI (by omega) (by omega)] at q2
        ((repeat (fail_if_success show VV _ _ (89, _, _, _) _); refine VV.s rfl rfl ?_); (try (conv => arg 3; simp only [Nat.reduceAdd, sto1, sto2, isL, cond_true, cond_false, List.drop_succ_cons, List.drop_zero, List.drop_nil])))
        refine it true true _ (fun d6 d7 d8 => ?_)
        have := go d6 d7 d8
        unfold rst at this
        rw [show decide (i % 2 = 1) = true from by simp [q], show decide (2 ≤ i) = true from by simp; omega] at this
        exact this
theorem m_asks_bad (C : MInv u z) {a b v : Int32} (h : asksBad (hn z.1) a b v) : MC 167 [some (.ref 41), some (.int a), some (.int b), some (.int v), none, none, none, none, none] u (.int (-2)) (zB z) := by
  by_cases c1 : thr (hn z.1) a
  · ((repeat refine VV.s rfl rfl ?_); (try (conv => arg 3; simp only [Nat.reduceAdd, sto1, sto2, isL, cond_true, cond_false, List.drop_succ_cons, List.drop_zero, List.drop_nil])))
    refine VV.callE rfl rfl rfl rfl (f_oneY C.1.1.1 c1) rfl ?_
    refine VV.s rfl rfl ?_
    refine VV.itf (by decide) ?_
    have h := h.resolve_left (fun q => q c1)
    by_cases c2 : thr (hn z.1) b
    · ((repeat refine VV.s rfl rfl ?_); (try (conv => arg 3; simp only [Nat.reduceAdd, sto1, sto2, isL, cond_true, cond_false, List.drop_succ_cons, List.drop_zero, List.drop_nil])))
      refine VV.callE rfl rfl rfl rfl (f_oneY C.1.1.1 c2) rfl ?_
      refine VV.s rfl rfl ?_
      refine VV.itf (by decide) ?_
      have h := h.resolve_left (fun q => q c2)
      ((repeat refine VV.s rfl rfl ?_); (try (conv => arg 3; simp only [Nat.reduceAdd, sto1, sto2, isL, cond_true, cond_false, List.drop_succ_cons, List.drop_zero, List.drop_nil])))
      refine VV.ite (fun q => ?_) (fun q => ?_)
      · ((repeat refine VV.s rfl rfl ?_); (try (conv => arg 3; simp only [Nat.reduceAdd, sto1, sto2, isL, cond_true, cond_false, List.drop_succ_cons, List.drop_zero, List.drop_nil])))
        refine VV.callE rfl rfl rfl rfl f_bad rfl ?_
        ((repeat refine VV.s rfl rfl ?_); (try (conv => arg 3; simp only [Nat.reduceAdd, sto1, sto2, isL, cond_true, cond_false, List.drop_succ_cons, List.drop_zero, List.drop_nil])))
        exact VV.ret1 rfl ⟨rfl, C.bad, (Agr.rf).A (by decide)⟩
      · ((repeat refine VV.s rfl rfl ?_); (try (conv => arg 3; simp only [Nat.reduceAdd, sto1, sto2, isL, cond_true, cond_false, List.drop_succ_cons, List.drop_zero, List.drop_nil])))
        refine VV.callE rfl rfl rfl rfl (f_oneN C.1.1.1 (h.resolve_left q)) rfl ?_
        refine VV.s rfl rfl ?_
        refine VV.itf (by decide) ?_
        ((repeat refine VV.s rfl rfl ?_); (try (conv => arg 3; simp only [Nat.reduceAdd, sto1, sto2, isL, cond_true, cond_false, List.drop_succ_cons, List.drop_zero, List.drop_nil])))
        refine VV.callE rfl rfl rfl rfl f_bad rfl ?_
        ((repeat refine VV.s rfl rfl ?_); (try (conv => arg 3; simp only [Nat.reduceAdd, sto1, sto2, isL, cond_true, cond_false, List.drop_succ_cons, List.drop_zero, List.drop_nil])))
        exact VV.ret1 rfl ⟨rfl, C.bad, (Agr.rf).A (by decide)⟩
    · ((repeat refine VV.s rfl rfl ?_); (try (conv => arg 3; simp only [Nat.reduceAdd, sto1, sto2, isL, cond_true, cond_false, List.drop_succ_cons, List.drop_zero, List.drop_nil])))
      refine VV.callE rfl rfl rfl rfl (f_oneN C.1.1.1 c2) rfl ?_
      refine VV.s rfl rfl ?_
      refine VV.itt (by decide) ?_
      ((repeat refine VV.s rfl rfl ?_); (try (conv => arg 3; simp only [Nat.reduceAdd, sto1, sto2, isL, cond_true, cond_false, List.drop_succ_cons, List.drop_zero, List.drop_nil])))
      refine VV.callE rfl rfl rfl rfl f_bad rfl ?_
      ((repeat refine VV.s rfl rfl ?_); (try (conv => arg 3; simp only [Nat.reduceAdd, sto1, sto2, isL, cond_true, cond_false, List.drop_succ_cons, List.drop_zero, List.drop_nil])))
      exact VV.ret1 rfl ⟨rfl, C.bad, (Agr.rf).A (by decide)⟩
  · ((repeat refine VV.s rfl rfl ?_); (try (conv => arg 3; simp only [Nat.reduceAdd, sto1, sto2, isL, cond_true, cond_false, List.drop_succ_cons, List.drop_zero, List.drop_nil])))
    refine VV.callE rfl rfl rfl rfl (f_oneN C.1.1.1 c1) rfl ?_
    refine VV.s rfl rfl ?_
    refine VV.itt (by decide) ?_
    ((repeat refine VV.s rfl rfl ?_); (try (conv => arg 3; simp only [Nat.reduceAdd, sto1, sto2, isL, cond_true, cond_false, List.drop_succ_cons, List.drop_zero, List.drop_nil])))
    refine VV.callE rfl rfl rfl rfl f_bad rfl ?_
    ((repeat refine VV.s rfl rfl ?_); (try (conv => arg 3; simp only [Nat.reduceAdd, sto1, sto2, isL, cond_true, cond_false, List.drop_succ_cons, List.drop_zero, List.drop_nil])))
    exact VV.ret1 rfl ⟨rfl, C.bad, (Agr.rf).A (by decide)⟩
theorem m_asks_go (C : MInv u z) {a b v : Int32} (h : ¬ asksBad (hn z.1) a b v) {Q : Option Value → Sg → Prop} (K : V 167 (34, [some (.ref 41), some (.int a), some (.int b), some (.int v), none, none, none, none, none], [], u) Q) : V 167 (0, [some (.ref 41), some (.int a), some (.int b), some (.int v), none, none, none, none, none], [], u) Q := by
  ((repeat refine VV.s rfl rfl ?_); (try (conv => arg 3; simp only [Nat.reduceAdd, sto1, sto2, isL, cond_true, cond_false, List.drop_succ_cons, List.drop_zero, List.drop_nil])))
  refine VV.callE rfl rfl rfl rfl (f_oneY C.1.1.1 (Classical.not_not.mp (fun q => h (Or.inl q)))) rfl ?_
  refine VV.s rfl rfl ?_
  refine VV.itf (by decide) ?_
  ((repeat refine VV.s rfl rfl ?_); (try (conv => arg 3; simp only [Nat.reduceAdd, sto1, sto2, isL, cond_true, cond_false, List.drop_succ_cons, List.drop_zero, List.drop_nil])))
  refine VV.callE rfl rfl rfl rfl (f_oneY C.1.1.1 (Classical.not_not.mp (fun q => h (Or.inr (Or.inl q))))) rfl ?_
  refine VV.s rfl rfl ?_
  refine VV.itf (by decide) ?_
  ((repeat refine VV.s rfl rfl ?_); (try (conv => arg 3; simp only [Nat.reduceAdd, sto1, sto2, isL, cond_true, cond_false, List.drop_succ_cons, List.drop_zero, List.drop_nil])))
  refine VV.itf (fun q => h (Or.inr (Or.inr (Or.inl q)))) ?_
  ((repeat refine VV.s rfl rfl ?_); (try (conv => arg 3; simp only [Nat.reduceAdd, sto1, sto2, isL, cond_true, cond_false, List.drop_succ_cons, List.drop_zero, List.drop_nil])))
  refine VV.callE rfl rfl rfl rfl (f_oneY C.1.1.1 (Classical.not_not.mp (fun q => h (Or.inr (Or.inr (Or.inr q)))))) rfl ?_
  refine VV.s rfl rfl ?_
  refine VV.itt (by decide) ?_
  exact K
theorem m_asks_no (C : MInv u z) (G : GoodH z.1) {a b : Int32} {v : Nat} (h : ¬ asksBad (hn z.1) a b (nI v)) (hv : v < hn z.1) (h0 : hho z.1 v ≠ 0) : MC 167 [some (.ref 41), some (.int a), some (.int b), some (.int (nI v)), none, none, none, none, none] u (.int (-3)) (zN z) := by
  have h6 := G.1.1
  have g := (G.2.2.1.1 v hv).1
  refine m_asks_go C h ?_
  ((repeat refine VV.s rfl rfl ?_); (try (conv => arg 3; simp only [Nat.reduceAdd, sto1, sto2, isL, cond_true, cond_false, List.drop_succ_cons, List.drop_zero, List.drop_nil])))
  refine VV.iald rfl rfl rfl (show v < 6 by omega) (by decide) ?_
  ((repeat refine VV.s rfl rfl ?_); (try (conv => arg 3; simp only [Nat.reduceAdd, sto1, sto2, isL, cond_true, cond_false, List.drop_succ_cons, List.drop_zero, List.drop_nil])))
  refine VV.itf (fun q => h0 ((cI_none (by omega)).mp ((C.1.2.1 v hv).2.2.2.1.symm.trans q))) ?_
  ((repeat refine VV.s rfl rfl ?_); (try (conv => arg 3; simp only [Nat.reduceAdd, sto1, sto2, isL, cond_true, cond_false, List.drop_succ_cons, List.drop_zero, List.drop_nil])))
  refine VV.callE rfl rfl rfl rfl f_no rfl ?_
  ((repeat refine VV.s rfl rfl ?_); (try (conv => arg 3; simp only [Nat.reduceAdd, sto1, sto2, isL, cond_true, cond_false, List.drop_succ_cons, List.drop_zero, List.drop_nil])))
  exact VV.ret1 rfl ⟨rfl, C.no, (Agr.rf).A (by decide)⟩
theorem m_asks_ok (C : MInv u z) (G : GoodH z.1) {a b v : Nat} (h : ¬ asksBad (hn z.1) (nI a) (nI b) (nI v)) (ha : a < hn z.1) (hb : b < hn z.1) (hv : v < hn z.1) (h0 : hho z.1 v = 0) : MC 167 [some (.ref 41), some (.int (nI a)), some (.int (nI b)), some (.int (nI v)), none, none, none, none, none] u (.int (bts (rst z.1 a b v) 4 0 0)) z := by
  have h6 := G.1.1
  have hne : a ≠ b := fun e => h (Or.inr (Or.inr (Or.inl (by rw [e]))))
  refine m_asks_go C h ?_
  ((repeat refine VV.s rfl rfl ?_); (try (conv => arg 3; simp only [Nat.reduceAdd, sto1, sto2, isL, cond_true, cond_false, List.drop_succ_cons, List.drop_zero, List.drop_nil])))
  refine VV.iald rfl rfl rfl (show v < 6 by omega) (by decide) ?_
  ((repeat refine VV.s rfl rfl ?_); (try (conv => arg 3; simp only [Nat.reduceAdd, sto1, sto2, isL, cond_true, cond_false, List.drop_succ_cons, List.drop_zero, List.drop_nil])))
  refine VV.itt (by rw [(C.1.2.1 v hv).2.2.2.1, h0]; rfl) ?_
  ((repeat (fail_if_success show VV _ _ (55, _, _, _) _); refine VV.s rfl rfl ?_); (try (conv => arg 3; simp only [Nat.reduceAdd, sto1, sto2, isL, cond_true, cond_false, List.drop_succ_cons, List.drop_zero, List.drop_nil])))
  refine VV.mono (m_asks_loop C G ha hb hv hne 4 0 0 none none none (by omega)) (fun r t q => ?_)
  obtain ⟨rfl, rfl⟩ := q
  exact ⟨rfl, C, Agr.rf⟩
end M7
