/-! ===== the class: asking, Lents, steps, the fraction, images, status, counts, the digest ===== -/
section B4
variable {u : Sg} {z : Zs}
def cnt (as : Bool) (x k : Nat) : Bool := if as then decide (k + 1 ≤ x) else decide (x ≤ k + 1)
theorem cI_lt {x k : Nat} (hx : x < 2 ^ 31) (hk : k < 2 ^ 31) : (cI x < nI k) = (x < k + 1) := by
  rw [Int32.lt_iff_toInt_lt, cI_toInt hx, nI_toInt hk]
  exact propext ⟨fun h => by omega, fun h => by omega⟩
theorem lt_cI {x k : Nat} (hx : x < 2 ^ 31) (hk : k < 2 ^ 31) : (nI k < cI x) = (k + 1 < x) := by
  rw [Int32.lt_iff_toInt_lt, cI_toInt hx, nI_toInt hk]
  exact propext ⟨fun h => by omega, fun h => by omega⟩
theorem e_content {as : Bool} {x k : Nat} (hx : x ≤ 9) (hk : k ≤ 9) : V 90 (0, [some (.int (b01 as)), some (.int (nI x)), some (.int (nI k)), none], [], u) (is (.int (b01 (cnt as x k))) u) := by
  refine VV.s rfl rfl ?_
  refine VV.s rfl rfl ?_
  refine VV.s rfl rfl ?_
  rw [show nI x - 1 = cI x from rfl]
  refine VV.s rfl rfl ?_
  refine VV.s rfl rfl ?_
  refine VV.s rfl rfl ?_
  cases as with
  | true =>
    refine VV.itf (by decide) ?_
    ((repeat refine VV.s rfl rfl ?_); (try (conv => arg 3; simp only [Nat.reduceAdd, sto1, sto2, isL, cond_true, cond_false, List.drop_succ_cons, List.drop_zero, List.drop_nil])))
    refine VV.ite (fun q => ?_) (fun q => ?_)
    · rw [cI_lt (by omega) (by omega)] at q
      ((repeat refine VV.s rfl rfl ?_); (try (conv => arg 3; simp only [Nat.reduceAdd, sto1, sto2, isL, cond_true, cond_false, List.drop_succ_cons, List.drop_zero, List.drop_nil])))
      exact VV.ret3 rfl (Or.inl rfl) ⟨by simp [cnt, b01]; omega, rfl⟩
    · rw [cI_lt (by omega) (by omega)] at q
      ((repeat refine VV.s rfl rfl ?_); (try (conv => arg 3; simp only [Nat.reduceAdd, sto1, sto2, isL, cond_true, cond_false, List.drop_succ_cons, List.drop_zero, List.drop_nil])))
      exact VV.ret3 rfl (Or.inr rfl) ⟨by simp [cnt, b01]; omega, rfl⟩
  | false =>
    refine VV.itt rfl ?_
    ((repeat refine VV.s rfl rfl ?_); (try (conv => arg 3; simp only [Nat.reduceAdd, sto1, sto2, isL, cond_true, cond_false, List.drop_succ_cons, List.drop_zero, List.drop_nil])))
    refine VV.ite (fun q => ?_) (fun q => ?_)
    · rw [lt_cI (by omega) (by omega)] at q
      ((repeat refine VV.s rfl rfl ?_); (try (conv => arg 3; simp only [Nat.reduceAdd, sto1, sto2, isL, cond_true, cond_false, List.drop_succ_cons, List.drop_zero, List.drop_nil])))
      exact VV.ret3 rfl (Or.inl rfl) ⟨by simp [cnt, b01]; omega, rfl⟩
    · rw [lt_cI (by omega) (by omega)] at q
      ((repeat refine VV.s rfl rfl ?_); (try (conv => arg 3; simp only [Nat.reduceAdd, sto1, sto2, isL, cond_true, cond_false, List.drop_succ_cons, List.drop_zero, List.drop_nil])))
      exact VV.ret3 rfl (Or.inr rfl) ⟨by simp [cnt, b01]; omega, rfl⟩
/-- what one gets by asking; the pair rests -/
def byA (h : Hs) (v p q : Nat) (o : Bool) : Nat := if o = true ∧ q < p then fnH h p else ftH h p v
theorem byA_le (h : Hs) (v p q : Nat) (o : Bool) : byA h v p q o ≤ 9 := by
  unfold byA
  split
  · exact fnH_le h p
  · exact ftH_le h p v
def rst2 (h : Hs) (a b v : Nat) (x y : Bool) : Bool := cnt x (byA h v a b y) (fnH h a) && cnt y (byA h v b a x) (fnH h b)
def rst (h : Hs) (a b v i : Nat) : Bool := rst2 h a b v (decide (i % 2 = 1)) (decide (2 ≤ i))
set_option maxHeartbeats 4000000 in
theorem b_asks_it (C : CInv u z) (G : GoodH z.1) {a b v i : Nat} (ha : a < hn z.1) (hb : b < hn z.1) (hv : v < hn z.1) (hi : i < 4) {x y : Bool} (hx : (nI i &&& 1 = 0) ↔ x = false) (hy : (nI i &&& 2 = 0) ↔ y = false) {bs : Int32} {d8 d9 d10 d11 : Option Value} {Q : Option Value → Sg → Prop} (K : ∀ d8 d9 d10 d11, V 71 (78, [some (.ref 0), some (.int (nI a)), some (.int (nI b)), some (.int (nI v)), some (.int (nI (fnH z.1 a))), some (.int (nI (fnH z.1 b))), some (.int (if rst2 z.1 a b v x y then bs ||| (1 <<< (nI i &&& 31)) else bs)), some (.int (nI (i + 1))), d8, d9, d10, d11], [], u) Q) : V 71 (84, [some (.ref 0), some (.int (nI a)), some (.int (nI b)), some (.int (nI v)), some (.int (nI (fnH z.1 a))), some (.int (nI (fnH z.1 b))), some (.int bs), some (.int (nI i)), d8, d9, d10, d11], [], u) Q := by
  have h6 := G.1.1
  have p1 : ∀ d9 d10 d11, V 71 (98, [some (.ref 0), some (.int (nI a)), some (.int (nI b)), some (.int (nI v)), some (.int (nI (fnH z.1 a))), some (.int (nI (fnH z.1 b))), some (.int bs), some (.int (nI i)), some (.int (b01 x)), d9, d10, d11], [], u) Q := by
    intro d9 d10 d11
    have p2 : ∀ d10 d11, V 71 (112, [some (.ref 0), some (.int (nI a)), some (.int (nI b)), some (.int (nI v)), some (.int (nI (fnH z.1 a))), some (.int (nI (fnH z.1 b))), some (.int bs), some (.int (nI i)), some (.int (b01 x)), some (.int (b01 y)), d10, d11], [], u) Q := by
      intro d10 d11
      have p3 : ∀ d11, V 71 (138, [some (.ref 0), some (.int (nI a)), some (.int (nI b)), some (.int (nI v)), some (.int (nI (fnH z.1 a))), some (.int (nI (fnH z.1 b))), some (.int bs), some (.int (nI i)), some (.int (b01 x)), some (.int (b01 y)), some (.int (nI (byA z.1 v a b y))), d11], [], u) Q := by
        intro d11
        have p4 : V 71 (164, [some (.ref 0), some (.int (nI a)), some (.int (nI b)), some (.int (nI v)), some (.int (nI (fnH z.1 a))), some (.int (nI (fnH z.1 b))), some (.int bs), some (.int (nI i)), some (.int (b01 x)), some (.int (b01 y)), some (.int (nI (byA z.1 v a b y))), some (.int (nI (byA z.1 v b a x)))], [], u) Q := by
          ((repeat refine VV.s rfl rfl ?_); (try (conv => arg 3; simp only [Nat.reduceAdd, sto1, sto2, isL, cond_true, cond_false, List.drop_succ_cons, List.drop_zero, List.drop_nil])))
          refine VV.callE rfl rfl rfl rfl (e_content (byA_le z.1 v a b y) (fnH_le z.1 a)) rfl ?_
          refine VV.s rfl rfl ?_
          cases c1 : cnt x (byA z.1 v a b y) (fnH z.1 a) with
          | false =>
            refine VV.itt rfl ?_
            ((repeat (fail_if_success show VV _ _ (78, _, _, _) _); refine VV.s rfl rfl ?_); (try (conv => arg 3; simp only [Nat.reduceAdd, sto1, sto2, isL, cond_true, cond_false, List.drop_succ_cons, List.drop_zero, List.drop_nil])))
            rw [nI_1]
            have := K (some (.int (b01 x))) (some (.int (b01 y))) (some (.int (nI (byA z.1 v a b y)))) (some (.int (nI (byA z.1 v b a x))))
            simp only [rst2, c1] at this
            exact this
          | true =>
            refine VV.itf (by decide) ?_
            ((repeat refine VV.s rfl rfl ?_); (try (conv => arg 3; simp only [Nat.reduceAdd, sto1, sto2, isL, cond_true, cond_false, List.drop_succ_cons, List.drop_zero, List.drop_nil])))
            refine VV.callE rfl rfl rfl rfl (e_content (byA_le z.1 v b a x) (fnH_le z.1 b)) rfl ?_
            refine VV.s rfl rfl ?_
            have := K (some (.int (b01 x))) (some (.int (b01 y))) (some (.int (nI (byA z.1 v a b y)))) (some (.int (nI (byA z.1 v b a x))))
            cases c2 : cnt y (byA z.1 v b a x) (fnH z.1 b) with
            | false =>
              refine VV.itt rfl ?_
              ((repeat (fail_if_success show VV _ _ (78, _, _, _) _); refine VV.s rfl rfl ?_); (try (conv => arg 3; simp only [Nat.reduceAdd, sto1, sto2, isL, cond_true, cond_false, List.drop_succ_cons, List.drop_zero, List.drop_nil])))
              rw [nI_1]
              simp only [rst2, c1, c2] at this
              exact this
            | true =>
              refine VV.itf (by decide) ?_
              ((repeat (fail_if_success show VV _ _ (78, _, _, _) _); refine VV.s rfl rfl ?_); (try (conv => arg 3; simp only [Nat.reduceAdd, sto1, sto2, isL, cond_true, cond_false, List.drop_succ_cons, List.drop_zero, List.drop_nil])))
              rw [nI_1]
              simp only [rst2, c1, c2] at this
              exact this
        refine VV.s rfl rfl ?_
        refine VV.s rfl rfl ?_
        cases x with
        | false =>
          refine VV.itt rfl ?_
          ((repeat refine VV.s rfl rfl ?_); (try (conv => arg 3; simp only [Nat.reduceAdd, sto1, sto2, isL, cond_true, cond_false, List.drop_succ_cons, List.drop_zero, List.drop_nil])))
          refine VV.callE rfl rfl rfl rfl (e_fitWith (Or.inl rfl) C.1 G hb hv) rfl ?_
          ((repeat (fail_if_success show VV _ _ (164, _, _, _) _); refine VV.s rfl rfl ?_); (try (conv => arg 3; simp only [Nat.reduceAdd, sto1, sto2, isL, cond_true, cond_false, List.drop_succ_cons, List.drop_zero, List.drop_nil])))
          exact p4
        | true =>
          refine VV.itf (by decide) ?_
          ((repeat refine VV.s rfl rfl ?_); (try (conv => arg 3; simp only [Nat.reduceAdd, sto1, sto2, isL, cond_true, cond_false, List.drop_succ_cons, List.drop_zero, List.drop_nil])))
          refine VV.ite (fun q => ?_) (fun q => ?_)
          · rw [le_nI (by omega) (by omega)] at q
            ((repeat refine VV.s rfl rfl ?_); (try (conv => arg 3; simp only [Nat.reduceAdd, sto1, sto2, isL, cond_true, cond_false, List.drop_succ_cons, List.drop_zero, List.drop_nil])))
            refine VV.callE rfl rfl rfl rfl (e_fitWith (Or.inl rfl) C.1 G hb hv) rfl ?_
            ((repeat (fail_if_success show VV _ _ (164, _, _, _) _); refine VV.s rfl rfl ?_); (try (conv => arg 3; simp only [Nat.reduceAdd, sto1, sto2, isL, cond_true, cond_false, List.drop_succ_cons, List.drop_zero, List.drop_nil])))
            have e : byA z.1 v b a true = ftH z.1 b v := if_neg (by simp; omega)
            rw [e] at p4
            exact p4
          · rw [le_nI (by omega) (by omega)] at q
            ((repeat (fail_if_success show VV _ _ (164, _, _, _) _); refine VV.s rfl rfl ?_); (try (conv => arg 3; simp only [Nat.reduceAdd, sto1, sto2, isL, cond_true, cond_false, List.drop_succ_cons, List.drop_zero, List.drop_nil])))
            have e : byA z.1 v b a true = fnH z.1 b := if_pos ⟨rfl, by omega⟩
            rw [e] at p4
            exact p4
      refine VV.s rfl rfl ?_
      refine VV.s rfl rfl ?_
      cases y with
      | false =>
        refine VV.itt rfl ?_
        ((repeat refine VV.s rfl rfl ?_); (try (conv => arg 3; simp only [Nat.reduceAdd, sto1, sto2, isL, cond_true, cond_false, List.drop_succ_cons, List.drop_zero, List.drop_nil])))
        refine VV.callE rfl rfl rfl rfl (e_fitWith (Or.inl rfl) C.1 G ha hv) rfl ?_
        ((repeat (fail_if_success show VV _ _ (138, _, _, _) _); refine VV.s rfl rfl ?_); (try (conv => arg 3; simp only [Nat.reduceAdd, sto1, sto2, isL, cond_true, cond_false, List.drop_succ_cons, List.drop_zero, List.drop_nil])))
        exact p3 _
      | true =>
        refine VV.itf (by decide) ?_
        ((repeat refine VV.s rfl rfl ?_); (try (conv => arg 3; simp only [Nat.reduceAdd, sto1, sto2, isL, cond_true, cond_false, List.drop_succ_cons, List.drop_zero, List.drop_nil])))
        refine VV.ite (fun q => ?_) (fun q => ?_)
        · rw [le_nI (by omega) (by omega)] at q
          ((repeat refine VV.s rfl rfl ?_); (try (conv => arg 3; simp only [Nat.reduceAdd, sto1, sto2, isL, cond_true, cond_false, List.drop_succ_cons, List.drop_zero, List.drop_nil])))
          refine VV.callE rfl rfl rfl rfl (e_fitWith (Or.inl rfl) C.1 G ha hv) rfl ?_
          ((repeat (fail_if_success show VV _ _ (138, _, _, _) _); refine VV.s rfl rfl ?_); (try (conv => arg 3; simp only [Nat.reduceAdd, sto1, sto2, isL, cond_true, cond_false, List.drop_succ_cons, List.drop_zero, List.drop_nil])))
          have e : byA z.1 v a b true = ftH z.1 a v := if_neg (by simp; omega)
          rw [e] at p3
          exact p3 _
        · rw [le_nI (by omega) (by omega)] at q
          ((repeat (fail_if_success show VV _ _ (138, _, _, _) _); refine VV.s rfl rfl ?_); (try (conv => arg 3; simp only [Nat.reduceAdd, sto1, sto2, isL, cond_true, cond_false, List.drop_succ_cons, List.drop_zero, List.drop_nil])))
          have e : byA z.1 v a b true = fnH z.1 a := if_pos ⟨rfl, by omega⟩
          rw [e] at p3
          exact p3 _
    ((repeat refine VV.s rfl rfl ?_); (try (conv => arg 3; simp only [Nat.reduceAdd, sto1, sto2, isL, cond_true, cond_false, List.drop_succ_cons, List.drop_zero, List.drop_nil])))
    refine VV.ite (fun q => ?_) (fun q => ?_)
    · have e := hy.mp q
      ((repeat (fail_if_success show VV _ _ (112, _, _, _) _); refine VV.s rfl rfl ?_); (try (conv => arg 3; simp only [Nat.reduceAdd, sto1, sto2, isL, cond_true, cond_false, List.drop_succ_cons, List.drop_zero, List.drop_nil])))
      rw [e] at p2
      exact p2 _ _
    · have e : y = true := by cases y with | true => rfl | false => exact absurd (hy.mpr rfl) q
      ((repeat (fail_if_success show VV _ _ (112, _, _, _) _); refine VV.s rfl rfl ?_); (try (conv => arg 3; simp only [Nat.reduceAdd, sto1, sto2, isL, cond_true, cond_false, List.drop_succ_cons, List.drop_zero, List.drop_nil])))
      rw [e] at p2
      exact p2 _ _
  ((repeat refine VV.s rfl rfl ?_); (try (conv => arg 3; simp only [Nat.reduceAdd, sto1, sto2, isL, cond_true, cond_false, List.drop_succ_cons, List.drop_zero, List.drop_nil])))
  refine VV.ite (fun q => ?_) (fun q => ?_)
  · have e := hx.mp q
    ((repeat (fail_if_success show VV _ _ (98, _, _, _) _); refine VV.s rfl rfl ?_); (try (conv => arg 3; simp only [Nat.reduceAdd, sto1, sto2, isL, cond_true, cond_false, List.drop_succ_cons, List.drop_zero, List.drop_nil])))
    rw [e] at p1
    exact p1 _ _ _
  · have e : x = true := by cases x with | true => rfl | false => exact absurd (hx.mpr rfl) q
    ((repeat (fail_if_success show VV _ _ (98, _, _, _) _); refine VV.s rfl rfl ?_); (try (conv => arg 3; simp only [Nat.reduceAdd, sto1, sto2, isL, cond_true, cond_false, List.drop_succ_cons, List.drop_zero, List.drop_nil])))
    rw [e] at p1
    exact p1 _ _ _
set_option maxHeartbeats 4000000 in
theorem b_asks_loop (C : CInv u z) (G : GoodH z.1) {a b v : Nat} (ha : a < hn z.1) (hb : b < hn z.1) (hv : v < hn z.1) : ∀ k i bs d8 d9 d10 d11, i + k = 4 → V 71 (78, [some (.ref 0), some (.int (nI a)), some (.int (nI b)), some (.int (nI v)), some (.int (nI (fnH z.1 a))), some (.int (nI (fnH z.1 b))), some (.int bs), some (.int (nI i)), d8, d9, d10, d11], [], u) (is (.int (bts (rst z.1 a b v) k i bs)) u) := by
  intro k
  induction k with
  | zero =>
    intro i bs d8 d9 d10 d11 hi
    ((repeat refine VV.s rfl rfl ?_); (try (conv => arg 3; simp only [Nat.reduceAdd, sto1, sto2, isL, cond_true, cond_false, List.drop_succ_cons, List.drop_zero, List.drop_nil])))
    refine VV.itt (nI_le (a := 4) (by omega) (by omega)) ?_
    ((repeat refine VV.s rfl rfl ?_); (try (conv => arg 3; simp only [Nat.reduceAdd, sto1, sto2, isL, cond_true, cond_false, List.drop_succ_cons, List.drop_zero, List.drop_nil])))
    exact VV.ret1 rfl ⟨rfl, rfl⟩
  | succ k ih =>
    intro i bs d8 d9 d10 d11 hi
    ((repeat refine VV.s rfl rfl ?_); (try (conv => arg 3; simp only [Nat.reduceAdd, sto1, sto2, isL, cond_true, cond_false, List.drop_succ_cons, List.drop_zero, List.drop_nil])))
    refine VV.itf (nI_ge (b := 4) (by omega) (by omega)) ?_
    have h1 : ∀ i, i < 4 → ((nI i &&& 1 = 0) ↔ decide (i % 2 = 1) = false) := by decide +kernel
    have h2 : ∀ i, i < 4 → ((nI i &&& 2 = 0) ↔ decide (2 ≤ i) = false) := by decide +kernel
    refine b_asks_it C G ha hb hv (show i < 4 by omega) (h1 i (by omega)) (h2 i (by omega)) (fun d8 d9 d10 d11 => ?_)
    rw [bts]
    exact ih (i + 1) _ _ _ _ _ (by omega)
def asksBad (n : Nat) (a b v : Int32) : Prop := ¬ thr n a ∨ ¬ thr n b ∨ a = b ∨ ¬ thr n v
theorem b_asks_bad (C : CInv u z) {a b v : Int32} (h : asksBad (hn z.1) a b v) : BC 71 [some (.ref 0), some (.int a), some (.int b), some (.int v), none, none, none, none, none, none, none, none] u (.int (-2)) (zB z) := by
  by_cases c1 : thr (hn z.1) a
  · ((repeat refine VV.s rfl rfl ?_); (try (conv => arg 3; simp only [Nat.reduceAdd, sto1, sto2, isL, cond_true, cond_false, List.drop_succ_cons, List.drop_zero, List.drop_nil])))
    refine VV.callE rfl rfl rfl rfl (e_thereY C.1.1.1 c1) rfl ?_
    refine VV.s rfl rfl ?_
    refine VV.itf (by decide) ?_
    have h := h.resolve_left (fun q => q c1)
    by_cases c2 : thr (hn z.1) b
    · ((repeat refine VV.s rfl rfl ?_); (try (conv => arg 3; simp only [Nat.reduceAdd, sto1, sto2, isL, cond_true, cond_false, List.drop_succ_cons, List.drop_zero, List.drop_nil])))
      refine VV.callE rfl rfl rfl rfl (e_thereY C.1.1.1 c2) rfl ?_
      refine VV.s rfl rfl ?_
      refine VV.itf (by decide) ?_
      have h := h.resolve_left (fun q => q c2)
      ((repeat refine VV.s rfl rfl ?_); (try (conv => arg 3; simp only [Nat.reduceAdd, sto1, sto2, isL, cond_true, cond_false, List.drop_succ_cons, List.drop_zero, List.drop_nil])))
      refine VV.ite (fun q => ?_) (fun q => ?_)
      · ((repeat refine VV.s rfl rfl ?_); (try (conv => arg 3; simp only [Nat.reduceAdd, sto1, sto2, isL, cond_true, cond_false, List.drop_succ_cons, List.drop_zero, List.drop_nil])))
        refine VV.callE rfl rfl rfl rfl e_bad rfl ?_
        exact VV.ret1 rfl ⟨rfl, C.bad, (Agr.rf).I (by decide)⟩
      · ((repeat refine VV.s rfl rfl ?_); (try (conv => arg 3; simp only [Nat.reduceAdd, sto1, sto2, isL, cond_true, cond_false, List.drop_succ_cons, List.drop_zero, List.drop_nil])))
        refine VV.callE rfl rfl rfl rfl (e_thereN C.1.1.1 (h.resolve_left q)) rfl ?_
        refine VV.s rfl rfl ?_
        refine VV.itf (by decide) ?_
        ((repeat refine VV.s rfl rfl ?_); (try (conv => arg 3; simp only [Nat.reduceAdd, sto1, sto2, isL, cond_true, cond_false, List.drop_succ_cons, List.drop_zero, List.drop_nil])))
        refine VV.callE rfl rfl rfl rfl e_bad rfl ?_
        exact VV.ret1 rfl ⟨rfl, C.bad, (Agr.rf).I (by decide)⟩
    · ((repeat refine VV.s rfl rfl ?_); (try (conv => arg 3; simp only [Nat.reduceAdd, sto1, sto2, isL, cond_true, cond_false, List.drop_succ_cons, List.drop_zero, List.drop_nil])))
      refine VV.callE rfl rfl rfl rfl (e_thereN C.1.1.1 c2) rfl ?_
      refine VV.s rfl rfl ?_
      refine VV.itt (by decide) ?_
      ((repeat refine VV.s rfl rfl ?_); (try (conv => arg 3; simp only [Nat.reduceAdd, sto1, sto2, isL, cond_true, cond_false, List.drop_succ_cons, List.drop_zero, List.drop_nil])))
      refine VV.callE rfl rfl rfl rfl e_bad rfl ?_
      exact VV.ret1 rfl ⟨rfl, C.bad, (Agr.rf).I (by decide)⟩
  · ((repeat refine VV.s rfl rfl ?_); (try (conv => arg 3; simp only [Nat.reduceAdd, sto1, sto2, isL, cond_true, cond_false, List.drop_succ_cons, List.drop_zero, List.drop_nil])))
    refine VV.callE rfl rfl rfl rfl (e_thereN C.1.1.1 c1) rfl ?_
    refine VV.s rfl rfl ?_
    refine VV.itt (by decide) ?_
    ((repeat refine VV.s rfl rfl ?_); (try (conv => arg 3; simp only [Nat.reduceAdd, sto1, sto2, isL, cond_true, cond_false, List.drop_succ_cons, List.drop_zero, List.drop_nil])))
    refine VV.callE rfl rfl rfl rfl e_bad rfl ?_
    exact VV.ret1 rfl ⟨rfl, C.bad, (Agr.rf).I (by decide)⟩
theorem b_asks_go (C : CInv u z) {a b v : Int32} (h : ¬ asksBad (hn z.1) a b v) {Q : Option Value → Sg → Prop} (K : V 71 (34, [some (.ref 0), some (.int a), some (.int b), some (.int v), none, none, none, none, none, none, none, none], [], u) Q) : V 71 (0, [some (.ref 0), some (.int a), some (.int b), some (.int v), none, none, none, none, none, none, none, none], [], u) Q := by
  ((repeat refine VV.s rfl rfl ?_); (try (conv => arg 3; simp only [Nat.reduceAdd, sto1, sto2, isL, cond_true, cond_false, List.drop_succ_cons, List.drop_zero, List.drop_nil])))
  refine VV.callE rfl rfl rfl rfl (e_thereY C.1.1.1 (Classical.not_not.mp (fun q => h (Or.inl q)))) rfl ?_
  refine VV.s rfl rfl ?_
  refine VV.itf (by decide) ?_
  ((repeat refine VV.s rfl rfl ?_); (try (conv => arg 3; simp only [Nat.reduceAdd, sto1, sto2, isL, cond_true, cond_false, List.drop_succ_cons, List.drop_zero, List.drop_nil])))
  refine VV.callE rfl rfl rfl rfl (e_thereY C.1.1.1 (Classical.not_not.mp (fun q => h (Or.inr (Or.inl q))))) rfl ?_
  refine VV.s rfl rfl ?_
  refine VV.itf (by decide) ?_
  ((repeat refine VV.s rfl rfl ?_); (try (conv => arg 3; simp only [Nat.reduceAdd, sto1, sto2, isL, cond_true, cond_false, List.drop_succ_cons, List.drop_zero, List.drop_nil])))
  refine VV.itf (fun q => h (Or.inr (Or.inr (Or.inl q)))) ?_
  ((repeat refine VV.s rfl rfl ?_); (try (conv => arg 3; simp only [Nat.reduceAdd, sto1, sto2, isL, cond_true, cond_false, List.drop_succ_cons, List.drop_zero, List.drop_nil])))
  refine VV.callE rfl rfl rfl rfl (e_thereY C.1.1.1 (Classical.not_not.mp (fun q => h (Or.inr (Or.inr (Or.inr q)))))) rfl ?_
  refine VV.s rfl rfl ?_
  refine VV.itt (by decide) ?_
  exact K
theorem b_asks_no (C : CInv u z) (G : GoodH z.1) {a b : Int32} {v : Nat} (h : ¬ asksBad (hn z.1) a b (nI v)) (hv : v < hn z.1) (h0 : hho z.1 v ≠ 0) : BC 71 [some (.ref 0), some (.int a), some (.int b), some (.int (nI v)), none, none, none, none, none, none, none, none] u (.int (-3)) (zN z) := by
  have h6 := G.1.1
  have g := (G.2.2.1.1 v hv).1
  refine b_asks_go C h ?_
  ((repeat refine VV.s rfl rfl ?_); (try (conv => arg 3; simp only [Nat.reduceAdd, sto1, sto2, isL, cond_true, cond_false, List.drop_succ_cons, List.drop_zero, List.drop_nil])))
  refine VV.iald rfl rfl rfl (show v < 6 by omega) (by decide) ?_
  ((repeat refine VV.s rfl rfl ?_); (try (conv => arg 3; simp only [Nat.reduceAdd, sto1, sto2, isL, cond_true, cond_false, List.drop_succ_cons, List.drop_zero, List.drop_nil])))
  refine VV.itf (fun q => h0 ((cI_none (by omega)).mp ((C.1.2.1 v hv).2.2.2.1.symm.trans q))) ?_
  ((repeat refine VV.s rfl rfl ?_); (try (conv => arg 3; simp only [Nat.reduceAdd, sto1, sto2, isL, cond_true, cond_false, List.drop_succ_cons, List.drop_zero, List.drop_nil])))
  refine VV.callE rfl rfl rfl rfl e_no rfl ?_
  exact VV.ret1 rfl ⟨rfl, C.no, (Agr.rf).I (by decide)⟩
theorem b_asks_ok (C : CInv u z) (G : GoodH z.1) {a b v : Nat} (h : ¬ asksBad (hn z.1) (nI a) (nI b) (nI v)) (ha : a < hn z.1) (hb : b < hn z.1) (hv : v < hn z.1) (h0 : hho z.1 v = 0) : BC 71 [some (.ref 0), some (.int (nI a)), some (.int (nI b)), some (.int (nI v)), none, none, none, none, none, none, none, none] u (.int (bts (rst z.1 a b v) 4 0 0)) z := by
  have h6 := G.1.1
  refine b_asks_go C h ?_
  ((repeat refine VV.s rfl rfl ?_); (try (conv => arg 3; simp only [Nat.reduceAdd, sto1, sto2, isL, cond_true, cond_false, List.drop_succ_cons, List.drop_zero, List.drop_nil])))
  refine VV.iald rfl rfl rfl (show v < 6 by omega) (by decide) ?_
  ((repeat refine VV.s rfl rfl ?_); (try (conv => arg 3; simp only [Nat.reduceAdd, sto1, sto2, isL, cond_true, cond_false, List.drop_succ_cons, List.drop_zero, List.drop_nil])))
  refine VV.itt (by rw [(C.1.2.1 v hv).2.2.2.1, h0]; rfl) ?_
  ((repeat refine VV.s rfl rfl ?_); (try (conv => arg 3; simp only [Nat.reduceAdd, sto1, sto2, isL, cond_true, cond_false, List.drop_succ_cons, List.drop_zero, List.drop_nil])))
  refine VV.callE rfl rfl rfl rfl (e_fitNow (Or.inl rfl) C.1 G ha) rfl ?_
  ((repeat refine VV.s rfl rfl ?_); (try (conv => arg 3; simp only [Nat.reduceAdd, sto1, sto2, isL, cond_true, cond_false, List.drop_succ_cons, List.drop_zero, List.drop_nil])))
  refine VV.callE rfl rfl rfl rfl (e_fitNow (Or.inl rfl) C.1 G hb) rfl ?_
  ((repeat (fail_if_success show VV _ _ (78, _, _, _) _); refine VV.s rfl rfl ?_); (try (conv => arg 3; simp only [Nat.reduceAdd, sto1, sto2, isL, cond_true, cond_false, List.drop_succ_cons, List.drop_zero, List.drop_nil])))
  refine VV.mono (b_asks_loop C G ha hb hv 4 0 0 none none none none (by omega)) (fun r t q => ?_)
  obtain ⟨rfl, rfl⟩ := q
  exact ⟨rfl, C, Agr.rf⟩
end B4
