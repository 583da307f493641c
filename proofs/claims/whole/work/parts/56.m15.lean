/-! ===== the reference: best ===== -/
section M15
variable {u : Sg} {z : Zs}
abbrev o59 : Nat → Prop := fun k => k ≠ 59 ∧ k ≠ 60
theorem MRep.o59 {t : Sg} {h : Hs} (R : MRep u h) (A : Agr o59 u t) : MRep t h := R.keep2 (fun k hk => (A k (by constructor <;> omega)).2.2) (fun j _ => (A 41 (by decide)).1 j)
theorem drop_ln {l : List Nat} {i : Nat} (h : i < l.length) : l.drop i = lnf l i :: l.drop (i + 1) := by
  rw [List.drop_eq_getElem_cons h]
  congr 1
  unfold lnf
  rw [List.getD_eq_getElem?_getD, List.getElem?_eq_getElem h]
  rfl
theorem sc_le {F : Nat → Nat → Nat} (hF : ∀ p v, F p v ≤ 9) : ∀ (l : List Nat) p, sc F p l ≤ 9 * l.length
  | [], p => Nat.zero_le _
  | v :: t, p => by
    have := sc_le hF t (p + 1)
    have := hF p v
    rw [sc, List.length_cons]
    omega
theorem lnOk_at {n : Nat} {l : List Nat} (h : lnOk n l = true) : l.length = n ∧ ∀ k, k < n → lnf l k < n := by
  unfold lnOk at h
  rw [Bool.and_eq_true] at h
  have hl := Nat.eq_of_beq_eq_true h.1
  refine ⟨hl, fun k hk => ?_⟩
  have := List.all_eq_true.mp h.2 (l[k]'(by omega)) (List.getElem_mem _)
  unfold lnf
  rw [List.getD_eq_getElem?_getD, List.getElem?_eq_getElem (show k < l.length by omega)]
  have e : Nat.blt l[k] n = true := this
  exact Nat.le_of_ble_eq_true e
set_option maxHeartbeats 8000000 in
theorem m_best_sum {h : Hs} (G : GoodH h) {t : Sg} (R : MRep t h) {l : List Nat} (hl : lnOk (hn h) l = true) (hL : ∀ k, k < hn h → gA t 59 k = nI (lnf l k)) {p a : Int32} {d3 : Int32} {Q : Option Value → Sg → Prop} (K : ∀ d5, V 148 (88, [some (.ref 41), some (.int p), some (.int a), some (.int d3), some (.int (nI (sc (ftH h) 0 l))), d5], [], t) Q) : ∀ k i x, i + k = hn h → x + sc (ftH h) i (l.drop i) = sc (ftH h) 0 l → V 148 (55, [some (.ref 41), some (.int p), some (.int a), some (.int d3), some (.int (nI x)), some (.int (nI i))], [], t) Q := by
  have h6 := G.1.1
  obtain ⟨hll, hlv⟩ := lnOk_at hl
  intro k
  induction k with
  | zero =>
    intro i x hi hx
    ((repeat refine VV.s rfl rfl ?_); (try (conv => arg 3; simp only [Nat.reduceAdd, sto1, sto2, isL, cond_true, cond_false, List.drop_succ_cons, List.drop_zero, List.drop_nil])))
    refine VV.itt (by rw [R.1.1]; exact nI_le (by omega) (by omega)) ?_
    rw [List.drop_eq_nil_of_le (by omega)] at hx
    have hx : x = sc (ftH h) 0 l := hx
    rw [hx]
    exact K _
  | succ k ih =>
    intro i x hi hx
    have hv := hlv i (by omega)
    rw [drop_ln (show i < l.length by omega), sc] at hx
    ((repeat refine VV.s rfl rfl ?_); (try (conv => arg 3; simp only [Nat.reduceAdd, sto1, sto2, isL, cond_true, cond_false, List.drop_succ_cons, List.drop_zero, List.drop_nil])))
    refine VV.itf (by rw [R.1.1]; exact nI_ge (by omega) (by omega)) ?_
    ((repeat refine VV.s rfl rfl ?_); (try (conv => arg 3; simp only [Nat.reduceAdd, sto1, sto2, isL, cond_true, cond_false, List.drop_succ_cons, List.drop_zero, List.drop_nil])))
    refine VV.iald rfl rfl rfl (show i < 6 by omega) (by decide) ?_
    rw [hL i (by omega)]
    refine VV.callE rfl rfl rfl rfl (f_fitWith R G (show i < hn h by omega) hv) rfl ?_
    ((repeat (fail_if_success show VV _ _ (55, _, _, _) _); refine VV.s rfl rfl ?_); (try (conv => arg 3; simp only [Nat.reduceAdd, sto1, sto2, isL, cond_true, cond_false, List.drop_succ_cons, List.drop_zero, List.drop_nil])))
    rw [nI_1, nI_add]
    exact ih (i + 1) (x + ftH h i (lnf l i)) (by omega) (by rw [← hx, Nat.add_assoc])
set_option maxHeartbeats 8000000 in
theorem m_best_copy {n : Nat} (h6 : n ≤ 6) {f : Nat → Nat} {p a s : Int32} {d3 : Int32} (hlt : ¬ s ≤ a) {Q : Option Value → Sg → Prop} (K : ∀ t d5, Agr o59 u t → (∀ k, k < n → gA t 59 k = nI (f k)) → (∀ k, k < n → gA t 60 k = nI (f k)) → V 148 (126, [some (.ref 41), some (.int p), some (.int a), some (.int d3), some (.int s), d5], [], t) Q) (hN : ∀ t, Agr o59 u t → gI t 41 1 = nI n) : ∀ k i t, i + k = n → Agr o59 u t → (∀ k, k < n → gA t 59 k = nI (f k)) → (∀ k, k < i → gA t 60 k = nI (f k)) → V 148 (91, [some (.ref 41), some (.int p), some (.int a), some (.int d3), some (.int s), some (.int (nI i))], [], t) Q := by
  intro k
  induction k with
  | zero =>
    intro i t hi A h1 h2
    ((repeat refine VV.s rfl rfl ?_); (try (conv => arg 3; simp only [Nat.reduceAdd, sto1, sto2, isL, cond_true, cond_false, List.drop_succ_cons, List.drop_zero, List.drop_nil])))
    refine VV.itt (by rw [hN t A]; exact nI_le (by omega) (by omega)) ?_
    exact K t _ A h1 (fun k hk => h2 k (by omega))
  | succ k ih =>
    intro i t hi A h1 h2
    ((repeat refine VV.s rfl rfl ?_); (try (conv => arg 3; simp only [Nat.reduceAdd, sto1, sto2, isL, cond_true, cond_false, List.drop_succ_cons, List.drop_zero, List.drop_nil])))
    refine VV.itf (by rw [hN t A]; exact nI_ge (by omega) (by omega)) ?_
    ((repeat refine VV.s rfl rfl ?_); (try (conv => arg 3; simp only [Nat.reduceAdd, sto1, sto2, isL, cond_true, cond_false, List.drop_succ_cons, List.drop_zero, List.drop_nil])))
    refine VV.itf hlt ?_
    ((repeat refine VV.s rfl rfl ?_); (try (conv => arg 3; simp only [Nat.reduceAdd, sto1, sto2, isL, cond_true, cond_false, List.drop_succ_cons, List.drop_zero, List.drop_nil])))
    refine VV.iald rfl rfl rfl (show i < 6 by omega) (by decide) ?_
    refine VV.iast rfl rfl rfl (show i < 6 by omega) (by decide) ?_
    ((repeat (fail_if_success show VV _ _ (91, _, _, _) _); refine VV.s rfl rfl ?_); (try (conv => arg 3; simp only [Nat.reduceAdd, sto1, sto2, isL, cond_true, cond_false, List.drop_succ_cons, List.drop_zero, List.drop_nil])))
    rw [nI_1]
    refine ih (i + 1) _ (by omega) (A.A (fun q => q.2 rfl)) (fun k hk => ?_) (fun k hk => ?_)
    · rw [gA_pA, if_neg (by decide)]; exact h1 k hk
    · rw [gA_pA, if_pos rfl, upd_at]
      split
      · rename_i e; rw [e]; exact h1 i (by omega)
      · exact h2 k (by omega)
set_option maxHeartbeats 8000000 in
theorem m_best_line {h : Hs} (R : MRep u h) (G : GoodH h) {p : Int32} {Q : Option Value → Sg → Prop} {e : Nat × List Nat} (K : ∀ t d4 d5, Agr o59 u t → (e.1 ≠ 0 → ∀ k, k < hn h → gA t 60 k = nI (lnf e.2 k)) → V 148 (147, [some (.ref 41), some (.int p), some (.int (cI e.1)), some (.int 0), d4, d5], [], t) Q) : ∀ (r : List (List Nat)) (l : List Nat) a t d4 d5, a.1 ≤ 100 → chk (hn h) (l :: r) = true → (l :: r).foldl (fms (sc (ftH h) 0)) a = e → Agr o59 u t → (∀ k, k < hn h → gA t 59 k = nI (lnf l k)) → (a.1 ≠ 0 → ∀ k, k < hn h → gA t 60 k = nI (lnf a.2 k)) → V 148 (49, [some (.ref 41), some (.int p), some (.int (cI a.1)), some (.int 1), d4, d5], [], t) Q := by
  have h6 := G.1.1
  intro r
  induction r with
  | nil =>
    intro l a t d4 d5 ha hc he A hL hB
    rw [chk, Bool.and_eq_true, Bool.and_eq_true] at hc
    have hl := hc.1.1
    have hk : nlK (lnf l) (hn h - 1) = 0 := Nat.eq_of_beq_eq_true hc.1.2
    obtain ⟨hll, hlv⟩ := lnOk_at hl
    have hs := sc_le (ftH_le h) l 0
    have he : fms (sc (ftH h) 0) a l = e := he
    ((repeat (fail_if_success show VV _ _ (55, _, _, _) _); refine VV.s rfl rfl ?_); (try (conv => arg 3; simp only [Nat.reduceAdd, sto1, sto2, isL, cond_true, cond_false, List.drop_succ_cons, List.drop_zero, List.drop_nil])))
    refine m_best_sum G (R.o59 A) hl hL (fun d5 => ?_) (hn h) 0 0 (by omega) (by rw [List.drop_zero]; omega)
    have tail : ∀ t d5, Agr o59 u t → (∀ k, k < hn h → gA t 59 k = nI (lnf l k)) → (e.1 ≠ 0 → ∀ k, k < hn h → gA t 60 k = nI (lnf e.2 k)) → V 148 (138, [some (.ref 41), some (.int p), some (.int (cI a.1)), some (.int 1), some (.int (nI (sc (ftH h) 0 l))), d5], [.int (cI e.1)], t) Q := by
      intro t d5 A hL hB
      ((repeat refine VV.s rfl rfl ?_); (try (conv => arg 3; simp only [Nat.reduceAdd, sto1, sto2, isL, cond_true, cond_false, List.drop_succ_cons, List.drop_zero, List.drop_nil])))
      refine VV.callE rfl rfl rfl rfl (f_nextN h6 (R.o59 A).1.1 (fun k hk => by have := hlv k hk; omega) hL hk) rfl ?_
      refine VV.s rfl rfl ?_
      refine VV.s rfl rfl ?_
      refine VV.s rfl rfl ?_
      refine VV.s rfl rfl ?_
      refine VV.itt rfl ?_
      exact K t _ _ A hB
    have es : nI (sc (ftH h) 0 l) = cI (sc (ftH h) 0 l + 1) := (cI_s _).symm
    ((repeat (fail_if_success show VV _ _ (91, _, _, _) _); refine VV.s rfl rfl ?_); (try (conv => arg 3; simp only [Nat.reduceAdd, sto1, sto2, isL, cond_true, cond_false, List.drop_succ_cons, List.drop_zero, List.drop_nil])))
    by_cases q : sc (ftH h) 0 l + 1 ≤ a.1
    · have q2 : nI (sc (ftH h) 0 l) ≤ cI a.1 := by rw [es, cI_le (by omega) (by omega)]; exact q
      have ee : a = e := by rw [← he]; exact (if_neg (by show ¬ a.1 < sc (ftH h) 0 l + 1; omega)).symm
      have k126 : ∀ d5, V 148 (126, [some (.ref 41), some (.int p), some (.int (cI a.1)), some (.int 1), some (.int (nI (sc (ftH h) 0 l))), d5], [], t) Q := by
        intro d5
        ((repeat refine VV.s rfl rfl ?_); (try (conv => arg 3; simp only [Nat.reduceAdd, sto1, sto2, isL, cond_true, cond_false, List.drop_succ_cons, List.drop_zero, List.drop_nil])))
        refine VV.itt q2 ?_
        ((repeat (fail_if_success show VV _ _ (138, _, _, _) _); refine VV.s rfl rfl ?_); (try (conv => arg 3; simp only [Nat.reduceAdd, sto1, sto2, isL, cond_true, cond_false, List.drop_succ_cons, List.drop_zero, List.drop_nil])))
        have := tail t d5 A hL (by rw [← ee]; exact hB)
        rw [← ee] at this
        exact this
      ((repeat refine VV.s rfl rfl ?_); (try (conv => arg 3; simp only [Nat.reduceAdd, sto1, sto2, isL, cond_true, cond_false, List.drop_succ_cons, List.drop_zero, List.drop_nil])))
      refine VV.ite (fun _ => k126 _) (fun _ => ?_)
      ((repeat refine VV.s rfl rfl ?_); (try (conv => arg 3; simp only [Nat.reduceAdd, sto1, sto2, isL, cond_true, cond_false, List.drop_succ_cons, List.drop_zero, List.drop_nil])))
      exact VV.itt q2 (k126 _)
    · have q2 : ¬ nI (sc (ftH h) 0 l) ≤ cI a.1 := by rw [es, cI_le (by omega) (by omega)]; exact q
      have ee : (sc (ftH h) 0 l + 1, l) = e := by rw [← he]; exact (if_pos (by show a.1 < sc (ftH h) 0 l + 1; omega)).symm
      refine m_best_copy h6 q2 (fun t d5 A hL hB => ?_) (fun t A => (R.o59 A).1.1) (hn h) 0 t (by omega) A hL (fun k hk => by omega)
      ((repeat refine VV.s rfl rfl ?_); (try (conv => arg 3; simp only [Nat.reduceAdd, sto1, sto2, isL, cond_true, cond_false, List.drop_succ_cons, List.drop_zero, List.drop_nil])))
      refine VV.itf q2 ?_
      ((repeat (fail_if_success show VV _ _ (138, _, _, _) _); refine VV.s rfl rfl ?_); (try (conv => arg 3; simp only [Nat.reduceAdd, sto1, sto2, isL, cond_true, cond_false, List.drop_succ_cons, List.drop_zero, List.drop_nil])))
      have := tail t d5 A hL (by rw [← ee]; exact fun _ => hB)
      rw [← ee] at this
      rw [es]
      rw [es] at this
      exact this
  | cons l' r ih =>
    intro l a t d4 d5 ha hc he A hL hB
    rw [chk, Bool.and_eq_true, Bool.and_eq_true] at hc
    have hl := hc.1.1
    have hc2 := hc.1.2
    rw [Bool.and_eq_true] at hc2
    have hk : nlK (lnf l) (hn h - 1) ≠ 0 := fun q => by rw [q] at hc2; exact absurd hc2.1 (by decide)
    have hnx := eqN_at _ _ _ hc2.2
    obtain ⟨hll, hlv⟩ := lnOk_at hl
    have hs := sc_le (ftH_le h) l 0
    have he : (l' :: r).foldl (fms (sc (ftH h) 0)) (fms (sc (ftH h) 0) a l) = e := he
    ((repeat (fail_if_success show VV _ _ (55, _, _, _) _); refine VV.s rfl rfl ?_); (try (conv => arg 3; simp only [Nat.reduceAdd, sto1, sto2, isL, cond_true, cond_false, List.drop_succ_cons, List.drop_zero, List.drop_nil])))
    refine m_best_sum G (R.o59 A) hl hL (fun d5 => ?_) (hn h) 0 0 (by omega) (by rw [List.drop_zero]; omega)
    have tail : ∀ b : Nat × List Nat, fms (sc (ftH h) 0) a l = b → b.1 ≤ 100 → ∀ t d5, Agr o59 u t → (∀ k, k < hn h → gA t 59 k = nI (lnf l k)) → (b.1 ≠ 0 → ∀ k, k < hn h → gA t 60 k = nI (lnf b.2 k)) → V 148 (138, [some (.ref 41), some (.int p), some (.int (cI a.1)), some (.int 1), some (.int (nI (sc (ftH h) 0 l))), d5], [.int (cI b.1)], t) Q := by
      intro b eb hb t d5 A hL hB
      rw [eb] at he
      ((repeat refine VV.s rfl rfl ?_); (try (conv => arg 3; simp only [Nat.reduceAdd, sto1, sto2, isL, cond_true, cond_false, List.drop_succ_cons, List.drop_zero, List.drop_nil])))
      refine VV.call rfl rfl rfl rfl (f_nextY h6 (R.o59 A).1.1 (fun k hk => by have := hlv k hk; omega) hL hk) (fun rr t2 qq => ?_)
      obtain ⟨rfl, L2, A2⟩ := qq
      refine VV.s rfl rfl ?_
      refine VV.s rfl rfl ?_
      refine VV.s rfl rfl ?_
      refine VV.s rfl rfl ?_
      refine VV.itf (by decide) ?_
      exact ih l' b t2 _ _ hb hc.2 he (A.tr (A2.sub (fun k hk => hk.1))) (fun k hk => by rw [← hnx k hk]; exact L2 k hk) (fun q k hk => by rw [(A2 60 (by decide)).2.2]; exact hB q k hk)
    have es : nI (sc (ftH h) 0 l) = cI (sc (ftH h) 0 l + 1) := (cI_s _).symm
    ((repeat (fail_if_success show VV _ _ (91, _, _, _) _); refine VV.s rfl rfl ?_); (try (conv => arg 3; simp only [Nat.reduceAdd, sto1, sto2, isL, cond_true, cond_false, List.drop_succ_cons, List.drop_zero, List.drop_nil])))
    by_cases q : sc (ftH h) 0 l + 1 ≤ a.1
    · have q2 : nI (sc (ftH h) 0 l) ≤ cI a.1 := by rw [es, cI_le (by omega) (by omega)]; exact q
      have k126 : ∀ d5, V 148 (126, [some (.ref 41), some (.int p), some (.int (cI a.1)), some (.int 1), some (.int (nI (sc (ftH h) 0 l))), d5], [], t) Q := by
        intro d5
        ((repeat refine VV.s rfl rfl ?_); (try (conv => arg 3; simp only [Nat.reduceAdd, sto1, sto2, isL, cond_true, cond_false, List.drop_succ_cons, List.drop_zero, List.drop_nil])))
        refine VV.itt q2 ?_
        ((repeat (fail_if_success show VV _ _ (138, _, _, _) _); refine VV.s rfl rfl ?_); (try (conv => arg 3; simp only [Nat.reduceAdd, sto1, sto2, isL, cond_true, cond_false, List.drop_succ_cons, List.drop_zero, List.drop_nil])))
        exact tail a (if_neg (by show ¬ a.1 < sc (ftH h) 0 l + 1; omega)) ha t d5 A hL hB
      ((repeat refine VV.s rfl rfl ?_); (try (conv => arg 3; simp only [Nat.reduceAdd, sto1, sto2, isL, cond_true, cond_false, List.drop_succ_cons, List.drop_zero, List.drop_nil])))
      refine VV.ite (fun _ => k126 _) (fun _ => ?_)
      ((repeat refine VV.s rfl rfl ?_); (try (conv => arg 3; simp only [Nat.reduceAdd, sto1, sto2, isL, cond_true, cond_false, List.drop_succ_cons, List.drop_zero, List.drop_nil])))
      exact VV.itt q2 (k126 _)
    · have q2 : ¬ nI (sc (ftH h) 0 l) ≤ cI a.1 := by rw [es, cI_le (by omega) (by omega)]; exact q
      refine m_best_copy h6 q2 (fun t d5 A hL hB => ?_) (fun t A => (R.o59 A).1.1) (hn h) 0 t (by omega) A hL (fun k hk => by omega)
      ((repeat refine VV.s rfl rfl ?_); (try (conv => arg 3; simp only [Nat.reduceAdd, sto1, sto2, isL, cond_true, cond_false, List.drop_succ_cons, List.drop_zero, List.drop_nil])))
      refine VV.itf q2 ?_
      ((repeat (fail_if_success show VV _ _ (138, _, _, _) _); refine VV.s rfl rfl ?_); (try (conv => arg 3; simp only [Nat.reduceAdd, sto1, sto2, isL, cond_true, cond_false, List.drop_succ_cons, List.drop_zero, List.drop_nil])))
      have := tail (sc (ftH h) 0 l + 1, l) (if_pos (by show a.1 < sc (ftH h) 0 l + 1; omega)) (by show sc (ftH h) 0 l + 1 ≤ 100; omega) t d5 A hL (fun _ => hB)
      rw [es]
      rw [es] at this
      exact this
set_option maxHeartbeats 8000000 in
theorem m_best_all {h : Hs} (R : MRep u h) (G : GoodH h) {p : Int32} {Q : Option Value → Sg → Prop} (K : ∀ t d4 d5, Agr o59 u t → (∀ k, k < hn h → gA t 60 k = nI (bsN h k)) → V 148 (147, [some (.ref 41), some (.int p), some (.int (cI (BH h 0).1)), some (.int 0), d4, d5], [], t) Q) : V 148 (18, [some (.ref 41), some (.int p), none, none, none, none], [], u) Q := by
  have h6 := G.1.1
  have hc := chk_all (hn h) (by omega)
  have hf := first_all (hn h) (by omega)
  have eb : (lp (hn h) (hn h) 0).foldl (fms (sc (ftH h) 0)) (0, []) = BH h 0 := by
    have := fold_lp (hn h) (ftH h) (hn h) 0 (Nat.le_refl _)
    rw [Nat.sub_self] at this
    exact this
  have hpos : 0 < (BH h 0).1 := bp_pos _ h6 (Nat.pow_pos (by omega))
  have lp0 : ∀ k i t, i + k = hn h → Agr o59 u t → (∀ k, k < i → gA t 59 k = nI k) → V 148 (20, [some (.ref 41), some (.int p), some (.int (nI i)), none, none, none], [], t) Q := by
    intro k
    induction k with
    | zero =>
      intro i t hi A hL
      ((repeat refine VV.s rfl rfl ?_); (try (conv => arg 3; simp only [Nat.reduceAdd, sto1, sto2, isL, cond_true, cond_false, List.drop_succ_cons, List.drop_zero, List.drop_nil])))
      refine VV.itt (by rw [(R.o59 A).1.1]; exact nI_le (by omega) (by omega)) ?_
      refine VV.s rfl rfl ?_
      refine VV.s rfl rfl ?_
      refine VV.s rfl rfl ?_
      refine VV.s rfl rfl ?_
      refine VV.s rfl rfl ?_
      refine VV.s rfl rfl ?_
      refine VV.itf (by decide) ?_
      cases hL0 : lp (hn h) (hn h) 0 with
      | nil => rw [hL0] at hf; cases hf
      | cons l r =>
        rw [hL0] at hf hc eb
        have hid := eqN_at _ _ _ hf
        exact m_best_line R G (e := BH h 0) (fun t d4 d5 A hB => K t d4 d5 A (hB (by omega))) r l (0, []) t _ _ (by simp) hc eb A (fun k hk => by rw [hid k hk]; exact hL k (by omega)) (fun q => absurd rfl q)
    | succ k ih =>
      intro i t hi A hL
      ((repeat refine VV.s rfl rfl ?_); (try (conv => arg 3; simp only [Nat.reduceAdd, sto1, sto2, isL, cond_true, cond_false, List.drop_succ_cons, List.drop_zero, List.drop_nil])))
      refine VV.itf (by rw [(R.o59 A).1.1]; exact nI_ge (by omega) (by omega)) ?_
      ((repeat refine VV.s rfl rfl ?_); (try (conv => arg 3; simp only [Nat.reduceAdd, sto1, sto2, isL, cond_true, cond_false, List.drop_succ_cons, List.drop_zero, List.drop_nil])))
      refine VV.iast rfl rfl rfl (show i < 6 by omega) (by decide) ?_
      ((repeat (fail_if_success show VV _ _ (20, _, _, _) _); refine VV.s rfl rfl ?_); (try (conv => arg 3; simp only [Nat.reduceAdd, sto1, sto2, isL, cond_true, cond_false, List.drop_succ_cons, List.drop_zero, List.drop_nil])))
      rw [nI_1]
      refine ih (i + 1) _ (by omega) (A.A (fun q => q.1 rfl)) (fun k hk => ?_)
      rw [gA_pA, if_pos rfl, upd_at]
      split
      · rename_i e; rw [e]
      · exact hL k (by omega)
  ((repeat (fail_if_success show VV _ _ (20, _, _, _) _); refine VV.s rfl rfl ?_); (try (conv => arg 3; simp only [Nat.reduceAdd, sto1, sto2, isL, cond_true, cond_false, List.drop_succ_cons, List.drop_zero, List.drop_nil])))
  exact lp0 (hn h) 0 u (by omega) Agr.rf (fun k hk => by omega)
theorem m_best_bad (C : MInv u z) {p : Int32} (h0 : ¬ p = -1) (h : ¬ thr (hn z.1) p) : MC 148 [some (.ref 41), some (.int p), none, none, none, none] u (.int (-10)) (zB z) := by
  ((repeat refine VV.s rfl rfl ?_); (try (conv => arg 3; simp only [Nat.reduceAdd, sto1, sto2, isL, cond_true, cond_false, List.drop_succ_cons, List.drop_zero, List.drop_nil])))
  refine VV.itf h0 ?_
  ((repeat refine VV.s rfl rfl ?_); (try (conv => arg 3; simp only [Nat.reduceAdd, sto1, sto2, isL, cond_true, cond_false, List.drop_succ_cons, List.drop_zero, List.drop_nil])))
  refine VV.callE rfl rfl rfl rfl (f_oneN C.1.1.1 h) rfl ?_
  refine VV.s rfl rfl ?_
  refine VV.itf (by decide) ?_
  ((repeat refine VV.s rfl rfl ?_); (try (conv => arg 3; simp only [Nat.reduceAdd, sto1, sto2, isL, cond_true, cond_false, List.drop_succ_cons, List.drop_zero, List.drop_nil])))
  refine VV.callE rfl rfl rfl rfl f_ten rfl ?_
  ((repeat refine VV.s rfl rfl ?_); (try (conv => arg 3; simp only [Nat.reduceAdd, sto1, sto2, isL, cond_true, cond_false, List.drop_succ_cons, List.drop_zero, List.drop_nil])))
  exact VV.ret1 rfl ⟨rfl, C.bad, (Agr.rf).A (by decide)⟩
theorem MInv.o59 (C : MInv u z) {t : Sg} (A : Agr o59 u t) : MInv t z ∧ Agr onC u t := ⟨C.keep2 (fun k hk => (A k (by constructor <;> omega)).2.2) (fun j _ => (A 41 (by decide)).1 j) (fun j _ => (A 41 (by decide)).2.1 j), A.sub (fun k hk => by have hk : k ≤ 40 := hk; constructor <;> omega)⟩
theorem m_best_1 (C : MInv u z) (G : GoodH z.1) : MC 148 [some (.ref 41), some (.int (-1)), none, none, none, none] u (.int (cI (BH z.1 0).1)) z := by
  refine VV.s rfl rfl ?_
  refine VV.s rfl rfl ?_
  refine VV.s rfl rfl ?_
  refine VV.itt rfl ?_
  refine m_best_all C.1 G (fun t d4 d5 A hB => ?_)
  refine VV.s rfl rfl ?_
  refine VV.s rfl rfl ?_
  refine VV.s rfl rfl ?_
  refine VV.itf (fun q => q rfl) ?_
  ((repeat refine VV.s rfl rfl ?_); (try (conv => arg 3; simp only [Nat.reduceAdd, sto1, sto2, isL, cond_true, cond_false, List.drop_succ_cons, List.drop_zero, List.drop_nil])))
  exact VV.ret1 rfl ⟨rfl, C.o59 A⟩
theorem m_best_ok (C : MInv u z) (G : GoodH z.1) {p : Nat} (hp : p < hn z.1) (t1 : thr (hn z.1) (nI p)) : MC 148 [some (.ref 41), some (.int (nI p)), none, none, none, none] u (.int (nI (bsN z.1 p))) z := by
  have h6 := G.1.1
  ((repeat refine VV.s rfl rfl ?_); (try (conv => arg 3; simp only [Nat.reduceAdd, sto1, sto2, isL, cond_true, cond_false, List.drop_succ_cons, List.drop_zero, List.drop_nil])))
  refine VV.itf (nI_ne1 (by omega)) ?_
  ((repeat refine VV.s rfl rfl ?_); (try (conv => arg 3; simp only [Nat.reduceAdd, sto1, sto2, isL, cond_true, cond_false, List.drop_succ_cons, List.drop_zero, List.drop_nil])))
  refine VV.callE rfl rfl rfl rfl (f_oneY C.1.1.1 t1) rfl ?_
  refine VV.s rfl rfl ?_
  refine VV.itt (by decide) ?_
  refine m_best_all C.1 G (fun t d4 d5 A hB => ?_)
  ((repeat refine VV.s rfl rfl ?_); (try (conv => arg 3; simp only [Nat.reduceAdd, sto1, sto2, isL, cond_true, cond_false, List.drop_succ_cons, List.drop_zero, List.drop_nil])))
  refine VV.itt (nI_ne1 (by omega)) ?_
  ((repeat refine VV.s rfl rfl ?_); (try (conv => arg 3; simp only [Nat.reduceAdd, sto1, sto2, isL, cond_true, cond_false, List.drop_succ_cons, List.drop_zero, List.drop_nil])))
  refine VV.iald rfl rfl rfl (show p < 6 by omega) (by decide) ?_
  rw [hB p hp]
  exact VV.ret1 rfl ⟨rfl, C.o59 A⟩
end M15
