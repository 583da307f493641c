/-! ===== reading: the reference's read ===== -/
section RM5
variable {u : Sg} {z : Zs} {T : Nat → Nat} {N : Nat}
theorem rdW_len {j s : Nat} (h : rdW T N j s = true) : rdWz T N s - s = (txt j).length := by
  unfold rdW at h
  rw [Bool.and_eq_true, decide_eq_true_iff] at h
  exact h.1
theorem rdW_off {j k s : Nat} (h : rdW T N j s = true) (hk : ¬ (txt j).length = (txt k).length) : rdW T N k s = false := rdW_no (by rw [rdW_len h]; exact hk)
theorem wh_cases {s : Nat} : (whN T N s = 1 ∧ rdW T N 0 s = true) ∨ (whN T N s = 2 ∧ rdW T N 1 s = true) ∨ (whN T N s = 3 ∧ rdW T N 2 s = true ∧ rdW T N 1 s = false) ∨ (whN T N s = 4 ∧ rdW T N 3 s = true ∧ rdW T N 1 s = false ∧ rdW T N 2 s = false) ∨ (whN T N s = 0 ∧ rdW T N 1 s = false ∧ rdW T N 2 s = false ∧ rdW T N 3 s = false ∧ rdW T N 0 s = false) := by
  unfold whN
  cases h0 : rdW T N 0 s with
  | true => exact Or.inl ⟨rfl, rfl⟩
  | false =>
    cases h1 : rdW T N 1 s with
    | true => exact Or.inr (Or.inl ⟨rfl, rfl⟩)
    | false =>
      cases h2 : rdW T N 2 s with
      | true => exact Or.inr (Or.inr (Or.inl ⟨rfl, rfl, rfl⟩))
      | false =>
        cases h3 : rdW T N 3 s with
        | true => exact Or.inr (Or.inr (Or.inr (Or.inl ⟨rfl, rfl, rfl, rfl⟩)))
        | false => exact Or.inr (Or.inr (Or.inr (Or.inr ⟨rfl, rfl, rfl, rfl, rfl⟩)))
theorem RQ_tr {u' t : Sg} {r : Option Value} {x : Nat ⊕ (Hs × Nat)} (B : FR u u') (q : RQ u' x r t) : RQ u x r t := by
  rcases x with f | ⟨h', e⟩
  · exact ⟨q.1, q.2.1, B.tr q.2.2⟩
  · exact ⟨q.1, q.2.1, q.2.2.1, B.tr q.2.2.2⟩
set_option maxHeartbeats 8000000 in
theorem f_readsItem {h : Hs} {s : Nat} (X : TM T N u) (hs : s ≤ N) (g : gI u 41 17 = nI s) (R : RM h u) (G : GoodH h) : V 122 (0, [some (.ref 41), none], [], u) (RQ u (pItem T N h s)) := by
  have h6 := G.1.1
  have ret : ∀ {t r L x}, RQ u x r t → V 122 (82, L, r.toList ++ [], t) (RQ u x) := by
    intro t r L x q
    rcases x with f | ⟨h', e⟩
    · obtain ⟨rfl, q⟩ := q; exact VV.ret3 rfl (Or.inl rfl) ⟨rfl, q⟩
    · obtain ⟨rfl, q⟩ := q; exact VV.ret3 rfl (Or.inr rfl) ⟨rfl, q⟩
  ((repeat refine VV.s rfl rfl ?_); (try (conv => arg 3; simp only [Nat.reduceAdd, sto1, sto2, isL, cond_true, cond_false, List.drop_succ_cons, List.drop_zero, List.drop_nil])))
  refine VV.callE rfl rfl rfl rfl (f_wordHere X hs g) rfl ?_
  unfold pItem
  rcases wh_cases (T := T) (N := N) (s := s) with ⟨e, w⟩ | ⟨e, w⟩ | ⟨e, w, w1⟩ | ⟨e, w, w1, w2⟩ | ⟨e, w1, w2, w3, w0⟩
  · rw [e, show cI 1 = (0 : Int32) from by decide, rdW_off w (k := 1) (by decide), rdW_off w (k := 2) (by decide), rdW_off w (k := 3) (by decide)]
    refine VV.s rfl rfl ?_
    refine VV.s rfl rfl ?_
    refine VV.s rfl rfl ?_
    refine VV.s rfl rfl ?_
    refine VV.itt (by decide) ?_
    ((repeat refine VV.s rfl rfl ?_); (try (conv => arg 3; simp only [Nat.reduceAdd, sto1, sto2, isL, cond_true, cond_false, List.drop_succ_cons, List.drop_zero, List.drop_nil])))
    exact VV.ret3 rfl (Or.inl rfl) ⟨rfl, g, FR.rf⟩
  · rw [e, show cI 2 = (1 : Int32) from by decide, if_pos w]
    have k : s + 3 ≤ N := by
      have k0 := (rdW_at (T := T) (j := 1) hs (by omega) w).2.1
      have e3 : (txt 1).length = 3 := by decide
      omega
    have g3 : gI (pI u 41 17 (gI u 41 17 + 3)) 41 17 = nI (s + 3) := by
      show gI u 41 17 + 3 = _
      rw [g]
      exact add_nI s 3
    refine VV.s rfl rfl ?_
    refine VV.s rfl rfl ?_
    refine VV.s rfl rfl ?_
    refine VV.s rfl rfl ?_
    refine VV.itf (by decide) ?_
    refine VV.s rfl rfl ?_
    refine VV.s rfl rfl ?_
    refine VV.s rfl rfl ?_
    refine VV.itf (fun x => x rfl) ?_
    ((repeat refine VV.s rfl rfl ?_); (try (conv => arg 3; simp only [Nat.reduceAdd, sto1, sto2, isL, cond_true, cond_false, List.drop_succ_cons, List.drop_zero, List.drop_nil])))
    refine VV.ite (fun q => ?_) (fun q => ?_)
    · rw [R.1.1] at q
      have q : ¬ nI (hn h) = nI 6 := q
      rw [eq_nI (by omega) (by omega)] at q
      refine VV.s rfl rfl ?_
      refine VV.s rfl rfl ?_
      refine VV.s rfl rfl ?_
      refine VV.s rfl rfl ?_
      refine VV.s rfl rfl ?_
      refine VV.s rfl rfl ?_
      refine VV.itf (fun x => x rfl) ?_
      refine VV.s rfl rfl ?_
      refine VV.s rfl rfl ?_
      refine VV.s rfl rfl ?_
      refine VV.s rfl rfl ?_
      refine VV.s rfl rfl ?_
      refine VV.s rfl rfl ?_
      refine VV.s rfl rfl ?_
      refine VV.itf (fun x => x rfl) ?_
      refine VV.s rfl rfl ?_
      have B : FR u (pI u 41 17 (gI u 41 17 + 3)) := FR.rf.I (Or.inl rfl)
      refine VV.call rfl rfl rfl rfl (f_readsOne (T := T) (N := N) (h := h) (s := s) (i := s + 3) (u := pI u 41 17 (gI u 41 17 + 3)) (X.fr B) k g3 R.I17 G (by omega)) (fun r t q1 => ?_)
      exact VV.s (st' := (82, _, r.toList ++ [], t)) rfl rfl (ret (RQ_tr B q1))
    · rw [R.1.1] at q
      have q : ¬ ¬ nI (hn h) = nI 6 := q
      rw [eq_nI (by omega) (by omega)] at q
      unfold pOne
      rw [if_pos (by omega)]
      ((repeat refine VV.s rfl rfl ?_); (try (conv => arg 3; simp only [Nat.reduceAdd, sto1, sto2, isL, cond_true, cond_false, List.drop_succ_cons, List.drop_zero, List.drop_nil])))
      exact VV.ret3 rfl (Or.inl rfl) ⟨rfl, g, FR.rf⟩
  · rw [e, show cI 3 = (2 : Int32) from by decide, if_neg (by rw [w1]; decide), if_pos w]
    have k : s + 5 ≤ N := by
      have k0 := (rdW_at (T := T) (j := 2) hs (by omega) w).2.1
      have e5 : (txt 2).length = 5 := by decide
      omega
    have g5 : gI (pI u 41 17 (gI u 41 17 + 5)) 41 17 = nI (s + 5) := by
      show gI u 41 17 + 5 = _
      rw [g]
      exact add_nI s 5
    refine VV.s rfl rfl ?_
    refine VV.s rfl rfl ?_
    refine VV.s rfl rfl ?_
    refine VV.s rfl rfl ?_
    refine VV.itf (by decide) ?_
    refine VV.s rfl rfl ?_
    refine VV.s rfl rfl ?_
    refine VV.s rfl rfl ?_
    refine VV.itt (by decide) ?_
    refine VV.s rfl rfl ?_
    refine VV.s rfl rfl ?_
    refine VV.s rfl rfl ?_
    refine VV.s rfl rfl ?_
    refine VV.s rfl rfl ?_
    refine VV.s rfl rfl ?_
    refine VV.itt (by decide) ?_
    refine VV.s rfl rfl ?_
    refine VV.s rfl rfl ?_
    refine VV.s rfl rfl ?_
    refine VV.itf (fun x => x rfl) ?_
    refine VV.s rfl rfl ?_
    refine VV.s rfl rfl ?_
    refine VV.s rfl rfl ?_
    refine VV.s rfl rfl ?_
    refine VV.s rfl rfl ?_
    refine VV.s rfl rfl ?_
    refine VV.s rfl rfl ?_
    refine VV.itt (by decide) ?_
    refine VV.s rfl rfl ?_
    refine VV.s rfl rfl ?_
    refine VV.s rfl rfl ?_
    refine VV.itf (fun x => x rfl) ?_
    refine VV.s rfl rfl ?_
    have B : FR u (pI u 41 17 (gI u 41 17 + 5)) := FR.rf.I (Or.inl rfl)
    refine VV.call rfl rfl rfl rfl (f_readsLeave (T := T) (N := N) (h := h) (i := s + 5) (u := pI u 41 17 (gI u 41 17 + 5)) (X.fr B) k g5 R.I17 G) (fun r t q1 => ?_)
    exact VV.s (st' := (82, _, r.toList ++ [], t)) rfl rfl (ret (RQ_tr B q1))
  · rw [e, show cI 4 = (3 : Int32) from by decide, if_neg (by rw [w1]; decide), if_neg (by rw [w2]; decide), if_pos w]
    have k : s + 4 ≤ N := by
      have k0 := (rdW_at (T := T) (j := 3) hs (by omega) w).2.1
      have e4 : (txt 3).length = 4 := by decide
      omega
    have g4 : gI (pI u 41 17 (gI u 41 17 + 4)) 41 17 = nI (s + 4) := by
      show gI u 41 17 + 4 = _
      rw [g]
      exact add_nI s 4
    refine VV.s rfl rfl ?_
    refine VV.s rfl rfl ?_
    refine VV.s rfl rfl ?_
    refine VV.s rfl rfl ?_
    refine VV.itf (by decide) ?_
    refine VV.s rfl rfl ?_
    refine VV.s rfl rfl ?_
    refine VV.s rfl rfl ?_
    refine VV.itt (by decide) ?_
    refine VV.s rfl rfl ?_
    refine VV.s rfl rfl ?_
    refine VV.s rfl rfl ?_
    refine VV.s rfl rfl ?_
    refine VV.s rfl rfl ?_
    refine VV.s rfl rfl ?_
    refine VV.itt (by decide) ?_
    refine VV.s rfl rfl ?_
    refine VV.s rfl rfl ?_
    refine VV.s rfl rfl ?_
    refine VV.itt (by decide) ?_
    refine VV.s rfl rfl ?_
    refine VV.s rfl rfl ?_
    refine VV.s rfl rfl ?_
    refine VV.s rfl rfl ?_
    refine VV.s rfl rfl ?_
    refine VV.s rfl rfl ?_
    refine VV.itt (by decide) ?_
    refine VV.s rfl rfl ?_
    refine VV.s rfl rfl ?_
    refine VV.s rfl rfl ?_
    refine VV.itt (by decide) ?_
    refine VV.s rfl rfl ?_
    have B : FR u (pI u 41 17 (gI u 41 17 + 4)) := FR.rf.I (Or.inl rfl)
    refine VV.call rfl rfl rfl rfl (f_readsLend (T := T) (N := N) (h := h) (i := s + 4) (u := pI u 41 17 (gI u 41 17 + 4)) (X.fr B) k g4 R.I17 G) (fun r t q1 => ?_)
    exact ret (RQ_tr B q1)
  · rw [e, show cI 0 = (-1 : Int32) from by decide, if_neg (by rw [w1]; decide), if_neg (by rw [w2]; decide), if_neg (by rw [w3]; decide)]
    refine VV.s rfl rfl ?_
    refine VV.s rfl rfl ?_
    refine VV.s rfl rfl ?_
    refine VV.s rfl rfl ?_
    refine VV.itt (by decide) ?_
    ((repeat refine VV.s rfl rfl ?_); (try (conv => arg 3; simp only [Nat.reduceAdd, sto1, sto2, isL, cond_true, cond_false, List.drop_succ_cons, List.drop_zero, List.drop_nil])))
    exact VV.ret3 rfl (Or.inl rfl) ⟨rfl, g, FR.rf⟩
end RM5
