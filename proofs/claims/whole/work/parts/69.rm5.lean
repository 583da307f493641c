/-! ===== reading: the reference's read ===== -/
section RM5
variable {u : Sg} {z : Zs} {T : Nat → Nat} {N : Nat}
theorem rdW_len {j s : Nat} (h : rdW T N j s = true) : rdWz T N s - s = (txt j).length := by
  unfold rdW at h
  rw [Bool.and_eq_true, decide_eq_true_iff] at h
  exact h.1
theorem rdW_off {j k s : Nat} (h : rdW T N j s = true) (hk : ¬ (txt j).length = (txt k).length) : rdW T N k s = false := rdW_no (by rw [rdW_len h]; exact hk)
theorem wh_cases {s : Nat} : (whN T N s = 1 ∧ rdW T N 0 s = true) ∨ (whN T N s = 2 ∧ rdW T N 1 s = true) ∨ (whN T N s = 3 ∧ rdW T N 2 s = true ∧ rdW T N 1 s = false) ∨ (whN T N s = 4 ∧ rdW T N 3 s = true ∧ rdW T N 1 s = false ∧ rdW T N 2 s = false) ∨ (whN T N s = 0 ∧ rdW T N 1 s = false ∧ rdW T N 2 s = false ∧ rdW T N 3 s = false ∧ rdW T N 0 s = false) := by
  unfold whN
  cases h0 : rdW T N 0 s with
  | true => exact Or.inl ⟨rfl, rfl⟩
  | false =>
    cases h1 : rdW T N 1 s with
    | true => exact Or.inr (Or.inl ⟨rfl, rfl⟩)
    | false =>
      cases h2 : rdW T N 2 s with
      | true => exact Or.inr (Or.inr (Or.inl ⟨rfl, rfl, rfl⟩))
      | false =>
        cases h3 : rdW T N 3 s with
        | true => exact Or.inr (Or.inr (Or.inr (Or.inl ⟨rfl, rfl, rfl, rfl⟩)))
        | false => exact Or.inr (Or.inr (Or.inr (Or.inr ⟨rfl, rfl, rfl, rfl, rfl⟩)))
set_option maxHeartbeats 8000000 in
theorem f_readsItem {h : Hs} {s : Nat} (X : TM T N u) (hs : s ≤ N) (g : gI u 41 17 = nI s) (R : RM h u) (G : GoodH h) : V 122 (0, [some (.ref 41), none], [], u) (RQ u (pItem T N h s)) := by
  have h6 := G.1.1
  have ret : ∀ {t r L x}, RQ u x r t → V 122 (82, L, r.toList, t) (RQ u x) := by
    intro t r L x q
    rcases x with f | ⟨h', e⟩
    · obtain ⟨rfl, q⟩ := q; exact VV.ret3 rfl (Or.inl rfl) ⟨rfl, q⟩
    · obtain ⟨rfl, q⟩ := q; exact VV.ret3 rfl (Or.inr rfl) ⟨rfl, q⟩
  ((repeat refine VV.s rfl rfl ?_); (try (conv => arg 3; simp only [Nat.reduceAdd, sto1, sto2, isL, cond_true, cond_false, List.drop_succ_cons, List.drop_zero, List.drop_nil])))
  refine VV.callE rfl rfl rfl rfl (f_wordHere X hs g) rfl ?_
  unfold pItem
  rcases wh_cases (T := T) (N := N) (s := s) with ⟨e, w⟩ | ⟨e, w⟩ | ⟨e, w, w1⟩ | ⟨e, w, w1, w2⟩ | ⟨e, w1, w2, w3, w0⟩
  · rw [e, rdW_off w (k := 1) (by decide), rdW_off w (k := 2) (by decide), rdW_off w (k := 3) (by decide)]
    refine VV.s rfl rfl ?_
    refine VV.s rfl rfl ?_
    refine VV.s rfl rfl ?_
    refine VV.s rfl rfl ?_
    refine VV.itt (by decide) ?_
    ((repeat refine VV.s rfl rfl ?_); (try (conv => arg 3; simp only [Nat.reduceAdd, sto1, sto2, isL, cond_true, cond_false, List.drop_succ_cons, List.drop_zero, List.drop_nil])))
    exact VV.ret3 rfl (Or.inl rfl) ⟨rfl, g, FR.rf⟩
  · rw [e, if_pos w]
    have k := (rdW_at (T := T) (j := 1) hs (by omega) w).2.1
    refine VV.s rfl rfl ?_
    refine VV.s rfl rfl ?_
    refine VV.s rfl rfl ?_
    refine VV.s rfl rfl ?_
    refine VV.itf (by decide) ?_
    refine VV.s rfl rfl ?_
    refine VV.s rfl rfl ?_
    refine VV.s rfl rfl ?_
    refine VV.itf (fun x => x rfl) ?_
    ((repeat refine VV.s rfl rfl ?_); (try (conv => arg 3; simp only [Nat.reduceAdd, sto1, sto2, isL, cond_true, cond_false, List.drop_succ_cons, List.drop_zero, List.drop_nil])))
    refine VV.ite (fun q => ?_) (fun q => ?_)
    · rw [R.1.1] at q
      have q : ¬ nI (hn h) = nI 6 := q
      rw [eq_nI (by omega) (by omega)] at q
      refine VV.s rfl rfl ?_
      refine VV.s rfl rfl ?_
      refine VV.s rfl rfl ?_
      refine VV.s rfl rfl ?_
      refine VV.s rfl rfl ?_
      refine VV.s rfl rfl ?_
      refine VV.itf (fun x => x rfl) ?_
      refine VV.s rfl rfl ?_
      refine VV.s rfl rfl ?_
      refine VV.s rfl rfl ?_
      refine VV.s rfl rfl ?_
      refine VV.s rfl rfl ?_
      refine VV.s rfl rfl ?_
      refine VV.s rfl rfl ?_
      refine VV.itf (fun x => x rfl) ?_
      refine VV.s rfl rfl ?_
      have B : FR u (pI u 41 17 (gI u 41 17 + 3)) := FR.rf.I (Or.inl rfl)
      refine VV.call rfl rfl rfl rfl (f_readsOne (T := T) (N := N) (h := h) (s := s) (i := s + 3) (u := pI u 41 17 (gI u 41 17 + 3)) (X.fr B) k (by show gI u 41 17 + 3 = _; rw [g]; exact nI_add s 3) R.I17 G (by omega)) (fun r t q1 => ?_)
      refine VV.s (st' := (82, _, r.toList ++ [], t)) rfl rfl ?_
      rw [List.append_nil]
      refine ret ?_
      revert q1
      cases pOne T N h s (s + 3) with
      | inl f => exact fun q1 => ⟨q1.1, q1.2.1, B.tr q1.2.2⟩
      | inr x => exact fun q1 => ⟨q1.1, q1.2.1, q1.2.2.1, B.tr q1.2.2.2⟩
    · rw [R.1.1] at q
      have q : ¬ ¬ nI (hn h) = nI 6 := q
      rw [eq_nI (by omega) (by omega)] at q
      unfold pOne
      rw [if_pos (by omega)]
      ((repeat refine VV.s rfl rfl ?_); (try (conv => arg 3; simp only [Nat.reduceAdd, sto1, sto2, isL, cond_true, cond_false, List.drop_succ_cons, List.drop_zero, List.drop_nil])))
      exact VV.ret3 rfl (Or.inl rfl) ⟨rfl, g, FR.rf⟩
  · rw [e, if_neg (by rw [w1]; decide), if_pos w]
    have k := (rdW_at (T := T) (j := 2) hs (by omega) w).2.1
    refine VV.s rfl rfl ?_
    refine VV.s rfl rfl ?_
    refine VV.s rfl rfl ?_
    refine VV.s rfl rfl ?_
    refine VV.itf (by decide) ?_
    refine VV.s rfl rfl ?_
    refine VV.s rfl rfl ?_
    refine VV.s rfl rfl ?_
    refine VV.itt (by decide) ?_
    refine VV.s rfl rfl ?_
    refine VV.s rfl rfl ?_
    refine VV.s rfl rfl ?_
    refine VV.s rfl rfl ?_
    refine VV.s rfl rfl ?_
    refine VV.s rfl rfl ?_
    refine VV.itt (by decide) ?_
    refine VV.s rfl rfl ?_
    refine VV.s rfl rfl ?_
    refine VV.s rfl rfl ?_
    refine VV.itf (fun x => x rfl) ?_
    refine VV.s rfl rfl ?_
    refine VV.s rfl rfl ?_
    refine VV.s rfl rfl ?_
    refine VV.s rfl rfl ?_
    refine VV.s rfl rfl ?_
    refine VV.s rfl rfl ?_
    refine VV.s rfl rfl ?_
    refine VV.itt (by decide) ?_
    refine VV.s rfl rfl ?_
    refine VV.s rfl rfl ?_
    refine VV.s rfl rfl ?_
    refine VV.itf (fun x => x rfl) ?_
    refine VV.s rfl rfl ?_
    have B : FR u (pI u 41 17 (gI u 41 17 + 5)) := FR.rf.I (Or.inl rfl)
    refine VV.call rfl rfl rfl rfl (f_readsLeave (T := T) (N := N) (h := h) (i := s + 5) (u := pI u 41 17 (gI u 41 17 + 5)) (X.fr B) k (by show gI u 41 17 + 5 = _; rw [g]; exact nI_add s 5) R.I17 G) (fun r t q1 => ?_)
    refine VV.s (st' := (82, _, r.toList ++ [], t)) rfl rfl ?_
    rw [List.append_nil]
    refine ret ?_
    revert q1
    cases pLeave T N h (s + 5) with
    | inl f => exact fun q1 => ⟨q1.1, q1.2.1, B.tr q1.2.2⟩
    | inr x => exact fun q1 => ⟨q1.1, q1.2.1, q1.2.2.1, B.tr q1.2.2.2⟩
  · rw [e, if_neg (by rw [w1]; decide), if_neg (by rw [w2]; decide), if_pos w]
    have k := (rdW_at (T := T) (j := 3) hs (by omega) w).2.1
    refine VV.s rfl rfl ?_
    refine VV.s rfl rfl ?_
    refine VV.s rfl rfl ?_
    refine VV.s rfl rfl ?_
    refine VV.itf (by decide) ?_
    refine VV.s rfl rfl ?_
    refine VV.s rfl rfl ?_
    refine VV.s rfl rfl ?_
    refine VV.itt (by decide) ?_
    refine VV.s rfl rfl ?_
    refine VV.s rfl rfl ?_
    refine VV.s rfl rfl ?_
    refine VV.s rfl rfl ?_
    refine VV.s rfl rfl ?_
    refine VV.s rfl rfl ?_
    refine VV.itt (by decide) ?_
    refine VV.s rfl rfl ?_
    refine VV.s rfl rfl ?_
    refine VV.s rfl rfl ?_
    refine VV.itt (by decide) ?_
    refine VV.s rfl rfl ?_
    refine VV.s rfl rfl ?_
    refine VV.s rfl rfl ?_
    refine VV.s rfl rfl ?_
    refine VV.s rfl rfl ?_
    refine VV.s rfl rfl ?_
    refine VV.itt (by decide) ?_
    refine VV.s rfl rfl ?_
    refine VV.s rfl rfl ?_
    refine VV.s rfl rfl ?_
    refine VV.itt (by decide) ?_
    refine VV.s rfl rfl ?_
    have B : FR u (pI u 41 17 (gI u 41 17 + 4)) := FR.rf.I (Or.inl rfl)
    refine VV.call rfl rfl rfl rfl (f_readsLend (T := T) (N := N) (h := h) (i := s + 4) (u := pI u 41 17 (gI u 41 17 + 4)) (X.fr B) k (by show gI u 41 17 + 4 = _; rw [g]; exact nI_add s 4) R.I17 G) (fun r t q1 => ?_)
    show V _ (82, _, r.toList ++ [], t) _
    rw [List.append_nil]
    refine ret ?_
    revert q1
    cases pLend T N h (s + 4) with
    | inl f => exact fun q1 => ⟨q1.1, q1.2.1, B.tr q1.2.2⟩
    | inr x => exact fun q1 => ⟨q1.1, q1.2.1, q1.2.2.1, B.tr q1.2.2.2⟩
  · rw [e, if_neg (by rw [w1]; decide), if_neg (by rw [w2]; decide), if_neg (by rw [w3]; decide)]
    refine VV.s rfl rfl ?_
    refine VV.s rfl rfl ?_
    refine VV.s rfl rfl ?_
    refine VV.s rfl rfl ?_
    refine VV.itt (by decide) ?_
    ((repeat refine VV.s rfl rfl ?_); (try (conv => arg 3; simp only [Nat.reduceAdd, sto1, sto2, isL, cond_true, cond_false, List.drop_succ_cons, List.drop_zero, List.drop_nil])))
    exact VV.ret3 rfl (Or.inl rfl) ⟨rfl, g, FR.rf⟩
def QM (u : Sg) : Nat ⊕ (Nat × Hs) → Option Value → Sg → Prop
  | .inl f, r, t => r = some (.int (-1)) ∧ gI t 41 17 = nI f ∧ FR u t
  | .inr (c, h), r, t => r = some (.int (nI c)) ∧ RM h t ∧ FR u t
theorem RM00 {t : Sg} (h : gI t 41 18 = 0) : RM H00 t := ⟨⟨h, fun v hv => absurd hv (Nat.not_lt_zero _)⟩, ⟨rfl, rfl, rfl⟩, fun v hv => absurd hv (Nat.not_lt_zero _)⟩
set_option maxHeartbeats 8000000 in
theorem f_read_loop (X : TM T N u) : ∀ f c h i t, GoodH h → i ≤ N → N < i + f → c + f = 151 → RM h t → gI t 41 17 = nI (rdSk T N i) → FR u t → V 123 (49, [some (.ref 41), some (.int (nI c))], [], t) (QM u (pLoop T N f c h i)) := by
  have hN := X.1
  intro f
  induction f with
  | zero => intro c h i t G hi hf; omega
  | succ f ih =>
    intro c h i t G hi hf hc R g A
    have hs := rdSk_le T hi
    have Xt := X.fr A
    rw [pLoop]
    ((repeat refine VV.s rfl rfl ?_); (try (conv => arg 3; simp only [Nat.reduceAdd, sto1, sto2, isL, cond_true, cond_false, List.drop_succ_cons, List.drop_zero, List.drop_nil])))
    refine VV.ite (fun q => ?_) (fun q => ?_)
    · rw [g, Xt.2.2.2, le_nI (by omega) (by omega)] at q
      rw [if_neg (by omega)]
      ((repeat refine VV.s rfl rfl ?_); (try (conv => arg 3; simp only [Nat.reduceAdd, sto1, sto2, isL, cond_true, cond_false, List.drop_succ_cons, List.drop_zero, List.drop_nil])))
      exact VV.ret1 rfl ⟨rfl, R, A⟩
    · rw [g, Xt.2.2.2, le_nI (by omega) (by omega)] at q
      rw [if_pos (by omega)]
      have hp := pItem_ok (T := T) G hs.2
      ((repeat refine VV.s rfl rfl ?_); (try (conv => arg 3; simp only [Nat.reduceAdd, sto1, sto2, isL, cond_true, cond_false, List.drop_succ_cons, List.drop_zero, List.drop_nil])))
      refine VV.call rfl rfl rfl rfl (f_readsItem Xt hs.2 g R G) (fun r t3 q => ?_)
      revert q hp
      cases pItem T N h (rdSk T N i) with
      | inl e =>
        intro hp q
        obtain ⟨rfl, k3, A3⟩ := q
        refine VV.s rfl rfl ?_
        refine VV.itf (fun x => x rfl) ?_
        ((repeat refine VV.s rfl rfl ?_); (try (conv => arg 3; simp only [Nat.reduceAdd, sto1, sto2, isL, cond_true, cond_false, List.drop_succ_cons, List.drop_zero, List.drop_nil])))
        exact VV.ret1 rfl ⟨rfl, k3, A.tr A3⟩
      | inr x =>
        obtain ⟨h', i'⟩ := x
        intro hp q
        obtain ⟨rfl, k3, k4, A3⟩ := q
        have hlt := hp.2.2
        refine VV.s rfl rfl ?_
        refine VV.itt (by decide) ?_
        ((repeat refine VV.s rfl rfl ?_); (try (conv => arg 3; simp only [Nat.reduceAdd, sto1, sto2, isL, cond_true, cond_false, List.drop_succ_cons, List.drop_zero, List.drop_nil])))
        refine VV.call rfl rfl rfl rfl (f_skip0 (X.fr (A.tr A3)) hp.2.1 k4) (fun r t4 q => ?_)
        obtain ⟨rfl, k5, A4⟩ := q
        ((repeat (fail_if_success show VV _ _ (49, _, _, _) _); refine VV.s rfl rfl ?_); (try (conv => arg 3; simp only [Nat.reduceAdd, sto1, sto2, isL, cond_true, cond_false, List.drop_succ_cons, List.drop_zero, List.drop_nil])))
        rw [nI_1]
        exact ih (c + 1) h' i' t4 hp.1 hp.2.1 (by omega) (by omega) (k3.keep A4) k5 ((A.tr A3).tr A4.FR)
set_option maxHeartbeats 8000000 in
theorem f_readsCounter (X : TM T N u) : V 123 (0, [some (.ref 41), none], [], u) (QM u (pRead T N)) := by
  have hN := X.1
  have hs := rdSk_le T (N := N) (i := 0) (Nat.zero_le _)
  unfold pRead
  ((repeat refine VV.s rfl rfl ?_); (try (conv => arg 3; simp only [Nat.reduceAdd, sto1, sto2, isL, cond_true, cond_false, List.drop_succ_cons, List.drop_zero, List.drop_nil])))
  have B : FR u (pI (pI u 41 17 0) 41 18 0) := (FR.rf.I (Or.inl rfl)).I (Or.inr (Or.inl rfl))
  refine VV.call rfl rfl rfl rfl (f_skip0 (T := T) (N := N) (i := 0) (u := pI (pI u 41 17 0) 41 18 0) (X.fr B) (Nat.zero_le _) rfl) (fun r t q => ?_)
  obtain ⟨rfl, k, A⟩ := q
  have R : RM H00 t := RM00 (by rw [A.2.1 41 18 (by omega)]; rfl)
  have At := B.tr A.FR
  have Xt := X.fr At
  ((repeat refine VV.s rfl rfl ?_); (try (conv => arg 3; simp only [Nat.reduceAdd, sto1, sto2, isL, cond_true, cond_false, List.drop_succ_cons, List.drop_zero, List.drop_nil])))
  refine VV.callE rfl rfl rfl rfl (f_wordHere Xt hs.2 k) rfl ?_
  by_cases c : rdW T N 0 (rdSk T N 0) = true
  · rw [if_pos c, show whN T N (rdSk T N 0) = 1 from if_pos c]
    have h7 : rdSk T N 0 + 7 ≤ N := (rdW_at (j := 0) hs.2 (by omega) c).2.1
    refine VV.s rfl rfl ?_
    refine VV.itt rfl ?_
    ((repeat refine VV.s rfl rfl ?_); (try (conv => arg 3; simp only [Nat.reduceAdd, sto1, sto2, isL, cond_true, cond_false, List.drop_succ_cons, List.drop_zero, List.drop_nil])))
    have B2 : FR u (pI t 41 17 (gI t 41 17 + 7)) := At.I (Or.inl rfl)
    refine VV.call rfl rfl rfl rfl (f_ends (T := T) (N := N) (i := rdSk T N 0 + 7) (u := pI t 41 17 (gI t 41 17 + 7)) (X.fr B2) h7 (by show gI t 41 17 + 7 = _; rw [k]; exact nI_add _ 7)) (fun r t2 q => ?_)
    obtain ⟨A2, q⟩ := q
    rcases q with ⟨f, e, rfl, k3⟩ | ⟨i, e, rfl, k4⟩
    · rw [e]
      refine VV.s rfl rfl ?_
      refine VV.itf (fun x => x rfl) ?_
      ((repeat refine VV.s rfl rfl ?_); (try (conv => arg 3; simp only [Nat.reduceAdd, sto1, sto2, isL, cond_true, cond_false, List.drop_succ_cons, List.drop_zero, List.drop_nil])))
      exact VV.ret1 rfl ⟨rfl, k3, B2.tr A2.FR⟩
    · rw [e]
      have hr := rdEnd_r h7 e
      refine VV.s rfl rfl ?_
      refine VV.itt (by decide) ?_
      ((repeat refine VV.s rfl rfl ?_); (try (conv => arg 3; simp only [Nat.reduceAdd, sto1, sto2, isL, cond_true, cond_false, List.drop_succ_cons, List.drop_zero, List.drop_nil])))
      refine VV.call rfl rfl rfl rfl (f_skip0 (X.fr (B2.tr A2.FR)) hr.1 k4) (fun r t3 q => ?_)
      obtain ⟨rfl, k5, A3⟩ := q
      have R2 : RM H00 t2 := (R.I17 (x := gI t 41 17 + 7)).keep A2
      exact f_read_loop X 150 1 H00 i t3 good00 hr.1 (by omega) (by omega) (R2.keep A3) k5 ((B2.tr A2.FR).tr A3.FR)
  · rw [if_neg c]
    have ne : ¬ cI (whN T N (rdSk T N 0)) = 0 := by
      unfold whN
      rw [if_neg c]
      split
      · decide
      · split
        · decide
        · split <;> decide
    ((repeat refine VV.s rfl rfl ?_); (try (conv => arg 3; simp only [Nat.reduceAdd, sto1, sto2, isL, cond_true, cond_false, List.drop_succ_cons, List.drop_zero, List.drop_nil])))
    refine VV.itf ne ?_
    ((repeat refine VV.s rfl rfl ?_); (try (conv => arg 3; simp only [Nat.reduceAdd, sto1, sto2, isL, cond_true, cond_false, List.drop_succ_cons, List.drop_zero, List.drop_nil])))
    exact VV.ret1 rfl ⟨rfl, k, At⟩
/-- a new counter, its people added one by one -/
def hA (h b : Hs) : Nat → Hs
  | 0 => b
  | n + 1 => hOne (hA h b n) (hkd h n) (hso h n) (hwa h n)
theorem hA_at (h b : Hs) (e : hn b = 0 ∧ hev b = 0 ∧ hnn b = 0 ∧ hun b = 0) : ∀ n, (hn (hA h b n) = n ∧ hev (hA h b n) = 0 ∧ hnn (hA h b n) = 0 ∧ hun (hA h b n) = 0) ∧ ∀ v, v < n → hkd (hA h b n) v = hkd h v ∧ hso (hA h b n) v = hso h v ∧ hwa (hA h b n) v = hwa h v ∧ hus (hA h b n) v = 0 ∧ hsl (hA h b n) v = 0
  | 0 => ⟨e, fun v hv => absurd hv (Nat.not_lt_zero _)⟩
  | n + 1 => by
    obtain ⟨⟨a1, a2, a3, a4⟩, ih⟩ := hA_at h b e n
    refine ⟨⟨by show hn (hA h b n) + 1 = _; rw [a1], a2, a3, rfl⟩, fun v hv => ?_⟩
    show updN (hkd (hA h b n)) (hn (hA h b n)) (hkd h n) v = _ ∧ updN (hso (hA h b n)) (hn (hA h b n)) (hso h n) v = _ ∧ updN (hwa (hA h b n)) (hn (hA h b n)) (hwa h n) v = _ ∧ updN (hus (hA h b n)) (hn (hA h b n)) 0 v = _ ∧ updN (hsl (hA h b n)) (hn (hA h b n)) 0 v = _
    rw [a1, updN_at, updN_at, updN_at, updN_at, updN_at]
    by_cases c : v = n
    · subst c
      rw [if_pos rfl, if_pos rfl, if_pos rfl, if_pos rfl, if_pos rfl]
      exact ⟨rfl, rfl, rfl, rfl, rfl⟩
    · rw [if_neg c, if_neg c, if_neg c, if_neg c, if_neg c]
      exact ih v (by omega)
theorem RM.mf {t t2 : Sg} {h : Hs} (R : RM h t) (A : MF t t2) : RM h t2 := ⟨⟨by rw [A.2.2.1 18 (by omega) (by omega) (by omega) (by omega)]; exact R.1.1, by rw [A.1 55 (by omega), A.1 56 (by omega)]; exact R.1.2⟩, R.2⟩
theorem FR.inv {t : Sg} (C : MInv u z) (A : FR u t) : MInv t z ∧ Agr onC u t := ⟨C.keep2 (fun k hk => A.1 k (by omega) (by omega)) (fun j hj => A.2.1 41 j (by omega)) (fun j _ => A.2.2 41 j), fun k hk => by
  have hk : k ≤ 40 := hk
  exact ⟨fun j => A.2.1 k j (by omega), fun j => A.2.2 k j, A.1 k (by omega) (by omega)⟩⟩
def PA (h : Hs) (t : Sg) : Prop := (gI t 41 1 = nI (hn h) ∧ gI t 41 2 = nI 0 ∧ gI t 41 3 = nI 0 ∧ gI t 41 23 = nI 0) ∧ ∀ v, v < hn h → gA t 43 v = nI (hkd h v) ∧ gA t 44 v = nI (hso h v) ∧ gA t 45 v = nI (hwa h v) ∧ gA t 47 v = nI 0 ∧ gA t 48 v = 0
set_option maxHeartbeats 8000000 in
theorem m_read (C : MInv u z) (G : GoodZ z) : MC 124 [some (.ref 41), none, none] u (.int (rdA z)) (rdZ z) := by
  have X : TM z.2.2.1.2 z.2.2.1.1 u := ⟨G.2.2.2.1, G.2.2.2.2, C.2.2.2.1.2, C.2.2.2.1.1⟩
  have ok := pRead_ok (T := z.2.2.1.2) G.2.2.2.1
  have hN := G.2.2.2.1
  ((repeat refine VV.s rfl rfl ?_); (try (conv => arg 3; simp only [Nat.reduceAdd, sto1, sto2, isL, cond_true, cond_false, List.drop_succ_cons, List.drop_zero, List.drop_nil])))
  refine VV.call rfl rfl rfl rfl (f_readsCounter X) (fun r t q => ?_)
  unfold rdA rdZ
  revert q ok
  cases pRead z.2.2.1.2 z.2.2.1.1 with
  | inl f =>
    intro ok q
    obtain ⟨rfl, k1, A⟩ := q
    refine VV.s rfl rfl ?_
    refine VV.s rfl rfl ?_
    refine VV.s rfl rfl ?_
    refine VV.itf (by decide) ?_
    ((repeat refine VV.s rfl rfl ?_); (try (conv => arg 3; simp only [Nat.reduceAdd, sto1, sto2, isL, cond_true, cond_false, List.drop_succ_cons, List.drop_zero, List.drop_nil])))
    rw [k1]
    exact VV.ret1 rfl ⟨rfl, A.inv C⟩
  | inr x =>
    obtain ⟨c, h⟩ := x
    intro ok q
    obtain ⟨rfl, R, A⟩ := q
    obtain ⟨C2, A2⟩ := A.inv C
    obtain ⟨Gh, c1, c2⟩ := ok
    have h6 := Gh.1.1
    ((repeat refine VV.s rfl rfl ?_); (try (conv => arg 3; simp only [Nat.reduceAdd, sto1, sto2, isL, cond_true, cond_false, List.drop_succ_cons, List.drop_zero, List.drop_nil])))
    refine VV.itt (nI_le (a := 0) (by omega) (by omega)) ?_
    ((repeat refine VV.s rfl rfl ?_); (try (conv => arg 3; simp only [Nat.reduceAdd, sto1, sto2, isL, cond_true, cond_false, List.drop_succ_cons, List.drop_zero, List.drop_nil])))
    refine VV.call rfl rfl rfl rfl (f_begin C2.1) (fun r t1 q => ?_)
    obtain ⟨rfl, R1, A3, -⟩ := q
    have lp2 : ∀ k i t2, i + k = hn h → MF t t2 → PA h t2 → (∀ v, v < i → gA t2 46 v = cI (hho h v)) → V 124 (72, [some (.ref 41), some (.int (nI c)), some (.int (nI i))], [], t2) (fun x t => x = some (.int (nI c)) ∧ MInv t (zH z h) ∧ Agr onC u t) := by
      intro k
      induction k with
      | zero =>
        intro i t2 hi M P2 h46
        ((repeat refine VV.s rfl rfl ?_); (try (conv => arg 3; simp only [Nat.reduceAdd, sto1, sto2, isL, cond_true, cond_false, List.drop_succ_cons, List.drop_zero, List.drop_nil])))
        refine VV.itt (by rw [(R.mf M).1.1]; exact nI_le (by omega) (by omega)) ?_
        ((repeat refine VV.s rfl rfl ?_); (try (conv => arg 3; simp only [Nat.reduceAdd, sto1, sto2, isL, cond_true, cond_false, List.drop_succ_cons, List.drop_zero, List.drop_nil])))
        have R3 : MRep t2 h := by
          obtain ⟨⟨b1, b2, b3, b4⟩, b5⟩ := P2
          obtain ⟨z1, z2, z3⟩ := R.2.1
          refine ⟨⟨b1, by rw [b2, z1], by rw [b3, z2], by rw [b4, z3]⟩, fun v hv => ?_, fun i c hi => by omega, fun k hk => by omega⟩
          obtain ⟨q1, q2, q3, q5, q6⟩ := b5 v hv
          obtain ⟨y1, y2⟩ := R.2.2 v hv
          exact ⟨q1, q2, q3, h46 v (by omega), by rw [q5, y1], by rw [q6, y2]⟩
        exact VV.ret1 rfl ⟨rfl, C2.main R3 M, A2.tr M.onC⟩
      | succ k ih =>
        intro i t2 hi M P2 h46
        ((repeat refine VV.s rfl rfl ?_); (try (conv => arg 3; simp only [Nat.reduceAdd, sto1, sto2, isL, cond_true, cond_false, List.drop_succ_cons, List.drop_zero, List.drop_nil])))
        refine VV.itf (by rw [(R.mf M).1.1]; exact nI_ge (by omega) (by omega)) ?_
        ((repeat refine VV.s rfl rfl ?_); (try (conv => arg 3; simp only [Nat.reduceAdd, sto1, sto2, isL, cond_true, cond_false, List.drop_succ_cons, List.drop_zero, List.drop_nil])))
        refine VV.iald rfl rfl rfl (show i < 6 by omega) (by decide) ?_
        rw [((R.mf M).1.2 i (by omega)).2.2.2]
        refine VV.iast rfl rfl rfl (show i < 6 by omega) (by decide) ?_
        ((repeat (fail_if_success show VV _ _ (72, _, _, _) _); refine VV.s rfl rfl ?_); (try (conv => arg 3; simp only [Nat.reduceAdd, sto1, sto2, isL, cond_true, cond_false, List.drop_succ_cons, List.drop_zero, List.drop_nil])))
        rw [nI_1]
        refine ih (i + 1) _ (by omega) (M.A (by omega)) P2 (fun v hv => ?_)
        show upd (gA t2 46) i (cI (hho h i)) v = _
        rw [upd_at]
        by_cases e : v = i
        · rw [if_pos e, e]
        · rw [if_neg e]
          exact h46 v (by omega)
    have lp1 : ∀ k i t2, i + k = hn h → MF t t2 → MRep t2 (hA h (h0 z.1) i) → V 124 (23, [some (.ref 41), some (.int (nI c)), some (.int (nI i))], [], t2) (fun x t => x = some (.int (nI c)) ∧ MInv t (zH z h) ∧ Agr onC u t) := by
      intro k
      induction k with
      | zero =>
        intro i t2 hi M R2
        have hi : i = hn h := by omega
        subst hi
        obtain ⟨⟨a1, a2, a3, a4⟩, ih⟩ := hA_at h (h0 z.1) ⟨rfl, rfl, rfl, rfl⟩ (hn h)
        ((repeat refine VV.s rfl rfl ?_); (try (conv => arg 3; simp only [Nat.reduceAdd, sto1, sto2, isL, cond_true, cond_false, List.drop_succ_cons, List.drop_zero, List.drop_nil])))
        refine VV.itt (by rw [(R.mf M).1.1]; exact nI_le (by omega) (by omega)) ?_
        ((repeat (fail_if_success show VV _ _ (72, _, _, _) _); refine VV.s rfl rfl ?_); (try (conv => arg 3; simp only [Nat.reduceAdd, sto1, sto2, isL, cond_true, cond_false, List.drop_succ_cons, List.drop_zero, List.drop_nil])))
        refine lp2 (hn h) 0 t2 (by omega) M ?_ (fun v hv => absurd hv (Nat.not_lt_zero _))
        obtain ⟨⟨b1, b2, b3, b4⟩, b5, -, -⟩ := R2
        refine ⟨⟨by rw [b1, a1], by rw [b2, a2], by rw [b3, a3], by rw [b4, a4]⟩, fun v hv => ?_⟩
        obtain ⟨q1, q2, q3, q4, q5, q6⟩ := b5 v (by omega)
        obtain ⟨p1, p2, p3, p5, p6⟩ := ih v hv
        exact ⟨by rw [q1, p1], by rw [q2, p2], by rw [q3, p3], by rw [q5, p5], by rw [q6, p6]⟩
      | succ k ih =>
        intro i t2 hi M R2
        obtain ⟨⟨a1, -, -, -⟩, -⟩ := hA_at h (h0 z.1) ⟨rfl, rfl, rfl, rfl⟩ i
        have Ri := (R.mf M).1.2 i (by omega)
        have e0 : (3 : Int32) * nI i = nI (3 * i) := pk_mul 3 i
        have e1 : nI (3 * i) + 1 = nI (3 * i + 1) := add_nI (3 * i) 1
        have e2 : nI (3 * i) + 2 = nI (3 * i + 2) := add_nI (3 * i) 2
        ((repeat refine VV.s rfl rfl ?_); (try (conv => arg 3; simp only [Nat.reduceAdd, sto1, sto2, isL, cond_true, cond_false, List.drop_succ_cons, List.drop_zero, List.drop_nil])))
        refine VV.itf (by rw [(R.mf M).1.1]; exact nI_ge (by omega) (by omega)) ?_
        ((repeat refine VV.s rfl rfl ?_); (try (conv => arg 3; simp only [Nat.reduceAdd, sto1, sto2, isL, cond_true, cond_false, List.drop_succ_cons, List.drop_zero, List.drop_nil])))
        rw [e0]
        refine VV.iald rfl rfl rfl (show (3 * i) < 18 by omega) (by decide) ?_
        rw [Ri.1]
        ((repeat refine VV.s rfl rfl ?_); (try (conv => arg 3; simp only [Nat.reduceAdd, sto1, sto2, isL, cond_true, cond_false, List.drop_succ_cons, List.drop_zero, List.drop_nil])))
        rw [e0, e1]
        refine VV.iald rfl rfl rfl (show (3 * i + 1) < 18 by omega) (by decide) ?_
        rw [Ri.2.1]
        ((repeat refine VV.s rfl rfl ?_); (try (conv => arg 3; simp only [Nat.reduceAdd, sto1, sto2, isL, cond_true, cond_false, List.drop_succ_cons, List.drop_zero, List.drop_nil])))
        rw [e0, e2]
        refine VV.iald rfl rfl rfl (show (3 * i + 2) < 18 by omega) (by decide) ?_
        rw [Ri.2.2.1]
        ((repeat refine VV.s rfl rfl ?_); (try (conv => arg 3; simp only [Nat.reduceAdd, sto1, sto2, isL, cond_true, cond_false, List.drop_succ_cons, List.drop_zero, List.drop_nil])))
        refine VV.call rfl rfl rfl rfl (f_addOne R2 (by omega)) (fun r t3 q => ?_)
        obtain ⟨rfl, R3, M3⟩ := q
        ((repeat (fail_if_success show VV _ _ (23, _, _, _) _); refine VV.s rfl rfl ?_); (try (conv => arg 3; simp only [Nat.reduceAdd, sto1, sto2, isL, cond_true, cond_false, List.drop_succ_cons, List.drop_zero, List.drop_nil])))
        rw [nI_1]
        exact ih (i + 1) t3 (by omega) (M.tr M3) R3
    ((repeat (fail_if_success show VV _ _ (23, _, _, _) _); refine VV.s rfl rfl ?_); (try (conv => arg 3; simp only [Nat.reduceAdd, sto1, sto2, isL, cond_true, cond_false, List.drop_succ_cons, List.drop_zero, List.drop_nil])))
    exact lp1 (hn h) 0 t1 (by omega) A3 R1
end RM5
