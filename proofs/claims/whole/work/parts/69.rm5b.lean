section RM5
variable {u : Sg} {z : Zs} {T : Nat → Nat} {N : Nat}
def QM (u : Sg) : Nat ⊕ (Nat × Hs) → Option Value → Sg → Prop
  | .inl f, r, t => r = some (.int (-1)) ∧ gI t 41 17 = nI f ∧ FR u t
  | .inr (c, h), r, t => r = some (.int (nI c)) ∧ RM h t ∧ FR u t
theorem RM00 {t : Sg} (h : gI t 41 18 = 0) : RM H00 t := ⟨⟨h, fun v hv => absurd hv (Nat.not_lt_zero _)⟩, ⟨rfl, rfl, rfl⟩, fun v hv => absurd hv (Nat.not_lt_zero _)⟩
set_option maxHeartbeats 8000000 in
theorem f_read_loop (X : TM T N u) : ∀ f c h i t, GoodH h → i ≤ N → N < i + f → c + f = 151 → RM h t → gI t 41 17 = nI (rdSk T N i) → FR u t → V 123 (49, [some (.ref 41), some (.int (nI c))], [], t) (QM u (pLoop T N f c h i)) := by
  have hN := X.1
  intro f
  induction f with
  | zero => intro c h i t G hi hf; omega
  | succ f ih =>
    intro c h i t G hi hf hc R g A
    have hs := rdSk_le T hi
    have Xt := X.fr A
    rw [pLoop]
    ((repeat refine VV.s rfl rfl ?_); (try (conv => arg 3; simp only [Nat.reduceAdd, sto1, sto2, isL, cond_true, cond_false, List.drop_succ_cons, List.drop_zero, List.drop_nil])))
    refine VV.ite (fun q => ?_) (fun q => ?_)
    · rw [g, Xt.2.2.2, le_nI (by omega) (by omega)] at q
      rw [if_neg (by omega)]
      ((repeat refine VV.s rfl rfl ?_); (try (conv => arg 3; simp only [Nat.reduceAdd, sto1, sto2, isL, cond_true, cond_false, List.drop_succ_cons, List.drop_zero, List.drop_nil])))
      exact VV.ret1 rfl ⟨rfl, R, A⟩
    · rw [g, Xt.2.2.2, le_nI (by omega) (by omega)] at q
      rw [if_pos (by omega)]
      have hp := pItem_ok (T := T) G hs.2
      ((repeat refine VV.s rfl rfl ?_); (try (conv => arg 3; simp only [Nat.reduceAdd, sto1, sto2, isL, cond_true, cond_false, List.drop_succ_cons, List.drop_zero, List.drop_nil])))
      refine VV.call rfl rfl rfl rfl (f_readsItem Xt hs.2 g R G) (fun r t3 q => ?_)
      revert q hp
      cases pItem T N h (rdSk T N i) with
      | inl e =>
        intro hp q
        obtain ⟨rfl, k3, A3⟩ := q
        refine VV.s rfl rfl ?_
        refine VV.itf (fun x => x rfl) ?_
        ((repeat refine VV.s rfl rfl ?_); (try (conv => arg 3; simp only [Nat.reduceAdd, sto1, sto2, isL, cond_true, cond_false, List.drop_succ_cons, List.drop_zero, List.drop_nil])))
        exact VV.ret1 rfl ⟨rfl, k3, A.tr A3⟩
      | inr x =>
        obtain ⟨h', i'⟩ := x
        intro hp q
        obtain ⟨rfl, k3, k4, A3⟩ := q
        have hlt := hp.2.2
        refine VV.s rfl rfl ?_
        refine VV.itt (by decide) ?_
        ((repeat refine VV.s rfl rfl ?_); (try (conv => arg 3; simp only [Nat.reduceAdd, sto1, sto2, isL, cond_true, cond_false, List.drop_succ_cons, List.drop_zero, List.drop_nil])))
        refine VV.call rfl rfl rfl rfl (f_skip0 (X.fr (A.tr A3)) hp.2.1 k4) (fun r t4 q => ?_)
        obtain ⟨rfl, k5, A4⟩ := q
        ((repeat (fail_if_success show VV _ _ (49, _, _, _) _); refine VV.s rfl rfl ?_); (try (conv => arg 3; simp only [Nat.reduceAdd, sto1, sto2, isL, cond_true, cond_false, List.drop_succ_cons, List.drop_zero, List.drop_nil])))
        rw [nI_1]
        exact ih (c + 1) h' i' t4 hp.1 hp.2.1 (by omega) (by omega) (k3.keep A4) k5 ((A.tr A3).tr A4.FR)
set_option maxHeartbeats 8000000 in
theorem f_readsCounter (X : TM T N u) : V 123 (0, [some (.ref 41), none], [], u) (QM u (pRead T N)) := by
  have hN := X.1
  have hs := rdSk_le T (N := N) (i := 0) (Nat.zero_le _)
  unfold pRead
  ((repeat refine VV.s rfl rfl ?_); (try (conv => arg 3; simp only [Nat.reduceAdd, sto1, sto2, isL, cond_true, cond_false, List.drop_succ_cons, List.drop_zero, List.drop_nil])))
  have B : FR u (pI (pI u 41 17 0) 41 18 0) := (FR.rf.I (Or.inl rfl)).I (Or.inr (Or.inl rfl))
  refine VV.call rfl rfl rfl rfl (f_skip0 (T := T) (N := N) (i := 0) (u := pI (pI u 41 17 0) 41 18 0) (X.fr B) (Nat.zero_le _) rfl) (fun r t q => ?_)
  obtain ⟨rfl, k, A⟩ := q
  have R : RM H00 t := RM00 (by rw [A.2.1 41 18 (by omega)]; rfl)
  have At := B.tr A.FR
  have Xt := X.fr At
  ((repeat refine VV.s rfl rfl ?_); (try (conv => arg 3; simp only [Nat.reduceAdd, sto1, sto2, isL, cond_true, cond_false, List.drop_succ_cons, List.drop_zero, List.drop_nil])))
  refine VV.callE rfl rfl rfl rfl (f_wordHere Xt hs.2 k) rfl ?_
  by_cases c : rdW T N 0 (rdSk T N 0) = true
  · rw [if_pos c, show whN T N (rdSk T N 0) = 1 from if_pos c]
    have h7 : rdSk T N 0 + 7 ≤ N := (rdW_at (j := 0) hs.2 (by omega) c).2.1
    refine VV.s rfl rfl ?_
    refine VV.itt rfl ?_
    ((repeat refine VV.s rfl rfl ?_); (try (conv => arg 3; simp only [Nat.reduceAdd, sto1, sto2, isL, cond_true, cond_false, List.drop_succ_cons, List.drop_zero, List.drop_nil])))
    have B2 : FR u (pI t 41 17 (gI t 41 17 + 7)) := At.I (Or.inl rfl)
    refine VV.call rfl rfl rfl rfl (f_ends (T := T) (N := N) (i := rdSk T N 0 + 7) (u := pI t 41 17 (gI t 41 17 + 7)) (X.fr B2) h7 (by show gI t 41 17 + 7 = _; rw [k]; exact nI_add _ 7)) (fun r t2 q => ?_)
    obtain ⟨A2, q⟩ := q
    rcases q with ⟨f, e, rfl, k3⟩ | ⟨i, e, rfl, k4⟩
    · rw [e]
      refine VV.s rfl rfl ?_
      refine VV.itf (fun x => x rfl) ?_
      ((repeat refine VV.s rfl rfl ?_); (try (conv => arg 3; simp only [Nat.reduceAdd, sto1, sto2, isL, cond_true, cond_false, List.drop_succ_cons, List.drop_zero, List.drop_nil])))
      exact VV.ret1 rfl ⟨rfl, k3, B2.tr A2.FR⟩
    · rw [e]
      have hr := rdEnd_r h7 e
      refine VV.s rfl rfl ?_
      refine VV.itt (by decide) ?_
      ((repeat refine VV.s rfl rfl ?_); (try (conv => arg 3; simp only [Nat.reduceAdd, sto1, sto2, isL, cond_true, cond_false, List.drop_succ_cons, List.drop_zero, List.drop_nil])))
      refine VV.call rfl rfl rfl rfl (f_skip0 (X.fr (B2.tr A2.FR)) hr.1 k4) (fun r t3 q => ?_)
      obtain ⟨rfl, k5, A3⟩ := q
      have R2 : RM H00 t2 := (R.I17 (x := gI t 41 17 + 7)).keep A2
      exact f_read_loop X 150 1 H00 i t3 good00 hr.1 (by omega) (by omega) (R2.keep A3) k5 ((B2.tr A2.FR).tr A3.FR)
  · rw [if_neg c]
    have ne : ¬ cI (whN T N (rdSk T N 0)) = 0 := by
      unfold whN
      rw [if_neg c]
      split
      · decide
      · split
        · decide
        · split <;> decide
    ((repeat refine VV.s rfl rfl ?_); (try (conv => arg 3; simp only [Nat.reduceAdd, sto1, sto2, isL, cond_true, cond_false, List.drop_succ_cons, List.drop_zero, List.drop_nil])))
    refine VV.itf ne ?_
    ((repeat refine VV.s rfl rfl ?_); (try (conv => arg 3; simp only [Nat.reduceAdd, sto1, sto2, isL, cond_true, cond_false, List.drop_succ_cons, List.drop_zero, List.drop_nil])))
    exact VV.ret1 rfl ⟨rfl, k, At⟩
end RM5
