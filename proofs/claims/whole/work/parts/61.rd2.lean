/-! ===== reading: the class's step ===== -/
section RD2
variable {u : Sg} {z : Zs}
theorem rdRun_in {c : Nat → Bool} : ∀ k i j, i ≤ j → j < rdRun c k i → c j = true
  | 0, i, j, h1, h2 => by rw [rdRun] at h2; omega
  | k + 1, i, j, h1, h2 => by
    rw [rdRun] at h2
    split at h2
    · rename_i q
      by_cases e : j = i
      · rw [e]; exact q
      · exact rdRun_in k (i + 1) j (by omega) h2
    · omega
abbrev TX (T : Nat → Nat) (N : Nat) (u : Sg) : Prop := N ≤ 150 ∧ (∀ j, j < N → T j < 128) ∧ ∀ j, j < N → gA u 38 j = nI (T j)
/-- the reader's numbers -/
abbrev RG (N a b c : Nat) (t : Sg) : Prop := gI t 37 1 = nI N ∧ gI t 37 2 = nI a ∧ gI t 37 3 = nI b ∧ gI t 37 4 = nI c
abbrev QS (u : Sg) (T : Nat → Nat) (N s : Nat) : Option Value → Sg → Prop := fun r t => r = none ∧ RS T N s t ∧ Agr o37 u t
set_option maxHeartbeats 8000000 in
theorem e_step_113 {T : Nat → Nat} {N s q e : Nat} (X : TX T N u) (hq : q ≤ 4) {c : Nat → Bool} (hc : ∀ j, j < N → (tk (T j) = q ↔ c j = true)) {Q : Option Value → Sg → Prop} (K : ∀ t, RG N q s e t → Agr o37 u t → V 43 (156, [some (.ref 37)], [], t) Q) : ∀ k j t, j + k = N → rdRun c (N - j) j = e → RG N q s j t → Agr o37 u t → V 43 (113, [some (.ref 37)], [], t) Q := by
  obtain ⟨hN, hT, hB⟩ := X
  intro k
  induction k with
  | zero =>
    intro j t hj he g A
    rw [rdRun_0 (by omega)] at he
    subst he
    obtain ⟨g1, g2, g3, g4⟩ := id g
    ((repeat refine VV.s rfl rfl ?_); (try (conv => arg 3; simp only [Nat.reduceAdd, sto1, sto2, isL, cond_true, cond_false, List.drop_succ_cons, List.drop_zero, List.drop_nil])))
    refine VV.itt (by rw [g1, g4]; exact nI_le (by omega) (by omega)) ?_
    exact K t g A
  | succ k ih =>
    intro j t hj he g A
    obtain ⟨g1, g2, g3, g4⟩ := id g
    rw [rdRun_s (by omega)] at he
    have hb : gA t 38 j = nI (T j) := by rw [(A 38 (by decide)).2.2]; exact hB j (by omega)
    have tl := tk_le (T j)
    ((repeat refine VV.s rfl rfl ?_); (try (conv => arg 3; simp only [Nat.reduceAdd, sto1, sto2, isL, cond_true, cond_false, List.drop_succ_cons, List.drop_zero, List.drop_nil])))
    refine VV.itf (by rw [g1, g4]; exact nI_ge (by omega) (by omega)) ?_
    ((repeat refine VV.s rfl rfl ?_); (try (conv => arg 3; simp only [Nat.reduceAdd, sto1, sto2, isL, cond_true, cond_false, List.drop_succ_cons, List.drop_zero, List.drop_nil])))
    refine VV.iald (n := j) rfl rfl g4 (show j < 150 by omega) (by decide) ?_
    rw [hb]
    refine VV.callE rfl rfl rfl rfl (e_tok (hT j (by omega))) rfl ?_
    ((repeat refine VV.s rfl rfl ?_); (try (conv => arg 3; simp only [Nat.reduceAdd, sto1, sto2, isL, cond_true, cond_false, List.drop_succ_cons, List.drop_zero, List.drop_nil])))
    refine VV.ite (fun q1 => ?_) (fun q1 => ?_)
    · rw [g2, eq_nI (by omega) (by omega), hc j (by omega)] at q1
      rw [if_neg q1] at he
      subst he
      exact K t g A
    · have q1 := Classical.not_not.mp q1
      rw [g2, eq_nI (by omega) (by omega), hc j (by omega)] at q1
      rw [if_pos q1] at he
      ((repeat (fail_if_success show VV _ _ (113, _, _, _) _); refine VV.s rfl rfl ?_); (try (conv => arg 3; simp only [Nat.reduceAdd, sto1, sto2, isL, cond_true, cond_false, List.drop_succ_cons, List.drop_zero, List.drop_nil])))
      refine ih (j + 1) _ (by omega) he ⟨g1, g2, g3, ?_⟩ (A.I (fun q => q rfl))
      show gI t 37 4 + 1 = _
      rw [g4, nI_1]
set_option maxHeartbeats 8000000 in
theorem e_step_97 {T : Nat → Nat} {N s : Nat} (X : TX T N u) (hs : s < N) {t : Sg} (g : RG N (tk (T s)) s (s + 1) t) (A : Agr o37 u t) : V 43 (97, [some (.ref 37)], [], t) (QS u T N s) := by
  obtain ⟨hN, hT, hB⟩ := id X
  have fin : ∀ e q, tk (T s) = q → q ≠ 2 → q ≤ 4 → tkE T N s = e → ∀ t, RG N q s e t → Agr o37 u t → V 43 (156, [some (.ref 37)], [], t) (QS u T N s) := by
    intro e q hq h2 h4 he t g A
    obtain ⟨g1, g2, g3, g4⟩ := g
    ((repeat refine VV.s rfl rfl ?_); (try (conv => arg 3; simp only [Nat.reduceAdd, sto1, sto2, isL, cond_true, cond_false, List.drop_succ_cons, List.drop_zero, List.drop_nil])))
    refine VV.itt (by rw [g2]; intro x; exact h2 ((nI_eq (b := 2) (by omega) (by omega)).mp x)) ?_
    have es : tkS T N s = q := by
      unfold tkS
      rw [if_pos hs, if_neg (by omega), hq]
    refine VV.ret0 rfl ⟨rfl, ⟨g1, by rw [es]; exact g2, g3, by rw [he]; exact g4, fun x => by omega⟩, A⟩
  have tl := tk_le (T s)
  obtain ⟨g1, g2, g3, g4⟩ := id g
  ((repeat refine VV.s rfl rfl ?_); (try (conv => arg 3; simp only [Nat.reduceAdd, sto1, sto2, isL, cond_true, cond_false, List.drop_succ_cons, List.drop_zero, List.drop_nil])))
  refine VV.ite (fun q1 => ?_) (fun q1 => ?_)
  · rw [g2] at q1
    have q1 := (nI_eq (b := 1) (by omega) (by omega)).mp q1
    have hz : rdWz T N s = rdRun (isLe T) (N - (s + 1)) (s + 1) := by
      unfold rdWz
      rw [rdRun_s hs, if_pos (tk_1.mp q1)]
    refine e_step_113 X (q := 1) (by omega) (fun j hj => tk_1) (fun t g A => ?_) (N - (s + 1)) (s + 1) t (by omega) hz.symm (by rw [q1] at g; exact g) A
    refine fin (rdWz T N s) 1 q1 (by omega) (by omega) ?_ t g A
    unfold tkE
    rw [if_pos hs, if_pos q1]
  · rw [g2] at q1
    have q1 : ¬ tk (T s) = 1 := fun x => q1 (by rw [x]; rfl)
    ((repeat refine VV.s rfl rfl ?_); (try (conv => arg 3; simp only [Nat.reduceAdd, sto1, sto2, isL, cond_true, cond_false, List.drop_succ_cons, List.drop_zero, List.drop_nil])))
    refine VV.ite (fun q2 => ?_) (fun q2 => ?_)
    · rw [g2] at q2
      have q2 : ¬ tk (T s) = 2 := fun x => q2 (by rw [x]; rfl)
      refine fin (s + 1) (tk (T s)) rfl q2 (by omega) ?_ t g A
      unfold tkE
      rw [if_pos hs, if_neg q1, if_neg q2]
    · rw [g2] at q2
      have q2 := (nI_eq (b := 2) (by omega) (by omega)).mp (Classical.not_not.mp q2)
      have hz : rdFz T N s = rdRun (isFi T) (N - (s + 1)) (s + 1) := by
        unfold rdFz
        rw [rdRun_s hs, if_pos (tk_2.mp q2)]
      have hl := rdFz_le T (N := N) (i := s) (by omega)
      have hl2 := (rdRun_le (isFi T) (N - (s + 1)) (s + 1)).1
      refine e_step_113 X (q := 2) (by omega) (fun j hj => tk_2) (fun t g A => ?_) (N - (s + 1)) (s + 1) t (by omega) hz.symm (by rw [q2] at g; exact g) A
      obtain ⟨g1, g2, g3, g4⟩ := g
      ((repeat refine VV.s rfl rfl ?_); (try (conv => arg 3; simp only [Nat.reduceAdd, sto1, sto2, isL, cond_true, cond_false, List.drop_succ_cons, List.drop_zero, List.drop_nil])))
      refine VV.itf (by rw [g2]; exact fun x => x rfl) ?_
      ((repeat refine VV.s rfl rfl ?_); (try (conv => arg 3; simp only [Nat.reduceAdd, sto1, sto2, isL, cond_true, cond_false, List.drop_succ_cons, List.drop_zero, List.drop_nil])))
      have hE : tkE T N s = rdFz T N s := by
        unfold tkE
        rw [if_pos hs, if_neg q1, if_pos q2]
      refine VV.call rfl rfl rfl rfl (e_takeValue (T := T) (N := N) (s := s) (e := rdFz T N s) hN (fun j hj => by rw [(A 38 (by decide)).2.2]; exact hB j hj) hl.2 (by omega) g3 g4 (fun j h1 h2 => ?_)) (fun r t2 qq => ?_)
      · have := rdRun_in (c := isFi T) (N - s) s j h1 h2
        unfold isFi at this
        have := of_decide_eq_true this
        omega
      · obtain ⟨rfl, qq⟩ := qq
        rcases qq with ⟨h2, rfl⟩ | ⟨h2, k1, k2, k3, k4, k5, A2⟩
        · refine VV.ret0 rfl ⟨rfl, ⟨g1, ?_, g3, by rw [hE]; exact g4, fun x => ?_⟩, A.I (fun q => q rfl)⟩
          · unfold tkS
            rw [if_pos hs, if_pos ⟨q2, h2⟩]
            rfl
          · unfold tkS at x
            rw [if_pos hs, if_pos ⟨q2, h2⟩] at x
            omega
        · refine VV.ret0 rfl ⟨rfl, ⟨k1.trans g1, ?_, k3.trans g3, by rw [hE]; exact k4.trans g4, fun _ => k5⟩, A.tr A2⟩
          unfold tkS
          rw [if_pos hs, if_neg (by omega), q2]
          exact k2.trans g2
set_option maxHeartbeats 8000000 in
theorem e_step {T : Nat → Nat} {N i : Nat} (X : TX T N u) (hi : i ≤ N) (h1 : gI u 37 1 = nI N) (h4 : gI u 37 4 = nI i) : V 43 (0, [some (.ref 37)], [], u) (QS u T N (rdSk T N i)) := by
  obtain ⟨hN, hT, hB⟩ := id X
  have k46 : ∀ s t, s ≤ N → gI t 37 1 = nI N → gI t 37 3 = nI s → Agr o37 u t → V 43 (46, [some (.ref 37)], [], t) (QS u T N s) := by
    intro s t hs g1 g3 A
    ((repeat refine VV.s rfl rfl ?_); (try (conv => arg 3; simp only [Nat.reduceAdd, sto1, sto2, isL, cond_true, cond_false, List.drop_succ_cons, List.drop_zero, List.drop_nil])))
    refine VV.ite (fun q => ?_) (fun q => ?_)
    · have q : gI t 37 3 < gI t 37 1 := q
      rw [g1, g3, lt_nI (by omega) (by omega)] at q
      have hb : gA t 38 s = nI (T s) := by rw [(A 38 (by decide)).2.2]; exact hB s q
      ((repeat refine VV.s rfl rfl ?_); (try (conv => arg 3; simp only [Nat.reduceAdd, sto1, sto2, isL, cond_true, cond_false, List.drop_succ_cons, List.drop_zero, List.drop_nil])))
      refine VV.iald (n := s) rfl rfl (show gI t 37 3 = nI s from g3) (show s < 150 by omega) (by decide) ?_
      rw [show gA (pI (pI t 37 4 (gI t 37 3)) 37 2 0) 38 s = nI (T s) from hb]
      refine VV.callE rfl rfl rfl rfl (e_tok (hT s q)) rfl ?_
      ((repeat (fail_if_success show VV _ _ (97, _, _, _) _); refine VV.s rfl rfl ?_); (try (conv => arg 3; simp only [Nat.reduceAdd, sto1, sto2, isL, cond_true, cond_false, List.drop_succ_cons, List.drop_zero, List.drop_nil])))
      refine e_step_97 X q ⟨g1, rfl, g3, ?_⟩ (A.I (fun q => q rfl) |>.I (fun q => q rfl) |>.I (fun q => q rfl) |>.I (fun q => q rfl))
      show gI t 37 3 + 1 = _
      rw [g3, nI_1]
    · have q : ¬ gI t 37 3 < gI t 37 1 := q
      rw [g1, g3, lt_nI (by omega) (by omega)] at q
      have e1 : tkS T N s = 0 := if_neg q
      have e2 : tkE T N s = s := if_neg q
      exact VV.ret0 rfl ⟨rfl, ⟨g1, by rw [e1]; rfl, g3, by rw [e2]; exact g3, fun x => by omega⟩, A.I (fun q => q rfl) |>.I (fun q => q rfl)⟩
  have lp : ∀ k j t, j + k = N → rdRun (isBl T) (N - j) j = rdSk T N i → gI t 37 1 = nI N → gI t 37 3 = nI j → Agr o37 u t → V 43 (8, [some (.ref 37)], [], t) (QS u T N (rdSk T N i)) := by
    intro k
    induction k with
    | zero =>
      intro j t hj he g1 g3 A
      rw [rdRun_0 (by omega)] at he
      rw [← he]
      ((repeat refine VV.s rfl rfl ?_); (try (conv => arg 3; simp only [Nat.reduceAdd, sto1, sto2, isL, cond_true, cond_false, List.drop_succ_cons, List.drop_zero, List.drop_nil])))
      refine VV.itt (by rw [g1, g3]; exact nI_le (by omega) (by omega)) ?_
      exact k46 j t (by omega) g1 g3 A
    | succ k ih =>
      intro j t hj he g1 g3 A
      rw [rdRun_s (by omega)] at he
      have hb : gA t 38 j = nI (T j) := by rw [(A 38 (by decide)).2.2]; exact hB j (by omega)
      have hj2 := hT j (by omega)
      ((repeat refine VV.s rfl rfl ?_); (try (conv => arg 3; simp only [Nat.reduceAdd, sto1, sto2, isL, cond_true, cond_false, List.drop_succ_cons, List.drop_zero, List.drop_nil])))
      refine VV.itf (by rw [g1, g3]; exact nI_ge (by omega) (by omega)) ?_
      ((repeat refine VV.s rfl rfl ?_); (try (conv => arg 3; simp only [Nat.reduceAdd, sto1, sto2, isL, cond_true, cond_false, List.drop_succ_cons, List.drop_zero, List.drop_nil])))
      refine VV.iald (n := j) rfl rfl g3 (show j < 150 by omega) (by decide) ?_
      rw [hb]
      ((repeat refine VV.s rfl rfl ?_); (try (conv => arg 3; simp only [Nat.reduceAdd, sto1, sto2, isL, cond_true, cond_false, List.drop_succ_cons, List.drop_zero, List.drop_nil])))
      refine VV.ite (fun q => ?_) (fun q => ?_)
      · have q : ¬ nI (T j) = nI 32 := q
        rw [eq_nI (by omega) (by omega)] at q
        rw [if_neg (by unfold isBl; rw [decide_eq_true_iff]; exact q)] at he
        rw [← he]
        exact k46 j t (by omega) g1 g3 A
      · have q : ¬ ¬ nI (T j) = nI 32 := q
        rw [eq_nI (by omega) (by omega)] at q
        rw [if_pos (by unfold isBl; rw [decide_eq_true_iff]; exact Classical.not_not.mp q)] at he
        ((repeat (fail_if_success show VV _ _ (8, _, _, _) _); refine VV.s rfl rfl ?_); (try (conv => arg 3; simp only [Nat.reduceAdd, sto1, sto2, isL, cond_true, cond_false, List.drop_succ_cons, List.drop_zero, List.drop_nil])))
        refine ih (j + 1) _ (by omega) he g1 ?_ (A.I (fun q => q rfl))
        show gI t 37 3 + 1 = _
        rw [g3, nI_1]
  ((repeat (fail_if_success show VV _ _ (8, _, _, _) _); refine VV.s rfl rfl ?_); (try (conv => arg 3; simp only [Nat.reduceAdd, sto1, sto2, isL, cond_true, cond_false, List.drop_succ_cons, List.drop_zero, List.drop_nil])))
  exact lp (N - i) i _ (by omega) rfl h1 h4 ((Agr.rf).I (fun q => q rfl))
end RD2
