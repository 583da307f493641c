/-! ===== a house of the class: what is read ===== -/
/-- the voice that p has, as v + 1; 0: none -/
def vo (ho : Nat → Nat) (p : Nat) : Nat → Nat → Nat
  | 0, _ => 0
  | k + 1, i => if ho i = p + 1 then i + 1 else vo ho p k (i + 1)
theorem vo_spec (ho : Nat → Nat) (p : Nat) : ∀ k i, (vo ho p k i = 0 ∧ ∀ v, i ≤ v → v < i + k → ho v ≠ p + 1) ∨ ∃ v, i ≤ v ∧ v < i + k ∧ vo ho p k i = v + 1 ∧ ho v = p + 1
  | 0, i => Or.inl ⟨rfl, fun v h1 h2 => by omega⟩
  | k + 1, i => by
    rw [vo]
    by_cases h : ho i = p + 1
    · rw [if_pos h]
      exact Or.inr ⟨i, Nat.le_refl _, by omega, rfl, h⟩
    · rw [if_neg h]
      rcases vo_spec ho p k (i + 1) with ⟨h1, h2⟩ | ⟨v, h1, h2, h3, h4⟩
      · refine Or.inl ⟨h1, fun v h3 h4 => ?_⟩
        by_cases hv : v = i
        · rw [hv]; exact h
        · exact h2 v (by omega) (by omega)
      · exact Or.inr ⟨v, by omega, by omega, h3, h4⟩
def voN (n : Nat) (ho : Nat → Nat) (p : Nat) : Nat := vo ho p n 0
theorem voN_spec (n : Nat) (ho : Nat → Nat) (p : Nat) : (voN n ho p = 0 ∧ ∀ v, v < n → ho v ≠ p + 1) ∨ ∃ v, v < n ∧ voN n ho p = v + 1 ∧ ho v = p + 1 := by
  rcases vo_spec ho p n 0 with ⟨h1, h2⟩ | ⟨v, h1, h2, h3, h4⟩
  · exact Or.inl ⟨h1, fun v hv => h2 v (Nat.zero_le _) (by omega)⟩
  · exact Or.inr ⟨v, by omega, h3, h4⟩
theorem voN_le (n : Nat) (ho : Nat → Nat) (p : Nat) : voN n ho p ≤ n := by
  rcases voN_spec n ho p with ⟨h1, -⟩ | ⟨v, h1, h2, -⟩ <;> omega
abbrev voH (h : Hs) (p : Nat) : Nat := voN (hn h) (hho h) p
abbrev sdH (h : Hs) (v : Nat) : Nat := sdN (hkd h v) (hso h v) (hev h)
abbrev ftH (h : Hs) (p v : Nat) : Nat := ftN (sdH h v) (hwa h p)
theorem voH_spec (h : Hs) (p : Nat) : (voH h p = 0 ∧ ∀ v, v < hn h → hho h v ≠ p + 1) ∨ ∃ v, v < hn h ∧ voH h p = v + 1 ∧ hho h v = p + 1 := voN_spec _ _ _
theorem voH_le (h : Hs) (p : Nat) : voH h p ≤ hn h := voN_le _ _ _
theorem sdH_le {h : Hs} (G : GoodH h) {v : Nat} (hv : v < hn h) : sdH h v ≤ 9 := sdN_le (G.2.1 v hv).2.1
theorem ftH_le (h : Hs) (p v : Nat) : ftH h p v ≤ 9 := ftN_le _ _
def fnH (h : Hs) (p : Nat) : Nat := match voH h p with
  | 0 => 0
  | v + 1 => ftH h p v
theorem fnH_le (h : Hs) (p : Nat) : fnH h p ≤ 9 := by
  unfold fnH
  split
  · omega
  · exact ftN_le _ _
set_option maxHeartbeats 4000000 in
theorem e_voiceWith_loop {b : Nat} (hb : b = 1 ∨ b = 10) {u : Sg} {h : Hs} (R : HRep u b h) (G : GoodH h) {p : Nat} (hp : p + 1 < 2 ^ 31) : ∀ k i, i + k = hn h → V 3 (2, [some (.ref b), some (.int (nI p)), some (.int (nI i))], [], u) (is (.int (cI (vo (hho h) p k i))) u) := by
  have hN := R.1.1
  have h6 := G.1.1
  rcases hb with rfl | rfl
  all_goals
    intro k
    induction k with
    | zero =>
      intro i hi
      ((repeat refine VV.s rfl rfl ?_); (try (conv => arg 3; simp only [Nat.reduceAdd, sto1, sto2, isL, cond_true, cond_false, List.drop_succ_cons, List.drop_zero, List.drop_nil])))
      refine VV.itt (by rw [hN]; exact nI_le (by omega) (by omega)) ?_
      ((repeat refine VV.s rfl rfl ?_); (try (conv => arg 3; simp only [Nat.reduceAdd, sto1, sto2, isL, cond_true, cond_false, List.drop_succ_cons, List.drop_zero, List.drop_nil])))
      exact VV.ret1 rfl ⟨rfl, rfl⟩
    | succ k ih =>
      intro i hi
      ((repeat refine VV.s rfl rfl ?_); (try (conv => arg 3; simp only [Nat.reduceAdd, sto1, sto2, isL, cond_true, cond_false, List.drop_succ_cons, List.drop_zero, List.drop_nil])))
      refine VV.itf (by rw [hN]; exact nI_ge (by omega) (by omega)) ?_
      ((repeat refine VV.s rfl rfl ?_); (try (conv => arg 3; simp only [Nat.reduceAdd, sto1, sto2, isL, cond_true, cond_false, List.drop_succ_cons, List.drop_zero, List.drop_nil])))
      refine VV.iald rfl rfl rfl (show i < 6 by omega) (by decide) ?_
      ((repeat refine VV.s rfl rfl ?_); (try (conv => arg 3; simp only [Nat.reduceAdd, sto1, sto2, isL, cond_true, cond_false, List.drop_succ_cons, List.drop_zero, List.drop_nil])))
      have e := (R.2.1 i (by omega)).2.2.2.1
      have hl := (G.2.2.1.1 i (by omega)).1
      have e2 := cI_nI (x := hho h i) (p := p) (by omega) hp
      rw [← e] at e2
      refine VV.ite (fun q => ?_) (fun q => ?_)
      · ((repeat (fail_if_success show VV _ _ (2, _, _, _) _); refine VV.s rfl rfl ?_); (try (conv => arg 3; simp only [Nat.reduceAdd, sto1, sto2, isL, cond_true, cond_false, List.drop_succ_cons, List.drop_zero, List.drop_nil])))
        rw [vo, if_neg (fun z => q (e2.mpr z))]
        rw [nI_1]
        exact ih (i + 1) (by omega)
      · ((repeat refine VV.s rfl rfl ?_); (try (conv => arg 3; simp only [Nat.reduceAdd, sto1, sto2, isL, cond_true, cond_false, List.drop_succ_cons, List.drop_zero, List.drop_nil])))
        rw [vo, if_pos (e2.mp (Classical.not_not.mp q))]
        exact VV.ret1 rfl ⟨by rw [cI_s], rfl⟩
theorem e_voiceWith {b : Nat} (hb : b = 1 ∨ b = 10) {u : Sg} {h : Hs} (R : HRep u b h) (G : GoodH h) {p : Nat} (hp : p + 1 < 2 ^ 31) : V 3 (0, [some (.ref b), some (.int (nI p)), none], [], u) (is (.int (cI (voH h p))) u) := by
  refine VV.s rfl rfl ?_
  refine VV.s rfl rfl ?_
  exact e_voiceWith_loop hb R G hp (hn h) 0 (by omega)
theorem e_Hsound {b : Nat} (hb : b = 1 ∨ b = 10) {u : Sg} {h : Hs} (R : HRep u b h) (G : GoodH h) {v : Nat} (hv : v < hn h) : V 10 (0, [some (.ref b), some (.int (nI v))], [], u) (is (.int (nI (sdH h v))) u) := by
  have h6 := G.1.1
  obtain ⟨k1, k2, -⟩ := R.2.1 v hv
  obtain ⟨g1, g2, -⟩ := G.2.1 v hv
  have he := R.1.2.1
  have hE := G.1.2.1
  rcases hb with rfl | rfl
  all_goals
    ((repeat refine VV.s rfl rfl ?_); (try (conv => arg 3; simp only [Nat.reduceAdd, sto1, sto2, isL, cond_true, cond_false, List.drop_succ_cons, List.drop_zero, List.drop_nil])))
    refine VV.iald rfl rfl rfl (show v < 6 by omega) (by decide) ?_
    ((repeat refine VV.s rfl rfl ?_); (try (conv => arg 3; simp only [Nat.reduceAdd, sto1, sto2, isL, cond_true, cond_false, List.drop_succ_cons, List.drop_zero, List.drop_nil])))
    refine VV.iald rfl rfl rfl (show v < 6 by omega) (by decide) ?_
    ((repeat refine VV.s rfl rfl ?_); (try (conv => arg 3; simp only [Nat.reduceAdd, sto1, sto2, isL, cond_true, cond_false, List.drop_succ_cons, List.drop_zero, List.drop_nil])))
    rw [k1, k2, he]
    refine VV.callE rfl rfl rfl rfl (e_Ksound g1 g2 (by omega)) rfl ?_
    exact VV.ret1 rfl ⟨rfl, rfl⟩
theorem e_fitWith {b : Nat} (hb : b = 1 ∨ b = 10) {u : Sg} {h : Hs} (R : HRep u b h) (G : GoodH h) {p v : Nat} (hp : p < hn h) (hv : v < hn h) : V 11 (0, [some (.ref b), some (.int (nI p)), some (.int (nI v))], [], u) (is (.int (nI (ftH h p v))) u) := by
  have h6 := G.1.1
  have k3 := (R.2.1 p hp).2.2.1
  have g3 := (G.2.1 p hp).2.2
  have g2 := (G.2.1 v hv).2.1
  have hs := e_Hsound hb R G hv
  rcases hb with rfl | rfl
  all_goals
    ((repeat refine VV.s rfl rfl ?_); (try (conv => arg 3; simp only [Nat.reduceAdd, sto1, sto2, isL, cond_true, cond_false, List.drop_succ_cons, List.drop_zero, List.drop_nil])))
    refine VV.callE rfl rfl rfl rfl hs rfl ?_
    ((repeat refine VV.s rfl rfl ?_); (try (conv => arg 3; simp only [Nat.reduceAdd, sto1, sto2, isL, cond_true, cond_false, List.drop_succ_cons, List.drop_zero, List.drop_nil])))
    refine VV.iald rfl rfl rfl (show p < 6 by omega) (by decide) ?_
    ((repeat refine VV.s rfl rfl ?_); (try (conv => arg 3; simp only [Nat.reduceAdd, sto1, sto2, isL, cond_true, cond_false, List.drop_succ_cons, List.drop_zero, List.drop_nil])))
    rw [k3]
    refine VV.ret1 rfl ⟨congrArg (fun x => some (Value.int x)) (ft_abs _ ?_ _ ?_), rfl⟩
    · have := sdH_le G hv; omega
    · omega
theorem e_fitNow {b : Nat} (hb : b = 1 ∨ b = 10) {u : Sg} {h : Hs} (R : HRep u b h) (G : GoodH h) {p : Nat} (hp : p < hn h) : V 12 (0, [some (.ref b), some (.int (nI p)), none], [], u) (is (.int (nI (fnH h p))) u) := by
  have h6 := G.1.1
  have hs := e_voiceWith hb R G (p := p) (by omega)
  have hf := fun v hv => e_fitWith hb R G (p := p) (v := v) hp hv
  have hx := voH_spec h p
  rcases hb with rfl | rfl
  all_goals
    ((repeat refine VV.s rfl rfl ?_); (try (conv => arg 3; simp only [Nat.reduceAdd, sto1, sto2, isL, cond_true, cond_false, List.drop_succ_cons, List.drop_zero, List.drop_nil])))
    refine VV.callE rfl rfl rfl rfl hs rfl ?_
    ((repeat refine VV.s rfl rfl ?_); (try (conv => arg 3; simp only [Nat.reduceAdd, sto1, sto2, isL, cond_true, cond_false, List.drop_succ_cons, List.drop_zero, List.drop_nil])))
    unfold fnH
    rcases hx with ⟨h1, -⟩ | ⟨v, h1, h2, -⟩
    · rw [h1]
      refine VV.itf (fun z => z rfl) ?_
      ((repeat refine VV.s rfl rfl ?_); (try (conv => arg 3; simp only [Nat.reduceAdd, sto1, sto2, isL, cond_true, cond_false, List.drop_succ_cons, List.drop_zero, List.drop_nil])))
      exact VV.ret1 rfl ⟨rfl, rfl⟩
    · rw [h2, cI_s]
      refine VV.itt (fun z => ?_) ?_
      · have := congrArg Int32.toInt z
        rw [nI_toInt (by omega)] at this
        exact absurd this (by have : (-1 : Int32).toInt = -1 := rfl; omega)
      · ((repeat refine VV.s rfl rfl ?_); (try (conv => arg 3; simp only [Nat.reduceAdd, sto1, sto2, isL, cond_true, cond_false, List.drop_succ_cons, List.drop_zero, List.drop_nil])))
        refine VV.callE rfl rfl rfl rfl (hf v h1) rfl ?_
        exact VV.ret1 rfl ⟨rfl, rfl⟩
theorem e_isWithAnother {b : Nat} (hb : b = 1 ∨ b = 10) {u : Sg} {v : Nat} {x : Nat} (hx : gA u (b + 4) v = cI x) (h6 : v < 6) (hx6 : x ≤ 6) : V 6 (0, [some (.ref b), some (.int (nI v))], [], u) (is (.int (if x = 0 ∨ x = v + 1 then 0 else 1)) u) := by
  have e1 := cI_none (x := x) (by omega)
  have e2 := cI_nI (x := x) (p := v) (by omega) (by omega)
  rw [← hx] at e1 e2
  rcases hb with rfl | rfl
  all_goals
    ((repeat refine VV.s rfl rfl ?_); (try (conv => arg 3; simp only [Nat.reduceAdd, sto1, sto2, isL, cond_true, cond_false, List.drop_succ_cons, List.drop_zero, List.drop_nil])))
    refine VV.iald rfl rfl rfl (show v < 6 by omega) (by decide) ?_
    ((repeat refine VV.s rfl rfl ?_); (try (conv => arg 3; simp only [Nat.reduceAdd, sto1, sto2, isL, cond_true, cond_false, List.drop_succ_cons, List.drop_zero, List.drop_nil])))
    refine VV.ite (fun q => ?_) (fun q => ?_)
    · ((repeat refine VV.s rfl rfl ?_); (try (conv => arg 3; simp only [Nat.reduceAdd, sto1, sto2, isL, cond_true, cond_false, List.drop_succ_cons, List.drop_zero, List.drop_nil])))
      exact VV.ret3 rfl (Or.inl rfl) ⟨by rw [if_pos (Or.inl (e1.mp q))], rfl⟩
    · ((repeat refine VV.s rfl rfl ?_); (try (conv => arg 3; simp only [Nat.reduceAdd, sto1, sto2, isL, cond_true, cond_false, List.drop_succ_cons, List.drop_zero, List.drop_nil])))
      refine VV.iald rfl rfl rfl (show v < 6 by omega) (by decide) ?_
      ((repeat refine VV.s rfl rfl ?_); (try (conv => arg 3; simp only [Nat.reduceAdd, sto1, sto2, isL, cond_true, cond_false, List.drop_succ_cons, List.drop_zero, List.drop_nil])))
      refine VV.ite (fun q2 => ?_) (fun q2 => ?_)
      · ((repeat refine VV.s rfl rfl ?_); (try (conv => arg 3; simp only [Nat.reduceAdd, sto1, sto2, isL, cond_true, cond_false, List.drop_succ_cons, List.drop_zero, List.drop_nil])))
        exact VV.ret3 rfl (Or.inl rfl) ⟨by rw [if_pos (Or.inr (e2.mp q2))], rfl⟩
      · ((repeat refine VV.s rfl rfl ?_); (try (conv => arg 3; simp only [Nat.reduceAdd, sto1, sto2, isL, cond_true, cond_false, List.drop_succ_cons, List.drop_zero, List.drop_nil])))
        exact VV.ret3 rfl (Or.inr rfl) ⟨by rw [if_neg (fun z => z.elim (fun z => q (e1.mpr z)) (fun z => q2 (e2.mpr z)))], rfl⟩
