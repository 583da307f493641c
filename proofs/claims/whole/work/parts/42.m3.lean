/-! ===== the reference: the past, and the calls that write ===== -/
section M3
variable {u : Sg} {z : Zs}
/-- a row is taken back, as far as voice i -/
def tkn (u t : Sg) (o a i : Nat) : Prop := gI t 41 2 = gA u o a ∧ (∀ v, v < i → gA t 46 v = gA u o (a + 1 + v) ∧ gA t 47 v = gA u o (a + 7 + v) ∧ gA t 48 v = gA u o (a + 13 + v)) ∧ (∀ k, k ≠ 46 → k ≠ 47 → k ≠ 48 → gA t k = gA u k) ∧ (∀ k j, ¬ (k = 41 ∧ j = 2) → gI t k j = gI u k j) ∧ ∀ k j, gJ t k j = gJ u k j
theorem tkn.MF {t : Sg} {o a : Nat} (h : tkn u t o a 6) : MF u t := ⟨fun k hk => h.2.2.1 k (by omega) (by omega) (by omega), fun k j hk => h.2.2.2.1 k j (fun q => hk q.1), fun j h1 h2 h3 h4 => h.2.2.2.1 41 j (fun q => h2 q.2), h.2.2.2.2⟩
set_option maxHeartbeats 8000000 in
theorem f_takes_loop {o a : Nat} (hto : o = 57 ∨ o = 58 ∨ o = 61) (ha : a + 19 ≤ lyN o) : ∀ k i t, i + k = 6 → tkn u t o a i → V 133 (9, [some (.ref 41), some (.ref o), some (.int (nI a)), some (.int (nI i))], [], t) (fun r t => r = none ∧ tkn u t o a 6) := by
  rcases hto with rfl | rfl | rfl
  all_goals
    have ha2 : a + 19 ≤ 460 := Nat.le_trans ha (by decide)
    intro k
    induction k with
    | zero =>
      intro i t hi hf
      ((repeat refine VV.s rfl rfl ?_); (try (conv => arg 3; simp only [Nat.reduceAdd, sto1, sto2, isL, cond_true, cond_false, List.drop_succ_cons, List.drop_zero, List.drop_nil])))
      refine VV.itt (nI_le (a := 6) (by omega) (by omega)) ?_
      exact VV.ret0 rfl ⟨rfl, by rw [show 6 = i by omega]; exact hf⟩
    | succ k ih =>
      intro i t hi hf
      have e1 : nI a + 1 + nI i = nI (a + 1 + i) := by rw [nI_1, nI_add]
      have e7 : nI a + 7 + nI i = nI (a + 7 + i) := by rw [show nI a + 7 = nI (a + 7) from add_nI a 7, nI_add]
      have e13 : nI a + 13 + nI i = nI (a + 13 + i) := by rw [show nI a + 13 = nI (a + 13) from add_nI a 13, nI_add]
      obtain ⟨f1, f2, f3, f4, f5⟩ := hf
      ((repeat refine VV.s rfl rfl ?_); (try (conv => arg 3; simp only [Nat.reduceAdd, sto1, sto2, isL, cond_true, cond_false, List.drop_succ_cons, List.drop_zero, List.drop_nil])))
      refine VV.itf (nI_ge (b := 6) (by omega) (by omega)) ?_
      ((repeat refine VV.s rfl rfl ?_); (try (conv => arg 3; simp only [Nat.reduceAdd, sto1, sto2, isL, cond_true, cond_false, List.drop_succ_cons, List.drop_zero, List.drop_nil])))
      rw [e1]
      refine VV.iald rfl rfl rfl (Nat.lt_of_lt_of_le (show a + 1 + i < a + 19 by omega) ha) (by decide) ?_
      ((repeat refine VV.s rfl rfl ?_); (try (conv => arg 3; simp only [Nat.reduceAdd, sto1, sto2, isL, cond_true, cond_false, List.drop_succ_cons, List.drop_zero, List.drop_nil])))
      refine VV.iast rfl rfl rfl (show i < 6 by omega) (by decide) ?_
      ((repeat refine VV.s rfl rfl ?_); (try (conv => arg 3; simp only [Nat.reduceAdd, sto1, sto2, isL, cond_true, cond_false, List.drop_succ_cons, List.drop_zero, List.drop_nil])))
      rw [e7]
      refine VV.iald rfl rfl rfl (Nat.lt_of_lt_of_le (show a + 7 + i < a + 19 by omega) ha) (by decide) ?_
      ((repeat refine VV.s rfl rfl ?_); (try (conv => arg 3; simp only [Nat.reduceAdd, sto1, sto2, isL, cond_true, cond_false, List.drop_succ_cons, List.drop_zero, List.drop_nil])))
      refine VV.iast rfl rfl rfl (show i < 6 by omega) (by decide) ?_
      ((repeat refine VV.s rfl rfl ?_); (try (conv => arg 3; simp only [Nat.reduceAdd, sto1, sto2, isL, cond_true, cond_false, List.drop_succ_cons, List.drop_zero, List.drop_nil])))
      rw [e13]
      refine VV.iald rfl rfl rfl (Nat.lt_of_lt_of_le (show a + 13 + i < a + 19 by omega) ha) (by decide) ?_
      ((repeat refine VV.s rfl rfl ?_); (try (conv => arg 3; simp only [Nat.reduceAdd, sto1, sto2, isL, cond_true, cond_false, List.drop_succ_cons, List.drop_zero, List.drop_nil])))
      refine VV.iast rfl rfl rfl (show i < 6 by omega) (by decide) ?_
      ((repeat (fail_if_success show VV _ _ (9, _, _, _) _); refine VV.s rfl rfl ?_); (try (conv => arg 3; simp only [Nat.reduceAdd, sto1, sto2, isL, cond_true, cond_false, List.drop_succ_cons, List.drop_zero, List.drop_nil])))
      rw [nI_1]
      refine ih (i + 1) _ (by omega) ⟨f1, fun v hv => ?_, fun k h1 h2 h3 => ?_, f4, f5⟩
      · show upd (gA t 46) i _ v = _ ∧ upd (gA t 47) i _ v = _ ∧ upd (gA t 48) i _ v = _
        by_cases c : v = i
        · subst c
          rw [upd_at, upd_at, upd_at, if_pos rfl, if_pos rfl, if_pos rfl]
          exact ⟨congrFun (f3 _ (by omega) (by omega) (by omega)) _, congrFun (f3 _ (by omega) (by omega) (by omega)) _, congrFun (f3 _ (by omega) (by omega) (by omega)) _⟩
        · rw [upd_at, upd_at, upd_at, if_neg c, if_neg c, if_neg c]
          exact f2 v (by omega)
      · rw [gA_pA, if_neg h3, gA_pA, if_neg h2, gA_pA, if_neg h1]
        exact f3 k h1 h2 h3
theorem f_takes {o a : Nat} (hto : o = 57 ∨ o = 58 ∨ o = 61) (ha : a + 19 ≤ lyN o) : V 133 (0, [some (.ref 41), some (.ref o), some (.int (nI a)), none], [], u) (fun r t => r = none ∧ tkn u t o a 6) := by
  have lp := fun t hf => f_takes_loop (u := u) hto ha 6 0 t (by omega) hf
  rcases hto with rfl | rfl | rfl
  all_goals
    ((repeat refine VV.s rfl rfl ?_); (try (conv => arg 3; simp only [Nat.reduceAdd, sto1, sto2, isL, cond_true, cond_false, List.drop_succ_cons, List.drop_zero, List.drop_nil])))
    refine VV.iald rfl rfl rfl (Nat.lt_of_lt_of_le (show a < a + 19 by omega) ha) (by decide) ?_
    ((repeat (fail_if_success show VV _ _ (9, _, _, _) _); refine VV.s rfl rfl ?_); (try (conv => arg 3; simp only [Nat.reduceAdd, sto1, sto2, isL, cond_true, cond_false, List.drop_succ_cons, List.drop_zero, List.drop_nil])))
    refine lp _ ⟨rfl, fun v hv => absurd hv (Nat.not_lt_zero v), fun k _ _ _ => rfl, fun k j hk => ?_, fun _ _ => rfl⟩
    rw [gI_pI]
    by_cases c : k = 41
    · rw [if_pos c, if_neg (fun e => hk ⟨c, e⟩)]
    · rw [if_neg c]
theorem f_puts : V 135 (0, [some (.ref 41)], [], u) (fun r t => r = none ∧ ∃ f, t = pA u 58 f ∧ laid u 58 0 6 f) := by
  ((repeat refine VV.s rfl rfl ?_); (try (conv => arg 3; simp only [Nat.reduceAdd, sto1, sto2, isL, cond_true, cond_false, List.drop_succ_cons, List.drop_zero, List.drop_nil])))
  refine VV.call rfl rfl rfl rfl (f_lays (to := 58) (a := 0) (Or.inr (Or.inl rfl)) (by decide)) (fun r t q => ?_)
  obtain ⟨rfl, q⟩ := q
  exact VV.ret0 rfl ⟨rfl, q⟩
theorem f_back : V 136 (0, [some (.ref 41)], [], u) (fun r t => r = none ∧ tkn u t 58 0 6) := by
  ((repeat refine VV.s rfl rfl ?_); (try (conv => arg 3; simp only [Nat.reduceAdd, sto1, sto2, isL, cond_true, cond_false, List.drop_succ_cons, List.drop_zero, List.drop_nil])))
  refine VV.call rfl rfl rfl rfl (f_takes (o := 58) (a := 0) (Or.inr (Or.inl rfl)) (by decide)) (fun r t q => ?_)
  obtain ⟨rfl, q⟩ := q
  exact VV.ret0 rfl ⟨rfl, q⟩
/-- what was put aside comes back -/
theorem MRep.restored {u t t2 : Sg} {h : Hs} {f : Nat → Int32} {e : Nat} {ho us : Nat → Nat} {sl : Nat → Int32} (R0 : MRep u h) (h6 : hn h ≤ 6) (L : laid u 58 0 6 f) (R : MRep t (hE h e ho us sl)) (e58 : gA t 58 = f) (K : tkn t t2 58 0 6) : MRep t2 h := by
  obtain ⟨k1, k2, k3, k4, -⟩ := K
  rw [e58] at k1 k2
  have : MRep t2 (hE (hE h e ho us sl) (hev h) (hho h) (hus h) (hsl h)) := by
    refine R.setE (k4 41 1 (by omega)) ?_ (k4 41 3 (by omega)) (k4 41 23 (by omega)) k3 (fun v hv => ?_) (fun v hv => ?_) (fun v hv => ?_)
    · rw [k1, L.1]; exact R0.1.2.1
    · have hv : v < hn h := hv
      rw [(k2 v (by omega)).1, (L.2.1 v (by omega)).1]; exact (R0.2.1 v hv).2.2.2.1
    · have hv : v < hn h := hv
      rw [(k2 v (by omega)).2.1, (L.2.1 v (by omega)).2.1]; exact (R0.2.1 v hv).2.2.2.2.1
    · have hv : v < hn h := hv
      rw [(k2 v (by omega)).2.2, (L.2.1 v (by omega)).2.2]; exact (R0.2.1 v hv).2.2.2.2.2
  exact this
/-- the past behind a row laid at n -/
theorem kpM {t : Sg} {h : Hs} {n : Nat} {F : Nat → Int32} (R : MRep u h) (G : GoodH h) (hn7 : n < 8) (hcase : (hun h = 8 ∧ n = 7 ∧ ∀ j, j < 133 → F j = gA u 57 (j + 19)) ∨ (hun h = n ∧ ∀ j, F j = gA u 57 j)) {f : Nat → Int32} (L : f (19 * n) = gI u 41 2 ∧ (∀ v, v < 6 → f (19 * n + 1 + v) = gA u 46 v ∧ f (19 * n + 7 + v) = gA u 47 v ∧ f (19 * n + 13 + v) = gA u 48 v) ∧ ∀ j, j < 19 * n ∨ 19 * n + 19 ≤ j → f j = F j) (i1 : gI t 41 1 = gI u 41 1) (i2 : gI t 41 2 = gI u 41 2) (i3 : gI t 41 3 = gI u 41 3) (i23 : gI t 41 23 = nI (n + 1)) (ga : ∀ k, k ≠ 57 → gA t k = gA u k) (g57 : gA t 57 = f) : MRep t (hKp h) := by
  have h6 := G.1.1
  have h8 := G.1.2.2.2
  have old := R.2.2.2
  refine ⟨⟨i1.trans R.1.1, i2.trans R.1.2.1, i3.trans R.1.2.2.1, ?_⟩, fun v hv => by rw [ga 43 (by omega), ga 44 (by omega), ga 45 (by omega), ga 46 (by omega), ga 47 (by omega), ga 48 (by omega)]; exact R.2.1 v hv, fun i c hi hc => by rw [ga (49 + c) (by omega)]; exact R.2.2.1 i c hi hc, fun k hk => ?_⟩
  · show gI t 41 23 = nI (if hun h = 8 then 8 else hun h + 1)
    rw [i23]
    rcases hcase with ⟨h1, h2, -⟩ | ⟨h1, -⟩
    · rw [if_pos h1, h2]
    · rw [if_neg (by omega), h1]
  · have hk : k < if hun h = 8 then 8 else hun h + 1 := hk
    rw [g57]
    show f (19 * k) = nI (kpF (hun h) (hPe h) (hev h) k) ∧ ∀ v, v < hn h → f (19 * k + 1 + v) = cI (kpF (hun h) (hPh h) (hho h) k v) ∧ f (19 * k + 7 + v) = nI (kpF (hun h) (hPu h) (hus h) k v) ∧ f (19 * k + 13 + v) = kpF (hun h) (hPs h) (hsl h) k v
    have new : k = n → f (19 * k) = nI (hev h) ∧ ∀ v, v < hn h → f (19 * k + 1 + v) = cI (hho h v) ∧ f (19 * k + 7 + v) = nI (hus h v) ∧ f (19 * k + 13 + v) = hsl h v := by
      intro e
      rw [e]
      refine ⟨L.1.trans R.1.2.1, fun v hv => ?_⟩
      obtain ⟨p1, p2, p3⟩ := L.2.1 v (by omega)
      rw [p1, p2, p3]
      exact (R.2.1 v hv).2.2.2
    unfold kpF
    rcases hcase with ⟨h1, h2, h3⟩ | ⟨h1, h3⟩
    · rw [if_pos h1] at hk
      simp only [if_pos h1]
      by_cases c : k < 7
      · simp only [if_pos c]
        obtain ⟨p1, p2⟩ := old (k + 1) (by omega)
        refine ⟨by rw [L.2.2 _ (by omega), h3 _ (by omega), ← p1]; congr 1, fun v hv => ?_⟩
        obtain ⟨q1, q2, q3⟩ := p2 v hv
        rw [L.2.2 _ (by omega), L.2.2 _ (by omega), L.2.2 _ (by omega), h3 _ (by omega), h3 _ (by omega), h3 _ (by omega), ← q1, ← q2, ← q3]
        refine ⟨?_, ?_, ?_⟩ <;> congr 1 <;> omega
      · simp only [if_neg c]
        exact new (by omega)
    · rw [if_neg (by omega)] at hk
      simp only [if_neg (show ¬ hun h = 8 by omega)]
      by_cases c : k < hun h
      · simp only [if_pos c]
        obtain ⟨p1, p2⟩ := old k c
        refine ⟨by rw [L.2.2 _ (by omega), h3]; exact p1, fun v hv => ?_⟩
        rw [L.2.2 _ (by omega), L.2.2 _ (by omega), L.2.2 _ (by omega), h3, h3, h3]
        exact p2 v hv
      · simp only [if_neg c]
        exact new (by omega)
theorem mul19b (i : Nat) : (19 : Int32) * nI i = nI (19 * i) := by
  have e : (19 : Int32) = nI 19 := rfl
  rw [e, pk_mul]
set_option maxHeartbeats 8000000 in
theorem f_notes_tail {t0 : Sg} {n : Nat} (hn7 : n < 8) (hN : gI t0 41 23 = nI n) {d : Option Value} {Q : Option Value → Sg → Prop} (K : ∀ f, laid t0 57 (19 * n) 6 f → Q none (pI (pA t0 57 f) 41 23 (nI (n + 1)))) : V 134 (49, [some (.ref 41), d], [], t0) Q := by
  ((repeat refine VV.s rfl rfl ?_); (try (conv => arg 3; simp only [Nat.reduceAdd, sto1, sto2, isL, cond_true, cond_false, List.drop_succ_cons, List.drop_zero, List.drop_nil])))
  rw [hN, mul19b]
  refine VV.call rfl rfl rfl rfl (f_lays (to := 57) (a := 19 * n) (Or.inl rfl) (show 19 * n + 19 ≤ 152 by omega)) (fun r t q => ?_)
  obtain ⟨rfl, f, rfl, L⟩ := q
  ((repeat refine VV.s rfl rfl ?_); (try (conv => arg 3; simp only [Nat.reduceAdd, sto1, sto2, isL, cond_true, cond_false, List.drop_succ_cons, List.drop_zero, List.drop_nil])))
  refine VV.ret0 rfl ?_
  have e : gI (pA t0 57 f) 41 23 + 1 = nI (n + 1) := by show gI t0 41 23 + 1 = _; rw [hN, nI_1]
  rw [e]
  exact K f L
set_option maxHeartbeats 8000000 in
theorem f_shift : ∀ k i F, i + k = 133 → (∀ j, F j = if j < i then gA u 57 (j + 19) else gA u 57 j) → ∀ (Q : Option Value → Sg → Prop), (∀ F d, (∀ j, j < 133 → F j = gA u 57 (j + 19)) → V 134 (39, [some (.ref 41), d], [], pA u 57 F) Q) → V 134 (11, [some (.ref 41), some (.int (nI i))], [], pA u 57 F) Q := by
  intro k
  induction k with
  | zero =>
    intro i F hi hF Q K
    ((repeat (fail_if_success show VV _ _ (15, _, _, _) _); refine VV.s rfl rfl ?_); (try (conv => arg 3; simp only [Nat.reduceAdd, sto1, sto2, isL, cond_true, cond_false, List.drop_succ_cons, List.drop_zero, List.drop_nil])))
    refine VV.s rfl rfl ?_
    refine VV.itt (nI_le (a := 133) (by omega) (by omega)) ?_
    exact K F _ (fun j hj => by rw [hF j, if_pos (by omega)])
  | succ k ih =>
    intro i F hi hF Q K
    ((repeat (fail_if_success show VV _ _ (15, _, _, _) _); refine VV.s rfl rfl ?_); (try (conv => arg 3; simp only [Nat.reduceAdd, sto1, sto2, isL, cond_true, cond_false, List.drop_succ_cons, List.drop_zero, List.drop_nil])))
    refine VV.s rfl rfl ?_
    refine VV.itf (nI_ge (b := 133) (by omega) (by omega)) ?_
    ((repeat (fail_if_success show VV _ _ (31, _, _, _) _); refine VV.s rfl rfl ?_); (try (conv => arg 3; simp only [Nat.reduceAdd, sto1, sto2, isL, cond_true, cond_false, List.drop_succ_cons, List.drop_zero, List.drop_nil])))
    rw [show nI i + 19 = nI (i + 19) from add_nI i 19]
    refine VV.iald rfl rfl rfl (show i + 19 < 152 by omega) (by decide) ?_
    refine VV.iast rfl rfl rfl (show i < 152 by omega) (by decide) ?_
    ((repeat (fail_if_success show VV _ _ (11, _, _, _) _); refine VV.s rfl rfl ?_); (try (conv => arg 3; simp only [Nat.reduceAdd, sto1, sto2, isL, cond_true, cond_false, List.drop_succ_cons, List.drop_zero, List.drop_nil])))
    rw [nI_1]
    have := ih (i + 1) (upd F i (F (i + 19))) (by omega) (fun j => ?_) Q K
    · refine VV.eq ?_ this
      congr 3
      refine Sg_ext (fun _ _ => rfl) (fun _ _ => rfl) (fun k j => ?_)
      simp only [gA_pA]
      split <;> rfl
    · rw [upd_at]
      by_cases c : j = i
      · rw [if_pos c, if_pos (by omega), c, hF (i + 19), if_neg (by omega)]
      · rw [if_neg c, hF j]
        by_cases c2 : j < i
        · rw [if_pos c2, if_pos (by omega)]
        · rw [if_neg c2, if_neg (by omega)]
set_option maxHeartbeats 4000000 in
theorem f_notes {h : Hs} (R : MRep u h) (G : GoodH h) : V 134 (0, [some (.ref 41), none], [], u) (fun r t => r = none ∧ MRep t (hKp h) ∧ MF u t) := by
  have h8 := G.1.2.2.2
  have hU := R.1.2.2.2
  ((repeat refine VV.s rfl rfl ?_); (try (conv => arg 3; simp only [Nat.reduceAdd, sto1, sto2, isL, cond_true, cond_false, List.drop_succ_cons, List.drop_zero, List.drop_nil])))
  rw [hU]
  refine VV.ite (fun q => ?_) (fun q => ?_)
  · have q : ¬ nI (hun h) = nI 8 := q
    rw [eq_nI (by omega) (by omega)] at q
    refine f_notes_tail (n := hun h) (by omega) hU (fun f L => ⟨rfl, ?_, (MF.rf.A (by omega)).I (by omega)⟩)
    refine kpM (n := hun h) (F := gA u 57) (f := f) R G (by omega) (Or.inr ⟨rfl, fun _ => rfl⟩) L rfl rfl rfl rfl (fun k hk => ?_) rfl
    show gA (pA u 57 f) k = _
    rw [gA_pA, if_neg hk]
  · have q : ¬ ¬ nI (hun h) = nI 8 := q
    rw [eq_nI (by omega) (by omega)] at q
    have q := Classical.not_not.mp q
    ((repeat (fail_if_success show VV _ _ (11, _, _, _) _); refine VV.s rfl rfl ?_); (try (conv => arg 3; simp only [Nat.reduceAdd, sto1, sto2, isL, cond_true, cond_false, List.drop_succ_cons, List.drop_zero, List.drop_nil])))
    have e0 : u = pA u 57 (gA u 57) := by
      refine Sg_ext (fun _ _ => rfl) (fun _ _ => rfl) (fun k j => ?_)
      rw [gA_pA]
      split
      · rename_i e; rw [e]
      · rfl
    have : V 134 (11, [some (.ref 41), some (.int (nI 0))], [], pA u 57 (gA u 57)) (fun r t => r = none ∧ MRep t (hKp h) ∧ MF u t) := by
      refine f_shift 133 0 (gA u 57) (by omega) (fun j => by rw [if_neg (Nat.not_lt_zero j)]) _ (fun F d hF => ?_)
      ((repeat (fail_if_success show VV _ _ (49, _, _, _) _); refine VV.s rfl rfl ?_); (try (conv => arg 3; simp only [Nat.reduceAdd, sto1, sto2, isL, cond_true, cond_false, List.drop_succ_cons, List.drop_zero, List.drop_nil])))
      have e7 : gI (pI (pA u 57 F) 41 23 (gI (pA u 57 F) 41 23 - 1)) 41 23 = nI 7 := by show gI u 41 23 - 1 = _; rw [hU, q]; rfl
      refine f_notes_tail (n := 7) (by omega) e7 (fun f L => ⟨rfl, ?_, (((MF.rf.A (by omega)).I (by omega)).A (by omega)).I (by omega)⟩)
      refine kpM (n := 7) (F := F) (f := f) R G (by omega) (Or.inl ⟨q, rfl, hF⟩) L rfl rfl rfl rfl (fun k hk => ?_) rfl
      simp only [gA_pA, gA_pI]
      rw [if_neg hk, if_neg hk]
    rw [← e0] at this
    exact this
theorem m_counter (C : MInv u z) : MC 103 [some (.ref 41), none] u (.int (nI (hn z.1))) (zH z (h0 z.1)) := by
  ((repeat refine VV.s rfl rfl ?_); (try (conv => arg 3; simp only [Nat.reduceAdd, sto1, sto2, isL, cond_true, cond_false, List.drop_succ_cons, List.drop_zero, List.drop_nil])))
  refine VV.call rfl rfl rfl rfl (f_begin C.1) (fun r t q => ?_)
  obtain ⟨rfl, R2, A2, -⟩ := q
  ((repeat refine VV.s rfl rfl ?_); (try (conv => arg 3; simp only [Nat.reduceAdd, sto1, sto2, isL, cond_true, cond_false, List.drop_succ_cons, List.drop_zero, List.drop_nil])))
  exact VV.ret1 rfl ⟨by rw [C.1.1.1], C.main R2 A2, A2.onC⟩
theorem m_one_bad (C : MInv u z) {k s w : Int32} (h : oneBad k s w) : MC 105 [some (.ref 41), some (.int k), some (.int s), some (.int w)] u (.int (-2)) (zB z) := by
  by_cases c1 : k < 0 ∨ 5 < k
  · ((repeat refine VV.s rfl rfl ?_); (try (conv => arg 3; simp only [Nat.reduceAdd, sto1, sto2, isL, cond_true, cond_false, List.drop_succ_cons, List.drop_zero, List.drop_nil])))
    refine VV.callE rfl rfl rfl rfl (f_inN c1) rfl ?_
    refine VV.s rfl rfl ?_
    refine VV.itt (by decide) ?_
    ((repeat refine VV.s rfl rfl ?_); (try (conv => arg 3; simp only [Nat.reduceAdd, sto1, sto2, isL, cond_true, cond_false, List.drop_succ_cons, List.drop_zero, List.drop_nil])))
    refine VV.callE rfl rfl rfl rfl f_bad rfl ?_
    ((repeat refine VV.s rfl rfl ?_); (try (conv => arg 3; simp only [Nat.reduceAdd, sto1, sto2, isL, cond_true, cond_false, List.drop_succ_cons, List.drop_zero, List.drop_nil])))
    exact VV.ret1 rfl ⟨rfl, C.bad, (Agr.rf).A (by decide)⟩
  · ((repeat refine VV.s rfl rfl ?_); (try (conv => arg 3; simp only [Nat.reduceAdd, sto1, sto2, isL, cond_true, cond_false, List.drop_succ_cons, List.drop_zero, List.drop_nil])))
    refine VV.callE rfl rfl rfl rfl (f_inY c1) rfl ?_
    refine VV.s rfl rfl ?_
    refine VV.itf (by decide) ?_
    by_cases c2 : s < 0 ∨ 9 < s
    · ((repeat refine VV.s rfl rfl ?_); (try (conv => arg 3; simp only [Nat.reduceAdd, sto1, sto2, isL, cond_true, cond_false, List.drop_succ_cons, List.drop_zero, List.drop_nil])))
      refine VV.callE rfl rfl rfl rfl (f_inN c2) rfl ?_
      refine VV.s rfl rfl ?_
      refine VV.itt (by decide) ?_
      ((repeat refine VV.s rfl rfl ?_); (try (conv => arg 3; simp only [Nat.reduceAdd, sto1, sto2, isL, cond_true, cond_false, List.drop_succ_cons, List.drop_zero, List.drop_nil])))
      refine VV.callE rfl rfl rfl rfl f_bad rfl ?_
      ((repeat refine VV.s rfl rfl ?_); (try (conv => arg 3; simp only [Nat.reduceAdd, sto1, sto2, isL, cond_true, cond_false, List.drop_succ_cons, List.drop_zero, List.drop_nil])))
      exact VV.ret1 rfl ⟨rfl, C.bad, (Agr.rf).A (by decide)⟩
    · ((repeat refine VV.s rfl rfl ?_); (try (conv => arg 3; simp only [Nat.reduceAdd, sto1, sto2, isL, cond_true, cond_false, List.drop_succ_cons, List.drop_zero, List.drop_nil])))
      refine VV.callE rfl rfl rfl rfl (f_inY c2) rfl ?_
      refine VV.s rfl rfl ?_
      refine VV.itf (by decide) ?_
      ((repeat refine VV.s rfl rfl ?_); (try (conv => arg 3; simp only [Nat.reduceAdd, sto1, sto2, isL, cond_true, cond_false, List.drop_succ_cons, List.drop_zero, List.drop_nil])))
      refine VV.callE rfl rfl rfl rfl (f_inN ((h.resolve_left c1).resolve_left c2)) rfl ?_
      refine VV.s rfl rfl ?_
      refine VV.itf (by decide) ?_
      ((repeat refine VV.s rfl rfl ?_); (try (conv => arg 3; simp only [Nat.reduceAdd, sto1, sto2, isL, cond_true, cond_false, List.drop_succ_cons, List.drop_zero, List.drop_nil])))
      refine VV.callE rfl rfl rfl rfl f_bad rfl ?_
      ((repeat refine VV.s rfl rfl ?_); (try (conv => arg 3; simp only [Nat.reduceAdd, sto1, sto2, isL, cond_true, cond_false, List.drop_succ_cons, List.drop_zero, List.drop_nil])))
      exact VV.ret1 rfl ⟨rfl, C.bad, (Agr.rf).A (by decide)⟩
theorem m_one_full (C : MInv u z) {k s w : Int32} (h : ¬ oneBad k s w) (h6 : hn z.1 = 6) : MC 105 [some (.ref 41), some (.int k), some (.int s), some (.int w)] u (.int (-4)) (zF z) := by
  ((repeat refine VV.s rfl rfl ?_); (try (conv => arg 3; simp only [Nat.reduceAdd, sto1, sto2, isL, cond_true, cond_false, List.drop_succ_cons, List.drop_zero, List.drop_nil])))
  refine VV.callE rfl rfl rfl rfl (f_inY (fun q => h (Or.inl q))) rfl ?_
  refine VV.s rfl rfl ?_
  refine VV.itf (by decide) ?_
  ((repeat refine VV.s rfl rfl ?_); (try (conv => arg 3; simp only [Nat.reduceAdd, sto1, sto2, isL, cond_true, cond_false, List.drop_succ_cons, List.drop_zero, List.drop_nil])))
  refine VV.callE rfl rfl rfl rfl (f_inY (fun q => h (Or.inr (Or.inl q)))) rfl ?_
  refine VV.s rfl rfl ?_
  refine VV.itf (by decide) ?_
  ((repeat refine VV.s rfl rfl ?_); (try (conv => arg 3; simp only [Nat.reduceAdd, sto1, sto2, isL, cond_true, cond_false, List.drop_succ_cons, List.drop_zero, List.drop_nil])))
  refine VV.callE rfl rfl rfl rfl (f_inY (fun q => h (Or.inr (Or.inr q)))) rfl ?_
  refine VV.s rfl rfl ?_
  refine VV.itt (by decide) ?_
  ((repeat refine VV.s rfl rfl ?_); (try (conv => arg 3; simp only [Nat.reduceAdd, sto1, sto2, isL, cond_true, cond_false, List.drop_succ_cons, List.drop_zero, List.drop_nil])))
  refine VV.itf (by rw [C.1.1.1, h6]; exact fun q => q rfl) ?_
  ((repeat refine VV.s rfl rfl ?_); (try (conv => arg 3; simp only [Nat.reduceAdd, sto1, sto2, isL, cond_true, cond_false, List.drop_succ_cons, List.drop_zero, List.drop_nil])))
  refine VV.callE rfl rfl rfl rfl f_full rfl ?_
  ((repeat refine VV.s rfl rfl ?_); (try (conv => arg 3; simp only [Nat.reduceAdd, sto1, sto2, isL, cond_true, cond_false, List.drop_succ_cons, List.drop_zero, List.drop_nil])))
  exact VV.ret1 rfl ⟨rfl, C.full, (Agr.rf).A (by decide)⟩
theorem m_one_ok (C : MInv u z) (h5 : hn z.1 < 6) {k s w : Nat} (h : ¬ oneBad (nI k) (nI s) (nI w)) : MC 105 [some (.ref 41), some (.int (nI k)), some (.int (nI s)), some (.int (nI w))] u (.int (nI (hn z.1))) (zH z (hOne z.1 k s w)) := by
  ((repeat refine VV.s rfl rfl ?_); (try (conv => arg 3; simp only [Nat.reduceAdd, sto1, sto2, isL, cond_true, cond_false, List.drop_succ_cons, List.drop_zero, List.drop_nil])))
  refine VV.callE rfl rfl rfl rfl (f_inY (fun q => h (Or.inl q))) rfl ?_
  refine VV.s rfl rfl ?_
  refine VV.itf (by decide) ?_
  ((repeat refine VV.s rfl rfl ?_); (try (conv => arg 3; simp only [Nat.reduceAdd, sto1, sto2, isL, cond_true, cond_false, List.drop_succ_cons, List.drop_zero, List.drop_nil])))
  refine VV.callE rfl rfl rfl rfl (f_inY (fun q => h (Or.inr (Or.inl q)))) rfl ?_
  refine VV.s rfl rfl ?_
  refine VV.itf (by decide) ?_
  ((repeat refine VV.s rfl rfl ?_); (try (conv => arg 3; simp only [Nat.reduceAdd, sto1, sto2, isL, cond_true, cond_false, List.drop_succ_cons, List.drop_zero, List.drop_nil])))
  refine VV.callE rfl rfl rfl rfl (f_inY (fun q => h (Or.inr (Or.inr q)))) rfl ?_
  refine VV.s rfl rfl ?_
  refine VV.itt (by decide) ?_
  ((repeat refine VV.s rfl rfl ?_); (try (conv => arg 3; simp only [Nat.reduceAdd, sto1, sto2, isL, cond_true, cond_false, List.drop_succ_cons, List.drop_zero, List.drop_nil])))
  refine VV.itt (by rw [C.1.1.1]; exact fun q => by rw [show (6 : Int32) = nI 6 from rfl, eq_nI (by omega) (by omega)] at q; omega) ?_
  ((repeat refine VV.s rfl rfl ?_); (try (conv => arg 3; simp only [Nat.reduceAdd, sto1, sto2, isL, cond_true, cond_false, List.drop_succ_cons, List.drop_zero, List.drop_nil])))
  refine VV.call rfl rfl rfl rfl (f_addOne C.1 h5) (fun r t q => ?_)
  obtain ⟨rfl, R2, A2⟩ := q
  exact VV.ret1 rfl ⟨rfl, C.main R2 A2, A2.onC⟩
theorem m_lend_bad (C : MInv u z) {v p : Int32} (h : ¬ thr (hn z.1) v ∨ ¬ thr (hn z.1) p) : MC 140 [some (.ref 41), some (.int v), some (.int p)] u (.int (-10)) (zB z) := by
  by_cases c1 : thr (hn z.1) v
  · ((repeat refine VV.s rfl rfl ?_); (try (conv => arg 3; simp only [Nat.reduceAdd, sto1, sto2, isL, cond_true, cond_false, List.drop_succ_cons, List.drop_zero, List.drop_nil])))
    refine VV.callE rfl rfl rfl rfl (f_oneY C.1.1.1 c1) rfl ?_
    refine VV.s rfl rfl ?_
    refine VV.itf (by decide) ?_
    ((repeat refine VV.s rfl rfl ?_); (try (conv => arg 3; simp only [Nat.reduceAdd, sto1, sto2, isL, cond_true, cond_false, List.drop_succ_cons, List.drop_zero, List.drop_nil])))
    refine VV.callE rfl rfl rfl rfl (f_oneN C.1.1.1 (h.resolve_left (fun q => q c1))) rfl ?_
    refine VV.s rfl rfl ?_
    refine VV.itf (by decide) ?_
    ((repeat refine VV.s rfl rfl ?_); (try (conv => arg 3; simp only [Nat.reduceAdd, sto1, sto2, isL, cond_true, cond_false, List.drop_succ_cons, List.drop_zero, List.drop_nil])))
    refine VV.callE rfl rfl rfl rfl f_ten rfl ?_
    ((repeat refine VV.s rfl rfl ?_); (try (conv => arg 3; simp only [Nat.reduceAdd, sto1, sto2, isL, cond_true, cond_false, List.drop_succ_cons, List.drop_zero, List.drop_nil])))
    exact VV.ret1 rfl ⟨rfl, C.bad, (Agr.rf).A (by decide)⟩
  · ((repeat refine VV.s rfl rfl ?_); (try (conv => arg 3; simp only [Nat.reduceAdd, sto1, sto2, isL, cond_true, cond_false, List.drop_succ_cons, List.drop_zero, List.drop_nil])))
    refine VV.callE rfl rfl rfl rfl (f_oneN C.1.1.1 c1) rfl ?_
    refine VV.s rfl rfl ?_
    refine VV.itt (by decide) ?_
    ((repeat refine VV.s rfl rfl ?_); (try (conv => arg 3; simp only [Nat.reduceAdd, sto1, sto2, isL, cond_true, cond_false, List.drop_succ_cons, List.drop_zero, List.drop_nil])))
    refine VV.callE rfl rfl rfl rfl f_ten rfl ?_
    ((repeat refine VV.s rfl rfl ?_); (try (conv => arg 3; simp only [Nat.reduceAdd, sto1, sto2, isL, cond_true, cond_false, List.drop_succ_cons, List.drop_zero, List.drop_nil])))
    exact VV.ret1 rfl ⟨rfl, C.bad, (Agr.rf).A (by decide)⟩
theorem m_lend_no (C : MInv u z) (G : GoodH z.1) {v p : Nat} (hv : v < hn z.1) (t1 : thr (hn z.1) (nI v)) (t2 : thr (hn z.1) (nI p)) (h : hho z.1 v ≠ 0) : MC 140 [some (.ref 41), some (.int (nI v)), some (.int (nI p))] u (.int (-3)) (zN z) := by
  have h6 := G.1.1
  have g := (G.2.2.1.1 v hv).1
  ((repeat refine VV.s rfl rfl ?_); (try (conv => arg 3; simp only [Nat.reduceAdd, sto1, sto2, isL, cond_true, cond_false, List.drop_succ_cons, List.drop_zero, List.drop_nil])))
  refine VV.callE rfl rfl rfl rfl (f_oneY C.1.1.1 t1) rfl ?_
  refine VV.s rfl rfl ?_
  refine VV.itf (by decide) ?_
  ((repeat refine VV.s rfl rfl ?_); (try (conv => arg 3; simp only [Nat.reduceAdd, sto1, sto2, isL, cond_true, cond_false, List.drop_succ_cons, List.drop_zero, List.drop_nil])))
  refine VV.callE rfl rfl rfl rfl (f_oneY C.1.1.1 t2) rfl ?_
  refine VV.s rfl rfl ?_
  refine VV.itt (by decide) ?_
  ((repeat refine VV.s rfl rfl ?_); (try (conv => arg 3; simp only [Nat.reduceAdd, sto1, sto2, isL, cond_true, cond_false, List.drop_succ_cons, List.drop_zero, List.drop_nil])))
  refine VV.iald rfl rfl rfl (show v < 6 by omega) (by decide) ?_
  ((repeat refine VV.s rfl rfl ?_); (try (conv => arg 3; simp only [Nat.reduceAdd, sto1, sto2, isL, cond_true, cond_false, List.drop_succ_cons, List.drop_zero, List.drop_nil])))
  refine VV.itf (fun q => h ((cI_none (by omega)).mp ((C.1.2.1 v hv).2.2.2.1.symm.trans q))) ?_
  ((repeat refine VV.s rfl rfl ?_); (try (conv => arg 3; simp only [Nat.reduceAdd, sto1, sto2, isL, cond_true, cond_false, List.drop_succ_cons, List.drop_zero, List.drop_nil])))
  refine VV.callE rfl rfl rfl rfl f_no rfl ?_
  ((repeat refine VV.s rfl rfl ?_); (try (conv => arg 3; simp only [Nat.reduceAdd, sto1, sto2, isL, cond_true, cond_false, List.drop_succ_cons, List.drop_zero, List.drop_nil])))
  exact VV.ret1 rfl ⟨rfl, C.no, (Agr.rf).A (by decide)⟩
theorem m_lend_ok (C : MInv u z) (G : GoodH z.1) {v p : Nat} (hv : v < hn z.1) (hp : p < hn z.1) (t1 : thr (hn z.1) (nI v)) (t2 : thr (hn z.1) (nI p)) (h : hho z.1 v = 0) : MC 140 [some (.ref 41), some (.int (nI v)), some (.int (nI p))] u (.int (cI (voH z.1 p))) (zH z (hGv (hKp z.1) v p)) := by
  have h6 := G.1.1
  ((repeat refine VV.s rfl rfl ?_); (try (conv => arg 3; simp only [Nat.reduceAdd, sto1, sto2, isL, cond_true, cond_false, List.drop_succ_cons, List.drop_zero, List.drop_nil])))
  refine VV.callE rfl rfl rfl rfl (f_oneY C.1.1.1 t1) rfl ?_
  refine VV.s rfl rfl ?_
  refine VV.itf (by decide) ?_
  ((repeat refine VV.s rfl rfl ?_); (try (conv => arg 3; simp only [Nat.reduceAdd, sto1, sto2, isL, cond_true, cond_false, List.drop_succ_cons, List.drop_zero, List.drop_nil])))
  refine VV.callE rfl rfl rfl rfl (f_oneY C.1.1.1 t2) rfl ?_
  refine VV.s rfl rfl ?_
  refine VV.itt (by decide) ?_
  ((repeat refine VV.s rfl rfl ?_); (try (conv => arg 3; simp only [Nat.reduceAdd, sto1, sto2, isL, cond_true, cond_false, List.drop_succ_cons, List.drop_zero, List.drop_nil])))
  refine VV.iald rfl rfl rfl (show v < 6 by omega) (by decide) ?_
  ((repeat refine VV.s rfl rfl ?_); (try (conv => arg 3; simp only [Nat.reduceAdd, sto1, sto2, isL, cond_true, cond_false, List.drop_succ_cons, List.drop_zero, List.drop_nil])))
  refine VV.itt (by rw [(C.1.2.1 v hv).2.2.2.1, h]; rfl) ?_
  ((repeat refine VV.s rfl rfl ?_); (try (conv => arg 3; simp only [Nat.reduceAdd, sto1, sto2, isL, cond_true, cond_false, List.drop_succ_cons, List.drop_zero, List.drop_nil])))
  refine VV.call rfl rfl rfl rfl (f_notes C.1 G) (fun r t q => ?_)
  obtain ⟨rfl, R2, A2⟩ := q
  ((repeat refine VV.s rfl rfl ?_); (try (conv => arg 3; simp only [Nat.reduceAdd, sto1, sto2, isL, cond_true, cond_false, List.drop_succ_cons, List.drop_zero, List.drop_nil])))
  refine VV.call rfl rfl rfl rfl (f_lends R2 (goodKp G) hv hp) (fun r t2 q => ?_)
  obtain ⟨rfl, R3, A3⟩ := q
  exact VV.ret1 rfl ⟨rfl, C.main R3 (A2.tr A3), (A2.tr A3).onC⟩
theorem m_leave_bad (C : MInv u z) {p : Int32} (h : ¬ thr (hn z.1) p) : MC 141 [some (.ref 41), some (.int p), none] u (.int (-2)) (zB z) := by
  ((repeat refine VV.s rfl rfl ?_); (try (conv => arg 3; simp only [Nat.reduceAdd, sto1, sto2, isL, cond_true, cond_false, List.drop_succ_cons, List.drop_zero, List.drop_nil])))
  refine VV.callE rfl rfl rfl rfl (f_oneN C.1.1.1 h) rfl ?_
  refine VV.s rfl rfl ?_
  refine VV.itf (by decide) ?_
  ((repeat refine VV.s rfl rfl ?_); (try (conv => arg 3; simp only [Nat.reduceAdd, sto1, sto2, isL, cond_true, cond_false, List.drop_succ_cons, List.drop_zero, List.drop_nil])))
  refine VV.callE rfl rfl rfl rfl f_bad rfl ?_
  ((repeat refine VV.s rfl rfl ?_); (try (conv => arg 3; simp only [Nat.reduceAdd, sto1, sto2, isL, cond_true, cond_false, List.drop_succ_cons, List.drop_zero, List.drop_nil])))
  exact VV.ret1 rfl ⟨rfl, C.bad, (Agr.rf).A (by decide)⟩
theorem m_leave_no (C : MInv u z) (G : GoodH z.1) {p : Nat} (hp : p < hn z.1) (t1 : thr (hn z.1) (nI p)) (h : voH z.1 p = 0) : MC 141 [some (.ref 41), some (.int (nI p)), none] u (.int (-3)) (zN z) := by
  have h6 := G.1.1
  ((repeat refine VV.s rfl rfl ?_); (try (conv => arg 3; simp only [Nat.reduceAdd, sto1, sto2, isL, cond_true, cond_false, List.drop_succ_cons, List.drop_zero, List.drop_nil])))
  refine VV.callE rfl rfl rfl rfl (f_oneY C.1.1.1 t1) rfl ?_
  refine VV.s rfl rfl ?_
  refine VV.itt (by decide) ?_
  ((repeat refine VV.s rfl rfl ?_); (try (conv => arg 3; simp only [Nat.reduceAdd, sto1, sto2, isL, cond_true, cond_false, List.drop_succ_cons, List.drop_zero, List.drop_nil])))
  refine VV.callE rfl rfl rfl rfl (f_voiceOf C.1 G (p := p) (by omega)) rfl ?_
  ((repeat refine VV.s rfl rfl ?_); (try (conv => arg 3; simp only [Nat.reduceAdd, sto1, sto2, isL, cond_true, cond_false, List.drop_succ_cons, List.drop_zero, List.drop_nil])))
  rw [h]
  refine VV.itf (fun q => q rfl) ?_
  ((repeat refine VV.s rfl rfl ?_); (try (conv => arg 3; simp only [Nat.reduceAdd, sto1, sto2, isL, cond_true, cond_false, List.drop_succ_cons, List.drop_zero, List.drop_nil])))
  refine VV.callE rfl rfl rfl rfl f_no rfl ?_
  ((repeat refine VV.s rfl rfl ?_); (try (conv => arg 3; simp only [Nat.reduceAdd, sto1, sto2, isL, cond_true, cond_false, List.drop_succ_cons, List.drop_zero, List.drop_nil])))
  exact VV.ret1 rfl ⟨rfl, C.no, (Agr.rf).A (by decide)⟩
theorem m_leave_ok (C : MInv u z) (G : GoodH z.1) {p v : Nat} (hp : p < hn z.1) (t1 : thr (hn z.1) (nI p)) (hv : v < hn z.1) (h : voH z.1 p = v + 1) : MC 141 [some (.ref 41), some (.int (nI p)), none] u (.int (nI v)) (zH z (hLv (hKp z.1) v)) := by
  have h6 := G.1.1
  ((repeat refine VV.s rfl rfl ?_); (try (conv => arg 3; simp only [Nat.reduceAdd, sto1, sto2, isL, cond_true, cond_false, List.drop_succ_cons, List.drop_zero, List.drop_nil])))
  refine VV.callE rfl rfl rfl rfl (f_oneY C.1.1.1 t1) rfl ?_
  refine VV.s rfl rfl ?_
  refine VV.itt (by decide) ?_
  ((repeat refine VV.s rfl rfl ?_); (try (conv => arg 3; simp only [Nat.reduceAdd, sto1, sto2, isL, cond_true, cond_false, List.drop_succ_cons, List.drop_zero, List.drop_nil])))
  refine VV.callE rfl rfl rfl rfl (f_voiceOf C.1 G (p := p) (by omega)) rfl ?_
  ((repeat refine VV.s rfl rfl ?_); (try (conv => arg 3; simp only [Nat.reduceAdd, sto1, sto2, isL, cond_true, cond_false, List.drop_succ_cons, List.drop_zero, List.drop_nil])))
  rw [h, cI_s]
  refine VV.itt (nI_ne1 (by omega)) ?_
  ((repeat refine VV.s rfl rfl ?_); (try (conv => arg 3; simp only [Nat.reduceAdd, sto1, sto2, isL, cond_true, cond_false, List.drop_succ_cons, List.drop_zero, List.drop_nil])))
  refine VV.call rfl rfl rfl rfl (f_notes C.1 G) (fun r t q => ?_)
  obtain ⟨rfl, R2, A2⟩ := q
  ((repeat refine VV.s rfl rfl ?_); (try (conv => arg 3; simp only [Nat.reduceAdd, sto1, sto2, isL, cond_true, cond_false, List.drop_succ_cons, List.drop_zero, List.drop_nil])))
  refine VV.call rfl rfl rfl rfl (f_leaves R2 (goodKp G) hv) (fun r t2 q => ?_)
  obtain ⟨rfl, R3, A3⟩ := q
  ((repeat refine VV.s rfl rfl ?_); (try (conv => arg 3; simp only [Nat.reduceAdd, sto1, sto2, isL, cond_true, cond_false, List.drop_succ_cons, List.drop_zero, List.drop_nil])))
  exact VV.ret1 rfl ⟨rfl, C.main R3 (A2.tr A3), (A2.tr A3).onC⟩
theorem m_undo_no (C : MInv u z) (h : hun z.1 = 0) : MC 143 [some (.ref 41)] u (.int (-3)) (zN z) := by
  ((repeat refine VV.s rfl rfl ?_); (try (conv => arg 3; simp only [Nat.reduceAdd, sto1, sto2, isL, cond_true, cond_false, List.drop_succ_cons, List.drop_zero, List.drop_nil])))
  refine VV.itf (by rw [C.1.1.2.2.2, h]; exact fun q => q rfl) ?_
  ((repeat refine VV.s rfl rfl ?_); (try (conv => arg 3; simp only [Nat.reduceAdd, sto1, sto2, isL, cond_true, cond_false, List.drop_succ_cons, List.drop_zero, List.drop_nil])))
  refine VV.callE rfl rfl rfl rfl f_no rfl ?_
  ((repeat refine VV.s rfl rfl ?_); (try (conv => arg 3; simp only [Nat.reduceAdd, sto1, sto2, isL, cond_true, cond_false, List.drop_succ_cons, List.drop_zero, List.drop_nil])))
  exact VV.ret1 rfl ⟨rfl, C.no, (Agr.rf).A (by decide)⟩
set_option maxHeartbeats 4000000 in
theorem m_undo_ok (C : MInv u z) (G : GoodH z.1) (h : 0 < hun z.1) : MC 143 [some (.ref 41)] u (.int (nI (hev (hBk z.1)))) (zH z (hBk z.1)) := by
  have h6 := G.1.1
  have h8 := G.1.2.2.2
  have hU := C.1.1.2.2.2
  obtain ⟨n, hnE⟩ : ∃ n, hun z.1 = n + 1 := ⟨hun z.1 - 1, by omega⟩
  have en : hun z.1 - 1 = n := by omega
  ((repeat refine VV.s rfl rfl ?_); (try (conv => arg 3; simp only [Nat.reduceAdd, sto1, sto2, isL, cond_true, cond_false, List.drop_succ_cons, List.drop_zero, List.drop_nil])))
  refine VV.itt (by rw [hU]; exact nI_ne0 h (by omega)) ?_
  ((repeat refine VV.s rfl rfl ?_); (try (conv => arg 3; simp only [Nat.reduceAdd, sto1, sto2, isL, cond_true, cond_false, List.drop_succ_cons, List.drop_zero, List.drop_nil])))
  rw [hU, hnE, nI_pred]
  rw [show gI (pI u 41 23 (nI n)) 41 23 = nI n from rfl, mul19b]
  refine VV.call rfl rfl rfl rfl (f_takes (u := pI u 41 23 (nI n)) (o := 57) (a := 19 * n) (Or.inl rfl) (show 19 * n + 19 ≤ 152 by omega)) (fun r t q => ?_)
  obtain ⟨rfl, K⟩ := q
  ((repeat refine VV.s rfl rfl ?_); (try (conv => arg 3; simp only [Nat.reduceAdd, sto1, sto2, isL, cond_true, cond_false, List.drop_succ_cons, List.drop_zero, List.drop_nil])))
  have R : MRep t (hBk z.1) := by
    obtain ⟨k1, k2, k3, k4, -⟩ := id K
    obtain ⟨p1, p2⟩ := C.1.2.2.2 n (by omega)
    refine ⟨⟨?_, ?_, ?_, ?_⟩, fun v hv => ?_, fun i c hi hc => ?_, fun k hk => ?_⟩
    · rw [k4 41 1 (by omega)]; exact C.1.1.1
    · show gI t 41 2 = nI (hPe z.1 (hun z.1 - 1))
      rw [k1, en]; exact p1
    · rw [k4 41 3 (by omega)]; exact C.1.1.2.2.1
    · show gI t 41 23 = nI (hun z.1 - 1)
      rw [k4 41 23 (by omega), en]; rfl
    · have hv : v < hn z.1 := hv
      obtain ⟨r1, r2, r3, -⟩ := C.1.2.1 v hv
      obtain ⟨q1, q2, q3⟩ := p2 v hv
      obtain ⟨s1, s2, s3⟩ := k2 v (by omega)
      rw [k3 43 (by omega) (by omega) (by omega), k3 44 (by omega) (by omega) (by omega), k3 45 (by omega) (by omega) (by omega)]
      refine ⟨r1, r2, r3, ?_, ?_, ?_⟩
      · show gA t 46 v = cI (hPh z.1 (hun z.1 - 1) v)
        rw [s1, en]; exact q1
      · show gA t 47 v = nI (hPu z.1 (hun z.1 - 1) v)
        rw [s2, en]; exact q2
      · show gA t 48 v = hPs z.1 (hun z.1 - 1) v
        rw [s3, en]; exact q3
    · rw [k3 (49 + c) (by omega) (by omega) (by omega)]; exact C.1.2.2.1 i c hi hc
    · rw [k3 57 (by omega) (by omega) (by omega)]
      exact C.1.2.2.2 k (by have hk : k < hun z.1 - 1 := hk; omega)
  have A : MF u t := (MF.rf.I (by omega)).tr K.MF
  exact VV.ret1 rfl ⟨by rw [R.1.2.1], C.main R A, A.onC⟩
end M3
