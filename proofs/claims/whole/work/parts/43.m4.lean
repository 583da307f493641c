/-! ===== the reference: evenings, text, what is told, swaps ===== -/
section M4
variable {u : Sg} {z : Zs}
theorem m_evening_loop {n : Nat} (hn30 : n ≤ 30) : ∀ k i a h t d, i + k = n → MRep t h → GoodH h → MF u t → V 142 (23, [some (.ref 41), some (.int (nI n)), some (.int a), some (.int (nI i)), d], [], t) (fun r t => r = some (.int (evnW k h a)) ∧ MRep t (evnH k h) ∧ MF u t) := by
  intro k
  induction k with
  | zero =>
    intro i a h t d hi R G A
    ((repeat refine VV.s rfl rfl ?_); (try (conv => arg 3; simp only [Nat.reduceAdd, sto1, sto2, isL, cond_true, cond_false, List.drop_succ_cons, List.drop_zero, List.drop_nil])))
    refine VV.itt (nI_le (by omega) (by omega)) ?_
    ((repeat refine VV.s rfl rfl ?_); (try (conv => arg 3; simp only [Nat.reduceAdd, sto1, sto2, isL, cond_true, cond_false, List.drop_succ_cons, List.drop_zero, List.drop_nil])))
    exact VV.ret1 rfl ⟨rfl, R, A⟩
  | succ k ih =>
    intro i a h t d hi R G A
    ((repeat refine VV.s rfl rfl ?_); (try (conv => arg 3; simp only [Nat.reduceAdd, sto1, sto2, isL, cond_true, cond_false, List.drop_succ_cons, List.drop_zero, List.drop_nil])))
    refine VV.itf (nI_ge (by omega) (by omega)) ?_
    ((repeat refine VV.s rfl rfl ?_); (try (conv => arg 3; simp only [Nat.reduceAdd, sto1, sto2, isL, cond_true, cond_false, List.drop_succ_cons, List.drop_zero, List.drop_nil])))
    refine VV.call rfl rfl rfl rfl (f_pass R G) (fun r t2 q => ?_)
    obtain ⟨rfl, R2, A2⟩ := q
    ((repeat (fail_if_success show VV _ _ (23, _, _, _) _); refine VV.s rfl rfl ?_); (try (conv => arg 3; simp only [Nat.reduceAdd, sto1, sto2, isL, cond_true, cond_false, List.drop_succ_cons, List.drop_zero, List.drop_nil])))
    rw [nI_1]
    exact ih (i + 1) _ _ _ _ (by omega) R2 (goodEv G) (A.tr A2)
theorem m_evening_bad (C : MInv u z) {x : Int32} (h : x < 1 ∨ 30 < x) : MC 142 [some (.ref 41), some (.int x), none, none, none] u (.int (-2)) (zB z) := by
  ((repeat refine VV.s rfl rfl ?_); (try (conv => arg 3; simp only [Nat.reduceAdd, sto1, sto2, isL, cond_true, cond_false, List.drop_succ_cons, List.drop_zero, List.drop_nil])))
  refine VV.callE rfl rfl rfl rfl (f_inN h) rfl ?_
  refine VV.s rfl rfl ?_
  refine VV.itf (by decide) ?_
  ((repeat refine VV.s rfl rfl ?_); (try (conv => arg 3; simp only [Nat.reduceAdd, sto1, sto2, isL, cond_true, cond_false, List.drop_succ_cons, List.drop_zero, List.drop_nil])))
  refine VV.callE rfl rfl rfl rfl f_bad rfl ?_
  ((repeat refine VV.s rfl rfl ?_); (try (conv => arg 3; simp only [Nat.reduceAdd, sto1, sto2, isL, cond_true, cond_false, List.drop_succ_cons, List.drop_zero, List.drop_nil])))
  exact VV.ret1 rfl ⟨rfl, C.bad, (Agr.rf).A (by decide)⟩
theorem m_evening_ok (C : MInv u z) (G : GoodH z.1) {n : Nat} (hn30 : n ≤ 30) (h : ¬ (nI n < 1 ∨ 30 < nI n)) : MC 142 [some (.ref 41), some (.int (nI n)), none, none, none] u (.int (evnW n (hKp z.1) 0)) (zH z (evnH n (hKp z.1))) := by
  ((repeat refine VV.s rfl rfl ?_); (try (conv => arg 3; simp only [Nat.reduceAdd, sto1, sto2, isL, cond_true, cond_false, List.drop_succ_cons, List.drop_zero, List.drop_nil])))
  refine VV.callE rfl rfl rfl rfl (f_inY h) rfl ?_
  refine VV.s rfl rfl ?_
  refine VV.itt (by decide) ?_
  ((repeat refine VV.s rfl rfl ?_); (try (conv => arg 3; simp only [Nat.reduceAdd, sto1, sto2, isL, cond_true, cond_false, List.drop_succ_cons, List.drop_zero, List.drop_nil])))
  refine VV.call rfl rfl rfl rfl (f_notes C.1 G) (fun r t q => ?_)
  obtain ⟨rfl, R2, A2⟩ := q
  ((repeat (fail_if_success show VV _ _ (23, _, _, _) _); refine VV.s rfl rfl ?_); (try (conv => arg 3; simp only [Nat.reduceAdd, sto1, sto2, isL, cond_true, cond_false, List.drop_succ_cons, List.drop_zero, List.drop_nil])))
  refine VV.mono (m_evening_loop hn30 n 0 0 _ t none (by omega) R2 (goodKp G) A2) (fun r t2 q => ?_)
  obtain ⟨rfl, R3, A3⟩ := q
  exact ⟨rfl, C.main R3 A3, A3.onC⟩
theorem MInv.text {t : Sg} (C : MInv u z) {n : Nat} {f : Nat → Nat} (a : ∀ k, k ≠ 54 → gA t k = gA u k) (b : ∀ j, j ≠ 16 → gI t 41 j = gI u 41 j) (c : ∀ j, gJ t 41 j = gJ u 41 j) (e : gI t 41 16 = nI n) (g : ∀ j, j < n → gA t 54 j = nI (f j)) : MInv t (z.1, z.2.1, (n, f), z.2.2.2) := by
  obtain ⟨h1, h2, h3, -, ⟨h6, h7⟩, h8, h9, h10⟩ := C
  refine ⟨h1.keep2 (fun k hk => a k (by omega)) (fun j hj => b j (by omega)), ?_, ?_, ⟨e, g⟩, ⟨by rw [c]; exact h6, by rw [c]; exact h7⟩, by rw [a 42 (by omega)]; exact h8, by rw [a 42 (by omega)]; exact h9, by rw [a 42 (by omega)]; exact h10⟩
  · show ImM t 0 z.2.1.1
    revert h2
    cases z.2.1.1 with
    | none => intro h2; show gA t 62 0 = 0; rw [a 62 (by omega)]; exact h2
    | some q => intro h2; exact ⟨by rw [a 62 (by omega)]; exact h2.1, by have := h2.2; unfold IRep at this ⊢; rw [a 61 (by omega)]; exact this⟩
  · show ImM t 1 z.2.1.2
    revert h3
    cases z.2.1.2 with
    | none => intro h2; show gA t 62 1 = 0; rw [a 62 (by omega)]; exact h2
    | some q => intro h2; exact ⟨by rw [a 62 (by omega)]; exact h2.1, by have := h2.2; unfold IRep at this ⊢; rw [a 61 (by omega)]; exact this⟩
theorem m_clear (C : MInv u z) : MC 107 [some (.ref 41), none] u (.int (nI z.2.2.1.1)) (z.1, z.2.1, (0, z.2.2.1.2), z.2.2.2) := by
  ((repeat refine VV.s rfl rfl ?_); (try (conv => arg 3; simp only [Nat.reduceAdd, sto1, sto2, isL, cond_true, cond_false, List.drop_succ_cons, List.drop_zero, List.drop_nil])))
  refine VV.ret1 rfl ⟨by rw [C.2.2.2.1.1], C.text (fun k _ => rfl) (fun j hj => ?_) (fun _ => rfl) rfl (fun j hj => absurd hj (Nat.not_lt_zero j)), (Agr.rf).I (by decide)⟩
  rw [gI_pI, if_pos rfl, if_neg hj]
theorem m_type_bad (C : MInv u z) {c : Int32} (h : c < 0 ∨ 127 < c) : MC 106 [some (.ref 41), some (.int c)] u (.int (-2)) (zB z) := by
  ((repeat refine VV.s rfl rfl ?_); (try (conv => arg 3; simp only [Nat.reduceAdd, sto1, sto2, isL, cond_true, cond_false, List.drop_succ_cons, List.drop_zero, List.drop_nil])))
  refine VV.callE rfl rfl rfl rfl (f_inN h) rfl ?_
  refine VV.s rfl rfl ?_
  refine VV.itf (by decide) ?_
  ((repeat refine VV.s rfl rfl ?_); (try (conv => arg 3; simp only [Nat.reduceAdd, sto1, sto2, isL, cond_true, cond_false, List.drop_succ_cons, List.drop_zero, List.drop_nil])))
  refine VV.callE rfl rfl rfl rfl f_bad rfl ?_
  ((repeat refine VV.s rfl rfl ?_); (try (conv => arg 3; simp only [Nat.reduceAdd, sto1, sto2, isL, cond_true, cond_false, List.drop_succ_cons, List.drop_zero, List.drop_nil])))
  exact VV.ret1 rfl ⟨rfl, C.bad, (Agr.rf).A (by decide)⟩
theorem m_type_full (C : MInv u z) {c : Int32} (h : ¬ (c < 0 ∨ 127 < c)) (h5 : z.2.2.1.1 = 150) : MC 106 [some (.ref 41), some (.int c)] u (.int (-4)) (zF z) := by
  ((repeat refine VV.s rfl rfl ?_); (try (conv => arg 3; simp only [Nat.reduceAdd, sto1, sto2, isL, cond_true, cond_false, List.drop_succ_cons, List.drop_zero, List.drop_nil])))
  refine VV.callE rfl rfl rfl rfl (f_inY h) rfl ?_
  refine VV.s rfl rfl ?_
  refine VV.itt (by decide) ?_
  ((repeat refine VV.s rfl rfl ?_); (try (conv => arg 3; simp only [Nat.reduceAdd, sto1, sto2, isL, cond_true, cond_false, List.drop_succ_cons, List.drop_zero, List.drop_nil])))
  refine VV.itf (by rw [C.2.2.2.1.1, h5]; exact fun q => q rfl) ?_
  ((repeat refine VV.s rfl rfl ?_); (try (conv => arg 3; simp only [Nat.reduceAdd, sto1, sto2, isL, cond_true, cond_false, List.drop_succ_cons, List.drop_zero, List.drop_nil])))
  refine VV.callE rfl rfl rfl rfl f_full rfl ?_
  ((repeat refine VV.s rfl rfl ?_); (try (conv => arg 3; simp only [Nat.reduceAdd, sto1, sto2, isL, cond_true, cond_false, List.drop_succ_cons, List.drop_zero, List.drop_nil])))
  exact VV.ret1 rfl ⟨rfl, C.full, (Agr.rf).A (by decide)⟩
theorem m_type_ok (C : MInv u z) {c : Nat} (h : ¬ (nI c < 0 ∨ 127 < nI c)) (h5 : z.2.2.1.1 < 150) : MC 106 [some (.ref 41), some (.int (nI c))] u (.int (nI (z.2.2.1.1 + 1))) (zT z c) := by
  have h4 := C.2.2.2.1.1
  ((repeat refine VV.s rfl rfl ?_); (try (conv => arg 3; simp only [Nat.reduceAdd, sto1, sto2, isL, cond_true, cond_false, List.drop_succ_cons, List.drop_zero, List.drop_nil])))
  refine VV.callE rfl rfl rfl rfl (f_inY h) rfl ?_
  refine VV.s rfl rfl ?_
  refine VV.itt (by decide) ?_
  ((repeat refine VV.s rfl rfl ?_); (try (conv => arg 3; simp only [Nat.reduceAdd, sto1, sto2, isL, cond_true, cond_false, List.drop_succ_cons, List.drop_zero, List.drop_nil])))
  refine VV.itt (by rw [h4]; exact fun q => by rw [show (150 : Int32) = nI 150 from rfl, eq_nI (by omega) (by omega)] at q; omega) ?_
  ((repeat refine VV.s rfl rfl ?_); (try (conv => arg 3; simp only [Nat.reduceAdd, sto1, sto2, isL, cond_true, cond_false, List.drop_succ_cons, List.drop_zero, List.drop_nil])))
  rw [h4]
  refine VV.iast rfl rfl rfl (show z.2.2.1.1 < 150 from h5) (by decide) ?_
  ((repeat refine VV.s rfl rfl ?_); (try (conv => arg 3; simp only [Nat.reduceAdd, sto1, sto2, isL, cond_true, cond_false, List.drop_succ_cons, List.drop_zero, List.drop_nil])))
  have e : gI (pA u 54 (upd (gA u 54) z.2.2.1.1 (nI c))) 41 16 + 1 = nI (z.2.2.1.1 + 1) := by show gI u 41 16 + 1 = _; rw [h4, nI_1]
  refine VV.ret1 rfl ⟨congrArg (fun x => some (Value.int x)) e, C.text (fun k hk => ?_) (fun j hj => ?_) (fun _ => rfl) e (fun j hj => ?_), ((Agr.rf).A (by decide)).I (by decide)⟩
  · rw [gA_pI, gA_pA, if_neg hk]
  · rw [gI_pI, if_pos rfl, if_neg hj]; rfl
  · show upd (gA u 54) z.2.2.1.1 (nI c) j = nI (updN z.2.2.1.2 z.2.2.1.1 c j)
    rw [upd_at, updN_at]
    split
    · rfl
    · exact C.2.2.2.1.2 j (by omega)
theorem m_of_bad (C : MInv u z) {p w : Int32} (h : ¬ thr (hn z.1) p ∨ (w < 0 ∨ 2 < w)) : MC 144 [some (.ref 41), some (.int p), some (.int w)] u (.int (-10)) (zB z) := by
  by_cases c1 : thr (hn z.1) p
  · ((repeat refine VV.s rfl rfl ?_); (try (conv => arg 3; simp only [Nat.reduceAdd, sto1, sto2, isL, cond_true, cond_false, List.drop_succ_cons, List.drop_zero, List.drop_nil])))
    refine VV.callE rfl rfl rfl rfl (f_oneY C.1.1.1 c1) rfl ?_
    refine VV.s rfl rfl ?_
    refine VV.itf (by decide) ?_
    ((repeat refine VV.s rfl rfl ?_); (try (conv => arg 3; simp only [Nat.reduceAdd, sto1, sto2, isL, cond_true, cond_false, List.drop_succ_cons, List.drop_zero, List.drop_nil])))
    refine VV.callE rfl rfl rfl rfl (f_inN (h.resolve_left (fun q => q c1))) rfl ?_
    refine VV.s rfl rfl ?_
    refine VV.itf (by decide) ?_
    ((repeat refine VV.s rfl rfl ?_); (try (conv => arg 3; simp only [Nat.reduceAdd, sto1, sto2, isL, cond_true, cond_false, List.drop_succ_cons, List.drop_zero, List.drop_nil])))
    refine VV.callE rfl rfl rfl rfl f_ten rfl ?_
    ((repeat refine VV.s rfl rfl ?_); (try (conv => arg 3; simp only [Nat.reduceAdd, sto1, sto2, isL, cond_true, cond_false, List.drop_succ_cons, List.drop_zero, List.drop_nil])))
    exact VV.ret1 rfl ⟨rfl, C.bad, (Agr.rf).A (by decide)⟩
  · ((repeat refine VV.s rfl rfl ?_); (try (conv => arg 3; simp only [Nat.reduceAdd, sto1, sto2, isL, cond_true, cond_false, List.drop_succ_cons, List.drop_zero, List.drop_nil])))
    refine VV.callE rfl rfl rfl rfl (f_oneN C.1.1.1 c1) rfl ?_
    refine VV.s rfl rfl ?_
    refine VV.itt (by decide) ?_
    ((repeat refine VV.s rfl rfl ?_); (try (conv => arg 3; simp only [Nat.reduceAdd, sto1, sto2, isL, cond_true, cond_false, List.drop_succ_cons, List.drop_zero, List.drop_nil])))
    refine VV.callE rfl rfl rfl rfl f_ten rfl ?_
    ((repeat refine VV.s rfl rfl ?_); (try (conv => arg 3; simp only [Nat.reduceAdd, sto1, sto2, isL, cond_true, cond_false, List.drop_succ_cons, List.drop_zero, List.drop_nil])))
    exact VV.ret1 rfl ⟨rfl, C.bad, (Agr.rf).A (by decide)⟩
theorem m_of_ok (C : MInv u z) (G : GoodH z.1) {p w : Nat} (hp : p < hn z.1) (t1 : thr (hn z.1) (nI p)) (hw : w ≤ 2) (h : ¬ (nI w < 0 ∨ 2 < nI w)) : MC 144 [some (.ref 41), some (.int (nI p)), some (.int (nI w))] u (.int (ofI z.1 p w)) z := by
  have h6 := G.1.1
  ((repeat refine VV.s rfl rfl ?_); (try (conv => arg 3; simp only [Nat.reduceAdd, sto1, sto2, isL, cond_true, cond_false, List.drop_succ_cons, List.drop_zero, List.drop_nil])))
  refine VV.callE rfl rfl rfl rfl (f_oneY C.1.1.1 t1) rfl ?_
  refine VV.s rfl rfl ?_
  refine VV.itf (by decide) ?_
  ((repeat refine VV.s rfl rfl ?_); (try (conv => arg 3; simp only [Nat.reduceAdd, sto1, sto2, isL, cond_true, cond_false, List.drop_succ_cons, List.drop_zero, List.drop_nil])))
  refine VV.callE rfl rfl rfl rfl (f_inY h) rfl ?_
  refine VV.s rfl rfl ?_
  refine VV.itt (by decide) ?_
  refine VV.s rfl rfl ?_
  refine VV.s rfl rfl ?_
  rcases (show w = 0 ∨ w = 1 ∨ w = 2 by omega) with rfl | rfl | rfl
  · refine VV.itf (fun q => q rfl) ?_
    ((repeat refine VV.s rfl rfl ?_); (try (conv => arg 3; simp only [Nat.reduceAdd, sto1, sto2, isL, cond_true, cond_false, List.drop_succ_cons, List.drop_zero, List.drop_nil])))
    refine VV.iald rfl rfl rfl (show p < 6 by omega) (by decide) ?_
    ((repeat refine VV.s rfl rfl ?_); (try (conv => arg 3; simp only [Nat.reduceAdd, sto1, sto2, isL, cond_true, cond_false, List.drop_succ_cons, List.drop_zero, List.drop_nil])))
    exact VV.ret1 rfl ⟨by rw [(C.1.2.1 p hp).2.2.1]; rfl, C, Agr.rf⟩
  · refine VV.itt (by decide) ?_
    refine VV.s rfl rfl ?_
    refine VV.s rfl rfl ?_
    refine VV.s rfl rfl ?_
    refine VV.itf (fun q => q rfl) ?_
    ((repeat refine VV.s rfl rfl ?_); (try (conv => arg 3; simp only [Nat.reduceAdd, sto1, sto2, isL, cond_true, cond_false, List.drop_succ_cons, List.drop_zero, List.drop_nil])))
    refine VV.callE rfl rfl rfl rfl (f_voiceOf C.1 G (p := p) (by omega)) rfl ?_
    ((repeat refine VV.s rfl rfl ?_); (try (conv => arg 3; simp only [Nat.reduceAdd, sto1, sto2, isL, cond_true, cond_false, List.drop_succ_cons, List.drop_zero, List.drop_nil])))
    exact VV.ret1 rfl ⟨rfl, C, Agr.rf⟩
  · refine VV.itt (by decide) ?_
    refine VV.s rfl rfl ?_
    refine VV.s rfl rfl ?_
    refine VV.s rfl rfl ?_
    refine VV.itt (by decide) ?_
    ((repeat refine VV.s rfl rfl ?_); (try (conv => arg 3; simp only [Nat.reduceAdd, sto1, sto2, isL, cond_true, cond_false, List.drop_succ_cons, List.drop_zero, List.drop_nil])))
    refine VV.callE rfl rfl rfl rfl (f_fitNow C.1 G hp) rfl ?_
    exact VV.ret1 rfl ⟨rfl, C, Agr.rf⟩
theorem m_about_bad (C : MInv u z) {p w : Int32} (h : ¬ thr (hn z.1) p ∨ (w < 0 ∨ 5 < w)) : MC 145 [some (.ref 41), some (.int p), some (.int w)] u (.int (-10)) (zB z) := by
  by_cases c1 : thr (hn z.1) p
  · ((repeat refine VV.s rfl rfl ?_); (try (conv => arg 3; simp only [Nat.reduceAdd, sto1, sto2, isL, cond_true, cond_false, List.drop_succ_cons, List.drop_zero, List.drop_nil])))
    refine VV.callE rfl rfl rfl rfl (f_oneY C.1.1.1 c1) rfl ?_
    refine VV.s rfl rfl ?_
    refine VV.itf (by decide) ?_
    ((repeat refine VV.s rfl rfl ?_); (try (conv => arg 3; simp only [Nat.reduceAdd, sto1, sto2, isL, cond_true, cond_false, List.drop_succ_cons, List.drop_zero, List.drop_nil])))
    refine VV.callE rfl rfl rfl rfl (f_inN (h.resolve_left (fun q => q c1))) rfl ?_
    refine VV.s rfl rfl ?_
    refine VV.itf (by decide) ?_
    ((repeat refine VV.s rfl rfl ?_); (try (conv => arg 3; simp only [Nat.reduceAdd, sto1, sto2, isL, cond_true, cond_false, List.drop_succ_cons, List.drop_zero, List.drop_nil])))
    refine VV.callE rfl rfl rfl rfl f_ten rfl ?_
    ((repeat refine VV.s rfl rfl ?_); (try (conv => arg 3; simp only [Nat.reduceAdd, sto1, sto2, isL, cond_true, cond_false, List.drop_succ_cons, List.drop_zero, List.drop_nil])))
    exact VV.ret1 rfl ⟨rfl, C.bad, (Agr.rf).A (by decide)⟩
  · ((repeat refine VV.s rfl rfl ?_); (try (conv => arg 3; simp only [Nat.reduceAdd, sto1, sto2, isL, cond_true, cond_false, List.drop_succ_cons, List.drop_zero, List.drop_nil])))
    refine VV.callE rfl rfl rfl rfl (f_oneN C.1.1.1 c1) rfl ?_
    refine VV.s rfl rfl ?_
    refine VV.itt (by decide) ?_
    ((repeat refine VV.s rfl rfl ?_); (try (conv => arg 3; simp only [Nat.reduceAdd, sto1, sto2, isL, cond_true, cond_false, List.drop_succ_cons, List.drop_zero, List.drop_nil])))
    refine VV.callE rfl rfl rfl rfl f_ten rfl ?_
    ((repeat refine VV.s rfl rfl ?_); (try (conv => arg 3; simp only [Nat.reduceAdd, sto1, sto2, isL, cond_true, cond_false, List.drop_succ_cons, List.drop_zero, List.drop_nil])))
    exact VV.ret1 rfl ⟨rfl, C.bad, (Agr.rf).A (by decide)⟩
theorem m_about_ok (C : MInv u z) (G : GoodH z.1) {v w : Nat} (hv : v < hn z.1) (t1 : thr (hn z.1) (nI v)) (hw : w ≤ 5) (h : ¬ (nI w < 0 ∨ 5 < nI w)) : MC 145 [some (.ref 41), some (.int (nI v)), some (.int (nI w))] u (.int (abI z.1 v w)) z := by
  have h6 := G.1.1
  obtain ⟨r1, r2, r3, r4, r5, r6⟩ := C.1.2.1 v hv
  ((repeat refine VV.s rfl rfl ?_); (try (conv => arg 3; simp only [Nat.reduceAdd, sto1, sto2, isL, cond_true, cond_false, List.drop_succ_cons, List.drop_zero, List.drop_nil])))
  refine VV.callE rfl rfl rfl rfl (f_oneY C.1.1.1 t1) rfl ?_
  refine VV.s rfl rfl ?_
  refine VV.itf (by decide) ?_
  ((repeat refine VV.s rfl rfl ?_); (try (conv => arg 3; simp only [Nat.reduceAdd, sto1, sto2, isL, cond_true, cond_false, List.drop_succ_cons, List.drop_zero, List.drop_nil])))
  refine VV.callE rfl rfl rfl rfl (f_inY h) rfl ?_
  refine VV.s rfl rfl ?_
  refine VV.itt (by decide) ?_
  refine VV.s rfl rfl ?_
  refine VV.s rfl rfl ?_
  rcases le6 hw with rfl | rfl | rfl | rfl | rfl | rfl
  · refine V.pc (swT_in (by omega) (by decide) (by decide) rfl) ?_
    ((repeat refine VV.s rfl rfl ?_); (try (conv => arg 3; simp only [Nat.reduceAdd, sto1, sto2, isL, cond_true, cond_false, List.drop_succ_cons, List.drop_zero, List.drop_nil])))
    refine VV.iald rfl rfl rfl (show v < 6 by omega) (by decide) ?_
    exact VV.ret1 rfl ⟨by rw [r1]; rfl, C, Agr.rf⟩
  · refine V.pc (swT_in (by omega) (by decide) (by decide) rfl) ?_
    ((repeat refine VV.s rfl rfl ?_); (try (conv => arg 3; simp only [Nat.reduceAdd, sto1, sto2, isL, cond_true, cond_false, List.drop_succ_cons, List.drop_zero, List.drop_nil])))
    refine VV.iald rfl rfl rfl (show v < 6 by omega) (by decide) ?_
    exact VV.ret1 rfl ⟨by rw [r2]; rfl, C, Agr.rf⟩
  · refine V.pc (swT_in (by omega) (by decide) (by decide) rfl) ?_
    ((repeat refine VV.s rfl rfl ?_); (try (conv => arg 3; simp only [Nat.reduceAdd, sto1, sto2, isL, cond_true, cond_false, List.drop_succ_cons, List.drop_zero, List.drop_nil])))
    refine VV.iald rfl rfl rfl (show v < 6 by omega) (by decide) ?_
    exact VV.ret1 rfl ⟨by rw [r4]; rfl, C, Agr.rf⟩
  · refine V.pc (swT_in (by omega) (by decide) (by decide) rfl) ?_
    ((repeat refine VV.s rfl rfl ?_); (try (conv => arg 3; simp only [Nat.reduceAdd, sto1, sto2, isL, cond_true, cond_false, List.drop_succ_cons, List.drop_zero, List.drop_nil])))
    refine VV.iald rfl rfl rfl (show v < 6 by omega) (by decide) ?_
    exact VV.ret1 rfl ⟨by rw [r5]; rfl, C, Agr.rf⟩
  · refine V.pc (swT_in (by omega) (by decide) (by decide) rfl) ?_
    ((repeat refine VV.s rfl rfl ?_); (try (conv => arg 3; simp only [Nat.reduceAdd, sto1, sto2, isL, cond_true, cond_false, List.drop_succ_cons, List.drop_zero, List.drop_nil])))
    refine VV.iald rfl rfl rfl (show v < 6 by omega) (by decide) ?_
    exact VV.ret1 rfl ⟨by rw [r6]; rfl, C, Agr.rf⟩
  · refine V.pc (swT_out (by omega) (by decide)) ?_
    ((repeat refine VV.s rfl rfl ?_); (try (conv => arg 3; simp only [Nat.reduceAdd, sto1, sto2, isL, cond_true, cond_false, List.drop_succ_cons, List.drop_zero, List.drop_nil])))
    refine VV.callE rfl rfl rfl rfl (f_sound C.1 G hv) rfl ?_
    exact VV.ret1 rfl ⟨rfl, C, Agr.rf⟩
theorem m_fit_bad (C : MInv u z) {v p : Int32} (h : ¬ thr (hn z.1) v ∨ ¬ thr (hn z.1) p) : MC 146 [some (.ref 41), some (.int v), some (.int p)] u (.int (-2)) (zB z) := by
  by_cases c1 : thr (hn z.1) v
  · ((repeat refine VV.s rfl rfl ?_); (try (conv => arg 3; simp only [Nat.reduceAdd, sto1, sto2, isL, cond_true, cond_false, List.drop_succ_cons, List.drop_zero, List.drop_nil])))
    refine VV.callE rfl rfl rfl rfl (f_oneY C.1.1.1 c1) rfl ?_
    refine VV.s rfl rfl ?_
    refine VV.itf (by decide) ?_
    ((repeat refine VV.s rfl rfl ?_); (try (conv => arg 3; simp only [Nat.reduceAdd, sto1, sto2, isL, cond_true, cond_false, List.drop_succ_cons, List.drop_zero, List.drop_nil])))
    refine VV.callE rfl rfl rfl rfl (f_oneN C.1.1.1 (h.resolve_left (fun q => q c1))) rfl ?_
    refine VV.s rfl rfl ?_
    refine VV.itt (by decide) ?_
    ((repeat refine VV.s rfl rfl ?_); (try (conv => arg 3; simp only [Nat.reduceAdd, sto1, sto2, isL, cond_true, cond_false, List.drop_succ_cons, List.drop_zero, List.drop_nil])))
    refine VV.callE rfl rfl rfl rfl f_bad rfl ?_
    ((repeat refine VV.s rfl rfl ?_); (try (conv => arg 3; simp only [Nat.reduceAdd, sto1, sto2, isL, cond_true, cond_false, List.drop_succ_cons, List.drop_zero, List.drop_nil])))
    exact VV.ret1 rfl ⟨rfl, C.bad, (Agr.rf).A (by decide)⟩
  · ((repeat refine VV.s rfl rfl ?_); (try (conv => arg 3; simp only [Nat.reduceAdd, sto1, sto2, isL, cond_true, cond_false, List.drop_succ_cons, List.drop_zero, List.drop_nil])))
    refine VV.callE rfl rfl rfl rfl (f_oneN C.1.1.1 c1) rfl ?_
    refine VV.s rfl rfl ?_
    refine VV.itt (by decide) ?_
    ((repeat refine VV.s rfl rfl ?_); (try (conv => arg 3; simp only [Nat.reduceAdd, sto1, sto2, isL, cond_true, cond_false, List.drop_succ_cons, List.drop_zero, List.drop_nil])))
    refine VV.callE rfl rfl rfl rfl f_bad rfl ?_
    ((repeat refine VV.s rfl rfl ?_); (try (conv => arg 3; simp only [Nat.reduceAdd, sto1, sto2, isL, cond_true, cond_false, List.drop_succ_cons, List.drop_zero, List.drop_nil])))
    exact VV.ret1 rfl ⟨rfl, C.bad, (Agr.rf).A (by decide)⟩
theorem m_fit_ok (C : MInv u z) (G : GoodH z.1) {p v : Nat} (hp : p < hn z.1) (hv : v < hn z.1) (t1 : thr (hn z.1) (nI p)) (t2 : thr (hn z.1) (nI v)) : MC 146 [some (.ref 41), some (.int (nI p)), some (.int (nI v))] u (.int (nI (ftH z.1 p v))) z := by
  ((repeat refine VV.s rfl rfl ?_); (try (conv => arg 3; simp only [Nat.reduceAdd, sto1, sto2, isL, cond_true, cond_false, List.drop_succ_cons, List.drop_zero, List.drop_nil])))
  refine VV.callE rfl rfl rfl rfl (f_oneY C.1.1.1 t1) rfl ?_
  refine VV.s rfl rfl ?_
  refine VV.itf (by decide) ?_
  ((repeat refine VV.s rfl rfl ?_); (try (conv => arg 3; simp only [Nat.reduceAdd, sto1, sto2, isL, cond_true, cond_false, List.drop_succ_cons, List.drop_zero, List.drop_nil])))
  refine VV.callE rfl rfl rfl rfl (f_oneY C.1.1.1 t2) rfl ?_
  refine VV.s rfl rfl ?_
  refine VV.itf (by decide) ?_
  ((repeat refine VV.s rfl rfl ?_); (try (conv => arg 3; simp only [Nat.reduceAdd, sto1, sto2, isL, cond_true, cond_false, List.drop_succ_cons, List.drop_zero, List.drop_nil])))
  refine VV.callE rfl rfl rfl rfl (f_fitWith C.1 G hp hv) rfl ?_
  ((repeat refine VV.s rfl rfl ?_); (try (conv => arg 3; simp only [Nat.reduceAdd, sto1, sto2, isL, cond_true, cond_false, List.drop_succ_cons, List.drop_zero, List.drop_nil])))
  exact VV.ret1 rfl ⟨rfl, C, Agr.rf⟩
theorem or0 (x : Int32) : x ||| 0 = x := by simp
theorem m_dumb_loop (C : MInv u z) (G : GoodH z.1) : ∀ k i a, i + k = hn z.1 → V 149 (4, [some (.ref 41), some (.int a), some (.int (nI i))], [], u) (is (.int (bts (fun p => decide (voH z.1 p = 0)) k i a)) u) := by
  have hN := C.1.1.1
  have h6 := G.1.1
  intro k
  induction k with
  | zero =>
    intro i a hi
    ((repeat refine VV.s rfl rfl ?_); (try (conv => arg 3; simp only [Nat.reduceAdd, sto1, sto2, isL, cond_true, cond_false, List.drop_succ_cons, List.drop_zero, List.drop_nil])))
    refine VV.itt (by rw [hN]; exact nI_le (by omega) (by omega)) ?_
    ((repeat refine VV.s rfl rfl ?_); (try (conv => arg 3; simp only [Nat.reduceAdd, sto1, sto2, isL, cond_true, cond_false, List.drop_succ_cons, List.drop_zero, List.drop_nil])))
    exact VV.ret1 rfl ⟨rfl, rfl⟩
  | succ k ih =>
    intro i a hi
    ((repeat refine VV.s rfl rfl ?_); (try (conv => arg 3; simp only [Nat.reduceAdd, sto1, sto2, isL, cond_true, cond_false, List.drop_succ_cons, List.drop_zero, List.drop_nil])))
    refine VV.itf (by rw [hN]; exact nI_ge (by omega) (by omega)) ?_
    ((repeat refine VV.s rfl rfl ?_); (try (conv => arg 3; simp only [Nat.reduceAdd, sto1, sto2, isL, cond_true, cond_false, List.drop_succ_cons, List.drop_zero, List.drop_nil])))
    refine VV.callE rfl rfl rfl rfl (f_voiceOf C.1 G (p := i) (by omega)) rfl ?_
    ((repeat refine VV.s rfl rfl ?_); (try (conv => arg 3; simp only [Nat.reduceAdd, sto1, sto2, isL, cond_true, cond_false, List.drop_succ_cons, List.drop_zero, List.drop_nil])))
    rw [bts]
    have hl := voH_le z.1 i
    refine VV.ite (fun q => ?_) (fun q => ?_)
    · rw [cI_none (by omega)] at q
      ((repeat (fail_if_success show VV _ _ (4, _, _, _) _); refine VV.s rfl rfl ?_); (try (conv => arg 3; simp only [Nat.reduceAdd, sto1, sto2, isL, cond_true, cond_false, List.drop_succ_cons, List.drop_zero, List.drop_nil])))
      rw [if_neg (by simp [q]), nI_1, or0]
      exact ih (i + 1) a (by omega)
    · rw [cI_none (by omega)] at q
      ((repeat (fail_if_success show VV _ _ (4, _, _, _) _); refine VV.s rfl rfl ?_); (try (conv => arg 3; simp only [Nat.reduceAdd, sto1, sto2, isL, cond_true, cond_false, List.drop_succ_cons, List.drop_zero, List.drop_nil])))
      rw [if_pos (by simp [Classical.not_not.mp q]), nI_1]
      exact ih (i + 1) _ (by omega)
theorem m_dumb (C : MInv u z) (G : GoodH z.1) : MC 149 [some (.ref 41), none, none] u (.int (bts (fun p => decide (voH z.1 p = 0)) (hn z.1) 0 0)) z := by
  ((repeat (fail_if_success show VV _ _ (4, _, _, _) _); refine VV.s rfl rfl ?_); (try (conv => arg 3; simp only [Nat.reduceAdd, sto1, sto2, isL, cond_true, cond_false, List.drop_succ_cons, List.drop_zero, List.drop_nil])))
  refine VV.mono (m_dumb_loop C G (hn z.1) 0 0 (by omega)) (fun r t q => ?_)
  obtain ⟨rfl, rfl⟩ := q
  exact ⟨rfl, C, Agr.rf⟩
set_option maxHeartbeats 4000000 in
theorem f_isSwap {h : Hs} (R : MRep u h) (G : GoodH h) {i j : Nat} (hi : i < hn h) (hj : j < hn h) : V 153 (0, [some (.ref 41), some (.int (nI i)), some (.int (nI j)), none, none], [], u) (is (.int (if swP h i j then 1 else 0)) u) := by
  have h6 := G.1.1
  have hf := fun p v hp hv => f_fitWith R G (p := p) (v := v) hp hv
  ((repeat refine VV.s rfl rfl ?_); (try (conv => arg 3; simp only [Nat.reduceAdd, sto1, sto2, isL, cond_true, cond_false, List.drop_succ_cons, List.drop_zero, List.drop_nil])))
  refine VV.callE rfl rfl rfl rfl (f_voiceOf R G (p := i) (by omega)) rfl ?_
  ((repeat refine VV.s rfl rfl ?_); (try (conv => arg 3; simp only [Nat.reduceAdd, sto1, sto2, isL, cond_true, cond_false, List.drop_succ_cons, List.drop_zero, List.drop_nil])))
  refine VV.callE rfl rfl rfl rfl (f_voiceOf R G (p := j) (by omega)) rfl ?_
  ((repeat refine VV.s rfl rfl ?_); (try (conv => arg 3; simp only [Nat.reduceAdd, sto1, sto2, isL, cond_true, cond_false, List.drop_succ_cons, List.drop_zero, List.drop_nil])))
  unfold swP
  rcases voH_spec h i with ⟨a1, -⟩ | ⟨a, ha, a1, -⟩
  · rw [a1]
    refine VV.itt cI_0 ?_
    ((repeat refine VV.s rfl rfl ?_); (try (conv => arg 3; simp only [Nat.reduceAdd, sto1, sto2, isL, cond_true, cond_false, List.drop_succ_cons, List.drop_zero, List.drop_nil])))
    exact VV.ret3 rfl (Or.inl rfl) ⟨rfl, rfl⟩
  · rw [a1, cI_s]
    refine VV.itf (nI_ne1 (by omega)) ?_
    ((repeat refine VV.s rfl rfl ?_); (try (conv => arg 3; simp only [Nat.reduceAdd, sto1, sto2, isL, cond_true, cond_false, List.drop_succ_cons, List.drop_zero, List.drop_nil])))
    rcases voH_spec h j with ⟨b1, -⟩ | ⟨c, hc, b1, -⟩
    · rw [b1]
      refine VV.itt cI_0 ?_
      ((repeat refine VV.s rfl rfl ?_); (try (conv => arg 3; simp only [Nat.reduceAdd, sto1, sto2, isL, cond_true, cond_false, List.drop_succ_cons, List.drop_zero, List.drop_nil])))
      exact VV.ret3 rfl (Or.inl rfl) ⟨rfl, rfl⟩
    · rw [b1, cI_s]
      refine VV.itf (nI_ne1 (by omega)) ?_
      ((repeat refine VV.s rfl rfl ?_); (try (conv => arg 3; simp only [Nat.reduceAdd, sto1, sto2, isL, cond_true, cond_false, List.drop_succ_cons, List.drop_zero, List.drop_nil])))
      refine VV.callE rfl rfl rfl rfl (hf i c hi hc) rfl ?_
      ((repeat refine VV.s rfl rfl ?_); (try (conv => arg 3; simp only [Nat.reduceAdd, sto1, sto2, isL, cond_true, cond_false, List.drop_succ_cons, List.drop_zero, List.drop_nil])))
      refine VV.callE rfl rfl rfl rfl (hf i a hi ha) rfl ?_
      ((repeat refine VV.s rfl rfl ?_); (try (conv => arg 3; simp only [Nat.reduceAdd, sto1, sto2, isL, cond_true, cond_false, List.drop_succ_cons, List.drop_zero, List.drop_nil])))
      have l1 := ftH_le h i c
      have l2 := ftH_le h i a
      have l3 := ftH_le h j a
      have l4 := ftH_le h j c
      refine VV.ite (fun q => ?_) (fun q => ?_)
      · rw [le_nI (by omega) (by omega)] at q
        ((repeat refine VV.s rfl rfl ?_); (try (conv => arg 3; simp only [Nat.reduceAdd, sto1, sto2, isL, cond_true, cond_false, List.drop_succ_cons, List.drop_zero, List.drop_nil])))
        refine VV.ret3 rfl (Or.inl rfl) ⟨?_, rfl⟩
        rw [if_neg (by simp; omega)]
      · rw [le_nI (by omega) (by omega)] at q
        ((repeat refine VV.s rfl rfl ?_); (try (conv => arg 3; simp only [Nat.reduceAdd, sto1, sto2, isL, cond_true, cond_false, List.drop_succ_cons, List.drop_zero, List.drop_nil])))
        refine VV.callE rfl rfl rfl rfl (hf j a hj ha) rfl ?_
        ((repeat refine VV.s rfl rfl ?_); (try (conv => arg 3; simp only [Nat.reduceAdd, sto1, sto2, isL, cond_true, cond_false, List.drop_succ_cons, List.drop_zero, List.drop_nil])))
        refine VV.callE rfl rfl rfl rfl (hf j c hj hc) rfl ?_
        ((repeat refine VV.s rfl rfl ?_); (try (conv => arg 3; simp only [Nat.reduceAdd, sto1, sto2, isL, cond_true, cond_false, List.drop_succ_cons, List.drop_zero, List.drop_nil])))
        refine VV.ite (fun q2 => ?_) (fun q2 => ?_)
        · rw [le_nI (by omega) (by omega)] at q2
          ((repeat refine VV.s rfl rfl ?_); (try (conv => arg 3; simp only [Nat.reduceAdd, sto1, sto2, isL, cond_true, cond_false, List.drop_succ_cons, List.drop_zero, List.drop_nil])))
          refine VV.ret3 rfl (Or.inl rfl) ⟨?_, rfl⟩
          rw [if_neg (by simp; omega)]
        · rw [le_nI (by omega) (by omega)] at q2
          ((repeat refine VV.s rfl rfl ?_); (try (conv => arg 3; simp only [Nat.reduceAdd, sto1, sto2, isL, cond_true, cond_false, List.drop_succ_cons, List.drop_zero, List.drop_nil])))
          refine VV.ret3 rfl (Or.inr rfl) ⟨?_, rfl⟩
          rw [if_pos (by simp; omega)]
/-- as the reference tells them: how many so far, the one told -/
def tol (x : Int32) : List Nat → Nat → Int32 → Nat × Int32
  | [], n, t => (n, t)
  | c :: l, n, t => tol x l (n + 1) (if nI n = x then nI c else t)
theorem tol_app (x : Int32) : ∀ (l l2 : List Nat) (n : Nat) (t : Int32), tol x (l ++ l2) n t = tol x l2 (tol x l n t).1 (tol x l n t).2
  | [], _, _, _ => rfl
  | c :: l, l2, n, t => tol_app x l l2 (n + 1) _
theorem tol_n (x : Int32) : ∀ (l : List Nat) (n : Nat) (t : Int32), (tol x l n t).1 = n + l.length
  | [], n, t => rfl
  | c :: l, n, t => by rw [tol, tol_n x l]; simp; omega
theorem swJ_len (h : Hs) (i : Nat) : ∀ k j, (swJ h i k j).length ≤ k
  | 0, _ => Nat.le_refl _
  | k + 1, j => by
    have := swJ_len h i k (j + 1)
    rw [swJ]
    split
    · simp; omega
    · omega
set_option maxHeartbeats 4000000 in
theorem m_swaps_in (C : MInv u z) (G : GoodH z.1) {x : Int32} {i : Nat} (hi : i < hn z.1) {q0 : Nat × Int32} {Q : Option Value → Sg → Prop} (K : ∀ d, V 154 (80, [some (.ref 41), some (.int x), some (.int (nI q0.1)), some (.int q0.2), some (.int (nI i)), d], [], u) Q) : ∀ k j n t, j + k = hn z.1 → n + k < 1000 → tol x (swJ z.1 i k j) n t = q0 → V 154 (33, [some (.ref 41), some (.int x), some (.int (nI n)), some (.int t), some (.int (nI i)), some (.int (nI j))], [], u) Q := by
  have hN := C.1.1.1
  have h6 := G.1.1
  intro k
  induction k with
  | zero =>
    intro j n t hj hn0 hc
    ((repeat refine VV.s rfl rfl ?_); (try (conv => arg 3; simp only [Nat.reduceAdd, sto1, sto2, isL, cond_true, cond_false, List.drop_succ_cons, List.drop_zero, List.drop_nil])))
    refine VV.itt (by rw [hN]; exact nI_le (by omega) (by omega)) ?_
    have hc : (n, t) = q0 := hc
    subst hc
    exact K _
  | succ k ih =>
    intro j n t hj hn0 hc
    ((repeat refine VV.s rfl rfl ?_); (try (conv => arg 3; simp only [Nat.reduceAdd, sto1, sto2, isL, cond_true, cond_false, List.drop_succ_cons, List.drop_zero, List.drop_nil])))
    refine VV.itf (by rw [hN]; exact nI_ge (by omega) (by omega)) ?_
    ((repeat refine VV.s rfl rfl ?_); (try (conv => arg 3; simp only [Nat.reduceAdd, sto1, sto2, isL, cond_true, cond_false, List.drop_succ_cons, List.drop_zero, List.drop_nil])))
    refine VV.callE rfl rfl rfl rfl (f_isSwap C.1 G hi (show j < hn z.1 by omega)) rfl ?_
    ((repeat refine VV.s rfl rfl ?_); (try (conv => arg 3; simp only [Nat.reduceAdd, sto1, sto2, isL, cond_true, cond_false, List.drop_succ_cons, List.drop_zero, List.drop_nil])))
    rw [swJ] at hc
    cases hs : swP z.1 i j with
    | true =>
      rw [hs, if_pos rfl, tol] at hc
      refine VV.itf (by decide) ?_
      ((repeat refine VV.s rfl rfl ?_); (try (conv => arg 3; simp only [Nat.reduceAdd, sto1, sto2, isL, cond_true, cond_false, List.drop_succ_cons, List.drop_zero, List.drop_nil])))
      refine VV.ite (fun q => ?_) (fun q => ?_)
      · ((repeat (fail_if_success show VV _ _ (33, _, _, _) _); refine VV.s rfl rfl ?_); (try (conv => arg 3; simp only [Nat.reduceAdd, sto1, sto2, isL, cond_true, cond_false, List.drop_succ_cons, List.drop_zero, List.drop_nil])))
        rw [nI_1, nI_1]
        rw [if_neg q] at hc
        exact ih (j + 1) (n + 1) _ (by omega) (by omega) hc
      · ((repeat (fail_if_success show VV _ _ (33, _, _, _) _); refine VV.s rfl rfl ?_); (try (conv => arg 3; simp only [Nat.reduceAdd, sto1, sto2, isL, cond_true, cond_false, List.drop_succ_cons, List.drop_zero, List.drop_nil])))
        rw [nI_1, nI_1, ten_nI]
        rw [if_pos (Classical.not_not.mp q)] at hc
        exact ih (j + 1) (n + 1) _ (by omega) (by omega) hc
    | false =>
      rw [hs] at hc
      refine VV.itt (by decide) ?_
      ((repeat (fail_if_success show VV _ _ (33, _, _, _) _); refine VV.s rfl rfl ?_); (try (conv => arg 3; simp only [Nat.reduceAdd, sto1, sto2, isL, cond_true, cond_false, List.drop_succ_cons, List.drop_zero, List.drop_nil])))
      rw [nI_1]
      exact ih (j + 1) n t (by omega) (by omega) hc
set_option maxHeartbeats 4000000 in
theorem m_swaps_out (C : MInv u z) (G : GoodH z.1) {x : Int32} {q0 : Nat × Int32} {Q : Option Value → Sg → Prop} (K : ∀ d4 d5, V 154 (86, [some (.ref 41), some (.int x), some (.int (nI q0.1)), some (.int q0.2), d4, d5], [], u) Q) : ∀ k i n t d, i + k = hn z.1 → n + 10 * k < 900 → tol x (swI z.1 k i) n t = q0 → V 154 (18, [some (.ref 41), some (.int x), some (.int (nI n)), some (.int t), some (.int (nI i)), d], [], u) Q := by
  have hN := C.1.1.1
  have h6 := G.1.1
  intro k
  induction k with
  | zero =>
    intro i n t d hi hn0 hc
    ((repeat refine VV.s rfl rfl ?_); (try (conv => arg 3; simp only [Nat.reduceAdd, sto1, sto2, isL, cond_true, cond_false, List.drop_succ_cons, List.drop_zero, List.drop_nil])))
    refine VV.itt (by rw [hN]; exact nI_le (by omega) (by omega)) ?_
    have hc : (n, t) = q0 := hc
    subst hc
    exact K _ _
  | succ k ih =>
    intro i n t d hi hn0 hc
    ((repeat refine VV.s rfl rfl ?_); (try (conv => arg 3; simp only [Nat.reduceAdd, sto1, sto2, isL, cond_true, cond_false, List.drop_succ_cons, List.drop_zero, List.drop_nil])))
    refine VV.itf (by rw [hN]; exact nI_ge (by omega) (by omega)) ?_
    ((repeat (fail_if_success show VV _ _ (33, _, _, _) _); refine VV.s rfl rfl ?_); (try (conv => arg 3; simp only [Nat.reduceAdd, sto1, sto2, isL, cond_true, cond_false, List.drop_succ_cons, List.drop_zero, List.drop_nil])))
    rw [nI_1]
    rw [swI, tol_app] at hc
    have hl := swJ_len z.1 i (hn z.1 - (i + 1)) (i + 1)
    have hm := tol_n x (swJ z.1 i (hn z.1 - (i + 1)) (i + 1)) n t
    refine m_swaps_in C G (show i < hn z.1 by omega) (fun d2 => ?_) (hn z.1 - (i + 1)) (i + 1) n t (by omega) (by omega) rfl
    ((repeat (fail_if_success show VV _ _ (18, _, _, _) _); refine VV.s rfl rfl ?_); (try (conv => arg 3; simp only [Nat.reduceAdd, sto1, sto2, isL, cond_true, cond_false, List.drop_succ_cons, List.drop_zero, List.drop_nil])))
    rw [nI_1]
    exact ih (i + 1) _ _ _ (by omega) (by omega) hc
theorem m_swaps_bad (C : MInv u z) {k : Int32} (h : k < -1) : MC 154 [some (.ref 41), some (.int k), none, none, none, none] u (.int (-10)) (zB z) := by
  ((repeat refine VV.s rfl rfl ?_); (try (conv => arg 3; simp only [Nat.reduceAdd, sto1, sto2, isL, cond_true, cond_false, List.drop_succ_cons, List.drop_zero, List.drop_nil])))
  refine VV.itf (fun q => absurd h (Int32.not_lt.mpr q)) ?_
  ((repeat refine VV.s rfl rfl ?_); (try (conv => arg 3; simp only [Nat.reduceAdd, sto1, sto2, isL, cond_true, cond_false, List.drop_succ_cons, List.drop_zero, List.drop_nil])))
  refine VV.callE rfl rfl rfl rfl f_ten rfl ?_
  ((repeat refine VV.s rfl rfl ?_); (try (conv => arg 3; simp only [Nat.reduceAdd, sto1, sto2, isL, cond_true, cond_false, List.drop_succ_cons, List.drop_zero, List.drop_nil])))
  exact VV.ret1 rfl ⟨rfl, C.bad, (Agr.rf).A (by decide)⟩
theorem m_swaps_all (C : MInv u z) (G : GoodH z.1) : MC 154 [some (.ref 41), some (.int (-1)), none, none, none, none] u (.int (nI (swapL z.1).length)) z := by
  have h6 := G.1.1
  refine VV.s rfl rfl ?_
  refine VV.s rfl rfl ?_
  refine VV.s rfl rfl ?_
  refine VV.itt (by decide) ?_
  ((repeat (fail_if_success show VV _ _ (18, _, _, _) _); refine VV.s rfl rfl ?_); (try (conv => arg 3; simp only [Nat.reduceAdd, sto1, sto2, isL, cond_true, cond_false, List.drop_succ_cons, List.drop_zero, List.drop_nil])))
  refine m_swaps_out C G (q0 := tol (-1) (swapL z.1) 0 (-5)) (fun d4 d5 => ?_) (hn z.1) 0 0 (-5) none (by omega) (by omega) rfl
  refine VV.s rfl rfl ?_
  refine VV.s rfl rfl ?_
  refine VV.s rfl rfl ?_
  refine VV.itf (fun q => q rfl) ?_
  ((repeat refine VV.s rfl rfl ?_); (try (conv => arg 3; simp only [Nat.reduceAdd, sto1, sto2, isL, cond_true, cond_false, List.drop_succ_cons, List.drop_zero, List.drop_nil])))
  exact VV.ret1 rfl ⟨by rw [tol_n, Nat.zero_add], C, Agr.rf⟩
theorem tol_kt {x : Nat} (hx : x < 2 ^ 31) : ∀ (l : List Nat) (n : Nat) (t : Int32), n + l.length < 2 ^ 31 → (tol (nI x) l n t).2 = if n ≤ x ∧ x < n + l.length then nI (l.getD (x - n) 0) else t
  | [], n, t, _ => by
    have e : ¬ (n ≤ x ∧ x < n + ([] : List Nat).length) := by show ¬ (n ≤ x ∧ x < n + 0); omega
    rw [if_neg e]; rfl
  | c :: l, n, t, hl => by
    have hl : n + (l.length + 1) < 2 ^ 31 := hl
    rw [tol, tol_kt hx l (n + 1) _ (by omega)]
    by_cases c1 : n = x
    · subst c1
      rw [if_neg (by omega), if_pos rfl, if_pos (by simp), Nat.sub_self]
      rfl
    · rw [if_neg (fun q => c1 ((nI_eq (by omega) hx).mp q))]
      by_cases c2 : n + 1 ≤ x ∧ x < n + 1 + l.length
      · rw [if_pos c2, if_pos (by simp; omega), show x - n = (x - (n + 1)) + 1 by omega]
        rfl
      · rw [if_neg c2, if_neg (by simp; omega)]
theorem swI_len (h : Hs) (h6 : hn h ≤ 6) : ∀ k i, (swI h k i).length ≤ 6 * k
  | 0, _ => by simp [swI]
  | k + 1, i => by
    have a := swJ_len h i (hn h - (i + 1)) (i + 1)
    have b := swI_len h h6 k (i + 1)
    rw [swI, List.length_append]
    omega
theorem kt5_eq (l : List Nat) (k : Nat) : kt5 l k = if k < l.length then nI (l.getD k 0) else -5 := by
  unfold kt5
  by_cases c : k < l.length
  · rw [if_pos c, List.getElem?_eq_getElem c, List.getD_eq_getElem?_getD, List.getElem?_eq_getElem c]
    rfl
  · rw [if_neg c, List.getElem?_eq_none (by omega)]
theorem m_swaps_ok (C : MInv u z) (G : GoodH z.1) {k : Nat} (hk : k < 2 ^ 31) : MC 154 [some (.ref 41), some (.int (nI k)), none, none, none, none] u (.int (kt5 (swapL z.1) k)) z := by
  have h6 := G.1.1
  refine VV.s rfl rfl ?_
  refine VV.s rfl rfl ?_
  refine VV.s rfl rfl ?_
  refine VV.itt (Int32.le_iff_toInt_le.mpr (by rw [nI_toInt hk]; show (-1 : Int) ≤ k; omega)) ?_
  ((repeat (fail_if_success show VV _ _ (18, _, _, _) _); refine VV.s rfl rfl ?_); (try (conv => arg 3; simp only [Nat.reduceAdd, sto1, sto2, isL, cond_true, cond_false, List.drop_succ_cons, List.drop_zero, List.drop_nil])))
  refine m_swaps_out C G (q0 := tol (nI k) (swapL z.1) 0 (-5)) (fun d4 d5 => ?_) (hn z.1) 0 0 (-5) none (by omega) (by omega) rfl
  ((repeat refine VV.s rfl rfl ?_); (try (conv => arg 3; simp only [Nat.reduceAdd, sto1, sto2, isL, cond_true, cond_false, List.drop_succ_cons, List.drop_zero, List.drop_nil])))
  refine VV.itt (nI_ne1 hk) ?_
  ((repeat refine VV.s rfl rfl ?_); (try (conv => arg 3; simp only [Nat.reduceAdd, sto1, sto2, isL, cond_true, cond_false, List.drop_succ_cons, List.drop_zero, List.drop_nil])))
  refine VV.ret1 rfl ⟨?_, C, Agr.rf⟩
  have hl := swI_len z.1 h6 (hn z.1) 0
  have hl : (swapL z.1).length ≤ 6 * hn z.1 := hl
  rw [kt5_eq, tol_kt hk _ _ _ (by omega)]
  simp
set_option maxHeartbeats 4000000 in
theorem f_first_in {h : Hs} (R : MRep u h) (G : GoodH h) {i : Nat} (hi : i < hn h) {rest : List Nat} (K : ∀ d, V 155 (44, [some (.ref 41), some (.int (nI i)), d], [], u) (is (.int (kth rest 0)) u)) : ∀ k j, j + k = hn h → V 155 (14, [some (.ref 41), some (.int (nI i)), some (.int (nI j))], [], u) (is (.int (kth (swJ h i k j ++ rest) 0)) u) := by
  have hN := R.1.1
  have h6 := G.1.1
  intro k
  induction k with
  | zero =>
    intro j hj
    ((repeat refine VV.s rfl rfl ?_); (try (conv => arg 3; simp only [Nat.reduceAdd, sto1, sto2, isL, cond_true, cond_false, List.drop_succ_cons, List.drop_zero, List.drop_nil])))
    refine VV.itt (by rw [hN]; exact nI_le (by omega) (by omega)) ?_
    exact K _
  | succ k ih =>
    intro j hj
    ((repeat refine VV.s rfl rfl ?_); (try (conv => arg 3; simp only [Nat.reduceAdd, sto1, sto2, isL, cond_true, cond_false, List.drop_succ_cons, List.drop_zero, List.drop_nil])))
    refine VV.itf (by rw [hN]; exact nI_ge (by omega) (by omega)) ?_
    ((repeat refine VV.s rfl rfl ?_); (try (conv => arg 3; simp only [Nat.reduceAdd, sto1, sto2, isL, cond_true, cond_false, List.drop_succ_cons, List.drop_zero, List.drop_nil])))
    refine VV.callE rfl rfl rfl rfl (f_isSwap R G hi (show j < hn h by omega)) rfl ?_
    ((repeat refine VV.s rfl rfl ?_); (try (conv => arg 3; simp only [Nat.reduceAdd, sto1, sto2, isL, cond_true, cond_false, List.drop_succ_cons, List.drop_zero, List.drop_nil])))
    rw [swJ]
    cases hs : swP h i j with
    | true =>
      refine VV.itf (by decide) ?_
      ((repeat refine VV.s rfl rfl ?_); (try (conv => arg 3; simp only [Nat.reduceAdd, sto1, sto2, isL, cond_true, cond_false, List.drop_succ_cons, List.drop_zero, List.drop_nil])))
      exact VV.ret1 rfl ⟨by rw [ten_nI]; rfl, rfl⟩
    | false =>
      refine VV.itt (by decide) ?_
      ((repeat (fail_if_success show VV _ _ (14, _, _, _) _); refine VV.s rfl rfl ?_); (try (conv => arg 3; simp only [Nat.reduceAdd, sto1, sto2, isL, cond_true, cond_false, List.drop_succ_cons, List.drop_zero, List.drop_nil])))
      rw [nI_1]
      exact ih (j + 1) (by omega)
set_option maxHeartbeats 4000000 in
theorem f_firstSwap {h : Hs} (R : MRep u h) (G : GoodH h) : V 155 (0, [some (.ref 41), none, none], [], u) (is (.int (kth (swapL h) 0)) u) := by
  have hN := R.1.1
  have h6 := G.1.1
  have lp : ∀ k i d, i + k = hn h → V 155 (2, [some (.ref 41), some (.int (nI i)), d], [], u) (is (.int (kth (swI h k i) 0)) u) := by
    intro k
    induction k with
    | zero =>
      intro i d hi
      ((repeat refine VV.s rfl rfl ?_); (try (conv => arg 3; simp only [Nat.reduceAdd, sto1, sto2, isL, cond_true, cond_false, List.drop_succ_cons, List.drop_zero, List.drop_nil])))
      refine VV.itt (by rw [hN]; exact nI_le (by omega) (by omega)) ?_
      ((repeat refine VV.s rfl rfl ?_); (try (conv => arg 3; simp only [Nat.reduceAdd, sto1, sto2, isL, cond_true, cond_false, List.drop_succ_cons, List.drop_zero, List.drop_nil])))
      exact VV.ret1 rfl ⟨rfl, rfl⟩
    | succ k ih =>
      intro i d hi
      ((repeat refine VV.s rfl rfl ?_); (try (conv => arg 3; simp only [Nat.reduceAdd, sto1, sto2, isL, cond_true, cond_false, List.drop_succ_cons, List.drop_zero, List.drop_nil])))
      refine VV.itf (by rw [hN]; exact nI_ge (by omega) (by omega)) ?_
      ((repeat (fail_if_success show VV _ _ (14, _, _, _) _); refine VV.s rfl rfl ?_); (try (conv => arg 3; simp only [Nat.reduceAdd, sto1, sto2, isL, cond_true, cond_false, List.drop_succ_cons, List.drop_zero, List.drop_nil])))
      rw [nI_1, swI]
      refine f_first_in R G (show i < hn h by omega) (fun d2 => ?_) (hn h - (i + 1)) (i + 1) (by omega)
      ((repeat (fail_if_success show VV _ _ (2, _, _, _) _); refine VV.s rfl rfl ?_); (try (conv => arg 3; simp only [Nat.reduceAdd, sto1, sto2, isL, cond_true, cond_false, List.drop_succ_cons, List.drop_zero, List.drop_nil])))
      rw [nI_1]
      exact ih (i + 1) _ (by omega)
  ((repeat (fail_if_success show VV _ _ (2, _, _, _) _); refine VV.s rfl rfl ?_); (try (conv => arg 3; simp only [Nat.reduceAdd, sto1, sto2, isL, cond_true, cond_false, List.drop_succ_cons, List.drop_zero, List.drop_nil])))
  exact lp (hn h) 0 none (by omega)
end M4
