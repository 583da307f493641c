/-! ===== the reference: from an image; rings ===== -/
section M10
variable {u : Sg} {z : Zs}
def FM (u t : Sg) (a i j : Nat) : Prop :=
  (gI t 41 1 = gA u 61 a ∧ gI t 41 3 = gA u 61 (a + 1) ∧ gI t 41 23 = gA u 61 (a + 2) ∧ gI t 41 2 = gA u 61 (a + 3)) ∧ (∀ v, v < 6 → gA t 46 v = gA u 61 (a + 4 + v) ∧ gA t 47 v = gA u 61 (a + 10 + v) ∧ gA t 48 v = gA u 61 (a + 16 + v)) ∧
  (∀ k, k < i → gA t 43 k = gA u 61 (a + 22 + k) ∧ gA t 44 k = gA u 61 (a + 28 + k) ∧ gA t 45 k = gA u 61 (a + 34 + k) ∧ gA t 49 k = gA u 61 (a + 40 + k) ∧ gA t 50 k = gA u 61 (a + 46 + k) ∧ gA t 51 k = gA u 61 (a + 52 + k) ∧ gA t 52 k = gA u 61 (a + 58 + k) ∧ gA t 53 k = gA u 61 (a + 64 + k)) ∧
  (∀ k, k < j → gA t 57 k = gA u 61 (a + 70 + k)) ∧ MF u t
theorem FM.rep {h : Hs} {a : Nat} {t : Sg} (R : IRep u a h) (G : GoodH h) (I : FM u t a 6 152) : MRep t h := by
  have h6 := G.1.1
  have hn6 := G.1.2.2.1
  have hu8 := G.1.2.2.2
  obtain ⟨⟨i1, i2, i3, i4⟩, i5, i6, i7, -⟩ := I
  refine ⟨⟨i1.trans R.1.1, i4.trans R.1.2.1, i2.trans R.1.2.2.1, i3.trans R.1.2.2.2⟩, fun v hv => ?_, fun i c hi hc => ?_, fun k hk => ?_⟩
  · obtain ⟨r1, r2, r3, r4, r5, r6⟩ := R.2.1 v hv
    obtain ⟨q1, q2, q3, -⟩ := i6 v (by omega)
    obtain ⟨p1, p2, p3⟩ := i5 v (by omega)
    exact ⟨q1.trans r1, q2.trans r2, q3.trans r3, p1.trans r4, p2.trans r5, p3.trans r6⟩
  · obtain ⟨-, -, -, q4, q5, q6, q7, q8⟩ := i6 i (by omega)
    have r := R.2.2.1 i c hi hc
    rcases c5 hc with rfl | rfl | rfl | rfl | rfl
    · exact q4.trans r
    · exact q5.trans r
    · exact q6.trans r
    · exact q7.trans r
    · exact q8.trans r
  · obtain ⟨p1, p2⟩ := R.2.2.2 k hk
    refine ⟨?_, fun v hv => ?_⟩
    · rw [i7 (19 * k) (by omega)]; exact p1
    · obtain ⟨q1, q2, q3⟩ := p2 v hv
      refine ⟨?_, ?_, ?_⟩
      · rw [i7 _ (by omega), show a + 70 + (19 * k + 1 + v) = a + 71 + 19 * k + v by omega]; exact q1
      · rw [i7 _ (by omega), show a + 70 + (19 * k + 7 + v) = a + 77 + 19 * k + v by omega]; exact q2
      · rw [i7 _ (by omega), show a + 70 + (19 * k + 13 + v) = a + 83 + 19 * k + v by omega]; exact q3
set_option maxHeartbeats 16000000 in
theorem m_frm_loop2 {w : Int32} {a : Nat} (ha : a + 230 ≤ 460) : ∀ k i t, i + k = 152 → FM u t a 6 i → V 175 (231, [some (.ref 41), some (.int w), some (.int (nI a)), some (.int (nI i))], [], t) (fun r t => r = some (.int 1) ∧ FM u t a 6 152) := by
  intro k
  induction k with
  | zero =>
    intro i t hi I
    ((repeat (fail_if_success show VV _ _ (235, _, _, _) _); refine VV.s rfl rfl ?_); (try (conv => arg 3; simp only [Nat.reduceAdd, sto1, sto2, isL, cond_true, cond_false, List.drop_succ_cons, List.drop_zero, List.drop_nil])))
    refine VV.s rfl rfl ?_
    refine VV.itt (nI_le (a := 152) (by omega) (by omega)) ?_
    ((repeat refine VV.s rfl rfl ?_); (try (conv => arg 3; simp only [Nat.reduceAdd, sto1, sto2, isL, cond_true, cond_false, List.drop_succ_cons, List.drop_zero, List.drop_nil])))
    exact VV.ret1 rfl ⟨rfl, by rw [show 152 = i by omega]; exact I⟩
  | succ k ih =>
    intro i t hi I
    obtain ⟨i1, i5, i6, i7, i8⟩ := I
    have ex : nI a + 70 + nI i = nI (a + 70 + i) := by rw [show nI a + 70 = nI (a + 70) from add_nI a 70, nI_add]
    ((repeat (fail_if_success show VV _ _ (235, _, _, _) _); refine VV.s rfl rfl ?_); (try (conv => arg 3; simp only [Nat.reduceAdd, sto1, sto2, isL, cond_true, cond_false, List.drop_succ_cons, List.drop_zero, List.drop_nil])))
    refine VV.s rfl rfl ?_
    refine VV.itf (nI_ge (b := 152) (by omega) (by omega)) ?_
    ((repeat (fail_if_success show VV _ _ (253, _, _, _) _); refine VV.s rfl rfl ?_); (try (conv => arg 3; simp only [Nat.reduceAdd, sto1, sto2, isL, cond_true, cond_false, List.drop_succ_cons, List.drop_zero, List.drop_nil])))
    rw [ex]
    refine VV.iald rfl rfl rfl (show a + 70 + i < 460 by omega) (by decide) ?_
    refine VV.iast rfl rfl rfl (show i < 152 by omega) (by decide) ?_
    ((repeat (fail_if_success show VV _ _ (231, _, _, _) _); refine VV.s rfl rfl ?_); (try (conv => arg 3; simp only [Nat.reduceAdd, sto1, sto2, isL, cond_true, cond_false, List.drop_succ_cons, List.drop_zero, List.drop_nil])))
    rw [nI_1]
    refine ih (i + 1) _ (by omega) ⟨i1, i5, i6, fun q hq => ?_, i8.A (by omega)⟩
    show upd (gA t 57) i (gA t 61 (a + 70 + i)) q = _
    by_cases c : q = i
    · rw [upd_eq c, c, i8.1 61 (by omega)]
    · rw [upd_ne c]; exact i7 q (by omega)
set_option maxHeartbeats 16000000 in
theorem m_frm_loop1 {w : Int32} {a : Nat} (ha : a + 230 ≤ 460) : ∀ k i t, i + k = 6 → FM u t a i 0 → V 175 (81, [some (.ref 41), some (.int w), some (.int (nI a)), some (.int (nI i))], [], t) (fun r t => r = some (.int 1) ∧ FM u t a 6 152) := by
  intro k
  induction k with
  | zero =>
    intro i t hi I
    ((repeat refine VV.s rfl rfl ?_); (try (conv => arg 3; simp only [Nat.reduceAdd, sto1, sto2, isL, cond_true, cond_false, List.drop_succ_cons, List.drop_zero, List.drop_nil])))
    refine VV.itt (nI_le (a := 6) (by omega) (by omega)) ?_
    ((repeat (fail_if_success show VV _ _ (231, _, _, _) _); refine VV.s rfl rfl ?_); (try (conv => arg 3; simp only [Nat.reduceAdd, sto1, sto2, isL, cond_true, cond_false, List.drop_succ_cons, List.drop_zero, List.drop_nil])))
    exact m_frm_loop2 ha 152 0 t (by omega) (by rw [show 6 = i by omega]; exact I)
  | succ k ih =>
    intro i t hi I
    obtain ⟨i1, i5, i6, i7, i8⟩ := I
    have g := i8.1 61 (by omega)
    have ex : ∀ c, nI a + nI c + nI i = nI (a + c + i) := fun c => by rw [nI_add, nI_add]
    ((repeat refine VV.s rfl rfl ?_); (try (conv => arg 3; simp only [Nat.reduceAdd, sto1, sto2, isL, cond_true, cond_false, List.drop_succ_cons, List.drop_zero, List.drop_nil])))
    refine VV.itf (nI_ge (b := 6) (by omega) (by omega)) ?_
    ((repeat refine VV.s rfl rfl ?_); (try (conv => arg 3; simp only [Nat.reduceAdd, sto1, sto2, isL, cond_true, cond_false, List.drop_succ_cons, List.drop_zero, List.drop_nil])))
    rw [show nI a + 22 + nI i = nI (a + 22 + i) from ex 22]
    refine VV.iald rfl rfl rfl (show a + 22 + i < 460 by omega) (by decide) ?_
    refine VV.iast rfl rfl rfl (show i < 6 by omega) (by decide) ?_
    ((repeat refine VV.s rfl rfl ?_); (try (conv => arg 3; simp only [Nat.reduceAdd, sto1, sto2, isL, cond_true, cond_false, List.drop_succ_cons, List.drop_zero, List.drop_nil])))
    rw [show nI a + 28 + nI i = nI (a + 28 + i) from ex 28]
    refine VV.iald rfl rfl rfl (show a + 28 + i < 460 by omega) (by decide) ?_
    refine VV.iast rfl rfl rfl (show i < 6 by omega) (by decide) ?_
    ((repeat refine VV.s rfl rfl ?_); (try (conv => arg 3; simp only [Nat.reduceAdd, sto1, sto2, isL, cond_true, cond_false, List.drop_succ_cons, List.drop_zero, List.drop_nil])))
    rw [show nI a + 34 + nI i = nI (a + 34 + i) from ex 34]
    refine VV.iald rfl rfl rfl (show a + 34 + i < 460 by omega) (by decide) ?_
    refine VV.iast rfl rfl rfl (show i < 6 by omega) (by decide) ?_
    ((repeat refine VV.s rfl rfl ?_); (try (conv => arg 3; simp only [Nat.reduceAdd, sto1, sto2, isL, cond_true, cond_false, List.drop_succ_cons, List.drop_zero, List.drop_nil])))
    rw [show nI a + 40 + nI i = nI (a + 40 + i) from ex 40]
    refine VV.iald rfl rfl rfl (show a + 40 + i < 460 by omega) (by decide) ?_
    refine VV.iast rfl rfl rfl (show i < 6 by omega) (by decide) ?_
    ((repeat refine VV.s rfl rfl ?_); (try (conv => arg 3; simp only [Nat.reduceAdd, sto1, sto2, isL, cond_true, cond_false, List.drop_succ_cons, List.drop_zero, List.drop_nil])))
    rw [show nI a + 46 + nI i = nI (a + 46 + i) from ex 46]
    refine VV.iald rfl rfl rfl (show a + 46 + i < 460 by omega) (by decide) ?_
    refine VV.iast rfl rfl rfl (show i < 6 by omega) (by decide) ?_
    ((repeat refine VV.s rfl rfl ?_); (try (conv => arg 3; simp only [Nat.reduceAdd, sto1, sto2, isL, cond_true, cond_false, List.drop_succ_cons, List.drop_zero, List.drop_nil])))
    rw [show nI a + 52 + nI i = nI (a + 52 + i) from ex 52]
    refine VV.iald rfl rfl rfl (show a + 52 + i < 460 by omega) (by decide) ?_
    refine VV.iast rfl rfl rfl (show i < 6 by omega) (by decide) ?_
    ((repeat refine VV.s rfl rfl ?_); (try (conv => arg 3; simp only [Nat.reduceAdd, sto1, sto2, isL, cond_true, cond_false, List.drop_succ_cons, List.drop_zero, List.drop_nil])))
    rw [show nI a + 58 + nI i = nI (a + 58 + i) from ex 58]
    refine VV.iald rfl rfl rfl (show a + 58 + i < 460 by omega) (by decide) ?_
    refine VV.iast rfl rfl rfl (show i < 6 by omega) (by decide) ?_
    ((repeat refine VV.s rfl rfl ?_); (try (conv => arg 3; simp only [Nat.reduceAdd, sto1, sto2, isL, cond_true, cond_false, List.drop_succ_cons, List.drop_zero, List.drop_nil])))
    rw [show nI a + 64 + nI i = nI (a + 64 + i) from ex 64]
    refine VV.iald rfl rfl rfl (show a + 64 + i < 460 by omega) (by decide) ?_
    refine VV.iast rfl rfl rfl (show i < 6 by omega) (by decide) ?_
    ((repeat (fail_if_success show VV _ _ (81, _, _, _) _); refine VV.s rfl rfl ?_); (try (conv => arg 3; simp only [Nat.reduceAdd, sto1, sto2, isL, cond_true, cond_false, List.drop_succ_cons, List.drop_zero, List.drop_nil])))
    rw [nI_1]
    refine ih (i + 1) _ (by omega) ⟨i1, i5, fun q hq => ?_, fun q hq => absurd hq (Nat.not_lt_zero q), (((((((i8.A (by omega)).A (by omega)).A (by omega)).A (by omega)).A (by omega)).A (by omega)).A (by omega)).A (by omega)⟩
    show upd (gA t 43) i (gA t 61 (a + 22 + i)) q = _ ∧ upd (gA t 44) i (gA t 61 (a + 28 + i)) q = _ ∧ upd (gA t 45) i (gA t 61 (a + 34 + i)) q = _ ∧ upd (gA t 49) i (gA t 61 (a + 40 + i)) q = _ ∧ upd (gA t 50) i (gA t 61 (a + 46 + i)) q = _ ∧ upd (gA t 51) i (gA t 61 (a + 52 + i)) q = _ ∧ upd (gA t 52) i (gA t 61 (a + 58 + i)) q = _ ∧ upd (gA t 53) i (gA t 61 (a + 64 + i)) q = _
    rw [g]
    by_cases c : q = i
    · subst c
      rw [upd_eq rfl, upd_eq rfl, upd_eq rfl, upd_eq rfl, upd_eq rfl, upd_eq rfl, upd_eq rfl, upd_eq rfl]
      exact ⟨rfl, rfl, rfl, rfl, rfl, rfl, rfl, rfl⟩
    · rw [upd_ne c, upd_ne c, upd_ne c, upd_ne c, upd_ne c, upd_ne c, upd_ne c, upd_ne c]
      exact i6 q (by omega)
theorem m_from_bad (C : MInv u z) {w : Int32} (h : w < 0 ∨ 1 < w) : MC 175 [some (.ref 41), some (.int w), none, none] u (.int (-2)) (zB z) := by
  ((repeat refine VV.s rfl rfl ?_); (try (conv => arg 3; simp only [Nat.reduceAdd, sto1, sto2, isL, cond_true, cond_false, List.drop_succ_cons, List.drop_zero, List.drop_nil])))
  refine VV.callE rfl rfl rfl rfl (f_inN h) rfl ?_
  refine VV.s rfl rfl ?_
  refine VV.itf (by decide) ?_
  ((repeat refine VV.s rfl rfl ?_); (try (conv => arg 3; simp only [Nat.reduceAdd, sto1, sto2, isL, cond_true, cond_false, List.drop_succ_cons, List.drop_zero, List.drop_nil])))
  refine VV.callE rfl rfl rfl rfl f_bad rfl ?_
  ((repeat refine VV.s rfl rfl ?_); (try (conv => arg 3; simp only [Nat.reduceAdd, sto1, sto2, isL, cond_true, cond_false, List.drop_succ_cons, List.drop_zero, List.drop_nil])))
  exact VV.ret1 rfl ⟨rfl, C.bad, (Agr.rf).A (by decide)⟩
theorem m_from_no (C : MInv u z) {i : Nat} (hi : i ≤ 1) (h : ¬ (nI i < 0 ∨ 1 < nI i)) (hk : gA u 62 i = 0) : MC 175 [some (.ref 41), some (.int (nI i)), none, none] u (.int (-3)) (zN z) := by
  ((repeat refine VV.s rfl rfl ?_); (try (conv => arg 3; simp only [Nat.reduceAdd, sto1, sto2, isL, cond_true, cond_false, List.drop_succ_cons, List.drop_zero, List.drop_nil])))
  refine VV.callE rfl rfl rfl rfl (f_inY h) rfl ?_
  refine VV.s rfl rfl ?_
  refine VV.itt (by decide) ?_
  ((repeat refine VV.s rfl rfl ?_); (try (conv => arg 3; simp only [Nat.reduceAdd, sto1, sto2, isL, cond_true, cond_false, List.drop_succ_cons, List.drop_zero, List.drop_nil])))
  refine VV.iald rfl rfl rfl (show i < 2 by omega) (by decide) ?_
  rw [hk]
  refine VV.s rfl rfl ?_
  refine VV.itf (fun q => q rfl) ?_
  ((repeat refine VV.s rfl rfl ?_); (try (conv => arg 3; simp only [Nat.reduceAdd, sto1, sto2, isL, cond_true, cond_false, List.drop_succ_cons, List.drop_zero, List.drop_nil])))
  refine VV.callE rfl rfl rfl rfl f_no rfl ?_
  ((repeat refine VV.s rfl rfl ?_); (try (conv => arg 3; simp only [Nat.reduceAdd, sto1, sto2, isL, cond_true, cond_false, List.drop_succ_cons, List.drop_zero, List.drop_nil])))
  exact VV.ret1 rfl ⟨rfl, C.no, (Agr.rf).A (by decide)⟩
set_option maxHeartbeats 8000000 in
theorem m_from_ok (C : MInv u z) {i : Nat} (hi : i ≤ 1) (h : ¬ (nI i < 0 ∨ 1 < nI i)) {h1 : Hs} (G : GoodH h1) (hk : gA u 62 i = 1) (I : IRep u (230 * i) h1) : MC 175 [some (.ref 41), some (.int (nI i)), none, none] u (.int 1) (zH z h1) := by
  have e230 : (230 : Int32) * nI i = nI (230 * i) := by rw [show (230 : Int32) = nI 230 from rfl, pk_mul]
  ((repeat refine VV.s rfl rfl ?_); (try (conv => arg 3; simp only [Nat.reduceAdd, sto1, sto2, isL, cond_true, cond_false, List.drop_succ_cons, List.drop_zero, List.drop_nil])))
  refine VV.callE rfl rfl rfl rfl (f_inY h) rfl ?_
  refine VV.s rfl rfl ?_
  refine VV.itt (by decide) ?_
  ((repeat refine VV.s rfl rfl ?_); (try (conv => arg 3; simp only [Nat.reduceAdd, sto1, sto2, isL, cond_true, cond_false, List.drop_succ_cons, List.drop_zero, List.drop_nil])))
  refine VV.iald rfl rfl rfl (show i < 2 by omega) (by decide) ?_
  rw [hk]
  refine VV.s rfl rfl ?_
  refine VV.itt (by decide) ?_
  ((repeat (fail_if_success show VV _ _ (40, _, _, _) _); refine VV.s rfl rfl ?_); (try (conv => arg 3; simp only [Nat.reduceAdd, sto1, sto2, isL, cond_true, cond_false, List.drop_succ_cons, List.drop_zero, List.drop_nil])))
  rw [e230]
  refine VV.iald rfl rfl rfl (show 230 * i < 460 by omega) (by decide) ?_
  ((repeat refine VV.s rfl rfl ?_); (try (conv => arg 3; simp only [Nat.reduceAdd, sto1, sto2, isL, cond_true, cond_false, List.drop_succ_cons, List.drop_zero, List.drop_nil])))
  rw [show nI (230 * i) + 1 = nI (230 * i + 1) from nI_1 _]
  refine VV.iald rfl rfl rfl (show 230 * i + 1 < 460 by omega) (by decide) ?_
  ((repeat refine VV.s rfl rfl ?_); (try (conv => arg 3; simp only [Nat.reduceAdd, sto1, sto2, isL, cond_true, cond_false, List.drop_succ_cons, List.drop_zero, List.drop_nil])))
  rw [show nI (230 * i) + 2 = nI (230 * i + 2) from add_nI _ 2]
  refine VV.iald rfl rfl rfl (show 230 * i + 2 < 460 by omega) (by decide) ?_
  ((repeat refine VV.s rfl rfl ?_); (try (conv => arg 3; simp only [Nat.reduceAdd, sto1, sto2, isL, cond_true, cond_false, List.drop_succ_cons, List.drop_zero, List.drop_nil])))
  rw [show nI (230 * i) + 3 = nI (230 * i + 3) from add_nI _ 3]
  refine VV.call rfl rfl rfl rfl (f_takes (o := 61) (a := 230 * i + 3) (Or.inr (Or.inr rfl)) (show 230 * i + 3 + 19 ≤ 460 by omega)) (fun r t q => ?_)
  obtain ⟨rfl, K⟩ := q
  ((repeat (fail_if_success show VV _ _ (81, _, _, _) _); refine VV.s rfl rfl ?_); (try (conv => arg 3; simp only [Nat.reduceAdd, sto1, sto2, isL, cond_true, cond_false, List.drop_succ_cons, List.drop_zero, List.drop_nil])))
  refine VV.mono (m_frm_loop1 (u := u) (a := 230 * i) (by omega) 6 0 t (by omega) ⟨⟨?_, ?_, ?_, K.1⟩, fun v hv => ?_, fun k hk => absurd hk (Nat.not_lt_zero k), fun k hk => absurd hk (Nat.not_lt_zero k), (((MF.rf.I (by omega)).I (by omega)).I (by omega)).tr K.MF⟩) (fun r t2 q => ?_)
  · rw [K.2.2.2.1 41 1 (by omega)]; rfl
  · rw [K.2.2.2.1 41 3 (by omega)]; rfl
  · rw [K.2.2.2.1 41 23 (by omega)]; rfl
  · exact K.2.1 v hv
  · obtain ⟨rfl, F⟩ := q
    exact ⟨rfl, C.main (F.rep I G) F.2.2.2.2, F.2.2.2.2.onC⟩
/-- who is k steps on from p (p + 1; 0: nobody) -/
def nxt (h : Hs) : Nat → Nat → Nat
  | 0, p => p + 1
  | k + 1, p => match nxt h k p with
    | 0 => 0
    | q + 1 => voH h q
theorem voH_inj {h : Hs} {p q v : Nat} (a : voH h p = v + 1) (b : voH h q = v + 1) : p = q := by
  rcases voH_spec h p with ⟨h1, -⟩ | ⟨x, -, h2, h3⟩
  · omega
  · rcases voH_spec h q with ⟨h1, -⟩ | ⟨y, -, g2, g3⟩
    · omega
    · have e1 : x = v := by omega
      have e2 : y = v := by omega
      rw [e1] at h3
      rw [e2] at g3
      omega
theorem nxt_lt {h : Hs} {p : Nat} (hp : p < hn h) : ∀ k, nxt h k p ≤ hn h
  | 0 => hp
  | k + 1 => by
    rw [nxt]
    split
    · omega
    · exact voH_le h _
/-- if nobody is met twice ahead of p, p is met again -/
theorem nxt_back {h : Hs} {p : Nat} : ∀ i j, i < j → nxt h i p = nxt h j p → nxt h i p ≠ 0 → nxt h (j - i) p = p + 1
  | 0, j, _, e, _ => by rw [Nat.sub_zero, ← e]; rfl
  | i + 1, j, hij, e, h0 => by
    obtain ⟨j, rfl⟩ : ∃ m, j = m + 1 := ⟨j - 1, by omega⟩
    rw [nxt] at e h0
    cases hi : nxt h i p with
    | zero => rw [hi] at h0; exact absurd rfl h0
    | succ a =>
      rw [hi] at e h0
      rw [show nxt h (j + 1) p = _ from rfl] at e
      rw [nxt] at e
      cases hj : nxt h j p with
      | zero => rw [hj] at e; exact absurd e h0
      | succ b =>
        rw [hj] at e
        dsimp only at e h0
        obtain ⟨v, hv⟩ : ∃ v, voH h a = v + 1 := ⟨voH h a - 1, by omega⟩
        have := voH_inj hv (e ▸ hv)
        have r := nxt_back (h := h) (p := p) i j (by omega) (by rw [hi, hj, this]) (by rw [hi]; omega)
        rw [show j + 1 - (i + 1) = j - i by omega]
        exact r
theorem holes : ∀ (m n : Nat) (f : Nat → Nat), (∀ i, i < n → f i < m) → (∀ i j, i < j → j < n → f i ≠ f j) → n ≤ m
  | 0, n, f, h, _ => by
    rcases Nat.eq_zero_or_pos n with q | q
    · omega
    · exact absurd (h 0 q) (Nat.not_lt_zero _)
  | m + 1, 0, _, _, _ => Nat.zero_le _
  | m + 1, n + 1, f, h, hd => by
    have key := holes m n (fun i => if f i = m then f n else f i) (fun i hi => ?_) (fun i j hij hj => ?_)
    · omega
    · show (if f i = m then f n else f i) < m
      have a := h i (by omega)
      have b := h n (by omega)
      by_cases c : f i = m
      · rw [if_pos c]
        have := hd i n hi (by omega)
        omega
      · rw [if_neg c]; omega
    · show (if f i = m then f n else f i) ≠ (if f j = m then f n else f j)
      have a := hd i j hij (by omega)
      have b := hd i n (by omega) (by omega)
      have d := hd j n hj (by omega)
      by_cases c : f i = m
      · rw [if_pos c]
        by_cases e : f j = m
        · omega
        · rw [if_neg e]; omega
      · rw [if_neg c]
        by_cases e : f j = m
        · rw [if_pos e]; omega
        · rw [if_neg e]; exact a
/-- within n steps one comes to p again, or to one who is dumb -/
theorem ring_ends {h : Hs} {p : Nat} (hp : p < hn h) : ∃ k, 1 ≤ k ∧ k ≤ hn h ∧ (nxt h k p = 0 ∨ nxt h k p = p + 1) := by
  refine Classical.byContradiction (fun hc => ?_)
  have hno : ∀ k, 1 ≤ k → k ≤ hn h → nxt h k p ≠ 0 ∧ nxt h k p ≠ p + 1 := fun k h1 h2 => ⟨fun e => hc ⟨k, h1, h2, Or.inl e⟩, fun e => hc ⟨k, h1, h2, Or.inr e⟩⟩
  have nz : ∀ k, k ≤ hn h → nxt h k p ≠ 0 := fun k hk => by
    cases k with
    | zero => show p + 1 ≠ 0; omega
    | succ k => exact (hno (k + 1) (by omega) hk).1
  have := holes (hn h) (hn h + 1) (fun k => nxt h k p - 1) (fun i hi => ?_) (fun i j hij hj e => ?_)
  · omega
  · have a := nxt_lt hp i
    have b := nz i (by omega)
    show nxt h i p - 1 < hn h
    omega
  · have e : nxt h i p - 1 = nxt h j p - 1 := e
    have a := nz i (by omega)
    have b := nz j (by omega)
    exact (hno (j - i) (by omega) (by omega)).2 (nxt_back i j hij (by omega) a)
end M10
