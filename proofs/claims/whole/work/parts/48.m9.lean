/-! ===== the reference: images ===== -/
section M9
variable {u : Sg} {z : Zs}
theorem upd_ne {f : Nat → Int32} {k j : Nat} {x : Int32} (h : j ≠ k) : upd f k x j = f j := if_neg h
theorem upd_eq {f : Nat → Int32} {k j : Nat} {x : Int32} (h : j = k) : upd f k x j = x := if_pos h
/-- an image, as far as i of the six, j of the past -/
def IM (u : Sg) (a i j : Nat) (f : Nat → Int32) : Prop :=
  (f a = gI u 41 1 ∧ f (a + 1) = gI u 41 3 ∧ f (a + 2) = gI u 41 23 ∧ f (a + 3) = gI u 41 2) ∧ (∀ v, v < 6 → f (a + 4 + v) = gA u 46 v ∧ f (a + 10 + v) = gA u 47 v ∧ f (a + 16 + v) = gA u 48 v) ∧
  (∀ k, k < i → f (a + 22 + k) = gA u 43 k ∧ f (a + 28 + k) = gA u 44 k ∧ f (a + 34 + k) = gA u 45 k ∧ f (a + 40 + k) = gA u 49 k ∧ f (a + 46 + k) = gA u 50 k ∧ f (a + 52 + k) = gA u 51 k ∧ f (a + 58 + k) = gA u 52 k ∧ f (a + 64 + k) = gA u 53 k) ∧
  (∀ k, k < j → f (a + 70 + k) = gA u 57 k) ∧ ∀ q, q < a ∨ a + 222 ≤ q → f q = gA u 61 q
theorem IM.rep {h : Hs} {a : Nat} {f : Nat → Int32} (R : MRep u h) (G : GoodH h) (I : IM u a 6 152 f) {t : Sg} (e : gA t 61 = f) : IRep t a h := by
  have h6 := G.1.1
  have hn6 := G.1.2.2.1
  have hu8 := G.1.2.2.2
  obtain ⟨⟨i1, i2, i3, i4⟩, i5, i6, i7, -⟩ := I
  unfold IRep
  rw [e]
  refine ⟨⟨i1.trans R.1.1, i4.trans R.1.2.1, i2.trans R.1.2.2.1, i3.trans R.1.2.2.2⟩, fun v hv => ?_, fun i c hi hc => ?_, fun k hk => ?_⟩
  · obtain ⟨r1, r2, r3, r4, r5, r6⟩ := R.2.1 v hv
    obtain ⟨q1, q2, q3, -⟩ := i6 v (by omega)
    obtain ⟨p1, p2, p3⟩ := i5 v (by omega)
    exact ⟨q1.trans r1, q2.trans r2, q3.trans r3, p1.trans r4, p2.trans r5, p3.trans r6⟩
  · obtain ⟨-, -, -, q4, q5, q6, q7, q8⟩ := i6 i (by omega)
    have r := R.2.2.1 i c hi hc
    rcases c5 hc with rfl | rfl | rfl | rfl | rfl
    · exact q4.trans r
    · exact q5.trans r
    · exact q6.trans r
    · exact q7.trans r
    · exact q8.trans r
  · obtain ⟨p1, p2⟩ := R.2.2.2 k hk
    refine ⟨?_, fun v hv => ?_⟩
    · rw [i7 (19 * k) (by omega)]; exact p1
    · obtain ⟨q1, q2, q3⟩ := p2 v hv
      refine ⟨?_, ?_, ?_⟩
      · rw [show a + 71 + 19 * k + v = a + 70 + (19 * k + 1 + v) by omega, i7 _ (by omega)]; exact q1
      · rw [show a + 77 + 19 * k + v = a + 70 + (19 * k + 7 + v) by omega, i7 _ (by omega)]; exact q2
      · rw [show a + 83 + 19 * k + v = a + 70 + (19 * k + 13 + v) by omega, i7 _ (by omega)]; exact q3
set_option maxHeartbeats 16000000 in
theorem m_img_loop2 {w : Int32} {a : Nat} (ha : a + 230 ≤ 460) {u0 : Sg} (e0 : ∀ k, k ≠ 61 → k ≠ 62 → gA u0 k = gA u k) : ∀ k i f, i + k = 152 → IM u a 6 i f → V 174 (224, [some (.ref 41), some (.int w), some (.int (nI a)), some (.int (nI i))], [], pA u0 61 f) (fun r t => r = some (.int 1) ∧ ∃ f, t = pA u0 61 f ∧ IM u a 6 152 f) := by
  intro k
  induction k with
  | zero =>
    intro i f hi I
    ((repeat (fail_if_success show VV _ _ (228, _, _, _) _); refine VV.s rfl rfl ?_); (try (conv => arg 3; simp only [Nat.reduceAdd, sto1, sto2, isL, cond_true, cond_false, List.drop_succ_cons, List.drop_zero, List.drop_nil])))
    refine VV.s rfl rfl ?_
    refine VV.itt (nI_le (a := 152) (by omega) (by omega)) ?_
    ((repeat refine VV.s rfl rfl ?_); (try (conv => arg 3; simp only [Nat.reduceAdd, sto1, sto2, isL, cond_true, cond_false, List.drop_succ_cons, List.drop_zero, List.drop_nil])))
    exact VV.ret1 rfl ⟨rfl, f, rfl, by rw [show 152 = i by omega]; exact I⟩
  | succ k ih =>
    intro i f hi I
    obtain ⟨⟨i1, i2, i3, i4⟩, i5, i6, i7, i8⟩ := I
    have ex : nI a + 70 + nI i = nI (a + 70 + i) := by rw [show nI a + 70 = nI (a + 70) from add_nI a 70, nI_add]
    ((repeat (fail_if_success show VV _ _ (228, _, _, _) _); refine VV.s rfl rfl ?_); (try (conv => arg 3; simp only [Nat.reduceAdd, sto1, sto2, isL, cond_true, cond_false, List.drop_succ_cons, List.drop_zero, List.drop_nil])))
    refine VV.s rfl rfl ?_
    refine VV.itf (nI_ge (b := 152) (by omega) (by omega)) ?_
    ((repeat refine VV.s rfl rfl ?_); (try (conv => arg 3; simp only [Nat.reduceAdd, sto1, sto2, isL, cond_true, cond_false, List.drop_succ_cons, List.drop_zero, List.drop_nil])))
    refine VV.iald rfl rfl rfl (show i < 152 by omega) (by decide) ?_
    rw [ex]
    refine VV.iast rfl rfl rfl (show a + 70 + i < 460 by omega) (by decide) ?_
    ((repeat (fail_if_success show VV _ _ (224, _, _, _) _); refine VV.s rfl rfl ?_); (try (conv => arg 3; simp only [Nat.reduceAdd, sto1, sto2, isL, cond_true, cond_false, List.drop_succ_cons, List.drop_zero, List.drop_nil])))
    rw [nI_1]
    have e57 : gA (pA u0 61 f) 57 i = gA u 57 i := congrFun (e0 57 (by omega) (by omega)) i
    rw [e57]
    have := ih (i + 1) (upd f (a + 70 + i) (gA u 57 i)) (by omega) ⟨⟨?_, ?_, ?_, ?_⟩, fun v hv => ?_, fun q hq => ?_, fun q hq => ?_, fun q hq => ?_⟩
    · refine VV.eq ?_ this
      congr 3
      rw [pp_same]
      rfl
    · (repeat (first | rw [upd_ne (by omega)] | rw [upd_eq (by omega)])); exact i1
    · (repeat (first | rw [upd_ne (by omega)] | rw [upd_eq (by omega)])); exact i2
    · (repeat (first | rw [upd_ne (by omega)] | rw [upd_eq (by omega)])); exact i3
    · (repeat (first | rw [upd_ne (by omega)] | rw [upd_eq (by omega)])); exact i4
    · (repeat (first | rw [upd_ne (by omega)] | rw [upd_eq (by omega)])); exact i5 v hv
    · (repeat (first | rw [upd_ne (by omega)] | rw [upd_eq (by omega)])); exact i6 q hq
    · by_cases c : q = i
      · rw [upd_eq (by omega), c]
      · rw [upd_ne (by omega)]; exact i7 q (by omega)
    · (repeat (first | rw [upd_ne (by omega)] | rw [upd_eq (by omega)])); exact i8 q hq
set_option maxHeartbeats 16000000 in
theorem m_img_loop1 {w : Int32} {a : Nat} (ha : a + 230 ≤ 460) {u0 : Sg} (e0 : ∀ k, k ≠ 61 → k ≠ 62 → gA u0 k = gA u k) : ∀ k i f, i + k = 6 → IM u a i 0 f → V 174 (74, [some (.ref 41), some (.int w), some (.int (nI a)), some (.int (nI i))], [], pA u0 61 f) (fun r t => r = some (.int 1) ∧ ∃ f, t = pA u0 61 f ∧ IM u a 6 152 f) := by
  intro k
  induction k with
  | zero =>
    intro i f hi I
    ((repeat refine VV.s rfl rfl ?_); (try (conv => arg 3; simp only [Nat.reduceAdd, sto1, sto2, isL, cond_true, cond_false, List.drop_succ_cons, List.drop_zero, List.drop_nil])))
    refine VV.itt (nI_le (a := 6) (by omega) (by omega)) ?_
    ((repeat (fail_if_success show VV _ _ (224, _, _, _) _); refine VV.s rfl rfl ?_); (try (conv => arg 3; simp only [Nat.reduceAdd, sto1, sto2, isL, cond_true, cond_false, List.drop_succ_cons, List.drop_zero, List.drop_nil])))
    exact m_img_loop2 ha e0 152 0 f (by omega) (by rw [show 6 = i by omega]; exact I)
  | succ k ih =>
    intro i f hi I
    obtain ⟨⟨i1, i2, i3, i4⟩, i5, i6, i7, i8⟩ := I
    have ex : ∀ c, nI a + nI c + nI i = nI (a + c + i) := fun c => by rw [nI_add, nI_add]
    have g : ∀ (f : Nat → Int32) k, k ≠ 61 → k ≠ 62 → gA (pA u0 61 f) k i = gA u k i := fun f k h1 h2 => by rw [gA_pA, if_neg h1, e0 k h1 h2]
    have st : ∀ (c : Nat) (x : Int32), True → True := fun _ _ _ => trivial
    ((repeat refine VV.s rfl rfl ?_); (try (conv => arg 3; simp only [Nat.reduceAdd, sto1, sto2, isL, cond_true, cond_false, List.drop_succ_cons, List.drop_zero, List.drop_nil])))
    refine VV.itf (nI_ge (b := 6) (by omega) (by omega)) ?_
    ((repeat refine VV.s rfl rfl ?_); (try (conv => arg 3; simp only [Nat.reduceAdd, sto1, sto2, isL, cond_true, cond_false, List.drop_succ_cons, List.drop_zero, List.drop_nil])))
    refine VV.iald rfl rfl rfl (show i < 6 by omega) (by decide) ?_
    rw [show nI a + 22 + nI i = nI (a + 22 + i) from ex 22, g _ 43 (by omega) (by omega)]
    refine VV.iast rfl rfl rfl (show a + 22 + i < 460 by omega) (by decide) ?_
    rw [pp_same, show gA (pA u0 61 f) 61 = f from rfl]
    ((repeat refine VV.s rfl rfl ?_); (try (conv => arg 3; simp only [Nat.reduceAdd, sto1, sto2, isL, cond_true, cond_false, List.drop_succ_cons, List.drop_zero, List.drop_nil])))
    refine VV.iald rfl rfl rfl (show i < 6 by omega) (by decide) ?_
    rw [show nI a + 28 + nI i = nI (a + 28 + i) from ex 28, g _ 44 (by omega) (by omega)]
    refine VV.iast rfl rfl rfl (show a + 28 + i < 460 by omega) (by decide) ?_
    rw [pp_same, show ∀ f, gA (pA u0 61 f) 61 = f from fun _ => rfl]
    ((repeat refine VV.s rfl rfl ?_); (try (conv => arg 3; simp only [Nat.reduceAdd, sto1, sto2, isL, cond_true, cond_false, List.drop_succ_cons, List.drop_zero, List.drop_nil])))
    refine VV.iald rfl rfl rfl (show i < 6 by omega) (by decide) ?_
    rw [show nI a + 34 + nI i = nI (a + 34 + i) from ex 34, g _ 45 (by omega) (by omega)]
    refine VV.iast rfl rfl rfl (show a + 34 + i < 460 by omega) (by decide) ?_
    rw [pp_same, show ∀ f, gA (pA u0 61 f) 61 = f from fun _ => rfl]
    ((repeat refine VV.s rfl rfl ?_); (try (conv => arg 3; simp only [Nat.reduceAdd, sto1, sto2, isL, cond_true, cond_false, List.drop_succ_cons, List.drop_zero, List.drop_nil])))
    refine VV.iald rfl rfl rfl (show i < 6 by omega) (by decide) ?_
    rw [show nI a + 40 + nI i = nI (a + 40 + i) from ex 40, g _ 49 (by omega) (by omega)]
    refine VV.iast rfl rfl rfl (show a + 40 + i < 460 by omega) (by decide) ?_
    rw [pp_same, show ∀ f, gA (pA u0 61 f) 61 = f from fun _ => rfl]
    ((repeat refine VV.s rfl rfl ?_); (try (conv => arg 3; simp only [Nat.reduceAdd, sto1, sto2, isL, cond_true, cond_false, List.drop_succ_cons, List.drop_zero, List.drop_nil])))
    refine VV.iald rfl rfl rfl (show i < 6 by omega) (by decide) ?_
    rw [show nI a + 46 + nI i = nI (a + 46 + i) from ex 46, g _ 50 (by omega) (by omega)]
    refine VV.iast rfl rfl rfl (show a + 46 + i < 460 by omega) (by decide) ?_
    rw [pp_same, show ∀ f, gA (pA u0 61 f) 61 = f from fun _ => rfl]
    ((repeat refine VV.s rfl rfl ?_); (try (conv => arg 3; simp only [Nat.reduceAdd, sto1, sto2, isL, cond_true, cond_false, List.drop_succ_cons, List.drop_zero, List.drop_nil])))
    refine VV.iald rfl rfl rfl (show i < 6 by omega) (by decide) ?_
    rw [show nI a + 52 + nI i = nI (a + 52 + i) from ex 52, g _ 51 (by omega) (by omega)]
    refine VV.iast rfl rfl rfl (show a + 52 + i < 460 by omega) (by decide) ?_
    rw [pp_same, show ∀ f, gA (pA u0 61 f) 61 = f from fun _ => rfl]
    ((repeat refine VV.s rfl rfl ?_); (try (conv => arg 3; simp only [Nat.reduceAdd, sto1, sto2, isL, cond_true, cond_false, List.drop_succ_cons, List.drop_zero, List.drop_nil])))
    refine VV.iald rfl rfl rfl (show i < 6 by omega) (by decide) ?_
    rw [show nI a + 58 + nI i = nI (a + 58 + i) from ex 58, g _ 52 (by omega) (by omega)]
    refine VV.iast rfl rfl rfl (show a + 58 + i < 460 by omega) (by decide) ?_
    rw [pp_same, show ∀ f, gA (pA u0 61 f) 61 = f from fun _ => rfl]
    ((repeat refine VV.s rfl rfl ?_); (try (conv => arg 3; simp only [Nat.reduceAdd, sto1, sto2, isL, cond_true, cond_false, List.drop_succ_cons, List.drop_zero, List.drop_nil])))
    refine VV.iald rfl rfl rfl (show i < 6 by omega) (by decide) ?_
    rw [show nI a + 64 + nI i = nI (a + 64 + i) from ex 64, g _ 53 (by omega) (by omega)]
    refine VV.iast rfl rfl rfl (show a + 64 + i < 460 by omega) (by decide) ?_
    rw [pp_same, show ∀ f, gA (pA u0 61 f) 61 = f from fun _ => rfl]
    ((repeat (fail_if_success show VV _ _ (74, _, _, _) _); refine VV.s rfl rfl ?_); (try (conv => arg 3; simp only [Nat.reduceAdd, sto1, sto2, isL, cond_true, cond_false, List.drop_succ_cons, List.drop_zero, List.drop_nil])))
    rw [nI_1]
    refine ih (i + 1) _ (by omega) ⟨⟨?_, ?_, ?_, ?_⟩, fun v hv => ?_, fun q hq => ?_, fun q hq => absurd hq (Nat.not_lt_zero q), fun q hq => ?_⟩
    · (repeat (first | rw [upd_ne (by omega)] | rw [upd_eq (by omega)])); exact i1
    · (repeat (first | rw [upd_ne (by omega)] | rw [upd_eq (by omega)])); exact i2
    · (repeat (first | rw [upd_ne (by omega)] | rw [upd_eq (by omega)])); exact i3
    · (repeat (first | rw [upd_ne (by omega)] | rw [upd_eq (by omega)])); exact i4
    · (repeat (first | rw [upd_ne (by omega)] | rw [upd_eq (by omega)])); exact i5 v hv
    · by_cases c : q = i
      · subst c
        refine ⟨?_, ?_, ?_, ?_, ?_, ?_, ?_, ?_⟩ <;> (repeat (first | rw [upd_ne (by omega)] | rw [upd_eq (by omega)]))
      · obtain ⟨p1, p2, p3, p4, p5, p6, p7, p8⟩ := i6 q (by omega)
        refine ⟨?_, ?_, ?_, ?_, ?_, ?_, ?_, ?_⟩ <;> (repeat (first | rw [upd_ne (by omega)] | rw [upd_eq (by omega)])) <;> assumption
    · (repeat (first | rw [upd_ne (by omega)] | rw [upd_eq (by omega)])); exact i8 q hq
theorem m_image_bad (C : MInv u z) {w : Int32} (h : w < 0 ∨ 1 < w) : MC 174 [some (.ref 41), some (.int w), none, none] u (.int (-2)) (zB z) := by
  ((repeat refine VV.s rfl rfl ?_); (try (conv => arg 3; simp only [Nat.reduceAdd, sto1, sto2, isL, cond_true, cond_false, List.drop_succ_cons, List.drop_zero, List.drop_nil])))
  refine VV.callE rfl rfl rfl rfl (f_inN h) rfl ?_
  refine VV.s rfl rfl ?_
  refine VV.itf (by decide) ?_
  ((repeat refine VV.s rfl rfl ?_); (try (conv => arg 3; simp only [Nat.reduceAdd, sto1, sto2, isL, cond_true, cond_false, List.drop_succ_cons, List.drop_zero, List.drop_nil])))
  refine VV.callE rfl rfl rfl rfl f_bad rfl ?_
  ((repeat refine VV.s rfl rfl ?_); (try (conv => arg 3; simp only [Nat.reduceAdd, sto1, sto2, isL, cond_true, cond_false, List.drop_succ_cons, List.drop_zero, List.drop_nil])))
  exact VV.ret1 rfl ⟨rfl, C.bad, (Agr.rf).A (by decide)⟩
theorem MInv.img {t : Sg} (C : MInv u z) {o1 o2 : Option Hs} (a : ∀ k, k ≠ 61 → k ≠ 62 → gA t k = gA u k) (b : ∀ j, gI t 41 j = gI u 41 j) (c : ∀ j, gJ t 41 j = gJ u 41 j) (h1 : ImM t 0 o1) (h2 : ImM t 1 o2) : MInv t (z.1, (o1, o2), z.2.2) := by
  obtain ⟨h1', -, -, ⟨h4, h5⟩, ⟨h6, h7⟩, h8, h9, h10⟩ := C
  exact ⟨h1'.keep2 (fun k hk => a k (by omega) (by omega)) (fun j hj => b j), h1, h2, ⟨by rw [b]; exact h4, fun j hj => by rw [a 54 (by omega) (by omega)]; exact h5 j hj⟩, ⟨by rw [c]; exact h6, by rw [c]; exact h7⟩, by rw [a 42 (by omega) (by omega)]; exact h8, by rw [a 42 (by omega) (by omega)]; exact h9, by rw [a 42 (by omega) (by omega)]; exact h10⟩
set_option maxHeartbeats 8000000 in
theorem m_image_ok (C : MInv u z) (G : GoodH z.1) {i : Nat} (hi : i ≤ 1) (h : ¬ (nI i < 0 ∨ 1 < nI i)) : V 174 (0, [some (.ref 41), some (.int (nI i)), none, none], [], u) (fun r t => r = some (.int 1) ∧ ∃ f, t = pA (pA u 62 (upd (gA u 62) i 1)) 61 f ∧ IM u (230 * i) 6 152 f) := by
  have e230 : (230 : Int32) * nI i = nI (230 * i) := by rw [show (230 : Int32) = nI 230 from rfl, pk_mul]
  have hN := C.1.1.1
  have g : ∀ k, k ≠ 61 → k ≠ 62 → gA (pA u 62 (upd (gA u 62) i 1)) k = gA u k := fun k h1 h2 => by rw [gA_pA, if_neg h2]
  ((repeat refine VV.s rfl rfl ?_); (try (conv => arg 3; simp only [Nat.reduceAdd, sto1, sto2, isL, cond_true, cond_false, List.drop_succ_cons, List.drop_zero, List.drop_nil])))
  refine VV.callE rfl rfl rfl rfl (f_inY h) rfl ?_
  refine VV.s rfl rfl ?_
  refine VV.itt (by decide) ?_
  ((repeat (fail_if_success show VV _ _ (26, _, _, _) _); refine VV.s rfl rfl ?_); (try (conv => arg 3; simp only [Nat.reduceAdd, sto1, sto2, isL, cond_true, cond_false, List.drop_succ_cons, List.drop_zero, List.drop_nil])))
  rw [e230]
  refine VV.iast rfl rfl rfl (show i < 2 by omega) (by decide) ?_
  ((repeat refine VV.s rfl rfl ?_); (try (conv => arg 3; simp only [Nat.reduceAdd, sto1, sto2, isL, cond_true, cond_false, List.drop_succ_cons, List.drop_zero, List.drop_nil])))
  refine VV.iast rfl rfl rfl (show 230 * i < 460 by omega) (by decide) ?_
  ((repeat refine VV.s rfl rfl ?_); (try (conv => arg 3; simp only [Nat.reduceAdd, sto1, sto2, isL, cond_true, cond_false, List.drop_succ_cons, List.drop_zero, List.drop_nil])))
  rw [show nI (230 * i) + 1 = nI (230 * i + 1) from nI_1 _]
  refine VV.iast rfl rfl rfl (show 230 * i + 1 < 460 by omega) (by decide) ?_
  rw [pp_same, show ∀ f, gA (pA (pA u 62 (upd (gA u 62) i 1)) 61 f) 61 = f from fun _ => rfl]
  ((repeat refine VV.s rfl rfl ?_); (try (conv => arg 3; simp only [Nat.reduceAdd, sto1, sto2, isL, cond_true, cond_false, List.drop_succ_cons, List.drop_zero, List.drop_nil])))
  rw [show nI (230 * i) + 2 = nI (230 * i + 2) from add_nI _ 2]
  refine VV.iast rfl rfl rfl (show 230 * i + 2 < 460 by omega) (by decide) ?_
  rw [pp_same, show ∀ f, gA (pA (pA u 62 (upd (gA u 62) i 1)) 61 f) 61 = f from fun _ => rfl]
  ((repeat refine VV.s rfl rfl ?_); (try (conv => arg 3; simp only [Nat.reduceAdd, sto1, sto2, isL, cond_true, cond_false, List.drop_succ_cons, List.drop_zero, List.drop_nil])))
  rw [show nI (230 * i) + 3 = nI (230 * i + 3) from add_nI _ 3]
  refine VV.call rfl rfl rfl rfl (f_lays (to := 61) (a := 230 * i + 3) (Or.inr (Or.inr rfl)) (show 230 * i + 3 + 19 ≤ 460 by omega)) (fun r t q => ?_)
  obtain ⟨rfl, f, rfl, L⟩ := q
  rw [pp_same]
  ((repeat (fail_if_success show VV _ _ (74, _, _, _) _); refine VV.s rfl rfl ?_); (try (conv => arg 3; simp only [Nat.reduceAdd, sto1, sto2, isL, cond_true, cond_false, List.drop_succ_cons, List.drop_zero, List.drop_nil])))
  refine m_img_loop1 (u := u) (by omega) g 6 0 f (by omega) ?_
  obtain ⟨l1, l2, l3⟩ := L
  refine ⟨⟨?_, ?_, ?_, l1⟩, fun v hv => ?_, fun k hk => absurd hk (Nat.not_lt_zero k), fun k hk => absurd hk (Nat.not_lt_zero k), fun q hq => ?_⟩
  · rw [l3 _ (by omega), show ∀ f, gA (pA (pA u 62 (upd (gA u 62) i 1)) 61 f) 61 = f from fun _ => rfl]
    (repeat (first | rw [upd_ne (by omega)] | rw [upd_eq (by omega)])); rfl
  · rw [l3 _ (by omega), show ∀ f, gA (pA (pA u 62 (upd (gA u 62) i 1)) 61 f) 61 = f from fun _ => rfl]
    (repeat (first | rw [upd_ne (by omega)] | rw [upd_eq (by omega)])); rfl
  · rw [l3 _ (by omega), show ∀ f, gA (pA (pA u 62 (upd (gA u 62) i 1)) 61 f) 61 = f from fun _ => rfl]
    (repeat (first | rw [upd_ne (by omega)] | rw [upd_eq (by omega)])); rfl
  · exact l2 v hv
  · rw [l3 _ (by omega), show ∀ f, gA (pA (pA u 62 (upd (gA u 62) i 1)) 61 f) 61 = f from fun _ => rfl]
    (repeat (first | rw [upd_ne (by omega)] | rw [upd_eq (by omega)])); rfl
theorem IRep.off {a : Nat} {h : Hs} {t : Sg} (G : GoodH h) (I : IRep u a h) (e : ∀ q, a ≤ q → q < a + 222 → gA t 61 q = gA u 61 q) : IRep t a h := by
  have h6 := G.1.1
  have hn6 := G.1.2.2.1
  have hu8 := G.1.2.2.2
  obtain ⟨⟨i1, i2, i3, i4⟩, i5, i6, i7⟩ := I
  refine ⟨⟨by rw [e _ (by omega) (by omega)]; exact i1, by rw [e _ (by omega) (by omega)]; exact i2, by rw [e _ (by omega) (by omega)]; exact i3, by rw [e _ (by omega) (by omega)]; exact i4⟩, fun v hv => ?_, fun i c hi hc => by rw [e _ (by omega) (by omega)]; exact i6 i c hi hc, fun k hk => ⟨by rw [e _ (by omega) (by omega)]; exact (i7 k hk).1, fun v hv => ?_⟩⟩
  · rw [e _ (by omega) (by omega), e _ (by omega) (by omega), e _ (by omega) (by omega), e _ (by omega) (by omega), e _ (by omega) (by omega), e _ (by omega) (by omega)]
    exact i5 v hv
  · rw [e _ (by omega) (by omega), e _ (by omega) (by omega), e _ (by omega) (by omega)]
    exact (i7 k hk).2 v hv
theorem m_image_0 (C : MInv u z) (G : GoodZ z) : MC 174 [some (.ref 41), some (.int (nI 0)), none, none] u (.int 1) (z.1, (some z.1, z.2.1.2), z.2.2) := by
  refine VV.mono (m_image_ok C G.1 (i := 0) (by omega) (by decide)) (fun r t q => ?_)
  obtain ⟨rfl, f, rfl, I⟩ := q
  refine ⟨rfl, C.img (fun k h1 h2 => by rw [gA_pA, if_neg h1, gA_pA, if_neg h2]) (fun j => rfl) (fun j => rfl) ⟨rfl, I.rep C.1 G.1 rfl⟩ ?_, ((Agr.rf).A (by decide)).A (by decide)⟩
  have h3 := C.2.2.1
  have g3 := G.2.2.1
  revert h3 g3
  cases z.2.1.2 with
  | none => exact fun h3 _ => h3
  | some q => exact fun h3 g3 => ⟨h3.1, IRep.off g3 h3.2 (fun q h1 h2 => I.2.2.2.2 q (by omega))⟩
theorem m_image_1 (C : MInv u z) (G : GoodZ z) : MC 174 [some (.ref 41), some (.int (nI 1)), none, none] u (.int 1) (z.1, (z.2.1.1, some z.1), z.2.2) := by
  refine VV.mono (m_image_ok C G.1 (i := 1) (by omega) (by decide)) (fun r t q => ?_)
  obtain ⟨rfl, f, rfl, I⟩ := q
  refine ⟨rfl, C.img (fun k h1 h2 => by rw [gA_pA, if_neg h1, gA_pA, if_neg h2]) (fun j => rfl) (fun j => rfl) ?_ ⟨rfl, I.rep C.1 G.1 rfl⟩, ((Agr.rf).A (by decide)).A (by decide)⟩
  have h3 := C.2.1
  have g3 := G.2.1
  revert h3 g3
  cases z.2.1.1 with
  | none => exact fun h3 _ => h3
  | some q => exact fun h3 g3 => ⟨h3.1, IRep.off g3 h3.2 (fun q h1 h2 => I.2.2.2.2 q (by omega))⟩
end M9
