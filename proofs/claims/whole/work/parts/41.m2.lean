/-! ===== the reference: what is written ===== -/
section M2
variable {u : Sg} {z : Zs}
theorem MRep.setE {t : Sg} {h : Hs} (R : MRep u h) {e : Nat} {ho us : Nat → Nat} {sl : Nat → Int32} (i1 : gI t 41 1 = gI u 41 1) (i2 : gI t 41 2 = nI e) (i3 : gI t 41 3 = gI u 41 3) (i23 : gI t 41 23 = gI u 41 23) (a : ∀ k, k ≠ 46 → k ≠ 47 → k ≠ 48 → gA t k = gA u k) (a4 : ∀ v, v < hn h → gA t 46 v = cI (ho v)) (a5 : ∀ v, v < hn h → gA t 47 v = nI (us v)) (a6 : ∀ v, v < hn h → gA t 48 v = sl v) : MRep t (hE h e ho us sl) := by
  refine ⟨⟨i1.trans R.1.1, i2, i3.trans R.1.2.2.1, i23.trans R.1.2.2.2⟩, fun v hv => ?_, fun i c hi hc => by rw [a (49 + c) (by omega) (by omega) (by omega)]; exact R.2.2.1 i c hi hc, fun k hk => by rw [a 57 (by omega) (by omega) (by omega)]; exact R.2.2.2 k hk⟩
  obtain ⟨r1, r2, r3, -⟩ := R.2.1 v hv
  rw [a 43 (by omega) (by omega) (by omega), a 44 (by omega) (by omega) (by omega), a 45 (by omega) (by omega) (by omega)]
  exact ⟨r1, r2, r3, a4 v hv, a5 v hv, a6 v hv⟩
theorem f_begin {h : Hs} (R : MRep u h) : V 101 (0, [some (.ref 41)], [], u) (fun r t => r = none ∧ MRep t (h0 h) ∧ MF u t ∧ ∀ k, gA t k = gA u k) := by
  ((repeat refine VV.s rfl rfl ?_); (try (conv => arg 3; simp only [Nat.reduceAdd, sto1, sto2, isL, cond_true, cond_false, List.drop_succ_cons, List.drop_zero, List.drop_nil])))
  refine VV.ret0 rfl ⟨rfl, ⟨⟨rfl, rfl, rfl, rfl⟩, fun v hv => absurd hv (Nat.not_lt_zero v), fun i c hi => absurd hi (Nat.not_lt_zero i), fun k hk => absurd hk (Nat.not_lt_zero k)⟩, ?_, fun k => rfl⟩
  exact (((MF.rf.I (by omega)).I (by omega)).I (by omega)).I (by omega)
set_option maxHeartbeats 4000000 in
theorem f_addOne {h : Hs} (R : MRep u h) (h5 : hn h < 6) {k s w : Nat} : V 104 (0, [some (.ref 41), some (.int (nI k)), some (.int (nI s)), some (.int (nI w))], [], u) (fun r t => r = some (.int (nI (hn h))) ∧ MRep t (hOne h k s w) ∧ MF u t) := by
  have hN := R.1.1
  ((repeat refine VV.s rfl rfl ?_); (try (conv => arg 3; simp only [Nat.reduceAdd, sto1, sto2, isL, cond_true, cond_false, List.drop_succ_cons, List.drop_zero, List.drop_nil])))
  rw [hN]
  refine VV.iast rfl rfl rfl (show (hn h) < 6 by omega) (by decide) ?_
  ((repeat refine VV.s rfl rfl ?_); (try (conv => arg 3; simp only [Nat.reduceAdd, sto1, sto2, isL, cond_true, cond_false, List.drop_succ_cons, List.drop_zero, List.drop_nil])))
  rw [show gI (pA u 43 (upd (gA u 43) (hn h) (nI k))) 41 1 = nI (hn h) from hN]
  refine VV.iast rfl rfl rfl (show (hn h) < 6 by omega) (by decide) ?_
  ((repeat refine VV.s rfl rfl ?_); (try (conv => arg 3; simp only [Nat.reduceAdd, sto1, sto2, isL, cond_true, cond_false, List.drop_succ_cons, List.drop_zero, List.drop_nil])))
  rw [show ∀ a b, gI (pA (pA u 43 a) 44 b) 41 1 = nI (hn h) from fun _ _ => hN]
  refine VV.iast rfl rfl rfl (show (hn h) < 6 by omega) (by decide) ?_
  ((repeat refine VV.s rfl rfl ?_); (try (conv => arg 3; simp only [Nat.reduceAdd, sto1, sto2, isL, cond_true, cond_false, List.drop_succ_cons, List.drop_zero, List.drop_nil])))
  rw [show ∀ a b c, gI (pA (pA (pA u 43 a) 44 b) 45 c) 41 1 = nI (hn h) from fun _ _ _ => hN]
  refine VV.iast rfl rfl rfl (show (hn h) < 6 by omega) (by decide) ?_
  ((repeat refine VV.s rfl rfl ?_); (try (conv => arg 3; simp only [Nat.reduceAdd, sto1, sto2, isL, cond_true, cond_false, List.drop_succ_cons, List.drop_zero, List.drop_nil])))
  rw [show ∀ a b c d, gI (pA (pA (pA (pA u 43 a) 44 b) 45 c) 46 d) 41 1 = nI (hn h) from fun _ _ _ _ => hN]
  refine VV.iast rfl rfl rfl (show (hn h) < 6 by omega) (by decide) ?_
  ((repeat refine VV.s rfl rfl ?_); (try (conv => arg 3; simp only [Nat.reduceAdd, sto1, sto2, isL, cond_true, cond_false, List.drop_succ_cons, List.drop_zero, List.drop_nil])))
  rw [show ∀ a b c d e, gI (pA (pA (pA (pA (pA u 43 a) 44 b) 45 c) 46 d) 47 e) 41 1 = nI (hn h) from fun _ _ _ _ _ => hN]
  refine VV.iast rfl rfl rfl (show (hn h) < 6 by omega) (by decide) ?_
  ((repeat refine VV.s rfl rfl ?_); (try (conv => arg 3; simp only [Nat.reduceAdd, sto1, sto2, isL, cond_true, cond_false, List.drop_succ_cons, List.drop_zero, List.drop_nil])))
  refine VV.ret1 rfl ⟨?_, ?_, ?_⟩
  · show some (Value.int (gI u 41 1 + 1 - 1)) = _
    rw [hN, nI_1, nI_pred]
  · refine ⟨⟨?_, R.1.2.1, R.1.2.2.1, rfl⟩, fun v hv => ?_, fun i c hi hc => ?_, fun k hk => absurd hk (Nat.not_lt_zero k)⟩
    · show gI u 41 1 + 1 = nI (hn h + 1)
      rw [hN, nI_1]
    · have hv : v < hn h + 1 := hv
      show upd _ _ _ v = nI (updN _ _ _ v) ∧ upd _ _ _ v = nI (updN _ _ _ v) ∧ upd _ _ _ v = nI (updN _ _ _ v) ∧ upd _ _ _ v = cI (updN _ _ _ v) ∧ upd _ _ _ v = nI (updN _ _ _ v) ∧ upd _ _ _ v = updN _ _ _ v
      simp only [upd_at, updN_at]
      by_cases c : v = hn h
      · simp only [if_pos c]
        refine ⟨?_, ?_, ?_, ?_, ?_, ?_⟩ <;> first | trivial | rfl | exact (cI_s _).symm
      · simp only [if_neg c]
        exact R.2.1 v (by omega)
    · simp only [gA_pI, gA_pA]
      rw [if_neg (by omega), if_neg (by omega), if_neg (by omega), if_neg (by omega), if_neg (by omega), if_neg (by omega)]
      exact R.2.2.1 i c hi hc
  · exact (((((((MF.rf.A (by omega)).A (by omega)).A (by omega)).A (by omega)).A (by omega)).A (by omega)).I (by omega)).I (by omega)
theorem f_leaves {h : Hs} (R : MRep u h) (G : GoodH h) {v : Nat} (hv : v < hn h) : V 137 (0, [some (.ref 41), some (.int (nI v))], [], u) (fun r t => r = none ∧ MRep t (hLv h v) ∧ MF u t) := by
  have h6 := G.1.1
  ((repeat refine VV.s rfl rfl ?_); (try (conv => arg 3; simp only [Nat.reduceAdd, sto1, sto2, isL, cond_true, cond_false, List.drop_succ_cons, List.drop_zero, List.drop_nil])))
  refine VV.iast rfl rfl rfl (show v < 6 by omega) (by decide) ?_
  ((repeat refine VV.s rfl rfl ?_); (try (conv => arg 3; simp only [Nat.reduceAdd, sto1, sto2, isL, cond_true, cond_false, List.drop_succ_cons, List.drop_zero, List.drop_nil])))
  refine VV.iast rfl rfl rfl (show v < 6 by omega) (by decide) ?_
  ((repeat refine VV.s rfl rfl ?_); (try (conv => arg 3; simp only [Nat.reduceAdd, sto1, sto2, isL, cond_true, cond_false, List.drop_succ_cons, List.drop_zero, List.drop_nil])))
  refine VV.ret0 rfl ⟨rfl, ?_, (MF.rf.A (by omega)).A (by omega)⟩
  show MRep _ (hE h (hev h) _ _ _)
  refine R.setE rfl R.1.2.1 rfl rfl (fun k h1 h2 h3 => by rw [gA_pA, if_neg h2, gA_pA, if_neg h1]) (fun w hw => ?_) (fun w hw => ?_) (fun w hw => (R.2.1 w hw).2.2.2.2.2)
  · show upd _ v _ w = _
    rw [upd_at, updN_at]
    split
    · rfl
    · exact (R.2.1 w hw).2.2.2.1
  · show upd _ v _ w = _
    rw [upd_at, updN_at]
    split
    · rfl
    · exact (R.2.1 w hw).2.2.2.2.1
set_option maxHeartbeats 4000000 in
theorem f_lends {h : Hs} (R : MRep u h) (G : GoodH h) {v p : Nat} (hv : v < hn h) (hp : p < hn h) : V 138 (0, [some (.ref 41), some (.int (nI v)), some (.int (nI p)), none], [], u) (fun r t => r = some (.int (cI (voH h p))) ∧ MRep t (hGv h v p) ∧ MF u t) := by
  have h6 := G.1.1
  ((repeat refine VV.s rfl rfl ?_); (try (conv => arg 3; simp only [Nat.reduceAdd, sto1, sto2, isL, cond_true, cond_false, List.drop_succ_cons, List.drop_zero, List.drop_nil])))
  refine VV.callE rfl rfl rfl rfl (f_voiceOf R G (p := p) (by omega)) rfl ?_
  ((repeat refine VV.s rfl rfl ?_); (try (conv => arg 3; simp only [Nat.reduceAdd, sto1, sto2, isL, cond_true, cond_false, List.drop_succ_cons, List.drop_zero, List.drop_nil])))
  unfold hGv
  rcases voH_spec h p with ⟨h1, -⟩ | ⟨w, hw, h1, -⟩
  · rw [h1]
    refine VV.itt cI_0 ?_
    ((repeat refine VV.s rfl rfl ?_); (try (conv => arg 3; simp only [Nat.reduceAdd, sto1, sto2, isL, cond_true, cond_false, List.drop_succ_cons, List.drop_zero, List.drop_nil])))
    refine VV.iast rfl rfl rfl (show v < 6 by omega) (by decide) ?_
    ((repeat refine VV.s rfl rfl ?_); (try (conv => arg 3; simp only [Nat.reduceAdd, sto1, sto2, isL, cond_true, cond_false, List.drop_succ_cons, List.drop_zero, List.drop_nil])))
    refine VV.iast rfl rfl rfl (show v < 6 by omega) (by decide) ?_
    ((repeat refine VV.s rfl rfl ?_); (try (conv => arg 3; simp only [Nat.reduceAdd, sto1, sto2, isL, cond_true, cond_false, List.drop_succ_cons, List.drop_zero, List.drop_nil])))
    refine VV.ret1 rfl ⟨rfl, ?_, (MF.rf.A (by omega)).A (by omega)⟩
    show MRep _ (hE h (hev h) _ _ _)
    refine R.setE rfl R.1.2.1 rfl rfl (fun k h1 h2 h3 => by rw [gA_pA, if_neg h2, gA_pA, if_neg h1]) (fun x hx => ?_) (fun x hx => ?_) (fun x hx => (R.2.1 x hx).2.2.2.2.2)
    · show upd _ v _ x = _
      rw [upd_at, updN_at]
      split
      · rw [cI_s]
      · exact (R.2.1 x hx).2.2.2.1
    · show upd _ v _ x = _
      rw [upd_at, updN_at]
      split
      · rfl
      · exact (R.2.1 x hx).2.2.2.2.1
  · rw [h1, cI_s]
    refine VV.itf (nI_ne1 (by omega)) ?_
    ((repeat refine VV.s rfl rfl ?_); (try (conv => arg 3; simp only [Nat.reduceAdd, sto1, sto2, isL, cond_true, cond_false, List.drop_succ_cons, List.drop_zero, List.drop_nil])))
    refine VV.call rfl rfl rfl rfl (f_leaves R G hw) (fun r t q => ?_)
    obtain ⟨rfl, R2, A2⟩ := q
    ((repeat refine VV.s rfl rfl ?_); (try (conv => arg 3; simp only [Nat.reduceAdd, sto1, sto2, isL, cond_true, cond_false, List.drop_succ_cons, List.drop_zero, List.drop_nil])))
    refine VV.iast rfl rfl rfl (show v < 6 by omega) (by decide) ?_
    ((repeat refine VV.s rfl rfl ?_); (try (conv => arg 3; simp only [Nat.reduceAdd, sto1, sto2, isL, cond_true, cond_false, List.drop_succ_cons, List.drop_zero, List.drop_nil])))
    refine VV.iast rfl rfl rfl (show v < 6 by omega) (by decide) ?_
    ((repeat refine VV.s rfl rfl ?_); (try (conv => arg 3; simp only [Nat.reduceAdd, sto1, sto2, isL, cond_true, cond_false, List.drop_succ_cons, List.drop_zero, List.drop_nil])))
    refine VV.ret1 rfl ⟨rfl, ?_, (A2.A (by omega)).A (by omega)⟩
    show MRep _ (hE (hLv h w) (hev (hLv h w)) _ _ _)
    refine R2.setE rfl R2.1.2.1 rfl rfl (fun k h1 h2 h3 => by rw [gA_pA, if_neg h2, gA_pA, if_neg h1]) (fun x hx => ?_) (fun x hx => ?_) (fun x hx => (R2.2.1 x hx).2.2.2.2.2)
    · show upd _ v _ x = _
      rw [upd_at, updN_at]
      split
      · rw [cI_s]
      · exact (R2.2.1 x hx).2.2.2.1
    · show upd _ v _ x = _
      rw [upd_at, updN_at]
      split
      · rfl
      · exact (R2.2.1 x hx).2.2.2.2.1
theorem mvNx {t t2 : Sg} {h : Hs} {i : Nat} (R : MRep t (hMi h i)) (gi : ∀ j, gI t2 41 j = gI t 41 j) (ga : ∀ c, c ≠ 47 → c ≠ 48 → gA t2 c = gA t c) (g5 : ∀ x, gA t2 47 x = if x = i then nI (evU h i) else gA t 47 x) (g6 : ∀ x, gA t2 48 x = if x = i then evS h i else gA t 48 x) : MRep t2 (hMi h (i + 1)) := by
  refine ⟨⟨by rw [gi]; exact R.1.1, by rw [gi]; exact R.1.2.1, by rw [gi]; exact R.1.2.2.1, by rw [gi]; exact R.1.2.2.2⟩, fun v hv => ?_, fun i c hi hc => by rw [ga (49 + c) (by omega) (by omega)]; exact R.2.2.1 i c hi hc, fun k hk => by rw [ga 57 (by omega) (by omega)]; exact R.2.2.2 k hk⟩
  obtain ⟨q1, q2, q3, q4, q5, q6⟩ := R.2.1 v hv
  rw [ga 43 (by omega) (by omega), ga 44 (by omega) (by omega), ga 45 (by omega) (by omega), ga 46 (by omega) (by omega), g5, g6]
  refine ⟨q1, q2, q3, q4, ?_, ?_⟩
  · show _ = nI (if v < i + 1 then evU h v else hus h v)
    by_cases c : v = i
    · rw [if_pos c, if_pos (by omega), c]
    · rw [if_neg c, q5]
      show nI (if v < i then evU h v else hus h v) = _
      by_cases c2 : v < i
      · rw [if_pos c2, if_pos (by omega)]
      · rw [if_neg c2, if_neg (by omega)]
  · show _ = (if v < i + 1 then evS h v else hsl h v)
    by_cases c : v = i
    · rw [if_pos c, if_pos (by omega), c]
    · rw [if_neg c, q6]
      show (if v < i then evS h v else hsl h v) = _
      by_cases c2 : v < i
      · rw [if_pos c2, if_pos (by omega)]
      · rw [if_neg c2, if_neg (by omega)]
theorem add0 (x : Int32) : x + 0 = x := Int32.add_zero x
set_option maxHeartbeats 8000000 in
theorem f_pass_loop {h : Hs} (G : GoodH h) (h9 : hev h < 999) : ∀ k i a d t, i + k = hn h → MRep t (hMi h i) → MF u t → V 139 (14, [some (.ref 41), some (.int a), some (.int (nI i)), d], [], t) (fun r t => r = some (.int (evT h k i a)) ∧ MRep t (hE h (hev h + 1) (hho h) (evU h) (evS h)) ∧ MF u t) := by
  have h6 := G.1.1
  intro k
  induction k with
  | zero =>
    intro i a d t hi R A
    have hN : gI t 41 1 = nI (hn h) := R.1.1
    ((repeat refine VV.s rfl rfl ?_); (try (conv => arg 3; simp only [Nat.reduceAdd, sto1, sto2, isL, cond_true, cond_false, List.drop_succ_cons, List.drop_zero, List.drop_nil])))
    refine VV.itt (by rw [hN]; exact nI_le (by omega) (by omega)) ?_
    ((repeat refine VV.s rfl rfl ?_); (try (conv => arg 3; simp only [Nat.reduceAdd, sto1, sto2, isL, cond_true, cond_false, List.drop_succ_cons, List.drop_zero, List.drop_nil])))
    refine VV.ret1 rfl ⟨rfl, ?_, A.I (by omega)⟩
    refine MRep.setE (u := t) (h := hMi h i) R rfl ?_ rfl rfl (fun _ _ _ _ => rfl) (fun v hv => (R.2.1 v hv).2.2.2.1) (fun v hv => ?_) (fun v hv => ?_)
    · show gI t 41 2 + 1 = nI (hev h + 1)
      rw [R.1.2.1, nI_1]; rfl
    · have hv : v < hn h := hv
      have := (R.2.1 v hv).2.2.2.2.1
      have e : hus (hMi h i) v = evU h v := if_pos (by omega)
      rw [e] at this
      exact this
    · have hv : v < hn h := hv
      have := (R.2.1 v hv).2.2.2.2.2
      have e : hsl (hMi h i) v = evS h v := if_pos (by omega)
      rw [e] at this
      exact this
  | succ k ih =>
    intro i a d t hi R A
    have hN : gI t 41 1 = nI (hn h) := R.1.1
    obtain ⟨r1, r2, r3, r4, r5, r6⟩ := R.2.1 i (show i < hn h by omega)
    have r1 : gA t 43 i = nI (hkd h i) := r1
    have r4 : gA t 46 i = cI (hho h i) := r4
    have r5 : gA t 47 i = nI (hus h i) := r5.trans (congrArg nI (if_neg (Nat.lt_irrefl i)))
    have r6 : gA t 48 i = hsl h i := r6.trans (if_neg (Nat.lt_irrefl i))
    obtain ⟨g1, -⟩ := G.2.1 i (show i < hn h by omega)
    obtain ⟨g4, g5⟩ := G.2.2.1.1 i (show i < hn h by omega)
    ((repeat refine VV.s rfl rfl ?_); (try (conv => arg 3; simp only [Nat.reduceAdd, sto1, sto2, isL, cond_true, cond_false, List.drop_succ_cons, List.drop_zero, List.drop_nil])))
    refine VV.itf (by rw [hN]; exact nI_ge (by omega) (by omega)) ?_
    ((repeat refine VV.s rfl rfl ?_); (try (conv => arg 3; simp only [Nat.reduceAdd, sto1, sto2, isL, cond_true, cond_false, List.drop_succ_cons, List.drop_zero, List.drop_nil])))
    refine VV.iald rfl rfl rfl (show i < 6 by omega) (by decide) ?_
    ((repeat refine VV.s rfl rfl ?_); (try (conv => arg 3; simp only [Nat.reduceAdd, sto1, sto2, isL, cond_true, cond_false, List.drop_succ_cons, List.drop_zero, List.drop_nil])))
    rw [r4, evT]
    refine VV.ite (fun q => ?_) (fun q => ?_)
    · rw [cI_none (by omega)] at q
      ((repeat (fail_if_success show VV _ _ (14, _, _, _) _); refine VV.s rfl rfl ?_); (try (conv => arg 3; simp only [Nat.reduceAdd, sto1, sto2, isL, cond_true, cond_false, List.drop_succ_cons, List.drop_zero, List.drop_nil])))
      rw [nI_1, if_pos (Or.inl q)]
      have eu : evU h i = hus h i := if_pos q
      have es : evS h i = hsl h i := if_pos (Or.inl q)
      refine ih (i + 1) a _ t (by omega) (mvNx R (t2 := t) (fun _ => rfl) (fun _ _ _ => rfl) (fun x => ?_) (fun x => ?_)) A
      · by_cases cx : x = i
        · rw [if_pos cx, eu, cx]; exact r5
        · rw [if_neg cx]
      · by_cases cx : x = i
        · rw [if_pos cx, es, cx]; exact r6
        · rw [if_neg cx]
    · rw [cI_none (by omega)] at q
      have eu : evU h i = hus h i + 1 := if_neg q
      ((repeat refine VV.s rfl rfl ?_); (try (conv => arg 3; simp only [Nat.reduceAdd, sto1, sto2, isL, cond_true, cond_false, List.drop_succ_cons, List.drop_zero, List.drop_nil])))
      refine VV.iald rfl rfl rfl (show i < 6 by omega) (by decide) ?_
      ((repeat refine VV.s rfl rfl ?_); (try (conv => arg 3; simp only [Nat.reduceAdd, sto1, sto2, isL, cond_true, cond_false, List.drop_succ_cons, List.drop_zero, List.drop_nil])))
      rw [r4]
      have rest : ∀ (x : Int32) (d : Option Value), hsl h i + x = evS h i → V 139 (61, [some (.ref 41), some (.int a), some (.int (nI i)), d], [.int x], t) (fun r t => r = some (.int (evT h k (i + 1) (a + x))) ∧ MRep t (hE h (hev h + 1) (hho h) (evU h) (evS h)) ∧ MF u t) := by
        intro x d ex
        ((repeat refine VV.s rfl rfl ?_); (try (conv => arg 3; simp only [Nat.reduceAdd, sto1, sto2, isL, cond_true, cond_false, List.drop_succ_cons, List.drop_zero, List.drop_nil])))
        refine VV.iald rfl rfl rfl (show i < 6 by omega) (by decide) ?_
        ((repeat refine VV.s rfl rfl ?_); (try (conv => arg 3; simp only [Nat.reduceAdd, sto1, sto2, isL, cond_true, cond_false, List.drop_succ_cons, List.drop_zero, List.drop_nil])))
        refine VV.iast rfl rfl rfl (show i < 6 by omega) (by decide) ?_
        ((repeat refine VV.s rfl rfl ?_); (try (conv => arg 3; simp only [Nat.reduceAdd, sto1, sto2, isL, cond_true, cond_false, List.drop_succ_cons, List.drop_zero, List.drop_nil])))
        refine VV.iald rfl rfl rfl (show i < 6 by omega) (by decide) ?_
        ((repeat refine VV.s rfl rfl ?_); (try (conv => arg 3; simp only [Nat.reduceAdd, sto1, sto2, isL, cond_true, cond_false, List.drop_succ_cons, List.drop_zero, List.drop_nil])))
        refine VV.iast rfl rfl rfl (show i < 6 by omega) (by decide) ?_
        ((repeat (fail_if_success show VV _ _ (14, _, _, _) _); refine VV.s rfl rfl ?_); (try (conv => arg 3; simp only [Nat.reduceAdd, sto1, sto2, isL, cond_true, cond_false, List.drop_succ_cons, List.drop_zero, List.drop_nil])))
        rw [nI_1]
        refine ih (i + 1) _ _ _ (by omega) (mvNx R (fun _ => rfl) (fun c h5 h6 => ?_) (fun y => ?_) (fun y => ?_)) ((A.A (by omega)).A (by omega))
        · rw [gA_pA, if_neg h5, gA_pA, if_neg h6]
        · show upd _ i _ y = _
          rw [upd_at, eu, ← nI_1, ← r5]
          rfl
        · show upd _ i _ y = _
          rw [upd_at, r6, ex]
      refine VV.ite (fun q2 => ?_) (fun q2 => ?_)
      · rw [cI_nI (by omega) (by omega)] at q2
        ((repeat refine VV.s rfl rfl ?_); (try (conv => arg 3; simp only [Nat.reduceAdd, sto1, sto2, isL, cond_true, cond_false, List.drop_succ_cons, List.drop_zero, List.drop_nil])))
        refine VV.iald rfl rfl rfl (show i < 6 by omega) (by decide) ?_
        ((repeat refine VV.s rfl rfl ?_); (try (conv => arg 3; simp only [Nat.reduceAdd, sto1, sto2, isL, cond_true, cond_false, List.drop_succ_cons, List.drop_zero, List.drop_nil])))
        refine VV.iald rfl rfl rfl (show i < 6 by omega) (by decide) ?_
        rw [r1, r5]
        refine VV.callE rfl rfl rfl rfl (f_slipBy g1 (by omega)) rfl ?_
        have nq : ¬ (hho h i = 0 ∨ hho h i = i + 1) := fun e => e.elim q q2
        rw [if_neg nq]
        exact rest _ _ (if_neg nq).symm
      · rw [cI_nI (by omega) (by omega)] at q2
        have q2 := Classical.not_not.mp q2
        ((repeat (fail_if_success show VV _ _ (61, _, _, _) _); refine VV.s rfl rfl ?_); (try (conv => arg 3; simp only [Nat.reduceAdd, sto1, sto2, isL, cond_true, cond_false, List.drop_succ_cons, List.drop_zero, List.drop_nil])))
        rw [if_pos (Or.inr q2)]
        have := rest 0 d (by rw [add0]; exact (if_pos (Or.inr q2)).symm)
        rw [add0] at this
        exact this
set_option maxHeartbeats 4000000 in
theorem f_pass {h : Hs} (R : MRep u h) (G : GoodH h) : V 139 (0, [some (.ref 41), none, none, none], [], u) (fun r t => r = some (.int (evW h)) ∧ MRep t (hEv h) ∧ MF u t) := by
  have hE := R.1.2.1
  have h999 := G.1.2.1
  unfold evW hEv
  ((repeat refine VV.s rfl rfl ?_); (try (conv => arg 3; simp only [Nat.reduceAdd, sto1, sto2, isL, cond_true, cond_false, List.drop_succ_cons, List.drop_zero, List.drop_nil])))
  rw [hE]
  refine VV.ite (fun q => ?_) (fun q => ?_)
  · have q : nI 999 ≤ nI (hev h) := q
    rw [le_nI (by omega) (by omega)] at q
    ((repeat refine VV.s rfl rfl ?_); (try (conv => arg 3; simp only [Nat.reduceAdd, sto1, sto2, isL, cond_true, cond_false, List.drop_succ_cons, List.drop_zero, List.drop_nil])))
    rw [if_neg (by omega), if_neg (by omega)]
    exact VV.ret1 rfl ⟨rfl, R, MF.rf⟩
  · have q : ¬ nI 999 ≤ nI (hev h) := q
    rw [le_nI (by omega) (by omega)] at q
    ((repeat (fail_if_success show VV _ _ (14, _, _, _) _); refine VV.s rfl rfl ?_); (try (conv => arg 3; simp only [Nat.reduceAdd, sto1, sto2, isL, cond_true, cond_false, List.drop_succ_cons, List.drop_zero, List.drop_nil])))
    rw [if_pos (by omega), if_pos (by omega)]
    exact f_pass_loop G (by omega) (hn h) 0 0 none u (by omega) R MF.rf
/-- a row is laid -/
def laid (u : Sg) (to a i : Nat) (f : Nat → Int32) : Prop := f a = gI u 41 2 ∧ (∀ v, v < i → f (a + 1 + v) = gA u 46 v ∧ f (a + 7 + v) = gA u 47 v ∧ f (a + 13 + v) = gA u 48 v) ∧ ∀ j, j < a ∨ a + 19 ≤ j → f j = gA u to j
set_option maxHeartbeats 8000000 in
theorem f_lays_loop {to a : Nat} (hto : to = 57 ∨ to = 58 ∨ to = 61) (ha : a + 19 ≤ lyN to) : ∀ k i f, i + k = 6 → laid u to a i f → V 132 (9, [some (.ref 41), some (.ref to), some (.int (nI a)), some (.int (nI i))], [], pA u to f) (fun r t => r = none ∧ ∃ f, t = pA u to f ∧ laid u to a 6 f) := by
  rcases hto with rfl | rfl | rfl
  all_goals
    have ha2 : a + 19 ≤ 460 := Nat.le_trans ha (by decide)
    have ha : a + 19 ≤ lyN _ := ha
    intro k
    induction k with
    | zero =>
      intro i f hi hf
      ((repeat refine VV.s rfl rfl ?_); (try (conv => arg 3; simp only [Nat.reduceAdd, sto1, sto2, isL, cond_true, cond_false, List.drop_succ_cons, List.drop_zero, List.drop_nil])))
      refine VV.itt (nI_le (a := 6) (by omega) (by omega)) ?_
      exact VV.ret0 rfl ⟨rfl, f, rfl, by rw [show 6 = i by omega]; exact hf⟩
    | succ k ih =>
      intro i f hi hf
      have e1 : nI a + 1 + nI i = nI (a + 1 + i) := by rw [nI_1, nI_add]
      have e7 : nI a + 7 + nI i = nI (a + 7 + i) := by rw [show nI a + 7 = nI (a + 7) from add_nI a 7, nI_add]
      have e13 : nI a + 13 + nI i = nI (a + 13 + i) := by rw [show nI a + 13 = nI (a + 13) from add_nI a 13, nI_add]
      ((repeat refine VV.s rfl rfl ?_); (try (conv => arg 3; simp only [Nat.reduceAdd, sto1, sto2, isL, cond_true, cond_false, List.drop_succ_cons, List.drop_zero, List.drop_nil])))
      refine VV.itf (nI_ge (b := 6) (by omega) (by omega)) ?_
      ((repeat refine VV.s rfl rfl ?_); (try (conv => arg 3; simp only [Nat.reduceAdd, sto1, sto2, isL, cond_true, cond_false, List.drop_succ_cons, List.drop_zero, List.drop_nil])))
      refine VV.iald rfl rfl rfl (show i < 6 by omega) (by decide) ?_
      rw [e1]
      refine VV.iast rfl rfl rfl (Nat.lt_of_lt_of_le (show a + 1 + i < a + 19 by omega) ha) (by decide) ?_
      ((repeat refine VV.s rfl rfl ?_); (try (conv => arg 3; simp only [Nat.reduceAdd, sto1, sto2, isL, cond_true, cond_false, List.drop_succ_cons, List.drop_zero, List.drop_nil])))
      refine VV.iald rfl rfl rfl (show i < 6 by omega) (by decide) ?_
      rw [e7]
      refine VV.iast rfl rfl rfl (Nat.lt_of_lt_of_le (show a + 7 + i < a + 19 by omega) ha) (by decide) ?_
      ((repeat refine VV.s rfl rfl ?_); (try (conv => arg 3; simp only [Nat.reduceAdd, sto1, sto2, isL, cond_true, cond_false, List.drop_succ_cons, List.drop_zero, List.drop_nil])))
      refine VV.iald rfl rfl rfl (show i < 6 by omega) (by decide) ?_
      rw [e13]
      refine VV.iast rfl rfl rfl (Nat.lt_of_lt_of_le (show a + 13 + i < a + 19 by omega) ha) (by decide) ?_
      ((repeat (fail_if_success show VV _ _ (9, _, _, _) _); refine VV.s rfl rfl ?_); (try (conv => arg 3; simp only [Nat.reduceAdd, sto1, sto2, isL, cond_true, cond_false, List.drop_succ_cons, List.drop_zero, List.drop_nil])))
      rw [nI_1]
      have pp : ∀ (to : Nat) (f g : Nat → Int32), pA (pA u to f) to g = pA u to g := by
        intro to f g
        refine Sg_ext (fun _ _ => rfl) (fun _ _ => rfl) (fun k j => ?_)
        rw [gA_pA, gA_pA, gA_pA]
        split <;> rfl
      have := ih (i + 1) (upd (upd (upd f (a + 1 + i) (gA u 46 i)) (a + 7 + i) (gA u 47 i)) (a + 13 + i) (gA u 48 i)) (by omega) ⟨?_, fun v hv => ?_, fun j hj => ?_⟩
      · refine VV.eq ?_ this
        congr 3
        rw [pp, pp, pp]
        rfl
      · rw [upd_at, if_neg (by omega), upd_at, if_neg (by omega), upd_at, if_neg (by omega)]
        exact hf.1
      · by_cases c : v = i
        · subst c
          refine ⟨?_, ?_, ?_⟩
          · rw [upd_at, if_neg (by omega), upd_at, if_neg (by omega), upd_at, if_pos rfl]
          · rw [upd_at, if_neg (by omega), upd_at, if_pos rfl]
          · rw [upd_at, if_pos rfl]
        · obtain ⟨p1, p2, p3⟩ := hf.2.1 v (by omega)
          refine ⟨?_, ?_, ?_⟩
          · rw [upd_at, if_neg (by omega), upd_at, if_neg (by omega), upd_at, if_neg (by omega)]; exact p1
          · rw [upd_at, if_neg (by omega), upd_at, if_neg (by omega), upd_at, if_neg (by omega)]; exact p2
          · rw [upd_at, if_neg (by omega), upd_at, if_neg (by omega), upd_at, if_neg (by omega)]; exact p3
      · rw [upd_at, if_neg (by omega), upd_at, if_neg (by omega), upd_at, if_neg (by omega)]
        exact hf.2.2 j hj
theorem f_lays {to a : Nat} (hto : to = 57 ∨ to = 58 ∨ to = 61) (ha : a + 19 ≤ lyN to) : V 132 (0, [some (.ref 41), some (.ref to), some (.int (nI a)), none], [], u) (fun r t => r = none ∧ ∃ f, t = pA u to f ∧ laid u to a 6 f) := by
  have lp := fun f hf => f_lays_loop (u := u) hto ha 6 0 f (by omega) hf
  rcases hto with rfl | rfl | rfl
  all_goals
    ((repeat refine VV.s rfl rfl ?_); (try (conv => arg 3; simp only [Nat.reduceAdd, sto1, sto2, isL, cond_true, cond_false, List.drop_succ_cons, List.drop_zero, List.drop_nil])))
    refine VV.iast rfl rfl rfl (Nat.lt_of_lt_of_le (show a < a + 19 by omega) ha) (by decide) ?_
    ((repeat (fail_if_success show VV _ _ (9, _, _, _) _); refine VV.s rfl rfl ?_); (try (conv => arg 3; simp only [Nat.reduceAdd, sto1, sto2, isL, cond_true, cond_false, List.drop_succ_cons, List.drop_zero, List.drop_nil])))
    exact lp _ ⟨by rw [upd_at, if_pos rfl], fun v hv => absurd hv (Nat.not_lt_zero v), fun j hj => by rw [upd_at, if_neg (by omega)]⟩
end M2
