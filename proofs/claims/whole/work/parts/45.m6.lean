/-! ===== the reference: kinds by notes, listening, asking ===== -/
section M6
variable {u : Sg} {z : Zs}
set_option maxHeartbeats 8000000 in
theorem f_kinds_in {h : Hs} (R : MRep u h) (G : GoodH h) {v k : Nat} {bs : Int32} (hv : v < hn h) (hk : k ≤ 5) {Q : Option Value → Sg → Prop} (K : ∀ d d6, V 161 (113, [some (.ref 41), some (.int (nI v)), some (.int bs), some (.int (nI k)), some (.int (b01 (alN h v k (hnn h) 0 true))), d, d6], [], u) Q) : ∀ m i a d6, i + m = hnn h → alN h v k m i a = alN h v k (hnn h) 0 true → V 161 (15, [some (.ref 41), some (.int (nI v)), some (.int bs), some (.int (nI k)), some (.int (b01 a)), some (.int (nI i)), d6], [], u) Q := by
  have hN1 := R.1.2.2.1
  have h6 := G.1.2.2.1
  have h60 := G.1.1
  have s9 := (G.2.1 v hv).2.1
  have r2v := (R.2.1 v hv).2.1
  intro m
  induction m with
  | zero =>
    intro i a d6 hi ha
    ((repeat refine VV.s rfl rfl ?_); (try (conv => arg 3; simp only [Nat.reduceAdd, sto1, sto2, isL, cond_true, cond_false, List.drop_succ_cons, List.drop_zero, List.drop_nil])))
    refine VV.itt (by rw [hN1]; exact nI_le (by omega) (by omega)) ?_
    have ha : a = alN h v k (hnn h) 0 true := ha
    rw [ha]
    exact K _ _
  | succ m ih =>
    intro i a d6 hi ha
    obtain ⟨g0, g1, g2, g3, g4⟩ := G.2.2.2.1 i (by omega)
    have r0 : gA u 49 i = nI (hN h i 0) := R.2.2.1 i 0 (by omega) (by omega)
    have r1 : gA u 50 i = nI (hN h i 1) := R.2.2.1 i 1 (by omega) (by omega)
    have r2 : gA u 51 i = nI (hN h i 2) := R.2.2.1 i 2 (by omega) (by omega)
    have r3 : gA u 52 i = nI (hN h i 3) := R.2.2.1 i 3 (by omega) (by omega)
    have r4 : gA u 53 i = nI (hN h i 4) := R.2.2.1 i 4 (by omega) (by omega)
    have hs9 := sdN_le (k := k) (d := hN h i 2) s9
    have hw4 := wdN_le k (hN h i 1)
    rw [alN] at ha
    ((repeat refine VV.s rfl rfl ?_); (try (conv => arg 3; simp only [Nat.reduceAdd, sto1, sto2, isL, cond_true, cond_false, List.drop_succ_cons, List.drop_zero, List.drop_nil])))
    refine VV.itf (by rw [hN1]; exact nI_ge (by omega) (by omega)) ?_
    ((repeat refine VV.s rfl rfl ?_); (try (conv => arg 3; simp only [Nat.reduceAdd, sto1, sto2, isL, cond_true, cond_false, List.drop_succ_cons, List.drop_zero, List.drop_nil])))
    refine VV.iald rfl rfl rfl (show v < 6 by omega) (by decide) ?_
    ((repeat refine VV.s rfl rfl ?_); (try (conv => arg 3; simp only [Nat.reduceAdd, sto1, sto2, isL, cond_true, cond_false, List.drop_succ_cons, List.drop_zero, List.drop_nil])))
    refine VV.iald rfl rfl rfl (show i < 6 by omega) (by decide) ?_
    rw [r2v, r2]
    refine VV.callE rfl rfl rfl rfl (f_soundBy hk s9 (by omega)) rfl ?_
    ((repeat refine VV.s rfl rfl ?_); (try (conv => arg 3; simp only [Nat.reduceAdd, sto1, sto2, isL, cond_true, cond_false, List.drop_succ_cons, List.drop_zero, List.drop_nil])))
    refine VV.iald rfl rfl rfl (show i < 6 by omega) (by decide) ?_
    rw [r3]
    ((repeat refine VV.s rfl rfl ?_); (try (conv => arg 3; simp only [Nat.reduceAdd, sto1, sto2, isL, cond_true, cond_false, List.drop_succ_cons, List.drop_zero, List.drop_nil])))
    have tail : ∀ so : Bool, (hN h i 0 = v → so = soN h k i) → V 161 (79, [some (.ref 41), some (.int (nI v)), some (.int bs), some (.int (nI k)), some (.int (b01 a)), some (.int (nI i)), some (.int (b01 so))], [], u) Q := by
      intro so hsE
      refine VV.s rfl rfl ?_
      refine VV.s rfl rfl ?_
      cases a with
      | false =>
        refine VV.itt rfl ?_
        ((repeat (fail_if_success show VV _ _ (15, _, _, _) _); refine VV.s rfl rfl ?_); (try (conv => arg 3; simp only [Nat.reduceAdd, sto1, sto2, isL, cond_true, cond_false, List.drop_succ_cons, List.drop_zero, List.drop_nil])))
        rw [nI_1]
        exact ih (i + 1) false _ (by omega) ha
      | true =>
        refine VV.itf (by decide) ?_
        ((repeat refine VV.s rfl rfl ?_); (try (conv => arg 3; simp only [Nat.reduceAdd, sto1, sto2, isL, cond_true, cond_false, List.drop_succ_cons, List.drop_zero, List.drop_nil])))
        refine VV.iald rfl rfl rfl (show i < 6 by omega) (by decide) ?_
        rw [r0]
        ((repeat refine VV.s rfl rfl ?_); (try (conv => arg 3; simp only [Nat.reduceAdd, sto1, sto2, isL, cond_true, cond_false, List.drop_succ_cons, List.drop_zero, List.drop_nil])))
        refine VV.ite (fun q => ?_) (fun q => ?_)
        · rw [eq_nI (by omega) (by omega)] at q
          ((repeat (fail_if_success show VV _ _ (15, _, _, _) _); refine VV.s rfl rfl ?_); (try (conv => arg 3; simp only [Nat.reduceAdd, sto1, sto2, isL, cond_true, cond_false, List.drop_succ_cons, List.drop_zero, List.drop_nil])))
          rw [nI_1]
          exact ih (i + 1) true _ (by omega) (by rw [← ha]; simp [q])
        · rw [eq_nI (by omega) (by omega)] at q
          have q := Classical.not_not.mp q
          refine VV.s rfl rfl ?_
          refine VV.s rfl rfl ?_
          have e := hsE q
          cases so with
          | true =>
            refine VV.itf (by decide) ?_
            ((repeat (fail_if_success show VV _ _ (15, _, _, _) _); refine VV.s rfl rfl ?_); (try (conv => arg 3; simp only [Nat.reduceAdd, sto1, sto2, isL, cond_true, cond_false, List.drop_succ_cons, List.drop_zero, List.drop_nil])))
            rw [nI_1]
            exact ih (i + 1) true _ (by omega) (by rw [← ha, ← e]; simp)
          | false =>
            refine VV.itt rfl ?_
            ((repeat (fail_if_success show VV _ _ (15, _, _, _) _); refine VV.s rfl rfl ?_); (try (conv => arg 3; simp only [Nat.reduceAdd, sto1, sto2, isL, cond_true, cond_false, List.drop_succ_cons, List.drop_zero, List.drop_nil])))
            rw [nI_1]
            exact ih (i + 1) false _ (by omega) (by rw [← ha, ← e]; simp [q])
    refine VV.ite (fun q => ?_) (fun q => ?_)
    · rw [eq_nI (by omega) (by omega)] at q
      ((repeat (fail_if_success show VV _ _ (79, _, _, _) _); refine VV.s rfl rfl ?_); (try (conv => arg 3; simp only [Nat.reduceAdd, sto1, sto2, isL, cond_true, cond_false, List.drop_succ_cons, List.drop_zero, List.drop_nil])))
      exact tail false (fun e => by unfold soN; rw [e]; simp [q])
    · rw [eq_nI (by omega) (by omega)] at q
      have q := Classical.not_not.mp q
      ((repeat refine VV.s rfl rfl ?_); (try (conv => arg 3; simp only [Nat.reduceAdd, sto1, sto2, isL, cond_true, cond_false, List.drop_succ_cons, List.drop_zero, List.drop_nil])))
      refine VV.iald rfl rfl rfl (show i < 6 by omega) (by decide) ?_
      rw [r1]
      refine VV.callE rfl rfl rfl rfl (f_slipBy hk (by omega)) rfl ?_
      ((repeat refine VV.s rfl rfl ?_); (try (conv => arg 3; simp only [Nat.reduceAdd, sto1, sto2, isL, cond_true, cond_false, List.drop_succ_cons, List.drop_zero, List.drop_nil])))
      refine VV.iald rfl rfl rfl (show i < 6 by omega) (by decide) ?_
      rw [r4]
      ((repeat refine VV.s rfl rfl ?_); (try (conv => arg 3; simp only [Nat.reduceAdd, sto1, sto2, isL, cond_true, cond_false, List.drop_succ_cons, List.drop_zero, List.drop_nil])))
      refine VV.ite (fun q2 => ?_) (fun q2 => ?_)
      · rw [eq_nI (by omega) (by omega)] at q2
        ((repeat (fail_if_success show VV _ _ (79, _, _, _) _); refine VV.s rfl rfl ?_); (try (conv => arg 3; simp only [Nat.reduceAdd, sto1, sto2, isL, cond_true, cond_false, List.drop_succ_cons, List.drop_zero, List.drop_nil])))
        exact tail false (fun e => by unfold soN; rw [e]; simp [q2])
      · rw [eq_nI (by omega) (by omega)] at q2
        have q2 := Classical.not_not.mp q2
        ((repeat (fail_if_success show VV _ _ (79, _, _, _) _); refine VV.s rfl rfl ?_); (try (conv => arg 3; simp only [Nat.reduceAdd, sto1, sto2, isL, cond_true, cond_false, List.drop_succ_cons, List.drop_zero, List.drop_nil])))
        exact tail true (fun e => by unfold soN; rw [e]; simp [q, q2])
set_option maxHeartbeats 4000000 in
theorem f_kindsOf {h : Hs} (R : MRep u h) (G : GoodH h) {v : Nat} (hv : v < hn h) : V 161 (0, [some (.ref 41), some (.int (nI v)), none, none, none, none, none], [], u) (is (.int (isK h v)) u) := by
  have lp : ∀ m k a d4 d5 d6, k + m = 6 → V 161 (4, [some (.ref 41), some (.int (nI v)), some (.int a), some (.int (nI k)), d4, d5, d6], [], u) (is (.int (kbN h v m k a)) u) := by
    intro m
    induction m with
    | zero =>
      intro k a d4 d5 d6 hk
      ((repeat refine VV.s rfl rfl ?_); (try (conv => arg 3; simp only [Nat.reduceAdd, sto1, sto2, isL, cond_true, cond_false, List.drop_succ_cons, List.drop_zero, List.drop_nil])))
      refine VV.itt (nI_lt (a := 5) (by omega) (by omega)) ?_
      ((repeat refine VV.s rfl rfl ?_); (try (conv => arg 3; simp only [Nat.reduceAdd, sto1, sto2, isL, cond_true, cond_false, List.drop_succ_cons, List.drop_zero, List.drop_nil])))
      exact VV.ret1 rfl ⟨rfl, rfl⟩
    | succ m ih =>
      intro k a d4 d5 d6 hk
      ((repeat refine VV.s rfl rfl ?_); (try (conv => arg 3; simp only [Nat.reduceAdd, sto1, sto2, isL, cond_true, cond_false, List.drop_succ_cons, List.drop_zero, List.drop_nil])))
      refine VV.itf (nI_nlt (a := 5) (by omega) (by omega)) ?_
      ((repeat (fail_if_success show VV _ _ (15, _, _, _) _); refine VV.s rfl rfl ?_); (try (conv => arg 3; simp only [Nat.reduceAdd, sto1, sto2, isL, cond_true, cond_false, List.drop_succ_cons, List.drop_zero, List.drop_nil])))
      rw [kbN]
      refine f_kinds_in R G hv (show k ≤ 5 by omega) (fun d d6 => ?_) (hnn h) 0 true _ (by omega) rfl
      refine VV.s rfl rfl ?_
      refine VV.s rfl rfl ?_
      refine VV.s rfl rfl ?_
      cases hs : alN h v k (hnn h) 0 true with
      | true =>
        refine VV.itf (by decide) ?_
        ((repeat (fail_if_success show VV _ _ (4, _, _, _) _); refine VV.s rfl rfl ?_); (try (conv => arg 3; simp only [Nat.reduceAdd, sto1, sto2, isL, cond_true, cond_false, List.drop_succ_cons, List.drop_zero, List.drop_nil])))
        rw [nI_1]
        exact ih (k + 1) _ _ _ _ (by omega)
      | false =>
        refine VV.itt rfl ?_
        ((repeat (fail_if_success show VV _ _ (4, _, _, _) _); refine VV.s rfl rfl ?_); (try (conv => arg 3; simp only [Nat.reduceAdd, sto1, sto2, isL, cond_true, cond_false, List.drop_succ_cons, List.drop_zero, List.drop_nil])))
        rw [nI_1, or0]
        exact ih (k + 1) _ _ _ _ (by omega)
  ((repeat (fail_if_success show VV _ _ (4, _, _, _) _); refine VV.s rfl rfl ?_); (try (conv => arg 3; simp only [Nat.reduceAdd, sto1, sto2, isL, cond_true, cond_false, List.drop_succ_cons, List.drop_zero, List.drop_nil])))
  exact lp 6 0 0 none none none (by omega)
theorem m_is_bad (C : MInv u z) {p : Int32} (h : ¬ thr (hn z.1) p) : MC 162 [some (.ref 41), some (.int p)] u (.int (-2)) (zB z) := by
  ((repeat refine VV.s rfl rfl ?_); (try (conv => arg 3; simp only [Nat.reduceAdd, sto1, sto2, isL, cond_true, cond_false, List.drop_succ_cons, List.drop_zero, List.drop_nil])))
  refine VV.callE rfl rfl rfl rfl (f_oneN C.1.1.1 h) rfl ?_
  refine VV.s rfl rfl ?_
  refine VV.itt (by decide) ?_
  ((repeat refine VV.s rfl rfl ?_); (try (conv => arg 3; simp only [Nat.reduceAdd, sto1, sto2, isL, cond_true, cond_false, List.drop_succ_cons, List.drop_zero, List.drop_nil])))
  refine VV.callE rfl rfl rfl rfl f_bad rfl ?_
  ((repeat refine VV.s rfl rfl ?_); (try (conv => arg 3; simp only [Nat.reduceAdd, sto1, sto2, isL, cond_true, cond_false, List.drop_succ_cons, List.drop_zero, List.drop_nil])))
  exact VV.ret1 rfl ⟨rfl, C.bad, (Agr.rf).A (by decide)⟩
theorem m_is_ok (C : MInv u z) (G : GoodH z.1) {v : Nat} (hv : v < hn z.1) (t1 : thr (hn z.1) (nI v)) : MC 162 [some (.ref 41), some (.int (nI v))] u (.int (isK z.1 v)) z := by
  ((repeat refine VV.s rfl rfl ?_); (try (conv => arg 3; simp only [Nat.reduceAdd, sto1, sto2, isL, cond_true, cond_false, List.drop_succ_cons, List.drop_zero, List.drop_nil])))
  refine VV.callE rfl rfl rfl rfl (f_oneY C.1.1.1 t1) rfl ?_
  refine VV.s rfl rfl ?_
  refine VV.itf (by decide) ?_
  ((repeat refine VV.s rfl rfl ?_); (try (conv => arg 3; simp only [Nat.reduceAdd, sto1, sto2, isL, cond_true, cond_false, List.drop_succ_cons, List.drop_zero, List.drop_nil])))
  refine VV.callE rfl rfl rfl rfl (f_kindsOf C.1 G hv) rfl ?_
  ((repeat refine VV.s rfl rfl ?_); (try (conv => arg 3; simp only [Nat.reduceAdd, sto1, sto2, isL, cond_true, cond_false, List.drop_succ_cons, List.drop_zero, List.drop_nil])))
  exact VV.ret1 rfl ⟨rfl, C, Agr.rf⟩
set_option maxHeartbeats 8000000 in
theorem f_alike_in {h : Hs} (R : MRep u h) (G : GoodH h) {ks : Int32} {v x d a m : Nat} (hv : v < hn h) (hx : x < 2 ^ 31) (hd : d < 2 ^ 31) (ha : a ≤ 5) {Q : Option Value → Sg → Prop} (K : ∀ d8 d9, V 163 (114, [some (.ref 41), some (.int (nI v)), some (.int ks), some (.int (nI x)), some (.int (nI d)), some (.int (nI m)), some (.int (nI a)), some (.int (nI (alC ks (hso h v) x d a 6 0 0))), d8, d9], [], u) Q) : ∀ k b c d9, b + k = 6 → alC ks (hso h v) x d a k b c = alC ks (hso h v) x d a 6 0 0 → V 163 (18, [some (.ref 41), some (.int (nI v)), some (.int ks), some (.int (nI x)), some (.int (nI d)), some (.int (nI m)), some (.int (nI a)), some (.int (nI c)), some (.int (nI b)), d9], [], u) Q := by
  have h60 := G.1.1
  have s9 := (G.2.1 v hv).2.1
  have r2 := (R.2.1 v hv).2.1
  intro k
  induction k with
  | zero =>
    intro b c d9 hb hc
    ((repeat refine VV.s rfl rfl ?_); (try (conv => arg 3; simp only [Nat.reduceAdd, sto1, sto2, isL, cond_true, cond_false, List.drop_succ_cons, List.drop_zero, List.drop_nil])))
    refine VV.itt (nI_lt (a := 5) (by omega) (by omega)) ?_
    have hc : c = _ := hc
    rw [hc]
    exact K _ _
  | succ k ih =>
    intro b c d9 hb hc
    rw [alC] at hc
    have l1 := sdN_le (k := a) (d := d) s9
    have l2 := sdN_le (k := b) (d := d) s9
    have l3 := wdN_le a x
    have l4 := wdN_le b x
    ((repeat refine VV.s rfl rfl ?_); (try (conv => arg 3; simp only [Nat.reduceAdd, sto1, sto2, isL, cond_true, cond_false, List.drop_succ_cons, List.drop_zero, List.drop_nil])))
    refine VV.itf (nI_nlt (a := 5) (by omega) (by omega)) ?_
    have tail : ∀ so : Bool, (so = (decide (sdN a (hso h v) d = sdN b (hso h v) d) && decide (wdN a x = wdN b x))) → V 163 (75, [some (.ref 41), some (.int (nI v)), some (.int ks), some (.int (nI x)), some (.int (nI d)), some (.int (nI m)), some (.int (nI a)), some (.int (nI c)), some (.int (nI b)), some (.int (b01 so))], [], u) Q := by
      intro so hsE
      have no : ∀ d9, alk ks (hso h v) x d a b = false → V 163 (104, [some (.ref 41), some (.int (nI v)), some (.int ks), some (.int (nI x)), some (.int (nI d)), some (.int (nI m)), some (.int (nI a)), some (.int (nI c)), some (.int (nI b)), d9], [.int (nI c)], u) Q := by
        intro d9 hf
        ((repeat (fail_if_success show VV _ _ (18, _, _, _) _); refine VV.s rfl rfl ?_); (try (conv => arg 3; simp only [Nat.reduceAdd, sto1, sto2, isL, cond_true, cond_false, List.drop_succ_cons, List.drop_zero, List.drop_nil])))
        rw [nI_1, add0]
        exact ih (b + 1) c d9 (by omega) (by rw [← hc, hf]; rfl)
      ((repeat refine VV.s rfl rfl ?_); (try (conv => arg 3; simp only [Nat.reduceAdd, sto1, sto2, isL, cond_true, cond_false, List.drop_succ_cons, List.drop_zero, List.drop_nil])))
      refine VV.callE rfl rfl rfl rfl f_has rfl ?_
      refine VV.s rfl rfl ?_
      cases h1 : bt ks a with
      | false =>
        refine VV.itt rfl ?_
        exact no _ (by simp [alk, h1])
      | true =>
        refine VV.itf (by decide) ?_
        ((repeat refine VV.s rfl rfl ?_); (try (conv => arg 3; simp only [Nat.reduceAdd, sto1, sto2, isL, cond_true, cond_false, List.drop_succ_cons, List.drop_zero, List.drop_nil])))
        refine VV.callE rfl rfl rfl rfl f_has rfl ?_
        refine VV.s rfl rfl ?_
        cases h2 : bt ks b with
        | false =>
          refine VV.itt rfl ?_
          exact no _ (by simp [alk, h2])
        | true =>
          refine VV.itf (by decide) ?_
          refine VV.s rfl rfl ?_
          refine VV.s rfl rfl ?_
          cases so with
          | false =>
            refine VV.itt rfl ?_
            refine no _ ?_
            unfold alk
            rw [Bool.and_assoc, ← hsE]
            simp
          | true =>
            refine VV.itf (by decide) ?_
            ((repeat (fail_if_success show VV _ _ (18, _, _, _) _); refine VV.s rfl rfl ?_); (try (conv => arg 3; simp only [Nat.reduceAdd, sto1, sto2, isL, cond_true, cond_false, List.drop_succ_cons, List.drop_zero, List.drop_nil])))
            rw [nI_1, nI_1]
            refine ih (b + 1) (c + 1) _ (by omega) ?_
            rw [← hc, if_pos]
            unfold alk
            rw [Bool.and_assoc, ← hsE, h1, h2]
            rfl
    ((repeat refine VV.s rfl rfl ?_); (try (conv => arg 3; simp only [Nat.reduceAdd, sto1, sto2, isL, cond_true, cond_false, List.drop_succ_cons, List.drop_zero, List.drop_nil])))
    refine VV.iald rfl rfl rfl (show v < 6 by omega) (by decide) ?_
    ((repeat refine VV.s rfl rfl ?_); (try (conv => arg 3; simp only [Nat.reduceAdd, sto1, sto2, isL, cond_true, cond_false, List.drop_succ_cons, List.drop_zero, List.drop_nil])))
    rw [r2]
    refine VV.callE rfl rfl rfl rfl (f_soundBy ha s9 hd) rfl ?_
    ((repeat refine VV.s rfl rfl ?_); (try (conv => arg 3; simp only [Nat.reduceAdd, sto1, sto2, isL, cond_true, cond_false, List.drop_succ_cons, List.drop_zero, List.drop_nil])))
    refine VV.iald rfl rfl rfl (show v < 6 by omega) (by decide) ?_
    ((repeat refine VV.s rfl rfl ?_); (try (conv => arg 3; simp only [Nat.reduceAdd, sto1, sto2, isL, cond_true, cond_false, List.drop_succ_cons, List.drop_zero, List.drop_nil])))
    rw [r2]
    refine VV.callE rfl rfl rfl rfl (f_soundBy (show b ≤ 5 by omega) s9 hd) rfl ?_
    ((repeat refine VV.s rfl rfl ?_); (try (conv => arg 3; simp only [Nat.reduceAdd, sto1, sto2, isL, cond_true, cond_false, List.drop_succ_cons, List.drop_zero, List.drop_nil])))
    refine VV.ite (fun q => ?_) (fun q => ?_)
    · rw [eq_nI (by omega) (by omega)] at q
      ((repeat (fail_if_success show VV _ _ (75, _, _, _) _); refine VV.s rfl rfl ?_); (try (conv => arg 3; simp only [Nat.reduceAdd, sto1, sto2, isL, cond_true, cond_false, List.drop_succ_cons, List.drop_zero, List.drop_nil])))
      exact tail false (by simp [q])
    · rw [eq_nI (by omega) (by omega)] at q
      have q := Classical.not_not.mp q
      ((repeat refine VV.s rfl rfl ?_); (try (conv => arg 3; simp only [Nat.reduceAdd, sto1, sto2, isL, cond_true, cond_false, List.drop_succ_cons, List.drop_zero, List.drop_nil])))
      refine VV.callE rfl rfl rfl rfl (f_slipBy ha hx) rfl ?_
      ((repeat refine VV.s rfl rfl ?_); (try (conv => arg 3; simp only [Nat.reduceAdd, sto1, sto2, isL, cond_true, cond_false, List.drop_succ_cons, List.drop_zero, List.drop_nil])))
      refine VV.callE rfl rfl rfl rfl (f_slipBy (show b ≤ 5 by omega) hx) rfl ?_
      ((repeat refine VV.s rfl rfl ?_); (try (conv => arg 3; simp only [Nat.reduceAdd, sto1, sto2, isL, cond_true, cond_false, List.drop_succ_cons, List.drop_zero, List.drop_nil])))
      refine VV.ite (fun q2 => ?_) (fun q2 => ?_)
      · rw [eq_nI (by omega) (by omega)] at q2
        ((repeat (fail_if_success show VV _ _ (75, _, _, _) _); refine VV.s rfl rfl ?_); (try (conv => arg 3; simp only [Nat.reduceAdd, sto1, sto2, isL, cond_true, cond_false, List.drop_succ_cons, List.drop_zero, List.drop_nil])))
        exact tail false (by simp [q2])
      · rw [eq_nI (by omega) (by omega)] at q2
        have q2 := Classical.not_not.mp q2
        ((repeat (fail_if_success show VV _ _ (75, _, _, _) _); refine VV.s rfl rfl ?_); (try (conv => arg 3; simp only [Nat.reduceAdd, sto1, sto2, isL, cond_true, cond_false, List.drop_succ_cons, List.drop_zero, List.drop_nil])))
        exact tail true (by simp [q, q2])
set_option maxHeartbeats 4000000 in
theorem f_alike {h : Hs} (R : MRep u h) (G : GoodH h) {ks : Int32} {v x d : Nat} (hv : v < hn h) (hx : x < 2 ^ 31) (hd : d < 2 ^ 31) : V 163 (0, [some (.ref 41), some (.int (nI v)), some (.int ks), some (.int (nI x)), some (.int (nI d)), none, none, none, none, none], [], u) (is (.int (nI (alM ks (hso h v) x d 6 0 0))) u) := by
  have lp : ∀ k a m d7 d8 d9, a + k = 6 → m ≤ 6 → V 163 (6, [some (.ref 41), some (.int (nI v)), some (.int ks), some (.int (nI x)), some (.int (nI d)), some (.int (nI m)), some (.int (nI a)), d7, d8, d9], [], u) (is (.int (nI (alM ks (hso h v) x d k a m))) u) := by
    intro k
    induction k with
    | zero =>
      intro a m d7 d8 d9 ha hm
      ((repeat refine VV.s rfl rfl ?_); (try (conv => arg 3; simp only [Nat.reduceAdd, sto1, sto2, isL, cond_true, cond_false, List.drop_succ_cons, List.drop_zero, List.drop_nil])))
      refine VV.itt (nI_lt (a := 5) (by omega) (by omega)) ?_
      ((repeat refine VV.s rfl rfl ?_); (try (conv => arg 3; simp only [Nat.reduceAdd, sto1, sto2, isL, cond_true, cond_false, List.drop_succ_cons, List.drop_zero, List.drop_nil])))
      exact VV.ret1 rfl ⟨rfl, rfl⟩
    | succ k ih =>
      intro a m d7 d8 d9 ha hm
      ((repeat refine VV.s rfl rfl ?_); (try (conv => arg 3; simp only [Nat.reduceAdd, sto1, sto2, isL, cond_true, cond_false, List.drop_succ_cons, List.drop_zero, List.drop_nil])))
      refine VV.itf (nI_nlt (a := 5) (by omega) (by omega)) ?_
      ((repeat (fail_if_success show VV _ _ (18, _, _, _) _); refine VV.s rfl rfl ?_); (try (conv => arg 3; simp only [Nat.reduceAdd, sto1, sto2, isL, cond_true, cond_false, List.drop_succ_cons, List.drop_zero, List.drop_nil])))
      refine f_alike_in R G hv hx hd (show a ≤ 5 by omega) (fun d8 d9 => ?_) 6 0 0 d9 (by omega) rfl
      have hl := alC_le ks (hso h v) x d a 6 0 0
      rw [alM]
      ((repeat refine VV.s rfl rfl ?_); (try (conv => arg 3; simp only [Nat.reduceAdd, sto1, sto2, isL, cond_true, cond_false, List.drop_succ_cons, List.drop_zero, List.drop_nil])))
      refine VV.ite (fun q => ?_) (fun q => ?_)
      · rw [le_nI (by omega) (by omega)] at q
        ((repeat (fail_if_success show VV _ _ (6, _, _, _) _); refine VV.s rfl rfl ?_); (try (conv => arg 3; simp only [Nat.reduceAdd, sto1, sto2, isL, cond_true, cond_false, List.drop_succ_cons, List.drop_zero, List.drop_nil])))
        rw [nI_1]
        have := ih (a + 1) m (some (.int (nI (alC ks (hso h v) x d a 6 0 0)))) d8 d9 (by omega) hm
        rw [show max m (alC ks (hso h v) x d a 6 0 0) = m by omega]
        exact this
      · rw [le_nI (by omega) (by omega)] at q
        ((repeat (fail_if_success show VV _ _ (6, _, _, _) _); refine VV.s rfl rfl ?_); (try (conv => arg 3; simp only [Nat.reduceAdd, sto1, sto2, isL, cond_true, cond_false, List.drop_succ_cons, List.drop_zero, List.drop_nil])))
        rw [nI_1]
        have := ih (a + 1) (alC ks (hso h v) x d a 6 0 0) (some (.int (nI (alC ks (hso h v) x d a 6 0 0)))) d8 d9 (by omega) (by omega)
        rw [show max m (alC ks (hso h v) x d a 6 0 0) = alC ks (hso h v) x d a 6 0 0 by omega]
        exact this
  ((repeat (fail_if_success show VV _ _ (6, _, _, _) _); refine VV.s rfl rfl ?_); (try (conv => arg 3; simp only [Nat.reduceAdd, sto1, sto2, isL, cond_true, cond_false, List.drop_succ_cons, List.drop_zero, List.drop_nil])))
  exact lp 6 0 0 none none none (by omega) (by omega)
set_option maxHeartbeats 4000000 in
theorem m_listen_in (C : MInv u z) (G : GoodH z.1) {v x : Nat} (hv : v < hn z.1) (hx : x ≤ 4) {ks : Int32} {q0 : Int32 × Nat} {Q : Option Value → Sg → Prop} (K : ∀ d6 d7, V 164 (94, [some (.ref 41), some (.int (nI v)), some (.int ks), some (.int (lsD ks (hso z.1 v) x 2 0 q0).1), some (.int (nI (lsD ks (hso z.1 v) x 2 0 q0).2)), some (.int (nI x)), d6, d7], [], u) Q) : ∀ k d q d7, d + k = 2 → q.2 ≤ 7 → lsD ks (hso z.1 v) x k d q = lsD ks (hso z.1 v) x 2 0 q0 → V 164 (41, [some (.ref 41), some (.int (nI v)), some (.int ks), some (.int q.1), some (.int (nI q.2)), some (.int (nI x)), some (.int (nI d)), d7], [], u) Q := by
  have h6 := G.1.1
  intro k
  induction k with
  | zero =>
    intro d q d7 hd hq he
    ((repeat refine VV.s rfl rfl ?_); (try (conv => arg 3; simp only [Nat.reduceAdd, sto1, sto2, isL, cond_true, cond_false, List.drop_succ_cons, List.drop_zero, List.drop_nil])))
    refine VV.itt (nI_le (a := 2) (by omega) (by omega)) ?_
    have he : q = _ := he
    rw [he]
    exact K _ _
  | succ k ih =>
    intro d q d7 hd hq he
    rw [lsD] at he
    have hm := alM_le ks (hso z.1 v) x d 6 0 0 (by omega)
    ((repeat refine VV.s rfl rfl ?_); (try (conv => arg 3; simp only [Nat.reduceAdd, sto1, sto2, isL, cond_true, cond_false, List.drop_succ_cons, List.drop_zero, List.drop_nil])))
    refine VV.itf (nI_ge (b := 2) (by omega) (by omega)) ?_
    ((repeat refine VV.s rfl rfl ?_); (try (conv => arg 3; simp only [Nat.reduceAdd, sto1, sto2, isL, cond_true, cond_false, List.drop_succ_cons, List.drop_zero, List.drop_nil])))
    refine VV.callE rfl rfl rfl rfl (f_alike C.1 G hv (by omega) (by omega)) rfl ?_
    ((repeat refine VV.s rfl rfl ?_); (try (conv => arg 3; simp only [Nat.reduceAdd, sto1, sto2, isL, cond_true, cond_false, List.drop_succ_cons, List.drop_zero, List.drop_nil])))
    refine VV.ite (fun c => ?_) (fun c => ?_)
    · rw [le_nI (by omega) (by omega)] at c
      ((repeat refine VV.s rfl rfl ?_); (try (conv => arg 3; simp only [Nat.reduceAdd, sto1, sto2, isL, cond_true, cond_false, List.drop_succ_cons, List.drop_zero, List.drop_nil])))
      refine VV.callE rfl rfl rfl rfl (f_lesser (by omega) (by omega)) rfl ?_
      ((repeat (fail_if_success show VV _ _ (41, _, _, _) _); refine VV.s rfl rfl ?_); (try (conv => arg 3; simp only [Nat.reduceAdd, sto1, sto2, isL, cond_true, cond_false, List.drop_succ_cons, List.drop_zero, List.drop_nil])))
      rw [nI_1, show min q.2 (alM ks (hso z.1 v) x d 6 0 0) = q.2 by omega]
      refine ih (d + 1) q _ (by omega) hq ?_
      rw [← he, if_neg (by omega)]
    · rw [le_nI (by omega) (by omega)] at c
      ((repeat refine VV.s rfl rfl ?_); (try (conv => arg 3; simp only [Nat.reduceAdd, sto1, sto2, isL, cond_true, cond_false, List.drop_succ_cons, List.drop_zero, List.drop_nil])))
      refine VV.callE rfl rfl rfl rfl (f_lesser (by omega) (by omega)) rfl ?_
      ((repeat (fail_if_success show VV _ _ (41, _, _, _) _); refine VV.s rfl rfl ?_); (try (conv => arg 3; simp only [Nat.reduceAdd, sto1, sto2, isL, cond_true, cond_false, List.drop_succ_cons, List.drop_zero, List.drop_nil])))
      rw [nI_1, ten_nI, show min q.2 (alM ks (hso z.1 v) x d 6 0 0) = alM ks (hso z.1 v) x d 6 0 0 by omega]
      refine ih (d + 1) (nI (10 * x + d), alM ks (hso z.1 v) x d 6 0 0) _ (by omega) (by simp; omega) ?_
      rw [← he, if_pos (by omega)]
set_option maxHeartbeats 4000000 in
theorem m_listen_out (C : MInv u z) (G : GoodH z.1) {v : Nat} (hv : v < hn z.1) {ks : Int32} (hks : ks ≠ 0) : ∀ k x q d6 d7, x + k = 5 → q.2 ≤ 7 → V 164 (28, [some (.ref 41), some (.int (nI v)), some (.int ks), some (.int q.1), some (.int (nI q.2)), some (.int (nI x)), d6, d7], [], u) (is (.int (lsU ks (hso z.1 v) k x q).1) u) := by
  intro k
  induction k with
  | zero =>
    intro x q d6 d7 hx hq
    ((repeat refine VV.s rfl rfl ?_); (try (conv => arg 3; simp only [Nat.reduceAdd, sto1, sto2, isL, cond_true, cond_false, List.drop_succ_cons, List.drop_zero, List.drop_nil])))
    refine VV.itt (nI_le (a := 5) (by omega) (by omega)) ?_
    ((repeat refine VV.s rfl rfl ?_); (try (conv => arg 3; simp only [Nat.reduceAdd, sto1, sto2, isL, cond_true, cond_false, List.drop_succ_cons, List.drop_zero, List.drop_nil])))
    exact VV.ret1 rfl ⟨rfl, rfl⟩
  | succ k ih =>
    intro x q d6 d7 hx hq
    ((repeat refine VV.s rfl rfl ?_); (try (conv => arg 3; simp only [Nat.reduceAdd, sto1, sto2, isL, cond_true, cond_false, List.drop_succ_cons, List.drop_zero, List.drop_nil])))
    refine VV.itf (nI_ge (b := 5) (by omega) (by omega)) ?_
    ((repeat refine VV.s rfl rfl ?_); (try (conv => arg 3; simp only [Nat.reduceAdd, sto1, sto2, isL, cond_true, cond_false, List.drop_succ_cons, List.drop_zero, List.drop_nil])))
    refine VV.itf hks ?_
    ((repeat (fail_if_success show VV _ _ (41, _, _, _) _); refine VV.s rfl rfl ?_); (try (conv => arg 3; simp only [Nat.reduceAdd, sto1, sto2, isL, cond_true, cond_false, List.drop_succ_cons, List.drop_zero, List.drop_nil])))
    refine m_listen_in C G hv (show x ≤ 4 by omega) (q0 := q) (fun d6 d7 => ?_) 2 0 q _ (by omega) hq rfl
    ((repeat (fail_if_success show VV _ _ (28, _, _, _) _); refine VV.s rfl rfl ?_); (try (conv => arg 3; simp only [Nat.reduceAdd, sto1, sto2, isL, cond_true, cond_false, List.drop_succ_cons, List.drop_zero, List.drop_nil])))
    rw [nI_1, lsU]
    exact ih (x + 1) _ _ _ (by omega) (lsD_le ks _ x 2 0 q hq)
theorem m_listen_bad (C : MInv u z) {p : Int32} (h : ¬ thr (hn z.1) p) : MC 164 [some (.ref 41), some (.int p), none, none, none, none, none, none] u (.int (-2)) (zB z) := by
  ((repeat refine VV.s rfl rfl ?_); (try (conv => arg 3; simp only [Nat.reduceAdd, sto1, sto2, isL, cond_true, cond_false, List.drop_succ_cons, List.drop_zero, List.drop_nil])))
  refine VV.callE rfl rfl rfl rfl (f_oneN C.1.1.1 h) rfl ?_
  refine VV.s rfl rfl ?_
  refine VV.itf (by decide) ?_
  ((repeat refine VV.s rfl rfl ?_); (try (conv => arg 3; simp only [Nat.reduceAdd, sto1, sto2, isL, cond_true, cond_false, List.drop_succ_cons, List.drop_zero, List.drop_nil])))
  refine VV.callE rfl rfl rfl rfl f_bad rfl ?_
  ((repeat refine VV.s rfl rfl ?_); (try (conv => arg 3; simp only [Nat.reduceAdd, sto1, sto2, isL, cond_true, cond_false, List.drop_succ_cons, List.drop_zero, List.drop_nil])))
  exact VV.ret1 rfl ⟨rfl, C.bad, (Agr.rf).A (by decide)⟩
theorem m_listen_ok (C : MInv u z) (G : GoodH z.1) {v : Nat} (hv : v < hn z.1) (t1 : thr (hn z.1) (nI v)) : MC 164 [some (.ref 41), some (.int (nI v)), none, none, none, none, none, none] u (.int (lsI z.1 v)) z := by
  ((repeat refine VV.s rfl rfl ?_); (try (conv => arg 3; simp only [Nat.reduceAdd, sto1, sto2, isL, cond_true, cond_false, List.drop_succ_cons, List.drop_zero, List.drop_nil])))
  refine VV.callE rfl rfl rfl rfl (f_oneY C.1.1.1 t1) rfl ?_
  refine VV.s rfl rfl ?_
  refine VV.itt (by decide) ?_
  ((repeat refine VV.s rfl rfl ?_); (try (conv => arg 3; simp only [Nat.reduceAdd, sto1, sto2, isL, cond_true, cond_false, List.drop_succ_cons, List.drop_zero, List.drop_nil])))
  refine VV.callE rfl rfl rfl rfl (f_kindsOf C.1 G hv) rfl ?_
  ((repeat (fail_if_success show VV _ _ (28, _, _, _) _); refine VV.s rfl rfl ?_); (try (conv => arg 3; simp only [Nat.reduceAdd, sto1, sto2, isL, cond_true, cond_false, List.drop_succ_cons, List.drop_zero, List.drop_nil])))
  unfold lsI
  by_cases c : isK z.1 v = 0
  · rw [if_pos c]
    refine VV.s rfl rfl ?_
    refine VV.s rfl rfl ?_
    refine VV.s rfl rfl ?_
    refine VV.itf (by decide) ?_
    refine VV.s rfl rfl ?_
    refine VV.s rfl rfl ?_
    refine VV.itt c ?_
    ((repeat refine VV.s rfl rfl ?_); (try (conv => arg 3; simp only [Nat.reduceAdd, sto1, sto2, isL, cond_true, cond_false, List.drop_succ_cons, List.drop_zero, List.drop_nil])))
    exact VV.ret1 rfl ⟨rfl, C, Agr.rf⟩
  · rw [if_neg c]
    refine VV.mono (m_listen_out C G hv c 5 0 (-1, 7) none none (by omega) (by simp)) (fun r t q => ?_)
    obtain ⟨rfl, rfl⟩ := q
    exact ⟨rfl, C, Agr.rf⟩
theorem m_whose_bad (C : MInv u z) {s : Int32} (h : s < 0 ∨ 9 < s) : MC 165 [some (.ref 41), some (.int s), none, none] u (.int (-2)) (zB z) := by
  ((repeat refine VV.s rfl rfl ?_); (try (conv => arg 3; simp only [Nat.reduceAdd, sto1, sto2, isL, cond_true, cond_false, List.drop_succ_cons, List.drop_zero, List.drop_nil])))
  refine VV.callE rfl rfl rfl rfl (f_inN h) rfl ?_
  refine VV.s rfl rfl ?_
  refine VV.itf (by decide) ?_
  ((repeat refine VV.s rfl rfl ?_); (try (conv => arg 3; simp only [Nat.reduceAdd, sto1, sto2, isL, cond_true, cond_false, List.drop_succ_cons, List.drop_zero, List.drop_nil])))
  refine VV.callE rfl rfl rfl rfl f_bad rfl ?_
  ((repeat refine VV.s rfl rfl ?_); (try (conv => arg 3; simp only [Nat.reduceAdd, sto1, sto2, isL, cond_true, cond_false, List.drop_succ_cons, List.drop_zero, List.drop_nil])))
  exact VV.ret1 rfl ⟨rfl, C.bad, (Agr.rf).A (by decide)⟩
theorem m_whose_ok (C : MInv u z) (G : GoodH z.1) {s : Nat} (hs : s ≤ 9) (h : ¬ (nI s < 0 ∨ 9 < nI s)) : MC 165 [some (.ref 41), some (.int (nI s)), none, none] u (.int (bts (fun v => decide (sdH z.1 v = s)) (hn z.1) 0 0)) z := by
  have hN := C.1.1.1
  have h6 := G.1.1
  have lp : ∀ k i a, i + k = hn z.1 → V 165 (19, [some (.ref 41), some (.int (nI s)), some (.int a), some (.int (nI i))], [], u) (is (.int (bts (fun v => decide (sdH z.1 v = s)) k i a)) u) := by
    intro k
    induction k with
    | zero =>
      intro i a hi
      ((repeat refine VV.s rfl rfl ?_); (try (conv => arg 3; simp only [Nat.reduceAdd, sto1, sto2, isL, cond_true, cond_false, List.drop_succ_cons, List.drop_zero, List.drop_nil])))
      refine VV.itt (by rw [hN]; exact nI_le (by omega) (by omega)) ?_
      ((repeat refine VV.s rfl rfl ?_); (try (conv => arg 3; simp only [Nat.reduceAdd, sto1, sto2, isL, cond_true, cond_false, List.drop_succ_cons, List.drop_zero, List.drop_nil])))
      exact VV.ret1 rfl ⟨rfl, rfl⟩
    | succ k ih =>
      intro i a hi
      ((repeat refine VV.s rfl rfl ?_); (try (conv => arg 3; simp only [Nat.reduceAdd, sto1, sto2, isL, cond_true, cond_false, List.drop_succ_cons, List.drop_zero, List.drop_nil])))
      refine VV.itf (by rw [hN]; exact nI_ge (by omega) (by omega)) ?_
      ((repeat refine VV.s rfl rfl ?_); (try (conv => arg 3; simp only [Nat.reduceAdd, sto1, sto2, isL, cond_true, cond_false, List.drop_succ_cons, List.drop_zero, List.drop_nil])))
      refine VV.callE rfl rfl rfl rfl (f_sound C.1 G (show i < hn z.1 by omega)) rfl ?_
      ((repeat refine VV.s rfl rfl ?_); (try (conv => arg 3; simp only [Nat.reduceAdd, sto1, sto2, isL, cond_true, cond_false, List.drop_succ_cons, List.drop_zero, List.drop_nil])))
      rw [bts]
      have hl := sdH_le G (show i < hn z.1 by omega)
      refine VV.ite (fun q => ?_) (fun q => ?_)
      · rw [eq_nI (by omega) (by omega)] at q
        ((repeat (fail_if_success show VV _ _ (19, _, _, _) _); refine VV.s rfl rfl ?_); (try (conv => arg 3; simp only [Nat.reduceAdd, sto1, sto2, isL, cond_true, cond_false, List.drop_succ_cons, List.drop_zero, List.drop_nil])))
        rw [if_neg (by simp [q]), nI_1, or0]
        exact ih (i + 1) a (by omega)
      · rw [eq_nI (by omega) (by omega)] at q
        ((repeat (fail_if_success show VV _ _ (19, _, _, _) _); refine VV.s rfl rfl ?_); (try (conv => arg 3; simp only [Nat.reduceAdd, sto1, sto2, isL, cond_true, cond_false, List.drop_succ_cons, List.drop_zero, List.drop_nil])))
        rw [if_pos (by simp [Classical.not_not.mp q]), nI_1]
        exact ih (i + 1) _ (by omega)
  ((repeat refine VV.s rfl rfl ?_); (try (conv => arg 3; simp only [Nat.reduceAdd, sto1, sto2, isL, cond_true, cond_false, List.drop_succ_cons, List.drop_zero, List.drop_nil])))
  refine VV.callE rfl rfl rfl rfl (f_inY h) rfl ?_
  refine VV.s rfl rfl ?_
  refine VV.itt (by decide) ?_
  ((repeat (fail_if_success show VV _ _ (19, _, _, _) _); refine VV.s rfl rfl ?_); (try (conv => arg 3; simp only [Nat.reduceAdd, sto1, sto2, isL, cond_true, cond_false, List.drop_succ_cons, List.drop_zero, List.drop_nil])))
  refine VV.mono (lp (hn z.1) 0 0 (by omega)) (fun r t q => ?_)
  obtain ⟨rfl, rfl⟩ := q
  exact ⟨rfl, C, Agr.rf⟩
/-- what one gets, as + 1 -/
def gtA (h : Hs) (p v : Nat) (a o f : Bool) : Int32 := nI (if a = true ∧ (f = true ∨ o = false) then ftH h p v else fnH h p) - (if a then 1 else 0)
set_option maxHeartbeats 4000000 in
theorem f_gets {h : Hs} (R : MRep u h) (G : GoodH h) {p v : Nat} {a o f : Bool} (hp : p < hn h) (hv : v < hn h) : V 166 (0, [some (.ref 41), some (.int (nI p)), some (.int (nI v)), some (.int (b01 a)), some (.int (b01 o)), some (.int (b01 f)), none], [], u) (is (.int (gtA h p v a o f)) u) := by
  have fin : ∀ x : Nat, x = (if a = true ∧ (f = true ∨ o = false) then ftH h p v else fnH h p) → ∀ d, V 166 (40, [some (.ref 41), some (.int (nI p)), some (.int (nI v)), some (.int (b01 a)), some (.int (b01 o)), some (.int (b01 f)), d], [.int (nI x)], u) (is (.int (gtA h p v a o f)) u) := by
    intro x hx d
    refine VV.s rfl rfl ?_
    refine VV.s rfl rfl ?_
    unfold gtA
    rw [← hx]
    cases a with
    | true =>
      refine VV.itf (by decide) ?_
      ((repeat refine VV.s rfl rfl ?_); (try (conv => arg 3; simp only [Nat.reduceAdd, sto1, sto2, isL, cond_true, cond_false, List.drop_succ_cons, List.drop_zero, List.drop_nil])))
      exact VV.ret1 rfl ⟨rfl, rfl⟩
    | false =>
      refine VV.itt rfl ?_
      ((repeat refine VV.s rfl rfl ?_); (try (conv => arg 3; simp only [Nat.reduceAdd, sto1, sto2, isL, cond_true, cond_false, List.drop_succ_cons, List.drop_zero, List.drop_nil])))
      exact VV.ret1 rfl ⟨rfl, rfl⟩
  have yes : (a = true ∧ (f = true ∨ o = false)) → ∀ d, V 166 (14, [some (.ref 41), some (.int (nI p)), some (.int (nI v)), some (.int (b01 a)), some (.int (b01 o)), some (.int (b01 f)), d], [], u) (is (.int (gtA h p v a o f)) u) := by
    intro c d
    refine VV.s rfl rfl ?_
    refine VV.s rfl rfl ?_
    refine VV.s rfl rfl ?_
    refine VV.s rfl rfl ?_
    refine VV.s rfl rfl ?_
    refine VV.itf (by decide) ?_
    ((repeat refine VV.s rfl rfl ?_); (try (conv => arg 3; simp only [Nat.reduceAdd, sto1, sto2, isL, cond_true, cond_false, List.drop_succ_cons, List.drop_zero, List.drop_nil])))
    refine VV.callE rfl rfl rfl rfl (f_fitWith R G hp hv) rfl ?_
    ((repeat (fail_if_success show VV _ _ (40, _, _, _) _); refine VV.s rfl rfl ?_); (try (conv => arg 3; simp only [Nat.reduceAdd, sto1, sto2, isL, cond_true, cond_false, List.drop_succ_cons, List.drop_zero, List.drop_nil])))
    exact fin _ (if_pos c).symm _
  have no : ¬ (a = true ∧ (f = true ∨ o = false)) → ∀ d, V 166 (18, [some (.ref 41), some (.int (nI p)), some (.int (nI v)), some (.int (b01 a)), some (.int (b01 o)), some (.int (b01 f)), d], [], u) (is (.int (gtA h p v a o f)) u) := by
    intro c d
    refine VV.s rfl rfl ?_
    refine VV.s rfl rfl ?_
    refine VV.s rfl rfl ?_
    refine VV.s rfl rfl ?_
    refine VV.itt rfl ?_
    ((repeat refine VV.s rfl rfl ?_); (try (conv => arg 3; simp only [Nat.reduceAdd, sto1, sto2, isL, cond_true, cond_false, List.drop_succ_cons, List.drop_zero, List.drop_nil])))
    refine VV.callE rfl rfl rfl rfl (f_fitNow R G hp) rfl ?_
    exact fin _ (if_neg c).symm _
  refine VV.s rfl rfl ?_
  refine VV.s rfl rfl ?_
  cases a with
  | false =>
    refine VV.itt rfl ?_
    exact no (by simp) _
  | true =>
    refine VV.itf (by decide) ?_
    refine VV.s rfl rfl ?_
    refine VV.s rfl rfl ?_
    cases f with
    | true =>
      refine VV.itt (by decide) ?_
      exact yes (by simp) _
    | false =>
      refine VV.itf (fun q => q rfl) ?_
      refine VV.s rfl rfl ?_
      refine VV.s rfl rfl ?_
      cases o with
      | true =>
        refine VV.itt (by decide) ?_
        exact no (by simp) _
      | false =>
        refine VV.itf (fun q => q rfl) ?_
        exact yes (by simp) _
/-- would not get more by doing otherwise -/
theorem gt_cnt (h : Hs) (p q v : Nat) (a o : Bool) (hne : p ≠ q) : (gtA h p v a o (decide (p < q)) < gtA h p v (!a) o (decide (p < q))) = ¬ (cnt a (byA h v p q o) (fnH h p) = true) := by
  have l1 := fnH_le h p
  have l2 := ftH_le h p v
  have e : ∀ f : Bool, f = decide (p < q) → (if f = true ∨ o = false then ftH h p v else fnH h p) = byA h v p q o := by
    intro f hf
    unfold byA
    by_cases c : p < q
    · rw [if_pos (Or.inl (by rw [hf]; simp [c])), if_neg (by omega)]
    · cases o with
      | true => rw [if_neg (by rw [hf]; simp [c]), if_pos ⟨rfl, by omega⟩]
      | false => rw [if_pos (Or.inr rfl), if_neg (by simp)]
  have l3 := byA_le h v p q o
  have s1 : ∀ x : Nat, nI x - 1 = cI x := fun x => rfl
  have s0 : ∀ x : Nat, nI x - 0 = nI x := fun x => Int32.sub_zero _
  unfold gtA
  cases a with
  | true =>
    simp only [Bool.not_true, true_and, Bool.false_eq_true, false_and, if_false, if_true]
    rw [e _ rfl, s1, s0, cI_lt (by omega) (by omega)]
    simp [cnt]
  | false =>
    simp only [Bool.not_false, true_and, Bool.false_eq_true, false_and, if_false, if_true]
    rw [e _ rfl, s1, s0, lt_cI (by omega) (by omega)]
    simp [cnt]
end M6
