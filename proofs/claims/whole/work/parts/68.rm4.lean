/-! ===== reading: the reference's items, on ===== -/
section RM4
variable {u : Sg} {z : Zs} {T : Nat → Nat} {N : Nat}
theorem rdSk_sk {i : Nat} (hi : i ≤ N) : rdSk T N (rdSk T N i) = rdSk T N i := by
  have hs := rdSk_le T hi
  unfold rdSk at hs ⊢
  by_cases c : rdRun (isBl T) (N - i) i < N
  · rw [rdRun_s c]
    have : ∀ m i, rdRun (isBl T) m i < i + m → isBl T (rdRun (isBl T) m i) = false := by
      intro m
      induction m with
      | zero => intro i h; rw [rdRun] at h; omega
      | succ m ih =>
        intro i h
        rw [rdRun] at h ⊢
        split
        · rename_i q
          rw [if_pos q] at h
          exact ih (i + 1) (by omega)
        · rename_i q
          cases x : isBl T i with
          | true => exact absurd x q
          | false => rfl
    rw [this (N - i) i (by omega)]
    rfl
  · exact rdRun_0 (by omega)
theorem RM.I17 {t : Sg} {h : Hs} (R : RM h t) {x : Int32} : RM h (pI t 41 17 x) := R
set_option maxHeartbeats 8000000 in
theorem f_readsLend {h : Hs} {i : Nat} (X : TM T N u) (hi : i ≤ N) (g : gI u 41 17 = nI i) (R : RM h u) (G : GoodH h) : V 121 (0, [some (.ref 41), none, none, none], [], u) (RQ u (pLend T N h i)) := by
  have h6 := G.1.1
  have hs := rdSk_le T hi
  unfold pLend
  ((repeat refine VV.s rfl rfl ?_); (try (conv => arg 3; simp only [Nat.reduceAdd, sto1, sto2, isL, cond_true, cond_false, List.drop_succ_cons, List.drop_zero, List.drop_nil])))
  refine VV.call rfl rfl rfl rfl (f_skip0 X hi g) (fun r t q => ?_)
  obtain ⟨rfl, k, A⟩ := q
  have hnum : rdNum T N (rdSk T N i) (hn h) = rdNum T N i (hn h) := by
    unfold rdNum
    rw [rdSk_sk hi]
  ((repeat refine VV.s rfl rfl ?_); (try (conv => arg 3; simp only [Nat.reduceAdd, sto1, sto2, isL, cond_true, cond_false, List.drop_succ_cons, List.drop_zero, List.drop_nil])))
  rw [k, (R.keep A).1.1]
  refine VV.call rfl rfl rfl rfl (f_number (b := hn h) (X.keep A) hs.2 k (by omega)) (fun r t2 q => ?_)
  obtain ⟨A2, q⟩ := q
  rw [hnum] at q
  have A2 := A.tr A2
  rcases q with ⟨f, e, rfl, g3⟩ | ⟨v, i1, e, rfl, g5, g4⟩
  · rw [e]
    refine VV.s rfl rfl ?_
    refine VV.itf (fun x => x rfl) ?_
    ((repeat refine VV.s rfl rfl ?_); (try (conv => arg 3; simp only [Nat.reduceAdd, sto1, sto2, isL, cond_true, cond_false, List.drop_succ_cons, List.drop_zero, List.drop_nil])))
    exact VV.ret3 rfl (Or.inl rfl) ⟨rfl, g3, A2.FR⟩
  rw [e]
  obtain ⟨k1, k2, k3, -⟩ := rdNum_r hi e
  have R2 := R.keep A2
  have hl := (G.2.2.1.1 v k1).1
  refine VV.s rfl rfl ?_
  refine VV.itt (by decide) ?_
  ((repeat refine VV.s rfl rfl ?_); (try (conv => arg 3; simp only [Nat.reduceAdd, sto1, sto2, isL, cond_true, cond_false, List.drop_succ_cons, List.drop_zero, List.drop_nil])))
  rw [g5]
  refine VV.iald rfl rfl rfl (show v < 6 by omega) (by decide) ?_
  rw [(R2.1.2 v k1).2.2.2]
  ((repeat refine VV.s rfl rfl ?_); (try (conv => arg 3; simp only [Nat.reduceAdd, sto1, sto2, isL, cond_true, cond_false, List.drop_succ_cons, List.drop_zero, List.drop_nil])))
  refine VV.ite (fun q => ?_) (fun q => ?_)
  · rw [cI_none (by omega)] at q
    show V _ _ (RQ u (if hho h v = 0 then _ else _))
    rw [if_pos q]
    ((repeat refine VV.s rfl rfl ?_); (try (conv => arg 3; simp only [Nat.reduceAdd, sto1, sto2, isL, cond_true, cond_false, List.drop_succ_cons, List.drop_zero, List.drop_nil])))
    rw [R2.1.1]
    refine VV.call rfl rfl rfl rfl (f_number (b := hn h) (X.keep A2) k2 g4 (by omega)) (fun r t3 q => ?_)
    obtain ⟨A3, q⟩ := q
    have A3 := A2.tr A3
    rcases q with ⟨f, e, rfl, g3⟩ | ⟨p, i2, e, rfl, g5, g4⟩
    · rw [e]
      refine VV.s rfl rfl ?_
      refine VV.itf (fun x => x rfl) ?_
      ((repeat refine VV.s rfl rfl ?_); (try (conv => arg 3; simp only [Nat.reduceAdd, sto1, sto2, isL, cond_true, cond_false, List.drop_succ_cons, List.drop_zero, List.drop_nil])))
      exact VV.ret3 rfl (Or.inl rfl) ⟨rfl, g3, A3.FR⟩
    rw [e]
    obtain ⟨j1, j2, j3, -⟩ := rdNum_r k2 e
    have R3 := R.keep A3
    have z0 : ∀ w, w < hn h → hus h w = 0 := fun w hw => (R.2.2 w hw).1
    refine VV.s rfl rfl ?_
    refine VV.itt (by decide) ?_
    ((repeat refine VV.s rfl rfl ?_); (try (conv => arg 3; simp only [Nat.reduceAdd, sto1, sto2, isL, cond_true, cond_false, List.drop_succ_cons, List.drop_zero, List.drop_nil])))
    rw [g5]
    refine VV.callE rfl rfl rfl rfl (f_readVoice R3 G (p := p) (by omega)) rfl ?_
    have fin : ∀ t4, RM (hGv h v p) t4 → FR u t4 → gI t4 41 17 = nI i2 → ∀ d2, V 121 (94, [some (.ref 41), some (.int (nI (rdSk T N i))), some (.int (nI v)), d2], [], t4) (RQ u (match rdEnd T N i2 with | .inl f => .inl f | .inr i3 => .inr (hGv h v p, i3))) := by
      intro t4 R4 A4 g6 d2
      ((repeat refine VV.s rfl rfl ?_); (try (conv => arg 3; simp only [Nat.reduceAdd, sto1, sto2, isL, cond_true, cond_false, List.drop_succ_cons, List.drop_zero, List.drop_nil])))
      refine VV.call rfl rfl rfl rfl (RQ_end (u := u) (X.fr A4) j2 g6 R4 A4) (fun r t5 q1 => ?_)
      obtain ⟨hr, q1⟩ := q1
      rcases hr with rfl | rfl
      · exact VV.ret3 rfl (Or.inl rfl) q1
      · exact VV.ret3 rfl (Or.inr rfl) q1
    rcases voH_spec h p with ⟨hv, -⟩ | ⟨w, hw1, hv, -⟩
    · rw [hv]
      refine VV.s rfl rfl ?_
      refine VV.s rfl rfl ?_
      refine VV.s rfl rfl ?_
      refine VV.s rfl rfl ?_
      refine VV.itt rfl ?_
      ((repeat refine VV.s rfl rfl ?_); (try (conv => arg 3; simp only [Nat.reduceAdd, sto1, sto2, isL, cond_true, cond_false, List.drop_succ_cons, List.drop_zero, List.drop_nil])))
      refine VV.iast rfl rfl rfl (show v < 6 by omega) (by decide) ?_
      refine fin _ ?_ (A3.FR.A (Or.inr rfl)) g4 _
      have e2 : hGv h v p = hW h (updN (hho h) v (p + 1)) (updN (hus h) v 0) := by unfold hGv; rw [hv]
      rw [e2]
      exact R3.put (v := v) (x := p + 1) (by rw [g5, cI_s]) (upd0 z0)
    · rw [hv, cI_s]
      ((repeat refine VV.s rfl rfl ?_); (try (conv => arg 3; simp only [Nat.reduceAdd, sto1, sto2, isL, cond_true, cond_false, List.drop_succ_cons, List.drop_zero, List.drop_nil])))
      refine VV.itf (nI_ne1 (by omega)) ?_
      ((repeat refine VV.s rfl rfl ?_); (try (conv => arg 3; simp only [Nat.reduceAdd, sto1, sto2, isL, cond_true, cond_false, List.drop_succ_cons, List.drop_zero, List.drop_nil])))
      refine VV.iast rfl rfl rfl (show w < 6 by omega) (by decide) ?_
      ((repeat refine VV.s rfl rfl ?_); (try (conv => arg 3; simp only [Nat.reduceAdd, sto1, sto2, isL, cond_true, cond_false, List.drop_succ_cons, List.drop_zero, List.drop_nil])))
      refine VV.iast rfl rfl rfl (show v < 6 by omega) (by decide) ?_
      refine fin _ ?_ ((A3.FR.A (Or.inr rfl)).A (Or.inr rfl)) g4 _
      have e2 : hGv h v p = hW h (updN (updN (hho h) w 0) v (p + 1)) (updN (updN (hus h) w 0) v 0) := by unfold hGv; rw [hv]
      rw [e2]
      have R4 := R3.put (v := w) (x := 0) (y := -1) rfl (upd0 (v := w) z0)
      exact R4.put (v := v) (x := p + 1) (by show gI t3 41 21 = _; rw [g5, cI_s]) (upd0 (upd0 z0))
  · rw [cI_none (by omega)] at q
    show V _ _ (RQ u (if hho h v = 0 then _ else _))
    rw [if_neg q]
    ((repeat refine VV.s rfl rfl ?_); (try (conv => arg 3; simp only [Nat.reduceAdd, sto1, sto2, isL, cond_true, cond_false, List.drop_succ_cons, List.drop_zero, List.drop_nil])))
    exact VV.ret3 rfl (Or.inl rfl) ⟨rfl, rfl, A2.FR.I (Or.inl rfl)⟩
/-- a number of a new one, written down at its place -/
theorem f_one_k {h : Hs} {t : Sg} {k i b : Nat} (hk : k < 3) (hb : cI b = (if k = 0 then 5 else 9)) (hb2 : b < 100) (X : TM T N t) (hi : i ≤ N) (g : gI t 41 17 = nI i) (h5 : hn h < 6) (g18 : gI t 41 18 = nI (hn h)) {Q : Option Value → Sg → Prop} (K0 : ∀ f t2, rdNum T N i b = .inl f → F17 t t2 → gI t2 41 17 = nI f → Q (some (.int 0)) t2) (K1 : ∀ v e t2, rdNum T N i b = .inr (v, e) → F17 t t2 → gI t2 41 17 = nI e → V 118 (2, [some (.ref 41), some (.int (nI (k + 1)))], [], pA t2 55 (upd (gA t2 55) (3 * hn h + k) (nI v))) Q) : V 118 (2, [some (.ref 41), some (.int (nI k))], [], t) Q := by
  have go : V 118 (19, [some (.ref 41), some (.int (nI k))], [.int (cI b), .int 0, .ref 41], t) Q := by
    refine VV.call rfl rfl rfl rfl (f_number (b := b) X hi g hb2) (fun r t2 q => ?_)
    obtain ⟨A, q⟩ := q
    rcases q with ⟨f, e, rfl, g3⟩ | ⟨v, e, q, rfl, g5, g4⟩
    · refine VV.s rfl rfl ?_
      refine VV.itf (fun x => x rfl) ?_
      ((repeat refine VV.s rfl rfl ?_); (try (conv => arg 3; simp only [Nat.reduceAdd, sto1, sto2, isL, cond_true, cond_false, List.drop_succ_cons, List.drop_zero, List.drop_nil])))
      exact VV.ret3 rfl (Or.inl rfl) (K0 f t2 e A g3)
    · refine VV.s rfl rfl ?_
      refine VV.itt (by decide) ?_
      ((repeat refine VV.s rfl rfl ?_); (try (conv => arg 3; simp only [Nat.reduceAdd, sto1, sto2, isL, cond_true, cond_false, List.drop_succ_cons, List.drop_zero, List.drop_nil])))
      have e18 : (3 : Int32) * gI t2 41 18 + nI k = nI (3 * hn h + k) := by
        rw [A.2.1 41 18 (by omega), g18, show (3 : Int32) = nI 3 from rfl, pk_mul, nI_add]
      refine VV.iast (n := 3 * hn h + k) rfl rfl e18 (show 3 * hn h + k < 18 by omega) (by decide) ?_
      ((repeat (fail_if_success show VV _ _ (2, _, _, _) _); refine VV.s rfl rfl ?_); (try (conv => arg 3; simp only [Nat.reduceAdd, sto1, sto2, isL, cond_true, cond_false, List.drop_succ_cons, List.drop_zero, List.drop_nil])))
      rw [nI_1, g5]
      exact K1 v e t2 q A g4
  ((repeat refine VV.s rfl rfl ?_); (try (conv => arg 3; simp only [Nat.reduceAdd, sto1, sto2, isL, cond_true, cond_false, List.drop_succ_cons, List.drop_zero, List.drop_nil])))
  refine VV.itf (nI_ge (b := 3) (by omega) (by omega)) ?_
  ((repeat refine VV.s rfl rfl ?_); (try (conv => arg 3; simp only [Nat.reduceAdd, sto1, sto2, isL, cond_true, cond_false, List.drop_succ_cons, List.drop_zero, List.drop_nil])))
  refine VV.ite (fun q => ?_) (fun q => ?_)
  · have q : ¬ nI k = nI 0 := q
    rw [eq_nI (by omega) (by omega)] at q
    rw [if_neg q] at hb
    ((repeat (fail_if_success show VV _ _ (19, _, _, _) _); refine VV.s rfl rfl ?_); (try (conv => arg 3; simp only [Nat.reduceAdd, sto1, sto2, isL, cond_true, cond_false, List.drop_succ_cons, List.drop_zero, List.drop_nil])))
    rw [← hb]
    exact go
  · have q : ¬ ¬ nI k = nI 0 := q
    rw [eq_nI (by omega) (by omega)] at q
    rw [if_pos (Classical.not_not.mp q)] at hb
    ((repeat (fail_if_success show VV _ _ (19, _, _, _) _); refine VV.s rfl rfl ?_); (try (conv => arg 3; simp only [Nat.reduceAdd, sto1, sto2, isL, cond_true, cond_false, List.drop_succ_cons, List.drop_zero, List.drop_nil])))
    rw [← hb]
    exact go
set_option maxHeartbeats 8000000 in
theorem f_readsOne {h : Hs} {s i : Nat} (X : TM T N u) (hi : i ≤ N) (g : gI u 41 17 = nI i) (R : RM h u) (G : GoodH h) (h5 : hn h < 6) : V 118 (0, [some (.ref 41), none], [], u) (RQ u (pOne T N h s i)) := by
  unfold pOne
  rw [if_neg (by omega)]
  ((repeat (fail_if_success show VV _ _ (2, _, _, _) _); refine VV.s rfl rfl ?_); (try (conv => arg 3; simp only [Nat.reduceAdd, sto1, sto2, isL, cond_true, cond_false, List.drop_succ_cons, List.drop_zero, List.drop_nil])))
  refine f_one_k (k := 0) (b := 6) (by omega) rfl (by omega) X hi g h5 R.1.1 (fun f t2 e A g3 => ?_) (fun kk i1 t2 e A2 g2 => ?_)
  · rw [e]; exact ⟨rfl, g3, A.FR⟩
  rw [e]
  obtain ⟨-, k2, -, -⟩ := rdNum_r hi e
  have B2 : FR u (pA t2 55 (upd (gA t2 55) (3 * hn h + 0) (nI kk))) := A2.FR.A (Or.inl rfl)
  refine f_one_k (T := T) (N := N) (h := h) (i := i1) (k := 1) (b := 10) (by omega) rfl (by omega) (X.fr B2) k2 g2 h5 (by show gI t2 41 18 = _; rw [A2.2.1 41 18 (by omega)]; exact R.1.1) (fun f t3 e A g3 => ?_) (fun qq i2 t3 e A3 g3 => ?_)
  · show RQ u (match rdNum T N i1 10 with | .inl f => .inl f | .inr (q, i2) => _) _ _
    rw [e]; exact ⟨rfl, g3, B2.tr A.FR⟩
  show V _ _ (RQ u (match rdNum T N i1 10 with | .inl f => .inl f | .inr (q, i2) => _))
  rw [e]
  obtain ⟨-, j2, -, -⟩ := rdNum_r k2 e
  have B3 : FR u (pA t3 55 (upd (gA t3 55) (3 * hn h + 1) (nI qq))) := (B2.tr A3.FR).A (Or.inl rfl)
  have g18 : gI t3 41 18 = nI (hn h) := by rw [A3.2.1 41 18 (by omega)]; show gI t2 41 18 = _; rw [A2.2.1 41 18 (by omega)]; exact R.1.1
  refine f_one_k (T := T) (N := N) (h := h) (i := i2) (k := 2) (b := 10) (by omega) rfl (by omega) (X.fr B3) j2 g3 h5 g18 (fun f t4 e A g4 => ?_) (fun ww i3 t4 e A4 g4 => ?_)
  · show RQ u (match rdNum T N i2 10 with | .inl f => .inl f | .inr (w, i3) => _) _ _
    rw [e]; exact ⟨rfl, g4, B3.tr A.FR⟩
  show V _ _ (RQ u (match rdNum T N i2 10 with | .inl f => .inl f | .inr (w, i3) => _))
  rw [e]
  obtain ⟨-, m2, -, -⟩ := rdNum_r j2 e
  have B4 : FR u (pA t4 55 (upd (gA t4 55) (3 * hn h + 2) (nI ww))) := (B3.tr A4.FR).A (Or.inl rfl)
  have g18 : gI t4 41 18 = nI (hn h) := by rw [A4.2.1 41 18 (by omega)]; exact g18
  refine VV.s rfl rfl ?_
  refine VV.s rfl rfl ?_
  refine VV.s rfl rfl ?_
  refine VV.itt (by decide) ?_
  ((repeat refine VV.s rfl rfl ?_); (try (conv => arg 3; simp only [Nat.reduceAdd, sto1, sto2, isL, cond_true, cond_false, List.drop_succ_cons, List.drop_zero, List.drop_nil])))
  refine VV.iast (n := hn h) rfl rfl g18 (show hn h < 6 by omega) (by decide) ?_
  ((repeat refine VV.s rfl rfl ?_); (try (conv => arg 3; simp only [Nat.reduceAdd, sto1, sto2, isL, cond_true, cond_false, List.drop_succ_cons, List.drop_zero, List.drop_nil])))
  have e55 : ∀ j, gA t4 55 j = upd (gA t3 55) (3 * hn h + 1) (nI qq) j := fun j => by rw [A4.1]; rfl
  have e54 : ∀ j, gA t3 55 j = upd (gA t2 55) (3 * hn h + 0) (nI kk) j := fun j => by rw [A3.1]; rfl
  have e53 : gA t2 55 = gA u 55 := A2.1 55
  have e56 : gA t4 56 = gA u 56 := by rw [A4.1]; show gA t3 56 = _; rw [A3.1]; show gA t2 56 = _; exact A2.1 56
  have R5 : RM (hOne h kk qq ww) (pI (pA (pA t4 55 (upd (gA t4 55) (3 * hn h + 2) (nI ww))) 56 (upd (gA (pA t4 55 (upd (gA t4 55) (3 * hn h + 2) (nI ww))) 56) (hn h) (gI (pA t4 55 (upd (gA t4 55) (3 * hn h + 2) (nI ww))) 41 18))) 41 18 (gI (pA (pA t4 55 (upd (gA t4 55) (3 * hn h + 2) (nI ww))) 56 (upd (gA (pA t4 55 (upd (gA t4 55) (3 * hn h + 2) (nI ww))) 56) (hn h) (gI (pA t4 55 (upd (gA t4 55) (3 * hn h + 2) (nI ww))) 41 18))) 41 18 + 1)) := by
    refine ⟨⟨?_, fun v hv => ?_⟩, ⟨R.2.1.1, R.2.1.2.1, rfl⟩, fun v hv => ?_⟩
    · show gI t4 41 18 + 1 = nI (hn h + 1)
      rw [g18, nI_1]
    · have hv : v < hn h + 1 := hv
      show upd (gA t4 55) (3 * hn h + 2) (nI ww) (3 * v) = nI (updN (hkd h) (hn h) kk v) ∧ upd (gA t4 55) (3 * hn h + 2) (nI ww) (3 * v + 1) = nI (updN (hso h) (hn h) qq v) ∧ upd (gA t4 55) (3 * hn h + 2) (nI ww) (3 * v + 2) = nI (updN (hwa h) (hn h) ww v) ∧ upd (gA t4 56) (hn h) (gI t4 41 18) v = cI (updN (hho h) (hn h) (hn h + 1) v)
      rw [updN_at, updN_at, updN_at, updN_at]
      by_cases c : v = hn h
      · rw [if_pos c, if_pos c, if_pos c, if_pos c, c]
        refine ⟨?_, ?_, ?_, ?_⟩
        · rw [upd_ne (by omega), e55, upd_ne (by omega), e54, upd_eq (by omega)]
        · rw [upd_ne (by omega), e55, upd_eq (by omega)]
        · rw [upd_eq (by omega)]
        · rw [upd_eq rfl, g18, cI_s]
      · have r := R.1.2 v (by omega)
        rw [if_neg c, if_neg c, if_neg c, if_neg c]
        refine ⟨?_, ?_, ?_, ?_⟩
        · rw [upd_ne (by omega), e55, upd_ne (by omega), e54, upd_ne (by omega), e53]; exact r.1
        · rw [upd_ne (by omega), e55, upd_ne (by omega), e54, upd_ne (by omega), e53]; exact r.2.1
        · rw [upd_ne (by omega), e55, upd_ne (by omega), e54, upd_ne (by omega), e53]; exact r.2.2.1
        · rw [upd_ne c, e56]; exact r.2.2.2
    · have hv : v < hn h + 1 := hv
      show updN (hus h) (hn h) 0 v = 0 ∧ updN (hsl h) (hn h) 0 v = 0
      rw [updN_at, updN_at]
      by_cases c : v = hn h
      · rw [if_pos c, if_pos c]; exact ⟨rfl, rfl⟩
      · rw [if_neg c, if_neg c]; exact R.2.2 v (by omega)
  have B5 := (B4.A (k := 56) (f := upd (gA (pA t4 55 (upd (gA t4 55) (3 * hn h + 2) (nI ww))) 56) (hn h) (gI (pA t4 55 (upd (gA t4 55) (3 * hn h + 2) (nI ww))) 41 18)) (Or.inr rfl)).I (j := 18) (x := gI (pA (pA t4 55 (upd (gA t4 55) (3 * hn h + 2) (nI ww))) 56 (upd (gA (pA t4 55 (upd (gA t4 55) (3 * hn h + 2) (nI ww))) 56) (hn h) (gI (pA t4 55 (upd (gA t4 55) (3 * hn h + 2) (nI ww))) 41 18))) 41 18 + 1) (Or.inr (Or.inl rfl))
  refine VV.call rfl rfl rfl rfl (RQ_end (u := u) (T := T) (N := N) (i := i3) (X.fr B5) m2 g4 R5 B5) (fun r t5 q1 => ?_)
  obtain ⟨hr, q1⟩ := q1
  rcases hr with rfl | rfl
  · exact VV.ret3 rfl (Or.inl rfl) q1
  · exact VV.ret3 rfl (Or.inr rfl) q1
end RM4
