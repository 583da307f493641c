/-! ===== reading: the reference's items ===== -/
section RM3
variable {u : Sg} {z : Zs} {T : Nat → Nat} {N : Nat}
/-- nothing but what is read may have changed -/
def FR (u t : Sg) : Prop := (∀ k, k ≠ 55 → k ≠ 56 → gA t k = gA u k) ∧ (∀ k j, k ≠ 41 ∨ (j ≠ 17 ∧ j ≠ 18 ∧ j ≠ 21) → gI t k j = gI u k j) ∧ ∀ k j, gJ t k j = gJ u k j
theorem FR.rf : FR u u := ⟨fun _ _ _ => rfl, fun _ _ _ => rfl, fun _ _ => rfl⟩
theorem FR.tr {v w : Sg} (a : FR u v) (b : FR v w) : FR u w := ⟨fun k h1 h2 => (b.1 k h1 h2).trans (a.1 k h1 h2), fun k j h => (b.2.1 k j h).trans (a.2.1 k j h), fun k j => (b.2.2 k j).trans (a.2.2 k j)⟩
theorem FR.I {v : Sg} {j : Nat} {x : Int32} (a : FR u v) (hj : j = 17 ∨ j = 18 ∨ j = 21) : FR u (pI v 41 j x) := ⟨a.1, fun k i h => by
  rw [gI_pI]
  by_cases e : k = 41
  · rw [if_pos e, if_neg (by omega)]; exact a.2.1 k i h
  · rw [if_neg e]; exact a.2.1 k i h, a.2.2⟩
theorem FR.A {v : Sg} {k : Nat} {f : Nat → Int32} (a : FR u v) (hk : k = 55 ∨ k = 56) : FR u (pA v k f) := ⟨fun q h1 h2 => by rw [gA_pA, if_neg (by omega)]; exact a.1 q h1 h2, a.2.1, a.2.2⟩
theorem F17.FR {t : Sg} (a : F17 u t) : FR u t := ⟨fun k _ _ => a.1 k, fun k j h => a.2.1 k j (by omega), a.2.2⟩
theorem TM.fr {t : Sg} (X : TM T N u) (A : FR u t) : TM T N t := ⟨X.1, X.2.1, by rw [A.1 54 (by decide) (by decide)]; exact X.2.2.1, by rw [A.2.1 41 16 (by omega)]; exact X.2.2.2⟩
/-- a counter as it is read: nothing used, nothing slipped, no evening, no notes, no past -/
def RM (h : Hs) (t : Sg) : Prop := (gI t 41 18 = nI (hn h) ∧ ∀ v, v < hn h → gA t 55 (3 * v) = nI (hkd h v) ∧ gA t 55 (3 * v + 1) = nI (hso h v) ∧ gA t 55 (3 * v + 2) = nI (hwa h v) ∧ gA t 56 v = cI (hho h v)) ∧ (hev h = 0 ∧ hnn h = 0 ∧ hun h = 0) ∧ ∀ v, v < hn h → hus h v = 0 ∧ hsl h v = 0
theorem RM.keep {t t2 : Sg} {h : Hs} (R : RM h t) (A : F17 t t2) : RM h t2 := ⟨⟨by rw [A.2.1 41 18 (by omega)]; exact R.1.1, by rw [A.1, A.1]; exact R.1.2⟩, R.2⟩
def RQ (u : Sg) : Nat ⊕ (Hs × Nat) → Option Value → Sg → Prop
  | .inl f, r, t => r = some (.int 0) ∧ gI t 41 17 = nI f ∧ FR u t
  | .inr (h, e), r, t => r = some (.int 1) ∧ RM h t ∧ gI t 41 17 = nI e ∧ FR u t
theorem RQ_end {t : Sg} {h : Hs} {i : Nat} (X : TM T N t) (hi : i ≤ N) (g : gI t 41 17 = nI i) (R : RM h t) (A : FR u t) : V 117 (0, [some (.ref 41)], [], t) (fun r t => (r = some (.int 0) ∨ r = some (.int 1)) ∧ RQ u (match rdEnd T N i with | .inl f => .inl f | .inr e => .inr (h, e)) r t) := by
  refine VV.mono (f_ends X hi g) (fun r t q => ?_)
  obtain ⟨A2, q⟩ := q
  rcases q with ⟨f, e, rfl, g3⟩ | ⟨e, q, rfl, g4⟩
  · rw [e]
    exact ⟨Or.inl rfl, rfl, g3, A.tr A2.FR⟩
  · rw [q]
    exact ⟨Or.inr rfl, rfl, R.keep A2, g4, A.tr A2.FR⟩
set_option maxHeartbeats 4000000 in
theorem f_readVoice {h : Hs} (R : RM h u) (G : GoodH h) {p : Nat} (hp : p + 1 < 2 ^ 31) : V 119 (0, [some (.ref 41), some (.int (nI p)), none, none], [], u) (is (.int (cI (voH h p))) u) := by
  have h6 := G.1.1
  have hN := R.1.1
  have e0 : voH h p = vl (hho h) p (hn h) := (vl_eq G.2.2.1 p).symm
  rw [e0]
  have lp : ∀ k i, i + k = hn h → V 119 (4, [some (.ref 41), some (.int (nI p)), some (.int (cI (vl (hho h) p i))), some (.int (nI i))], [], u) (is (.int (cI (vl (hho h) p (hn h)))) u) := by
    intro k
    induction k with
    | zero =>
      intro i hi
      ((repeat refine VV.s rfl rfl ?_); (try (conv => arg 3; simp only [Nat.reduceAdd, sto1, sto2, isL, cond_true, cond_false, List.drop_succ_cons, List.drop_zero, List.drop_nil])))
      refine VV.itt (by rw [hN]; exact nI_le (by omega) (by omega)) ?_
      ((repeat refine VV.s rfl rfl ?_); (try (conv => arg 3; simp only [Nat.reduceAdd, sto1, sto2, isL, cond_true, cond_false, List.drop_succ_cons, List.drop_zero, List.drop_nil])))
      exact VV.ret1 rfl ⟨by rw [show i = hn h by omega], rfl⟩
    | succ k ih =>
      intro i hi
      have hl := (G.2.2.1.1 i (show i < hn h by omega)).1
      ((repeat refine VV.s rfl rfl ?_); (try (conv => arg 3; simp only [Nat.reduceAdd, sto1, sto2, isL, cond_true, cond_false, List.drop_succ_cons, List.drop_zero, List.drop_nil])))
      refine VV.itf (by rw [hN]; exact nI_ge (by omega) (by omega)) ?_
      ((repeat refine VV.s rfl rfl ?_); (try (conv => arg 3; simp only [Nat.reduceAdd, sto1, sto2, isL, cond_true, cond_false, List.drop_succ_cons, List.drop_zero, List.drop_nil])))
      refine VV.iald rfl rfl rfl (show i < 6 by omega) (by decide) ?_
      rw [(R.1.2 i (show i < hn h by omega)).2.2.2]
      ((repeat refine VV.s rfl rfl ?_); (try (conv => arg 3; simp only [Nat.reduceAdd, sto1, sto2, isL, cond_true, cond_false, List.drop_succ_cons, List.drop_zero, List.drop_nil])))
      have nx := ih (i + 1) (by omega)
      rw [vl] at nx
      refine VV.ite (fun q => ?_) (fun q => ?_)
      · rw [cI_nI (by omega) hp] at q
        rw [if_neg q] at nx
        ((repeat (fail_if_success show VV _ _ (4, _, _, _) _); refine VV.s rfl rfl ?_); (try (conv => arg 3; simp only [Nat.reduceAdd, sto1, sto2, isL, cond_true, cond_false, List.drop_succ_cons, List.drop_zero, List.drop_nil])))
        rw [nI_1]
        exact nx
      · have q := Classical.not_not.mp q
        rw [cI_nI (by omega) hp] at q
        rw [if_pos q, cI_s] at nx
        ((repeat (fail_if_success show VV _ _ (4, _, _, _) _); refine VV.s rfl rfl ?_); (try (conv => arg 3; simp only [Nat.reduceAdd, sto1, sto2, isL, cond_true, cond_false, List.drop_succ_cons, List.drop_zero, List.drop_nil])))
        rw [nI_1]
        exact nx
  ((repeat (fail_if_success show VV _ _ (4, _, _, _) _); refine VV.s rfl rfl ?_); (try (conv => arg 3; simp only [Nat.reduceAdd, sto1, sto2, isL, cond_true, cond_false, List.drop_succ_cons, List.drop_zero, List.drop_nil])))
  exact lp (hn h) 0 (by omega)
theorem RM.put {t : Sg} {h : Hs} (R : RM h t) {v : Nat} {x : Nat} {y : Int32} (e : y = cI x) {us : Nat → Nat} (hus0 : ∀ w, w < hn h → us w = 0) : RM (hW h (updN (hho h) v x) us) (pA t 56 (upd (gA t 56) v y)) := by
  refine ⟨⟨R.1.1, fun w hw => ?_⟩, R.2.1, fun w hw => ⟨hus0 w hw, (R.2.2 w hw).2⟩⟩
  have := R.1.2 w hw
  refine ⟨this.1, this.2.1, this.2.2.1, ?_⟩
  show (pA t 56 (upd (gA t 56) v y)).2.2 56 w = cI (updN (hho h) v x w)
  show upd (gA t 56) v y w = _
  rw [upd_at, updN_at]
  split
  · exact e
  · exact this.2.2.2
theorem upd0 {us : Nat → Nat} {n v : Nat} (h : ∀ w, w < n → us w = 0) : ∀ w, w < n → updN us v 0 w = 0 := by
  intro w hw
  rw [updN_at]
  split
  · rfl
  · exact h w hw
set_option maxHeartbeats 8000000 in
theorem f_readsLeave {h : Hs} {i : Nat} (X : TM T N u) (hi : i ≤ N) (g : gI u 41 17 = nI i) (R : RM h u) (G : GoodH h) : V 120 (0, [some (.ref 41), none, none], [], u) (RQ u (pLeave T N h i)) := by
  have h6 := G.1.1
  have hs := rdSk_le T hi
  unfold pLeave
  ((repeat refine VV.s rfl rfl ?_); (try (conv => arg 3; simp only [Nat.reduceAdd, sto1, sto2, isL, cond_true, cond_false, List.drop_succ_cons, List.drop_zero, List.drop_nil])))
  refine VV.call rfl rfl rfl rfl (f_skip0 X hi g) (fun r t q => ?_)
  obtain ⟨rfl, k, A⟩ := q
  have hsk : rdSk T N (rdSk T N i) = rdSk T N i := by
    unfold rdSk
    by_cases c : rdRun (isBl T) (N - i) i < N
    · rw [rdRun_s c]
      have : ∀ m i, rdRun (isBl T) m i < i + m → isBl T (rdRun (isBl T) m i) = false := by
        intro m
        induction m with
        | zero => intro i h; rw [rdRun] at h; omega
        | succ m ih =>
          intro i h
          rw [rdRun] at h ⊢
          split
          · rename_i q
            rw [if_pos q] at h
            exact ih (i + 1) (by omega)
          · rename_i q
            cases x : isBl T i with
            | true => exact absurd x q
            | false => rfl
      rw [this (N - i) i (by omega)]
      rfl
    · exact rdRun_0 (by omega)
  have hnum : rdNum T N (rdSk T N i) (hn h) = rdNum T N i (hn h) := by
    unfold rdNum
    rw [hsk]
  ((repeat refine VV.s rfl rfl ?_); (try (conv => arg 3; simp only [Nat.reduceAdd, sto1, sto2, isL, cond_true, cond_false, List.drop_succ_cons, List.drop_zero, List.drop_nil])))
  rw [k, (R.keep A).1.1]
  refine VV.call rfl rfl rfl rfl (f_number (b := hn h) (X.keep A) hs.2 k (by omega)) (fun r t2 q => ?_)
  obtain ⟨A2, q⟩ := q
  rw [hnum] at q
  have A2 := A.tr A2
  rcases q with ⟨f, e, rfl, g3⟩ | ⟨p, i1, e, rfl, g5, g4⟩
  · rw [e]
    refine VV.s rfl rfl ?_
    refine VV.itf (fun x => x rfl) ?_
    ((repeat refine VV.s rfl rfl ?_); (try (conv => arg 3; simp only [Nat.reduceAdd, sto1, sto2, isL, cond_true, cond_false, List.drop_succ_cons, List.drop_zero, List.drop_nil])))
    exact VV.ret3 rfl (Or.inl rfl) ⟨rfl, g3, A2.FR⟩
  rw [e]
  obtain ⟨k1, k2, k3, -⟩ := rdNum_r hi e
  refine VV.s rfl rfl ?_
  refine VV.itt (by decide) ?_
  ((repeat refine VV.s rfl rfl ?_); (try (conv => arg 3; simp only [Nat.reduceAdd, sto1, sto2, isL, cond_true, cond_false, List.drop_succ_cons, List.drop_zero, List.drop_nil])))
  rw [g5]
  refine VV.callE rfl rfl rfl rfl (f_readVoice (R.keep A2) G (p := p) (by omega)) rfl ?_
  rcases voH_spec h p with ⟨hv, -⟩ | ⟨v, hv1, hv, -⟩
  · show V _ _ (RQ u (match voH h p with | 0 => _ | v + 1 => _))
    rw [hv]
    refine VV.s rfl rfl ?_
    refine VV.s rfl rfl ?_
    refine VV.s rfl rfl ?_
    refine VV.s rfl rfl ?_
    refine VV.itf (fun x => x rfl) ?_
    ((repeat refine VV.s rfl rfl ?_); (try (conv => arg 3; simp only [Nat.reduceAdd, sto1, sto2, isL, cond_true, cond_false, List.drop_succ_cons, List.drop_zero, List.drop_nil])))
    exact VV.ret3 rfl (Or.inl rfl) ⟨rfl, rfl, A2.FR.I (Or.inl rfl)⟩
  · show V _ _ (RQ u (match voH h p with | 0 => _ | v + 1 => _))
    rw [hv, cI_s]
    ((repeat refine VV.s rfl rfl ?_); (try (conv => arg 3; simp only [Nat.reduceAdd, sto1, sto2, isL, cond_true, cond_false, List.drop_succ_cons, List.drop_zero, List.drop_nil])))
    refine VV.itt (nI_ne1 (by omega)) ?_
    ((repeat refine VV.s rfl rfl ?_); (try (conv => arg 3; simp only [Nat.reduceAdd, sto1, sto2, isL, cond_true, cond_false, List.drop_succ_cons, List.drop_zero, List.drop_nil])))
    refine VV.iast rfl rfl rfl (show v < 6 by omega) (by decide) ?_
    ((repeat refine VV.s rfl rfl ?_); (try (conv => arg 3; simp only [Nat.reduceAdd, sto1, sto2, isL, cond_true, cond_false, List.drop_succ_cons, List.drop_zero, List.drop_nil])))
    have R3 : RM (hLv h v) (pA t2 56 (upd (gA t2 56) v (-1))) := (R.keep A2).put (v := v) (x := 0) rfl (upd0 (fun w hw => (R.2.2 w hw).1))
    refine VV.call rfl rfl rfl rfl (RQ_end (u := u) (X.fr (A2.FR.A (Or.inr rfl))) k2 g4 R3 (A2.FR.A (Or.inr rfl))) (fun r t5 q1 => ?_)
    obtain ⟨hr, q1⟩ := q1
    rcases hr with rfl | rfl
    · exact VV.ret3 rfl (Or.inl rfl) q1
    · exact VV.ret3 rfl (Or.inr rfl) q1
end RM3
