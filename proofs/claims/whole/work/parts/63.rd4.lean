/-! ===== reading: the class's items ===== -/
section RD4
variable {u : Sg} {z : Zs} {T : Nat → Nat} {N : Nat}
/-- what an item does: a fault's place, or the counter behind it and where it ends -/
def pOne (T : Nat → Nat) (N : Nat) (h : Hs) (s i : Nat) : Nat ⊕ (Hs × Nat) := if 6 ≤ hn h then .inl s else match rdNum T N i 6 with
  | .inl f => .inl f
  | .inr (k, i1) => match rdNum T N i1 10 with
    | .inl f => .inl f
    | .inr (q, i2) => match rdNum T N i2 10 with
      | .inl f => .inl f
      | .inr (w, i3) => match rdEnd T N i3 with
        | .inl f => .inl f
        | .inr i4 => .inr (hOne h k q w, i4)
def pLeave (T : Nat → Nat) (N : Nat) (h : Hs) (i : Nat) : Nat ⊕ (Hs × Nat) := match rdNum T N i (hn h) with
  | .inl f => .inl f
  | .inr (p, i1) => match voH h p with
    | 0 => .inl (rdSk T N i)
    | v + 1 => match rdEnd T N i1 with
      | .inl f => .inl f
      | .inr i2 => .inr (hLv h v, i2)
def pLend (T : Nat → Nat) (N : Nat) (h : Hs) (i : Nat) : Nat ⊕ (Hs × Nat) := match rdNum T N i (hn h) with
  | .inl f => .inl f
  | .inr (v, i1) => if hho h v = 0 then (match rdNum T N i1 (hn h) with
    | .inl f => .inl f
    | .inr (p, i2) => match rdEnd T N i2 with
      | .inl f => .inl f
      | .inr i3 => .inr (hGv h v p, i3)) else .inl (rdSk T N i)
def pItem (T : Nat → Nat) (N : Nat) (h : Hs) (s : Nat) : Nat ⊕ (Hs × Nat) := if rdW T N 1 s = true then pOne T N h s (s + 3) else if rdW T N 2 s = true then pLeave T N h (s + 5) else if rdW T N 3 s = true then pLend T N h (s + 4) else .inl s
abbrev oR : Nat → Prop := fun k => k ≠ 37 ∧ offH 10 k
def RP (u : Sg) (N : Nat) : Nat ⊕ (Hs × Nat) → Option Value → Sg → Prop
  | .inl f, r, t => r = some (.int 0) ∧ gI t 37 3 = nI f ∧ gI t 37 1 = nI N ∧ Agr oR u t
  | .inr (h, e), r, t => r = some (.int 1) ∧ HRep t 10 h ∧ gI t 37 4 = nI e ∧ gI t 37 1 = nI N ∧ Agr oR u t
theorem oR37 {t : Sg} (A : Agr o37 u t) : Agr oR u t := A.sub (fun k hk => hk.1)
theorem oR10 {t : Sg} (A : Agr (offH 10) u t) : Agr oR u t := A.sub (fun k hk => hk.2)
theorem HRep.o37 {t : Sg} {h : Hs} (R : HRep u 10 h) (A : Agr o37 u t) : HRep t 10 h := R.keep (A.sub (fun k hk => by have := hk.2; show k ≠ 37; omega))
theorem rdEnd_r {i e : Nat} (hi : i ≤ N) (h : rdEnd T N i = .inr e) : e ≤ N ∧ i < e := by
  unfold rdEnd at h
  split at h
  · cases h
    have := rdSk_le T hi
    omega
  · cases h
/-- at its end a stop -/
theorem RP_end {t : Sg} {h : Hs} {i : Nat} (X : TX T N t) (hi : i ≤ N) (h1 : gI t 37 1 = nI N) (h4 : gI t 37 4 = nI i) (R : HRep t 10 h) (A : Agr oR u t) : V 41 (0, [some (.ref 37)], [], t) (fun r t => (r = some (.int 0) ∨ r = some (.int 1)) ∧ RP u N (match rdEnd T N i with | .inl f => .inl f | .inr e => .inr (h, e)) r t) := by
  refine VV.mono (e_end X hi h1 h4) (fun r t q => ?_)
  obtain ⟨A2, g1, q⟩ := q
  rcases q with ⟨f, e, rfl, g3⟩ | ⟨e, q, rfl, g4⟩
  · rw [e]
    exact ⟨Or.inl rfl, rfl, g3, g1, A.tr (oR37 A2)⟩
  · rw [q]
    exact ⟨Or.inr rfl, rfl, R.o37 A2, g4, g1, A.tr (oR37 A2)⟩
set_option maxHeartbeats 8000000 in
theorem e_isOne {h : Hs} {s i : Nat} (X : TX T N u) (hi : i ≤ N) (h1 : gI u 37 1 = nI N) (h3 : gI u 37 3 = nI s) (h4 : gI u 37 4 = nI i) (R : HRep u 10 h) (G : GoodH h) : V 37 (0, [some (.ref 37), some (.ref 10), none, none], [], u) (RP u N (pOne T N h s i)) := by
  have h6 := G.1.1
  unfold pOne
  ((repeat refine VV.s rfl rfl ?_); (try (conv => arg 3; simp only [Nat.reduceAdd, sto1, sto2, isL, cond_true, cond_false, List.drop_succ_cons, List.drop_zero, List.drop_nil])))
  refine VV.ite (fun q => ?_) (fun q => ?_)
  · rw [R.1.1] at q
    have q : nI 6 ≤ nI (hn h) := q
    rw [le_nI (by omega) (by omega)] at q
    rw [if_pos q]
    ((repeat refine VV.s rfl rfl ?_); (try (conv => arg 3; simp only [Nat.reduceAdd, sto1, sto2, isL, cond_true, cond_false, List.drop_succ_cons, List.drop_zero, List.drop_nil])))
    exact VV.ret3 rfl (Or.inl rfl) ⟨rfl, h3, h1, Agr.rf⟩
  · rw [R.1.1] at q
    have q : ¬ nI 6 ≤ nI (hn h) := q
    rw [le_nI (by omega) (by omega)] at q
    rw [if_neg q]
    ((repeat refine VV.s rfl rfl ?_); (try (conv => arg 3; simp only [Nat.reduceAdd, sto1, sto2, isL, cond_true, cond_false, List.drop_succ_cons, List.drop_zero, List.drop_nil])))
    refine VV.call rfl rfl rfl rfl (e_num (b := 6) X hi h1 h4 (by omega)) (fun r t q1 => ?_)
    obtain ⟨A, g1, g3, q1⟩ := q1
    rcases q1 with ⟨f, e, rfl⟩ | ⟨k, i1, e, rfl, g5, g4⟩
    · rw [e]
      refine VV.s rfl rfl ?_
      refine VV.itf (fun x => x rfl) ?_
      ((repeat refine VV.s rfl rfl ?_); (try (conv => arg 3; simp only [Nat.reduceAdd, sto1, sto2, isL, cond_true, cond_false, List.drop_succ_cons, List.drop_zero, List.drop_nil])))
      exact VV.ret3 rfl (Or.inl rfl) ⟨rfl, by rw [g3, rdNum_l e], g1, oR37 A⟩
    rw [e]
    obtain ⟨k1, k2, k3, -⟩ := rdNum_r hi e
    refine VV.s rfl rfl ?_
    refine VV.itt (by decide) ?_
    ((repeat refine VV.s rfl rfl ?_); (try (conv => arg 3; simp only [Nat.reduceAdd, sto1, sto2, isL, cond_true, cond_false, List.drop_succ_cons, List.drop_zero, List.drop_nil])))
    rw [g5]
    refine VV.call rfl rfl rfl rfl (e_num (b := 10) (X.keep (A 38 (by decide)).2.2) k2 g1 g4 (by omega)) (fun r t2 q1 => ?_)
    obtain ⟨A2, g1, g3, q1⟩ := q1
    have A2 := A.tr A2
    rcases q1 with ⟨f, e, rfl⟩ | ⟨q0, i2, e, rfl, g5, g4⟩
    · show V _ _ (RP u N (match rdNum T N i1 10 with | .inl f => .inl f | .inr (q, i2) => _))
      rw [e]
      refine VV.s rfl rfl ?_
      refine VV.itf (fun x => x rfl) ?_
      ((repeat refine VV.s rfl rfl ?_); (try (conv => arg 3; simp only [Nat.reduceAdd, sto1, sto2, isL, cond_true, cond_false, List.drop_succ_cons, List.drop_zero, List.drop_nil])))
      exact VV.ret3 rfl (Or.inl rfl) ⟨rfl, by rw [g3, rdNum_l e], g1, oR37 A2⟩
    show V _ _ (RP u N (match rdNum T N i1 10 with | .inl f => .inl f | .inr (q, i2) => _))
    rw [e]
    obtain ⟨j1, j2, j3, -⟩ := rdNum_r k2 e
    refine VV.s rfl rfl ?_
    refine VV.itt (by decide) ?_
    ((repeat refine VV.s rfl rfl ?_); (try (conv => arg 3; simp only [Nat.reduceAdd, sto1, sto2, isL, cond_true, cond_false, List.drop_succ_cons, List.drop_zero, List.drop_nil])))
    rw [g5]
    refine VV.call rfl rfl rfl rfl (e_num (b := 10) (X.keep (A2 38 (by decide)).2.2) j2 g1 g4 (by omega)) (fun r t3 q1 => ?_)
    obtain ⟨A3, g1, g3, q1⟩ := q1
    have A3 := A2.tr A3
    rcases q1 with ⟨f, e, rfl⟩ | ⟨w0, i3, e, rfl, g5, g4⟩
    · show V _ _ (RP u N (match rdNum T N i2 10 with | .inl f => .inl f | .inr (w, i3) => _))
      rw [e]
      refine VV.s rfl rfl ?_
      refine VV.itf (fun x => x rfl) ?_
      ((repeat refine VV.s rfl rfl ?_); (try (conv => arg 3; simp only [Nat.reduceAdd, sto1, sto2, isL, cond_true, cond_false, List.drop_succ_cons, List.drop_zero, List.drop_nil])))
      exact VV.ret3 rfl (Or.inl rfl) ⟨rfl, by rw [g3, rdNum_l e], g1, oR37 A3⟩
    show V _ _ (RP u N (match rdNum T N i2 10 with | .inl f => .inl f | .inr (w, i3) => _))
    rw [e]
    obtain ⟨m1, m2, m3, -⟩ := rdNum_r j2 e
    refine VV.s rfl rfl ?_
    refine VV.itt (by decide) ?_
    ((repeat refine VV.s rfl rfl ?_); (try (conv => arg 3; simp only [Nat.reduceAdd, sto1, sto2, isL, cond_true, cond_false, List.drop_succ_cons, List.drop_zero, List.drop_nil])))
    rw [g5]
    refine VV.call rfl rfl rfl rfl (e_welcome (Or.inr rfl) (R.o37 A3) (by omega)) (fun r t4 q1 => ?_)
    obtain ⟨rfl, R4, A4⟩ := q1
    ((repeat refine VV.s rfl rfl ?_); (try (conv => arg 3; simp only [Nat.reduceAdd, sto1, sto2, isL, cond_true, cond_false, List.drop_succ_cons, List.drop_zero, List.drop_nil])))
    refine VV.call rfl rfl rfl rfl (RP_end (u := u) (X.keep (((oR37 A3).tr (oR10 A4)) 38 (by decide)).2.2) m2 (by rw [(A4 37 (by decide)).1]; exact g1) (by rw [(A4 37 (by decide)).1]; exact g4) R4 ((oR37 A3).tr (oR10 A4))) (fun r t5 q1 => ?_)
    obtain ⟨hr, q1⟩ := q1
    rcases hr with rfl | rfl
    · exact VV.ret3 rfl (Or.inl rfl) q1
    · exact VV.ret3 rfl (Or.inr rfl) q1
set_option maxHeartbeats 8000000 in
theorem e_isLeave {h : Hs} {i : Nat} (X : TX T N u) (hi : i ≤ N) (h1 : gI u 37 1 = nI N) (h4 : gI u 37 4 = nI i) (R : HRep u 10 h) (G : GoodH h) : V 38 (0, [some (.ref 37), some (.ref 10), none], [], u) (RP u N (pLeave T N h i)) := by
  have h6 := G.1.1
  unfold pLeave
  ((repeat refine VV.s rfl rfl ?_); (try (conv => arg 3; simp only [Nat.reduceAdd, sto1, sto2, isL, cond_true, cond_false, List.drop_succ_cons, List.drop_zero, List.drop_nil])))
  rw [R.1.1]
  refine VV.call rfl rfl rfl rfl (e_num (b := hn h) X hi h1 h4 (by omega)) (fun r t q1 => ?_)
  obtain ⟨A, g1, g3, q1⟩ := q1
  rcases q1 with ⟨f, e, rfl⟩ | ⟨p, i1, e, rfl, g5, g4⟩
  · rw [e]
    refine VV.s rfl rfl ?_
    refine VV.itf (fun x => x rfl) ?_
    ((repeat refine VV.s rfl rfl ?_); (try (conv => arg 3; simp only [Nat.reduceAdd, sto1, sto2, isL, cond_true, cond_false, List.drop_succ_cons, List.drop_zero, List.drop_nil])))
    exact VV.ret3 rfl (Or.inl rfl) ⟨rfl, by rw [g3, rdNum_l e], g1, oR37 A⟩
  rw [e]
  obtain ⟨k1, k2, k3, -⟩ := rdNum_r hi e
  refine VV.s rfl rfl ?_
  refine VV.itt (by decide) ?_
  ((repeat refine VV.s rfl rfl ?_); (try (conv => arg 3; simp only [Nat.reduceAdd, sto1, sto2, isL, cond_true, cond_false, List.drop_succ_cons, List.drop_zero, List.drop_nil])))
  rw [g5]
  refine VV.callE rfl rfl rfl rfl (e_voiceWith (Or.inr rfl) (R.o37 A) G (p := p) (by omega)) rfl ?_
  rcases voH_spec h p with ⟨hv, -⟩ | ⟨v, hv1, hv, -⟩
  · show V _ _ (RP u N (match voH h p with | 0 => _ | v + 1 => _))
    rw [hv]
    refine VV.s rfl rfl ?_
    refine VV.s rfl rfl ?_
    refine VV.s rfl rfl ?_
    refine VV.s rfl rfl ?_
    refine VV.itf (fun x => x rfl) ?_
    ((repeat refine VV.s rfl rfl ?_); (try (conv => arg 3; simp only [Nat.reduceAdd, sto1, sto2, isL, cond_true, cond_false, List.drop_succ_cons, List.drop_zero, List.drop_nil])))
    exact VV.ret3 rfl (Or.inl rfl) ⟨rfl, g3, g1, oR37 A⟩
  · show V _ _ (RP u N (match voH h p with | 0 => _ | v + 1 => _))
    rw [hv, cI_s]
    ((repeat refine VV.s rfl rfl ?_); (try (conv => arg 3; simp only [Nat.reduceAdd, sto1, sto2, isL, cond_true, cond_false, List.drop_succ_cons, List.drop_zero, List.drop_nil])))
    refine VV.itt (nI_ne1 (by omega)) ?_
    ((repeat refine VV.s rfl rfl ?_); (try (conv => arg 3; simp only [Nat.reduceAdd, sto1, sto2, isL, cond_true, cond_false, List.drop_succ_cons, List.drop_zero, List.drop_nil])))
    refine VV.call rfl rfl rfl rfl (e_putDown (Or.inr rfl) (R.o37 A) G hv1) (fun r t4 q1 => ?_)
    obtain ⟨rfl, R4, A4⟩ := q1
    ((repeat refine VV.s rfl rfl ?_); (try (conv => arg 3; simp only [Nat.reduceAdd, sto1, sto2, isL, cond_true, cond_false, List.drop_succ_cons, List.drop_zero, List.drop_nil])))
    refine VV.call rfl rfl rfl rfl (RP_end (u := u) (X.keep (((oR37 A).tr (oR10 A4)) 38 (by decide)).2.2) k2 (by rw [(A4 37 (by decide)).1]; exact g1) (by rw [(A4 37 (by decide)).1]; exact g4) R4 ((oR37 A).tr (oR10 A4))) (fun r t5 q1 => ?_)
    obtain ⟨hr, q1⟩ := q1
    rcases hr with rfl | rfl
    · exact VV.ret3 rfl (Or.inl rfl) q1
    · exact VV.ret3 rfl (Or.inr rfl) q1
set_option maxHeartbeats 8000000 in
theorem e_isLend {h : Hs} {i : Nat} (X : TX T N u) (hi : i ≤ N) (h1 : gI u 37 1 = nI N) (h4 : gI u 37 4 = nI i) (R : HRep u 10 h) (G : GoodH h) : V 39 (0, [some (.ref 37), some (.ref 10), none], [], u) (RP u N (pLend T N h i)) := by
  have h6 := G.1.1
  unfold pLend
  ((repeat refine VV.s rfl rfl ?_); (try (conv => arg 3; simp only [Nat.reduceAdd, sto1, sto2, isL, cond_true, cond_false, List.drop_succ_cons, List.drop_zero, List.drop_nil])))
  rw [R.1.1]
  refine VV.call rfl rfl rfl rfl (e_num (b := hn h) X hi h1 h4 (by omega)) (fun r t q1 => ?_)
  obtain ⟨A, g1, g3, q1⟩ := q1
  rcases q1 with ⟨f, e, rfl⟩ | ⟨v, i1, e, rfl, g5, g4⟩
  · rw [e]
    refine VV.s rfl rfl ?_
    refine VV.itt rfl ?_
    ((repeat refine VV.s rfl rfl ?_); (try (conv => arg 3; simp only [Nat.reduceAdd, sto1, sto2, isL, cond_true, cond_false, List.drop_succ_cons, List.drop_zero, List.drop_nil])))
    exact VV.ret3 rfl (Or.inl rfl) ⟨rfl, by rw [g3, rdNum_l e], g1, oR37 A⟩
  rw [e]
  obtain ⟨k1, k2, k3, -⟩ := rdNum_r hi e
  have Rt := R.o37 A
  have hl := (G.2.2.1.1 v k1).1
  refine VV.s rfl rfl ?_
  refine VV.itf (by decide) ?_
  ((repeat refine VV.s rfl rfl ?_); (try (conv => arg 3; simp only [Nat.reduceAdd, sto1, sto2, isL, cond_true, cond_false, List.drop_succ_cons, List.drop_zero, List.drop_nil])))
  refine VV.iald (n := v) rfl rfl g5 (show v < 6 by omega) (by decide) ?_
  rw [(Rt.2.1 v k1).2.2.2.1]
  ((repeat refine VV.s rfl rfl ?_); (try (conv => arg 3; simp only [Nat.reduceAdd, sto1, sto2, isL, cond_true, cond_false, List.drop_succ_cons, List.drop_zero, List.drop_nil])))
  refine VV.ite (fun q => ?_) (fun q => ?_)
  · rw [cI_none (by omega)] at q
    show V _ _ (RP u N (if hho h v = 0 then _ else _))
    rw [if_pos q]
    ((repeat refine VV.s rfl rfl ?_); (try (conv => arg 3; simp only [Nat.reduceAdd, sto1, sto2, isL, cond_true, cond_false, List.drop_succ_cons, List.drop_zero, List.drop_nil])))
    rw [g5, Rt.1.1]
    refine VV.call rfl rfl rfl rfl (e_num (b := hn h) (X.keep (A 38 (by decide)).2.2) k2 g1 g4 (by omega)) (fun r t2 q1 => ?_)
    obtain ⟨A2, g1, g3, q1⟩ := q1
    have A2 := A.tr A2
    rcases q1 with ⟨f, e, rfl⟩ | ⟨p, i2, e, rfl, g5, g4⟩
    · rw [e]
      refine VV.s rfl rfl ?_
      refine VV.itf (fun x => x rfl) ?_
      ((repeat refine VV.s rfl rfl ?_); (try (conv => arg 3; simp only [Nat.reduceAdd, sto1, sto2, isL, cond_true, cond_false, List.drop_succ_cons, List.drop_zero, List.drop_nil])))
      exact VV.ret3 rfl (Or.inl rfl) ⟨rfl, by rw [g3, rdNum_l e], g1, oR37 A2⟩
    rw [e]
    obtain ⟨j1, j2, j3, -⟩ := rdNum_r k2 e
    refine VV.s rfl rfl ?_
    refine VV.itt (by decide) ?_
    ((repeat refine VV.s rfl rfl ?_); (try (conv => arg 3; simp only [Nat.reduceAdd, sto1, sto2, isL, cond_true, cond_false, List.drop_succ_cons, List.drop_zero, List.drop_nil])))
    rw [g5]
    refine VV.call rfl rfl rfl rfl (e_give (Or.inr rfl) (R.o37 A2) G k1 j1) (fun r t4 q1 => ?_)
    obtain ⟨rfl, R4, A4⟩ := q1
    ((repeat refine VV.s rfl rfl ?_); (try (conv => arg 3; simp only [Nat.reduceAdd, sto1, sto2, isL, cond_true, cond_false, List.drop_succ_cons, List.drop_zero, List.drop_nil])))
    refine VV.call rfl rfl rfl rfl (RP_end (u := u) (X.keep (((oR37 A2).tr (oR10 A4)) 38 (by decide)).2.2) j2 (by rw [(A4 37 (by decide)).1]; exact g1) (by rw [(A4 37 (by decide)).1]; exact g4) R4 ((oR37 A2).tr (oR10 A4))) (fun r t5 q1 => ?_)
    obtain ⟨hr, q1⟩ := q1
    rcases hr with rfl | rfl
    · exact VV.ret3 rfl (Or.inl rfl) q1
    · exact VV.ret3 rfl (Or.inr rfl) q1
  · rw [cI_none (by omega)] at q
    show V _ _ (RP u N (if hho h v = 0 then _ else _))
    rw [if_neg q]
    ((repeat refine VV.s rfl rfl ?_); (try (conv => arg 3; simp only [Nat.reduceAdd, sto1, sto2, isL, cond_true, cond_false, List.drop_succ_cons, List.drop_zero, List.drop_nil])))
    exact VV.ret3 rfl (Or.inl rfl) ⟨rfl, g3, g1, oR37 A⟩
end RD4
