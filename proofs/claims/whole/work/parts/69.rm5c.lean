section RM5
variable {u : Sg} {z : Zs} {T : Nat → Nat} {N : Nat}
/-- a new counter, its people added one by one -/
def hA (h b : Hs) : Nat → Hs
  | 0 => b
  | n + 1 => hOne (hA h b n) (hkd h n) (hso h n) (hwa h n)
theorem hA_at (h b : Hs) (e : hn b = 0 ∧ hev b = 0 ∧ hnn b = 0 ∧ hun b = 0) : ∀ n, (hn (hA h b n) = n ∧ hev (hA h b n) = 0 ∧ hnn (hA h b n) = 0 ∧ hun (hA h b n) = 0) ∧ ∀ v, v < n → hkd (hA h b n) v = hkd h v ∧ hso (hA h b n) v = hso h v ∧ hwa (hA h b n) v = hwa h v ∧ hus (hA h b n) v = 0 ∧ hsl (hA h b n) v = 0
  | 0 => ⟨e, fun v hv => absurd hv (Nat.not_lt_zero _)⟩
  | n + 1 => by
    obtain ⟨⟨a1, a2, a3, a4⟩, ih⟩ := hA_at h b e n
    refine ⟨⟨by show hn (hA h b n) + 1 = _; rw [a1], a2, a3, rfl⟩, fun v hv => ?_⟩
    show updN (hkd (hA h b n)) (hn (hA h b n)) (hkd h n) v = _ ∧ updN (hso (hA h b n)) (hn (hA h b n)) (hso h n) v = _ ∧ updN (hwa (hA h b n)) (hn (hA h b n)) (hwa h n) v = _ ∧ updN (hus (hA h b n)) (hn (hA h b n)) 0 v = _ ∧ updN (hsl (hA h b n)) (hn (hA h b n)) 0 v = _
    rw [a1, updN_at, updN_at, updN_at, updN_at, updN_at]
    by_cases c : v = n
    · subst c
      rw [if_pos rfl, if_pos rfl, if_pos rfl, if_pos rfl, if_pos rfl]
      exact ⟨rfl, rfl, rfl, rfl, rfl⟩
    · rw [if_neg c, if_neg c, if_neg c, if_neg c, if_neg c]
      exact ih v (by omega)
theorem RM.mf {t t2 : Sg} {h : Hs} (R : RM h t) (A : MF t t2) : RM h t2 := ⟨⟨by rw [A.2.2.1 18 (by omega) (by omega) (by omega) (by omega)]; exact R.1.1, by rw [A.1 55 (by omega), A.1 56 (by omega)]; exact R.1.2⟩, R.2⟩
theorem FR.inv {t : Sg} (C : MInv u z) (A : FR u t) : MInv t z ∧ Agr onC u t := ⟨C.keep2 (fun k hk => A.1 k (by omega) (by omega)) (fun j hj => A.2.1 41 j (by omega)) (fun j _ => A.2.2 41 j), fun k hk => by
  have hk : k ≤ 40 := hk
  exact ⟨fun j => A.2.1 k j (by omega), fun j => A.2.2 k j, A.1 k (by omega) (by omega)⟩⟩
def PA (h : Hs) (t : Sg) : Prop := (gI t 41 1 = nI (hn h) ∧ gI t 41 2 = nI 0 ∧ gI t 41 3 = nI 0 ∧ gI t 41 23 = nI 0) ∧ ∀ v, v < hn h → gA t 43 v = nI (hkd h v) ∧ gA t 44 v = nI (hso h v) ∧ gA t 45 v = nI (hwa h v) ∧ gA t 47 v = nI 0 ∧ gA t 48 v = 0
set_option maxHeartbeats 8000000 in
theorem m_read (C : MInv u z) (G : GoodZ z) : MC 124 [some (.ref 41), none, none] u (.int (rdA z)) (rdZ z) := by
  have X : TM z.2.2.1.2 z.2.2.1.1 u := ⟨G.2.2.2.1, G.2.2.2.2, C.2.2.2.1.2, C.2.2.2.1.1⟩
  have ok := pRead_ok (T := z.2.2.1.2) G.2.2.2.1
  have hN := G.2.2.2.1
  ((repeat refine VV.s rfl rfl ?_); (try (conv => arg 3; simp only [Nat.reduceAdd, sto1, sto2, isL, cond_true, cond_false, List.drop_succ_cons, List.drop_zero, List.drop_nil])))
  refine VV.call rfl rfl rfl rfl (f_readsCounter X) (fun r t q => ?_)
  unfold rdA rdZ
  revert q ok
  cases pRead z.2.2.1.2 z.2.2.1.1 with
  | inl f =>
    intro ok q
    obtain ⟨rfl, k1, A⟩ := q
    refine VV.s rfl rfl ?_
    refine VV.s rfl rfl ?_
    refine VV.s rfl rfl ?_
    refine VV.itf (by decide) ?_
    ((repeat refine VV.s rfl rfl ?_); (try (conv => arg 3; simp only [Nat.reduceAdd, sto1, sto2, isL, cond_true, cond_false, List.drop_succ_cons, List.drop_zero, List.drop_nil])))
    rw [k1]
    exact VV.ret1 rfl ⟨rfl, A.inv C⟩
  | inr x =>
    obtain ⟨c, h⟩ := x
    intro ok q
    obtain ⟨rfl, R, A⟩ := q
    obtain ⟨C2, A2⟩ := A.inv C
    obtain ⟨Gh, c1, c2⟩ := ok
    have h6 := Gh.1.1
    ((repeat refine VV.s rfl rfl ?_); (try (conv => arg 3; simp only [Nat.reduceAdd, sto1, sto2, isL, cond_true, cond_false, List.drop_succ_cons, List.drop_zero, List.drop_nil])))
    refine VV.itt (nI_le (a := 0) (by omega) (by omega)) ?_
    ((repeat refine VV.s rfl rfl ?_); (try (conv => arg 3; simp only [Nat.reduceAdd, sto1, sto2, isL, cond_true, cond_false, List.drop_succ_cons, List.drop_zero, List.drop_nil])))
    refine VV.call rfl rfl rfl rfl (f_begin C2.1) (fun r t1 q => ?_)
    obtain ⟨rfl, R1, A3, -⟩ := q
    have lp2 : ∀ k i t2, i + k = hn h → MF t t2 → PA h t2 → (∀ v, v < i → gA t2 46 v = cI (hho h v)) → V 124 (72, [some (.ref 41), some (.int (nI c)), some (.int (nI i))], [], t2) (fun x t => x = some (.int (nI c)) ∧ MInv t (zH z h) ∧ Agr onC u t) := by
      intro k
      induction k with
      | zero =>
        intro i t2 hi M P2 h46
        ((repeat refine VV.s rfl rfl ?_); (try (conv => arg 3; simp only [Nat.reduceAdd, sto1, sto2, isL, cond_true, cond_false, List.drop_succ_cons, List.drop_zero, List.drop_nil])))
        refine VV.itt (by rw [(R.mf M).1.1]; exact nI_le (by omega) (by omega)) ?_
        ((repeat refine VV.s rfl rfl ?_); (try (conv => arg 3; simp only [Nat.reduceAdd, sto1, sto2, isL, cond_true, cond_false, List.drop_succ_cons, List.drop_zero, List.drop_nil])))
        have R3 : MRep t2 h := by
          obtain ⟨⟨b1, b2, b3, b4⟩, b5⟩ := P2
          obtain ⟨z1, z2, z3⟩ := R.2.1
          refine ⟨⟨b1, by rw [b2, z1], by rw [b3, z2], by rw [b4, z3]⟩, fun v hv => ?_, fun i c hi => by omega, fun k hk => by omega⟩
          obtain ⟨q1, q2, q3, q5, q6⟩ := b5 v hv
          obtain ⟨y1, y2⟩ := R.2.2 v hv
          exact ⟨q1, q2, q3, h46 v (by omega), by rw [q5, y1], by rw [q6, y2]⟩
        exact VV.ret1 rfl ⟨rfl, C2.main R3 M, A2.tr M.onC⟩
      | succ k ih =>
        intro i t2 hi M P2 h46
        ((repeat refine VV.s rfl rfl ?_); (try (conv => arg 3; simp only [Nat.reduceAdd, sto1, sto2, isL, cond_true, cond_false, List.drop_succ_cons, List.drop_zero, List.drop_nil])))
        refine VV.itf (by rw [(R.mf M).1.1]; exact nI_ge (by omega) (by omega)) ?_
        ((repeat refine VV.s rfl rfl ?_); (try (conv => arg 3; simp only [Nat.reduceAdd, sto1, sto2, isL, cond_true, cond_false, List.drop_succ_cons, List.drop_zero, List.drop_nil])))
        refine VV.iald rfl rfl rfl (show i < 6 by omega) (by decide) ?_
        rw [((R.mf M).1.2 i (by omega)).2.2.2]
        refine VV.iast rfl rfl rfl (show i < 6 by omega) (by decide) ?_
        ((repeat (fail_if_success show VV _ _ (72, _, _, _) _); refine VV.s rfl rfl ?_); (try (conv => arg 3; simp only [Nat.reduceAdd, sto1, sto2, isL, cond_true, cond_false, List.drop_succ_cons, List.drop_zero, List.drop_nil])))
        rw [nI_1]
        refine ih (i + 1) _ (by omega) (M.A (by omega)) P2 (fun v hv => ?_)
        show upd (gA t2 46) i (cI (hho h i)) v = _
        rw [upd_at]
        by_cases e : v = i
        · rw [if_pos e, e]
        · rw [if_neg e]
          exact h46 v (by omega)
    have lp1 : ∀ k i t2, i + k = hn h → MF t t2 → MRep t2 (hA h (h0 z.1) i) → V 124 (23, [some (.ref 41), some (.int (nI c)), some (.int (nI i))], [], t2) (fun x t => x = some (.int (nI c)) ∧ MInv t (zH z h) ∧ Agr onC u t) := by
      intro k
      induction k with
      | zero =>
        intro i t2 hi M R2
        have hi : i = hn h := by omega
        subst hi
        obtain ⟨⟨a1, a2, a3, a4⟩, ih⟩ := hA_at h (h0 z.1) ⟨rfl, rfl, rfl, rfl⟩ (hn h)
        ((repeat refine VV.s rfl rfl ?_); (try (conv => arg 3; simp only [Nat.reduceAdd, sto1, sto2, isL, cond_true, cond_false, List.drop_succ_cons, List.drop_zero, List.drop_nil])))
        refine VV.itt (by rw [(R.mf M).1.1]; exact nI_le (by omega) (by omega)) ?_
        ((repeat (fail_if_success show VV _ _ (72, _, _, _) _); refine VV.s rfl rfl ?_); (try (conv => arg 3; simp only [Nat.reduceAdd, sto1, sto2, isL, cond_true, cond_false, List.drop_succ_cons, List.drop_zero, List.drop_nil])))
        refine lp2 (hn h) 0 t2 (by omega) M ?_ (fun v hv => absurd hv (Nat.not_lt_zero _))
        obtain ⟨⟨b1, b2, b3, b4⟩, b5, -, -⟩ := R2
        refine ⟨⟨by rw [b1, a1], by rw [b2, a2], by rw [b3, a3], by rw [b4, a4]⟩, fun v hv => ?_⟩
        obtain ⟨q1, q2, q3, q4, q5, q6⟩ := b5 v (by omega)
        obtain ⟨p1, p2, p3, p5, p6⟩ := ih v hv
        exact ⟨by rw [q1, p1], by rw [q2, p2], by rw [q3, p3], by rw [q5, p5], by rw [q6, p6]⟩
      | succ k ih =>
        intro i t2 hi M R2
        obtain ⟨⟨a1, -, -, -⟩, -⟩ := hA_at h (h0 z.1) ⟨rfl, rfl, rfl, rfl⟩ i
        have Ri := (R.mf M).1.2 i (by omega)
        have e0 : (3 : Int32) * nI i = nI (3 * i) := pk_mul 3 i
        have e1 : nI (3 * i) + 1 = nI (3 * i + 1) := add_nI (3 * i) 1
        have e2 : nI (3 * i) + 2 = nI (3 * i + 2) := add_nI (3 * i) 2
        ((repeat refine VV.s rfl rfl ?_); (try (conv => arg 3; simp only [Nat.reduceAdd, sto1, sto2, isL, cond_true, cond_false, List.drop_succ_cons, List.drop_zero, List.drop_nil])))
        refine VV.itf (by rw [(R.mf M).1.1]; exact nI_ge (by omega) (by omega)) ?_
        ((repeat refine VV.s rfl rfl ?_); (try (conv => arg 3; simp only [Nat.reduceAdd, sto1, sto2, isL, cond_true, cond_false, List.drop_succ_cons, List.drop_zero, List.drop_nil])))
        rw [e0]
        refine VV.iald rfl rfl rfl (show (3 * i) < 18 by omega) (by decide) ?_
        rw [Ri.1]
        ((repeat refine VV.s rfl rfl ?_); (try (conv => arg 3; simp only [Nat.reduceAdd, sto1, sto2, isL, cond_true, cond_false, List.drop_succ_cons, List.drop_zero, List.drop_nil])))
        rw [e0, e1]
        refine VV.iald rfl rfl rfl (show (3 * i + 1) < 18 by omega) (by decide) ?_
        rw [Ri.2.1]
        ((repeat refine VV.s rfl rfl ?_); (try (conv => arg 3; simp only [Nat.reduceAdd, sto1, sto2, isL, cond_true, cond_false, List.drop_succ_cons, List.drop_zero, List.drop_nil])))
        rw [e0, e2]
        refine VV.iald rfl rfl rfl (show (3 * i + 2) < 18 by omega) (by decide) ?_
        rw [Ri.2.2.1]
        ((repeat refine VV.s rfl rfl ?_); (try (conv => arg 3; simp only [Nat.reduceAdd, sto1, sto2, isL, cond_true, cond_false, List.drop_succ_cons, List.drop_zero, List.drop_nil])))
        refine VV.call rfl rfl rfl rfl (f_addOne R2 (by omega)) (fun r t3 q => ?_)
        obtain ⟨rfl, R3, M3⟩ := q
        ((repeat (fail_if_success show VV _ _ (23, _, _, _) _); refine VV.s rfl rfl ?_); (try (conv => arg 3; simp only [Nat.reduceAdd, sto1, sto2, isL, cond_true, cond_false, List.drop_succ_cons, List.drop_zero, List.drop_nil])))
        rw [nI_1]
        exact ih (i + 1) t3 (by omega) (M.tr M3) R3
    ((repeat (fail_if_success show VV _ _ (23, _, _, _) _); refine VV.s rfl rfl ?_); (try (conv => arg 3; simp only [Nat.reduceAdd, sto1, sto2, isL, cond_true, cond_false, List.drop_succ_cons, List.drop_zero, List.drop_nil])))
    exact lp1 (hn h) 0 t1 (by omega) A3 R1
end RM5
