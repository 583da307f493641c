/-! ===== the class: the digest, a byte of the text ===== -/
section B6
variable {u : Sg} {z : Zs}
def dgW (wa : Nat → Nat) : Nat → Nat → Int64 → Int64
  | 0, _, a => a
  | k + 1, i, a => dgW wa k (i + 1) (31 * a + (nI (wa i)).toInt64)
def dgV (h : Hs) : Nat → Nat → Int64 → Int64
  | 0, _, a => a
  | k + 1, i, a => dgV h k (i + 1) (31 * (31 * (31 * (31 * (31 * a + (nI (hkd h i)).toInt64) + (nI (hso h i)).toInt64) + (cI (hho h i)).toInt64) + (nI (hus h i)).toInt64) + (hsl h i).toInt64)
def dgN (h : Hs) : Nat → Nat → Int64 → Int64
  | 0, _, a => a
  | k + 1, i, a => dgN h k (i + 1) (31 * (31 * (31 * (31 * (31 * a + (nI (hN h i 0)).toInt64) + (nI (hN h i 1)).toInt64) + (nI (hN h i 2)).toInt64) + (nI (hN h i 3)).toInt64) + (nI (hN h i 4)).toInt64)
def dgH (h : Hs) (a : Int64) : Int64 := dgN h (hnn h) 0 (dgV h (hn h) 0 (dgW (hwa h) (hn h) 0 a))
set_option maxHeartbeats 4000000 in
theorem e_dgN {h : Hs} (R : HRep u 1 h) (G : GoodH h) {st : Int64} : ∀ k i a, i + k = hnn h → V 27 (131, [some (.ref 1), some (.long st), none, some (.long a), none, some (.int (nI (5 * i)))], [], u) (is (.long (dgN h k i a)) u) := by
  have h6 := G.1.2.2.1
  have hN1 := R.1.2.2.1
  have e5 : gI u 1 2 * 5 = nI (5 * hnn h) := by rw [hN1, mul5]
  intro k
  induction k with
  | zero =>
    intro i a hi
    ((repeat refine VV.s rfl rfl ?_); (try (conv => arg 3; simp only [Nat.reduceAdd, sto1, sto2, isL, cond_true, cond_false, List.drop_succ_cons, List.drop_zero, List.drop_nil])))
    rw [e5]
    refine VV.itt (nI_le (by omega) (by omega)) ?_
    ((repeat refine VV.s rfl rfl ?_); (try (conv => arg 3; simp only [Nat.reduceAdd, sto1, sto2, isL, cond_true, cond_false, List.drop_succ_cons, List.drop_zero, List.drop_nil])))
    exact VV.ret2 rfl ⟨rfl, rfl⟩
  | succ k ih =>
    intro i a hi
    have one : ∀ c a (Q : Option Value → Sg → Prop), c < 5 → (V 27 (131, [some (.ref 1), some (.long st), none, some (.long (31 * a + (nI (hN h i c)).toInt64)), none, some (.int (nI (5 * i + (c + 1))))], [], u) Q) → V 27 (131, [some (.ref 1), some (.long st), none, some (.long a), none, some (.int (nI (5 * i + c)))], [], u) Q := by
      intro c a Q hc K
      ((repeat refine VV.s rfl rfl ?_); (try (conv => arg 3; simp only [Nat.reduceAdd, sto1, sto2, isL, cond_true, cond_false, List.drop_succ_cons, List.drop_zero, List.drop_nil])))
      rw [e5]
      refine VV.itf (nI_ge (by omega) (by omega)) ?_
      ((repeat refine VV.s rfl rfl ?_); (try (conv => arg 3; simp only [Nat.reduceAdd, sto1, sto2, isL, cond_true, cond_false, List.drop_succ_cons, List.drop_zero, List.drop_nil])))
      refine VV.iald rfl rfl rfl (show 5 * i + c < 30 by omega) (by decide) ?_
      ((repeat (fail_if_success show VV _ _ (131, _, _, _) _); refine VV.s rfl rfl ?_); (try (conv => arg 3; simp only [Nat.reduceAdd, sto1, sto2, isL, cond_true, cond_false, List.drop_succ_cons, List.drop_zero, List.drop_nil])))
      rw [R.2.2.1 i c (by omega) hc, nI_1]
      exact K
    rw [dgN]
    have s0 := one 0 a _ (by omega) (one 1 _ _ (by omega) (one 2 _ _ (by omega) (one 3 _ _ (by omega) (one 4 _ (is (.long (dgN h k (i + 1) (31 * (31 * (31 * (31 * (31 * a + (nI (hN h i 0)).toInt64) + (nI (hN h i 1)).toInt64) + (nI (hN h i 2)).toInt64) + (nI (hN h i 3)).toInt64) + (nI (hN h i 4)).toInt64))) u) (by omega) (by
      rw [show 5 * i + (4 + 1) = 5 * (i + 1) by omega]
      exact ih (i + 1) _ (by omega))))))
    rw [Nat.add_zero] at s0
    exact s0
set_option maxHeartbeats 4000000 in
theorem e_dgV {h : Hs} (R : HRep u 1 h) (G : GoodH h) {st : Int64} : ∀ k i a, i + k = hn h → V 27 (38, [some (.ref 1), some (.long st), none, some (.long a), none, some (.int (nI i))], [], u) (is (.long (dgN h (hnn h) 0 (dgV h k i a))) u) := by
  have h6 := G.1.1
  have hN := R.1.1
  intro k
  induction k with
  | zero =>
    intro i a hi
    ((repeat refine VV.s rfl rfl ?_); (try (conv => arg 3; simp only [Nat.reduceAdd, sto1, sto2, isL, cond_true, cond_false, List.drop_succ_cons, List.drop_zero, List.drop_nil])))
    refine VV.itt (by rw [hN]; exact nI_le (by omega) (by omega)) ?_
    ((repeat (fail_if_success show VV _ _ (131, _, _, _) _); refine VV.s rfl rfl ?_); (try (conv => arg 3; simp only [Nat.reduceAdd, sto1, sto2, isL, cond_true, cond_false, List.drop_succ_cons, List.drop_zero, List.drop_nil])))
    exact e_dgN R G (hnn h) 0 a (by omega)
  | succ k ih =>
    intro i a hi
    obtain ⟨r1, r2, r3, r4, r5, r6⟩ := R.2.1 i (show i < hn h by omega)
    ((repeat refine VV.s rfl rfl ?_); (try (conv => arg 3; simp only [Nat.reduceAdd, sto1, sto2, isL, cond_true, cond_false, List.drop_succ_cons, List.drop_zero, List.drop_nil])))
    refine VV.itf (by rw [hN]; exact nI_ge (by omega) (by omega)) ?_
    ((repeat refine VV.s rfl rfl ?_); (try (conv => arg 3; simp only [Nat.reduceAdd, sto1, sto2, isL, cond_true, cond_false, List.drop_succ_cons, List.drop_zero, List.drop_nil])))
    refine VV.iald rfl rfl rfl (show i < 6 by omega) (by decide) ?_
    ((repeat refine VV.s rfl rfl ?_); (try (conv => arg 3; simp only [Nat.reduceAdd, sto1, sto2, isL, cond_true, cond_false, List.drop_succ_cons, List.drop_zero, List.drop_nil])))
    refine VV.iald rfl rfl rfl (show i < 6 by omega) (by decide) ?_
    ((repeat refine VV.s rfl rfl ?_); (try (conv => arg 3; simp only [Nat.reduceAdd, sto1, sto2, isL, cond_true, cond_false, List.drop_succ_cons, List.drop_zero, List.drop_nil])))
    refine VV.iald rfl rfl rfl (show i < 6 by omega) (by decide) ?_
    ((repeat refine VV.s rfl rfl ?_); (try (conv => arg 3; simp only [Nat.reduceAdd, sto1, sto2, isL, cond_true, cond_false, List.drop_succ_cons, List.drop_zero, List.drop_nil])))
    refine VV.iald rfl rfl rfl (show i < 6 by omega) (by decide) ?_
    ((repeat refine VV.s rfl rfl ?_); (try (conv => arg 3; simp only [Nat.reduceAdd, sto1, sto2, isL, cond_true, cond_false, List.drop_succ_cons, List.drop_zero, List.drop_nil])))
    refine VV.iald rfl rfl rfl (show i < 6 by omega) (by decide) ?_
    ((repeat (fail_if_success show VV _ _ (38, _, _, _) _); refine VV.s rfl rfl ?_); (try (conv => arg 3; simp only [Nat.reduceAdd, sto1, sto2, isL, cond_true, cond_false, List.drop_succ_cons, List.drop_zero, List.drop_nil])))
    rw [r1, r2, r4, r5, r6, nI_1, dgV]
    exact ih (i + 1) _ (by omega)
set_option maxHeartbeats 4000000 in
theorem e_dgW {h : Hs} (R : HRep u 1 h) (G : GoodH h) {st : Int64} : ∀ k i a, i + k = hn h → V 27 (5, [some (.ref 1), some (.long st), none, some (.long a), none, some (.int (nI i))], [], u) (is (.long (dgN h (hnn h) 0 (dgV h (hn h) 0 (dgW (hwa h) k i a)))) u) := by
  have h6 := G.1.1
  have hN := R.1.1
  intro k
  induction k with
  | zero =>
    intro i a hi
    ((repeat refine VV.s rfl rfl ?_); (try (conv => arg 3; simp only [Nat.reduceAdd, sto1, sto2, isL, cond_true, cond_false, List.drop_succ_cons, List.drop_zero, List.drop_nil])))
    refine VV.itt (by rw [hN]; exact nI_le (by omega) (by omega)) ?_
    ((repeat (fail_if_success show VV _ _ (38, _, _, _) _); refine VV.s rfl rfl ?_); (try (conv => arg 3; simp only [Nat.reduceAdd, sto1, sto2, isL, cond_true, cond_false, List.drop_succ_cons, List.drop_zero, List.drop_nil])))
    exact e_dgV R G (hn h) 0 a (by omega)
  | succ k ih =>
    intro i a hi
    obtain ⟨r1, r2, r3, r4, r5, r6⟩ := R.2.1 i (show i < hn h by omega)
    ((repeat refine VV.s rfl rfl ?_); (try (conv => arg 3; simp only [Nat.reduceAdd, sto1, sto2, isL, cond_true, cond_false, List.drop_succ_cons, List.drop_zero, List.drop_nil])))
    refine VV.itf (by rw [hN]; exact nI_ge (by omega) (by omega)) ?_
    ((repeat refine VV.s rfl rfl ?_); (try (conv => arg 3; simp only [Nat.reduceAdd, sto1, sto2, isL, cond_true, cond_false, List.drop_succ_cons, List.drop_zero, List.drop_nil])))
    refine VV.iald rfl rfl rfl (show i < 6 by omega) (by decide) ?_
    ((repeat (fail_if_success show VV _ _ (5, _, _, _) _); refine VV.s rfl rfl ?_); (try (conv => arg 3; simp only [Nat.reduceAdd, sto1, sto2, isL, cond_true, cond_false, List.drop_succ_cons, List.drop_zero, List.drop_nil])))
    rw [r3, nI_1, dgW]
    exact ih (i + 1) _ (by omega)
theorem e_digestOn {h : Hs} (R : HRep u 1 h) (G : GoodH h) {st : Int64} : V 27 (0, [some (.ref 1), some (.long st), none, none, none, none], [], u) (is (.long (dgH h st)) u) := by
  ((repeat (fail_if_success show VV _ _ (5, _, _, _) _); refine VV.s rfl rfl ?_); (try (conv => arg 3; simp only [Nat.reduceAdd, sto1, sto2, isL, cond_true, cond_false, List.drop_succ_cons, List.drop_zero, List.drop_nil])))
  exact e_dgW R G (hn h) 0 st (by omega)
def dgC (z : Zs) : Nat → Nat → Int64 → Int64
  | 0, _, a => a
  | k + 1, i, a => dgC z k (i + 1) (31 * a + (hmI z i).toInt64)
def dgZ (z : Zs) : Int64 := 31 * (31 * dgH z.1 (dgC z 7 0 1297) + z.2.2.2.1.1) + z.2.2.2.1.2
theorem b_digest_loop (C : CInv u z) (G : GoodH z.1) : ∀ k i a, i + k = 7 → V 79 (6, [some (.ref 0), some (.long a), none, some (.int (nI i))], [], u) (is (.long (31 * (31 * dgH z.1 (dgC z k i a) + z.2.2.2.1.1) + z.2.2.2.1.2)) u) := by
  intro k
  induction k with
  | zero =>
    intro i a hi
    ((repeat refine VV.s rfl rfl ?_); (try (conv => arg 3; simp only [Nat.reduceAdd, sto1, sto2, isL, cond_true, cond_false, List.drop_succ_cons, List.drop_zero, List.drop_nil])))
    refine VV.itt (nI_lt (a := 6) (by omega) (by omega)) ?_
    ((repeat refine VV.s rfl rfl ?_); (try (conv => arg 3; simp only [Nat.reduceAdd, sto1, sto2, isL, cond_true, cond_false, List.drop_succ_cons, List.drop_zero, List.drop_nil])))
    refine VV.callE rfl rfl rfl rfl (e_digestOn C.1 G) rfl ?_
    ((repeat refine VV.s rfl rfl ?_); (try (conv => arg 3; simp only [Nat.reduceAdd, sto1, sto2, isL, cond_true, cond_false, List.drop_succ_cons, List.drop_zero, List.drop_nil])))
    exact VV.ret2 rfl ⟨by rw [C.2.2.2.2.1.1, C.2.2.2.2.1.2]; rfl, rfl⟩
  | succ k ih =>
    intro i a hi
    ((repeat refine VV.s rfl rfl ?_); (try (conv => arg 3; simp only [Nat.reduceAdd, sto1, sto2, isL, cond_true, cond_false, List.drop_succ_cons, List.drop_zero, List.drop_nil])))
    refine VV.itf (nI_nlt (a := 6) (by omega) (by omega)) ?_
    ((repeat refine VV.s rfl rfl ?_); (try (conv => arg 3; simp only [Nat.reduceAdd, sto1, sto2, isL, cond_true, cond_false, List.drop_succ_cons, List.drop_zero, List.drop_nil])))
    refine VV.callE rfl rfl rfl rfl (e_howMany C G (show i ≤ 6 by omega)) rfl ?_
    ((repeat (fail_if_success show VV _ _ (6, _, _, _) _); refine VV.s rfl rfl ?_); (try (conv => arg 3; simp only [Nat.reduceAdd, sto1, sto2, isL, cond_true, cond_false, List.drop_succ_cons, List.drop_zero, List.drop_nil])))
    rw [nI_1, dgC]
    exact ih (i + 1) _ (by omega)
theorem b_digest (C : CInv u z) (G : GoodH z.1) : BC 79 [some (.ref 0), none, none, none] u (.long (dgZ z)) z := by
  ((repeat (fail_if_success show VV _ _ (6, _, _, _) _); refine VV.s rfl rfl ?_); (try (conv => arg 3; simp only [Nat.reduceAdd, sto1, sto2, isL, cond_true, cond_false, List.drop_succ_cons, List.drop_zero, List.drop_nil])))
  refine VV.mono (b_digest_loop C G 7 0 1297 (by omega)) (fun r t q => ?_)
  obtain ⟨rfl, rfl⟩ := q
  exact ⟨rfl, C, Agr.rf⟩
theorem b_type_bad (C : CInv u z) {c : Int32} (h : c < 0 ∨ 127 < c) : BC 48 [some (.ref 0), some (.int c)] u (.int (-2)) (zB z) := by
  ((repeat refine VV.s rfl rfl ?_); (try (conv => arg 3; simp only [Nat.reduceAdd, sto1, sto2, isL, cond_true, cond_false, List.drop_succ_cons, List.drop_zero, List.drop_nil])))
  refine VV.callE rfl rfl rfl rfl (e_inN h) rfl ?_
  refine VV.s rfl rfl ?_
  refine VV.itf (by decide) ?_
  ((repeat refine VV.s rfl rfl ?_); (try (conv => arg 3; simp only [Nat.reduceAdd, sto1, sto2, isL, cond_true, cond_false, List.drop_succ_cons, List.drop_zero, List.drop_nil])))
  refine VV.callE rfl rfl rfl rfl e_bad rfl ?_
  exact VV.ret1 rfl ⟨rfl, C.bad, (Agr.rf).I (by decide)⟩
theorem b_type_full (C : CInv u z) {c : Int32} (h : ¬ (c < 0 ∨ 127 < c)) (h5 : z.2.2.1.1 = 150) : BC 48 [some (.ref 0), some (.int c)] u (.int (-4)) (zF z) := by
  ((repeat refine VV.s rfl rfl ?_); (try (conv => arg 3; simp only [Nat.reduceAdd, sto1, sto2, isL, cond_true, cond_false, List.drop_succ_cons, List.drop_zero, List.drop_nil])))
  refine VV.callE rfl rfl rfl rfl (e_inY h) rfl ?_
  refine VV.s rfl rfl ?_
  refine VV.itt (by decide) ?_
  ((repeat refine VV.s rfl rfl ?_); (try (conv => arg 3; simp only [Nat.reduceAdd, sto1, sto2, isL, cond_true, cond_false, List.drop_succ_cons, List.drop_zero, List.drop_nil])))
  refine VV.itf (by rw [C.2.2.2.1.1, h5]; decide) ?_
  ((repeat refine VV.s rfl rfl ?_); (try (conv => arg 3; simp only [Nat.reduceAdd, sto1, sto2, isL, cond_true, cond_false, List.drop_succ_cons, List.drop_zero, List.drop_nil])))
  refine VV.callE rfl rfl rfl rfl e_full rfl ?_
  exact VV.ret1 rfl ⟨rfl, C.full, (Agr.rf).I (by decide)⟩
def zT (z : Zs) (c : Nat) : Zs := (z.1, z.2.1, (z.2.2.1.1 + 1, updN z.2.2.1.2 z.2.2.1.1 c), z.2.2.2)
theorem nar_small : ∀ c, c < 128 → vp_nar .byte (nI c).toInt8.toInt32 = nI c := by decide +kernel
theorem b_type_ok (C : CInv u z) {c : Nat} (hc : c < 128) (h : ¬ (nI c < 0 ∨ 127 < nI c)) (h5 : z.2.2.1.1 < 150) : BC 48 [some (.ref 0), some (.int (nI c))] u (.int (nI (z.2.2.1.1 + 1))) (zT z c) := by
  obtain ⟨h1, h2, h3, ⟨h4, h4b⟩, h6, h8, h9, h10⟩ := id C
  ((repeat refine VV.s rfl rfl ?_); (try (conv => arg 3; simp only [Nat.reduceAdd, sto1, sto2, isL, cond_true, cond_false, List.drop_succ_cons, List.drop_zero, List.drop_nil])))
  refine VV.callE rfl rfl rfl rfl (e_inY h) rfl ?_
  refine VV.s rfl rfl ?_
  refine VV.itt (by decide) ?_
  ((repeat refine VV.s rfl rfl ?_); (try (conv => arg 3; simp only [Nat.reduceAdd, sto1, sto2, isL, cond_true, cond_false, List.drop_succ_cons, List.drop_zero, List.drop_nil])))
  refine VV.itt (by rw [h4]; exact nI_lt (b := 150) h5 (by omega)) ?_
  ((repeat refine VV.s rfl rfl ?_); (try (conv => arg 3; simp only [Nat.reduceAdd, sto1, sto2, isL, cond_true, cond_false, List.drop_succ_cons, List.drop_zero, List.drop_nil])))
  refine VV.call (Qc := fun r t => r = some (.int (nI (z.2.2.1.1 + 1))) ∧ t = pI (pA u 38 (upd (gA u 38) z.2.2.1.1 (nI c))) 37 1 (nI (z.2.2.1.1 + 1))) rfl rfl rfl rfl ?_ (fun r t q => ?_)
  · ((repeat refine VV.s rfl rfl ?_); (try (conv => arg 3; simp only [Nat.reduceAdd, sto1, sto2, isL, cond_true, cond_false, List.drop_succ_cons, List.drop_zero, List.drop_nil])))
    rw [h4]
    refine VV.bast rfl rfl rfl (show z.2.2.1.1 < 150 from h5) (by decide) ?_
    ((repeat refine VV.s rfl rfl ?_); (try (conv => arg 3; simp only [Nat.reduceAdd, sto1, sto2, isL, cond_true, cond_false, List.drop_succ_cons, List.drop_zero, List.drop_nil])))
    refine VV.ret1 rfl ⟨?_, ?_⟩
    · show some (Value.int (gI u 37 1 + 1)) = _
      rw [h4, nI_1]
    · rw [nar_small c hc]
      show pI _ 37 1 (gI u 37 1 + 1) = _
      rw [h4, nI_1]
  · obtain ⟨rfl, rfl⟩ := q
    have kp : ∀ b, b ≤ 28 → Agr (onH b) u (pI (pA u 38 (upd (gA u 38) z.2.2.1.1 (nI c))) 37 1 (nI (z.2.2.1.1 + 1))) := fun b hb => ((Agr.rf).A (by rintro ⟨h1, h2⟩; omega)).I (by rintro ⟨h1, h2⟩; omega)
    refine VV.ret1 rfl ⟨rfl, ⟨h1.keep (kp 1 (by omega)), ?_, ?_, ⟨rfl, fun j hj => ?_⟩, h6, h8, h9, h10⟩, ((Agr.rf).A (by decide)).I (by decide)⟩
    · show ImC _ 4 19 z.2.1.1
      revert h2
      cases z.2.1.1 with
      | none => exact fun h2 => h2
      | some q => exact fun h2 => ⟨h2.1, h2.2.keep (kp 19 (by omega))⟩
    · show ImC _ 5 28 z.2.1.2
      revert h3
      cases z.2.1.2 with
      | none => exact fun h2 => h2
      | some q => exact fun h2 => ⟨h2.1, h2.2.keep (kp 28 (by omega))⟩
    · have hj : j < z.2.2.1.1 + 1 := hj
      show upd (gA u 38) z.2.2.1.1 (nI c) j = nI (updN z.2.2.1.2 z.2.2.1.1 c j)
      rw [upd_at, updN_at]
      split
      · rfl
      · exact h4b j (by omega)
end B6
