/-! ===== the class: refusals, what a number must be, the plain calls ===== -/
def zB (z : Zs) : Zs := (z.1, z.2.1, z.2.2.1, z.2.2.2.1, (z.2.2.2.2.1 + 1, z.2.2.2.2.2.1, z.2.2.2.2.2.2))
def zN (z : Zs) : Zs := (z.1, z.2.1, z.2.2.1, z.2.2.2.1, (z.2.2.2.2.1, z.2.2.2.2.2.1 + 1, z.2.2.2.2.2.2))
def zF (z : Zs) : Zs := (z.1, z.2.1, z.2.2.1, z.2.2.2.1, (z.2.2.2.2.1, z.2.2.2.2.2.1, z.2.2.2.2.2.2 + 1))
def zH (z : Zs) (h : Hs) : Zs := (h, z.2)
abbrev BC (m : Nat) (L : List (Option Value)) (u : Sg) (r : Value) (z' : Zs) : Prop := V m (0, L, [], u) (fun x t => x = some r ∧ CInv t z' ∧ Agr onM u t)
theorem HRep.I0 {u : Sg} {b j : Nat} {x : Int32} {h : Hs} (R : HRep u b h) (hb : 1 ≤ b) : HRep (pI u 0 j x) b h := R.keep (fun k hk => by
  refine ⟨fun i => ?_, fun _ => rfl, rfl⟩
  rw [gI_pI, if_neg (by have := hk.1; omega)])
theorem ImC.I0 {u : Sg} {i b j : Nat} {x : Int32} {o : Option Hs} (R : ImC u i b o) (hb : 1 ≤ b) (hj : i ≠ j) : ImC (pI u 0 j x) i b o := by
  cases o with
  | none => show gI (pI u 0 j x) 0 i = 0; rw [gI_pI, if_pos rfl, if_neg hj]; exact R
  | some h => exact ⟨by rw [gI_pI, if_pos rfl, if_neg hj]; exact R.1, R.2.I0 hb⟩
theorem CInv.bad {u : Sg} {z : Zs} (C : CInv u z) : CInv (pI u 0 11 (gI u 0 11 + 1)) (zB z) := by
  obtain ⟨h1, h2, h3, h4, h6, h8, h9, h10⟩ := C
  exact ⟨h1.I0 (by omega), h2.I0 (by omega) (by omega), h3.I0 (by omega) (by omega), h4, h6, by show gI u 0 11 + 1 = _; rw [h8]; rfl, h9, h10⟩
theorem CInv.no {u : Sg} {z : Zs} (C : CInv u z) : CInv (pI u 0 12 (gI u 0 12 + 1)) (zN z) := by
  obtain ⟨h1, h2, h3, h4, h6, h8, h9, h10⟩ := C
  exact ⟨h1.I0 (by omega), h2.I0 (by omega) (by omega), h3.I0 (by omega) (by omega), h4, h6, h8, by show gI u 0 12 + 1 = _; rw [h9]; rfl, h10⟩
theorem CInv.full {u : Sg} {z : Zs} (C : CInv u z) : CInv (pI u 0 13 (gI u 0 13 + 1)) (zF z) := by
  obtain ⟨h1, h2, h3, h4, h6, h8, h9, h10⟩ := C
  exact ⟨h1.I0 (by omega), h2.I0 (by omega) (by omega), h3.I0 (by omega) (by omega), h4, h6, h8, h9, by show gI u 0 13 + 1 = _; rw [h10]; rfl⟩
/-- the house changed; the trial changed -/
theorem CInv.house {u t : Sg} {z : Zs} {h : Hs} (C : CInv u z) (R : HRep t 1 h) (a : Agr (offH 1) u t) : CInv t (zH z h) := by
  obtain ⟨h1, h2, h3, ⟨h4, h5⟩, ⟨h6, h7⟩, h8, h9, h10⟩ := C
  have g0 := a 0 (by left; omega)
  have g37 := a 37 (by right; omega)
  have g38 := a 38 (by right; omega)
  refine ⟨R, ?_, ?_, ⟨by rw [g37.1]; exact h4, fun j hj => by rw [g38.2.2]; exact h5 j hj⟩, ⟨by rw [g0.2.1]; exact h6, by rw [g0.2.1]; exact h7⟩, by rw [g0.1]; exact h8, by rw [g0.1]; exact h9, by rw [g0.1]; exact h10⟩
  · show ImC t 4 19 z.2.1.1
    revert h2
    cases z.2.1.1 with
    | none => intro h2; show gI t 0 4 = 0; rw [g0.1]; exact h2
    | some q => intro h2; exact ⟨by rw [g0.1]; exact h2.1, h2.2.keep (a.sub (fun k hk => by have := hk.1; show k < 1 ∨ 1 + 9 ≤ k; omega))⟩
  · show ImC t 5 28 z.2.1.2
    revert h3
    cases z.2.1.2 with
    | none => intro h2; show gI t 0 5 = 0; rw [g0.1]; exact h2
    | some q => intro h2; exact ⟨by rw [g0.1]; exact h2.1, h2.2.keep (a.sub (fun k hk => by have := hk.1; show k < 1 ∨ 1 + 9 ≤ k; omega))⟩
/-- cells that hold nothing of the state may change: the trial, the reader's own numbers, the rows of best -/
theorem CInv.keep2 {u t : Sg} {z : Zs} (C : CInv u z) (a : Agr (fun k => k ≤ 9 ∨ (19 ≤ k ∧ k ≤ 36) ∨ k = 38) u t) (e : gI t 37 1 = gI u 37 1) : CInv t z := by
  obtain ⟨h1, h2, h3, ⟨h4, h5⟩, ⟨h6, h7⟩, h8, h9, h10⟩ := C
  have g0 := a 0 (by left; omega)
  have g38 := a 38 (by right; right; rfl)
  refine ⟨h1.keep (a.sub (fun k hk => by have := hk.2; left; omega)), ?_, ?_, ⟨by rw [e]; exact h4, fun j hj => by rw [g38.2.2]; exact h5 j hj⟩, ⟨by rw [g0.2.1]; exact h6, by rw [g0.2.1]; exact h7⟩, by rw [g0.1]; exact h8, by rw [g0.1]; exact h9, by rw [g0.1]; exact h10⟩
  · revert h2
    cases z.2.1.1 with
    | none => intro h2; show gI t 0 4 = 0; rw [g0.1]; exact h2
    | some q => intro h2; exact ⟨by rw [g0.1]; exact h2.1, h2.2.keep (a.sub (fun k hk => by have := hk; right; left; omega))⟩
  · revert h3
    cases z.2.1.2 with
    | none => intro h2; show gI t 0 5 = 0; rw [g0.1]; exact h2
    | some q => intro h2; exact ⟨by rw [g0.1]; exact h2.1, h2.2.keep (a.sub (fun k hk => by have := hk; right; left; omega))⟩
theorem CInv.off10 {u t : Sg} {z : Zs} (C : CInv u z) (a : Agr (offH 10) u t) : CInv t z := C.keep2 (a.sub (fun k hk => by show k < 10 ∨ 10 + 9 ≤ k; omega)) ((a 37 (by right; omega)).1 1)
theorem e_bad {u : Sg} : V 80 (0, [some (.ref 0)], [], u) (is (.int (-2)) (pI u 0 11 (gI u 0 11 + 1))) := by
  ((repeat refine VV.s rfl rfl ?_); (try (conv => arg 3; simp only [Nat.reduceAdd, sto1, sto2, isL, cond_true, cond_false, List.drop_succ_cons, List.drop_zero, List.drop_nil])))
  exact VV.ret1 rfl ⟨rfl, rfl⟩
theorem e_ten {u : Sg} : V 81 (0, [some (.ref 0)], [], u) (is (.int (-10)) (pI u 0 11 (gI u 0 11 + 1))) := by
  ((repeat refine VV.s rfl rfl ?_); (try (conv => arg 3; simp only [Nat.reduceAdd, sto1, sto2, isL, cond_true, cond_false, List.drop_succ_cons, List.drop_zero, List.drop_nil])))
  exact VV.ret1 rfl ⟨rfl, rfl⟩
theorem e_no {u : Sg} : V 82 (0, [some (.ref 0)], [], u) (is (.int (-3)) (pI u 0 12 (gI u 0 12 + 1))) := by
  ((repeat refine VV.s rfl rfl ?_); (try (conv => arg 3; simp only [Nat.reduceAdd, sto1, sto2, isL, cond_true, cond_false, List.drop_succ_cons, List.drop_zero, List.drop_nil])))
  exact VV.ret1 rfl ⟨rfl, rfl⟩
theorem e_full {u : Sg} : V 83 (0, [some (.ref 0)], [], u) (is (.int (-4)) (pI u 0 13 (gI u 0 13 + 1))) := by
  ((repeat refine VV.s rfl rfl ?_); (try (conv => arg 3; simp only [Nat.reduceAdd, sto1, sto2, isL, cond_true, cond_false, List.drop_succ_cons, List.drop_zero, List.drop_nil])))
  exact VV.ret1 rfl ⟨rfl, rfl⟩
theorem e_inN {u : Sg} {x lo hi : Int32} (h : x < lo ∨ hi < x) : V 84 (0, [some (.int x), some (.int lo), some (.int hi)], [], u) (is (.int 0) u) := by
  ((repeat refine VV.s rfl rfl ?_); (try (conv => arg 3; simp only [Nat.reduceAdd, sto1, sto2, isL, cond_true, cond_false, List.drop_succ_cons, List.drop_zero, List.drop_nil])))
  refine VV.ite (fun q => ?_) (fun q => ?_)
  · ((repeat refine VV.s rfl rfl ?_); (try (conv => arg 3; simp only [Nat.reduceAdd, sto1, sto2, isL, cond_true, cond_false, List.drop_succ_cons, List.drop_zero, List.drop_nil])))
    exact VV.ret3 rfl (Or.inl rfl) ⟨rfl, rfl⟩
  · ((repeat refine VV.s rfl rfl ?_); (try (conv => arg 3; simp only [Nat.reduceAdd, sto1, sto2, isL, cond_true, cond_false, List.drop_succ_cons, List.drop_zero, List.drop_nil])))
    refine VV.itt (h.resolve_left q) ?_
    ((repeat refine VV.s rfl rfl ?_); (try (conv => arg 3; simp only [Nat.reduceAdd, sto1, sto2, isL, cond_true, cond_false, List.drop_succ_cons, List.drop_zero, List.drop_nil])))
    exact VV.ret3 rfl (Or.inl rfl) ⟨rfl, rfl⟩
theorem e_inY {u : Sg} {x lo hi : Int32} (h : ¬ (x < lo ∨ hi < x)) : V 84 (0, [some (.int x), some (.int lo), some (.int hi)], [], u) (is (.int 1) u) := by
  ((repeat refine VV.s rfl rfl ?_); (try (conv => arg 3; simp only [Nat.reduceAdd, sto1, sto2, isL, cond_true, cond_false, List.drop_succ_cons, List.drop_zero, List.drop_nil])))
  refine VV.itf (fun q => h (Or.inl q)) ?_
  ((repeat refine VV.s rfl rfl ?_); (try (conv => arg 3; simp only [Nat.reduceAdd, sto1, sto2, isL, cond_true, cond_false, List.drop_succ_cons, List.drop_zero, List.drop_nil])))
  refine VV.itf (fun q => h (Or.inr q)) ?_
  ((repeat refine VV.s rfl rfl ?_); (try (conv => arg 3; simp only [Nat.reduceAdd, sto1, sto2, isL, cond_true, cond_false, List.drop_succ_cons, List.drop_zero, List.drop_nil])))
  exact VV.ret3 rfl (Or.inr rfl) ⟨rfl, rfl⟩
theorem e_soN {u : Sg} {x : Int32} (h : x < 0 ∨ 9 < x) : V 85 (0, [some (.int x)], [], u) (is (.int 0) u) := by
  ((repeat refine VV.s rfl rfl ?_); (try (conv => arg 3; simp only [Nat.reduceAdd, sto1, sto2, isL, cond_true, cond_false, List.drop_succ_cons, List.drop_zero, List.drop_nil])))
  refine VV.callE rfl rfl rfl rfl (e_inN h) rfl ?_
  exact VV.ret3 rfl (Or.inl rfl) ⟨rfl, rfl⟩
theorem e_soY {u : Sg} {x : Int32} (h : ¬ (x < 0 ∨ 9 < x)) : V 85 (0, [some (.int x)], [], u) (is (.int 1) u) := by
  ((repeat refine VV.s rfl rfl ?_); (try (conv => arg 3; simp only [Nat.reduceAdd, sto1, sto2, isL, cond_true, cond_false, List.drop_succ_cons, List.drop_zero, List.drop_nil])))
  refine VV.callE rfl rfl rfl rfl (e_inY h) rfl ?_
  exact VV.ret3 rfl (Or.inr rfl) ⟨rfl, rfl⟩
/-- one is there -/
def thr (n : Nat) (x : Int32) : Prop := ¬ (x < 0 ∨ nI n - 1 < x)
theorem rngN {x M : Int32} {m : Nat} (hM : M.toInt = m) (h : ¬ (x < 0 ∨ M < x)) : ∃ k, k ≤ m ∧ x = nI k := nI_of2 hM (fun q => h (Or.inl q)) (Int32.not_lt.mp (fun q => h (Or.inr q)))
theorem thr_nI {n : Nat} (h6 : n ≤ 6) {x : Int32} (h : thr n x) : ∃ p, p < n ∧ x = nI p := by
  cases n with
  | zero =>
    exfalso
    refine h ?_
    by_cases q : x < 0
    · exact Or.inl q
    · obtain ⟨j, hj, rfl⟩ := nI_of q
      refine Or.inr (Int32.lt_iff_toInt_lt.mpr ?_)
      rw [nI_toInt hj]
      show (-1 : Int) < j
      omega
  | succ n =>
    unfold thr at h
    rw [nI_pred] at h
    obtain ⟨k, hk, rfl⟩ := rngN (m := n) (nI_toInt (by omega)) h
    exact ⟨k, by omega, rfl⟩
theorem e_thereN {u : Sg} {n : Nat} {x : Int32} (hN : gI u 1 0 = nI n) (h : ¬ thr n x) : V 86 (0, [some (.ref 0), some (.int x)], [], u) (is (.int 0) u) := by
  ((repeat refine VV.s rfl rfl ?_); (try (conv => arg 3; simp only [Nat.reduceAdd, sto1, sto2, isL, cond_true, cond_false, List.drop_succ_cons, List.drop_zero, List.drop_nil])))
  rw [hN]
  refine VV.callE rfl rfl rfl rfl (e_inN (Classical.not_not.mp h)) rfl ?_
  exact VV.ret3 rfl (Or.inl rfl) ⟨rfl, rfl⟩
theorem e_thereY {u : Sg} {n : Nat} {x : Int32} (hN : gI u 1 0 = nI n) (h : thr n x) : V 86 (0, [some (.ref 0), some (.int x)], [], u) (is (.int 1) u) := by
  ((repeat refine VV.s rfl rfl ?_); (try (conv => arg 3; simp only [Nat.reduceAdd, sto1, sto2, isL, cond_true, cond_false, List.drop_succ_cons, List.drop_zero, List.drop_nil])))
  rw [hN]
  refine VV.callE rfl rfl rfl rfl (e_inY h) rfl ?_
  exact VV.ret3 rfl (Or.inr rfl) ⟨rfl, rfl⟩
section B1
variable {u : Sg} {z : Zs}
theorem b_counter (C : CInv u z) : BC 46 [some (.ref 0), none] u (.int (nI (hn z.1))) (zH z (h0 z.1)) := by
  ((repeat refine VV.s rfl rfl ?_); (try (conv => arg 3; simp only [Nat.reduceAdd, sto1, sto2, isL, cond_true, cond_false, List.drop_succ_cons, List.drop_zero, List.drop_nil])))
  refine VV.call rfl rfl rfl rfl (e_empty (Or.inl rfl) C.1) (fun r t q => ?_)
  obtain ⟨rfl, R2, A2, -⟩ := q
  ((repeat refine VV.s rfl rfl ?_); (try (conv => arg 3; simp only [Nat.reduceAdd, sto1, sto2, isL, cond_true, cond_false, List.drop_succ_cons, List.drop_zero, List.drop_nil])))
  refine VV.ret1 rfl ⟨?_, C.house R2 A2, A2.sub (fun k hk => by right; have : 41 ≤ k := hk; omega)⟩
  rw [C.1.1.1]
def oneBad (k s w : Int32) : Prop := (k < 0 ∨ 5 < k) ∨ (s < 0 ∨ 9 < s) ∨ (w < 0 ∨ 9 < w)
theorem b_one_bad (C : CInv u z) {k s w : Int32} (h : oneBad k s w) : BC 47 [some (.ref 0), some (.int k), some (.int s), some (.int w)] u (.int (-2)) (zB z) := by
  by_cases c1 : k < 0 ∨ 5 < k
  · ((repeat refine VV.s rfl rfl ?_); (try (conv => arg 3; simp only [Nat.reduceAdd, sto1, sto2, isL, cond_true, cond_false, List.drop_succ_cons, List.drop_zero, List.drop_nil])))
    refine VV.callE rfl rfl rfl rfl (e_inN c1) rfl ?_
    refine VV.s rfl rfl ?_
    refine VV.itt (by decide) ?_
    ((repeat refine VV.s rfl rfl ?_); (try (conv => arg 3; simp only [Nat.reduceAdd, sto1, sto2, isL, cond_true, cond_false, List.drop_succ_cons, List.drop_zero, List.drop_nil])))
    refine VV.callE rfl rfl rfl rfl e_bad rfl ?_
    exact VV.ret1 rfl ⟨rfl, C.bad, (Agr.rf).I (by decide)⟩
  · ((repeat refine VV.s rfl rfl ?_); (try (conv => arg 3; simp only [Nat.reduceAdd, sto1, sto2, isL, cond_true, cond_false, List.drop_succ_cons, List.drop_zero, List.drop_nil])))
    refine VV.callE rfl rfl rfl rfl (e_inY c1) rfl ?_
    refine VV.s rfl rfl ?_
    refine VV.itf (by decide) ?_
    by_cases c2 : s < 0 ∨ 9 < s
    · ((repeat refine VV.s rfl rfl ?_); (try (conv => arg 3; simp only [Nat.reduceAdd, sto1, sto2, isL, cond_true, cond_false, List.drop_succ_cons, List.drop_zero, List.drop_nil])))
      refine VV.callE rfl rfl rfl rfl (e_soN c2) rfl ?_
      refine VV.s rfl rfl ?_
      refine VV.itt (by decide) ?_
      ((repeat refine VV.s rfl rfl ?_); (try (conv => arg 3; simp only [Nat.reduceAdd, sto1, sto2, isL, cond_true, cond_false, List.drop_succ_cons, List.drop_zero, List.drop_nil])))
      refine VV.callE rfl rfl rfl rfl e_bad rfl ?_
      exact VV.ret1 rfl ⟨rfl, C.bad, (Agr.rf).I (by decide)⟩
    · ((repeat refine VV.s rfl rfl ?_); (try (conv => arg 3; simp only [Nat.reduceAdd, sto1, sto2, isL, cond_true, cond_false, List.drop_succ_cons, List.drop_zero, List.drop_nil])))
      refine VV.callE rfl rfl rfl rfl (e_soY c2) rfl ?_
      refine VV.s rfl rfl ?_
      refine VV.itf (by decide) ?_
      ((repeat refine VV.s rfl rfl ?_); (try (conv => arg 3; simp only [Nat.reduceAdd, sto1, sto2, isL, cond_true, cond_false, List.drop_succ_cons, List.drop_zero, List.drop_nil])))
      refine VV.callE rfl rfl rfl rfl (e_soN ((h.resolve_left c1).resolve_left c2)) rfl ?_
      refine VV.s rfl rfl ?_
      refine VV.itf (by decide) ?_
      ((repeat refine VV.s rfl rfl ?_); (try (conv => arg 3; simp only [Nat.reduceAdd, sto1, sto2, isL, cond_true, cond_false, List.drop_succ_cons, List.drop_zero, List.drop_nil])))
      refine VV.callE rfl rfl rfl rfl e_bad rfl ?_
      exact VV.ret1 rfl ⟨rfl, C.bad, (Agr.rf).I (by decide)⟩
theorem b_one_full (C : CInv u z) {k s w : Int32} (h : ¬ oneBad k s w) (h6 : hn z.1 = 6) : BC 47 [some (.ref 0), some (.int k), some (.int s), some (.int w)] u (.int (-4)) (zF z) := by
  ((repeat refine VV.s rfl rfl ?_); (try (conv => arg 3; simp only [Nat.reduceAdd, sto1, sto2, isL, cond_true, cond_false, List.drop_succ_cons, List.drop_zero, List.drop_nil])))
  refine VV.callE rfl rfl rfl rfl (e_inY (fun q => h (Or.inl q))) rfl ?_
  refine VV.s rfl rfl ?_
  refine VV.itf (by decide) ?_
  ((repeat refine VV.s rfl rfl ?_); (try (conv => arg 3; simp only [Nat.reduceAdd, sto1, sto2, isL, cond_true, cond_false, List.drop_succ_cons, List.drop_zero, List.drop_nil])))
  refine VV.callE rfl rfl rfl rfl (e_soY (fun q => h (Or.inr (Or.inl q)))) rfl ?_
  refine VV.s rfl rfl ?_
  refine VV.itf (by decide) ?_
  ((repeat refine VV.s rfl rfl ?_); (try (conv => arg 3; simp only [Nat.reduceAdd, sto1, sto2, isL, cond_true, cond_false, List.drop_succ_cons, List.drop_zero, List.drop_nil])))
  refine VV.callE rfl rfl rfl rfl (e_soY (fun q => h (Or.inr (Or.inr q)))) rfl ?_
  refine VV.s rfl rfl ?_
  refine VV.itt (by decide) ?_
  ((repeat refine VV.s rfl rfl ?_); (try (conv => arg 3; simp only [Nat.reduceAdd, sto1, sto2, isL, cond_true, cond_false, List.drop_succ_cons, List.drop_zero, List.drop_nil])))
  refine VV.itf (by rw [C.1.1.1, h6]; decide) ?_
  ((repeat refine VV.s rfl rfl ?_); (try (conv => arg 3; simp only [Nat.reduceAdd, sto1, sto2, isL, cond_true, cond_false, List.drop_succ_cons, List.drop_zero, List.drop_nil])))
  refine VV.callE rfl rfl rfl rfl e_full rfl ?_
  exact VV.ret1 rfl ⟨rfl, C.full, (Agr.rf).I (by decide)⟩
theorem b_one_ok (C : CInv u z) (h5 : hn z.1 < 6) {k s w : Nat} (hk : k ≤ 5) (hs : s ≤ 9) (hw : w ≤ 9) (h : ¬ oneBad (nI k) (nI s) (nI w)) : BC 47 [some (.ref 0), some (.int (nI k)), some (.int (nI s)), some (.int (nI w))] u (.int (nI (hn z.1))) (zH z (hOne z.1 k s w)) := by
  ((repeat refine VV.s rfl rfl ?_); (try (conv => arg 3; simp only [Nat.reduceAdd, sto1, sto2, isL, cond_true, cond_false, List.drop_succ_cons, List.drop_zero, List.drop_nil])))
  refine VV.callE rfl rfl rfl rfl (e_inY (fun q => h (Or.inl q))) rfl ?_
  refine VV.s rfl rfl ?_
  refine VV.itf (by decide) ?_
  ((repeat refine VV.s rfl rfl ?_); (try (conv => arg 3; simp only [Nat.reduceAdd, sto1, sto2, isL, cond_true, cond_false, List.drop_succ_cons, List.drop_zero, List.drop_nil])))
  refine VV.callE rfl rfl rfl rfl (e_soY (fun q => h (Or.inr (Or.inl q)))) rfl ?_
  refine VV.s rfl rfl ?_
  refine VV.itf (by decide) ?_
  ((repeat refine VV.s rfl rfl ?_); (try (conv => arg 3; simp only [Nat.reduceAdd, sto1, sto2, isL, cond_true, cond_false, List.drop_succ_cons, List.drop_zero, List.drop_nil])))
  refine VV.callE rfl rfl rfl rfl (e_soY (fun q => h (Or.inr (Or.inr q)))) rfl ?_
  refine VV.s rfl rfl ?_
  refine VV.itt (by decide) ?_
  ((repeat refine VV.s rfl rfl ?_); (try (conv => arg 3; simp only [Nat.reduceAdd, sto1, sto2, isL, cond_true, cond_false, List.drop_succ_cons, List.drop_zero, List.drop_nil])))
  refine VV.itt (by rw [C.1.1.1]; exact nI_lt (b := 6) h5 (by omega)) ?_
  ((repeat refine VV.s rfl rfl ?_); (try (conv => arg 3; simp only [Nat.reduceAdd, sto1, sto2, isL, cond_true, cond_false, List.drop_succ_cons, List.drop_zero, List.drop_nil])))
  refine VV.call rfl rfl rfl rfl (e_welcome (Or.inl rfl) C.1 h5) (fun r t q => ?_)
  obtain ⟨rfl, R2, A2⟩ := q
  exact VV.ret1 rfl ⟨rfl, C.house R2 A2, A2.sub (fun k hk => by right; have : 41 ≤ k := hk; omega)⟩
theorem b_clear (C : CInv u z) : BC 49 [some (.ref 0), none] u (.int (nI z.2.2.1.1)) (z.1, z.2.1, (0, z.2.2.1.2), z.2.2.2) := by
  obtain ⟨h1, h2, h3, ⟨h4, h5⟩, h6, h8, h9, h10⟩ := C
  ((repeat refine VV.s rfl rfl ?_); (try (conv => arg 3; simp only [Nat.reduceAdd, sto1, sto2, isL, cond_true, cond_false, List.drop_succ_cons, List.drop_zero, List.drop_nil])))
  have kp : ∀ b, b ≤ 28 → Agr (onH b) u (pI u 37 1 0) := fun b hb => (Agr.rf).I (by rintro ⟨h1, h2⟩; omega)
  refine VV.ret1 rfl ⟨by rw [h4], ⟨h1.keep (kp 1 (by omega)), ?_, ?_, ⟨rfl, fun j hj => absurd hj (Nat.not_lt_zero j)⟩, h6, h8, h9, h10⟩, (Agr.rf).I (by decide)⟩
  · show ImC _ 4 19 z.2.1.1
    revert h2
    cases z.2.1.1 with
    | none => exact fun h2 => h2
    | some q => exact fun h2 => ⟨h2.1, h2.2.keep (kp 19 (by omega))⟩
  · show ImC _ 5 28 z.2.1.2
    revert h3
    cases z.2.1.2 with
    | none => exact fun h2 => h2
    | some q => exact fun h2 => ⟨h2.1, h2.2.keep (kp 28 (by omega))⟩
theorem onM_off1 {t : Sg} (a : Agr (offH 1) u t) : Agr onM u t := a.sub (fun k hk => by right; have : 41 ≤ k := hk; omega)
theorem onM_off10 {t : Sg} (a : Agr (offH 10) u t) : Agr onM u t := a.sub (fun k hk => by right; have : 41 ≤ k := hk; omega)
theorem b_lend_bad (C : CInv u z) {v p : Int32} (h : ¬ thr (hn z.1) v ∨ ¬ thr (hn z.1) p) : BC 51 [some (.ref 0), some (.int v), some (.int p)] u (.int (-10)) (zB z) := by
  by_cases c1 : thr (hn z.1) v
  · ((repeat refine VV.s rfl rfl ?_); (try (conv => arg 3; simp only [Nat.reduceAdd, sto1, sto2, isL, cond_true, cond_false, List.drop_succ_cons, List.drop_zero, List.drop_nil])))
    refine VV.callE rfl rfl rfl rfl (e_thereY C.1.1.1 c1) rfl ?_
    refine VV.s rfl rfl ?_
    refine VV.itf (by decide) ?_
    ((repeat refine VV.s rfl rfl ?_); (try (conv => arg 3; simp only [Nat.reduceAdd, sto1, sto2, isL, cond_true, cond_false, List.drop_succ_cons, List.drop_zero, List.drop_nil])))
    refine VV.callE rfl rfl rfl rfl (e_thereN C.1.1.1 (h.resolve_left (fun q => q c1))) rfl ?_
    refine VV.s rfl rfl ?_
    refine VV.itf (by decide) ?_
    ((repeat refine VV.s rfl rfl ?_); (try (conv => arg 3; simp only [Nat.reduceAdd, sto1, sto2, isL, cond_true, cond_false, List.drop_succ_cons, List.drop_zero, List.drop_nil])))
    refine VV.callE rfl rfl rfl rfl e_ten rfl ?_
    exact VV.ret1 rfl ⟨rfl, C.bad, (Agr.rf).I (by decide)⟩
  · ((repeat refine VV.s rfl rfl ?_); (try (conv => arg 3; simp only [Nat.reduceAdd, sto1, sto2, isL, cond_true, cond_false, List.drop_succ_cons, List.drop_zero, List.drop_nil])))
    refine VV.callE rfl rfl rfl rfl (e_thereN C.1.1.1 c1) rfl ?_
    refine VV.s rfl rfl ?_
    refine VV.itt (by decide) ?_
    ((repeat refine VV.s rfl rfl ?_); (try (conv => arg 3; simp only [Nat.reduceAdd, sto1, sto2, isL, cond_true, cond_false, List.drop_succ_cons, List.drop_zero, List.drop_nil])))
    refine VV.callE rfl rfl rfl rfl e_ten rfl ?_
    exact VV.ret1 rfl ⟨rfl, C.bad, (Agr.rf).I (by decide)⟩
theorem b_lend_no (C : CInv u z) (G : GoodH z.1) {v p : Nat} (hv : v < hn z.1) (t1 : thr (hn z.1) (nI v)) (t2 : thr (hn z.1) (nI p)) (h : hho z.1 v ≠ 0) : BC 51 [some (.ref 0), some (.int (nI v)), some (.int (nI p))] u (.int (-3)) (zN z) := by
  have h6 := G.1.1
  have g := (G.2.2.1.1 v hv).1
  ((repeat refine VV.s rfl rfl ?_); (try (conv => arg 3; simp only [Nat.reduceAdd, sto1, sto2, isL, cond_true, cond_false, List.drop_succ_cons, List.drop_zero, List.drop_nil])))
  refine VV.callE rfl rfl rfl rfl (e_thereY C.1.1.1 t1) rfl ?_
  refine VV.s rfl rfl ?_
  refine VV.itf (by decide) ?_
  ((repeat refine VV.s rfl rfl ?_); (try (conv => arg 3; simp only [Nat.reduceAdd, sto1, sto2, isL, cond_true, cond_false, List.drop_succ_cons, List.drop_zero, List.drop_nil])))
  refine VV.callE rfl rfl rfl rfl (e_thereY C.1.1.1 t2) rfl ?_
  refine VV.s rfl rfl ?_
  refine VV.itt (by decide) ?_
  ((repeat refine VV.s rfl rfl ?_); (try (conv => arg 3; simp only [Nat.reduceAdd, sto1, sto2, isL, cond_true, cond_false, List.drop_succ_cons, List.drop_zero, List.drop_nil])))
  refine VV.iald rfl rfl rfl (show v < 6 by omega) (by decide) ?_
  ((repeat refine VV.s rfl rfl ?_); (try (conv => arg 3; simp only [Nat.reduceAdd, sto1, sto2, isL, cond_true, cond_false, List.drop_succ_cons, List.drop_zero, List.drop_nil])))
  refine VV.itf (fun q => h ((cI_none (by omega)).mp ((C.1.2.1 v hv).2.2.2.1.symm.trans q))) ?_
  ((repeat refine VV.s rfl rfl ?_); (try (conv => arg 3; simp only [Nat.reduceAdd, sto1, sto2, isL, cond_true, cond_false, List.drop_succ_cons, List.drop_zero, List.drop_nil])))
  refine VV.callE rfl rfl rfl rfl e_no rfl ?_
  exact VV.ret1 rfl ⟨rfl, C.no, (Agr.rf).I (by decide)⟩
theorem hKp_vo (h : Hs) (p : Nat) : voH (hKp h) p = voH h p := rfl
theorem b_lend_ok (C : CInv u z) (G : GoodH z.1) {v p : Nat} (hv : v < hn z.1) (hp : p < hn z.1) (t1 : thr (hn z.1) (nI v)) (t2 : thr (hn z.1) (nI p)) (h : hho z.1 v = 0) : BC 51 [some (.ref 0), some (.int (nI v)), some (.int (nI p))] u (.int (cI (voH z.1 p))) (zH z (hGv (hKp z.1) v p)) := by
  have h6 := G.1.1
  ((repeat refine VV.s rfl rfl ?_); (try (conv => arg 3; simp only [Nat.reduceAdd, sto1, sto2, isL, cond_true, cond_false, List.drop_succ_cons, List.drop_zero, List.drop_nil])))
  refine VV.callE rfl rfl rfl rfl (e_thereY C.1.1.1 t1) rfl ?_
  refine VV.s rfl rfl ?_
  refine VV.itf (by decide) ?_
  ((repeat refine VV.s rfl rfl ?_); (try (conv => arg 3; simp only [Nat.reduceAdd, sto1, sto2, isL, cond_true, cond_false, List.drop_succ_cons, List.drop_zero, List.drop_nil])))
  refine VV.callE rfl rfl rfl rfl (e_thereY C.1.1.1 t2) rfl ?_
  refine VV.s rfl rfl ?_
  refine VV.itt (by decide) ?_
  ((repeat refine VV.s rfl rfl ?_); (try (conv => arg 3; simp only [Nat.reduceAdd, sto1, sto2, isL, cond_true, cond_false, List.drop_succ_cons, List.drop_zero, List.drop_nil])))
  refine VV.iald rfl rfl rfl (show v < 6 by omega) (by decide) ?_
  ((repeat refine VV.s rfl rfl ?_); (try (conv => arg 3; simp only [Nat.reduceAdd, sto1, sto2, isL, cond_true, cond_false, List.drop_succ_cons, List.drop_zero, List.drop_nil])))
  refine VV.itt (by rw [(C.1.2.1 v hv).2.2.2.1, h]; rfl) ?_
  ((repeat refine VV.s rfl rfl ?_); (try (conv => arg 3; simp only [Nat.reduceAdd, sto1, sto2, isL, cond_true, cond_false, List.drop_succ_cons, List.drop_zero, List.drop_nil])))
  refine VV.call rfl rfl rfl rfl (e_keepPast C.1 G) (fun r t q => ?_)
  obtain ⟨rfl, R2, A2⟩ := q
  ((repeat refine VV.s rfl rfl ?_); (try (conv => arg 3; simp only [Nat.reduceAdd, sto1, sto2, isL, cond_true, cond_false, List.drop_succ_cons, List.drop_zero, List.drop_nil])))
  refine VV.call rfl rfl rfl rfl (e_give (Or.inl rfl) R2 (goodKp G) hv hp) (fun r t2 q => ?_)
  obtain ⟨rfl, R3, A3⟩ := q
  exact VV.ret1 rfl ⟨rfl, C.house R3 (A2.tr A3), onM_off1 (A2.tr A3)⟩
theorem b_leave_bad (C : CInv u z) {p : Int32} (h : ¬ thr (hn z.1) p) : BC 52 [some (.ref 0), some (.int p), none] u (.int (-2)) (zB z) := by
  ((repeat refine VV.s rfl rfl ?_); (try (conv => arg 3; simp only [Nat.reduceAdd, sto1, sto2, isL, cond_true, cond_false, List.drop_succ_cons, List.drop_zero, List.drop_nil])))
  refine VV.callE rfl rfl rfl rfl (e_thereN C.1.1.1 h) rfl ?_
  refine VV.s rfl rfl ?_
  refine VV.itf (by decide) ?_
  ((repeat refine VV.s rfl rfl ?_); (try (conv => arg 3; simp only [Nat.reduceAdd, sto1, sto2, isL, cond_true, cond_false, List.drop_succ_cons, List.drop_zero, List.drop_nil])))
  refine VV.callE rfl rfl rfl rfl e_bad rfl ?_
  exact VV.ret1 rfl ⟨rfl, C.bad, (Agr.rf).I (by decide)⟩
theorem b_leave_no (C : CInv u z) (G : GoodH z.1) {p : Nat} (hp : p < hn z.1) (t1 : thr (hn z.1) (nI p)) (h : voH z.1 p = 0) : BC 52 [some (.ref 0), some (.int (nI p)), none] u (.int (-3)) (zN z) := by
  have h6 := G.1.1
  ((repeat refine VV.s rfl rfl ?_); (try (conv => arg 3; simp only [Nat.reduceAdd, sto1, sto2, isL, cond_true, cond_false, List.drop_succ_cons, List.drop_zero, List.drop_nil])))
  refine VV.callE rfl rfl rfl rfl (e_thereY C.1.1.1 t1) rfl ?_
  refine VV.s rfl rfl ?_
  refine VV.itt (by decide) ?_
  ((repeat refine VV.s rfl rfl ?_); (try (conv => arg 3; simp only [Nat.reduceAdd, sto1, sto2, isL, cond_true, cond_false, List.drop_succ_cons, List.drop_zero, List.drop_nil])))
  refine VV.callE rfl rfl rfl rfl (e_voiceWith (Or.inl rfl) C.1 G (p := p) (by omega)) rfl ?_
  ((repeat refine VV.s rfl rfl ?_); (try (conv => arg 3; simp only [Nat.reduceAdd, sto1, sto2, isL, cond_true, cond_false, List.drop_succ_cons, List.drop_zero, List.drop_nil])))
  rw [h]
  refine VV.itf (fun q => q rfl) ?_
  ((repeat refine VV.s rfl rfl ?_); (try (conv => arg 3; simp only [Nat.reduceAdd, sto1, sto2, isL, cond_true, cond_false, List.drop_succ_cons, List.drop_zero, List.drop_nil])))
  refine VV.callE rfl rfl rfl rfl e_no rfl ?_
  exact VV.ret1 rfl ⟨rfl, C.no, (Agr.rf).I (by decide)⟩
theorem b_leave_ok (C : CInv u z) (G : GoodH z.1) {p v : Nat} (hp : p < hn z.1) (t1 : thr (hn z.1) (nI p)) (hv : v < hn z.1) (h : voH z.1 p = v + 1) : BC 52 [some (.ref 0), some (.int (nI p)), none] u (.int (nI v)) (zH z (hLv (hKp z.1) v)) := by
  have h6 := G.1.1
  ((repeat refine VV.s rfl rfl ?_); (try (conv => arg 3; simp only [Nat.reduceAdd, sto1, sto2, isL, cond_true, cond_false, List.drop_succ_cons, List.drop_zero, List.drop_nil])))
  refine VV.callE rfl rfl rfl rfl (e_thereY C.1.1.1 t1) rfl ?_
  refine VV.s rfl rfl ?_
  refine VV.itt (by decide) ?_
  ((repeat refine VV.s rfl rfl ?_); (try (conv => arg 3; simp only [Nat.reduceAdd, sto1, sto2, isL, cond_true, cond_false, List.drop_succ_cons, List.drop_zero, List.drop_nil])))
  refine VV.callE rfl rfl rfl rfl (e_voiceWith (Or.inl rfl) C.1 G (p := p) (by omega)) rfl ?_
  ((repeat refine VV.s rfl rfl ?_); (try (conv => arg 3; simp only [Nat.reduceAdd, sto1, sto2, isL, cond_true, cond_false, List.drop_succ_cons, List.drop_zero, List.drop_nil])))
  rw [h, cI_s]
  refine VV.itt (nI_ne1 (by omega)) ?_
  ((repeat refine VV.s rfl rfl ?_); (try (conv => arg 3; simp only [Nat.reduceAdd, sto1, sto2, isL, cond_true, cond_false, List.drop_succ_cons, List.drop_zero, List.drop_nil])))
  refine VV.call rfl rfl rfl rfl (e_keepPast C.1 G) (fun r t q => ?_)
  obtain ⟨rfl, R2, A2⟩ := q
  ((repeat refine VV.s rfl rfl ?_); (try (conv => arg 3; simp only [Nat.reduceAdd, sto1, sto2, isL, cond_true, cond_false, List.drop_succ_cons, List.drop_zero, List.drop_nil])))
  refine VV.call rfl rfl rfl rfl (e_putDown (Or.inl rfl) R2 (goodKp G) hv) (fun r t2 q => ?_)
  obtain ⟨rfl, R3, A3⟩ := q
  ((repeat refine VV.s rfl rfl ?_); (try (conv => arg 3; simp only [Nat.reduceAdd, sto1, sto2, isL, cond_true, cond_false, List.drop_succ_cons, List.drop_zero, List.drop_nil])))
  exact VV.ret1 rfl ⟨rfl, C.house R3 (A2.tr A3), onM_off1 (A2.tr A3)⟩
theorem b_undo_no (C : CInv u z) (h : hun z.1 = 0) : BC 54 [some (.ref 0)] u (.int (-3)) (zN z) := by
  ((repeat refine VV.s rfl rfl ?_); (try (conv => arg 3; simp only [Nat.reduceAdd, sto1, sto2, isL, cond_true, cond_false, List.drop_succ_cons, List.drop_zero, List.drop_nil])))
  refine VV.itf (by rw [C.1.1.2.2.2, h]; exact fun q => q rfl) ?_
  ((repeat refine VV.s rfl rfl ?_); (try (conv => arg 3; simp only [Nat.reduceAdd, sto1, sto2, isL, cond_true, cond_false, List.drop_succ_cons, List.drop_zero, List.drop_nil])))
  refine VV.callE rfl rfl rfl rfl e_no rfl ?_
  exact VV.ret1 rfl ⟨rfl, C.no, (Agr.rf).I (by decide)⟩
theorem b_undo_ok (C : CInv u z) (G : GoodH z.1) (h : 0 < hun z.1) : BC 54 [some (.ref 0)] u (.int (nI (hev (hBk z.1)))) (zH z (hBk z.1)) := by
  have h8 := G.1.2.2.2
  ((repeat refine VV.s rfl rfl ?_); (try (conv => arg 3; simp only [Nat.reduceAdd, sto1, sto2, isL, cond_true, cond_false, List.drop_succ_cons, List.drop_zero, List.drop_nil])))
  refine VV.itt (by rw [C.1.1.2.2.2]; exact nI_ne0 h (by omega)) ?_
  ((repeat refine VV.s rfl rfl ?_); (try (conv => arg 3; simp only [Nat.reduceAdd, sto1, sto2, isL, cond_true, cond_false, List.drop_succ_cons, List.drop_zero, List.drop_nil])))
  refine VV.call rfl rfl rfl rfl (e_goBack C.1 G h) (fun r t q => ?_)
  obtain ⟨rfl, R2, A2⟩ := q
  ((repeat refine VV.s rfl rfl ?_); (try (conv => arg 3; simp only [Nat.reduceAdd, sto1, sto2, isL, cond_true, cond_false, List.drop_succ_cons, List.drop_zero, List.drop_nil])))
  exact VV.ret1 rfl ⟨by rw [R2.1.2.1], C.house R2 A2, onM_off1 A2⟩
end B1
