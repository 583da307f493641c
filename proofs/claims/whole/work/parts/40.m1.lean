/-! ===== the reference: its cells, refusals, what is read ===== -/
abbrev MC (m : Nat) (L : List (Option Value)) (u : Sg) (r : Value) (z' : Zs) : Prop := V m (0, L, [], u) (fun x t => x = some r ∧ MInv t z' ∧ Agr onC u t)
/-- only where voices are, the past, notes .. may have changed -/
def MF (u t : Sg) : Prop := (∀ k, k ≤ 42 ∨ (54 ≤ k ∧ k ≤ 56) ∨ 58 ≤ k → gA t k = gA u k) ∧ (∀ k j, k ≠ 41 → gI t k j = gI u k j) ∧ (∀ j, j ≠ 1 → j ≠ 2 → j ≠ 3 → j ≠ 23 → gI t 41 j = gI u 41 j) ∧ ∀ k j, gJ t k j = gJ u k j
theorem MF.rf {u : Sg} : MF u u := ⟨fun _ _ => rfl, fun _ _ _ => rfl, fun _ _ _ _ _ => rfl, fun _ _ => rfl⟩
theorem MF.tr {u v w : Sg} (a : MF u v) (b : MF v w) : MF u w := ⟨fun k h => (b.1 k h).trans (a.1 k h), fun k j h => (b.2.1 k j h).trans (a.2.1 k j h), fun j h1 h2 h3 h4 => (b.2.2.1 j h1 h2 h3 h4).trans (a.2.2.1 j h1 h2 h3 h4), fun k j => (b.2.2.2 k j).trans (a.2.2.2 k j)⟩
theorem MF.A {u v : Sg} {k : Nat} {f : Nat → Int32} (a : MF u v) (hk : (43 ≤ k ∧ k ≤ 53) ∨ k = 57) : MF u (pA v k f) := ⟨fun q h => by rw [gA_pA, if_neg (by omega)]; exact a.1 q h, a.2.1, a.2.2.1, a.2.2.2⟩
theorem MF.I {u v : Sg} {j : Nat} {x : Int32} (a : MF u v) (hj : j = 1 ∨ j = 2 ∨ j = 3 ∨ j = 23) : MF u (pI v 41 j x) := ⟨a.1, fun k i h => by rw [gI_pI, if_neg h]; exact a.2.1 k i h, fun i h1 h2 h3 h4 => by rw [gI_pI, if_pos rfl, if_neg (by omega)]; exact a.2.2.1 i h1 h2 h3 h4, a.2.2.2⟩
theorem MF.onC {u t : Sg} (a : MF u t) : Agr onC u t := fun k hk => ⟨fun j => a.2.1 k j (by have : k ≤ 40 := hk; omega), fun j => a.2.2.2 k j, a.1 k (by have : k ≤ 40 := hk; omega)⟩
theorem MInv.main {u t : Sg} {z : Zs} {h : Hs} (C : MInv u z) (R : MRep t h) (a : MF u t) : MInv t (zH z h) := by
  obtain ⟨h1, h2, h3, ⟨h4, h5⟩, ⟨h6, h7⟩, h8, h9, h10⟩ := C
  have g : ∀ k, k = 42 ∨ k = 54 ∨ k = 61 ∨ k = 62 → gA t k = gA u k := fun k hk => a.1 k (by omega)
  refine ⟨R, ?_, ?_, ⟨by rw [a.2.2.1 16 (by omega) (by omega) (by omega) (by omega)]; exact h4, fun j hj => by rw [g 54 (by omega)]; exact h5 j hj⟩, ⟨by rw [a.2.2.2]; exact h6, by rw [a.2.2.2]; exact h7⟩, by rw [g 42 (by omega)]; exact h8, by rw [g 42 (by omega)]; exact h9, by rw [g 42 (by omega)]; exact h10⟩
  · show ImM t 0 z.2.1.1
    revert h2
    cases z.2.1.1 with
    | none => intro h2; show gA t 62 0 = 0; rw [g 62 (by omega)]; exact h2
    | some q => intro h2; exact ⟨by rw [g 62 (by omega)]; exact h2.1, by have := h2.2; unfold IRep at this ⊢; rw [g 61 (by omega)]; exact this⟩
  · show ImM t 1 z.2.1.2
    revert h3
    cases z.2.1.2 with
    | none => intro h2; show gA t 62 1 = 0; rw [g 62 (by omega)]; exact h2
    | some q => intro h2; exact ⟨by rw [g 62 (by omega)]; exact h2.1, by have := h2.2; unfold IRep at this ⊢; rw [g 61 (by omega)]; exact this⟩
/-- cells that hold nothing of the state may change -/
theorem MRep.keep2 {u t : Sg} {h : Hs} (r : MRep u h) (a : ∀ k, (43 ≤ k ∧ k ≤ 53) ∨ k = 57 → gA t k = gA u k) (b : ∀ j, j = 1 ∨ j = 2 ∨ j = 3 ∨ j = 23 → gI t 41 j = gI u 41 j) : MRep t h := by
  refine ⟨by rw [b 1 (by omega), b 2 (by omega), b 3 (by omega), b 23 (by omega)]; exact r.1, fun v hv => by rw [a 43 (by omega), a 44 (by omega), a 45 (by omega), a 46 (by omega), a 47 (by omega), a 48 (by omega)]; exact r.2.1 v hv, fun i c hi hc => by rw [a (49 + c) (by omega)]; exact r.2.2.1 i c hi hc, ?_⟩
  rw [a 57 (by omega)]
  exact r.2.2.2
theorem MInv.keep2 {u t : Sg} {z : Zs} (C : MInv u z) (a : ∀ k, (42 ≤ k ∧ k ≤ 54) ∨ k = 57 ∨ k = 61 ∨ k = 62 → gA t k = gA u k) (b : ∀ j, j = 1 ∨ j = 2 ∨ j = 3 ∨ j = 16 ∨ j = 23 → gI t 41 j = gI u 41 j) (c : ∀ j, j = 27 ∨ j = 28 → gJ t 41 j = gJ u 41 j) : MInv t z := by
  obtain ⟨h1, h2, h3, ⟨h4, h5⟩, ⟨h6, h7⟩, h8, h9, h10⟩ := C
  refine ⟨h1.keep2 (fun k hk => a k (by omega)) (fun j hj => b j (by omega)), ?_, ?_, ⟨by rw [b 16 (by omega)]; exact h4, fun j hj => by rw [a 54 (by omega)]; exact h5 j hj⟩, ⟨by rw [c 27 (by omega)]; exact h6, by rw [c 28 (by omega)]; exact h7⟩, by rw [a 42 (by omega)]; exact h8, by rw [a 42 (by omega)]; exact h9, by rw [a 42 (by omega)]; exact h10⟩
  · revert h2
    cases z.2.1.1 with
    | none => intro h2; show gA t 62 0 = 0; rw [a 62 (by omega)]; exact h2
    | some q => intro h2; exact ⟨by rw [a 62 (by omega)]; exact h2.1, by have := h2.2; unfold IRep at this ⊢; rw [a 61 (by omega)]; exact this⟩
  · revert h3
    cases z.2.1.2 with
    | none => intro h2; show gA t 62 1 = 0; rw [a 62 (by omega)]; exact h2
    | some q => intro h2; exact ⟨by rw [a 62 (by omega)]; exact h2.1, by have := h2.2; unfold IRep at this ⊢; rw [a 61 (by omega)]; exact this⟩
theorem MInv.st {u : Sg} {z : Zs} (C : MInv u z) {i : Nat} {x : Int32} {z' : Zs} (e : z'.1 = z.1 ∧ z'.2.1 = z.2.1 ∧ z'.2.2.1 = z.2.2.1 ∧ z'.2.2.2.1 = z.2.2.2.1) (e0 : upd (gA u 42) i x 0 = z'.2.2.2.2.1) (e1 : upd (gA u 42) i x 1 = z'.2.2.2.2.2.1) (e2 : upd (gA u 42) i x 2 = z'.2.2.2.2.2.2) : MInv (pA u 42 (upd (gA u 42) i x)) z' := by
  obtain ⟨y1, y2, y3, y4⟩ := e
  obtain ⟨h1, h2, h3, h4, h6, -, -, -⟩ := C
  unfold MInv
  rw [y1, y2, y3, y4]
  refine ⟨h1.keep2 (fun k hk => by rw [gA_pA, if_neg (by omega)]) (fun j hj => rfl), ?_, ?_, h4, h6, e0, e1, e2⟩
  · revert h2
    cases z.2.1.1 with
    | none => exact fun h2 => h2
    | some q => exact fun h2 => h2
  · revert h3
    cases z.2.1.2 with
    | none => exact fun h2 => h2
    | some q => exact fun h2 => h2
theorem MInv.bad {u : Sg} {z : Zs} (C : MInv u z) : MInv (pA u 42 (upd (gA u 42) 0 (gA u 42 0 + 1))) (zB z) := C.st ⟨rfl, rfl, rfl, rfl⟩ (by show gA u 42 0 + 1 = _; rw [C.2.2.2.2.2.1]; rfl) C.2.2.2.2.2.2.1 C.2.2.2.2.2.2.2
theorem MInv.no {u : Sg} {z : Zs} (C : MInv u z) : MInv (pA u 42 (upd (gA u 42) 1 (gA u 42 1 + 1))) (zN z) := C.st ⟨rfl, rfl, rfl, rfl⟩ C.2.2.2.2.2.1 (by show gA u 42 1 + 1 = _; rw [C.2.2.2.2.2.2.1]; rfl) C.2.2.2.2.2.2.2
theorem MInv.full {u : Sg} {z : Zs} (C : MInv u z) : MInv (pA u 42 (upd (gA u 42) 2 (gA u 42 2 + 1))) (zF z) := C.st ⟨rfl, rfl, rfl, rfl⟩ C.2.2.2.2.2.1 C.2.2.2.2.2.2.1 (by show gA u 42 2 + 1 = _; rw [C.2.2.2.2.2.2.2]; rfl)
section M1
variable {u : Sg}
theorem f_bad : V 95 (0, [some (.ref 41)], [], u) (is (.int (-2)) (pA u 42 (upd (gA u 42) 0 (gA u 42 0 + 1)))) := by
  ((repeat (fail_if_success show VV _ _ (6, _, _, _) _); refine VV.s rfl rfl ?_); (try (conv => arg 3; simp only [Nat.reduceAdd, sto1, sto2, isL, cond_true, cond_false, List.drop_succ_cons, List.drop_zero, List.drop_nil])))
  refine VV.iald (n := 0) rfl rfl rfl (by decide) (by decide) ?_
  ((repeat (fail_if_success show VV _ _ (9, _, _, _) _); refine VV.s rfl rfl ?_); (try (conv => arg 3; simp only [Nat.reduceAdd, sto1, sto2, isL, cond_true, cond_false, List.drop_succ_cons, List.drop_zero, List.drop_nil])))
  refine VV.iast (n := 0) rfl rfl rfl (by decide) (by decide) ?_
  ((repeat refine VV.s rfl rfl ?_); (try (conv => arg 3; simp only [Nat.reduceAdd, sto1, sto2, isL, cond_true, cond_false, List.drop_succ_cons, List.drop_zero, List.drop_nil])))
  exact VV.ret1 rfl ⟨rfl, rfl⟩
theorem f_ten : V 96 (0, [some (.ref 41)], [], u) (is (.int (-10)) (pA u 42 (upd (gA u 42) 0 (gA u 42 0 + 1)))) := by
  ((repeat (fail_if_success show VV _ _ (6, _, _, _) _); refine VV.s rfl rfl ?_); (try (conv => arg 3; simp only [Nat.reduceAdd, sto1, sto2, isL, cond_true, cond_false, List.drop_succ_cons, List.drop_zero, List.drop_nil])))
  refine VV.iald (n := 0) rfl rfl rfl (by decide) (by decide) ?_
  ((repeat (fail_if_success show VV _ _ (9, _, _, _) _); refine VV.s rfl rfl ?_); (try (conv => arg 3; simp only [Nat.reduceAdd, sto1, sto2, isL, cond_true, cond_false, List.drop_succ_cons, List.drop_zero, List.drop_nil])))
  refine VV.iast (n := 0) rfl rfl rfl (by decide) (by decide) ?_
  ((repeat refine VV.s rfl rfl ?_); (try (conv => arg 3; simp only [Nat.reduceAdd, sto1, sto2, isL, cond_true, cond_false, List.drop_succ_cons, List.drop_zero, List.drop_nil])))
  exact VV.ret1 rfl ⟨rfl, rfl⟩
theorem f_no : V 97 (0, [some (.ref 41)], [], u) (is (.int (-3)) (pA u 42 (upd (gA u 42) 1 (gA u 42 1 + 1)))) := by
  ((repeat (fail_if_success show VV _ _ (6, _, _, _) _); refine VV.s rfl rfl ?_); (try (conv => arg 3; simp only [Nat.reduceAdd, sto1, sto2, isL, cond_true, cond_false, List.drop_succ_cons, List.drop_zero, List.drop_nil])))
  refine VV.iald (n := 1) rfl rfl rfl (by decide) (by decide) ?_
  ((repeat (fail_if_success show VV _ _ (9, _, _, _) _); refine VV.s rfl rfl ?_); (try (conv => arg 3; simp only [Nat.reduceAdd, sto1, sto2, isL, cond_true, cond_false, List.drop_succ_cons, List.drop_zero, List.drop_nil])))
  refine VV.iast (n := 1) rfl rfl rfl (by decide) (by decide) ?_
  ((repeat refine VV.s rfl rfl ?_); (try (conv => arg 3; simp only [Nat.reduceAdd, sto1, sto2, isL, cond_true, cond_false, List.drop_succ_cons, List.drop_zero, List.drop_nil])))
  exact VV.ret1 rfl ⟨rfl, rfl⟩
theorem f_full : V 98 (0, [some (.ref 41)], [], u) (is (.int (-4)) (pA u 42 (upd (gA u 42) 2 (gA u 42 2 + 1)))) := by
  ((repeat (fail_if_success show VV _ _ (6, _, _, _) _); refine VV.s rfl rfl ?_); (try (conv => arg 3; simp only [Nat.reduceAdd, sto1, sto2, isL, cond_true, cond_false, List.drop_succ_cons, List.drop_zero, List.drop_nil])))
  refine VV.iald (n := 2) rfl rfl rfl (by decide) (by decide) ?_
  ((repeat (fail_if_success show VV _ _ (9, _, _, _) _); refine VV.s rfl rfl ?_); (try (conv => arg 3; simp only [Nat.reduceAdd, sto1, sto2, isL, cond_true, cond_false, List.drop_succ_cons, List.drop_zero, List.drop_nil])))
  refine VV.iast (n := 2) rfl rfl rfl (by decide) (by decide) ?_
  ((repeat refine VV.s rfl rfl ?_); (try (conv => arg 3; simp only [Nat.reduceAdd, sto1, sto2, isL, cond_true, cond_false, List.drop_succ_cons, List.drop_zero, List.drop_nil])))
  exact VV.ret1 rfl ⟨rfl, rfl⟩
theorem f_inN {x lo hi : Int32} (h : x < lo ∨ hi < x) : V 99 (0, [some (.int x), some (.int lo), some (.int hi)], [], u) (is (.int 0) u) := by
  ((repeat refine VV.s rfl rfl ?_); (try (conv => arg 3; simp only [Nat.reduceAdd, sto1, sto2, isL, cond_true, cond_false, List.drop_succ_cons, List.drop_zero, List.drop_nil])))
  refine VV.ite (fun q => ?_) (fun q => ?_)
  · ((repeat refine VV.s rfl rfl ?_); (try (conv => arg 3; simp only [Nat.reduceAdd, sto1, sto2, isL, cond_true, cond_false, List.drop_succ_cons, List.drop_zero, List.drop_nil])))
    exact VV.ret3 rfl (Or.inl rfl) ⟨rfl, rfl⟩
  · ((repeat refine VV.s rfl rfl ?_); (try (conv => arg 3; simp only [Nat.reduceAdd, sto1, sto2, isL, cond_true, cond_false, List.drop_succ_cons, List.drop_zero, List.drop_nil])))
    refine VV.itt (h.resolve_left q) ?_
    ((repeat refine VV.s rfl rfl ?_); (try (conv => arg 3; simp only [Nat.reduceAdd, sto1, sto2, isL, cond_true, cond_false, List.drop_succ_cons, List.drop_zero, List.drop_nil])))
    exact VV.ret3 rfl (Or.inl rfl) ⟨rfl, rfl⟩
theorem f_inY {x lo hi : Int32} (h : ¬ (x < lo ∨ hi < x)) : V 99 (0, [some (.int x), some (.int lo), some (.int hi)], [], u) (is (.int 1) u) := by
  ((repeat refine VV.s rfl rfl ?_); (try (conv => arg 3; simp only [Nat.reduceAdd, sto1, sto2, isL, cond_true, cond_false, List.drop_succ_cons, List.drop_zero, List.drop_nil])))
  refine VV.itf (fun q => h (Or.inl q)) ?_
  ((repeat refine VV.s rfl rfl ?_); (try (conv => arg 3; simp only [Nat.reduceAdd, sto1, sto2, isL, cond_true, cond_false, List.drop_succ_cons, List.drop_zero, List.drop_nil])))
  refine VV.itf (fun q => h (Or.inr q)) ?_
  ((repeat refine VV.s rfl rfl ?_); (try (conv => arg 3; simp only [Nat.reduceAdd, sto1, sto2, isL, cond_true, cond_false, List.drop_succ_cons, List.drop_zero, List.drop_nil])))
  exact VV.ret3 rfl (Or.inr rfl) ⟨rfl, rfl⟩
theorem f_has {ks : Int32} {a : Nat} : V 100 (0, [some (.int ks), some (.int (nI a))], [], u) (is (.int (b01 (bt ks a))) u) := by
  ((repeat refine VV.s rfl rfl ?_); (try (conv => arg 3; simp only [Nat.reduceAdd, sto1, sto2, isL, cond_true, cond_false, List.drop_succ_cons, List.drop_zero, List.drop_nil])))
  unfold bt
  refine VV.ite (fun q => ?_) (fun q => ?_)
  · ((repeat refine VV.s rfl rfl ?_); (try (conv => arg 3; simp only [Nat.reduceAdd, sto1, sto2, isL, cond_true, cond_false, List.drop_succ_cons, List.drop_zero, List.drop_nil])))
    exact VV.ret3 rfl (Or.inl rfl) ⟨by simp [b01, q], rfl⟩
  · ((repeat refine VV.s rfl rfl ?_); (try (conv => arg 3; simp only [Nat.reduceAdd, sto1, sto2, isL, cond_true, cond_false, List.drop_succ_cons, List.drop_zero, List.drop_nil])))
    exact VV.ret3 rfl (Or.inr rfl) ⟨by simp [b01, Classical.not_not.mp q], rfl⟩
theorem f_oneN {n : Nat} {x : Int32} (hN : gI u 41 1 = nI n) (h : ¬ thr n x) : V 102 (0, [some (.ref 41), some (.int x)], [], u) (is (.int 0) u) := by
  ((repeat refine VV.s rfl rfl ?_); (try (conv => arg 3; simp only [Nat.reduceAdd, sto1, sto2, isL, cond_true, cond_false, List.drop_succ_cons, List.drop_zero, List.drop_nil])))
  rw [hN]
  refine VV.callE rfl rfl rfl rfl (f_inN (Classical.not_not.mp h)) rfl ?_
  exact VV.ret3 rfl (Or.inl rfl) ⟨rfl, rfl⟩
theorem f_oneY {n : Nat} {x : Int32} (hN : gI u 41 1 = nI n) (h : thr n x) : V 102 (0, [some (.ref 41), some (.int x)], [], u) (is (.int 1) u) := by
  ((repeat refine VV.s rfl rfl ?_); (try (conv => arg 3; simp only [Nat.reduceAdd, sto1, sto2, isL, cond_true, cond_false, List.drop_succ_cons, List.drop_zero, List.drop_nil])))
  rw [hN]
  refine VV.callE rfl rfl rfl rfl (f_inY h) rfl ?_
  exact VV.ret3 rfl (Or.inr rfl) ⟨rfl, rfl⟩
theorem f_lesser {a b : Nat} (ha : a < 2 ^ 31) (hb : b < 2 ^ 31) : V 125 (0, [some (.int (nI a)), some (.int (nI b))], [], u) (is (.int (nI (min a b))) u) := by
  ((repeat refine VV.s rfl rfl ?_); (try (conv => arg 3; simp only [Nat.reduceAdd, sto1, sto2, isL, cond_true, cond_false, List.drop_succ_cons, List.drop_zero, List.drop_nil])))
  refine VV.ite (fun q => ?_) (fun q => ?_)
  · rw [le_nI hb ha] at q
    ((repeat refine VV.s rfl rfl ?_); (try (conv => arg 3; simp only [Nat.reduceAdd, sto1, sto2, isL, cond_true, cond_false, List.drop_succ_cons, List.drop_zero, List.drop_nil])))
    exact VV.ret1 rfl ⟨by rw [Nat.min_eq_right q], rfl⟩
  · rw [le_nI hb ha] at q
    ((repeat refine VV.s rfl rfl ?_); (try (conv => arg 3; simp only [Nat.reduceAdd, sto1, sto2, isL, cond_true, cond_false, List.drop_succ_cons, List.drop_zero, List.drop_nil])))
    exact VV.ret1 rfl ⟨by rw [Nat.min_eq_left (by omega)], rfl⟩
set_option maxHeartbeats 4000000 in
theorem f_soundBy {k s d : Nat} (hk : k ≤ 5) (hs : s ≤ 9) (hd : d < 2 ^ 31) : V 126 (0, [some (.int (nI k)), some (.int (nI s)), some (.int (nI d)), none], [], u) (is (.int (nI (sdN k s d))) u) := by
  have e2 : nI s + 2 = nI (s + 2) := add_nI s 2
  have go : V 126 (13, [some (.int (nI k)), some (.int (nI s)), some (.int (nI d)), some (.int (nI (s - 2)))], [], u) (is (.int (nI (sdN k s d))) u) := by
    refine VV.s rfl rfl ?_
    refine VV.s rfl rfl ?_
    rcases le6 hk with rfl | rfl | rfl | rfl | rfl | rfl
    · refine V.pc (swT_out (by omega) (by decide)) ?_
      ((repeat refine VV.s rfl rfl ?_); (try (conv => arg 3; simp only [Nat.reduceAdd, sto1, sto2, isL, cond_true, cond_false, List.drop_succ_cons, List.drop_zero, List.drop_nil])))
      exact VV.ret1 rfl ⟨rfl, rfl⟩
    · refine V.pc (swT_in (by omega) (by decide) (by decide) rfl) ?_
      ((repeat refine VV.s rfl rfl ?_); (try (conv => arg 3; simp only [Nat.reduceAdd, sto1, sto2, isL, cond_true, cond_false, List.drop_succ_cons, List.drop_zero, List.drop_nil])))
      exact VV.ret1 rfl ⟨rfl, rfl⟩
    · refine V.pc (swT_in (by omega) (by decide) (by decide) rfl) ?_
      ((repeat refine VV.s rfl rfl ?_); (try (conv => arg 3; simp only [Nat.reduceAdd, sto1, sto2, isL, cond_true, cond_false, List.drop_succ_cons, List.drop_zero, List.drop_nil])))
      rw [e2]
      refine VV.callE rfl rfl rfl rfl (f_lesser (a := 9) (by omega) (by omega)) rfl ?_
      exact VV.ret1 rfl ⟨rfl, rfl⟩
    · refine V.pc (swT_in (by omega) (by decide) (by decide) rfl) ?_
      ((repeat refine VV.s rfl rfl ?_); (try (conv => arg 3; simp only [Nat.reduceAdd, sto1, sto2, isL, cond_true, cond_false, List.drop_succ_cons, List.drop_zero, List.drop_nil])))
      exact VV.ret1 rfl ⟨rfl, rfl⟩
    · refine V.pc (swT_in (by omega) (by decide) (by decide) rfl) ?_
      ((repeat (fail_if_success show VV _ _ (61, _, _, _) _); refine VV.s rfl rfl ?_); (try (conv => arg 3; simp only [Nat.reduceAdd, sto1, sto2, isL, cond_true, cond_false, List.drop_succ_cons, List.drop_zero, List.drop_nil])))
      refine VV.irem rfl (by decide) ?_
      have e : nI d - nI d / 2 * 2 = nI (d % 2) := pk_rem (d := 2) hd (by omega) (by omega)
      rw [e]
      ((repeat refine VV.s rfl rfl ?_); (try (conv => arg 3; simp only [Nat.reduceAdd, sto1, sto2, isL, cond_true, cond_false, List.drop_succ_cons, List.drop_zero, List.drop_nil])))
      have er : sdN 4 s d = s - 2 - d % 2 := rfl
      refine VV.ite (fun q => ?_) (fun q => ?_)
      · have q : ¬ nI (d % 2) = nI 1 := q
        rw [eq_nI (by omega) (by omega)] at q
        ((repeat refine VV.s rfl rfl ?_); (try (conv => arg 3; simp only [Nat.reduceAdd, sto1, sto2, isL, cond_true, cond_false, List.drop_succ_cons, List.drop_zero, List.drop_nil])))
        refine VV.ret1 rfl ⟨?_, rfl⟩
        rw [er]
        congr 3; omega
      · have q : ¬ ¬ nI (d % 2) = nI 1 := q
        rw [eq_nI (by omega) (by omega)] at q
        have q := Classical.not_not.mp q
        ((repeat refine VV.s rfl rfl ?_); (try (conv => arg 3; simp only [Nat.reduceAdd, sto1, sto2, isL, cond_true, cond_false, List.drop_succ_cons, List.drop_zero, List.drop_nil])))
        refine VV.ite (fun q2 => ?_) (fun q2 => ?_)
        · have q2 : nI (s - 2) ≤ nI 0 := q2
          rw [le_nI (by omega) (by omega)] at q2
          ((repeat refine VV.s rfl rfl ?_); (try (conv => arg 3; simp only [Nat.reduceAdd, sto1, sto2, isL, cond_true, cond_false, List.drop_succ_cons, List.drop_zero, List.drop_nil])))
          refine VV.ret1 rfl ⟨?_, rfl⟩
          rw [er]
          congr 3; omega
        · have q2 : ¬ nI (s - 2) ≤ nI 0 := q2
          rw [le_nI (by omega) (by omega)] at q2
          ((repeat refine VV.s rfl rfl ?_); (try (conv => arg 3; simp only [Nat.reduceAdd, sto1, sto2, isL, cond_true, cond_false, List.drop_succ_cons, List.drop_zero, List.drop_nil])))
          refine VV.ret1 rfl ⟨?_, rfl⟩
          rw [er, show nI (s - 2) - 1 = nI (s - 2 - 1) from pk_sub (b := 1) (by omega)]
          congr 3; omega
    · refine V.pc (swT_in (by omega) (by decide) (by decide) rfl) ?_
      ((repeat refine VV.s rfl rfl ?_); (try (conv => arg 3; simp only [Nat.reduceAdd, sto1, sto2, isL, cond_true, cond_false, List.drop_succ_cons, List.drop_zero, List.drop_nil])))
      rw [e2]
      refine VV.callE rfl rfl rfl rfl (f_lesser (a := 9) (by omega) (by omega)) rfl ?_
      exact VV.ret1 rfl ⟨rfl, rfl⟩
  ((repeat refine VV.s rfl rfl ?_); (try (conv => arg 3; simp only [Nat.reduceAdd, sto1, sto2, isL, cond_true, cond_false, List.drop_succ_cons, List.drop_zero, List.drop_nil])))
  refine VV.ite (fun q => ?_) (fun q => ?_)
  · have q : nI 2 ≤ nI s := q
    rw [le_nI (by omega) (by omega)] at q
    ((repeat (fail_if_success show VV _ _ (13, _, _, _) _); refine VV.s rfl rfl ?_); (try (conv => arg 3; simp only [Nat.reduceAdd, sto1, sto2, isL, cond_true, cond_false, List.drop_succ_cons, List.drop_zero, List.drop_nil])))
    rw [show nI s - 2 = nI (s - 2) from pk_sub (b := 2) q]
    exact go
  · have q : ¬ nI 2 ≤ nI s := q
    rw [le_nI (by omega) (by omega)] at q
    ((repeat (fail_if_success show VV _ _ (13, _, _, _) _); refine VV.s rfl rfl ?_); (try (conv => arg 3; simp only [Nat.reduceAdd, sto1, sto2, isL, cond_true, cond_false, List.drop_succ_cons, List.drop_zero, List.drop_nil])))
    rw [show s - 2 = 0 by omega] at go
    exact go
set_option maxHeartbeats 4000000 in
theorem f_slipBy {k x : Nat} (hk : k ≤ 5) (hx : x < 2 ^ 31) : V 127 (0, [some (.int (nI k)), some (.int (nI x)), none], [], u) (is (.int (nI (wdN k x))) u) := by
  have go : V 127 (11, [some (.int (nI k)), some (.int (nI x)), some (.int (nI (plN x)))], [], u) (is (.int (nI (wdN k x))) u) := by
    refine VV.s rfl rfl ?_
    refine VV.s rfl rfl ?_
    rcases le6 hk with rfl | rfl | rfl | rfl | rfl | rfl
    · refine V.pc (swT_out (by omega) (by decide)) ?_
      ((repeat refine VV.s rfl rfl ?_); (try (conv => arg 3; simp only [Nat.reduceAdd, sto1, sto2, isL, cond_true, cond_false, List.drop_succ_cons, List.drop_zero, List.drop_nil])))
      exact VV.ret1 rfl ⟨rfl, rfl⟩
    · refine V.pc (swT_out (by omega) (by decide)) ?_
      ((repeat refine VV.s rfl rfl ?_); (try (conv => arg 3; simp only [Nat.reduceAdd, sto1, sto2, isL, cond_true, cond_false, List.drop_succ_cons, List.drop_zero, List.drop_nil])))
      exact VV.ret1 rfl ⟨rfl, rfl⟩
    · refine V.pc (swT_in (by omega) (by decide) (by decide) rfl) ?_
      ((repeat refine VV.s rfl rfl ?_); (try (conv => arg 3; simp only [Nat.reduceAdd, sto1, sto2, isL, cond_true, cond_false, List.drop_succ_cons, List.drop_zero, List.drop_nil])))
      exact VV.ret1 rfl ⟨by rw [nI_1]; rfl, rfl⟩
    · refine V.pc (swT_in (by omega) (by decide) (by decide) rfl) ?_
      ((repeat refine VV.s rfl rfl ?_); (try (conv => arg 3; simp only [Nat.reduceAdd, sto1, sto2, isL, cond_true, cond_false, List.drop_succ_cons, List.drop_zero, List.drop_nil])))
      have er : wdN 3 x = max 1 (3 - x) := rfl
      refine VV.ite (fun q => ?_) (fun q => ?_)
      · have q : nI 2 ≤ nI x := q
        rw [le_nI (by omega) hx] at q
        ((repeat refine VV.s rfl rfl ?_); (try (conv => arg 3; simp only [Nat.reduceAdd, sto1, sto2, isL, cond_true, cond_false, List.drop_succ_cons, List.drop_zero, List.drop_nil])))
        refine VV.ret1 rfl ⟨?_, rfl⟩
        rw [er, show max 1 (3 - x) = 1 by omega]; rfl
      · have q : ¬ nI 2 ≤ nI x := q
        rw [le_nI (by omega) hx] at q
        ((repeat refine VV.s rfl rfl ?_); (try (conv => arg 3; simp only [Nat.reduceAdd, sto1, sto2, isL, cond_true, cond_false, List.drop_succ_cons, List.drop_zero, List.drop_nil])))
        refine VV.ret1 rfl ⟨?_, rfl⟩
        rw [er, show (3 : Int32) - nI x = nI (3 - x) from pk_sub (a := 3) (by omega)]
        congr 3; omega
    · refine V.pc (swT_in (by omega) (by decide) (by decide) rfl) ?_
      ((repeat refine VV.s rfl rfl ?_); (try (conv => arg 3; simp only [Nat.reduceAdd, sto1, sto2, isL, cond_true, cond_false, List.drop_succ_cons, List.drop_zero, List.drop_nil])))
      exact VV.ret1 rfl ⟨rfl, rfl⟩
    · refine V.pc (swT_in (by omega) (by decide) (by decide) rfl) ?_
      ((repeat refine VV.s rfl rfl ?_); (try (conv => arg 3; simp only [Nat.reduceAdd, sto1, sto2, isL, cond_true, cond_false, List.drop_succ_cons, List.drop_zero, List.drop_nil])))
      refine VV.ret1 rfl ⟨?_, rfl⟩
      rw [nI_1]
      show some (Value.int (nI 2 * nI (plN x + 1))) = _
      rw [pk_mul]; rfl
  ((repeat refine VV.s rfl rfl ?_); (try (conv => arg 3; simp only [Nat.reduceAdd, sto1, sto2, isL, cond_true, cond_false, List.drop_succ_cons, List.drop_zero, List.drop_nil])))
  refine VV.ite (fun q => ?_) (fun q => ?_)
  · have q : nI 2 < nI x := q
    rw [lt_nI (by omega) hx] at q
    ((repeat (fail_if_success show VV _ _ (11, _, _, _) _); refine VV.s rfl rfl ?_); (try (conv => arg 3; simp only [Nat.reduceAdd, sto1, sto2, isL, cond_true, cond_false, List.drop_succ_cons, List.drop_zero, List.drop_nil])))
    rw [show plN x = 0 from if_neg (by omega)] at go
    exact go
  · have q : ¬ nI 2 < nI x := q
    rw [lt_nI (by omega) hx] at q
    ((repeat (fail_if_success show VV _ _ (11, _, _, _) _); refine VV.s rfl rfl ?_); (try (conv => arg 3; simp only [Nat.reduceAdd, sto1, sto2, isL, cond_true, cond_false, List.drop_succ_cons, List.drop_zero, List.drop_nil])))
    rw [show plN x = 1 from if_pos (by omega)] at go
    exact go
theorem f_sound {h : Hs} (R : MRep u h) (G : GoodH h) {v : Nat} (hv : v < hn h) : V 128 (0, [some (.ref 41), some (.int (nI v))], [], u) (is (.int (nI (sdH h v))) u) := by
  have h6 := G.1.1
  obtain ⟨k1, k2, -⟩ := R.2.1 v hv
  obtain ⟨g1, g2, -⟩ := G.2.1 v hv
  have he := R.1.2.1
  have hE := G.1.2.1
  ((repeat refine VV.s rfl rfl ?_); (try (conv => arg 3; simp only [Nat.reduceAdd, sto1, sto2, isL, cond_true, cond_false, List.drop_succ_cons, List.drop_zero, List.drop_nil])))
  refine VV.iald rfl rfl rfl (show v < 6 by omega) (by decide) ?_
  ((repeat refine VV.s rfl rfl ?_); (try (conv => arg 3; simp only [Nat.reduceAdd, sto1, sto2, isL, cond_true, cond_false, List.drop_succ_cons, List.drop_zero, List.drop_nil])))
  refine VV.iald rfl rfl rfl (show v < 6 by omega) (by decide) ?_
  ((repeat refine VV.s rfl rfl ?_); (try (conv => arg 3; simp only [Nat.reduceAdd, sto1, sto2, isL, cond_true, cond_false, List.drop_succ_cons, List.drop_zero, List.drop_nil])))
  rw [k1, k2, he]
  refine VV.callE rfl rfl rfl rfl (f_soundBy g1 g2 (by omega)) rfl ?_
  exact VV.ret1 rfl ⟨rfl, rfl⟩
theorem ft_abs2 : ∀ a, a < 10 → ∀ w, w < 10 → (9 : Int32) - (nI a - nI w) = nI (ftN a w) ∨ nI a - nI w < 0 := by decide +kernel
theorem ft_abs3 : ∀ a, a < 10 → ∀ w, w < 10 → (9 : Int32) - (0 - (nI a - nI w)) = nI (ftN a w) ∨ ¬ nI a - nI w < 0 := by decide +kernel
theorem f_fitWith {h : Hs} (R : MRep u h) (G : GoodH h) {p v : Nat} (hp : p < hn h) (hv : v < hn h) : V 129 (0, [some (.ref 41), some (.int (nI p)), some (.int (nI v)), none], [], u) (is (.int (nI (ftH h p v))) u) := by
  have h6 := G.1.1
  have k3 := (R.2.1 p hp).2.2.1
  have g3 := (G.2.1 p hp).2.2
  have s9 := sdH_le G hv
  ((repeat refine VV.s rfl rfl ?_); (try (conv => arg 3; simp only [Nat.reduceAdd, sto1, sto2, isL, cond_true, cond_false, List.drop_succ_cons, List.drop_zero, List.drop_nil])))
  refine VV.callE rfl rfl rfl rfl (f_sound R G hv) rfl ?_
  ((repeat refine VV.s rfl rfl ?_); (try (conv => arg 3; simp only [Nat.reduceAdd, sto1, sto2, isL, cond_true, cond_false, List.drop_succ_cons, List.drop_zero, List.drop_nil])))
  refine VV.iald rfl rfl rfl (show p < 6 by omega) (by decide) ?_
  ((repeat refine VV.s rfl rfl ?_); (try (conv => arg 3; simp only [Nat.reduceAdd, sto1, sto2, isL, cond_true, cond_false, List.drop_succ_cons, List.drop_zero, List.drop_nil])))
  rw [k3]
  refine VV.ite (fun q => ?_) (fun q => ?_)
  · ((repeat refine VV.s rfl rfl ?_); (try (conv => arg 3; simp only [Nat.reduceAdd, sto1, sto2, isL, cond_true, cond_false, List.drop_succ_cons, List.drop_zero, List.drop_nil])))
    refine VV.ret1 rfl ⟨congrArg (fun x => some (Value.int x)) ?_, rfl⟩
    exact (ft_abs2 (sdH h v) (by omega) (hwa h p) (by omega)).resolve_right (Int32.not_lt.mpr q)
  · ((repeat refine VV.s rfl rfl ?_); (try (conv => arg 3; simp only [Nat.reduceAdd, sto1, sto2, isL, cond_true, cond_false, List.drop_succ_cons, List.drop_zero, List.drop_nil])))
    refine VV.ret1 rfl ⟨congrArg (fun x => some (Value.int x)) ?_, rfl⟩
    exact (ft_abs3 (sdH h v) (by omega) (hwa h p) (by omega)).resolve_right (fun z => z (Int32.not_le.mp q))
/-- the last voice that is with p -/
def vl (ho : Nat → Nat) (p : Nat) : Nat → Nat
  | 0 => 0
  | i + 1 => if ho i = p + 1 then i + 1 else vl ho p i
theorem vl_spec (ho : Nat → Nat) (p : Nat) : ∀ i, (vl ho p i = 0 ∧ ∀ v, v < i → ho v ≠ p + 1) ∨ ∃ v, v < i ∧ vl ho p i = v + 1 ∧ ho v = p + 1
  | 0 => Or.inl ⟨rfl, fun v h => absurd h (Nat.not_lt_zero v)⟩
  | i + 1 => by
    rw [vl]
    by_cases c : ho i = p + 1
    · rw [if_pos c]
      exact Or.inr ⟨i, by omega, rfl, c⟩
    · rw [if_neg c]
      rcases vl_spec ho p i with ⟨h1, h2⟩ | ⟨v, h1, h2, h3⟩
      · refine Or.inl ⟨h1, fun v hv => ?_⟩
        by_cases e : v = i
        · rw [e]; exact c
        · exact h2 v (by omega)
      · exact Or.inr ⟨v, by omega, h2, h3⟩
theorem vl_eq {n : Nat} {ho us : Nat → Nat} {e : Nat} (G : GoodW n ho us e) (p : Nat) : vl ho p n = voN n ho p := by
  rcases vl_spec ho p n with ⟨h1, h2⟩ | ⟨v, h1, h2, h3⟩
  · rcases voN_spec n ho p with ⟨g1, -⟩ | ⟨w, g1, -, g3⟩
    · rw [h1, g1]
    · exact absurd g3 (h2 w g1)
  · rcases voN_spec n ho p with ⟨-, g2⟩ | ⟨w, g1, g2, g3⟩
    · exact absurd h3 (g2 v h1)
    · rw [h2, g2, G.2 v w h1 g1 (by rw [h3, g3]) (by omega)]
set_option maxHeartbeats 4000000 in
theorem f_voiceOf {h : Hs} (R : MRep u h) (G : GoodH h) {p : Nat} (hp : p + 1 < 2 ^ 31) : V 130 (0, [some (.ref 41), some (.int (nI p)), none, none], [], u) (is (.int (cI (voH h p))) u) := by
  have h6 := G.1.1
  have hN := R.1.1
  have e0 : voH h p = vl (hho h) p (hn h) := (vl_eq G.2.2.1 p).symm
  rw [e0]
  have lp : ∀ k i, i + k = hn h → V 130 (4, [some (.ref 41), some (.int (nI p)), some (.int (cI (vl (hho h) p i))), some (.int (nI i))], [], u) (is (.int (cI (vl (hho h) p (hn h)))) u) := by
    intro k
    induction k with
    | zero =>
      intro i hi
      ((repeat refine VV.s rfl rfl ?_); (try (conv => arg 3; simp only [Nat.reduceAdd, sto1, sto2, isL, cond_true, cond_false, List.drop_succ_cons, List.drop_zero, List.drop_nil])))
      refine VV.itt (by rw [hN]; exact nI_le (by omega) (by omega)) ?_
      ((repeat refine VV.s rfl rfl ?_); (try (conv => arg 3; simp only [Nat.reduceAdd, sto1, sto2, isL, cond_true, cond_false, List.drop_succ_cons, List.drop_zero, List.drop_nil])))
      exact VV.ret1 rfl ⟨by rw [show i = hn h by omega], rfl⟩
    | succ k ih =>
      intro i hi
      have hl := (G.2.2.1.1 i (show i < hn h by omega)).1
      ((repeat refine VV.s rfl rfl ?_); (try (conv => arg 3; simp only [Nat.reduceAdd, sto1, sto2, isL, cond_true, cond_false, List.drop_succ_cons, List.drop_zero, List.drop_nil])))
      refine VV.itf (by rw [hN]; exact nI_ge (by omega) (by omega)) ?_
      ((repeat refine VV.s rfl rfl ?_); (try (conv => arg 3; simp only [Nat.reduceAdd, sto1, sto2, isL, cond_true, cond_false, List.drop_succ_cons, List.drop_zero, List.drop_nil])))
      refine VV.iald rfl rfl rfl (show i < 6 by omega) (by decide) ?_
      rw [(R.2.1 i (show i < hn h by omega)).2.2.2.1]
      ((repeat refine VV.s rfl rfl ?_); (try (conv => arg 3; simp only [Nat.reduceAdd, sto1, sto2, isL, cond_true, cond_false, List.drop_succ_cons, List.drop_zero, List.drop_nil])))
      have nx := ih (i + 1) (by omega)
      rw [vl] at nx
      refine VV.ite (fun q => ?_) (fun q => ?_)
      · rw [cI_nI (by omega) hp] at q
        rw [if_neg q] at nx
        ((repeat (fail_if_success show VV _ _ (4, _, _, _) _); refine VV.s rfl rfl ?_); (try (conv => arg 3; simp only [Nat.reduceAdd, sto1, sto2, isL, cond_true, cond_false, List.drop_succ_cons, List.drop_zero, List.drop_nil])))
        rw [nI_1]
        exact nx
      · rw [cI_nI (by omega) hp] at q
        rw [if_pos (Classical.not_not.mp q), cI_s] at nx
        ((repeat (fail_if_success show VV _ _ (4, _, _, _) _); refine VV.s rfl rfl ?_); (try (conv => arg 3; simp only [Nat.reduceAdd, sto1, sto2, isL, cond_true, cond_false, List.drop_succ_cons, List.drop_zero, List.drop_nil])))
        rw [nI_1]
        exact nx
  ((repeat (fail_if_success show VV _ _ (4, _, _, _) _); refine VV.s rfl rfl ?_); (try (conv => arg 3; simp only [Nat.reduceAdd, sto1, sto2, isL, cond_true, cond_false, List.drop_succ_cons, List.drop_zero, List.drop_nil])))
  exact lp (hn h) 0 (by omega)
theorem f_fitNow {h : Hs} (R : MRep u h) (G : GoodH h) {p : Nat} (hp : p < hn h) : V 131 (0, [some (.ref 41), some (.int (nI p)), none], [], u) (is (.int (nI (fnH h p))) u) := by
  have h6 := G.1.1
  ((repeat refine VV.s rfl rfl ?_); (try (conv => arg 3; simp only [Nat.reduceAdd, sto1, sto2, isL, cond_true, cond_false, List.drop_succ_cons, List.drop_zero, List.drop_nil])))
  refine VV.callE rfl rfl rfl rfl (f_voiceOf R G (p := p) (by omega)) rfl ?_
  ((repeat refine VV.s rfl rfl ?_); (try (conv => arg 3; simp only [Nat.reduceAdd, sto1, sto2, isL, cond_true, cond_false, List.drop_succ_cons, List.drop_zero, List.drop_nil])))
  unfold fnH
  rcases voH_spec h p with ⟨h1, -⟩ | ⟨v, h1, h2, -⟩
  · rw [h1]
    refine VV.itf (fun z => z rfl) ?_
    ((repeat refine VV.s rfl rfl ?_); (try (conv => arg 3; simp only [Nat.reduceAdd, sto1, sto2, isL, cond_true, cond_false, List.drop_succ_cons, List.drop_zero, List.drop_nil])))
    exact VV.ret1 rfl ⟨rfl, rfl⟩
  · rw [h2, cI_s]
    refine VV.itt (nI_ne1 (by omega)) ?_
    ((repeat refine VV.s rfl rfl ?_); (try (conv => arg 3; simp only [Nat.reduceAdd, sto1, sto2, isL, cond_true, cond_false, List.drop_succ_cons, List.drop_zero, List.drop_nil])))
    refine VV.callE rfl rfl rfl rfl (f_fitWith R G hp h1) rfl ?_
    exact VV.ret1 rfl ⟨rfl, rfl⟩
end M1
