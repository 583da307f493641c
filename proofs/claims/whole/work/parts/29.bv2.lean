/-! ===== the class: evenings, what is told of one, of a voice, sets ===== -/
section B2
variable {u : Sg} {z : Zs}
def evnH : Nat → Hs → Hs
  | 0, h => h
  | k + 1, h => evnH k (hEv h)
def evnW : Nat → Hs → Int32 → Int32
  | 0, _, a => a
  | k + 1, h, a => evnW k (hEv h) (a + evW h)
theorem goodEvn : ∀ k {h : Hs}, GoodH h → GoodH (evnH k h)
  | 0, _, G => G
  | k + 1, _, G => goodEvn k (goodEv G)
theorem b_evening_loop {n : Nat} (hn30 : n ≤ 30) : ∀ k i a h t, i + k = n → HRep t 1 h → GoodH h → Agr (offH 1) u t → V 53 (26, [some (.ref 0), some (.int (nI n)), some (.int a), some (.int (nI i))], [], t) (fun r t => r = some (.int (evnW k h a)) ∧ HRep t 1 (evnH k h) ∧ Agr (offH 1) u t) := by
  intro k
  induction k with
  | zero =>
    intro i a h t hi R G A
    ((repeat refine VV.s rfl rfl ?_); (try (conv => arg 3; simp only [Nat.reduceAdd, sto1, sto2, isL, cond_true, cond_false, List.drop_succ_cons, List.drop_zero, List.drop_nil])))
    refine VV.itt (nI_le (by omega) (by omega)) ?_
    ((repeat refine VV.s rfl rfl ?_); (try (conv => arg 3; simp only [Nat.reduceAdd, sto1, sto2, isL, cond_true, cond_false, List.drop_succ_cons, List.drop_zero, List.drop_nil])))
    exact VV.ret1 rfl ⟨rfl, R, A⟩
  | succ k ih =>
    intro i a h t hi R G A
    ((repeat refine VV.s rfl rfl ?_); (try (conv => arg 3; simp only [Nat.reduceAdd, sto1, sto2, isL, cond_true, cond_false, List.drop_succ_cons, List.drop_zero, List.drop_nil])))
    refine VV.itf (nI_ge (by omega) (by omega)) ?_
    ((repeat refine VV.s rfl rfl ?_); (try (conv => arg 3; simp only [Nat.reduceAdd, sto1, sto2, isL, cond_true, cond_false, List.drop_succ_cons, List.drop_zero, List.drop_nil])))
    refine VV.call rfl rfl rfl rfl (e_goOneEvening (Or.inl rfl) R G) (fun r t2 q => ?_)
    obtain ⟨rfl, R2, A2⟩ := q
    ((repeat (fail_if_success show VV _ _ (26, _, _, _) _); refine VV.s rfl rfl ?_); (try (conv => arg 3; simp only [Nat.reduceAdd, sto1, sto2, isL, cond_true, cond_false, List.drop_succ_cons, List.drop_zero, List.drop_nil])))
    rw [nI_1]
    exact ih (i + 1) _ _ _ (by omega) R2 (goodEv G) (A.tr A2)
theorem b_evening_bad (C : CInv u z) {x : Int32} (h : x < 1 ∨ 30 < x) : BC 53 [some (.ref 0), some (.int x), none, none] u (.int (-2)) (zB z) := by
  ((repeat refine VV.s rfl rfl ?_); (try (conv => arg 3; simp only [Nat.reduceAdd, sto1, sto2, isL, cond_true, cond_false, List.drop_succ_cons, List.drop_zero, List.drop_nil])))
  refine VV.callE rfl rfl rfl rfl (e_inN h) rfl ?_
  refine VV.s rfl rfl ?_
  refine VV.itf (by decide) ?_
  ((repeat refine VV.s rfl rfl ?_); (try (conv => arg 3; simp only [Nat.reduceAdd, sto1, sto2, isL, cond_true, cond_false, List.drop_succ_cons, List.drop_zero, List.drop_nil])))
  refine VV.callE rfl rfl rfl rfl e_bad rfl ?_
  exact VV.ret1 rfl ⟨rfl, C.bad, (Agr.rf).I (by decide)⟩
theorem b_evening_ok (C : CInv u z) (G : GoodH z.1) {n : Nat} (hn30 : n ≤ 30) (h : ¬ (nI n < 1 ∨ 30 < nI n)) : BC 53 [some (.ref 0), some (.int (nI n)), none, none] u (.int (evnW n (hKp z.1) 0)) (zH z (evnH n (hKp z.1))) := by
  ((repeat refine VV.s rfl rfl ?_); (try (conv => arg 3; simp only [Nat.reduceAdd, sto1, sto2, isL, cond_true, cond_false, List.drop_succ_cons, List.drop_zero, List.drop_nil])))
  refine VV.callE rfl rfl rfl rfl (e_inY h) rfl ?_
  refine VV.s rfl rfl ?_
  refine VV.itt (by decide) ?_
  ((repeat refine VV.s rfl rfl ?_); (try (conv => arg 3; simp only [Nat.reduceAdd, sto1, sto2, isL, cond_true, cond_false, List.drop_succ_cons, List.drop_zero, List.drop_nil])))
  refine VV.call rfl rfl rfl rfl (e_keepPast C.1 G) (fun r t q => ?_)
  obtain ⟨rfl, R2, A2⟩ := q
  ((repeat (fail_if_success show VV _ _ (26, _, _, _) _); refine VV.s rfl rfl ?_); (try (conv => arg 3; simp only [Nat.reduceAdd, sto1, sto2, isL, cond_true, cond_false, List.drop_succ_cons, List.drop_zero, List.drop_nil])))
  refine VV.mono (b_evening_loop hn30 n 0 0 _ t (by omega) R2 (goodKp G) A2) (fun r t2 q => ?_)
  obtain ⟨rfl, R3, A3⟩ := q
  exact ⟨rfl, C.house R3 A3, onM_off1 A3⟩
theorem b_of_bad (C : CInv u z) {p w : Int32} (h : ¬ thr (hn z.1) p ∨ (w < 0 ∨ 2 < w)) : BC 55 [some (.ref 0), some (.int p), some (.int w)] u (.int (-10)) (zB z) := by
  by_cases c1 : thr (hn z.1) p
  · ((repeat refine VV.s rfl rfl ?_); (try (conv => arg 3; simp only [Nat.reduceAdd, sto1, sto2, isL, cond_true, cond_false, List.drop_succ_cons, List.drop_zero, List.drop_nil])))
    refine VV.callE rfl rfl rfl rfl (e_thereY C.1.1.1 c1) rfl ?_
    refine VV.s rfl rfl ?_
    refine VV.itf (by decide) ?_
    ((repeat refine VV.s rfl rfl ?_); (try (conv => arg 3; simp only [Nat.reduceAdd, sto1, sto2, isL, cond_true, cond_false, List.drop_succ_cons, List.drop_zero, List.drop_nil])))
    refine VV.callE rfl rfl rfl rfl (e_inN (h.resolve_left (fun q => q c1))) rfl ?_
    refine VV.s rfl rfl ?_
    refine VV.itf (by decide) ?_
    ((repeat refine VV.s rfl rfl ?_); (try (conv => arg 3; simp only [Nat.reduceAdd, sto1, sto2, isL, cond_true, cond_false, List.drop_succ_cons, List.drop_zero, List.drop_nil])))
    refine VV.callE rfl rfl rfl rfl e_ten rfl ?_
    exact VV.ret1 rfl ⟨rfl, C.bad, (Agr.rf).I (by decide)⟩
  · ((repeat refine VV.s rfl rfl ?_); (try (conv => arg 3; simp only [Nat.reduceAdd, sto1, sto2, isL, cond_true, cond_false, List.drop_succ_cons, List.drop_zero, List.drop_nil])))
    refine VV.callE rfl rfl rfl rfl (e_thereN C.1.1.1 c1) rfl ?_
    refine VV.s rfl rfl ?_
    refine VV.itt (by decide) ?_
    ((repeat refine VV.s rfl rfl ?_); (try (conv => arg 3; simp only [Nat.reduceAdd, sto1, sto2, isL, cond_true, cond_false, List.drop_succ_cons, List.drop_zero, List.drop_nil])))
    refine VV.callE rfl rfl rfl rfl e_ten rfl ?_
    exact VV.ret1 rfl ⟨rfl, C.bad, (Agr.rf).I (by decide)⟩
def ofI (h : Hs) (p : Nat) : Nat → Int32
  | 0 => nI (hwa h p)
  | 1 => cI (voH h p)
  | _ => nI (fnH h p)
theorem b_of_ok (C : CInv u z) (G : GoodH z.1) {p w : Nat} (hp : p < hn z.1) (t1 : thr (hn z.1) (nI p)) (hw : w ≤ 2) (h : ¬ (nI w < 0 ∨ 2 < nI w)) : BC 55 [some (.ref 0), some (.int (nI p)), some (.int (nI w))] u (.int (ofI z.1 p w)) z := by
  have h6 := G.1.1
  ((repeat refine VV.s rfl rfl ?_); (try (conv => arg 3; simp only [Nat.reduceAdd, sto1, sto2, isL, cond_true, cond_false, List.drop_succ_cons, List.drop_zero, List.drop_nil])))
  refine VV.callE rfl rfl rfl rfl (e_thereY C.1.1.1 t1) rfl ?_
  refine VV.s rfl rfl ?_
  refine VV.itf (by decide) ?_
  ((repeat refine VV.s rfl rfl ?_); (try (conv => arg 3; simp only [Nat.reduceAdd, sto1, sto2, isL, cond_true, cond_false, List.drop_succ_cons, List.drop_zero, List.drop_nil])))
  refine VV.callE rfl rfl rfl rfl (e_inY h) rfl ?_
  refine VV.s rfl rfl ?_
  refine VV.itt (by decide) ?_
  refine VV.s rfl rfl ?_
  refine VV.s rfl rfl ?_
  rcases (show w = 0 ∨ w = 1 ∨ w = 2 by omega) with rfl | rfl | rfl
  · refine V.pc (show _ = 48 from rfl) ?_
    ((repeat refine VV.s rfl rfl ?_); (try (conv => arg 3; simp only [Nat.reduceAdd, sto1, sto2, isL, cond_true, cond_false, List.drop_succ_cons, List.drop_zero, List.drop_nil])))
    refine VV.iald rfl rfl rfl (show p < 6 by omega) (by decide) ?_
    exact VV.ret1 rfl ⟨by rw [(C.1.2.1 p hp).2.2.1]; rfl, C, Agr.rf⟩
  · refine V.pc (show _ = 58 from rfl) ?_
    ((repeat refine VV.s rfl rfl ?_); (try (conv => arg 3; simp only [Nat.reduceAdd, sto1, sto2, isL, cond_true, cond_false, List.drop_succ_cons, List.drop_zero, List.drop_nil])))
    refine VV.callE rfl rfl rfl rfl (e_voiceWith (Or.inl rfl) C.1 G (p := p) (by omega)) rfl ?_
    exact VV.ret1 rfl ⟨rfl, C, Agr.rf⟩
  · refine V.pc (show _ = 67 from rfl) ?_
    ((repeat refine VV.s rfl rfl ?_); (try (conv => arg 3; simp only [Nat.reduceAdd, sto1, sto2, isL, cond_true, cond_false, List.drop_succ_cons, List.drop_zero, List.drop_nil])))
    refine VV.callE rfl rfl rfl rfl (e_fitNow (Or.inl rfl) C.1 G hp) rfl ?_
    exact VV.ret1 rfl ⟨rfl, C, Agr.rf⟩
theorem b_about_bad (C : CInv u z) {p w : Int32} (h : ¬ thr (hn z.1) p ∨ (w < 0 ∨ 5 < w)) : BC 56 [some (.ref 0), some (.int p), some (.int w)] u (.int (-10)) (zB z) := by
  by_cases c1 : thr (hn z.1) p
  · ((repeat refine VV.s rfl rfl ?_); (try (conv => arg 3; simp only [Nat.reduceAdd, sto1, sto2, isL, cond_true, cond_false, List.drop_succ_cons, List.drop_zero, List.drop_nil])))
    refine VV.callE rfl rfl rfl rfl (e_thereY C.1.1.1 c1) rfl ?_
    refine VV.s rfl rfl ?_
    refine VV.itf (by decide) ?_
    ((repeat refine VV.s rfl rfl ?_); (try (conv => arg 3; simp only [Nat.reduceAdd, sto1, sto2, isL, cond_true, cond_false, List.drop_succ_cons, List.drop_zero, List.drop_nil])))
    refine VV.callE rfl rfl rfl rfl (e_inN (h.resolve_left (fun q => q c1))) rfl ?_
    refine VV.s rfl rfl ?_
    refine VV.itf (by decide) ?_
    ((repeat refine VV.s rfl rfl ?_); (try (conv => arg 3; simp only [Nat.reduceAdd, sto1, sto2, isL, cond_true, cond_false, List.drop_succ_cons, List.drop_zero, List.drop_nil])))
    refine VV.callE rfl rfl rfl rfl e_ten rfl ?_
    exact VV.ret1 rfl ⟨rfl, C.bad, (Agr.rf).I (by decide)⟩
  · ((repeat refine VV.s rfl rfl ?_); (try (conv => arg 3; simp only [Nat.reduceAdd, sto1, sto2, isL, cond_true, cond_false, List.drop_succ_cons, List.drop_zero, List.drop_nil])))
    refine VV.callE rfl rfl rfl rfl (e_thereN C.1.1.1 c1) rfl ?_
    refine VV.s rfl rfl ?_
    refine VV.itt (by decide) ?_
    ((repeat refine VV.s rfl rfl ?_); (try (conv => arg 3; simp only [Nat.reduceAdd, sto1, sto2, isL, cond_true, cond_false, List.drop_succ_cons, List.drop_zero, List.drop_nil])))
    refine VV.callE rfl rfl rfl rfl e_ten rfl ?_
    exact VV.ret1 rfl ⟨rfl, C.bad, (Agr.rf).I (by decide)⟩
def abI (h : Hs) (v : Nat) : Nat → Int32
  | 0 => nI (hkd h v)
  | 1 => nI (hso h v)
  | 2 => cI (hho h v)
  | 3 => nI (hus h v)
  | 4 => hsl h v
  | _ => nI (sdH h v)
theorem b_about_ok (C : CInv u z) (G : GoodH z.1) {v w : Nat} (hv : v < hn z.1) (t1 : thr (hn z.1) (nI v)) (hw : w ≤ 5) (h : ¬ (nI w < 0 ∨ 5 < nI w)) : BC 56 [some (.ref 0), some (.int (nI v)), some (.int (nI w))] u (.int (abI z.1 v w)) z := by
  have h6 := G.1.1
  obtain ⟨r1, r2, r3, r4, r5, r6⟩ := C.1.2.1 v hv
  ((repeat refine VV.s rfl rfl ?_); (try (conv => arg 3; simp only [Nat.reduceAdd, sto1, sto2, isL, cond_true, cond_false, List.drop_succ_cons, List.drop_zero, List.drop_nil])))
  refine VV.callE rfl rfl rfl rfl (e_thereY C.1.1.1 t1) rfl ?_
  refine VV.s rfl rfl ?_
  refine VV.itf (by decide) ?_
  ((repeat refine VV.s rfl rfl ?_); (try (conv => arg 3; simp only [Nat.reduceAdd, sto1, sto2, isL, cond_true, cond_false, List.drop_succ_cons, List.drop_zero, List.drop_nil])))
  refine VV.callE rfl rfl rfl rfl (e_inY h) rfl ?_
  refine VV.s rfl rfl ?_
  refine VV.itt (by decide) ?_
  refine VV.s rfl rfl ?_
  refine VV.s rfl rfl ?_
  rcases le6 hw with rfl | rfl | rfl | rfl | rfl | rfl
  · refine V.pc (swT_in (by omega) (by decide) (by decide) rfl) ?_
    ((repeat refine VV.s rfl rfl ?_); (try (conv => arg 3; simp only [Nat.reduceAdd, sto1, sto2, isL, cond_true, cond_false, List.drop_succ_cons, List.drop_zero, List.drop_nil])))
    refine VV.iald rfl rfl rfl (show v < 6 by omega) (by decide) ?_
    exact VV.ret1 rfl ⟨by rw [r1]; rfl, C, Agr.rf⟩
  · refine V.pc (swT_in (by omega) (by decide) (by decide) rfl) ?_
    ((repeat refine VV.s rfl rfl ?_); (try (conv => arg 3; simp only [Nat.reduceAdd, sto1, sto2, isL, cond_true, cond_false, List.drop_succ_cons, List.drop_zero, List.drop_nil])))
    refine VV.iald rfl rfl rfl (show v < 6 by omega) (by decide) ?_
    exact VV.ret1 rfl ⟨by rw [r2]; rfl, C, Agr.rf⟩
  · refine V.pc (swT_in (by omega) (by decide) (by decide) rfl) ?_
    ((repeat refine VV.s rfl rfl ?_); (try (conv => arg 3; simp only [Nat.reduceAdd, sto1, sto2, isL, cond_true, cond_false, List.drop_succ_cons, List.drop_zero, List.drop_nil])))
    refine VV.iald rfl rfl rfl (show v < 6 by omega) (by decide) ?_
    exact VV.ret1 rfl ⟨by rw [r4]; rfl, C, Agr.rf⟩
  · refine V.pc (swT_in (by omega) (by decide) (by decide) rfl) ?_
    ((repeat refine VV.s rfl rfl ?_); (try (conv => arg 3; simp only [Nat.reduceAdd, sto1, sto2, isL, cond_true, cond_false, List.drop_succ_cons, List.drop_zero, List.drop_nil])))
    refine VV.iald rfl rfl rfl (show v < 6 by omega) (by decide) ?_
    exact VV.ret1 rfl ⟨by rw [r5]; rfl, C, Agr.rf⟩
  · refine V.pc (swT_in (by omega) (by decide) (by decide) rfl) ?_
    ((repeat refine VV.s rfl rfl ?_); (try (conv => arg 3; simp only [Nat.reduceAdd, sto1, sto2, isL, cond_true, cond_false, List.drop_succ_cons, List.drop_zero, List.drop_nil])))
    refine VV.iald rfl rfl rfl (show v < 6 by omega) (by decide) ?_
    exact VV.ret1 rfl ⟨by rw [r6]; rfl, C, Agr.rf⟩
  · refine V.pc (swT_out (by omega) (by decide)) ?_
    ((repeat refine VV.s rfl rfl ?_); (try (conv => arg 3; simp only [Nat.reduceAdd, sto1, sto2, isL, cond_true, cond_false, List.drop_succ_cons, List.drop_zero, List.drop_nil])))
    refine VV.callE rfl rfl rfl rfl (e_Hsound (Or.inl rfl) C.1 G hv) rfl ?_
    exact VV.ret1 rfl ⟨rfl, C, Agr.rf⟩
theorem b_fit_bad (C : CInv u z) {v p : Int32} (h : ¬ thr (hn z.1) v ∨ ¬ thr (hn z.1) p) : BC 57 [some (.ref 0), some (.int v), some (.int p)] u (.int (-2)) (zB z) := by
  by_cases c1 : thr (hn z.1) v
  · ((repeat refine VV.s rfl rfl ?_); (try (conv => arg 3; simp only [Nat.reduceAdd, sto1, sto2, isL, cond_true, cond_false, List.drop_succ_cons, List.drop_zero, List.drop_nil])))
    refine VV.callE rfl rfl rfl rfl (e_thereY C.1.1.1 c1) rfl ?_
    refine VV.s rfl rfl ?_
    refine VV.itf (by decide) ?_
    ((repeat refine VV.s rfl rfl ?_); (try (conv => arg 3; simp only [Nat.reduceAdd, sto1, sto2, isL, cond_true, cond_false, List.drop_succ_cons, List.drop_zero, List.drop_nil])))
    refine VV.callE rfl rfl rfl rfl (e_thereN C.1.1.1 (h.resolve_left (fun q => q c1))) rfl ?_
    refine VV.s rfl rfl ?_
    refine VV.itf (by decide) ?_
    ((repeat refine VV.s rfl rfl ?_); (try (conv => arg 3; simp only [Nat.reduceAdd, sto1, sto2, isL, cond_true, cond_false, List.drop_succ_cons, List.drop_zero, List.drop_nil])))
    refine VV.callE rfl rfl rfl rfl e_bad rfl ?_
    exact VV.ret1 rfl ⟨rfl, C.bad, (Agr.rf).I (by decide)⟩
  · ((repeat refine VV.s rfl rfl ?_); (try (conv => arg 3; simp only [Nat.reduceAdd, sto1, sto2, isL, cond_true, cond_false, List.drop_succ_cons, List.drop_zero, List.drop_nil])))
    refine VV.callE rfl rfl rfl rfl (e_thereN C.1.1.1 c1) rfl ?_
    refine VV.s rfl rfl ?_
    refine VV.itt (by decide) ?_
    ((repeat refine VV.s rfl rfl ?_); (try (conv => arg 3; simp only [Nat.reduceAdd, sto1, sto2, isL, cond_true, cond_false, List.drop_succ_cons, List.drop_zero, List.drop_nil])))
    refine VV.callE rfl rfl rfl rfl e_bad rfl ?_
    exact VV.ret1 rfl ⟨rfl, C.bad, (Agr.rf).I (by decide)⟩
theorem b_fit_ok (C : CInv u z) (G : GoodH z.1) {p v : Nat} (hp : p < hn z.1) (hv : v < hn z.1) (t1 : thr (hn z.1) (nI p)) (t2 : thr (hn z.1) (nI v)) : BC 57 [some (.ref 0), some (.int (nI p)), some (.int (nI v))] u (.int (nI (ftH z.1 p v))) z := by
  ((repeat refine VV.s rfl rfl ?_); (try (conv => arg 3; simp only [Nat.reduceAdd, sto1, sto2, isL, cond_true, cond_false, List.drop_succ_cons, List.drop_zero, List.drop_nil])))
  refine VV.callE rfl rfl rfl rfl (e_thereY C.1.1.1 t1) rfl ?_
  refine VV.s rfl rfl ?_
  refine VV.itf (by decide) ?_
  ((repeat refine VV.s rfl rfl ?_); (try (conv => arg 3; simp only [Nat.reduceAdd, sto1, sto2, isL, cond_true, cond_false, List.drop_succ_cons, List.drop_zero, List.drop_nil])))
  refine VV.callE rfl rfl rfl rfl (e_thereY C.1.1.1 t2) rfl ?_
  refine VV.s rfl rfl ?_
  refine VV.itt (by decide) ?_
  ((repeat refine VV.s rfl rfl ?_); (try (conv => arg 3; simp only [Nat.reduceAdd, sto1, sto2, isL, cond_true, cond_false, List.drop_succ_cons, List.drop_zero, List.drop_nil])))
  refine VV.callE rfl rfl rfl rfl (e_fitWith (Or.inl rfl) C.1 G hp hv) rfl ?_
  exact VV.ret1 rfl ⟨rfl, C, Agr.rf⟩
/-- a set of those for whom c holds -/
def bts (c : Nat → Bool) : Nat → Nat → Int32 → Int32
  | 0, _, a => a
  | k + 1, i, a => bts c k (i + 1) (if c i then a ||| (1 <<< (nI i &&& 31)) else a)
theorem b_dumb_loop (C : CInv u z) (G : GoodH z.1) : ∀ k i a, i + k = hn z.1 → V 59 (4, [some (.ref 0), some (.int a), some (.int (nI i))], [], u) (is (.int (bts (fun p => decide (voH z.1 p = 0)) k i a)) u) := by
  have hN := C.1.1.1
  have h6 := G.1.1
  intro k
  induction k with
  | zero =>
    intro i a hi
    ((repeat refine VV.s rfl rfl ?_); (try (conv => arg 3; simp only [Nat.reduceAdd, sto1, sto2, isL, cond_true, cond_false, List.drop_succ_cons, List.drop_zero, List.drop_nil])))
    refine VV.itt (by rw [hN]; exact nI_le (by omega) (by omega)) ?_
    ((repeat refine VV.s rfl rfl ?_); (try (conv => arg 3; simp only [Nat.reduceAdd, sto1, sto2, isL, cond_true, cond_false, List.drop_succ_cons, List.drop_zero, List.drop_nil])))
    exact VV.ret1 rfl ⟨rfl, rfl⟩
  | succ k ih =>
    intro i a hi
    ((repeat refine VV.s rfl rfl ?_); (try (conv => arg 3; simp only [Nat.reduceAdd, sto1, sto2, isL, cond_true, cond_false, List.drop_succ_cons, List.drop_zero, List.drop_nil])))
    refine VV.itf (by rw [hN]; exact nI_ge (by omega) (by omega)) ?_
    ((repeat refine VV.s rfl rfl ?_); (try (conv => arg 3; simp only [Nat.reduceAdd, sto1, sto2, isL, cond_true, cond_false, List.drop_succ_cons, List.drop_zero, List.drop_nil])))
    refine VV.callE rfl rfl rfl rfl (e_voiceWith (Or.inl rfl) C.1 G (p := i) (by omega)) rfl ?_
    ((repeat refine VV.s rfl rfl ?_); (try (conv => arg 3; simp only [Nat.reduceAdd, sto1, sto2, isL, cond_true, cond_false, List.drop_succ_cons, List.drop_zero, List.drop_nil])))
    rw [bts]
    have hl := voH_le z.1 i
    refine VV.ite (fun q => ?_) (fun q => ?_)
    · rw [cI_none (by omega)] at q
      ((repeat (fail_if_success show VV _ _ (4, _, _, _) _); refine VV.s rfl rfl ?_); (try (conv => arg 3; simp only [Nat.reduceAdd, sto1, sto2, isL, cond_true, cond_false, List.drop_succ_cons, List.drop_zero, List.drop_nil])))
      rw [if_neg (by simp [q]), nI_1]
      exact ih (i + 1) a (by omega)
    · rw [cI_none (by omega)] at q
      ((repeat (fail_if_success show VV _ _ (4, _, _, _) _); refine VV.s rfl rfl ?_); (try (conv => arg 3; simp only [Nat.reduceAdd, sto1, sto2, isL, cond_true, cond_false, List.drop_succ_cons, List.drop_zero, List.drop_nil])))
      rw [if_pos (by simp [Classical.not_not.mp q]), nI_1]
      exact ih (i + 1) _ (by omega)
theorem b_dumb (C : CInv u z) (G : GoodH z.1) : BC 59 [some (.ref 0), none, none] u (.int (bts (fun p => decide (voH z.1 p = 0)) (hn z.1) 0 0)) z := by
  ((repeat (fail_if_success show VV _ _ (4, _, _, _) _); refine VV.s rfl rfl ?_); (try (conv => arg 3; simp only [Nat.reduceAdd, sto1, sto2, isL, cond_true, cond_false, List.drop_succ_cons, List.drop_zero, List.drop_nil])))
  refine VV.mono (b_dumb_loop C G (hn z.1) 0 0 (by omega)) (fun r t q => ?_)
  obtain ⟨rfl, rfl⟩ := q
  exact ⟨rfl, C, Agr.rf⟩
/-- voices that are not with their own -/
def owC (ho : Nat → Nat) : Nat → Nat → Nat → Nat
  | 0, _, a => a
  | k + 1, v, a => owC ho k (v + 1) (if ho v = v + 1 then a else a + 1)
theorem b_own_loop (C : CInv u z) (G : GoodH z.1) : ∀ k i a, i + k = hn z.1 → V 60 (10, [some (.ref 0), some (.int (nI a)), some (.int (nI i))], [], u) (is (.int (nI (owC (hho z.1) k i a))) u) := by
  have hN := C.1.1.1
  have h6 := G.1.1
  intro k
  induction k with
  | zero =>
    intro i a hi
    ((repeat refine VV.s rfl rfl ?_); (try (conv => arg 3; simp only [Nat.reduceAdd, sto1, sto2, isL, cond_true, cond_false, List.drop_succ_cons, List.drop_zero, List.drop_nil])))
    refine VV.itt (by rw [hN]; exact nI_le (by omega) (by omega)) ?_
    ((repeat refine VV.s rfl rfl ?_); (try (conv => arg 3; simp only [Nat.reduceAdd, sto1, sto2, isL, cond_true, cond_false, List.drop_succ_cons, List.drop_zero, List.drop_nil])))
    exact VV.ret1 rfl ⟨rfl, rfl⟩
  | succ k ih =>
    intro i a hi
    have hl := (G.2.2.1.1 i (show i < hn z.1 by omega)).1
    ((repeat refine VV.s rfl rfl ?_); (try (conv => arg 3; simp only [Nat.reduceAdd, sto1, sto2, isL, cond_true, cond_false, List.drop_succ_cons, List.drop_zero, List.drop_nil])))
    refine VV.itf (by rw [hN]; exact nI_ge (by omega) (by omega)) ?_
    ((repeat refine VV.s rfl rfl ?_); (try (conv => arg 3; simp only [Nat.reduceAdd, sto1, sto2, isL, cond_true, cond_false, List.drop_succ_cons, List.drop_zero, List.drop_nil])))
    refine VV.iald rfl rfl rfl (show i < 6 by omega) (by decide) ?_
    rw [(C.1.2.1 i (show i < hn z.1 by omega)).2.2.2.1]
    ((repeat refine VV.s rfl rfl ?_); (try (conv => arg 3; simp only [Nat.reduceAdd, sto1, sto2, isL, cond_true, cond_false, List.drop_succ_cons, List.drop_zero, List.drop_nil])))
    rw [owC]
    refine VV.ite (fun q => ?_) (fun q => ?_)
    · rw [cI_nI (by omega) (by omega)] at q
      ((repeat (fail_if_success show VV _ _ (10, _, _, _) _); refine VV.s rfl rfl ?_); (try (conv => arg 3; simp only [Nat.reduceAdd, sto1, sto2, isL, cond_true, cond_false, List.drop_succ_cons, List.drop_zero, List.drop_nil])))
      rw [if_pos q, nI_1]
      exact ih (i + 1) a (by omega)
    · rw [cI_nI (by omega) (by omega)] at q
      ((repeat (fail_if_success show VV _ _ (10, _, _, _) _); refine VV.s rfl rfl ?_); (try (conv => arg 3; simp only [Nat.reduceAdd, sto1, sto2, isL, cond_true, cond_false, List.drop_succ_cons, List.drop_zero, List.drop_nil])))
      rw [if_neg q, nI_1, nI_1]
      exact ih (i + 1) _ (by omega)
theorem b_own (C : CInv u z) (G : GoodH z.1) : BC 60 [some (.ref 0), none, none] u (.int (nI (owC (hho z.1) (hn z.1) 0 (rgs z.1 (hn z.1) 0 0)))) z := by
  ((repeat refine VV.s rfl rfl ?_); (try (conv => arg 3; simp only [Nat.reduceAdd, sto1, sto2, isL, cond_true, cond_false, List.drop_succ_cons, List.drop_zero, List.drop_nil])))
  refine VV.callE rfl rfl rfl rfl (e_rings C.1 G) rfl ?_
  ((repeat (fail_if_success show VV _ _ (10, _, _, _) _); refine VV.s rfl rfl ?_); (try (conv => arg 3; simp only [Nat.reduceAdd, sto1, sto2, isL, cond_true, cond_false, List.drop_succ_cons, List.drop_zero, List.drop_nil])))
  refine VV.mono (b_own_loop C G (hn z.1) 0 _ (by omega)) (fun r t q => ?_)
  obtain ⟨rfl, rfl⟩ := q
  exact ⟨rfl, C, Agr.rf⟩
theorem b_ring_bad (C : CInv u z) {p : Int32} (h : ¬ thr (hn z.1) p) : BC 61 [some (.ref 0), some (.int p)] u (.int (-2)) (zB z) := by
  ((repeat refine VV.s rfl rfl ?_); (try (conv => arg 3; simp only [Nat.reduceAdd, sto1, sto2, isL, cond_true, cond_false, List.drop_succ_cons, List.drop_zero, List.drop_nil])))
  refine VV.callE rfl rfl rfl rfl (e_thereN C.1.1.1 h) rfl ?_
  refine VV.s rfl rfl ?_
  refine VV.itf (by decide) ?_
  ((repeat refine VV.s rfl rfl ?_); (try (conv => arg 3; simp only [Nat.reduceAdd, sto1, sto2, isL, cond_true, cond_false, List.drop_succ_cons, List.drop_zero, List.drop_nil])))
  refine VV.callE rfl rfl rfl rfl e_bad rfl ?_
  exact VV.ret1 rfl ⟨rfl, C.bad, (Agr.rf).I (by decide)⟩
theorem b_ring_ok (C : CInv u z) (G : GoodH z.1) {p : Nat} (hp : p < hn z.1) (t1 : thr (hn z.1) (nI p)) : BC 61 [some (.ref 0), some (.int (nI p))] u (.int (nI (rgH z.1 p))) z := by
  ((repeat refine VV.s rfl rfl ?_); (try (conv => arg 3; simp only [Nat.reduceAdd, sto1, sto2, isL, cond_true, cond_false, List.drop_succ_cons, List.drop_zero, List.drop_nil])))
  refine VV.callE rfl rfl rfl rfl (e_thereY C.1.1.1 t1) rfl ?_
  refine VV.s rfl rfl ?_
  refine VV.itt (by decide) ?_
  ((repeat refine VV.s rfl rfl ?_); (try (conv => arg 3; simp only [Nat.reduceAdd, sto1, sto2, isL, cond_true, cond_false, List.drop_succ_cons, List.drop_zero, List.drop_nil])))
  refine VV.callE rfl rfl rfl rfl (e_ringFrom C.1 G hp) rfl ?_
  exact VV.ret1 rfl ⟨rfl, C, Agr.rf⟩
theorem b_swaps_bad (C : CInv u z) {k : Int32} (h : k < -1) : BC 62 [some (.ref 0), some (.int k), none] u (.int (-10)) (zB z) := by
  ((repeat refine VV.s rfl rfl ?_); (try (conv => arg 3; simp only [Nat.reduceAdd, sto1, sto2, isL, cond_true, cond_false, List.drop_succ_cons, List.drop_zero, List.drop_nil])))
  refine VV.itf (fun q => absurd h (Int32.not_lt.mpr q)) ?_
  ((repeat refine VV.s rfl rfl ?_); (try (conv => arg 3; simp only [Nat.reduceAdd, sto1, sto2, isL, cond_true, cond_false, List.drop_succ_cons, List.drop_zero, List.drop_nil])))
  refine VV.callE rfl rfl rfl rfl e_ten rfl ?_
  exact VV.ret1 rfl ⟨rfl, C.bad, (Agr.rf).I (by decide)⟩
theorem b_swaps_all (C : CInv u z) (G : GoodH z.1) : BC 62 [some (.ref 0), some (.int (-1)), none] u (.int (nI (swapL z.1).length)) z := by
  refine VV.s rfl rfl ?_
  refine VV.s rfl rfl ?_
  refine VV.s rfl rfl ?_
  refine VV.itt (by decide) ?_
  refine VV.s rfl rfl ?_
  refine VV.s rfl rfl ?_
  refine VV.s rfl rfl ?_
  refine VV.itf (by decide) ?_
  ((repeat refine VV.s rfl rfl ?_); (try (conv => arg 3; simp only [Nat.reduceAdd, sto1, sto2, isL, cond_true, cond_false, List.drop_succ_cons, List.drop_zero, List.drop_nil])))
  refine VV.callE rfl rfl rfl rfl (e_howManySwaps C.1 G) rfl ?_
  exact VV.ret1 rfl ⟨rfl, C, Agr.rf⟩
/-- the k-th swap, -5: not so many -/
def kt5 (l : List Nat) (k : Nat) : Int32 := match l[k]? with
  | some c => nI c
  | none => -5
theorem swJ_le (h : Hs) (i : Nat) : ∀ k j c, c ∈ swJ h i k j → ∃ y, j ≤ y ∧ y < j + k ∧ c = 10 * i + y ∧ swP h i y = true
  | 0, j, c, hc => by simp [swJ] at hc
  | k + 1, j, c, hc => by
    rw [swJ] at hc
    split at hc
    · rename_i hs
      rcases List.mem_cons.mp hc with rfl | hc
      · exact ⟨j, Nat.le_refl _, by omega, rfl, hs⟩
      · obtain ⟨y, h1, h2, h3, h4⟩ := swJ_le h i k (j + 1) c hc
        exact ⟨y, by omega, by omega, h3, h4⟩
    · obtain ⟨y, h1, h2, h3, h4⟩ := swJ_le h i k (j + 1) c hc
      exact ⟨y, by omega, by omega, h3, h4⟩
theorem swI_le (h : Hs) : ∀ k i c, i + k = hn h → c ∈ swI h k i → ∃ x y, x < y ∧ y < hn h ∧ c = 10 * x + y ∧ swP h x y = true
  | 0, i, c, _, hc => by simp [swI] at hc
  | k + 1, i, c, hi, hc => by
    rw [swI] at hc
    rcases List.mem_append.mp hc with hc | hc
    · obtain ⟨y, h1, h2, h3, h4⟩ := swJ_le h i _ _ c hc
      exact ⟨i, y, by omega, by omega, h3, h4⟩
    · exact swI_le h k (i + 1) c (by omega) hc
theorem swapL_le (h : Hs) {c : Nat} (hc : c ∈ swapL h) : ∃ x y, x < y ∧ y < hn h ∧ c = 10 * x + y ∧ swP h x y = true := swI_le h (hn h) 0 c (by omega) hc
theorem b_swaps_ok (C : CInv u z) (G : GoodH z.1) {k : Nat} (hk : k < 2 ^ 31) : BC 62 [some (.ref 0), some (.int (nI k)), none] u (.int (kt5 (swapL z.1) k)) z := by
  have h6 := G.1.1
  refine VV.s rfl rfl ?_
  refine VV.s rfl rfl ?_
  refine VV.s rfl rfl ?_
  refine VV.itt (Int32.le_iff_toInt_le.mpr (by rw [nI_toInt hk]; show (-1 : Int) ≤ k; omega)) ?_
  refine VV.s rfl rfl ?_
  refine VV.s rfl rfl ?_
  refine VV.s rfl rfl ?_
  refine VV.itt (nI_ne1 hk) ?_
  ((repeat refine VV.s rfl rfl ?_); (try (conv => arg 3; simp only [Nat.reduceAdd, sto1, sto2, isL, cond_true, cond_false, List.drop_succ_cons, List.drop_zero, List.drop_nil])))
  refine VV.callE rfl rfl rfl rfl (e_swapAt (Or.inl rfl) C.1 G hk) rfl ?_
  ((repeat refine VV.s rfl rfl ?_); (try (conv => arg 3; simp only [Nat.reduceAdd, sto1, sto2, isL, cond_true, cond_false, List.drop_succ_cons, List.drop_zero, List.drop_nil])))
  unfold kth kt5
  cases hl : (swapL z.1)[k]? with
  | none =>
    refine VV.itf (fun q => q rfl) ?_
    ((repeat refine VV.s rfl rfl ?_); (try (conv => arg 3; simp only [Nat.reduceAdd, sto1, sto2, isL, cond_true, cond_false, List.drop_succ_cons, List.drop_zero, List.drop_nil])))
    exact VV.ret1 rfl ⟨rfl, C, Agr.rf⟩
  | some c =>
    obtain ⟨x, y, h1, h2, rfl, -⟩ := swapL_le z.1 (List.mem_of_getElem? hl)
    refine VV.itt (nI_ne1 (by omega)) ?_
    ((repeat refine VV.s rfl rfl ?_); (try (conv => arg 3; simp only [Nat.reduceAdd, sto1, sto2, isL, cond_true, cond_false, List.drop_succ_cons, List.drop_zero, List.drop_nil])))
    exact VV.ret1 rfl ⟨rfl, C, Agr.rf⟩
theorem b_worst_bad (C : CInv u z) {w : Int32} (h : w < 0 ∨ 1 < w) : BC 64 [some (.ref 0), some (.int w), none] u (.int (-2)) (zB z) := by
  ((repeat refine VV.s rfl rfl ?_); (try (conv => arg 3; simp only [Nat.reduceAdd, sto1, sto2, isL, cond_true, cond_false, List.drop_succ_cons, List.drop_zero, List.drop_nil])))
  refine VV.callE rfl rfl rfl rfl (e_inN h) rfl ?_
  refine VV.s rfl rfl ?_
  refine VV.itf (by decide) ?_
  ((repeat refine VV.s rfl rfl ?_); (try (conv => arg 3; simp only [Nat.reduceAdd, sto1, sto2, isL, cond_true, cond_false, List.drop_succ_cons, List.drop_zero, List.drop_nil])))
  refine VV.callE rfl rfl rfl rfl e_bad rfl ?_
  exact VV.ret1 rfl ⟨rfl, C.bad, (Agr.rf).I (by decide)⟩
theorem b_worst_0 (C : CInv u z) (G : GoodH z.1) : BC 64 [some (.ref 0), some (.int (nI 0)), none] u (.int (cI (wstH z.1))) z := by
  have hl := wstH_le z.1
  have h6 := G.1.1
  ((repeat refine VV.s rfl rfl ?_); (try (conv => arg 3; simp only [Nat.reduceAdd, sto1, sto2, isL, cond_true, cond_false, List.drop_succ_cons, List.drop_zero, List.drop_nil])))
  refine VV.callE rfl rfl rfl rfl (e_inY (x := nI 0) (by decide)) rfl ?_
  refine VV.s rfl rfl ?_
  refine VV.itt (by decide) ?_
  ((repeat refine VV.s rfl rfl ?_); (try (conv => arg 3; simp only [Nat.reduceAdd, sto1, sto2, isL, cond_true, cond_false, List.drop_succ_cons, List.drop_zero, List.drop_nil])))
  refine VV.callE rfl rfl rfl rfl (e_leastFit C.1 G) rfl ?_
  ((repeat refine VV.s rfl rfl ?_); (try (conv => arg 3; simp only [Nat.reduceAdd, sto1, sto2, isL, cond_true, cond_false, List.drop_succ_cons, List.drop_zero, List.drop_nil])))
  refine VV.ite (fun q => ?_) (fun q => ?_)
  · ((repeat refine VV.s rfl rfl ?_); (try (conv => arg 3; simp only [Nat.reduceAdd, sto1, sto2, isL, cond_true, cond_false, List.drop_succ_cons, List.drop_zero, List.drop_nil])))
    exact VV.ret1 rfl ⟨rfl, C, Agr.rf⟩
  · refine VV.s rfl rfl ?_
    refine VV.s rfl rfl ?_
    refine VV.itf (fun q => q rfl) ?_
    ((repeat refine VV.s rfl rfl ?_); (try (conv => arg 3; simp only [Nat.reduceAdd, sto1, sto2, isL, cond_true, cond_false, List.drop_succ_cons, List.drop_zero, List.drop_nil])))
    exact VV.ret1 rfl ⟨rfl, C, Agr.rf⟩
/-- how much the least fit is, -1: nobody is there -/
def wsI (h : Hs) : Int32 := match wstH h with
  | 0 => -1
  | p + 1 => nI (fnH h p)
theorem b_worst_1 (C : CInv u z) (G : GoodH z.1) : BC 64 [some (.ref 0), some (.int (nI 1)), none] u (.int (wsI z.1)) z := by
  have hl := wstH_le z.1
  have h6 := G.1.1
  ((repeat refine VV.s rfl rfl ?_); (try (conv => arg 3; simp only [Nat.reduceAdd, sto1, sto2, isL, cond_true, cond_false, List.drop_succ_cons, List.drop_zero, List.drop_nil])))
  refine VV.callE rfl rfl rfl rfl (e_inY (x := nI 1) (by decide)) rfl ?_
  refine VV.s rfl rfl ?_
  refine VV.itt (by decide) ?_
  ((repeat refine VV.s rfl rfl ?_); (try (conv => arg 3; simp only [Nat.reduceAdd, sto1, sto2, isL, cond_true, cond_false, List.drop_succ_cons, List.drop_zero, List.drop_nil])))
  refine VV.callE rfl rfl rfl rfl (e_leastFit C.1 G) rfl ?_
  ((repeat refine VV.s rfl rfl ?_); (try (conv => arg 3; simp only [Nat.reduceAdd, sto1, sto2, isL, cond_true, cond_false, List.drop_succ_cons, List.drop_zero, List.drop_nil])))
  unfold wsI
  cases hw : wstH z.1 with
  | zero =>
    refine VV.itt cI_0 ?_
    ((repeat refine VV.s rfl rfl ?_); (try (conv => arg 3; simp only [Nat.reduceAdd, sto1, sto2, isL, cond_true, cond_false, List.drop_succ_cons, List.drop_zero, List.drop_nil])))
    exact VV.ret1 rfl ⟨rfl, C, Agr.rf⟩
  | succ p =>
    rw [cI_s]
    refine VV.itf (nI_ne1 (by omega)) ?_
    refine VV.s rfl rfl ?_
    refine VV.s rfl rfl ?_
    refine VV.itt (by decide) ?_
    ((repeat refine VV.s rfl rfl ?_); (try (conv => arg 3; simp only [Nat.reduceAdd, sto1, sto2, isL, cond_true, cond_false, List.drop_succ_cons, List.drop_zero, List.drop_nil])))
    refine VV.callE rfl rfl rfl rfl (e_fitNow (Or.inl rfl) C.1 G (p := p) (by omega)) rfl ?_
    exact VV.ret1 rfl ⟨rfl, C, Agr.rf⟩
/-- words behind m evenings -/
def slp (kd us : Nat) : Nat → Nat → Int32 → Int32
  | 0, _, a => a
  | k + 1, i, a => slp kd us k (i + 1) (a + nI (wdN kd (us + i)))
theorem b_slips_bad (C : CInv u z) {p w : Int32} (h : ¬ thr (hn z.1) p ∨ (w < 0 ∨ 60 < w)) : BC 65 [some (.ref 0), some (.int p), some (.int w), none, none] u (.int (-2)) (zB z) := by
  by_cases c1 : thr (hn z.1) p
  · ((repeat refine VV.s rfl rfl ?_); (try (conv => arg 3; simp only [Nat.reduceAdd, sto1, sto2, isL, cond_true, cond_false, List.drop_succ_cons, List.drop_zero, List.drop_nil])))
    refine VV.callE rfl rfl rfl rfl (e_thereY C.1.1.1 c1) rfl ?_
    refine VV.s rfl rfl ?_
    refine VV.itf (by decide) ?_
    ((repeat refine VV.s rfl rfl ?_); (try (conv => arg 3; simp only [Nat.reduceAdd, sto1, sto2, isL, cond_true, cond_false, List.drop_succ_cons, List.drop_zero, List.drop_nil])))
    refine VV.callE rfl rfl rfl rfl (e_inN (h.resolve_left (fun q => q c1))) rfl ?_
    refine VV.s rfl rfl ?_
    refine VV.itf (by decide) ?_
    ((repeat refine VV.s rfl rfl ?_); (try (conv => arg 3; simp only [Nat.reduceAdd, sto1, sto2, isL, cond_true, cond_false, List.drop_succ_cons, List.drop_zero, List.drop_nil])))
    refine VV.callE rfl rfl rfl rfl e_bad rfl ?_
    exact VV.ret1 rfl ⟨rfl, C.bad, (Agr.rf).I (by decide)⟩
  · ((repeat refine VV.s rfl rfl ?_); (try (conv => arg 3; simp only [Nat.reduceAdd, sto1, sto2, isL, cond_true, cond_false, List.drop_succ_cons, List.drop_zero, List.drop_nil])))
    refine VV.callE rfl rfl rfl rfl (e_thereN C.1.1.1 c1) rfl ?_
    refine VV.s rfl rfl ?_
    refine VV.itt (by decide) ?_
    ((repeat refine VV.s rfl rfl ?_); (try (conv => arg 3; simp only [Nat.reduceAdd, sto1, sto2, isL, cond_true, cond_false, List.drop_succ_cons, List.drop_zero, List.drop_nil])))
    refine VV.callE rfl rfl rfl rfl e_bad rfl ?_
    exact VV.ret1 rfl ⟨rfl, C.bad, (Agr.rf).I (by decide)⟩
theorem b_slips_loop (C : CInv u z) (G : GoodH z.1) {v m : Nat} (hv : v < hn z.1) (hm : m ≤ 60) : ∀ k i a, i + k = m → V 65 (47, [some (.ref 0), some (.int (nI v)), some (.int (nI m)), some (.int a), some (.int (nI i))], [], u) (is (.int (slp (hkd z.1 v) (hus z.1 v) k i a)) u) := by
  have h6 := G.1.1
  have h9 := G.1.2.1
  obtain ⟨r1, r2, r3, r4, r5, r6⟩ := C.1.2.1 v hv
  have g := (G.2.2.1.1 v hv).2
  intro k
  induction k with
  | zero =>
    intro i a hi
    ((repeat refine VV.s rfl rfl ?_); (try (conv => arg 3; simp only [Nat.reduceAdd, sto1, sto2, isL, cond_true, cond_false, List.drop_succ_cons, List.drop_zero, List.drop_nil])))
    refine VV.itt (nI_le (by omega) (by omega)) ?_
    ((repeat refine VV.s rfl rfl ?_); (try (conv => arg 3; simp only [Nat.reduceAdd, sto1, sto2, isL, cond_true, cond_false, List.drop_succ_cons, List.drop_zero, List.drop_nil])))
    exact VV.ret1 rfl ⟨rfl, rfl⟩
  | succ k ih =>
    intro i a hi
    ((repeat refine VV.s rfl rfl ?_); (try (conv => arg 3; simp only [Nat.reduceAdd, sto1, sto2, isL, cond_true, cond_false, List.drop_succ_cons, List.drop_zero, List.drop_nil])))
    refine VV.itf (nI_ge (by omega) (by omega)) ?_
    ((repeat refine VV.s rfl rfl ?_); (try (conv => arg 3; simp only [Nat.reduceAdd, sto1, sto2, isL, cond_true, cond_false, List.drop_succ_cons, List.drop_zero, List.drop_nil])))
    refine VV.iald rfl rfl rfl (show v < 6 by omega) (by decide) ?_
    ((repeat refine VV.s rfl rfl ?_); (try (conv => arg 3; simp only [Nat.reduceAdd, sto1, sto2, isL, cond_true, cond_false, List.drop_succ_cons, List.drop_zero, List.drop_nil])))
    refine VV.iald rfl rfl rfl (show v < 6 by omega) (by decide) ?_
    ((repeat refine VV.s rfl rfl ?_); (try (conv => arg 3; simp only [Nat.reduceAdd, sto1, sto2, isL, cond_true, cond_false, List.drop_succ_cons, List.drop_zero, List.drop_nil])))
    rw [r1, r5, nI_add]
    refine VV.callE rfl rfl rfl rfl (e_words (G.2.1 v hv).1 (by omega)) rfl ?_
    ((repeat (fail_if_success show VV _ _ (47, _, _, _) _); refine VV.s rfl rfl ?_); (try (conv => arg 3; simp only [Nat.reduceAdd, sto1, sto2, isL, cond_true, cond_false, List.drop_succ_cons, List.drop_zero, List.drop_nil])))
    rw [nI_1, slp]
    exact ih (i + 1) _ (by omega)
def slI (h : Hs) (v m : Nat) : Int32 := if hho h v = 0 ∨ hho h v = v + 1 then hsl h v else slp (hkd h v) (hus h v) m 0 (hsl h v)
theorem b_slips_ok (C : CInv u z) (G : GoodH z.1) {v m : Nat} (hv : v < hn z.1) (t1 : thr (hn z.1) (nI v)) (hm : m ≤ 60) (h : ¬ (nI m < 0 ∨ 60 < nI m)) : BC 65 [some (.ref 0), some (.int (nI v)), some (.int (nI m)), none, none] u (.int (slI z.1 v m)) z := by
  have h6 := G.1.1
  obtain ⟨r1, r2, r3, r4, r5, r6⟩ := C.1.2.1 v hv
  have g := (G.2.2.1.1 v hv).1
  ((repeat refine VV.s rfl rfl ?_); (try (conv => arg 3; simp only [Nat.reduceAdd, sto1, sto2, isL, cond_true, cond_false, List.drop_succ_cons, List.drop_zero, List.drop_nil])))
  refine VV.callE rfl rfl rfl rfl (e_thereY C.1.1.1 t1) rfl ?_
  refine VV.s rfl rfl ?_
  refine VV.itf (by decide) ?_
  ((repeat refine VV.s rfl rfl ?_); (try (conv => arg 3; simp only [Nat.reduceAdd, sto1, sto2, isL, cond_true, cond_false, List.drop_succ_cons, List.drop_zero, List.drop_nil])))
  refine VV.callE rfl rfl rfl rfl (e_inY h) rfl ?_
  refine VV.s rfl rfl ?_
  refine VV.itt (by decide) ?_
  ((repeat refine VV.s rfl rfl ?_); (try (conv => arg 3; simp only [Nat.reduceAdd, sto1, sto2, isL, cond_true, cond_false, List.drop_succ_cons, List.drop_zero, List.drop_nil])))
  refine VV.iald rfl rfl rfl (show v < 6 by omega) (by decide) ?_
  ((repeat refine VV.s rfl rfl ?_); (try (conv => arg 3; simp only [Nat.reduceAdd, sto1, sto2, isL, cond_true, cond_false, List.drop_succ_cons, List.drop_zero, List.drop_nil])))
  rw [r6]
  refine VV.callE rfl rfl rfl rfl (e_isWithAnother (Or.inl rfl) r4 (by omega) (by omega)) rfl ?_
  unfold slI
  by_cases c : hho z.1 v = 0 ∨ hho z.1 v = v + 1
  · rw [if_pos c, if_pos c]
    refine VV.s rfl rfl ?_
    refine VV.itt rfl ?_
    ((repeat refine VV.s rfl rfl ?_); (try (conv => arg 3; simp only [Nat.reduceAdd, sto1, sto2, isL, cond_true, cond_false, List.drop_succ_cons, List.drop_zero, List.drop_nil])))
    exact VV.ret1 rfl ⟨rfl, C, Agr.rf⟩
  · rw [if_neg c, if_neg c]
    refine VV.s rfl rfl ?_
    refine VV.itf (by decide) ?_
    ((repeat (fail_if_success show VV _ _ (47, _, _, _) _); refine VV.s rfl rfl ?_); (try (conv => arg 3; simp only [Nat.reduceAdd, sto1, sto2, isL, cond_true, cond_false, List.drop_succ_cons, List.drop_zero, List.drop_nil])))
    refine VV.mono (b_slips_loop C G hv hm m 0 _ (by omega)) (fun r t q => ?_)
    obtain ⟨rfl, rfl⟩ := q
    exact ⟨rfl, C, Agr.rf⟩
end B2
