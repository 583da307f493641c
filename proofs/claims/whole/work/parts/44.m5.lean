/-! ===== the reference: steps, the worst, slips, notes, listening, asking ===== -/
section M5
variable {u : Sg} {z : Zs}
/-- a house with other places, used, slipped, evening -/
def var (h h' : Hs) : Prop := ∃ e ho us sl, h' = hE h e ho us sl
theorem var.rf (h : Hs) : var h h := ⟨hev h, hho h, hus h, hsl h, rfl⟩
theorem var.tr {a b c : Hs} (h1 : var a b) (h2 : var b c) : var a c := by
  obtain ⟨e, ho, us, sl, rfl⟩ := h1
  obtain ⟨e2, ho2, us2, sl2, rfl⟩ := h2
  exact ⟨e2, ho2, us2, sl2, rfl⟩
theorem var.W (h : Hs) (ho us : Nat → Nat) : var h (hW h ho us) := ⟨hev h, ho, us, hsl h, rfl⟩
theorem var.Ex (h : Hs) (i j : Nat) : var h (hEx h i j) := by
  unfold hEx
  split
  · exact var.W _ _ _
  · exact var.rf h
theorem var.Gv (h : Hs) (v p : Nat) : var h (hGv h v p) := by
  unfold hGv
  split
  · exact var.W _ _ _
  · exact var.W _ _ _
theorem var.LL (h : Hs) (v p : Nat) : var h (hLL h v p) := by
  unfold hLL
  split
  · exact var.Gv h v p
  · split
    · exact var.rf h
    · exact var.W _ _ _
theorem var.Ev (h : Hs) : var h (hEv h) := by
  unfold hEv
  split
  · exact ⟨_, _, _, _, rfl⟩
  · exact var.rf h
theorem var.n {h h' : Hs} (v : var h h') : hn h' = hn h := by obtain ⟨_, _, _, _, rfl⟩ := v; rfl
set_option maxHeartbeats 4000000 in
theorem m_steps_loop {h0 : Hs} {f : Nat → Int32} (R0 : MRep u h0) (h60 : hn h0 ≤ 6) (L : laid u 58 0 6 f) : ∀ k i h t d3 d4, i + k = 60 → var h0 h → MRep t h → GoodH h → MF u (pA t 58 (gA u 58)) → gA t 58 = f → (∀ k, k ≠ 58 → gA (pA t 58 (gA u 58)) k = gA t k) → V 156 (11, [some (.ref 41), some (.int (nI i)), some (.int (kth (swapL h) 0)), d3, d4], [], t) (fun r t2 => r = some (.int (nI (stp k h i))) ∧ MRep t2 h0 ∧ MF u (pA t2 58 (gA u 58))) := by
  have fin : ∀ i h t d2 d3 d4, var h0 h → MRep t h → MF u (pA t 58 (gA u 58)) → gA t 58 = f → V 156 (73, [some (.ref 41), some (.int (nI i)), d2, d3, d4], [], t) (fun r t2 => r = some (.int (nI i)) ∧ MRep t2 h0 ∧ MF u (pA t2 58 (gA u 58))) := by
    intro i h t d2 d3 d4 hv R A e58
    obtain ⟨e, ho, us, sl, rfl⟩ := hv
    ((repeat refine VV.s rfl rfl ?_); (try (conv => arg 3; simp only [Nat.reduceAdd, sto1, sto2, isL, cond_true, cond_false, List.drop_succ_cons, List.drop_zero, List.drop_nil])))
    refine VV.call rfl rfl rfl rfl f_back (fun r t2 q => ?_)
    obtain ⟨rfl, K⟩ := q
    ((repeat refine VV.s rfl rfl ?_); (try (conv => arg 3; simp only [Nat.reduceAdd, sto1, sto2, isL, cond_true, cond_false, List.drop_succ_cons, List.drop_zero, List.drop_nil])))
    refine VV.ret1 rfl ⟨rfl, R0.restored h60 L R e58 K, ?_⟩
    obtain ⟨k1, k2, k3, k4, k5⟩ := K
    refine ⟨fun k hk => ?_, fun k j hk => ?_, fun j a1 a2 a3 a4 => ?_, fun k j => ?_⟩
    · by_cases c : k = 58
      · rw [c, gA_pA, if_pos rfl]
      · have := A.1 k hk
        rw [gA_pA, if_neg c] at this ⊢
        rw [k3 k (by omega) (by omega) (by omega)]
        exact this
    · have := A.2.1 k j hk
      rw [gI_pA] at this ⊢
      rw [k4 k j (fun q => hk q.1)]
      exact this
    · have := A.2.2.1 j a1 a2 a3 a4
      rw [gI_pA] at this ⊢
      rw [k4 41 j (fun q => a2 q.2)]
      exact this
    · have := A.2.2.2 k j
      rw [gJ_pA] at this ⊢
      rw [k5]
      exact this
  intro k
  induction k with
  | zero =>
    intro i h t d3 d4 hi hv R G A e58 _
    ((repeat refine VV.s rfl rfl ?_); (try (conv => arg 3; simp only [Nat.reduceAdd, sto1, sto2, isL, cond_true, cond_false, List.drop_succ_cons, List.drop_zero, List.drop_nil])))
    refine VV.itt (nI_le (a := 60) (by omega) (by omega)) ?_
    exact fin i h t _ _ _ hv R A e58
  | succ k ih =>
    intro i h t d3 d4 hi hv R G A e58 hk58
    have h6 := G.1.1
    ((repeat refine VV.s rfl rfl ?_); (try (conv => arg 3; simp only [Nat.reduceAdd, sto1, sto2, isL, cond_true, cond_false, List.drop_succ_cons, List.drop_zero, List.drop_nil])))
    refine VV.itf (nI_ge (b := 60) (by omega) (by omega)) ?_
    ((repeat refine VV.s rfl rfl ?_); (try (conv => arg 3; simp only [Nat.reduceAdd, sto1, sto2, isL, cond_true, cond_false, List.drop_succ_cons, List.drop_zero, List.drop_nil])))
    rw [stp]
    unfold kth
    cases hl : swapL h with
    | nil =>
      refine VV.itt rfl ?_
      exact fin i h t _ _ _ hv R A e58
    | cons c l =>
      obtain ⟨x, y, h1, h2, hc, hsw⟩ := swapL_le h (c := c) (by rw [hl]; exact List.mem_cons_self)
      have ex : c / 10 = x := by omega
      have ey : c % 10 = y := by omega
      have e1 : nI c / 10 = nI x := (pk_div (d := 10) (by omega) (by omega) (by omega)).trans (by rw [ex])
      have e2 : nI c - nI c / 10 * 10 = nI y := (pk_rem (d := 10) (by omega) (by omega) (by omega)).trans (by rw [ey])
      show V _ (if nI c = -1 then _ else _) _
      refine VV.itf (nI_ne1 (by omega)) ?_
      show V 156 (22, [some (.ref 41), some (.int (nI i)), some (.int (nI c)), d3, d4], [], t) (fun r t2 => r = some (.int (nI (stp k (hEx h (c / 10) (c % 10)) (i + 1)))) ∧ MRep t2 h0 ∧ MF u (pA t2 58 (gA u 58)))
      rw [ex, ey]
      unfold swP at hsw
      rcases voH_spec h x with ⟨a1, -⟩ | ⟨a, ha, a1, -⟩
      · rw [a1] at hsw; simp at hsw
      · rcases voH_spec h y with ⟨b1, -⟩ | ⟨b, hb, b1, -⟩
        · rw [b1] at hsw; simp at hsw
        · have hgx : hEx h x y = hW h (updN (updN (hho h) a (y + 1)) b (x + 1)) (hus h) := by unfold hEx; rw [a1, b1]
          ((repeat (fail_if_success show VV _ _ (26, _, _, _) _); refine VV.s rfl rfl ?_); (try (conv => arg 3; simp only [Nat.reduceAdd, sto1, sto2, isL, cond_true, cond_false, List.drop_succ_cons, List.drop_zero, List.drop_nil])))
          refine VV.idiv rfl (by decide) ?_
          show V _ (27, _, [.int (nI c / 10), _], _) _
          rw [e1]
          refine VV.callE rfl rfl rfl rfl (f_voiceOf R G (p := x) (by omega)) rfl ?_
          ((repeat (fail_if_success show VV _ _ (35, _, _, _) _); refine VV.s rfl rfl ?_); (try (conv => arg 3; simp only [Nat.reduceAdd, sto1, sto2, isL, cond_true, cond_false, List.drop_succ_cons, List.drop_zero, List.drop_nil])))
          refine VV.irem rfl (by decide) ?_
          show V _ (36, _, [.int (nI c - nI c / 10 * 10), _], _) _
          rw [e2]
          refine VV.callE rfl rfl rfl rfl (f_voiceOf R G (p := y) (by omega)) rfl ?_
          ((repeat (fail_if_success show VV _ _ (49, _, _, _) _); refine VV.s rfl rfl ?_); (try (conv => arg 3; simp only [Nat.reduceAdd, sto1, sto2, isL, cond_true, cond_false, List.drop_succ_cons, List.drop_zero, List.drop_nil])))
          refine VV.irem rfl (by decide) ?_
          show V _ (50, _, .int (nI c - nI c / 10 * 10) :: _, _) _
          rw [e2, a1, b1, cI_s, cI_s]
          refine VV.iast rfl rfl rfl (show a < 6 by omega) (by decide) ?_
          ((repeat (fail_if_success show VV _ _ (60, _, _, _) _); refine VV.s rfl rfl ?_); (try (conv => arg 3; simp only [Nat.reduceAdd, sto1, sto2, isL, cond_true, cond_false, List.drop_succ_cons, List.drop_zero, List.drop_nil])))
          refine VV.idiv rfl (by decide) ?_
          show V _ (61, _, .int (nI c / 10) :: _, _) _
          rw [e1]
          refine VV.iast rfl rfl rfl (show b < 6 by omega) (by decide) ?_
          ((repeat refine VV.s rfl rfl ?_); (try (conv => arg 3; simp only [Nat.reduceAdd, sto1, sto2, isL, cond_true, cond_false, List.drop_succ_cons, List.drop_zero, List.drop_nil])))
          have R2 : MRep (pA (pA t 46 (upd (gA t 46) a (nI y))) 46 (upd (gA (pA t 46 (upd (gA t 46) a (nI y))) 46) b (nI x))) (hEx h x y) := by
            rw [hgx]
            show MRep _ (hE h (hev h) _ _ _)
            refine R.setE rfl R.1.2.1 rfl rfl (fun k h1 h2 h3 => by rw [gA_pA, if_neg h1, gA_pA, if_neg h1]) (fun w hw => ?_) (fun w hw => (R.2.1 w hw).2.2.2.2.1) (fun w hw => (R.2.1 w hw).2.2.2.2.2)
            show upd (upd (gA t 46) a (nI y)) b (nI x) w = _
            rw [upd_at, updN_at]
            split
            · rw [cI_s]
            · rw [upd_at, updN_at]
              split
              · rw [cI_s]
              · exact (R.2.1 w hw).2.2.2.1
          have G2 := goodEx G (i := x) (j := y) (by omega) (by omega) (by omega)
          refine VV.callE rfl rfl rfl rfl (f_firstSwap R2 G2) rfl ?_
          ((repeat (fail_if_success show VV _ _ (11, _, _, _) _); refine VV.s rfl rfl ?_); (try (conv => arg 3; simp only [Nat.reduceAdd, sto1, sto2, isL, cond_true, cond_false, List.drop_succ_cons, List.drop_zero, List.drop_nil])))
          rw [nI_1]
          have := ih (i + 1) (hEx h x y) _ (some (.int (nI a))) (some (.int (nI b))) (by omega) (hv.tr (var.Ex h x y)) R2 G2 ?_ e58 (fun k hk => by rw [gA_pA, if_neg hk])
          · exact this
          · refine ⟨fun k hk => ?_, A.2.1, A.2.2.1, A.2.2.2⟩
            by_cases c58 : k = 58
            · rw [c58, gA_pA, if_pos rfl]
            · have := A.1 k hk
              rw [gA_pA, if_neg c58] at this ⊢
              rw [gA_pA, if_neg (by omega), gA_pA, if_neg (by omega)]
              exact this
theorem pA_self (u : Sg) (k : Nat) : pA u k (gA u k) = u := by
  refine Sg_ext (fun _ _ => rfl) (fun _ _ => rfl) (fun q j => ?_)
  rw [gA_pA]
  split
  · rename_i e; rw [e]
  · rfl
theorem pp_same (u : Sg) (k : Nat) (f g : Nat → Int32) : pA (pA u k f) k g = pA u k g := by
  refine Sg_ext (fun _ _ => rfl) (fun _ _ => rfl) (fun q j => ?_)
  rw [gA_pA, gA_pA, gA_pA]
  split <;> rfl
/-- what was aside does not count -/
theorem MInv.aside {t : Sg} {h : Hs} (C : MInv u z) (R : MRep t h) (A : MF u (pA t 58 (gA u 58))) : MInv t (zH z h) := by
  have C2 : MInv (pA t 58 (gA u 58)) (zH z h) := C.main (R.keep2 (fun k hk => by rw [gA_pA, if_neg (by omega)]) (fun j hj => rfl)) A
  refine C2.keep2 (fun k hk => ?_) (fun j hj => rfl) (fun j hj => rfl)
  rw [gA_pA, if_neg (by omega)]
theorem mf_asideC {t : Sg} (A : MF u (pA t 58 (gA u 58))) : Agr onC u t := fun k hk => by
  have := A.onC k hk
  refine ⟨this.1, this.2.1, ?_⟩
  have h3 := this.2.2
  rw [gA_pA, if_neg (by have : k ≤ 40 := hk; omega)] at h3
  exact h3
theorem m_steps (C : MInv u z) (G : GoodH z.1) : MC 156 [some (.ref 41), none, none, none, none] u (.int (nI (stp 60 z.1 0))) z := by
  ((repeat refine VV.s rfl rfl ?_); (try (conv => arg 3; simp only [Nat.reduceAdd, sto1, sto2, isL, cond_true, cond_false, List.drop_succ_cons, List.drop_zero, List.drop_nil])))
  refine VV.call rfl rfl rfl rfl f_puts (fun r t q => ?_)
  obtain ⟨rfl, f, rfl, L⟩ := q
  ((repeat refine VV.s rfl rfl ?_); (try (conv => arg 3; simp only [Nat.reduceAdd, sto1, sto2, isL, cond_true, cond_false, List.drop_succ_cons, List.drop_zero, List.drop_nil])))
  have R2 : MRep (pA u 58 f) z.1 := C.1.keep2 (fun k hk => by rw [gA_pA, if_neg (by omega)]) (fun j hj => rfl)
  refine VV.callE rfl rfl rfl rfl (f_firstSwap R2 G) rfl ?_
  ((repeat (fail_if_success show VV _ _ (11, _, _, _) _); refine VV.s rfl rfl ?_); (try (conv => arg 3; simp only [Nat.reduceAdd, sto1, sto2, isL, cond_true, cond_false, List.drop_succ_cons, List.drop_zero, List.drop_nil])))
  refine VV.mono (m_steps_loop (u := u) C.1 G.1.1 L 60 0 z.1 _ none none (by omega) (var.rf _) R2 G (by rw [pp_same, pA_self]; exact MF.rf) rfl (fun k hk => by rw [gA_pA, if_neg hk])) (fun r t2 q => ?_)
  obtain ⟨rfl, R3, A3⟩ := q
  exact ⟨rfl, C.aside R3 A3, mf_asideC A3⟩
theorem m_worst_bad (C : MInv u z) {w : Int32} (h : w < 0 ∨ 1 < w) : MC 157 [some (.ref 41), some (.int w), none, none, none, none, none] u (.int (-2)) (zB z) := by
  ((repeat refine VV.s rfl rfl ?_); (try (conv => arg 3; simp only [Nat.reduceAdd, sto1, sto2, isL, cond_true, cond_false, List.drop_succ_cons, List.drop_zero, List.drop_nil])))
  refine VV.callE rfl rfl rfl rfl (f_inN h) rfl ?_
  refine VV.s rfl rfl ?_
  refine VV.itf (by decide) ?_
  ((repeat refine VV.s rfl rfl ?_); (try (conv => arg 3; simp only [Nat.reduceAdd, sto1, sto2, isL, cond_true, cond_false, List.drop_succ_cons, List.drop_zero, List.drop_nil])))
  refine VV.callE rfl rfl rfl rfl f_bad rfl ?_
  ((repeat refine VV.s rfl rfl ?_); (try (conv => arg 3; simp only [Nat.reduceAdd, sto1, sto2, isL, cond_true, cond_false, List.drop_succ_cons, List.drop_zero, List.drop_nil])))
  exact VV.ret1 rfl ⟨rfl, C.bad, (Agr.rf).A (by decide)⟩
def lsF (h : Hs) (w : Nat) : Int32 := match w with
  | 0 => -1
  | p + 1 => nI (fnH h p)
set_option maxHeartbeats 4000000 in
theorem m_worst_loop (C : MInv u z) (G : GoodH z.1) {x : Int32} {Q : Option Value → Sg → Prop} (K : ∀ d4 d5 d6, V 157 (86, [some (.ref 41), some (.int x), some (.int (cI (wstH z.1))), some (.int (lsF z.1 (wstH z.1))), d4, d5, d6], [], u) Q) : ∀ k i w d5 d6, i + k = hn z.1 → w ≤ i → wst (fnH z.1) k i w = wstH z.1 → V 157 (21, [some (.ref 41), some (.int x), some (.int (cI w)), some (.int (lsF z.1 w)), some (.int (nI i)), d5, d6], [], u) Q := by
  have hN := C.1.1.1
  have h6 := G.1.1
  intro k
  induction k with
  | zero =>
    intro i w d5 d6 hi hw he
    ((repeat refine VV.s rfl rfl ?_); (try (conv => arg 3; simp only [Nat.reduceAdd, sto1, sto2, isL, cond_true, cond_false, List.drop_succ_cons, List.drop_zero, List.drop_nil])))
    refine VV.itt (by rw [hN]; exact nI_le (by omega) (by omega)) ?_
    have he : w = wstH z.1 := he
    rw [he]
    exact K _ _ _
  | succ k ih =>
    intro i w d5 d6 hi hw he
    rw [wst] at he
    ((repeat refine VV.s rfl rfl ?_); (try (conv => arg 3; simp only [Nat.reduceAdd, sto1, sto2, isL, cond_true, cond_false, List.drop_succ_cons, List.drop_zero, List.drop_nil])))
    refine VV.itf (by rw [hN]; exact nI_ge (by omega) (by omega)) ?_
    ((repeat refine VV.s rfl rfl ?_); (try (conv => arg 3; simp only [Nat.reduceAdd, sto1, sto2, isL, cond_true, cond_false, List.drop_succ_cons, List.drop_zero, List.drop_nil])))
    refine VV.callE rfl rfl rfl rfl (f_fitNow C.1 G (show i < hn z.1 by omega)) rfl ?_
    ((repeat refine VV.s rfl rfl ?_); (try (conv => arg 3; simp only [Nat.reduceAdd, sto1, sto2, isL, cond_true, cond_false, List.drop_succ_cons, List.drop_zero, List.drop_nil])))
    have less : (w = 0 ∨ fnH z.1 i < fnH z.1 (w - 1)) → ∀ d6, V 157 (49, [some (.ref 41), some (.int x), some (.int (cI w)), some (.int (lsF z.1 w)), some (.int (nI i)), some (.int (nI (fnH z.1 i))), d6], [], u) Q := by
      intro c d6
      rw [if_pos c] at he
      refine VV.s rfl rfl ?_
      refine VV.s rfl rfl ?_
      refine VV.s rfl rfl ?_
      refine VV.s rfl rfl ?_
      refine VV.s rfl rfl ?_
      refine VV.itf (by decide) ?_
      refine VV.s rfl rfl ?_
      refine VV.s rfl rfl ?_
      refine VV.s rfl rfl ?_
      refine VV.s rfl rfl ?_
      refine VV.s rfl rfl ?_
      refine VV.itf (by decide) ?_
      ((repeat (fail_if_success show VV _ _ (21, _, _, _) _); refine VV.s rfl rfl ?_); (try (conv => arg 3; simp only [Nat.reduceAdd, sto1, sto2, isL, cond_true, cond_false, List.drop_succ_cons, List.drop_zero, List.drop_nil])))
      rw [nI_1]
      have := ih (i + 1) (i + 1) (some (.int (nI (fnH z.1 i)))) (some (.int 1)) (by omega) (by omega) he
      rw [cI_s] at this
      exact this
    have notl : ¬ (w = 0 ∨ fnH z.1 i < fnH z.1 (w - 1)) → ∀ d6, V 157 (53, [some (.ref 41), some (.int x), some (.int (cI w)), some (.int (lsF z.1 w)), some (.int (nI i)), some (.int (nI (fnH z.1 i))), d6], [], u) Q := by
      intro c d6
      rw [if_neg c] at he
      refine VV.s rfl rfl ?_
      refine VV.s rfl rfl ?_
      refine VV.s rfl rfl ?_
      refine VV.s rfl rfl ?_
      refine VV.itt rfl ?_
      refine VV.s rfl rfl ?_
      refine VV.s rfl rfl ?_
      refine VV.s rfl rfl ?_
      refine VV.s rfl rfl ?_
      refine VV.itt rfl ?_
      ((repeat (fail_if_success show VV _ _ (21, _, _, _) _); refine VV.s rfl rfl ?_); (try (conv => arg 3; simp only [Nat.reduceAdd, sto1, sto2, isL, cond_true, cond_false, List.drop_succ_cons, List.drop_zero, List.drop_nil])))
      rw [nI_1]
      exact ih (i + 1) w (some (.int (nI (fnH z.1 i)))) (some (.int 0)) (by omega) (by omega) he
    cases w with
    | zero =>
      refine VV.itt cI_0 ?_
      exact less (Or.inl rfl) _
    | succ p =>
      refine VV.itf (by rw [cI_s]; exact nI_ne1 (by omega)) ?_
      ((repeat refine VV.s rfl rfl ?_); (try (conv => arg 3; simp only [Nat.reduceAdd, sto1, sto2, isL, cond_true, cond_false, List.drop_succ_cons, List.drop_zero, List.drop_nil])))
      have l1 := fnH_le z.1 i
      have l2 := fnH_le z.1 p
      refine VV.ite (fun q => ?_) (fun q => ?_)
      · have q : nI (fnH z.1 p) ≤ nI (fnH z.1 i) := q
        rw [le_nI (by omega) (by omega)] at q
        exact notl (by simp; omega) _
      · have q : ¬ nI (fnH z.1 p) ≤ nI (fnH z.1 i) := q
        rw [le_nI (by omega) (by omega)] at q
        exact less (by simp; omega) _
theorem m_worst_0 (C : MInv u z) (G : GoodH z.1) : MC 157 [some (.ref 41), some (.int (nI 0)), none, none, none, none, none] u (.int (cI (wstH z.1))) z := by
  ((repeat refine VV.s rfl rfl ?_); (try (conv => arg 3; simp only [Nat.reduceAdd, sto1, sto2, isL, cond_true, cond_false, List.drop_succ_cons, List.drop_zero, List.drop_nil])))
  refine VV.callE rfl rfl rfl rfl (f_inY (x := nI 0) (by decide)) rfl ?_
  refine VV.s rfl rfl ?_
  refine VV.itt (by decide) ?_
  ((repeat (fail_if_success show VV _ _ (21, _, _, _) _); refine VV.s rfl rfl ?_); (try (conv => arg 3; simp only [Nat.reduceAdd, sto1, sto2, isL, cond_true, cond_false, List.drop_succ_cons, List.drop_zero, List.drop_nil])))
  refine m_worst_loop C G (fun d4 d5 d6 => ?_) (hn z.1) 0 0 none none (by omega) (by omega) rfl
  refine VV.s rfl rfl ?_
  refine VV.s rfl rfl ?_
  refine VV.itf (fun q => q rfl) ?_
  ((repeat refine VV.s rfl rfl ?_); (try (conv => arg 3; simp only [Nat.reduceAdd, sto1, sto2, isL, cond_true, cond_false, List.drop_succ_cons, List.drop_zero, List.drop_nil])))
  exact VV.ret1 rfl ⟨rfl, C, Agr.rf⟩
theorem m_worst_1 (C : MInv u z) (G : GoodH z.1) : MC 157 [some (.ref 41), some (.int (nI 1)), none, none, none, none, none] u (.int (wsI z.1)) z := by
  ((repeat refine VV.s rfl rfl ?_); (try (conv => arg 3; simp only [Nat.reduceAdd, sto1, sto2, isL, cond_true, cond_false, List.drop_succ_cons, List.drop_zero, List.drop_nil])))
  refine VV.callE rfl rfl rfl rfl (f_inY (x := nI 1) (by decide)) rfl ?_
  refine VV.s rfl rfl ?_
  refine VV.itt (by decide) ?_
  ((repeat (fail_if_success show VV _ _ (21, _, _, _) _); refine VV.s rfl rfl ?_); (try (conv => arg 3; simp only [Nat.reduceAdd, sto1, sto2, isL, cond_true, cond_false, List.drop_succ_cons, List.drop_zero, List.drop_nil])))
  refine m_worst_loop C G (fun d4 d5 d6 => ?_) (hn z.1) 0 0 none none (by omega) (by omega) rfl
  refine VV.s rfl rfl ?_
  refine VV.s rfl rfl ?_
  refine VV.itt (by decide) ?_
  ((repeat refine VV.s rfl rfl ?_); (try (conv => arg 3; simp only [Nat.reduceAdd, sto1, sto2, isL, cond_true, cond_false, List.drop_succ_cons, List.drop_zero, List.drop_nil])))
  exact VV.ret1 rfl ⟨rfl, C, Agr.rf⟩
theorem m_slips_bad (C : MInv u z) {p w : Int32} (h : ¬ thr (hn z.1) p ∨ (w < 0 ∨ 60 < w)) : MC 158 [some (.ref 41), some (.int p), some (.int w), none, none] u (.int (-2)) (zB z) := by
  by_cases c1 : thr (hn z.1) p
  · ((repeat refine VV.s rfl rfl ?_); (try (conv => arg 3; simp only [Nat.reduceAdd, sto1, sto2, isL, cond_true, cond_false, List.drop_succ_cons, List.drop_zero, List.drop_nil])))
    refine VV.callE rfl rfl rfl rfl (f_oneY C.1.1.1 c1) rfl ?_
    refine VV.s rfl rfl ?_
    refine VV.itf (by decide) ?_
    ((repeat refine VV.s rfl rfl ?_); (try (conv => arg 3; simp only [Nat.reduceAdd, sto1, sto2, isL, cond_true, cond_false, List.drop_succ_cons, List.drop_zero, List.drop_nil])))
    refine VV.callE rfl rfl rfl rfl (f_inN (h.resolve_left (fun q => q c1))) rfl ?_
    refine VV.s rfl rfl ?_
    refine VV.itf (by decide) ?_
    ((repeat refine VV.s rfl rfl ?_); (try (conv => arg 3; simp only [Nat.reduceAdd, sto1, sto2, isL, cond_true, cond_false, List.drop_succ_cons, List.drop_zero, List.drop_nil])))
    refine VV.callE rfl rfl rfl rfl f_bad rfl ?_
    ((repeat refine VV.s rfl rfl ?_); (try (conv => arg 3; simp only [Nat.reduceAdd, sto1, sto2, isL, cond_true, cond_false, List.drop_succ_cons, List.drop_zero, List.drop_nil])))
    exact VV.ret1 rfl ⟨rfl, C.bad, (Agr.rf).A (by decide)⟩
  · ((repeat refine VV.s rfl rfl ?_); (try (conv => arg 3; simp only [Nat.reduceAdd, sto1, sto2, isL, cond_true, cond_false, List.drop_succ_cons, List.drop_zero, List.drop_nil])))
    refine VV.callE rfl rfl rfl rfl (f_oneN C.1.1.1 c1) rfl ?_
    refine VV.s rfl rfl ?_
    refine VV.itt (by decide) ?_
    ((repeat refine VV.s rfl rfl ?_); (try (conv => arg 3; simp only [Nat.reduceAdd, sto1, sto2, isL, cond_true, cond_false, List.drop_succ_cons, List.drop_zero, List.drop_nil])))
    refine VV.callE rfl rfl rfl rfl f_bad rfl ?_
    ((repeat refine VV.s rfl rfl ?_); (try (conv => arg 3; simp only [Nat.reduceAdd, sto1, sto2, isL, cond_true, cond_false, List.drop_succ_cons, List.drop_zero, List.drop_nil])))
    exact VV.ret1 rfl ⟨rfl, C.bad, (Agr.rf).A (by decide)⟩
set_option maxHeartbeats 4000000 in
theorem m_slips_loop (C : MInv u z) (G : GoodH z.1) {v m : Nat} (hv : v < hn z.1) (hm : m ≤ 60) : ∀ k i a, i + k = m → V 158 (33, [some (.ref 41), some (.int (nI v)), some (.int (nI m)), some (.int a), some (.int (nI i))], [], u) (is (.int (if hho z.1 v = 0 ∨ hho z.1 v = v + 1 then a else slp (hkd z.1 v) (hus z.1 v) k i a)) u) := by
  have h6 := G.1.1
  have h9 := G.1.2.1
  obtain ⟨r1, r2, r3, r4, r5, r6⟩ := C.1.2.1 v hv
  have g := (G.2.2.1.1 v hv)
  intro k
  induction k with
  | zero =>
    intro i a hi
    ((repeat refine VV.s rfl rfl ?_); (try (conv => arg 3; simp only [Nat.reduceAdd, sto1, sto2, isL, cond_true, cond_false, List.drop_succ_cons, List.drop_zero, List.drop_nil])))
    refine VV.itt (nI_le (by omega) (by omega)) ?_
    ((repeat refine VV.s rfl rfl ?_); (try (conv => arg 3; simp only [Nat.reduceAdd, sto1, sto2, isL, cond_true, cond_false, List.drop_succ_cons, List.drop_zero, List.drop_nil])))
    refine VV.ret1 rfl ⟨?_, rfl⟩
    split <;> rfl
  | succ k ih =>
    intro i a hi
    ((repeat refine VV.s rfl rfl ?_); (try (conv => arg 3; simp only [Nat.reduceAdd, sto1, sto2, isL, cond_true, cond_false, List.drop_succ_cons, List.drop_zero, List.drop_nil])))
    refine VV.itf (nI_ge (by omega) (by omega)) ?_
    ((repeat refine VV.s rfl rfl ?_); (try (conv => arg 3; simp only [Nat.reduceAdd, sto1, sto2, isL, cond_true, cond_false, List.drop_succ_cons, List.drop_zero, List.drop_nil])))
    refine VV.iald rfl rfl rfl (show v < 6 by omega) (by decide) ?_
    ((repeat refine VV.s rfl rfl ?_); (try (conv => arg 3; simp only [Nat.reduceAdd, sto1, sto2, isL, cond_true, cond_false, List.drop_succ_cons, List.drop_zero, List.drop_nil])))
    rw [r4]
    have own : hho z.1 v = 0 ∨ hho z.1 v = v + 1 → V 158 (60, [some (.ref 41), some (.int (nI v)), some (.int (nI m)), some (.int a), some (.int (nI i))], [.int a], u) (is (.int (if hho z.1 v = 0 ∨ hho z.1 v = v + 1 then a else slp (hkd z.1 v) (hus z.1 v) (k + 1) i a)) u) := by
      intro c
      ((repeat (fail_if_success show VV _ _ (33, _, _, _) _); refine VV.s rfl rfl ?_); (try (conv => arg 3; simp only [Nat.reduceAdd, sto1, sto2, isL, cond_true, cond_false, List.drop_succ_cons, List.drop_zero, List.drop_nil])))
      rw [nI_1, add0]
      have := ih (i + 1) a (by omega)
      rw [if_pos c] at this ⊢
      exact this
    refine VV.ite (fun q => ?_) (fun q => ?_)
    · rw [cI_none (by omega)] at q
      exact own (Or.inl q)
    · rw [cI_none (by omega)] at q
      ((repeat refine VV.s rfl rfl ?_); (try (conv => arg 3; simp only [Nat.reduceAdd, sto1, sto2, isL, cond_true, cond_false, List.drop_succ_cons, List.drop_zero, List.drop_nil])))
      refine VV.iald rfl rfl rfl (show v < 6 by omega) (by decide) ?_
      ((repeat refine VV.s rfl rfl ?_); (try (conv => arg 3; simp only [Nat.reduceAdd, sto1, sto2, isL, cond_true, cond_false, List.drop_succ_cons, List.drop_zero, List.drop_nil])))
      rw [r4]
      refine VV.ite (fun q2 => ?_) (fun q2 => ?_)
      · rw [cI_nI (by omega) (by omega)] at q2
        ((repeat refine VV.s rfl rfl ?_); (try (conv => arg 3; simp only [Nat.reduceAdd, sto1, sto2, isL, cond_true, cond_false, List.drop_succ_cons, List.drop_zero, List.drop_nil])))
        refine VV.iald rfl rfl rfl (show v < 6 by omega) (by decide) ?_
        ((repeat refine VV.s rfl rfl ?_); (try (conv => arg 3; simp only [Nat.reduceAdd, sto1, sto2, isL, cond_true, cond_false, List.drop_succ_cons, List.drop_zero, List.drop_nil])))
        refine VV.iald rfl rfl rfl (show v < 6 by omega) (by decide) ?_
        ((repeat refine VV.s rfl rfl ?_); (try (conv => arg 3; simp only [Nat.reduceAdd, sto1, sto2, isL, cond_true, cond_false, List.drop_succ_cons, List.drop_zero, List.drop_nil])))
        rw [r1, r5, nI_add]
        refine VV.callE rfl rfl rfl rfl (f_slipBy (G.2.1 v hv).1 (by omega)) rfl ?_
        ((repeat (fail_if_success show VV _ _ (33, _, _, _) _); refine VV.s rfl rfl ?_); (try (conv => arg 3; simp only [Nat.reduceAdd, sto1, sto2, isL, cond_true, cond_false, List.drop_succ_cons, List.drop_zero, List.drop_nil])))
        rw [nI_1]
        have nq : ¬ (hho z.1 v = 0 ∨ hho z.1 v = v + 1) := fun e => e.elim q q2
        have := ih (i + 1) (a + nI (wdN (hkd z.1 v) (hus z.1 v + i))) (by omega)
        rw [if_neg nq] at this ⊢
        rw [slp]
        exact this
      · rw [cI_nI (by omega) (by omega)] at q2
        exact own (Or.inr (Classical.not_not.mp q2))
theorem m_slips_ok (C : MInv u z) (G : GoodH z.1) {v m : Nat} (hv : v < hn z.1) (t1 : thr (hn z.1) (nI v)) (hm : m ≤ 60) (h : ¬ (nI m < 0 ∨ 60 < nI m)) : MC 158 [some (.ref 41), some (.int (nI v)), some (.int (nI m)), none, none] u (.int (slI z.1 v m)) z := by
  have h6 := G.1.1
  ((repeat refine VV.s rfl rfl ?_); (try (conv => arg 3; simp only [Nat.reduceAdd, sto1, sto2, isL, cond_true, cond_false, List.drop_succ_cons, List.drop_zero, List.drop_nil])))
  refine VV.callE rfl rfl rfl rfl (f_oneY C.1.1.1 t1) rfl ?_
  refine VV.s rfl rfl ?_
  refine VV.itf (by decide) ?_
  ((repeat refine VV.s rfl rfl ?_); (try (conv => arg 3; simp only [Nat.reduceAdd, sto1, sto2, isL, cond_true, cond_false, List.drop_succ_cons, List.drop_zero, List.drop_nil])))
  refine VV.callE rfl rfl rfl rfl (f_inY h) rfl ?_
  refine VV.s rfl rfl ?_
  refine VV.itt (by decide) ?_
  ((repeat refine VV.s rfl rfl ?_); (try (conv => arg 3; simp only [Nat.reduceAdd, sto1, sto2, isL, cond_true, cond_false, List.drop_succ_cons, List.drop_zero, List.drop_nil])))
  refine VV.iald rfl rfl rfl (show v < 6 by omega) (by decide) ?_
  rw [(C.1.2.1 v hv).2.2.2.2.2]
  ((repeat (fail_if_success show VV _ _ (33, _, _, _) _); refine VV.s rfl rfl ?_); (try (conv => arg 3; simp only [Nat.reduceAdd, sto1, sto2, isL, cond_true, cond_false, List.drop_succ_cons, List.drop_zero, List.drop_nil])))
  refine VV.mono (m_slips_loop C G hv hm m 0 _ (by omega)) (fun r t q => ?_)
  obtain ⟨rfl, rfl⟩ := q
  exact ⟨rfl, C, Agr.rf⟩
theorem m_note_bad (C : MInv u z) {v x d s w : Int32} (h : noteBad (hn z.1) v x d s w) : MC 159 [some (.ref 41), some (.int v), some (.int x), some (.int d), some (.int s), some (.int w)] u (.int (-2)) (zB z) := by
  by_cases c1 : thr (hn z.1) v
  · ((repeat refine VV.s rfl rfl ?_); (try (conv => arg 3; simp only [Nat.reduceAdd, sto1, sto2, isL, cond_true, cond_false, List.drop_succ_cons, List.drop_zero, List.drop_nil])))
    refine VV.callE rfl rfl rfl rfl (f_oneY C.1.1.1 c1) rfl ?_
    refine VV.s rfl rfl ?_
    refine VV.itf (by decide) ?_
    have h := h.resolve_left (fun q => q c1)
    by_cases c2 : x < 0 ∨ 20 < x
    · ((repeat refine VV.s rfl rfl ?_); (try (conv => arg 3; simp only [Nat.reduceAdd, sto1, sto2, isL, cond_true, cond_false, List.drop_succ_cons, List.drop_zero, List.drop_nil])))
      refine VV.callE rfl rfl rfl rfl (f_inN c2) rfl ?_
      refine VV.s rfl rfl ?_
      refine VV.itt (by decide) ?_
      ((repeat refine VV.s rfl rfl ?_); (try (conv => arg 3; simp only [Nat.reduceAdd, sto1, sto2, isL, cond_true, cond_false, List.drop_succ_cons, List.drop_zero, List.drop_nil])))
      refine VV.callE rfl rfl rfl rfl f_bad rfl ?_
      ((repeat refine VV.s rfl rfl ?_); (try (conv => arg 3; simp only [Nat.reduceAdd, sto1, sto2, isL, cond_true, cond_false, List.drop_succ_cons, List.drop_zero, List.drop_nil])))
      exact VV.ret1 rfl ⟨rfl, C.bad, (Agr.rf).A (by decide)⟩
    · ((repeat refine VV.s rfl rfl ?_); (try (conv => arg 3; simp only [Nat.reduceAdd, sto1, sto2, isL, cond_true, cond_false, List.drop_succ_cons, List.drop_zero, List.drop_nil])))
      refine VV.callE rfl rfl rfl rfl (f_inY c2) rfl ?_
      refine VV.s rfl rfl ?_
      refine VV.itf (by decide) ?_
      have h := h.resolve_left c2
      by_cases c3 : d < 0 ∨ 99 < d
      · ((repeat refine VV.s rfl rfl ?_); (try (conv => arg 3; simp only [Nat.reduceAdd, sto1, sto2, isL, cond_true, cond_false, List.drop_succ_cons, List.drop_zero, List.drop_nil])))
        refine VV.callE rfl rfl rfl rfl (f_inN c3) rfl ?_
        refine VV.s rfl rfl ?_
        refine VV.itt (by decide) ?_
        ((repeat refine VV.s rfl rfl ?_); (try (conv => arg 3; simp only [Nat.reduceAdd, sto1, sto2, isL, cond_true, cond_false, List.drop_succ_cons, List.drop_zero, List.drop_nil])))
        refine VV.callE rfl rfl rfl rfl f_bad rfl ?_
        ((repeat refine VV.s rfl rfl ?_); (try (conv => arg 3; simp only [Nat.reduceAdd, sto1, sto2, isL, cond_true, cond_false, List.drop_succ_cons, List.drop_zero, List.drop_nil])))
        exact VV.ret1 rfl ⟨rfl, C.bad, (Agr.rf).A (by decide)⟩
      · ((repeat refine VV.s rfl rfl ?_); (try (conv => arg 3; simp only [Nat.reduceAdd, sto1, sto2, isL, cond_true, cond_false, List.drop_succ_cons, List.drop_zero, List.drop_nil])))
        refine VV.callE rfl rfl rfl rfl (f_inY c3) rfl ?_
        refine VV.s rfl rfl ?_
        refine VV.itf (by decide) ?_
        have h := h.resolve_left c3
        by_cases c4 : s < 0 ∨ 9 < s
        · ((repeat refine VV.s rfl rfl ?_); (try (conv => arg 3; simp only [Nat.reduceAdd, sto1, sto2, isL, cond_true, cond_false, List.drop_succ_cons, List.drop_zero, List.drop_nil])))
          refine VV.callE rfl rfl rfl rfl (f_inN c4) rfl ?_
          refine VV.s rfl rfl ?_
          refine VV.itt (by decide) ?_
          ((repeat refine VV.s rfl rfl ?_); (try (conv => arg 3; simp only [Nat.reduceAdd, sto1, sto2, isL, cond_true, cond_false, List.drop_succ_cons, List.drop_zero, List.drop_nil])))
          refine VV.callE rfl rfl rfl rfl f_bad rfl ?_
          ((repeat refine VV.s rfl rfl ?_); (try (conv => arg 3; simp only [Nat.reduceAdd, sto1, sto2, isL, cond_true, cond_false, List.drop_succ_cons, List.drop_zero, List.drop_nil])))
          exact VV.ret1 rfl ⟨rfl, C.bad, (Agr.rf).A (by decide)⟩
        · ((repeat refine VV.s rfl rfl ?_); (try (conv => arg 3; simp only [Nat.reduceAdd, sto1, sto2, isL, cond_true, cond_false, List.drop_succ_cons, List.drop_zero, List.drop_nil])))
          refine VV.callE rfl rfl rfl rfl (f_inY c4) rfl ?_
          refine VV.s rfl rfl ?_
          refine VV.itf (by decide) ?_
          ((repeat refine VV.s rfl rfl ?_); (try (conv => arg 3; simp only [Nat.reduceAdd, sto1, sto2, isL, cond_true, cond_false, List.drop_succ_cons, List.drop_zero, List.drop_nil])))
          refine VV.callE rfl rfl rfl rfl (f_inN (h.resolve_left c4)) rfl ?_
          refine VV.s rfl rfl ?_
          refine VV.itf (by decide) ?_
          ((repeat refine VV.s rfl rfl ?_); (try (conv => arg 3; simp only [Nat.reduceAdd, sto1, sto2, isL, cond_true, cond_false, List.drop_succ_cons, List.drop_zero, List.drop_nil])))
          refine VV.callE rfl rfl rfl rfl f_bad rfl ?_
          ((repeat refine VV.s rfl rfl ?_); (try (conv => arg 3; simp only [Nat.reduceAdd, sto1, sto2, isL, cond_true, cond_false, List.drop_succ_cons, List.drop_zero, List.drop_nil])))
          exact VV.ret1 rfl ⟨rfl, C.bad, (Agr.rf).A (by decide)⟩
  · ((repeat refine VV.s rfl rfl ?_); (try (conv => arg 3; simp only [Nat.reduceAdd, sto1, sto2, isL, cond_true, cond_false, List.drop_succ_cons, List.drop_zero, List.drop_nil])))
    refine VV.callE rfl rfl rfl rfl (f_oneN C.1.1.1 c1) rfl ?_
    refine VV.s rfl rfl ?_
    refine VV.itt (by decide) ?_
    ((repeat refine VV.s rfl rfl ?_); (try (conv => arg 3; simp only [Nat.reduceAdd, sto1, sto2, isL, cond_true, cond_false, List.drop_succ_cons, List.drop_zero, List.drop_nil])))
    refine VV.callE rfl rfl rfl rfl f_bad rfl ?_
    ((repeat refine VV.s rfl rfl ?_); (try (conv => arg 3; simp only [Nat.reduceAdd, sto1, sto2, isL, cond_true, cond_false, List.drop_succ_cons, List.drop_zero, List.drop_nil])))
    exact VV.ret1 rfl ⟨rfl, C.bad, (Agr.rf).A (by decide)⟩
theorem m_note_go (C : MInv u z) {v x d s w : Int32} (h : ¬ noteBad (hn z.1) v x d s w) {Q : Option Value → Sg → Prop} (K : V 159 (55, [some (.ref 41), some (.int v), some (.int x), some (.int d), some (.int s), some (.int w)], [], u) Q) : V 159 (0, [some (.ref 41), some (.int v), some (.int x), some (.int d), some (.int s), some (.int w)], [], u) Q := by
  ((repeat refine VV.s rfl rfl ?_); (try (conv => arg 3; simp only [Nat.reduceAdd, sto1, sto2, isL, cond_true, cond_false, List.drop_succ_cons, List.drop_zero, List.drop_nil])))
  refine VV.callE rfl rfl rfl rfl (f_oneY C.1.1.1 (Classical.not_not.mp (fun q => h (Or.inl q)))) rfl ?_
  refine VV.s rfl rfl ?_
  refine VV.itf (by decide) ?_
  ((repeat refine VV.s rfl rfl ?_); (try (conv => arg 3; simp only [Nat.reduceAdd, sto1, sto2, isL, cond_true, cond_false, List.drop_succ_cons, List.drop_zero, List.drop_nil])))
  refine VV.callE rfl rfl rfl rfl (f_inY (fun q => h (Or.inr (Or.inl q)))) rfl ?_
  refine VV.s rfl rfl ?_
  refine VV.itf (by decide) ?_
  ((repeat refine VV.s rfl rfl ?_); (try (conv => arg 3; simp only [Nat.reduceAdd, sto1, sto2, isL, cond_true, cond_false, List.drop_succ_cons, List.drop_zero, List.drop_nil])))
  refine VV.callE rfl rfl rfl rfl (f_inY (fun q => h (Or.inr (Or.inr (Or.inl q))))) rfl ?_
  refine VV.s rfl rfl ?_
  refine VV.itf (by decide) ?_
  ((repeat refine VV.s rfl rfl ?_); (try (conv => arg 3; simp only [Nat.reduceAdd, sto1, sto2, isL, cond_true, cond_false, List.drop_succ_cons, List.drop_zero, List.drop_nil])))
  refine VV.callE rfl rfl rfl rfl (f_inY (fun q => h (Or.inr (Or.inr (Or.inr (Or.inl q)))))) rfl ?_
  refine VV.s rfl rfl ?_
  refine VV.itf (by decide) ?_
  ((repeat refine VV.s rfl rfl ?_); (try (conv => arg 3; simp only [Nat.reduceAdd, sto1, sto2, isL, cond_true, cond_false, List.drop_succ_cons, List.drop_zero, List.drop_nil])))
  refine VV.callE rfl rfl rfl rfl (f_inY (fun q => h (Or.inr (Or.inr (Or.inr (Or.inr q)))))) rfl ?_
  refine VV.s rfl rfl ?_
  refine VV.itt (by decide) ?_
  exact K
theorem m_note_full (C : MInv u z) {v x d s w : Int32} (h : ¬ noteBad (hn z.1) v x d s w) (h6 : hnn z.1 = 6) : MC 159 [some (.ref 41), some (.int v), some (.int x), some (.int d), some (.int s), some (.int w)] u (.int (-4)) (zF z) := by
  refine m_note_go C h ?_
  ((repeat refine VV.s rfl rfl ?_); (try (conv => arg 3; simp only [Nat.reduceAdd, sto1, sto2, isL, cond_true, cond_false, List.drop_succ_cons, List.drop_zero, List.drop_nil])))
  refine VV.itf (by rw [C.1.1.2.2.1, h6]; exact fun q => q rfl) ?_
  ((repeat refine VV.s rfl rfl ?_); (try (conv => arg 3; simp only [Nat.reduceAdd, sto1, sto2, isL, cond_true, cond_false, List.drop_succ_cons, List.drop_zero, List.drop_nil])))
  refine VV.callE rfl rfl rfl rfl f_full rfl ?_
  ((repeat refine VV.s rfl rfl ?_); (try (conv => arg 3; simp only [Nat.reduceAdd, sto1, sto2, isL, cond_true, cond_false, List.drop_succ_cons, List.drop_zero, List.drop_nil])))
  exact VV.ret1 rfl ⟨rfl, C.full, (Agr.rf).A (by decide)⟩
set_option maxHeartbeats 4000000 in
theorem m_note_ok (C : MInv u z) {v x d s w : Nat} (h : ¬ noteBad (hn z.1) (nI v) (nI x) (nI d) (nI s) (nI w)) (h5 : hnn z.1 < 6) : MC 159 [some (.ref 41), some (.int (nI v)), some (.int (nI x)), some (.int (nI d)), some (.int (nI s)), some (.int (nI w))] u (.int (nI (hnn z.1 + 1))) (zH z (hNt z.1 (row5 v x d s w))) := by
  have hN1 := C.1.1.2.2.1
  refine m_note_go C h ?_
  ((repeat refine VV.s rfl rfl ?_); (try (conv => arg 3; simp only [Nat.reduceAdd, sto1, sto2, isL, cond_true, cond_false, List.drop_succ_cons, List.drop_zero, List.drop_nil])))
  refine VV.itt (by rw [hN1]; exact fun q => by rw [show (6 : Int32) = nI 6 from rfl, eq_nI (by omega) (by omega)] at q; omega) ?_
  ((repeat refine VV.s rfl rfl ?_); (try (conv => arg 3; simp only [Nat.reduceAdd, sto1, sto2, isL, cond_true, cond_false, List.drop_succ_cons, List.drop_zero, List.drop_nil])))
  rw [hN1]
  refine VV.iast rfl rfl rfl (show (hnn z.1) < 6 by omega) (by decide) ?_
  ((repeat refine VV.s rfl rfl ?_); (try (conv => arg 3; simp only [Nat.reduceAdd, sto1, sto2, isL, cond_true, cond_false, List.drop_succ_cons, List.drop_zero, List.drop_nil])))
  rw [show ∀ a, gI (pA u 49 a) 41 3 = nI (hnn z.1) from fun _ => hN1]
  refine VV.iast rfl rfl rfl (show (hnn z.1) < 6 by omega) (by decide) ?_
  ((repeat refine VV.s rfl rfl ?_); (try (conv => arg 3; simp only [Nat.reduceAdd, sto1, sto2, isL, cond_true, cond_false, List.drop_succ_cons, List.drop_zero, List.drop_nil])))
  rw [show ∀ a b, gI (pA (pA u 49 a) 50 b) 41 3 = nI (hnn z.1) from fun _ _ => hN1]
  refine VV.iast rfl rfl rfl (show (hnn z.1) < 6 by omega) (by decide) ?_
  ((repeat refine VV.s rfl rfl ?_); (try (conv => arg 3; simp only [Nat.reduceAdd, sto1, sto2, isL, cond_true, cond_false, List.drop_succ_cons, List.drop_zero, List.drop_nil])))
  rw [show ∀ a b c, gI (pA (pA (pA u 49 a) 50 b) 51 c) 41 3 = nI (hnn z.1) from fun _ _ _ => hN1]
  refine VV.iast rfl rfl rfl (show (hnn z.1) < 6 by omega) (by decide) ?_
  ((repeat refine VV.s rfl rfl ?_); (try (conv => arg 3; simp only [Nat.reduceAdd, sto1, sto2, isL, cond_true, cond_false, List.drop_succ_cons, List.drop_zero, List.drop_nil])))
  rw [show ∀ a b c d, gI (pA (pA (pA (pA u 49 a) 50 b) 51 c) 52 d) 41 3 = nI (hnn z.1) from fun _ _ _ _ => hN1]
  refine VV.iast rfl rfl rfl (show (hnn z.1) < 6 by omega) (by decide) ?_
  ((repeat refine VV.s rfl rfl ?_); (try (conv => arg 3; simp only [Nat.reduceAdd, sto1, sto2, isL, cond_true, cond_false, List.drop_succ_cons, List.drop_zero, List.drop_nil])))
  have A : MF u (pI (pA (pA (pA (pA (pA u 49 (upd (gA u 49) (hnn z.1) (nI v))) 50 (upd (gA u 50) (hnn z.1) (nI x))) 51 (upd (gA u 51) (hnn z.1) (nI d))) 52 (upd (gA u 52) (hnn z.1) (nI s))) 53 (upd (gA u 53) (hnn z.1) (nI w))) 41 3 (nI (hnn z.1) + 1)) := (((((MF.rf.A (by omega)).A (by omega)).A (by omega)).A (by omega)).A (by omega)).I (by omega)
  have R : MRep (pI (pA (pA (pA (pA (pA u 49 (upd (gA u 49) (hnn z.1) (nI v))) 50 (upd (gA u 50) (hnn z.1) (nI x))) 51 (upd (gA u 51) (hnn z.1) (nI d))) 52 (upd (gA u 52) (hnn z.1) (nI s))) 53 (upd (gA u 53) (hnn z.1) (nI w))) 41 3 (nI (hnn z.1) + 1)) (hNt z.1 (row5 v x d s w)) := by
    refine ⟨⟨C.1.1.1, C.1.1.2.1, nI_1 _, C.1.1.2.2.2⟩, C.1.2.1, fun i c hi hc => ?_, C.1.2.2.2⟩
    have hi : i < hnn z.1 + 1 := hi
    have old := fun (q : i ≠ hnn z.1) => C.1.2.2.1 i c (by omega) hc
    show _ = nI (updN (hN z.1) (hnn z.1) _ i c)
    rw [updN_at]
    rcases c5 hc with rfl | rfl | rfl | rfl | rfl
    · show upd (gA u 49) (hnn z.1) (nI v) i = _
      rw [upd_at]
      by_cases e : i = hnn z.1
      · rw [if_pos e, if_pos e]; rfl
      · rw [if_neg e, if_neg e]; exact old e
    · show upd (gA u 50) (hnn z.1) (nI x) i = _
      rw [upd_at]
      by_cases e : i = hnn z.1
      · rw [if_pos e, if_pos e]; rfl
      · rw [if_neg e, if_neg e]; exact old e
    · show upd (gA u 51) (hnn z.1) (nI d) i = _
      rw [upd_at]
      by_cases e : i = hnn z.1
      · rw [if_pos e, if_pos e]; rfl
      · rw [if_neg e, if_neg e]; exact old e
    · show upd (gA u 52) (hnn z.1) (nI s) i = _
      rw [upd_at]
      by_cases e : i = hnn z.1
      · rw [if_pos e, if_pos e]; rfl
      · rw [if_neg e, if_neg e]; exact old e
    · show upd (gA u 53) (hnn z.1) (nI w) i = _
      rw [upd_at]
      by_cases e : i = hnn z.1
      · rw [if_pos e, if_pos e]; rfl
      · rw [if_neg e, if_neg e]; exact old e
  have e1 : ∀ a b c d e, gI (pA (pA (pA (pA (pA u 49 a) 50 b) 51 c) 52 d) 53 e) 41 3 = nI (hnn z.1) := fun _ _ _ _ _ => hN1
  rw [e1]
  exact VV.ret1 rfl ⟨congrArg (fun x => some (Value.int x)) (nI_1 _), C.main R A, A.onC⟩
theorem m_forget (C : MInv u z) : MC 160 [some (.ref 41), none] u (.int (nI (hnn z.1))) (zH z (hFg z.1)) := by
  ((repeat refine VV.s rfl rfl ?_); (try (conv => arg 3; simp only [Nat.reduceAdd, sto1, sto2, isL, cond_true, cond_false, List.drop_succ_cons, List.drop_zero, List.drop_nil])))
  have A : MF u (pI u 41 3 0) := MF.rf.I (by omega)
  exact VV.ret1 rfl ⟨by rw [C.1.1.2.2.1], C.main ⟨⟨C.1.1.1, C.1.1.2.1, rfl, C.1.1.2.2.2⟩, C.1.2.1, fun i c hi => absurd hi (Nat.not_lt_zero i), C.1.2.2.2⟩ A, A.onC⟩
end M5
