/-! ===== the reference: Lents, the fraction, status, counts, the digest ===== -/
section M8
variable {u : Sg} {z : Zs}
set_option maxHeartbeats 8000000 in
theorem m_lents_loop {sd : Int32} {m : Nat} {h0 : Hs} {f : Nat → Int32} (R0 : MRep u h0) (h60 : hn h0 ≤ 6) (L : laid u 58 0 6 f) (hm : m ≤ 60) (hpos : 0 < hn h0) : ∀ k i x h a t d7 d8 d9, i + k = m → x < 2147483648 → var h0 h → MRep t h → GoodH h → MF u (pA t 58 (gA u 58)) → gA t 58 = f → V 172 (51, [some (.ref 41), some (.int sd), some (.int (nI m)), some (.long (lN x)), none, some (.int a), some (.int (nI i)), d7, d8, d9], [], t) (fun r t2 => r = some (.int (lts (hn h0) k x h a)) ∧ MRep t2 h0 ∧ MF u (pA t2 58 (gA u 58))) := by
  have mfA : ∀ t t2, MF u (pA t 58 (gA u 58)) → MF t t2 → MF u (pA t2 58 (gA u 58)) := by
    intro t t2 A B
    refine ⟨fun k hk => ?_, fun k j hk => ?_, fun j a1 a2 a3 a4 => ?_, fun k j => ?_⟩
    · by_cases c : k = 58
      · rw [c, gA_pA, if_pos rfl]
      · have := A.1 k hk
        rw [gA_pA, if_neg c] at this ⊢
        rw [B.1 k hk]
        exact this
    · exact (B.2.1 k j hk).trans (A.2.1 k j hk)
    · exact (B.2.2.1 j a1 a2 a3 a4).trans (A.2.2.1 j a1 a2 a3 a4)
    · exact (B.2.2.2 k j).trans (A.2.2.2 k j)
  intro k
  induction k with
  | zero =>
    intro i x h a t d7 d8 d9 hi hx hv R G A e58
    ((repeat refine VV.s rfl rfl ?_); (try (conv => arg 3; simp only [Nat.reduceAdd, sto1, sto2, isL, cond_true, cond_false, List.drop_succ_cons, List.drop_zero, List.drop_nil])))
    refine VV.itt (nI_le (by omega) (by omega)) ?_
    obtain ⟨e, ho, us, sl, rfl⟩ := hv
    ((repeat refine VV.s rfl rfl ?_); (try (conv => arg 3; simp only [Nat.reduceAdd, sto1, sto2, isL, cond_true, cond_false, List.drop_succ_cons, List.drop_zero, List.drop_nil])))
    refine VV.call rfl rfl rfl rfl f_back (fun r t2 q => ?_)
    obtain ⟨rfl, K⟩ := q
    ((repeat refine VV.s rfl rfl ?_); (try (conv => arg 3; simp only [Nat.reduceAdd, sto1, sto2, isL, cond_true, cond_false, List.drop_succ_cons, List.drop_zero, List.drop_nil])))
    exact VV.ret1 rfl ⟨rfl, R0.restored h60 L R e58 K, mfA t t2 A K.MF⟩
  | succ k ih =>
    intro i x h a t d7 d8 d9 hi hx hv R G A e58
    have h6 := G.1.1
    have hn1 : hn h = hn h0 := hv.n
    have hN : gI t 41 1 = nI (hn h0) := by rw [R.1.1, hn1]
    have e0 : (nI (hn h0)).toInt64 = lN (hn h0) := nI_l (by omega)
    have l1 := nxS_lt x
    have l2 := nxS_lt (nxS x)
    have es : ∀ y, y < 2147483648 → (lN y * 1103515245 + 12345) - (lN y * 1103515245 + 12345) / 2147483648 * 2147483648 = lN (nxS y) := by
      intro y hy
      have e1 : lN y * 1103515245 + 12345 = lN (y * 1103515245 + 12345) := by
        have a : (1103515245 : Int64) = lN 1103515245 := rfl
        have b : (12345 : Int64) = lN 12345 := rfl
        rw [a, b, lN_mul, lN_add]
      rw [e1]
      exact pk_lRem (b := 2147483648) (by omega) (by omega) (by omega)
    have e1 : ∀ y, y < 2147483648 → lN y / 65536 = lN (y / 65536) := fun y hy => pk_lDiv (b := 65536) (by omega) (by omega) (by omega)
    have e2 : ∀ y, y < 2147483648 → lN (y / 65536) - lN (y / 65536) / lN (hn h0) * lN (hn h0) = lN (pkS y (hn h0)) := fun y hy => pk_lRem (by omega) hpos (by omega)
    have q1 : pkS (nxS x) (hn h0) < hn h0 := Nat.mod_lt _ hpos
    have q2 : pkS (nxS (nxS x)) (hn h0) < hn h0 := Nat.mod_lt _ hpos
    have P1 : pkS (nxS x) (hn h0) < hn h := by omega
    have P2 : pkS (nxS (nxS x)) (hn h0) < hn h := by omega
    ((repeat refine VV.s rfl rfl ?_); (try (conv => arg 3; simp only [Nat.reduceAdd, sto1, sto2, isL, cond_true, cond_false, List.drop_succ_cons, List.drop_zero, List.drop_nil])))
    refine VV.itf (nI_ge (by omega) (by omega)) ?_
    ((repeat (fail_if_success show VV _ _ (69, _, _, _) _); refine VV.s rfl rfl ?_); (try (conv => arg 3; simp only [Nat.reduceAdd, sto1, sto2, isL, cond_true, cond_false, List.drop_succ_cons, List.drop_zero, List.drop_nil])))
    refine VV.lrem rfl (by decide) ?_
    rw [es x hx]
    ((repeat (fail_if_success show VV _ _ (75, _, _, _) _); refine VV.s rfl rfl ?_); (try (conv => arg 3; simp only [Nat.reduceAdd, sto1, sto2, isL, cond_true, cond_false, List.drop_succ_cons, List.drop_zero, List.drop_nil])))
    refine VV.ldiv rfl (by decide) ?_
    ((repeat (fail_if_success show VV _ _ (81, _, _, _) _); refine VV.s rfl rfl ?_); (try (conv => arg 3; simp only [Nat.reduceAdd, sto1, sto2, isL, cond_true, cond_false, List.drop_succ_cons, List.drop_zero, List.drop_nil])))
    rw [hN, e0, e1 _ l1]
    refine VV.lrem rfl (lN_nz hpos (by omega)) ?_
    rw [e2 _ l1]
    ((repeat (fail_if_success show VV _ _ (97, _, _, _) _); refine VV.s rfl rfl ?_); (try (conv => arg 3; simp only [Nat.reduceAdd, sto1, sto2, isL, cond_true, cond_false, List.drop_succ_cons, List.drop_zero, List.drop_nil])))
    refine VV.lrem rfl (by decide) ?_
    rw [es _ l1]
    ((repeat (fail_if_success show VV _ _ (103, _, _, _) _); refine VV.s rfl rfl ?_); (try (conv => arg 3; simp only [Nat.reduceAdd, sto1, sto2, isL, cond_true, cond_false, List.drop_succ_cons, List.drop_zero, List.drop_nil])))
    refine VV.ldiv rfl (by decide) ?_
    ((repeat (fail_if_success show VV _ _ (109, _, _, _) _); refine VV.s rfl rfl ?_); (try (conv => arg 3; simp only [Nat.reduceAdd, sto1, sto2, isL, cond_true, cond_false, List.drop_succ_cons, List.drop_zero, List.drop_nil])))
    rw [hN, e0, e1 _ l2]
    refine VV.lrem rfl (lN_nz hpos (by omega)) ?_
    rw [e2 _ l2]
    ((repeat refine VV.s rfl rfl ?_); (try (conv => arg 3; simp only [Nat.reduceAdd, sto1, sto2, isL, cond_true, cond_false, List.drop_succ_cons, List.drop_zero, List.drop_nil])))
    rw [lN_i, lN_i]
    refine VV.iald rfl rfl rfl (show pkS (nxS (nxS x)) (hn h0) < 6 by omega) (by decide) ?_
    ((repeat refine VV.s rfl rfl ?_); (try (conv => arg 3; simp only [Nat.reduceAdd, sto1, sto2, isL, cond_true, cond_false, List.drop_succ_cons, List.drop_zero, List.drop_nil])))
    have r4 := (R.2.1 _ P2).2.2.2.1
    have g4 := (G.2.2.1.1 _ P2).1
    rw [r4]
    have G2 := goodLL G P2 P1
    have rest : ∀ t2, MRep t2 (hLL h (pkS (nxS (nxS x)) (hn h0)) (pkS (nxS x) (hn h0))) → MF t t2 → V 172 (156, [some (.ref 41), some (.int sd), some (.int (nI m)), some (.long (lN (nxS (nxS x)))), none, some (.int a), some (.int (nI i)), some (.int (nI (pkS (nxS x) (hn h0)))), some (.int (nI (pkS (nxS (nxS x)) (hn h0)))), d9], [], t2) (fun r t2 => r = some (.int (lts (hn h0) (k + 1) x h a)) ∧ MRep t2 h0 ∧ MF u (pA t2 58 (gA u 58))) := by
      intro t2 R2 B2
      ((repeat refine VV.s rfl rfl ?_); (try (conv => arg 3; simp only [Nat.reduceAdd, sto1, sto2, isL, cond_true, cond_false, List.drop_succ_cons, List.drop_zero, List.drop_nil])))
      refine VV.call rfl rfl rfl rfl (f_pass R2 G2) (fun r t3 q => ?_)
      obtain ⟨rfl, R3, B3⟩ := q
      ((repeat (fail_if_success show VV _ _ (51, _, _, _) _); refine VV.s rfl rfl ?_); (try (conv => arg 3; simp only [Nat.reduceAdd, sto1, sto2, isL, cond_true, cond_false, List.drop_succ_cons, List.drop_zero, List.drop_nil])))
      rw [nI_1, lts]
      exact ih (i + 1) _ _ _ _ _ _ _ (by omega) l2 ((hv.tr (var.LL h _ _)).tr (var.Ev _)) R3 (goodEv G2) (mfA t t3 A (B2.tr B3)) (by rw [(B2.tr B3).1 58 (by omega)]; exact e58)
    refine VV.ite (fun q => ?_) (fun q => ?_)
    · rw [cI_none (by omega)] at q
      unfold hLL at rest
      rw [if_neg q] at rest
      ((repeat refine VV.s rfl rfl ?_); (try (conv => arg 3; simp only [Nat.reduceAdd, sto1, sto2, isL, cond_true, cond_false, List.drop_succ_cons, List.drop_zero, List.drop_nil])))
      refine VV.callE rfl rfl rfl rfl (f_voiceOf R G (p := pkS (nxS x) (hn h0)) (by omega)) rfl ?_
      ((repeat refine VV.s rfl rfl ?_); (try (conv => arg 3; simp only [Nat.reduceAdd, sto1, sto2, isL, cond_true, cond_false, List.drop_succ_cons, List.drop_zero, List.drop_nil])))
      rcases voH_spec h (pkS (nxS x) (hn h0)) with ⟨a1, -⟩ | ⟨w, hw, a1, -⟩
      · rw [a1] at rest ⊢
        refine VV.itt cI_0 ?_
        exact rest t R MF.rf
      · rw [a1] at rest ⊢
        rw [cI_s]
        refine VV.itf (nI_ne1 (by omega)) ?_
        ((repeat refine VV.s rfl rfl ?_); (try (conv => arg 3; simp only [Nat.reduceAdd, sto1, sto2, isL, cond_true, cond_false, List.drop_succ_cons, List.drop_zero, List.drop_nil])))
        refine VV.callE rfl rfl rfl rfl (f_voiceOf R G (p := pkS (nxS x) (hn h0)) (by omega)) rfl ?_
        rw [a1, cI_s]
        refine VV.call rfl rfl rfl rfl (f_leaves R G hw) (fun r t2 q => ?_)
        obtain ⟨rfl, R2, B2⟩ := q
        exact rest t2 R2 B2
    · rw [cI_none (by omega)] at q
      unfold hLL at rest
      rw [if_pos (Classical.not_not.mp q)] at rest
      ((repeat refine VV.s rfl rfl ?_); (try (conv => arg 3; simp only [Nat.reduceAdd, sto1, sto2, isL, cond_true, cond_false, List.drop_succ_cons, List.drop_zero, List.drop_nil])))
      refine VV.call rfl rfl rfl rfl (f_lends R G P2 P1) (fun r t2 q => ?_)
      obtain ⟨rfl, R2, B2⟩ := q
      ((repeat (fail_if_success show VV _ _ (156, _, _, _) _); refine VV.s rfl rfl ?_); (try (conv => arg 3; simp only [Nat.reduceAdd, sto1, sto2, isL, cond_true, cond_false, List.drop_succ_cons, List.drop_zero, List.drop_nil])))
      exact rest t2 R2 B2
theorem m_lents_bad (C : MInv u z) {x n : Int32} (h : lentsBad x n) : MC 172 [some (.ref 41), some (.int x), some (.int n), none, none, none, none, none, none, none] u (.int (-2)) (zB z) := by
  by_cases c1 : x < 0 ∨ 999999 < x
  · ((repeat refine VV.s rfl rfl ?_); (try (conv => arg 3; simp only [Nat.reduceAdd, sto1, sto2, isL, cond_true, cond_false, List.drop_succ_cons, List.drop_zero, List.drop_nil])))
    refine VV.callE rfl rfl rfl rfl (f_inN c1) rfl ?_
    refine VV.s rfl rfl ?_
    refine VV.itt (by decide) ?_
    ((repeat refine VV.s rfl rfl ?_); (try (conv => arg 3; simp only [Nat.reduceAdd, sto1, sto2, isL, cond_true, cond_false, List.drop_succ_cons, List.drop_zero, List.drop_nil])))
    refine VV.callE rfl rfl rfl rfl f_bad rfl ?_
    ((repeat refine VV.s rfl rfl ?_); (try (conv => arg 3; simp only [Nat.reduceAdd, sto1, sto2, isL, cond_true, cond_false, List.drop_succ_cons, List.drop_zero, List.drop_nil])))
    exact VV.ret1 rfl ⟨rfl, C.bad, (Agr.rf).A (by decide)⟩
  · ((repeat refine VV.s rfl rfl ?_); (try (conv => arg 3; simp only [Nat.reduceAdd, sto1, sto2, isL, cond_true, cond_false, List.drop_succ_cons, List.drop_zero, List.drop_nil])))
    refine VV.callE rfl rfl rfl rfl (f_inY c1) rfl ?_
    refine VV.s rfl rfl ?_
    refine VV.itf (by decide) ?_
    ((repeat refine VV.s rfl rfl ?_); (try (conv => arg 3; simp only [Nat.reduceAdd, sto1, sto2, isL, cond_true, cond_false, List.drop_succ_cons, List.drop_zero, List.drop_nil])))
    refine VV.callE rfl rfl rfl rfl (f_inN (h.resolve_left c1)) rfl ?_
    refine VV.s rfl rfl ?_
    refine VV.itf (by decide) ?_
    ((repeat refine VV.s rfl rfl ?_); (try (conv => arg 3; simp only [Nat.reduceAdd, sto1, sto2, isL, cond_true, cond_false, List.drop_succ_cons, List.drop_zero, List.drop_nil])))
    refine VV.callE rfl rfl rfl rfl f_bad rfl ?_
    ((repeat refine VV.s rfl rfl ?_); (try (conv => arg 3; simp only [Nat.reduceAdd, sto1, sto2, isL, cond_true, cond_false, List.drop_succ_cons, List.drop_zero, List.drop_nil])))
    exact VV.ret1 rfl ⟨rfl, C.bad, (Agr.rf).A (by decide)⟩
theorem m_lents_no (C : MInv u z) {x n : Int32} (h : ¬ lentsBad x n) (h0 : hn z.1 = 0) : MC 172 [some (.ref 41), some (.int x), some (.int n), none, none, none, none, none, none, none] u (.int (-3)) (zN z) := by
  ((repeat refine VV.s rfl rfl ?_); (try (conv => arg 3; simp only [Nat.reduceAdd, sto1, sto2, isL, cond_true, cond_false, List.drop_succ_cons, List.drop_zero, List.drop_nil])))
  refine VV.callE rfl rfl rfl rfl (f_inY (fun q => h (Or.inl q))) rfl ?_
  refine VV.s rfl rfl ?_
  refine VV.itf (by decide) ?_
  ((repeat refine VV.s rfl rfl ?_); (try (conv => arg 3; simp only [Nat.reduceAdd, sto1, sto2, isL, cond_true, cond_false, List.drop_succ_cons, List.drop_zero, List.drop_nil])))
  refine VV.callE rfl rfl rfl rfl (f_inY (fun q => h (Or.inr q))) rfl ?_
  refine VV.s rfl rfl ?_
  refine VV.itt (by decide) ?_
  ((repeat refine VV.s rfl rfl ?_); (try (conv => arg 3; simp only [Nat.reduceAdd, sto1, sto2, isL, cond_true, cond_false, List.drop_succ_cons, List.drop_zero, List.drop_nil])))
  refine VV.itf (by rw [C.1.1.1, h0]; exact fun q => q rfl) ?_
  ((repeat refine VV.s rfl rfl ?_); (try (conv => arg 3; simp only [Nat.reduceAdd, sto1, sto2, isL, cond_true, cond_false, List.drop_succ_cons, List.drop_zero, List.drop_nil])))
  refine VV.callE rfl rfl rfl rfl f_no rfl ?_
  ((repeat refine VV.s rfl rfl ?_); (try (conv => arg 3; simp only [Nat.reduceAdd, sto1, sto2, isL, cond_true, cond_false, List.drop_succ_cons, List.drop_zero, List.drop_nil])))
  exact VV.ret1 rfl ⟨rfl, C.no, (Agr.rf).A (by decide)⟩
theorem m_lents_ok (C : MInv u z) (G : GoodH z.1) {x m : Nat} (hx : x ≤ 999999) (hm : m ≤ 60) (h : ¬ lentsBad (nI x) (nI m)) (h0 : 0 < hn z.1) : MC 172 [some (.ref 41), some (.int (nI x)), some (.int (nI m)), none, none, none, none, none, none, none] u (.int (lts (hn z.1) m x z.1 0)) z := by
  have h6 := G.1.1
  ((repeat refine VV.s rfl rfl ?_); (try (conv => arg 3; simp only [Nat.reduceAdd, sto1, sto2, isL, cond_true, cond_false, List.drop_succ_cons, List.drop_zero, List.drop_nil])))
  refine VV.callE rfl rfl rfl rfl (f_inY (fun q => h (Or.inl q))) rfl ?_
  refine VV.s rfl rfl ?_
  refine VV.itf (by decide) ?_
  ((repeat refine VV.s rfl rfl ?_); (try (conv => arg 3; simp only [Nat.reduceAdd, sto1, sto2, isL, cond_true, cond_false, List.drop_succ_cons, List.drop_zero, List.drop_nil])))
  refine VV.callE rfl rfl rfl rfl (f_inY (fun q => h (Or.inr q))) rfl ?_
  refine VV.s rfl rfl ?_
  refine VV.itt (by decide) ?_
  ((repeat refine VV.s rfl rfl ?_); (try (conv => arg 3; simp only [Nat.reduceAdd, sto1, sto2, isL, cond_true, cond_false, List.drop_succ_cons, List.drop_zero, List.drop_nil])))
  refine VV.itt (by rw [C.1.1.1]; exact nI_ne0 h0 (by omega)) ?_
  ((repeat refine VV.s rfl rfl ?_); (try (conv => arg 3; simp only [Nat.reduceAdd, sto1, sto2, isL, cond_true, cond_false, List.drop_succ_cons, List.drop_zero, List.drop_nil])))
  refine VV.call rfl rfl rfl rfl f_puts (fun r t q => ?_)
  obtain ⟨rfl, f, rfl, L⟩ := q
  ((repeat (fail_if_success show VV _ _ (51, _, _, _) _); refine VV.s rfl rfl ?_); (try (conv => arg 3; simp only [Nat.reduceAdd, sto1, sto2, isL, cond_true, cond_false, List.drop_succ_cons, List.drop_zero, List.drop_nil])))
  have R2 : MRep (pA u 58 f) z.1 := C.1.keep2 (fun k hk => by rw [gA_pA, if_neg (by omega)]) (fun j hj => rfl)
  rw [nI_l (by omega)]
  refine VV.mono (m_lents_loop (u := u) C.1 G.1.1 L hm h0 m 0 x z.1 0 _ none none none (by omega) (by omega) (var.rf _) R2 G (by rw [pp_same, pA_self]; exact MF.rf) rfl) (fun r t2 q => ?_)
  obtain ⟨rfl, R3, A3⟩ := q
  exact ⟨rfl, C.aside R3 A3, mf_asideC A3⟩
theorem m_part_0 (C : MInv u z) : MC 173 [some (.ref 41), some (.int (nI 0))] u (.long z.2.2.2.1.1) z := by
  refine VV.s rfl rfl ?_
  refine VV.s rfl rfl ?_
  refine VV.itf (fun q => q rfl) ?_
  ((repeat refine VV.s rfl rfl ?_); (try (conv => arg 3; simp only [Nat.reduceAdd, sto1, sto2, isL, cond_true, cond_false, List.drop_succ_cons, List.drop_zero, List.drop_nil])))
  exact VV.ret2 rfl ⟨by rw [C.2.2.2.2.1.1], C, Agr.rf⟩
theorem m_part_1 (C : MInv u z) : MC 173 [some (.ref 41), some (.int (nI 1))] u (.long z.2.2.2.1.2) z := by
  refine VV.s rfl rfl ?_
  refine VV.s rfl rfl ?_
  refine VV.itt (by decide) ?_
  refine VV.s rfl rfl ?_
  refine VV.s rfl rfl ?_
  refine VV.s rfl rfl ?_
  refine VV.itf (fun q => q rfl) ?_
  ((repeat refine VV.s rfl rfl ?_); (try (conv => arg 3; simp only [Nat.reduceAdd, sto1, sto2, isL, cond_true, cond_false, List.drop_succ_cons, List.drop_zero, List.drop_nil])))
  exact VV.ret2 rfl ⟨by rw [C.2.2.2.2.1.2], C, Agr.rf⟩
theorem m_part_bad (C : MInv u z) {w : Int32} (h : w < 0 ∨ 1 < w) : MC 173 [some (.ref 41), some (.int w)] u (.long (-2)) (zB z) := by
  ((repeat refine VV.s rfl rfl ?_); (try (conv => arg 3; simp only [Nat.reduceAdd, sto1, sto2, isL, cond_true, cond_false, List.drop_succ_cons, List.drop_zero, List.drop_nil])))
  refine VV.itt (fun q => by rw [q] at h; exact absurd h (by decide)) ?_
  ((repeat refine VV.s rfl rfl ?_); (try (conv => arg 3; simp only [Nat.reduceAdd, sto1, sto2, isL, cond_true, cond_false, List.drop_succ_cons, List.drop_zero, List.drop_nil])))
  refine VV.itt (fun q => by rw [q] at h; exact absurd h (by decide)) ?_
  ((repeat refine VV.s rfl rfl ?_); (try (conv => arg 3; simp only [Nat.reduceAdd, sto1, sto2, isL, cond_true, cond_false, List.drop_succ_cons, List.drop_zero, List.drop_nil])))
  refine VV.callE rfl rfl rfl rfl f_bad rfl ?_
  ((repeat refine VV.s rfl rfl ?_); (try (conv => arg 3; simp only [Nat.reduceAdd, sto1, sto2, isL, cond_true, cond_false, List.drop_succ_cons, List.drop_zero, List.drop_nil])))
  exact VV.ret2 rfl ⟨rfl, C.bad, (Agr.rf).A (by decide)⟩
theorem m_status_bad (C : MInv u z) {w : Int32} (h : w < 0 ∨ 2 < w) : MC 176 [some (.ref 41), some (.int w)] u (.int (-1)) (zB z) := by
  ((repeat refine VV.s rfl rfl ?_); (try (conv => arg 3; simp only [Nat.reduceAdd, sto1, sto2, isL, cond_true, cond_false, List.drop_succ_cons, List.drop_zero, List.drop_nil])))
  refine VV.callE rfl rfl rfl rfl (f_inN h) rfl ?_
  refine VV.s rfl rfl ?_
  refine VV.itf (by decide) ?_
  ((repeat (fail_if_success show VV _ _ (15, _, _, _) _); refine VV.s rfl rfl ?_); (try (conv => arg 3; simp only [Nat.reduceAdd, sto1, sto2, isL, cond_true, cond_false, List.drop_succ_cons, List.drop_zero, List.drop_nil])))
  refine VV.iald (n := 0) rfl rfl rfl (by decide) (by decide) ?_
  ((repeat (fail_if_success show VV _ _ (18, _, _, _) _); refine VV.s rfl rfl ?_); (try (conv => arg 3; simp only [Nat.reduceAdd, sto1, sto2, isL, cond_true, cond_false, List.drop_succ_cons, List.drop_zero, List.drop_nil])))
  refine VV.iast (n := 0) rfl rfl rfl (by decide) (by decide) ?_
  ((repeat refine VV.s rfl rfl ?_); (try (conv => arg 3; simp only [Nat.reduceAdd, sto1, sto2, isL, cond_true, cond_false, List.drop_succ_cons, List.drop_zero, List.drop_nil])))
  exact VV.ret1 rfl ⟨rfl, C.bad, (Agr.rf).A (by decide)⟩
theorem m_status_ok (C : MInv u z) {w : Nat} (hw : w ≤ 2) (h : ¬ (nI w < 0 ∨ 2 < nI w)) : MC 176 [some (.ref 41), some (.int (nI w))] u (.int (stI z w)) z := by
  ((repeat refine VV.s rfl rfl ?_); (try (conv => arg 3; simp only [Nat.reduceAdd, sto1, sto2, isL, cond_true, cond_false, List.drop_succ_cons, List.drop_zero, List.drop_nil])))
  refine VV.callE rfl rfl rfl rfl (f_inY h) rfl ?_
  refine VV.s rfl rfl ?_
  refine VV.itt (by decide) ?_
  ((repeat refine VV.s rfl rfl ?_); (try (conv => arg 3; simp only [Nat.reduceAdd, sto1, sto2, isL, cond_true, cond_false, List.drop_succ_cons, List.drop_zero, List.drop_nil])))
  refine VV.iald rfl rfl rfl (show w < 3 by omega) (by decide) ?_
  refine VV.ret1 rfl ⟨congrArg (fun x => some (Value.int x)) ?_, C, Agr.rf⟩
  rcases (show w = 0 ∨ w = 1 ∨ w = 2 by omega) with rfl | rfl | rfl
  · exact C.2.2.2.2.2.1
  · exact C.2.2.2.2.2.2.1
  · exact C.2.2.2.2.2.2.2
/-- who lies at the counter, as a set; how many bits -/
def atC (h : Hs) : Int32 := bts (fun v => decide (hho h v = 0)) (hn h) 0 0
theorem f_atCounter {h : Hs} (R : MRep u h) (G : GoodH h) : V 169 (0, [some (.ref 41), none, none], [], u) (is (.int (atC h)) u) := by
  have hN := R.1.1
  have h6 := G.1.1
  have lp : ∀ k i a, i + k = hn h → V 169 (4, [some (.ref 41), some (.int a), some (.int (nI i))], [], u) (is (.int (bts (fun v => decide (hho h v = 0)) k i a)) u) := by
    intro k
    induction k with
    | zero =>
      intro i a hi
      ((repeat refine VV.s rfl rfl ?_); (try (conv => arg 3; simp only [Nat.reduceAdd, sto1, sto2, isL, cond_true, cond_false, List.drop_succ_cons, List.drop_zero, List.drop_nil])))
      refine VV.itt (by rw [hN]; exact nI_le (by omega) (by omega)) ?_
      ((repeat refine VV.s rfl rfl ?_); (try (conv => arg 3; simp only [Nat.reduceAdd, sto1, sto2, isL, cond_true, cond_false, List.drop_succ_cons, List.drop_zero, List.drop_nil])))
      exact VV.ret1 rfl ⟨rfl, rfl⟩
    | succ k ih =>
      intro i a hi
      have hl := (G.2.2.1.1 i (show i < hn h by omega)).1
      ((repeat refine VV.s rfl rfl ?_); (try (conv => arg 3; simp only [Nat.reduceAdd, sto1, sto2, isL, cond_true, cond_false, List.drop_succ_cons, List.drop_zero, List.drop_nil])))
      refine VV.itf (by rw [hN]; exact nI_ge (by omega) (by omega)) ?_
      ((repeat refine VV.s rfl rfl ?_); (try (conv => arg 3; simp only [Nat.reduceAdd, sto1, sto2, isL, cond_true, cond_false, List.drop_succ_cons, List.drop_zero, List.drop_nil])))
      refine VV.iald rfl rfl rfl (show i < 6 by omega) (by decide) ?_
      rw [(R.2.1 i (show i < hn h by omega)).2.2.2.1]
      ((repeat refine VV.s rfl rfl ?_); (try (conv => arg 3; simp only [Nat.reduceAdd, sto1, sto2, isL, cond_true, cond_false, List.drop_succ_cons, List.drop_zero, List.drop_nil])))
      rw [bts]
      refine VV.ite (fun q => ?_) (fun q => ?_)
      · rw [cI_none (by omega)] at q
        ((repeat (fail_if_success show VV _ _ (4, _, _, _) _); refine VV.s rfl rfl ?_); (try (conv => arg 3; simp only [Nat.reduceAdd, sto1, sto2, isL, cond_true, cond_false, List.drop_succ_cons, List.drop_zero, List.drop_nil])))
        rw [if_neg (by simp [q]), nI_1, or0]
        exact ih (i + 1) a (by omega)
      · rw [cI_none (by omega)] at q
        ((repeat (fail_if_success show VV _ _ (4, _, _, _) _); refine VV.s rfl rfl ?_); (try (conv => arg 3; simp only [Nat.reduceAdd, sto1, sto2, isL, cond_true, cond_false, List.drop_succ_cons, List.drop_zero, List.drop_nil])))
        rw [if_pos (by simp [Classical.not_not.mp q]), nI_1]
        exact ih (i + 1) _ (by omega)
  ((repeat (fail_if_success show VV _ _ (4, _, _, _) _); refine VV.s rfl rfl ?_); (try (conv => arg 3; simp only [Nat.reduceAdd, sto1, sto2, isL, cond_true, cond_false, List.drop_succ_cons, List.drop_zero, List.drop_nil])))
  exact lp (hn h) 0 0 (by omega)
def btc (s : Int32) : Nat → Nat → Int32 → Int32
  | 0, _, a => a
  | k + 1, i, a => btc s k (i + 1) (a + ((s >>> (nI i &&& 31)) &&& 1))
theorem f_bits {s : Int32} : V 170 (0, [some (.int s), none, none], [], u) (is (.int (btc s 6 0 0)) u) := by
  have lp : ∀ k i a, i + k = 6 → V 170 (4, [some (.int s), some (.int a), some (.int (nI i))], [], u) (is (.int (btc s k i a)) u) := by
    intro k
    induction k with
    | zero =>
      intro i a hi
      ((repeat refine VV.s rfl rfl ?_); (try (conv => arg 3; simp only [Nat.reduceAdd, sto1, sto2, isL, cond_true, cond_false, List.drop_succ_cons, List.drop_zero, List.drop_nil])))
      refine VV.itt (nI_le (a := 6) (by omega) (by omega)) ?_
      ((repeat refine VV.s rfl rfl ?_); (try (conv => arg 3; simp only [Nat.reduceAdd, sto1, sto2, isL, cond_true, cond_false, List.drop_succ_cons, List.drop_zero, List.drop_nil])))
      exact VV.ret1 rfl ⟨rfl, rfl⟩
    | succ k ih =>
      intro i a hi
      ((repeat refine VV.s rfl rfl ?_); (try (conv => arg 3; simp only [Nat.reduceAdd, sto1, sto2, isL, cond_true, cond_false, List.drop_succ_cons, List.drop_zero, List.drop_nil])))
      refine VV.itf (nI_ge (b := 6) (by omega) (by omega)) ?_
      ((repeat (fail_if_success show VV _ _ (4, _, _, _) _); refine VV.s rfl rfl ?_); (try (conv => arg 3; simp only [Nat.reduceAdd, sto1, sto2, isL, cond_true, cond_false, List.drop_succ_cons, List.drop_zero, List.drop_nil])))
      rw [nI_1, btc]
      exact ih (i + 1) _ (by omega)
  ((repeat (fail_if_success show VV _ _ (4, _, _, _) _); refine VV.s rfl rfl ?_); (try (conv => arg 3; simp only [Nat.reduceAdd, sto1, sto2, isL, cond_true, cond_false, List.drop_succ_cons, List.drop_zero, List.drop_nil])))
  exact lp 6 0 0 (by omega)
/-- a set is told by at most six of true and false -/
def bm (c : Nat → Bool) : Nat → Nat → Nat → Nat
  | 0, _, a => a
  | k + 1, i, a => bm c k (i + 1) (if c i then a + 1 else a)
theorem bits6 : ∀ b0 b1 b2 b3 b4 b5 : Bool, ∀ n, n < 7 → btc (bts (fun v => match v with | 0 => b0 | 1 => b1 | 2 => b2 | 3 => b3 | 4 => b4 | _ => b5) n 0 0) 6 0 0 = nI (bm (fun v => match v with | 0 => b0 | 1 => b1 | 2 => b2 | 3 => b3 | 4 => b4 | _ => b5) n 0 0) := by decide +kernel
def pk6 (c : Nat → Bool) : Nat → Bool := fun v => match v with | 0 => c 0 | 1 => c 1 | 2 => c 2 | 3 => c 3 | 4 => c 4 | _ => c 5
theorem pk6_eq (c : Nat → Bool) {v : Nat} (h : v < 6) : pk6 c v = c v := by
  rcases (show v = 0 ∨ v = 1 ∨ v = 2 ∨ v = 3 ∨ v = 4 ∨ v = 5 by omega) with rfl | rfl | rfl | rfl | rfl | rfl <;> rfl
theorem bts_cong {c d : Nat → Bool} : ∀ k i a, (∀ v, i ≤ v → v < i + k → c v = d v) → bts c k i a = bts d k i a
  | 0, _, _, _ => rfl
  | k + 1, i, a, h => by
    rw [bts, bts, h i (Nat.le_refl _) (by omega)]
    exact bts_cong k (i + 1) _ (fun v h1 h2 => h v (by omega) (by omega))
theorem bm_cong {c d : Nat → Bool} : ∀ k i a, (∀ v, i ≤ v → v < i + k → c v = d v) → bm c k i a = bm d k i a
  | 0, _, _, _ => rfl
  | k + 1, i, a, h => by
    rw [bm, bm, h i (Nat.le_refl _) (by omega)]
    exact bm_cong k (i + 1) _ (fun v h1 h2 => h v (by omega) (by omega))
theorem bm_ctr (ho : Nat → Nat) : ∀ k i a, bm (fun v => decide (ho v = 0)) k i a = ctr ho k i a
  | 0, _, _ => rfl
  | k + 1, i, a => by
    rw [bm, ctr, bm_ctr ho k]
    simp
theorem bits_at {h : Hs} (h6 : hn h ≤ 6) : btc (atC h) 6 0 0 = nI (ctrH h) := by
  have e : ∀ v, 0 ≤ v → v < 0 + hn h → decide (hho h v = 0) = pk6 (fun v => decide (hho h v = 0)) v := fun v _ hv => (pk6_eq (fun v => decide (hho h v = 0)) (by omega)).symm
  unfold atC ctrH
  rw [bts_cong (hn h) 0 0 e, ← bm_ctr, bm_cong (hn h) 0 0 e]
  exact bits6 _ _ _ _ _ _ (hn h) (by omega)
theorem f_allSlipped {h : Hs} (R : MRep u h) (G : GoodH h) : V 177 (0, [some (.ref 41), none, none], [], u) (is (.int (smsH h)) u) := by
  have hN := R.1.1
  have h6 := G.1.1
  have lp : ∀ k i a, i + k = hn h → V 177 (4, [some (.ref 41), some (.int a), some (.int (nI i))], [], u) (is (.int (sms (hsl h) k i a)) u) := by
    intro k
    induction k with
    | zero =>
      intro i a hi
      ((repeat refine VV.s rfl rfl ?_); (try (conv => arg 3; simp only [Nat.reduceAdd, sto1, sto2, isL, cond_true, cond_false, List.drop_succ_cons, List.drop_zero, List.drop_nil])))
      refine VV.itt (by rw [hN]; exact nI_le (by omega) (by omega)) ?_
      ((repeat refine VV.s rfl rfl ?_); (try (conv => arg 3; simp only [Nat.reduceAdd, sto1, sto2, isL, cond_true, cond_false, List.drop_succ_cons, List.drop_zero, List.drop_nil])))
      exact VV.ret1 rfl ⟨rfl, rfl⟩
    | succ k ih =>
      intro i a hi
      ((repeat refine VV.s rfl rfl ?_); (try (conv => arg 3; simp only [Nat.reduceAdd, sto1, sto2, isL, cond_true, cond_false, List.drop_succ_cons, List.drop_zero, List.drop_nil])))
      refine VV.itf (by rw [hN]; exact nI_ge (by omega) (by omega)) ?_
      ((repeat refine VV.s rfl rfl ?_); (try (conv => arg 3; simp only [Nat.reduceAdd, sto1, sto2, isL, cond_true, cond_false, List.drop_succ_cons, List.drop_zero, List.drop_nil])))
      refine VV.iald rfl rfl rfl (show i < 6 by omega) (by decide) ?_
      ((repeat (fail_if_success show VV _ _ (4, _, _, _) _); refine VV.s rfl rfl ?_); (try (conv => arg 3; simp only [Nat.reduceAdd, sto1, sto2, isL, cond_true, cond_false, List.drop_succ_cons, List.drop_zero, List.drop_nil])))
      rw [(R.2.1 i (show i < hn h by omega)).2.2.2.2.2, nI_1, sms]
      exact ih (i + 1) _ (by omega)
  ((repeat (fail_if_success show VV _ _ (4, _, _, _) _); refine VV.s rfl rfl ?_); (try (conv => arg 3; simp only [Nat.reduceAdd, sto1, sto2, isL, cond_true, cond_false, List.drop_succ_cons, List.drop_zero, List.drop_nil])))
  exact lp (hn h) 0 0 (by omega)
theorem f_countOf {n : Nat} (R : MRep u z.1) (h4 : gI u 41 16 = nI z.2.2.1.1) (G : GoodH z.1) {w : Nat} (hw : w ≤ 6) : V 178 (0, [some (.ref 41), some (.int (nI w))], [], u) (is (.int (hmI z w)) u) := by
  refine VV.s rfl rfl ?_
  refine VV.s rfl rfl ?_
  rcases (show w = 0 ∨ w = 1 ∨ w = 2 ∨ w = 3 ∨ w = 4 ∨ w = 5 ∨ w = 6 by omega) with rfl | rfl | rfl | rfl | rfl | rfl | rfl
  · refine V.pc (swT_in (by omega) (by decide) (by decide) rfl) ?_
    ((repeat refine VV.s rfl rfl ?_); (try (conv => arg 3; simp only [Nat.reduceAdd, sto1, sto2, isL, cond_true, cond_false, List.drop_succ_cons, List.drop_zero, List.drop_nil])))
    exact VV.ret1 rfl ⟨by rw [R.1.1]; rfl, rfl⟩
  · refine V.pc (swT_in (by omega) (by decide) (by decide) rfl) ?_
    ((repeat refine VV.s rfl rfl ?_); (try (conv => arg 3; simp only [Nat.reduceAdd, sto1, sto2, isL, cond_true, cond_false, List.drop_succ_cons, List.drop_zero, List.drop_nil])))
    exact VV.ret1 rfl ⟨by rw [R.1.2.1]; rfl, rfl⟩
  · refine V.pc (swT_in (by omega) (by decide) (by decide) rfl) ?_
    ((repeat refine VV.s rfl rfl ?_); (try (conv => arg 3; simp only [Nat.reduceAdd, sto1, sto2, isL, cond_true, cond_false, List.drop_succ_cons, List.drop_zero, List.drop_nil])))
    refine VV.callE rfl rfl rfl rfl (f_atCounter R G) rfl ?_
    refine VV.callE rfl rfl rfl rfl f_bits rfl ?_
    exact VV.ret1 rfl ⟨by rw [bits_at G.1.1]; rfl, rfl⟩
  · refine V.pc (swT_in (by omega) (by decide) (by decide) rfl) ?_
    ((repeat refine VV.s rfl rfl ?_); (try (conv => arg 3; simp only [Nat.reduceAdd, sto1, sto2, isL, cond_true, cond_false, List.drop_succ_cons, List.drop_zero, List.drop_nil])))
    refine VV.callE rfl rfl rfl rfl (f_allSlipped R G) rfl ?_
    exact VV.ret1 rfl ⟨rfl, rfl⟩
  · refine V.pc (swT_in (by omega) (by decide) (by decide) rfl) ?_
    ((repeat refine VV.s rfl rfl ?_); (try (conv => arg 3; simp only [Nat.reduceAdd, sto1, sto2, isL, cond_true, cond_false, List.drop_succ_cons, List.drop_zero, List.drop_nil])))
    exact VV.ret1 rfl ⟨by rw [R.1.2.2.1]; rfl, rfl⟩
  · refine V.pc (swT_in (by omega) (by decide) (by decide) rfl) ?_
    ((repeat refine VV.s rfl rfl ?_); (try (conv => arg 3; simp only [Nat.reduceAdd, sto1, sto2, isL, cond_true, cond_false, List.drop_succ_cons, List.drop_zero, List.drop_nil])))
    exact VV.ret1 rfl ⟨by rw [R.1.2.2.2]; rfl, rfl⟩
  · refine V.pc (swT_out (by omega) (by decide)) ?_
    ((repeat refine VV.s rfl rfl ?_); (try (conv => arg 3; simp only [Nat.reduceAdd, sto1, sto2, isL, cond_true, cond_false, List.drop_succ_cons, List.drop_zero, List.drop_nil])))
    exact VV.ret1 rfl ⟨by rw [h4]; rfl, rfl⟩
theorem m_count_bad (C : MInv u z) {w : Int32} (h : w < 0 ∨ 6 < w) : MC 179 [some (.ref 41), some (.int w)] u (.int (-2)) (zB z) := by
  ((repeat refine VV.s rfl rfl ?_); (try (conv => arg 3; simp only [Nat.reduceAdd, sto1, sto2, isL, cond_true, cond_false, List.drop_succ_cons, List.drop_zero, List.drop_nil])))
  refine VV.callE rfl rfl rfl rfl (f_inN h) rfl ?_
  refine VV.s rfl rfl ?_
  refine VV.itt (by decide) ?_
  ((repeat refine VV.s rfl rfl ?_); (try (conv => arg 3; simp only [Nat.reduceAdd, sto1, sto2, isL, cond_true, cond_false, List.drop_succ_cons, List.drop_zero, List.drop_nil])))
  refine VV.callE rfl rfl rfl rfl f_bad rfl ?_
  ((repeat refine VV.s rfl rfl ?_); (try (conv => arg 3; simp only [Nat.reduceAdd, sto1, sto2, isL, cond_true, cond_false, List.drop_succ_cons, List.drop_zero, List.drop_nil])))
  exact VV.ret1 rfl ⟨rfl, C.bad, (Agr.rf).A (by decide)⟩
theorem m_count_ok (C : MInv u z) (G : GoodH z.1) {w : Nat} (hw : w ≤ 6) (h : ¬ (nI w < 0 ∨ 6 < nI w)) : MC 179 [some (.ref 41), some (.int (nI w))] u (.int (hmI z w)) z := by
  ((repeat refine VV.s rfl rfl ?_); (try (conv => arg 3; simp only [Nat.reduceAdd, sto1, sto2, isL, cond_true, cond_false, List.drop_succ_cons, List.drop_zero, List.drop_nil])))
  refine VV.callE rfl rfl rfl rfl (f_inY h) rfl ?_
  refine VV.s rfl rfl ?_
  refine VV.itf (by decide) ?_
  ((repeat refine VV.s rfl rfl ?_); (try (conv => arg 3; simp only [Nat.reduceAdd, sto1, sto2, isL, cond_true, cond_false, List.drop_succ_cons, List.drop_zero, List.drop_nil])))
  refine VV.callE rfl rfl rfl rfl (f_countOf (n := 0) C.1 C.2.2.2.1.1 G hw) rfl ?_
  ((repeat refine VV.s rfl rfl ?_); (try (conv => arg 3; simp only [Nat.reduceAdd, sto1, sto2, isL, cond_true, cond_false, List.drop_succ_cons, List.drop_zero, List.drop_nil])))
  exact VV.ret1 rfl ⟨rfl, C, Agr.rf⟩
theorem pJpJ (u : Sg) (x y : Int64) : pJ (pJ u 41 31 x) 41 31 y = pJ u 41 31 y := by
  refine Sg_ext (fun _ _ => rfl) (fun k j => ?_) (fun _ _ => rfl)
  simp only [gJ_pJ]
  by_cases c : k = 41
  · simp only [if_pos c]
    by_cases d : j = 31
    · simp only [if_pos d]
    · simp only [if_neg d]
  · simp only [if_neg c]
theorem f_mix {a x : Int64} : V 180 (0, [some (.ref 41), some (.long x), none], [], pJ u 41 31 a) (isN (pJ u 41 31 (31 * a + x))) := by
  ((repeat refine VV.s rfl rfl ?_); (try (conv => arg 3; simp only [Nat.reduceAdd, sto1, sto2, isL, cond_true, cond_false, List.drop_succ_cons, List.drop_zero, List.drop_nil])))
  refine VV.ret0 rfl ⟨rfl, ?_⟩
  show pJ (pJ u 41 31 a) 41 31 (31 * a + x) = _
  rw [pJpJ]
set_option maxHeartbeats 8000000 in
theorem m_digest (C : MInv u z) (G : GoodH z.1) : MC 181 [some (.ref 41), none] u (.long (dgZ z)) z := by
  have h6 := G.1.1
  have h62 := G.1.2.2.1
  have R : ∀ x, MRep (pJ u 41 31 x) z.1 := fun x => C.1
  have hNq : ∀ x, gI (pJ u 41 31 x) 41 1 = nI (hn z.1) := fun x => C.1.1.1
  have hNn : ∀ x, gI (pJ u 41 31 x) 41 3 = nI (hnn z.1) := fun x => C.1.1.2.2.1
  have fin : ∀ a d, V 181 (200, [some (.ref 41), d], [], pJ u 41 31 a) (fun x t => x = some (.long (31 * (31 * a + z.2.2.2.1.1) + z.2.2.2.1.2)) ∧ MInv t z ∧ Agr onC u t) := by
    intro a d
    ((repeat refine VV.s rfl rfl ?_); (try (conv => arg 3; simp only [Nat.reduceAdd, sto1, sto2, isL, cond_true, cond_false, List.drop_succ_cons, List.drop_zero, List.drop_nil])))
    rw [show gJ (pJ u 41 31 a) 41 27 = z.2.2.2.1.1 from C.2.2.2.2.1.1]
    refine VV.callV rfl rfl rfl rfl f_mix rfl ?_
    ((repeat refine VV.s rfl rfl ?_); (try (conv => arg 3; simp only [Nat.reduceAdd, sto1, sto2, isL, cond_true, cond_false, List.drop_succ_cons, List.drop_zero, List.drop_nil])))
    rw [show ∀ b, gJ (pJ u 41 31 b) 41 28 = z.2.2.2.1.2 from fun _ => C.2.2.2.2.1.2]
    refine VV.callV rfl rfl rfl rfl f_mix rfl ?_
    ((repeat refine VV.s rfl rfl ?_); (try (conv => arg 3; simp only [Nat.reduceAdd, sto1, sto2, isL, cond_true, cond_false, List.drop_succ_cons, List.drop_zero, List.drop_nil])))
    refine VV.ret2 rfl ⟨rfl, C.keep2 (fun _ _ => rfl) (fun _ _ => rfl) (fun j hj => ?_), (Agr.rf).J (by decide)⟩
    rw [gJ_pJ, if_pos rfl, if_neg (by omega)]
  have lN3 : ∀ k i a, i + k = hnn z.1 → V 181 (131, [some (.ref 41), some (.int (nI i))], [], pJ u 41 31 a) (fun x t => x = some (.long (31 * (31 * dgN z.1 k i a + z.2.2.2.1.1) + z.2.2.2.1.2)) ∧ MInv t z ∧ Agr onC u t) := by
    intro k
    induction k with
    | zero =>
      intro i a hi
      ((repeat refine VV.s rfl rfl ?_); (try (conv => arg 3; simp only [Nat.reduceAdd, sto1, sto2, isL, cond_true, cond_false, List.drop_succ_cons, List.drop_zero, List.drop_nil])))
      refine VV.itt (by rw [hNn]; exact nI_le (by omega) (by omega)) ?_
      exact fin a _
    | succ k ih =>
      intro i a hi
      have r := fun c hc => C.1.2.2.1 i c (show i < hnn z.1 by omega) hc
      ((repeat refine VV.s rfl rfl ?_); (try (conv => arg 3; simp only [Nat.reduceAdd, sto1, sto2, isL, cond_true, cond_false, List.drop_succ_cons, List.drop_zero, List.drop_nil])))
      refine VV.itf (by rw [hNn]; exact nI_ge (by omega) (by omega)) ?_
      ((repeat refine VV.s rfl rfl ?_); (try (conv => arg 3; simp only [Nat.reduceAdd, sto1, sto2, isL, cond_true, cond_false, List.drop_succ_cons, List.drop_zero, List.drop_nil])))
      refine VV.iald rfl rfl rfl (show i < 6 by omega) (by decide) ?_
      rw [show ∀ x, gA (pJ u 41 31 x) 49 i = nI (hN z.1 i 0) from fun _ => r 0 (by omega)]
      ((repeat refine VV.s rfl rfl ?_); (try (conv => arg 3; simp only [Nat.reduceAdd, sto1, sto2, isL, cond_true, cond_false, List.drop_succ_cons, List.drop_zero, List.drop_nil])))
      refine VV.callV rfl rfl rfl rfl f_mix rfl ?_
      ((repeat refine VV.s rfl rfl ?_); (try (conv => arg 3; simp only [Nat.reduceAdd, sto1, sto2, isL, cond_true, cond_false, List.drop_succ_cons, List.drop_zero, List.drop_nil])))
      refine VV.iald rfl rfl rfl (show i < 6 by omega) (by decide) ?_
      rw [show ∀ x, gA (pJ u 41 31 x) 50 i = nI (hN z.1 i 1) from fun _ => r 1 (by omega)]
      ((repeat refine VV.s rfl rfl ?_); (try (conv => arg 3; simp only [Nat.reduceAdd, sto1, sto2, isL, cond_true, cond_false, List.drop_succ_cons, List.drop_zero, List.drop_nil])))
      refine VV.callV rfl rfl rfl rfl f_mix rfl ?_
      ((repeat refine VV.s rfl rfl ?_); (try (conv => arg 3; simp only [Nat.reduceAdd, sto1, sto2, isL, cond_true, cond_false, List.drop_succ_cons, List.drop_zero, List.drop_nil])))
      refine VV.iald rfl rfl rfl (show i < 6 by omega) (by decide) ?_
      rw [show ∀ x, gA (pJ u 41 31 x) 51 i = nI (hN z.1 i 2) from fun _ => r 2 (by omega)]
      ((repeat refine VV.s rfl rfl ?_); (try (conv => arg 3; simp only [Nat.reduceAdd, sto1, sto2, isL, cond_true, cond_false, List.drop_succ_cons, List.drop_zero, List.drop_nil])))
      refine VV.callV rfl rfl rfl rfl f_mix rfl ?_
      ((repeat refine VV.s rfl rfl ?_); (try (conv => arg 3; simp only [Nat.reduceAdd, sto1, sto2, isL, cond_true, cond_false, List.drop_succ_cons, List.drop_zero, List.drop_nil])))
      refine VV.iald rfl rfl rfl (show i < 6 by omega) (by decide) ?_
      rw [show ∀ x, gA (pJ u 41 31 x) 52 i = nI (hN z.1 i 3) from fun _ => r 3 (by omega)]
      ((repeat refine VV.s rfl rfl ?_); (try (conv => arg 3; simp only [Nat.reduceAdd, sto1, sto2, isL, cond_true, cond_false, List.drop_succ_cons, List.drop_zero, List.drop_nil])))
      refine VV.callV rfl rfl rfl rfl f_mix rfl ?_
      ((repeat refine VV.s rfl rfl ?_); (try (conv => arg 3; simp only [Nat.reduceAdd, sto1, sto2, isL, cond_true, cond_false, List.drop_succ_cons, List.drop_zero, List.drop_nil])))
      refine VV.iald rfl rfl rfl (show i < 6 by omega) (by decide) ?_
      rw [show ∀ x, gA (pJ u 41 31 x) 53 i = nI (hN z.1 i 4) from fun _ => r 4 (by omega)]
      ((repeat refine VV.s rfl rfl ?_); (try (conv => arg 3; simp only [Nat.reduceAdd, sto1, sto2, isL, cond_true, cond_false, List.drop_succ_cons, List.drop_zero, List.drop_nil])))
      refine VV.callV rfl rfl rfl rfl f_mix rfl ?_
      ((repeat (fail_if_success show VV _ _ (131, _, _, _) _); refine VV.s rfl rfl ?_); (try (conv => arg 3; simp only [Nat.reduceAdd, sto1, sto2, isL, cond_true, cond_false, List.drop_succ_cons, List.drop_zero, List.drop_nil])))
      rw [nI_1, dgN]
      exact ih (i + 1) _ (by omega)
  have lV : ∀ k i a, i + k = hn z.1 → V 181 (60, [some (.ref 41), some (.int (nI i))], [], pJ u 41 31 a) (fun x t => x = some (.long (31 * (31 * dgN z.1 (hnn z.1) 0 (dgV z.1 k i a) + z.2.2.2.1.1) + z.2.2.2.1.2)) ∧ MInv t z ∧ Agr onC u t) := by
    intro k
    induction k with
    | zero =>
      intro i a hi
      ((repeat refine VV.s rfl rfl ?_); (try (conv => arg 3; simp only [Nat.reduceAdd, sto1, sto2, isL, cond_true, cond_false, List.drop_succ_cons, List.drop_zero, List.drop_nil])))
      refine VV.itt (by rw [hNq]; exact nI_le (by omega) (by omega)) ?_
      ((repeat (fail_if_success show VV _ _ (131, _, _, _) _); refine VV.s rfl rfl ?_); (try (conv => arg 3; simp only [Nat.reduceAdd, sto1, sto2, isL, cond_true, cond_false, List.drop_succ_cons, List.drop_zero, List.drop_nil])))
      exact lN3 (hnn z.1) 0 a (by omega)
    | succ k ih =>
      intro i a hi
      obtain ⟨r1, r2, r3, r4, r5, r6⟩ := C.1.2.1 i (show i < hn z.1 by omega)
      ((repeat refine VV.s rfl rfl ?_); (try (conv => arg 3; simp only [Nat.reduceAdd, sto1, sto2, isL, cond_true, cond_false, List.drop_succ_cons, List.drop_zero, List.drop_nil])))
      refine VV.itf (by rw [hNq]; exact nI_ge (by omega) (by omega)) ?_
      ((repeat refine VV.s rfl rfl ?_); (try (conv => arg 3; simp only [Nat.reduceAdd, sto1, sto2, isL, cond_true, cond_false, List.drop_succ_cons, List.drop_zero, List.drop_nil])))
      refine VV.iald rfl rfl rfl (show i < 6 by omega) (by decide) ?_
      rw [show ∀ x, gA (pJ u 41 31 x) 43 i = nI (hkd z.1 i) from fun _ => r1]
      ((repeat refine VV.s rfl rfl ?_); (try (conv => arg 3; simp only [Nat.reduceAdd, sto1, sto2, isL, cond_true, cond_false, List.drop_succ_cons, List.drop_zero, List.drop_nil])))
      refine VV.callV rfl rfl rfl rfl f_mix rfl ?_
      ((repeat refine VV.s rfl rfl ?_); (try (conv => arg 3; simp only [Nat.reduceAdd, sto1, sto2, isL, cond_true, cond_false, List.drop_succ_cons, List.drop_zero, List.drop_nil])))
      refine VV.iald rfl rfl rfl (show i < 6 by omega) (by decide) ?_
      rw [show ∀ x, gA (pJ u 41 31 x) 44 i = nI (hso z.1 i) from fun _ => r2]
      ((repeat refine VV.s rfl rfl ?_); (try (conv => arg 3; simp only [Nat.reduceAdd, sto1, sto2, isL, cond_true, cond_false, List.drop_succ_cons, List.drop_zero, List.drop_nil])))
      refine VV.callV rfl rfl rfl rfl f_mix rfl ?_
      ((repeat refine VV.s rfl rfl ?_); (try (conv => arg 3; simp only [Nat.reduceAdd, sto1, sto2, isL, cond_true, cond_false, List.drop_succ_cons, List.drop_zero, List.drop_nil])))
      refine VV.iald rfl rfl rfl (show i < 6 by omega) (by decide) ?_
      rw [show ∀ x, gA (pJ u 41 31 x) 46 i = cI (hho z.1 i) from fun _ => r4]
      ((repeat refine VV.s rfl rfl ?_); (try (conv => arg 3; simp only [Nat.reduceAdd, sto1, sto2, isL, cond_true, cond_false, List.drop_succ_cons, List.drop_zero, List.drop_nil])))
      refine VV.callV rfl rfl rfl rfl f_mix rfl ?_
      ((repeat refine VV.s rfl rfl ?_); (try (conv => arg 3; simp only [Nat.reduceAdd, sto1, sto2, isL, cond_true, cond_false, List.drop_succ_cons, List.drop_zero, List.drop_nil])))
      refine VV.iald rfl rfl rfl (show i < 6 by omega) (by decide) ?_
      rw [show ∀ x, gA (pJ u 41 31 x) 47 i = nI (hus z.1 i) from fun _ => r5]
      ((repeat refine VV.s rfl rfl ?_); (try (conv => arg 3; simp only [Nat.reduceAdd, sto1, sto2, isL, cond_true, cond_false, List.drop_succ_cons, List.drop_zero, List.drop_nil])))
      refine VV.callV rfl rfl rfl rfl f_mix rfl ?_
      ((repeat refine VV.s rfl rfl ?_); (try (conv => arg 3; simp only [Nat.reduceAdd, sto1, sto2, isL, cond_true, cond_false, List.drop_succ_cons, List.drop_zero, List.drop_nil])))
      refine VV.iald rfl rfl rfl (show i < 6 by omega) (by decide) ?_
      rw [show ∀ x, gA (pJ u 41 31 x) 48 i = hsl z.1 i from fun _ => r6]
      ((repeat refine VV.s rfl rfl ?_); (try (conv => arg 3; simp only [Nat.reduceAdd, sto1, sto2, isL, cond_true, cond_false, List.drop_succ_cons, List.drop_zero, List.drop_nil])))
      refine VV.callV rfl rfl rfl rfl f_mix rfl ?_
      ((repeat (fail_if_success show VV _ _ (60, _, _, _) _); refine VV.s rfl rfl ?_); (try (conv => arg 3; simp only [Nat.reduceAdd, sto1, sto2, isL, cond_true, cond_false, List.drop_succ_cons, List.drop_zero, List.drop_nil])))
      rw [nI_1, dgV]
      exact ih (i + 1) _ (by omega)
  have lW : ∀ k i a, i + k = hn z.1 → V 181 (33, [some (.ref 41), some (.int (nI i))], [], pJ u 41 31 a) (fun x t => x = some (.long (31 * (31 * dgN z.1 (hnn z.1) 0 (dgV z.1 (hn z.1) 0 (dgW (hwa z.1) k i a)) + z.2.2.2.1.1) + z.2.2.2.1.2)) ∧ MInv t z ∧ Agr onC u t) := by
    intro k
    induction k with
    | zero =>
      intro i a hi
      ((repeat refine VV.s rfl rfl ?_); (try (conv => arg 3; simp only [Nat.reduceAdd, sto1, sto2, isL, cond_true, cond_false, List.drop_succ_cons, List.drop_zero, List.drop_nil])))
      refine VV.itt (by rw [hNq]; exact nI_le (by omega) (by omega)) ?_
      ((repeat (fail_if_success show VV _ _ (60, _, _, _) _); refine VV.s rfl rfl ?_); (try (conv => arg 3; simp only [Nat.reduceAdd, sto1, sto2, isL, cond_true, cond_false, List.drop_succ_cons, List.drop_zero, List.drop_nil])))
      exact lV (hn z.1) 0 a (by omega)
    | succ k ih =>
      intro i a hi
      obtain ⟨r1, r2, r3, r4, r5, r6⟩ := C.1.2.1 i (show i < hn z.1 by omega)
      ((repeat refine VV.s rfl rfl ?_); (try (conv => arg 3; simp only [Nat.reduceAdd, sto1, sto2, isL, cond_true, cond_false, List.drop_succ_cons, List.drop_zero, List.drop_nil])))
      refine VV.itf (by rw [hNq]; exact nI_ge (by omega) (by omega)) ?_
      ((repeat refine VV.s rfl rfl ?_); (try (conv => arg 3; simp only [Nat.reduceAdd, sto1, sto2, isL, cond_true, cond_false, List.drop_succ_cons, List.drop_zero, List.drop_nil])))
      refine VV.iald rfl rfl rfl (show i < 6 by omega) (by decide) ?_
      rw [show ∀ x, gA (pJ u 41 31 x) 45 i = nI (hwa z.1 i) from fun _ => r3]
      ((repeat refine VV.s rfl rfl ?_); (try (conv => arg 3; simp only [Nat.reduceAdd, sto1, sto2, isL, cond_true, cond_false, List.drop_succ_cons, List.drop_zero, List.drop_nil])))
      refine VV.callV rfl rfl rfl rfl f_mix rfl ?_
      ((repeat (fail_if_success show VV _ _ (33, _, _, _) _); refine VV.s rfl rfl ?_); (try (conv => arg 3; simp only [Nat.reduceAdd, sto1, sto2, isL, cond_true, cond_false, List.drop_succ_cons, List.drop_zero, List.drop_nil])))
      rw [nI_1, dgW]
      exact ih (i + 1) _ (by omega)
  have lC : ∀ k i a, i + k = 7 → V 181 (9, [some (.ref 41), some (.int (nI i))], [], pJ u 41 31 a) (fun x t => x = some (.long (31 * (31 * dgH z.1 (dgC z k i a) + z.2.2.2.1.1) + z.2.2.2.1.2)) ∧ MInv t z ∧ Agr onC u t) := by
    intro k
    induction k with
    | zero =>
      intro i a hi
      ((repeat refine VV.s rfl rfl ?_); (try (conv => arg 3; simp only [Nat.reduceAdd, sto1, sto2, isL, cond_true, cond_false, List.drop_succ_cons, List.drop_zero, List.drop_nil])))
      refine VV.itt (nI_lt (a := 6) (by omega) (by omega)) ?_
      ((repeat (fail_if_success show VV _ _ (33, _, _, _) _); refine VV.s rfl rfl ?_); (try (conv => arg 3; simp only [Nat.reduceAdd, sto1, sto2, isL, cond_true, cond_false, List.drop_succ_cons, List.drop_zero, List.drop_nil])))
      exact lW (hn z.1) 0 a (by omega)
    | succ k ih =>
      intro i a hi
      ((repeat refine VV.s rfl rfl ?_); (try (conv => arg 3; simp only [Nat.reduceAdd, sto1, sto2, isL, cond_true, cond_false, List.drop_succ_cons, List.drop_zero, List.drop_nil])))
      refine VV.itf (nI_nlt (a := 6) (by omega) (by omega)) ?_
      ((repeat refine VV.s rfl rfl ?_); (try (conv => arg 3; simp only [Nat.reduceAdd, sto1, sto2, isL, cond_true, cond_false, List.drop_succ_cons, List.drop_zero, List.drop_nil])))
      refine VV.callE rfl rfl rfl rfl (f_countOf (u := pJ u 41 31 a) (z := z) (n := 0) (R a) C.2.2.2.1.1 G (show i ≤ 6 by omega)) rfl ?_
      ((repeat refine VV.s rfl rfl ?_); (try (conv => arg 3; simp only [Nat.reduceAdd, sto1, sto2, isL, cond_true, cond_false, List.drop_succ_cons, List.drop_zero, List.drop_nil])))
      refine VV.callV rfl rfl rfl rfl f_mix rfl ?_
      ((repeat (fail_if_success show VV _ _ (9, _, _, _) _); refine VV.s rfl rfl ?_); (try (conv => arg 3; simp only [Nat.reduceAdd, sto1, sto2, isL, cond_true, cond_false, List.drop_succ_cons, List.drop_zero, List.drop_nil])))
      rw [nI_1, dgC]
      exact ih (i + 1) _ (by omega)
  ((repeat (fail_if_success show VV _ _ (9, _, _, _) _); refine VV.s rfl rfl ?_); (try (conv => arg 3; simp only [Nat.reduceAdd, sto1, sto2, isL, cond_true, cond_false, List.drop_succ_cons, List.drop_zero, List.drop_nil])))
  exact lC 7 0 1297 (by omega)
end M8
