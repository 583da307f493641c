/-! ===== reading: the class's numbers, ends, words ===== -/
section RD3
variable {u : Sg} {z : Zs} {T : Nat → Nat} {N : Nat}
theorem TX.keep {t : Sg} (X : TX T N u) (e : gA t 38 = gA u 38) : TX T N t := ⟨X.1, X.2.1, by rw [e]; exact X.2.2⟩
theorem rdFz_s {s : Nat} (h : s < N) : rdFz T N s = if isFi T s = true then rdFz T N (s + 1) else s := rdRun_s h
theorem rdWz_s {s : Nat} (h : s < N) : rdWz T N s = if isLe T s = true then rdWz T N (s + 1) else s := rdRun_s h
theorem tkS_2 {s : Nat} (hs : s ≤ N) : tkS T N s = 2 ↔ (1 ≤ rdFz T N s - s ∧ rdFz T N s - s ≤ 2) := by
  unfold tkS
  by_cases h : s < N
  · rw [if_pos h]
    by_cases q : tk (T s) = 2
    · have hz := rdFz_s (T := T) h
      rw [if_pos (tk_2.mp q)] at hz
      have := (rdFz_le T (N := N) (i := s + 1) (by omega)).1
      by_cases q2 : 2 < rdFz T N s - s
      · rw [if_pos ⟨q, q2⟩]; omega
      · rw [if_neg (fun x => q2 x.2)]; omega
    · have hz := rdFz_s (T := T) h
      rw [if_neg (fun x => q (tk_2.mpr x))] at hz
      rw [if_neg (fun x => q x.1)]; omega
  · rw [if_neg h]
    have : rdFz T N s = s := rdRun_0 (by omega)
    omega
theorem tkE_2 {s : Nat} (h : tkS T N s = 2) : s < N ∧ tkE T N s = rdFz T N s := by
  unfold tkS at h
  split at h
  · rename_i hs
    refine ⟨hs, ?_⟩
    unfold tkE
    rw [if_pos hs]
    split at h
    · omega
    · rw [if_neg (by omega), if_pos h]
  · omega
theorem rdV_lt {s : Nat} (X : ∀ j, j < N → T j < 128) (hs : s ≤ N) (h : 1 ≤ rdFz T N s - s ∧ rdFz T N s - s ≤ 2) : rdV T s (rdFz T N s) < 2000 := by
  have hl := rdFz_le T (N := N) (i := s) hs
  have h1 := X s (by omega)
  unfold rdV
  split
  · omega
  · have := X (s + 1) (by omega)
    omega
theorem rdNum_l {i b f : Nat} (h : rdNum T N i b = .inl f) : f = rdSk T N i := by
  unfold rdNum at h
  split at h
  · cases h
  · cases h; rfl
theorem rdNum_r {i b v e : Nat} (hi : i ≤ N) (h : rdNum T N i b = .inr (v, e)) : v < b ∧ e ≤ N ∧ i < e ∧ e = rdFz T N (rdSk T N i) := by
  unfold rdNum at h
  split at h
  · rename_i q
    cases h
    have := rdSk_le T hi
    have := rdFz_le T (N := N) (i := rdSk T N i) (by omega)
    exact ⟨q.2, by omega, by omega, rfl⟩
  · cases h
theorem e_num {i b : Nat} (X : TX T N u) (hi : i ≤ N) (h1 : gI u 37 1 = nI N) (h4 : gI u 37 4 = nI i) (hb : b < 2 ^ 31) : V 40 (0, [some (.ref 37), some (.int (nI b))], [], u) (fun r t => Agr o37 u t ∧ gI t 37 1 = nI N ∧ gI t 37 3 = nI (rdSk T N i) ∧ ((∃ f, rdNum T N i b = .inl f ∧ r = some (.int 0)) ∨ ∃ v e, rdNum T N i b = .inr (v, e) ∧ r = some (.int 1) ∧ gI t 37 5 = nI v ∧ gI t 37 4 = nI e)) := by
  have hs := rdSk_le T hi
  ((repeat refine VV.s rfl rfl ?_); (try (conv => arg 3; simp only [Nat.reduceAdd, sto1, sto2, isL, cond_true, cond_false, List.drop_succ_cons, List.drop_zero, List.drop_nil])))
  refine VV.call rfl rfl rfl rfl (e_step X hi h1 h4) (fun r t q => ?_)
  obtain ⟨rfl, ⟨g1, g2, g3, g4, g5⟩, A⟩ := q
  have ts : tkS T N (rdSk T N i) < 10 := by
    unfold tkS
    have := tk_le (T (rdSk T N i))
    split
    · split <;> omega
    · omega
  ((repeat refine VV.s rfl rfl ?_); (try (conv => arg 3; simp only [Nat.reduceAdd, sto1, sto2, isL, cond_true, cond_false, List.drop_succ_cons, List.drop_zero, List.drop_nil])))
  refine VV.ite (fun q => ?_) (fun q => ?_)
  · rw [g2] at q
    have q : ¬ tkS T N (rdSk T N i) = 2 := fun x => q (by rw [x]; rfl)
    ((repeat refine VV.s rfl rfl ?_); (try (conv => arg 3; simp only [Nat.reduceAdd, sto1, sto2, isL, cond_true, cond_false, List.drop_succ_cons, List.drop_zero, List.drop_nil])))
    refine VV.ret3 rfl (Or.inl rfl) ⟨A, g1, g3, Or.inl ⟨rdSk T N i, ?_, rfl⟩⟩
    unfold rdNum
    rw [if_neg (fun x => q ((tkS_2 hs.2).mpr x.1))]
  · rw [g2] at q
    have q := (nI_eq (b := 2) (by omega) (by omega)).mp (Classical.not_not.mp q)
    have k := (tkS_2 hs.2).mp q
    have hv := rdV_lt X.2.1 hs.2 k
    have he := (tkE_2 q).2
    ((repeat refine VV.s rfl rfl ?_); (try (conv => arg 3; simp only [Nat.reduceAdd, sto1, sto2, isL, cond_true, cond_false, List.drop_succ_cons, List.drop_zero, List.drop_nil])))
    refine VV.ite (fun q2 => ?_) (fun q2 => ?_)
    · rw [g5 q, le_nI hb (by omega)] at q2
      ((repeat refine VV.s rfl rfl ?_); (try (conv => arg 3; simp only [Nat.reduceAdd, sto1, sto2, isL, cond_true, cond_false, List.drop_succ_cons, List.drop_zero, List.drop_nil])))
      refine VV.ret3 rfl (Or.inl rfl) ⟨A, g1, g3, Or.inl ⟨rdSk T N i, ?_, rfl⟩⟩
      unfold rdNum
      rw [if_neg (fun x => by have := x.2; omega)]
    · rw [g5 q, le_nI hb (by omega)] at q2
      ((repeat refine VV.s rfl rfl ?_); (try (conv => arg 3; simp only [Nat.reduceAdd, sto1, sto2, isL, cond_true, cond_false, List.drop_succ_cons, List.drop_zero, List.drop_nil])))
      refine VV.ret3 rfl (Or.inr rfl) ⟨A, g1, g3, Or.inr ⟨_, rdFz T N (rdSk T N i), ?_, rfl, g5 q, by rw [← he]; exact g4⟩⟩
      unfold rdNum
      rw [if_pos ⟨k, by omega⟩]
theorem tkS_3 {s : Nat} : tkS T N s = 3 ↔ (s < N ∧ T s = 59) := by
  unfold tkS
  by_cases h : s < N
  · rw [if_pos h]
    by_cases q : tk (T s) = 3
    · rw [if_neg (by omega)]
      exact ⟨fun _ => ⟨h, tk_3.mp q⟩, fun _ => q⟩
    · refine ⟨fun x => ?_, fun x => absurd (tk_3.mpr x.2) q⟩
      split at x
      · omega
      · exact absurd x q
  · rw [if_neg h]; omega
theorem e_end {i : Nat} (X : TX T N u) (hi : i ≤ N) (h1 : gI u 37 1 = nI N) (h4 : gI u 37 4 = nI i) : V 41 (0, [some (.ref 37)], [], u) (fun r t => Agr o37 u t ∧ gI t 37 1 = nI N ∧ ((∃ f, rdEnd T N i = .inl f ∧ r = some (.int 0) ∧ gI t 37 3 = nI f) ∨ ∃ e, rdEnd T N i = .inr e ∧ r = some (.int 1) ∧ gI t 37 4 = nI e)) := by
  have hs := rdSk_le T hi
  ((repeat refine VV.s rfl rfl ?_); (try (conv => arg 3; simp only [Nat.reduceAdd, sto1, sto2, isL, cond_true, cond_false, List.drop_succ_cons, List.drop_zero, List.drop_nil])))
  refine VV.call rfl rfl rfl rfl (e_step X hi h1 h4) (fun r t q => ?_)
  obtain ⟨rfl, ⟨g1, g2, g3, g4, g5⟩, A⟩ := q
  have ts : tkS T N (rdSk T N i) < 10 := by
    unfold tkS
    have := tk_le (T (rdSk T N i))
    split
    · split <;> omega
    · omega
  ((repeat refine VV.s rfl rfl ?_); (try (conv => arg 3; simp only [Nat.reduceAdd, sto1, sto2, isL, cond_true, cond_false, List.drop_succ_cons, List.drop_zero, List.drop_nil])))
  refine VV.ite (fun q => ?_) (fun q => ?_)
  · rw [g2] at q
    have q : ¬ tkS T N (rdSk T N i) = 3 := fun x => q (by rw [x]; rfl)
    ((repeat refine VV.s rfl rfl ?_); (try (conv => arg 3; simp only [Nat.reduceAdd, sto1, sto2, isL, cond_true, cond_false, List.drop_succ_cons, List.drop_zero, List.drop_nil])))
    refine VV.ret3 rfl (Or.inl rfl) ⟨A, g1, Or.inl ⟨rdSk T N i, ?_, rfl, g3⟩⟩
    unfold rdEnd
    rw [if_neg (fun x => q (tkS_3.mpr x))]
  · rw [g2] at q
    have q := (nI_eq (b := 3) (by omega) (by omega)).mp (Classical.not_not.mp q)
    have k := tkS_3.mp q
    have e3 := tk_3.mpr k.2
    ((repeat refine VV.s rfl rfl ?_); (try (conv => arg 3; simp only [Nat.reduceAdd, sto1, sto2, isL, cond_true, cond_false, List.drop_succ_cons, List.drop_zero, List.drop_nil])))
    refine VV.ret3 rfl (Or.inr rfl) ⟨A, g1, Or.inr ⟨rdSk T N i + 1, ?_, rfl, ?_⟩⟩
    · unfold rdEnd
      rw [if_pos k]
    · have : tkE T N (rdSk T N i) = rdSk T N i + 1 := by
        unfold tkE
        rw [if_pos k.1, if_neg (by omega), if_neg (by omega)]
      rw [← this]
      exact g4
theorem eqw_drop {l : List Nat} {s i : Nat} (h : i < l.length) : eqw T (l.drop i) (s + i) = (decide (T (s + i) = l.getD i 0) && eqw T (l.drop (i + 1)) (s + (i + 1))) := by
  rw [List.drop_eq_getElem_cons h, eqw, List.getD_eq_getElem?_getD, List.getElem?_eq_getElem h]
  rfl
theorem txt_lt : ∀ j, j < 4 → ∀ i, i < (txt j).length → (txt j).getD i 0 < 128 := by decide +kernel
theorem txt_len : ∀ j, j < 4 → 0 < (txt j).length ∧ (txt j).length < 10 := by decide +kernel
set_option maxHeartbeats 8000000 in
theorem e_word {s j : Nat} (X : TX T N u) (hs : s ≤ N) (R : RS T N s u) (hj : j < 4) : V 42 (0, [some (.ref 37), some (.ref (100 + j)), none], [], u) (is (.int (b01 (rdW T N j s))) u) := by
  obtain ⟨g1, g2, g3, g4, g5⟩ := R
  obtain ⟨l1, l2⟩ := txt_len j hj
  have ts : tkS T N s < 10 := by
    unfold tkS
    have := tk_le (T s)
    split
    · split <;> omega
    · omega
  have hN := X.1
  ((repeat refine VV.s rfl rfl ?_); (try (conv => arg 3; simp only [Nat.reduceAdd, sto1, sto2, isL, cond_true, cond_false, List.drop_succ_cons, List.drop_zero, List.drop_nil])))
  refine VV.ite (fun q => ?_) (fun q => ?_)
  · rw [g2] at q
    have q : ¬ tkS T N s = 1 := fun x => q (by rw [x]; rfl)
    have e : rdWz T N s = s := by
      by_cases h : s < N
      · rw [rdWz_s h, if_neg (fun x => q ?_)]
        have := tk_1.mpr x
        unfold tkS
        rw [if_pos h, if_neg (by omega), this]
      · exact rdRun_0 (by omega)
    have ew : rdW T N j s = false := by
      unfold rdW
      rw [e, Nat.sub_self, decide_eq_false (by omega), Bool.false_and]
    rw [ew]
    ((repeat refine VV.s rfl rfl ?_); (try (conv => arg 3; simp only [Nat.reduceAdd, sto1, sto2, isL, cond_true, cond_false, List.drop_succ_cons, List.drop_zero, List.drop_nil])))
    exact VV.ret3 rfl (Or.inl rfl) ⟨rfl, rfl⟩
  · rw [g2] at q
    have q := (nI_eq (b := 1) (by omega) (by omega)).mp (Classical.not_not.mp q)
    have hq : s < N ∧ tk (T s) = 1 := by
      unfold tkS at q
      split at q
      · rename_i h
        refine ⟨h, ?_⟩
        split at q
        · omega
        · exact q
      · omega
    have hE : tkE T N s = rdWz T N s := by
      unfold tkE
      rw [if_pos hq.1, if_pos hq.2]
    rw [hE] at g4
    have hw := rdWz_le T hs
    ((repeat refine VV.s rfl rfl ?_); (try (conv => arg 3; simp only [Nat.reduceAdd, sto1, sto2, isL, cond_true, cond_false, List.drop_succ_cons, List.drop_zero, List.drop_nil])))
    refine VV.slen rfl hj (by show 1 + 0 ≤ 8; omega) ?_
    rw [g3, g4, pk_sub (by omega)]
    ((repeat refine VV.s rfl rfl ?_); (try (conv => arg 3; simp only [Nat.reduceAdd, sto1, sto2, isL, cond_true, cond_false, List.drop_succ_cons, List.drop_zero, List.drop_nil])))
    refine VV.ite (fun q2 => ?_) (fun q2 => ?_)
    · rw [eq_nI (by omega) (by omega)] at q2
      have lp : ∀ k i, i + k = (txt j).length → eqw T ((txt j).drop i) (s + i) = rdW T N j s → V 42 (28, [some (.ref 37), some (.ref (100 + j)), some (.int (nI i))], [], u) (is (.int (b01 (rdW T N j s))) u) := by
        intro k
        induction k with
        | zero =>
          intro i hi e
          rw [List.drop_eq_nil_of_le (by omega), eqw] at e
          rw [← e]
          ((repeat refine VV.s rfl rfl ?_); (try (conv => arg 3; simp only [Nat.reduceAdd, sto1, sto2, isL, cond_true, cond_false, List.drop_succ_cons, List.drop_zero, List.drop_nil])))
          refine VV.slen rfl hj (by show 1 + 0 ≤ 8; omega) ?_
          ((repeat refine VV.s rfl rfl ?_); (try (conv => arg 3; simp only [Nat.reduceAdd, sto1, sto2, isL, cond_true, cond_false, List.drop_succ_cons, List.drop_zero, List.drop_nil])))
          refine VV.itt (nI_le (by omega) (by omega)) ?_
          ((repeat refine VV.s rfl rfl ?_); (try (conv => arg 3; simp only [Nat.reduceAdd, sto1, sto2, isL, cond_true, cond_false, List.drop_succ_cons, List.drop_zero, List.drop_nil])))
          exact VV.ret3 rfl (Or.inr rfl) ⟨rfl, rfl⟩
        | succ k ih =>
          intro i hi e
          rw [eqw_drop (by omega)] at e
          have t1 := txt_lt j hj i (by omega)
          have t2 := X.2.1 (s + i) (by omega)
          ((repeat refine VV.s rfl rfl ?_); (try (conv => arg 3; simp only [Nat.reduceAdd, sto1, sto2, isL, cond_true, cond_false, List.drop_succ_cons, List.drop_zero, List.drop_nil])))
          refine VV.slen rfl hj (by show 1 + 0 ≤ 8; omega) ?_
          ((repeat refine VV.s rfl rfl ?_); (try (conv => arg 3; simp only [Nat.reduceAdd, sto1, sto2, isL, cond_true, cond_false, List.drop_succ_cons, List.drop_zero, List.drop_nil])))
          refine VV.itf (nI_ge (by omega) (by omega)) ?_
          ((repeat refine VV.s rfl rfl ?_); (try (conv => arg 3; simp only [Nat.reduceAdd, sto1, sto2, isL, cond_true, cond_false, List.drop_succ_cons, List.drop_zero, List.drop_nil])))
          rw [g3, nI_add]
          refine VV.iald rfl rfl rfl (show (s + i) < 150 by omega) (by decide) ?_
          rw [X.2.2 (s + i) (by omega)]
          ((repeat refine VV.s rfl rfl ?_); (try (conv => arg 3; simp only [Nat.reduceAdd, sto1, sto2, isL, cond_true, cond_false, List.drop_succ_cons, List.drop_zero, List.drop_nil])))
          refine VV.schr rfl hj (by omega) (by omega) (by show 1 + 0 ≤ 8; omega) ?_
          ((repeat refine VV.s rfl rfl ?_); (try (conv => arg 3; simp only [Nat.reduceAdd, sto1, sto2, isL, cond_true, cond_false, List.drop_succ_cons, List.drop_zero, List.drop_nil])))
          refine VV.ite (fun q3 => ?_) (fun q3 => ?_)
          · rw [eq_nI (by omega) (by omega)] at q3
            rw [decide_eq_true q3, Bool.true_and] at e
            ((repeat (fail_if_success show VV _ _ (28, _, _, _) _); refine VV.s rfl rfl ?_); (try (conv => arg 3; simp only [Nat.reduceAdd, sto1, sto2, isL, cond_true, cond_false, List.drop_succ_cons, List.drop_zero, List.drop_nil])))
            rw [nI_1]
            exact ih (i + 1) (by omega) e
          · rw [eq_nI (by omega) (by omega)] at q3
            rw [decide_eq_false q3, Bool.false_and] at e
            rw [← e]
            ((repeat refine VV.s rfl rfl ?_); (try (conv => arg 3; simp only [Nat.reduceAdd, sto1, sto2, isL, cond_true, cond_false, List.drop_succ_cons, List.drop_zero, List.drop_nil])))
            exact VV.ret3 rfl (Or.inl rfl) ⟨rfl, rfl⟩
      ((repeat (fail_if_success show VV _ _ (28, _, _, _) _); refine VV.s rfl rfl ?_); (try (conv => arg 3; simp only [Nat.reduceAdd, sto1, sto2, isL, cond_true, cond_false, List.drop_succ_cons, List.drop_zero, List.drop_nil])))
      refine lp (txt j).length 0 (by omega) ?_
      unfold rdW
      rw [decide_eq_true q2, Bool.true_and]
      rfl
    · rw [eq_nI (by omega) (by omega)] at q2
      have ew : rdW T N j s = false := by
        unfold rdW
        rw [decide_eq_false q2, Bool.false_and]
      rw [ew]
      ((repeat refine VV.s rfl rfl ?_); (try (conv => arg 3; simp only [Nat.reduceAdd, sto1, sto2, isL, cond_true, cond_false, List.drop_succ_cons, List.drop_zero, List.drop_nil])))
      exact VV.ret3 rfl (Or.inl rfl) ⟨rfl, rfl⟩
end RD3
