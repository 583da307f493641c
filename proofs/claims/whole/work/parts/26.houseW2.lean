/-! ===== a house of the class: swaps done, one comes, a note, the past, evenings ===== -/
def hEx (h : Hs) (i j : Nat) : Hs := match voH h i, voH h j with
  | a + 1, c + 1 => hW h (updN (updN (hho h) a (j + 1)) c (i + 1)) (hus h)
  | _, _ => h
set_option maxHeartbeats 4000000 in
theorem e_exchange {u : Sg} {h : Hs} (R : HRep u 10 h) (G : GoodH h) {i j : Nat} (hi : i < hn h) (hj : j < hn h) : V 20 (0, [some (.ref 10), some (.int (nI i)), some (.int (nI j)), none, none], [], u) (fun r t => r = none ∧ HRep t 10 (hEx h i j) ∧ Agr (offH 10) u t) := by
  have h6 := G.1.1
  ((repeat refine VV.s rfl rfl ?_); (try (conv => arg 3; simp only [Nat.reduceAdd, sto1, sto2, isL, cond_true, cond_false, List.drop_succ_cons, List.drop_zero, List.drop_nil])))
  refine VV.callE rfl rfl rfl rfl (e_voiceWith (Or.inr rfl) R G (p := i) (by omega)) rfl ?_
  ((repeat refine VV.s rfl rfl ?_); (try (conv => arg 3; simp only [Nat.reduceAdd, sto1, sto2, isL, cond_true, cond_false, List.drop_succ_cons, List.drop_zero, List.drop_nil])))
  refine VV.callE rfl rfl rfl rfl (e_voiceWith (Or.inr rfl) R G (p := j) (by omega)) rfl ?_
  ((repeat refine VV.s rfl rfl ?_); (try (conv => arg 3; simp only [Nat.reduceAdd, sto1, sto2, isL, cond_true, cond_false, List.drop_succ_cons, List.drop_zero, List.drop_nil])))
  unfold hEx
  rcases voH_spec h i with ⟨a1, -⟩ | ⟨a, ha, a1, -⟩
  · rw [a1]
    refine VV.itt cI_0 ?_
    exact VV.ret0 rfl ⟨rfl, R, Agr.rf⟩
  · rw [a1, cI_s]
    refine VV.itf (nI_ne1 (by omega)) ?_
    ((repeat refine VV.s rfl rfl ?_); (try (conv => arg 3; simp only [Nat.reduceAdd, sto1, sto2, isL, cond_true, cond_false, List.drop_succ_cons, List.drop_zero, List.drop_nil])))
    rcases voH_spec h j with ⟨b1, -⟩ | ⟨c, hc, b1, -⟩
    · rw [b1]
      refine VV.itt cI_0 ?_
      exact VV.ret0 rfl ⟨rfl, R, Agr.rf⟩
    · rw [b1, cI_s]
      refine VV.itf (nI_ne1 (by omega)) ?_
      ((repeat refine VV.s rfl rfl ?_); (try (conv => arg 3; simp only [Nat.reduceAdd, sto1, sto2, isL, cond_true, cond_false, List.drop_succ_cons, List.drop_zero, List.drop_nil])))
      refine VV.iast rfl rfl rfl (show a < 6 by omega) (by decide) ?_
      ((repeat refine VV.s rfl rfl ?_); (try (conv => arg 3; simp only [Nat.reduceAdd, sto1, sto2, isL, cond_true, cond_false, List.drop_succ_cons, List.drop_zero, List.drop_nil])))
      refine VV.iast rfl rfl rfl (show c < 6 by omega) (by decide) ?_
      ((repeat refine VV.s rfl rfl ?_); (try (conv => arg 3; simp only [Nat.reduceAdd, sto1, sto2, isL, cond_true, cond_false, List.drop_succ_cons, List.drop_zero, List.drop_nil])))
      refine VV.ret0 rfl ⟨rfl, ?_, ((Agr.rf).A (by decide)).A (by decide)⟩
      show HRep _ _ (hW h _ _)
      rw [← hE_hW]
      refine R.setE rfl R.1.2.1 rfl rfl rfl rfl rfl (fun x hx => ?_) (fun x hx => (R.2.1 x hx).2.2.2.2.1) (fun x hx => (R.2.1 x hx).2.2.2.2.2) rfl rfl
      show upd (upd _ a _) c _ x = _
      rw [upd_at, updN_at]
      split
      · rw [cI_s]
      · rw [upd_at, updN_at]
        split
        · rw [cI_s]
        · exact (R.2.1 x hx).2.2.2.1
/-- one comes -/
def hOne (h : Hs) (k s w : Nat) : Hs := ((hn h + 1, hev h, hnn h, 0), (updN (hkd h) (hn h) k, updN (hso h) (hn h) s, updN (hwa h) (hn h) w, updN (hho h) (hn h) (hn h + 1), updN (hus h) (hn h) 0, updN (hsl h) (hn h) 0), h.2.2)
theorem goodOne {h : Hs} (G : GoodH h) (h5 : hn h < 6) {k s w : Nat} (hk : k ≤ 5) (hs : s ≤ 9) (hw : w ≤ 9) : GoodH (hOne h k s w) := by
  refine ⟨⟨by show hn h + 1 ≤ 6; omega, G.1.2.1, G.1.2.2.1, Nat.zero_le _⟩, fun v hv => ?_, ⟨fun v hv => ?_, fun v x hv hx e1 e2 => ?_⟩, fun i hi => ?_, fun k hk => absurd hk (Nat.not_lt_zero k)⟩
  · show updN _ _ _ v ≤ 5 ∧ updN _ _ _ v ≤ 9 ∧ updN _ _ _ v ≤ 9
    have hv : v < hn h + 1 := hv
    rw [updN_at, updN_at, updN_at]
    by_cases c : v = hn h
    · rw [if_pos c, if_pos c, if_pos c]; exact ⟨hk, hs, hw⟩
    · rw [if_neg c, if_neg c, if_neg c]; exact G.2.1 v (by omega)
  · show updN _ _ _ v ≤ hn h + 1 ∧ updN _ _ _ v ≤ _
    have hv : v < hn h + 1 := hv
    rw [updN_at, updN_at]
    by_cases c : v = hn h
    · rw [if_pos c, if_pos c]; exact ⟨Nat.le_refl _, Nat.zero_le _⟩
    · rw [if_neg c, if_neg c]
      have := G.2.2.1.1 v (by omega)
      exact ⟨by omega, this.2⟩
  · have hv : v < hn h + 1 := hv
    have hx : x < hn h + 1 := hx
    have e1 : updN (hho h) (hn h) (hn h + 1) v = updN (hho h) (hn h) (hn h + 1) x := e1
    have e2 : updN (hho h) (hn h) (hn h + 1) v ≠ 0 := e2
    rw [updN_at, updN_at] at e1
    rw [updN_at] at e2
    by_cases c : v = hn h
    · by_cases c2 : x = hn h
      · rw [c, c2]
      · rw [if_pos c, if_neg c2] at e1
        have := (G.2.2.1.1 x (by omega)).1
        omega
    · rw [if_neg c] at e1 e2
      by_cases c2 : x = hn h
      · rw [if_pos c2] at e1
        have := (G.2.2.1.1 v (by omega)).1
        omega
      · rw [if_neg c2] at e1
        exact G.2.2.1.2 v x (by omega) (by omega) e1 e2
  · have := G.2.2.2.1 i hi
    exact ⟨Nat.lt_succ_of_lt this.1, this.2⟩
set_option maxHeartbeats 4000000 in
theorem e_welcome {b : Nat} (hb : b = 1 ∨ b = 10) {u : Sg} {h : Hs} (R : HRep u b h) (h5 : hn h < 6) {k s w : Nat} : V 2 (0, [some (.ref b), some (.int (nI k)), some (.int (nI s)), some (.int (nI w)), none], [], u) (fun r t => r = some (.int (nI (hn h))) ∧ HRep t b (hOne h k s w) ∧ Agr (offH b) u t) := by
  have hN := R.1.1
  rcases hb with rfl | rfl
  all_goals
    ((repeat refine VV.s rfl rfl ?_); (try (conv => arg 3; simp only [Nat.reduceAdd, sto1, sto2, isL, cond_true, cond_false, List.drop_succ_cons, List.drop_zero, List.drop_nil])))
    rw [hN]
    refine VV.iast rfl rfl rfl (show (hn h) < 6 by omega) (by decide) ?_
    ((repeat refine VV.s rfl rfl ?_); (try (conv => arg 3; simp only [Nat.reduceAdd, sto1, sto2, isL, cond_true, cond_false, List.drop_succ_cons, List.drop_zero, List.drop_nil])))
    refine VV.iast rfl rfl rfl (show (hn h) < 6 by omega) (by decide) ?_
    ((repeat refine VV.s rfl rfl ?_); (try (conv => arg 3; simp only [Nat.reduceAdd, sto1, sto2, isL, cond_true, cond_false, List.drop_succ_cons, List.drop_zero, List.drop_nil])))
    refine VV.iast rfl rfl rfl (show (hn h) < 6 by omega) (by decide) ?_
    ((repeat refine VV.s rfl rfl ?_); (try (conv => arg 3; simp only [Nat.reduceAdd, sto1, sto2, isL, cond_true, cond_false, List.drop_succ_cons, List.drop_zero, List.drop_nil])))
    refine VV.iast rfl rfl rfl (show (hn h) < 6 by omega) (by decide) ?_
    ((repeat refine VV.s rfl rfl ?_); (try (conv => arg 3; simp only [Nat.reduceAdd, sto1, sto2, isL, cond_true, cond_false, List.drop_succ_cons, List.drop_zero, List.drop_nil])))
    refine VV.iast rfl rfl rfl (show (hn h) < 6 by omega) (by decide) ?_
    ((repeat refine VV.s rfl rfl ?_); (try (conv => arg 3; simp only [Nat.reduceAdd, sto1, sto2, isL, cond_true, cond_false, List.drop_succ_cons, List.drop_zero, List.drop_nil])))
    refine VV.iast rfl rfl rfl (show (hn h) < 6 by omega) (by decide) ?_
    ((repeat refine VV.s rfl rfl ?_); (try (conv => arg 3; simp only [Nat.reduceAdd, sto1, sto2, isL, cond_true, cond_false, List.drop_succ_cons, List.drop_zero, List.drop_nil])))
    refine VV.ret1 rfl ⟨rfl, ?_, ?_⟩
    · refine ⟨⟨?_, R.1.2.1, R.1.2.2.1, rfl⟩, fun v hv => ?_, R.2.2.1, fun k hk => absurd hk (Nat.not_lt_zero k)⟩
      · show gI u _ 0 + 1 = nI (hn h + 1)
        rw [hN, nI_1]
      · have hv : v < hn h + 1 := hv
        show upd _ _ _ v = nI (updN _ _ _ v) ∧ upd _ _ _ v = nI (updN _ _ _ v) ∧ upd _ _ _ v = nI (updN _ _ _ v) ∧ upd _ _ _ v = cI (updN _ _ _ v) ∧ upd _ _ _ v = nI (updN _ _ _ v) ∧ upd _ _ _ v = updN _ _ _ v
        simp only [upd_at, updN_at]
        by_cases c : v = hn h
        · simp only [if_pos c]
          refine ⟨?_, ?_, ?_, ?_, ?_, ?_⟩ <;> first | trivial | rfl | exact (cI_s _).symm
        · simp only [if_neg c]
          exact R.2.1 v (by omega)
    · exact ((((((((Agr.rf).A (by decide)).A (by decide)).A (by decide)).A (by decide)).A (by decide)).A (by decide)).I (by decide)).I (by decide)
/-- a note -/
def row5 (v u d s w : Nat) : Nat → Nat := fun c => if c = 0 then v else if c = 1 then u else if c = 2 then d else if c = 3 then s else w
def hNt (h : Hs) (r : Nat → Nat) : Hs := ((hn h, hev h, hnn h + 1, hun h), h.2.1, updN (hN h) (hnn h) r, h.2.2.2)
theorem c5 {c : Nat} (h : c < 5) : c = 0 ∨ c = 1 ∨ c = 2 ∨ c = 3 ∨ c = 4 := by omega
set_option maxHeartbeats 4000000 in
theorem e_writeDown {u : Sg} {h : Hs} (R : HRep u 1 h) (h5 : hnn h < 6) {v x d s w : Nat} : V 21 (0, [some (.ref 1), some (.int (nI v)), some (.int (nI x)), some (.int (nI d)), some (.int (nI s)), some (.int (nI w)), none], [], u) (fun r t => r = some (.int (nI (hnn h + 1))) ∧ HRep t 1 (hNt h (row5 v x d s w)) ∧ Agr (offH 1) u t) := by
  have hN1 := R.1.2.2.1
  have e1 : nI (5 * hnn h) + 1 = nI (5 * hnn h + 1) := nI_1 _
  have e2 : nI (5 * hnn h) + 2 = nI (5 * hnn h + 2) := add_nI _ 2
  have e3 : nI (5 * hnn h) + 3 = nI (5 * hnn h + 3) := add_nI _ 3
  have e4 : nI (5 * hnn h) + 4 = nI (5 * hnn h + 4) := add_nI _ 4
  ((repeat refine VV.s rfl rfl ?_); (try (conv => arg 3; simp only [Nat.reduceAdd, sto1, sto2, isL, cond_true, cond_false, List.drop_succ_cons, List.drop_zero, List.drop_nil])))
  rw [hN1, mul5]
  refine VV.iast rfl rfl rfl (show 5 * hnn h < 30 by omega) (by decide) ?_
  ((repeat refine VV.s rfl rfl ?_); (try (conv => arg 3; simp only [Nat.reduceAdd, sto1, sto2, isL, cond_true, cond_false, List.drop_succ_cons, List.drop_zero, List.drop_nil])))
  rw [e1]
  refine VV.iast rfl rfl rfl (show 5 * hnn h + 1 < 30 by omega) (by decide) ?_
  ((repeat refine VV.s rfl rfl ?_); (try (conv => arg 3; simp only [Nat.reduceAdd, sto1, sto2, isL, cond_true, cond_false, List.drop_succ_cons, List.drop_zero, List.drop_nil])))
  rw [e2]
  refine VV.iast rfl rfl rfl (show 5 * hnn h + 2 < 30 by omega) (by decide) ?_
  ((repeat refine VV.s rfl rfl ?_); (try (conv => arg 3; simp only [Nat.reduceAdd, sto1, sto2, isL, cond_true, cond_false, List.drop_succ_cons, List.drop_zero, List.drop_nil])))
  rw [e3]
  refine VV.iast rfl rfl rfl (show 5 * hnn h + 3 < 30 by omega) (by decide) ?_
  ((repeat refine VV.s rfl rfl ?_); (try (conv => arg 3; simp only [Nat.reduceAdd, sto1, sto2, isL, cond_true, cond_false, List.drop_succ_cons, List.drop_zero, List.drop_nil])))
  rw [e4]
  refine VV.iast rfl rfl rfl (show 5 * hnn h + 4 < 30 by omega) (by decide) ?_
  ((repeat refine VV.s rfl rfl ?_); (try (conv => arg 3; simp only [Nat.reduceAdd, sto1, sto2, isL, cond_true, cond_false, List.drop_succ_cons, List.drop_zero, List.drop_nil])))
  refine VV.ret1 rfl ⟨?_, ?_, ?_⟩
  · show some (Value.int (gI u 1 2 + 1)) = _
    rw [hN1, nI_1]
  · refine ⟨⟨R.1.1, R.1.2.1, ?_, R.1.2.2.2⟩, R.2.1, fun i c hi hc => ?_, R.2.2.2⟩
    · show gI u 1 2 + 1 = nI (hnn h + 1)
      rw [hN1, nI_1]
    · have hi : i < hnn h + 1 := hi
      show upd (upd (upd (upd (upd (gA u (1 + 7)) _ _) _ _) _ _) _ _) _ _ (5 * i + c) = nI (updN (hN h) (hnn h) _ i c)
      simp only [upd_at, updN_at]
      by_cases ci : i = hnn h
      · subst ci
        rw [if_pos rfl]
        rcases c5 hc with rfl | rfl | rfl | rfl | rfl
        · rw [if_neg (by omega), if_neg (by omega), if_neg (by omega), if_neg (by omega), if_pos (by omega)]; rfl
        · rw [if_neg (by omega), if_neg (by omega), if_neg (by omega), if_pos rfl]; rfl
        · rw [if_neg (by omega), if_neg (by omega), if_pos rfl]; rfl
        · rw [if_neg (by omega), if_pos rfl]; rfl
        · rw [if_pos rfl]; rfl
      · rw [if_neg (by omega), if_neg (by omega), if_neg (by omega), if_neg (by omega), if_neg (by omega), if_neg ci]
        exact R.2.2.1 i c (by omega) hc
  · exact ((((((Agr.rf).A (by decide)).A (by decide)).A (by decide)).A (by decide)).A (by decide)).I (by decide)
/-- the past: a row is written -/
theorem kp_row (P ho us sl : Nat → Int32) (e : Int32) (r : Nat) : (∀ j, j < r → upd (va_cpy sl (va_cpy us (va_cpy ho P 0 r 6) 0 (r + 6) 6) 0 (r + 12) 6) (r + 18) e j = P j) ∧ (∀ v, v < 6 → upd (va_cpy sl (va_cpy us (va_cpy ho P 0 r 6) 0 (r + 6) 6) 0 (r + 12) 6) (r + 18) e (r + v) = ho v ∧ upd (va_cpy sl (va_cpy us (va_cpy ho P 0 r 6) 0 (r + 6) 6) 0 (r + 12) 6) (r + 18) e (r + 6 + v) = us v ∧ upd (va_cpy sl (va_cpy us (va_cpy ho P 0 r 6) 0 (r + 6) 6) 0 (r + 12) 6) (r + 18) e (r + 12 + v) = sl v) ∧ upd (va_cpy sl (va_cpy us (va_cpy ho P 0 r 6) 0 (r + 6) 6) 0 (r + 12) 6) (r + 18) e (r + 18) = e := by
  refine ⟨fun j hj => ?_, fun v hv => ⟨?_, ?_, ?_⟩, ?_⟩
  · rw [upd_at, if_neg (by omega), pk_cpy_out (by omega), pk_cpy_out (by omega), pk_cpy_out (by omega)]
  · rw [upd_at, if_neg (by omega), pk_cpy_out (by omega), pk_cpy_out (by omega), pk_cpy_in (by omega) (by omega)]
    congr 1; omega
  · rw [upd_at, if_neg (by omega), pk_cpy_out (by omega), pk_cpy_in (by omega) (by omega)]
    congr 1; omega
  · rw [upd_at, if_neg (by omega), pk_cpy_in (by omega) (by omega)]
    congr 1; omega
  · rw [upd_at, if_pos rfl]
/-- the row k of the past behind it -/
def kpF {α : Type} (un : Nat) (f : Nat → α) (x : α) : Nat → α := fun k => if un = 8 then (if k < 7 then f (k + 1) else x) else (if k < un then f k else x)
def hKp (h : Hs) : Hs := ((hn h, hev h, hnn h, if hun h = 8 then 8 else hun h + 1), h.2.1, hN h, (kpF (hun h) (hPh h) (hho h), kpF (hun h) (hPu h) (hus h), kpF (hun h) (hPs h) (hsl h), kpF (hun h) (hPe h) (hev h)))
theorem goodKp {h : Hs} (G : GoodH h) : GoodH (hKp h) := by
  have h8 := G.1.2.2.2
  refine ⟨⟨G.1.1, G.1.2.1, G.1.2.2.1, by show (if hun h = 8 then 8 else hun h + 1) ≤ 8; split <;> omega⟩, G.2.1, G.2.2.1, G.2.2.2.1, fun k hk => ?_⟩
  have hk : k < if hun h = 8 then 8 else hun h + 1 := hk
  show kpF (hun h) (hPe h) (hev h) k ≤ 999 ∧ GoodW (hn h) (kpF (hun h) (hPh h) (hho h) k) (kpF (hun h) (hPu h) (hus h) k) (kpF (hun h) (hPe h) (hev h) k)
  unfold kpF
  by_cases c : hun h = 8
  · simp only [if_pos c]
    by_cases d : k < 7
    · simp only [if_pos d]
      exact G.2.2.2.2 (k + 1) (by omega)
    · simp only [if_neg d]
      exact ⟨G.1.2.1, G.2.2.1⟩
  · simp only [if_neg c]
    rw [if_neg c] at hk
    by_cases d : k < hun h
    · simp only [if_pos d]
      exact G.2.2.2.2 k d
    · simp only [if_neg d]
      exact ⟨G.1.2.1, G.2.2.1⟩
theorem mul19 (i : Nat) : nI i * 19 = nI (19 * i) := by
  have e : (19 : Int32) = nI 19 := rfl
  rw [e, pk_mul, Nat.mul_comm]
set_option maxHeartbeats 8000000 in
theorem e_keepPast_row {u : Sg} {h : Hs} {n : Nat} (hn7 : n < 8) (hN : gI u 1 3 = nI n) {Q : Option Value → Sg → Prop} {d : Option Value}
    (K : ∀ t, Agr (offH 1) u t → gI t 1 0 = gI u 1 0 → gI t 1 1 = gI u 1 1 → gI t 1 2 = gI u 1 2 → gI t 1 3 = nI (n + 1) → (∀ k, k ≤ 8 → gA t k = gA u k) → gA t (1 + 8) = upd (va_cpy (gA u (1 + 6)) (va_cpy (gA u (1 + 5)) (va_cpy (gA u (1 + 4)) (gA u (1 + 8)) 0 (19 * n) 6) 0 (19 * n + 6) 6) 0 (19 * n + 12) 6) (19 * n + 18) (gI u 1 1) → Q none t) : V 8 (32, [some (.ref 1), d], [], u) Q := by
  have e1 : nI (19 * n) + 6 = nI (19 * n + 6) := add_nI _ 6
  have e2 : nI (19 * n) + 12 = nI (19 * n + 12) := add_nI _ 12
  have e3 : nI (19 * n) + 18 = nI (19 * n + 18) := add_nI _ 18
  ((repeat refine VV.s rfl rfl ?_); (try (conv => arg 3; simp only [Nat.reduceAdd, sto1, sto2, isL, cond_true, cond_false, List.drop_succ_cons, List.drop_zero, List.drop_nil])))
  rw [hN, mul19]
  refine VV.copy (sp := 0) (dp := 19 * n) (n := 6) rfl rfl rfl rfl rfl (by decide) (show 19 * n + 6 ≤ 152 by omega) (by decide) (by decide) ?_
  ((repeat refine VV.s rfl rfl ?_); (try (conv => arg 3; simp only [Nat.reduceAdd, sto1, sto2, isL, cond_true, cond_false, List.drop_succ_cons, List.drop_zero, List.drop_nil])))
  rw [e1]
  refine VV.copy (sp := 0) (dp := 19 * n + 6) (n := 6) rfl rfl rfl rfl rfl (by decide) (show 19 * n + 6 + 6 ≤ 152 by omega) (by decide) (by decide) ?_
  ((repeat refine VV.s rfl rfl ?_); (try (conv => arg 3; simp only [Nat.reduceAdd, sto1, sto2, isL, cond_true, cond_false, List.drop_succ_cons, List.drop_zero, List.drop_nil])))
  rw [e2]
  refine VV.copy (sp := 0) (dp := 19 * n + 12) (n := 6) rfl rfl rfl rfl rfl (by decide) (show 19 * n + 12 + 6 ≤ 152 by omega) (by decide) (by decide) ?_
  ((repeat refine VV.s rfl rfl ?_); (try (conv => arg 3; simp only [Nat.reduceAdd, sto1, sto2, isL, cond_true, cond_false, List.drop_succ_cons, List.drop_zero, List.drop_nil])))
  rw [e3]
  refine VV.iast rfl rfl rfl (show 19 * n + 18 < 152 by omega) (by decide) ?_
  ((repeat refine VV.s rfl rfl ?_); (try (conv => arg 3; simp only [Nat.reduceAdd, sto1, sto2, isL, cond_true, cond_false, List.drop_succ_cons, List.drop_zero, List.drop_nil])))
  refine VV.ret0 rfl (K _ (((((Agr.rf).A (by decide)).A (by decide)).A (by decide)).A (by decide) |>.I (by decide)) rfl rfl rfl ?_ (fun k hk => ?_) ?_)
  · show gI u 1 3 + 1 = nI (n + 1)
    rw [hN, nI_1]
  · simp only [gA_pA, gA_pI]
    rw [if_neg (by omega), if_neg (by omega), if_neg (by omega), if_neg (by omega)]
  · rfl
set_option maxHeartbeats 4000000 in
theorem e_keepPast {u : Sg} {h : Hs} (R : HRep u 1 h) (G : GoodH h) : V 8 (0, [some (.ref 1), none], [], u) (fun r t => r = none ∧ HRep t 1 (hKp h) ∧ Agr (offH 1) u t) := by
  have h6 := G.1.1
  have h8 := G.1.2.2.2
  have hU := R.1.2.2.2
  ((repeat refine VV.s rfl rfl ?_); (try (conv => arg 3; simp only [Nat.reduceAdd, sto1, sto2, isL, cond_true, cond_false, List.drop_succ_cons, List.drop_zero, List.drop_nil])))
  rw [hU]
  refine VV.ite (fun q => ?_) (fun q => ?_)
  · have q : nI (hun h) < nI 8 := q
    rw [lt_nI (by omega) (by omega)] at q
    refine e_keepPast_row (h := h) q hU (fun t A i0 i1 i2 i3 ga g9 => ⟨rfl, ?_, A⟩)
    have row := kp_row (gA u (1 + 8)) (gA u (1 + 4)) (gA u (1 + 5)) (gA u (1 + 6)) (gI u 1 1) (19 * hun h)
    rw [← g9] at row
    refine ⟨⟨i0.trans R.1.1, i1.trans R.1.2.1, i2.trans R.1.2.2.1, ?_⟩, fun v hv => ?_, fun i c hi hc => ?_, fun k hk => ?_⟩
    · show gI t 1 3 = nI (if hun h = 8 then 8 else hun h + 1)
      rw [i3, if_neg (by omega)]
    · rw [ga _ (by omega), ga _ (by omega), ga _ (by omega), ga _ (by omega), ga _ (by omega), ga _ (by omega)]
      exact R.2.1 v hv
    · rw [ga _ (by omega)]
      exact R.2.2.1 i c hi hc
    · have hk : k < if hun h = 8 then 8 else hun h + 1 := hk
      rw [if_neg (by omega)] at hk
      show gA t (1 + 8) (19 * k + 18) = nI (kpF (hun h) (hPe h) (hev h) k) ∧ ∀ v, v < hn h → gA t (1 + 8) (19 * k + v) = cI (kpF (hun h) (hPh h) (hho h) k v) ∧ gA t (1 + 8) (19 * k + 6 + v) = nI (kpF (hun h) (hPu h) (hus h) k v) ∧ gA t (1 + 8) (19 * k + 12 + v) = kpF (hun h) (hPs h) (hsl h) k v
      unfold kpF
      simp only [if_neg (show ¬ hun h = 8 by omega)]
      by_cases c : k < hun h
      · simp only [if_pos c]
        obtain ⟨p1, p2⟩ := R.2.2.2 k c
        refine ⟨by rw [row.1 _ (by omega)]; exact p1, fun v hv => ?_⟩
        rw [row.1 _ (by omega), row.1 _ (by omega), row.1 _ (by omega)]
        exact p2 v hv
      · simp only [if_neg c]
        have hk2 : k = hun h := by omega
        rw [hk2]
        refine ⟨by rw [row.2.2]; exact R.1.2.1, fun v hv => ?_⟩
        obtain ⟨p1, p2, p3⟩ := row.2.1 v (by omega)
        rw [p1, p2, p3]
        exact (R.2.1 v hv).2.2.2
  · have q : ¬ nI (hun h) < nI 8 := q
    rw [lt_nI (by omega) (by omega)] at q
    have hu8 : hun h = 8 := by omega
    ((repeat (fail_if_success show VV _ _ (23, _, _, _) _); refine VV.s rfl rfl ?_); (try (conv => arg 3; simp only [Nat.reduceAdd, sto1, sto2, isL, cond_true, cond_false, List.drop_succ_cons, List.drop_zero, List.drop_nil])))
    refine VV.copy (sp := 19) (dp := 0) (n := 133) rfl rfl rfl rfl rfl (by decide) (by decide) (by decide) (by decide) ?_
    ((repeat (fail_if_success show VV _ _ (32, _, _, _) _); refine VV.s rfl rfl ?_); (try (conv => arg 3; simp only [Nat.reduceAdd, sto1, sto2, isL, cond_true, cond_false, List.drop_succ_cons, List.drop_zero, List.drop_nil])))
    refine e_keepPast_row (h := h) (n := 7) (by omega) rfl (fun t A i0 i1 i2 i3 ga g9 => ⟨rfl, ?_, ?_⟩)
    · have row := kp_row (gA (pI (pA u (1 + 8) (va_cpy (gA u (1 + 8)) (gA u (1 + 8)) 19 0 133)) 1 3 7) (1 + 8)) (gA u (1 + 4)) (gA u (1 + 5)) (gA u (1 + 6)) (gI u 1 1) (19 * 7)
      have g9 : gA t (1 + 8) = upd (va_cpy (gA u (1 + 6)) (va_cpy (gA u (1 + 5)) (va_cpy (gA u (1 + 4)) (gA (pI (pA u (1 + 8) (va_cpy (gA u (1 + 8)) (gA u (1 + 8)) 19 0 133)) 1 3 7) (1 + 8)) 0 (19 * 7) 6) 0 (19 * 7 + 6) 6) 0 (19 * 7 + 12) 6) (19 * 7 + 18) (gI u 1 1) := g9
      rw [← g9] at row
      have old : ∀ j, j < 133 → gA t (1 + 8) j = gA u (1 + 8) (j + 19) := fun j hj => by
        rw [row.1 j (by omega)]
        show va_cpy _ _ 19 0 133 j = _
        rw [pk_cpy_in (by omega) (by omega)]
        congr 1; omega
      have ga2 : ∀ k, k ≤ 8 → gA t k = gA u k := fun k hk => by
        rw [ga k hk]
        show (if k = 9 then _ else _) = _
        rw [if_neg (by omega)]
        rfl
      refine ⟨⟨i0.trans R.1.1, i1.trans R.1.2.1, i2.trans R.1.2.2.1, ?_⟩, fun v hv => ?_, fun i c hi hc => ?_, fun k hk => ?_⟩
      · show gI t 1 3 = nI (if hun h = 8 then 8 else hun h + 1)
        rw [i3, if_pos hu8]
      · rw [ga2 _ (by omega), ga2 _ (by omega), ga2 _ (by omega), ga2 _ (by omega), ga2 _ (by omega), ga2 _ (by omega)]
        exact R.2.1 v hv
      · rw [ga2 _ (by omega)]
        exact R.2.2.1 i c hi hc
      · have hk : k < if hun h = 8 then 8 else hun h + 1 := hk
        rw [if_pos hu8] at hk
        show gA t (1 + 8) (19 * k + 18) = nI (kpF (hun h) (hPe h) (hev h) k) ∧ ∀ v, v < hn h → gA t (1 + 8) (19 * k + v) = cI (kpF (hun h) (hPh h) (hho h) k v) ∧ gA t (1 + 8) (19 * k + 6 + v) = nI (kpF (hun h) (hPu h) (hus h) k v) ∧ gA t (1 + 8) (19 * k + 12 + v) = kpF (hun h) (hPs h) (hsl h) k v
        unfold kpF
        simp only [if_pos hu8]
        by_cases c : k < 7
        · simp only [if_pos c]
          obtain ⟨p1, p2⟩ := R.2.2.2 (k + 1) (by omega)
          refine ⟨by rw [old _ (by omega), ← p1]; congr 1, fun v hv => ?_⟩
          obtain ⟨q1, q2, q3⟩ := p2 v hv
          rw [old _ (by omega), old _ (by omega), old _ (by omega), ← q1, ← q2, ← q3]
          refine ⟨?_, ?_, ?_⟩ <;> congr 1 <;> omega
        · simp only [if_neg c]
          have hk2 : k = 7 := by omega
          rw [hk2]
          refine ⟨by rw [row.2.2]; exact R.1.2.1, fun v hv => ?_⟩
          obtain ⟨p1, p2, p3⟩ := row.2.1 v (by omega)
          rw [p1, p2, p3]
          exact (R.2.1 v hv).2.2.2
    · exact (((Agr.rf).A (by decide)).I (by decide)).tr A
