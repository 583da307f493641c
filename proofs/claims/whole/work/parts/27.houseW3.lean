/-! ===== a house of the class: back, an evening, lent or left, made like another ===== -/
def hBk (h : Hs) : Hs := ((hn h, hPe h (hun h - 1), hnn h, hun h - 1), (hkd h, hso h, hwa h, hPh h (hun h - 1), hPu h (hun h - 1), hPs h (hun h - 1)), h.2.2)
theorem goodBk {h : Hs} (G : GoodH h) (h0 : 0 < hun h) : GoodH (hBk h) := by
  have h8 := G.1.2.2.2
  have p := G.2.2.2.2 (hun h - 1) (by omega)
  exact ⟨⟨G.1.1, p.1, G.1.2.2.1, by show hun h - 1 ≤ 8; omega⟩, G.2.1, p.2, G.2.2.2.1, fun k hk => G.2.2.2.2 k (by have hk : k < hun h - 1 := hk; omega)⟩
set_option maxHeartbeats 4000000 in
theorem e_goBack {u : Sg} {h : Hs} (R : HRep u 1 h) (G : GoodH h) (h0 : 0 < hun h) : V 9 (0, [some (.ref 1), none], [], u) (fun r t => r = none ∧ HRep t 1 (hBk h) ∧ Agr (offH 1) u t) := by
  have h6 := G.1.1
  have h8 := G.1.2.2.2
  have hU := R.1.2.2.2
  obtain ⟨n, hnE⟩ : ∃ n, hun h = n + 1 := ⟨hun h - 1, by omega⟩
  have e0 : nI (hun h) - 1 = nI n := by rw [hnE]; exact nI_pred n
  have e1 : nI (19 * n) + 6 = nI (19 * n + 6) := add_nI _ 6
  have e2 : nI (19 * n) + 12 = nI (19 * n + 12) := add_nI _ 12
  have e3 : nI (19 * n) + 18 = nI (19 * n + 18) := add_nI _ 18
  ((repeat refine VV.s rfl rfl ?_); (try (conv => arg 3; simp only [Nat.reduceAdd, sto1, sto2, isL, cond_true, cond_false, List.drop_succ_cons, List.drop_zero, List.drop_nil])))
  rw [hU]
  refine VV.itt (nI_lt (a := 0) h0 (by omega)) ?_
  ((repeat refine VV.s rfl rfl ?_); (try (conv => arg 3; simp only [Nat.reduceAdd, sto1, sto2, isL, cond_true, cond_false, List.drop_succ_cons, List.drop_zero, List.drop_nil])))
  rw [show gI (pI u 1 3 (gI u 1 3 - 1)) 1 3 = nI n from by show gI u 1 3 - 1 = _; rw [hU, e0], mul19]
  refine VV.copy (sp := 19 * n) (dp := 0) (n := 6) rfl rfl rfl rfl rfl (show 19 * n + 6 ≤ 152 by omega) (by decide) (by decide) (by decide) ?_
  ((repeat refine VV.s rfl rfl ?_); (try (conv => arg 3; simp only [Nat.reduceAdd, sto1, sto2, isL, cond_true, cond_false, List.drop_succ_cons, List.drop_zero, List.drop_nil])))
  rw [e1]
  refine VV.copy (sp := 19 * n + 6) (dp := 0) (n := 6) rfl rfl rfl rfl rfl (show 19 * n + 6 + 6 ≤ 152 by omega) (by decide) (by decide) (by decide) ?_
  ((repeat refine VV.s rfl rfl ?_); (try (conv => arg 3; simp only [Nat.reduceAdd, sto1, sto2, isL, cond_true, cond_false, List.drop_succ_cons, List.drop_zero, List.drop_nil])))
  rw [e2]
  refine VV.copy (sp := 19 * n + 12) (dp := 0) (n := 6) rfl rfl rfl rfl rfl (show 19 * n + 12 + 6 ≤ 152 by omega) (by decide) (by decide) (by decide) ?_
  ((repeat refine VV.s rfl rfl ?_); (try (conv => arg 3; simp only [Nat.reduceAdd, sto1, sto2, isL, cond_true, cond_false, List.drop_succ_cons, List.drop_zero, List.drop_nil])))
  rw [e3]
  refine VV.iald rfl rfl rfl (show 19 * n + 18 < 152 by omega) (by decide) ?_
  ((repeat refine VV.s rfl rfl ?_); (try (conv => arg 3; simp only [Nat.reduceAdd, sto1, sto2, isL, cond_true, cond_false, List.drop_succ_cons, List.drop_zero, List.drop_nil])))
  refine VV.ret0 rfl ⟨rfl, ?_, ?_⟩
  · obtain ⟨p1, p2⟩ := R.2.2.2 n (by omega)
    have en : hun h - 1 = n := by omega
    refine ⟨⟨R.1.1, ?_, R.1.2.2.1, ?_⟩, fun v hv => ?_, R.2.2.1, fun k hk => ?_⟩
    · show gA u (1 + 8) (19 * n + 18) = nI (hPe h (hun h - 1))
      rw [en]; exact p1
    · show gI u 1 3 - 1 = nI (hun h - 1)
      rw [hU, e0, en]
    · have hv : v < hn h := hv
      have hv6 : v < 6 := Nat.lt_of_lt_of_le hv h6
      obtain ⟨r1, r2, r3, -⟩ := R.2.1 v hv
      obtain ⟨q1, q2, q3⟩ := p2 v hv
      refine ⟨r1, r2, r3, ?_, ?_, ?_⟩
      · show va_cpy (gA u (1 + 8)) _ (19 * n) 0 6 v = cI (hPh h (hun h - 1) v)
        rw [pk_cpy_in (by omega) (by omega), en, ← q1]; congr 1
      · show va_cpy (gA u (1 + 8)) _ (19 * n + 6) 0 6 v = nI (hPu h (hun h - 1) v)
        rw [pk_cpy_in (by omega) (by omega), en, ← q2]; congr 1
      · show va_cpy (gA u (1 + 8)) _ (19 * n + 12) 0 6 v = hPs h (hun h - 1) v
        rw [pk_cpy_in (by omega) (by omega), en, ← q3]; congr 1
    · exact R.2.2.2 k (by have hk : k < hun h - 1 := hk; omega)
  · exact (((((Agr.rf).I (by decide)).A (by decide)).A (by decide)).A (by decide)).I (by decide)
/-- an evening -/
def evU (h : Hs) (v : Nat) : Nat := if hho h v = 0 then hus h v else hus h v + 1
def evS (h : Hs) (v : Nat) : Int32 := if hho h v = 0 ∨ hho h v = v + 1 then hsl h v else hsl h v + nI (wdN (hkd h v) (hus h v))
def evT (h : Hs) : Nat → Nat → Int32 → Int32
  | 0, _, a => a
  | k + 1, i, a => evT h k (i + 1) (if hho h i = 0 ∨ hho h i = i + 1 then a else a + nI (wdN (hkd h i) (hus h i)))
def hEv (h : Hs) : Hs := if hev h < 999 then hE h (hev h + 1) (hho h) (evU h) (evS h) else h
def evW (h : Hs) : Int32 := if hev h < 999 then evT h (hn h) 0 0 else 0
theorem goodEv {h : Hs} (G : GoodH h) : GoodH (hEv h) := by
  unfold hEv
  split
  · refine ⟨⟨G.1.1, by show hev h + 1 ≤ 999; omega, G.1.2.2⟩, G.2.1, ⟨fun v hv => ?_, G.2.2.1.2⟩, G.2.2.2.1, G.2.2.2.2⟩
    have := G.2.2.1.1 v hv
    refine ⟨this.1, ?_⟩
    show evU h v ≤ hev h + 1
    unfold evU
    split <;> omega
  · exact G
theorem hEv_n (h : Hs) : hn (hEv h) = hn h := by unfold hEv; split <;> rfl
/-- the evening has come as far as voice i -/
def hMi (h : Hs) (i : Nat) : Hs := hE h (hev h) (hho h) (fun x => if x < i then evU h x else hus h x) (fun x => if x < i then evS h x else hsl h x)
theorem evNx {t t2 : Sg} {b : Nat} {h : Hs} {i : Nat} (R : HRep t b (hMi h i)) (gi : ∀ j, gI t2 b j = gI t b j) (ga : ∀ c, c ≠ 5 → c ≠ 6 → gA t2 (b + c) = gA t (b + c)) (g5 : ∀ x, gA t2 (b + 5) x = if x = i then nI (evU h i) else gA t (b + 5) x) (g6 : ∀ x, gA t2 (b + 6) x = if x = i then evS h i else gA t (b + 6) x) : HRep t2 b (hMi h (i + 1)) := by
  refine ⟨⟨by rw [gi]; exact R.1.1, by rw [gi]; exact R.1.2.1, by rw [gi]; exact R.1.2.2.1, by rw [gi]; exact R.1.2.2.2⟩, fun v hv => ?_, fun i c hi hc => by rw [ga 7 (by omega) (by omega)]; exact R.2.2.1 i c hi hc, fun k hk => by rw [ga 8 (by omega) (by omega)]; exact R.2.2.2 k hk⟩
  obtain ⟨q1, q2, q3, q4, q5, q6⟩ := R.2.1 v hv
  rw [ga 1 (by omega) (by omega), ga 2 (by omega) (by omega), ga 3 (by omega) (by omega), ga 4 (by omega) (by omega), g5, g6]
  refine ⟨q1, q2, q3, q4, ?_, ?_⟩
  · show _ = nI (if v < i + 1 then evU h v else hus h v)
    by_cases c : v = i
    · rw [if_pos c, if_pos (by omega), c]
    · rw [if_neg c, q5]
      show nI (if v < i then evU h v else hus h v) = _
      by_cases c2 : v < i
      · rw [if_pos c2, if_pos (by omega)]
      · rw [if_neg c2, if_neg (by omega)]
  · show _ = (if v < i + 1 then evS h v else hsl h v)
    by_cases c : v = i
    · rw [if_pos c, if_pos (by omega), c]
    · rw [if_neg c, q6]
      show (if v < i then evS h v else hsl h v) = _
      by_cases c2 : v < i
      · rw [if_pos c2, if_pos (by omega)]
      · rw [if_neg c2, if_neg (by omega)]
set_option maxHeartbeats 8000000 in
theorem e_evening_loop {b : Nat} (hb : b = 1 ∨ b = 10) {u : Sg} {h : Hs} (G : GoodH h) (h9 : hev h < 999) : ∀ k i a d t, i + k = hn h → HRep t b (hMi h i) → Agr (offH b) u t → V 7 (16, [some (.ref b), some (.int a), some (.int (nI i)), d], [], t) (fun r t => r = some (.int (evT h k i a)) ∧ HRep t b (hE h (hev h + 1) (hho h) (evU h) (evS h)) ∧ Agr (offH b) u t) := by
  have h6 := G.1.1
  have hs := fun t v x hx h6 hx6 => e_isWithAnother (u := t) (v := v) (x := x) hb hx h6 hx6
  rcases hb with rfl | rfl
  all_goals
    intro k
    induction k with
    | zero =>
      intro i a d t hi R A
      have hN : gI t _ 0 = nI (hn h) := R.1.1
      ((repeat refine VV.s rfl rfl ?_); (try (conv => arg 3; simp only [Nat.reduceAdd, sto1, sto2, isL, cond_true, cond_false, List.drop_succ_cons, List.drop_zero, List.drop_nil])))
      refine VV.itt (by rw [hN]; exact nI_le (by omega) (by omega)) ?_
      ((repeat refine VV.s rfl rfl ?_); (try (conv => arg 3; simp only [Nat.reduceAdd, sto1, sto2, isL, cond_true, cond_false, List.drop_succ_cons, List.drop_zero, List.drop_nil])))
      refine VV.ret1 rfl ⟨rfl, ?_, A.I (by decide)⟩
      refine HRep.setE (u := t) (h := hMi h i) R rfl ?_ rfl rfl rfl rfl rfl (fun v hv => (R.2.1 v hv).2.2.2.1) (fun v hv => ?_) (fun v hv => ?_) rfl rfl
      · show gI t _ 1 + 1 = nI (hev h + 1)
        rw [R.1.2.1, nI_1]; rfl
      · have hv : v < hn h := hv
        have := (R.2.1 v hv).2.2.2.2.1
        have e : hus (hMi h i) v = evU h v := if_pos (by omega)
        rw [e] at this
        exact this
      · have hv : v < hn h := hv
        have := (R.2.1 v hv).2.2.2.2.2
        have e : hsl (hMi h i) v = evS h v := if_pos (by omega)
        rw [e] at this
        exact this
    | succ k ih =>
      intro i a d t hi R A
      have hN : gI t _ 0 = nI (hn h) := R.1.1
      obtain ⟨r1, r2, r3, r4, r5, r6⟩ := R.2.1 i (show i < hn h by omega)
      have r1 : gA t _ i = nI (hkd h i) := r1
      have r4 : gA t _ i = cI (hho h i) := r4
      have r5 : gA t _ i = nI (hus h i) := r5.trans (congrArg nI (if_neg (Nat.lt_irrefl i)))
      have r6 : gA t _ i = hsl h i := r6.trans (if_neg (Nat.lt_irrefl i))
      obtain ⟨g1, -⟩ := G.2.1 i (show i < hn h by omega)
      obtain ⟨g4, g5⟩ := G.2.2.1.1 i (show i < hn h by omega)
      ((repeat refine VV.s rfl rfl ?_); (try (conv => arg 3; simp only [Nat.reduceAdd, sto1, sto2, isL, cond_true, cond_false, List.drop_succ_cons, List.drop_zero, List.drop_nil])))
      refine VV.itf (by rw [hN]; exact nI_ge (by omega) (by omega)) ?_
      ((repeat refine VV.s rfl rfl ?_); (try (conv => arg 3; simp only [Nat.reduceAdd, sto1, sto2, isL, cond_true, cond_false, List.drop_succ_cons, List.drop_zero, List.drop_nil])))
      refine VV.callE rfl rfl rfl rfl (hs t i (hho h i) r4 (by omega) (by omega)) rfl ?_
      ((repeat refine VV.s rfl rfl ?_); (try (conv => arg 3; simp only [Nat.reduceAdd, sto1, sto2, isL, cond_true, cond_false, List.drop_succ_cons, List.drop_zero, List.drop_nil])))
      rw [evT]
      by_cases c : hho h i = 0 ∨ hho h i = i + 1
      · rw [if_pos c, if_pos c]
        refine VV.itt rfl ?_
        ((repeat refine VV.s rfl rfl ?_); (try (conv => arg 3; simp only [Nat.reduceAdd, sto1, sto2, isL, cond_true, cond_false, List.drop_succ_cons, List.drop_zero, List.drop_nil])))
        refine VV.iald rfl rfl rfl (show i < 6 by omega) (by decide) ?_
        ((repeat refine VV.s rfl rfl ?_); (try (conv => arg 3; simp only [Nat.reduceAdd, sto1, sto2, isL, cond_true, cond_false, List.drop_succ_cons, List.drop_zero, List.drop_nil])))
        rw [r4]
        have es : evS h i = hsl h i := if_pos c
        by_cases c0 : hho h i = 0
        · rw [c0]
          refine VV.itt cI_0 ?_
          ((repeat (fail_if_success show VV _ _ (16, _, _, _) _); refine VV.s rfl rfl ?_); (try (conv => arg 3; simp only [Nat.reduceAdd, sto1, sto2, isL, cond_true, cond_false, List.drop_succ_cons, List.drop_zero, List.drop_nil])))
          rw [nI_1]
          have eu : evU h i = hus h i := if_pos c0
          refine ih (i + 1) a _ t (by omega) (evNx R (t2 := t) (fun _ => rfl) (fun _ _ _ => rfl) (fun x => ?_) (fun x => ?_)) A
          · by_cases cx : x = i
            · rw [if_pos cx, eu, cx]; exact r5
            · rw [if_neg cx]
          · by_cases cx : x = i
            · rw [if_pos cx, es, cx]; exact r6
            · rw [if_neg cx]
        · refine VV.itf (fun z => c0 ((cI_none (by omega)).mp z)) ?_
          ((repeat refine VV.s rfl rfl ?_); (try (conv => arg 3; simp only [Nat.reduceAdd, sto1, sto2, isL, cond_true, cond_false, List.drop_succ_cons, List.drop_zero, List.drop_nil])))
          refine VV.iald rfl rfl rfl (show i < 6 by omega) (by decide) ?_
          ((repeat refine VV.s rfl rfl ?_); (try (conv => arg 3; simp only [Nat.reduceAdd, sto1, sto2, isL, cond_true, cond_false, List.drop_succ_cons, List.drop_zero, List.drop_nil])))
          refine VV.iast rfl rfl rfl (show i < 6 by omega) (by decide) ?_
          ((repeat (fail_if_success show VV _ _ (16, _, _, _) _); refine VV.s rfl rfl ?_); (try (conv => arg 3; simp only [Nat.reduceAdd, sto1, sto2, isL, cond_true, cond_false, List.drop_succ_cons, List.drop_zero, List.drop_nil])))
          rw [nI_1]
          have eu : evU h i = hus h i + 1 := if_neg c0
          refine ih (i + 1) a _ _ (by omega) (evNx R (fun _ => rfl) (fun j h5 h6 => ?_) (fun x => ?_) (fun x => ?_)) (A.A (by decide))
          · rw [gA_pA, if_neg (by omega)]
          · show upd _ i _ x = _
            rw [upd_at, r5, eu, nI_1]
          · by_cases cx : x = i
            · rw [if_pos cx, es, cx]; exact r6
            · rw [if_neg cx]; rfl
      · rw [if_neg c, if_neg c]
        refine VV.itf (by decide) ?_
        ((repeat refine VV.s rfl rfl ?_); (try (conv => arg 3; simp only [Nat.reduceAdd, sto1, sto2, isL, cond_true, cond_false, List.drop_succ_cons, List.drop_zero, List.drop_nil])))
        refine VV.iald rfl rfl rfl (show i < 6 by omega) (by decide) ?_
        ((repeat refine VV.s rfl rfl ?_); (try (conv => arg 3; simp only [Nat.reduceAdd, sto1, sto2, isL, cond_true, cond_false, List.drop_succ_cons, List.drop_zero, List.drop_nil])))
        refine VV.iald rfl rfl rfl (show i < 6 by omega) (by decide) ?_
        rw [r1, r5]
        refine VV.callE rfl rfl rfl rfl (e_words g1 (by omega)) rfl ?_
        ((repeat refine VV.s rfl rfl ?_); (try (conv => arg 3; simp only [Nat.reduceAdd, sto1, sto2, isL, cond_true, cond_false, List.drop_succ_cons, List.drop_zero, List.drop_nil])))
        refine VV.iald rfl rfl rfl (show i < 6 by omega) (by decide) ?_
        ((repeat refine VV.s rfl rfl ?_); (try (conv => arg 3; simp only [Nat.reduceAdd, sto1, sto2, isL, cond_true, cond_false, List.drop_succ_cons, List.drop_zero, List.drop_nil])))
        refine VV.iast rfl rfl rfl (show i < 6 by omega) (by decide) ?_
        ((repeat refine VV.s rfl rfl ?_); (try (conv => arg 3; simp only [Nat.reduceAdd, sto1, sto2, isL, cond_true, cond_false, List.drop_succ_cons, List.drop_zero, List.drop_nil])))
        refine VV.iald rfl rfl rfl (show i < 6 by omega) (by decide) ?_
        ((repeat refine VV.s rfl rfl ?_); (try (conv => arg 3; simp only [Nat.reduceAdd, sto1, sto2, isL, cond_true, cond_false, List.drop_succ_cons, List.drop_zero, List.drop_nil])))
        have c0 : ¬ hho h i = 0 := fun z => c (Or.inl z)
        refine VV.itf (fun z => c0 ((cI_none (by omega)).mp (r4.symm.trans z))) ?_
        ((repeat refine VV.s rfl rfl ?_); (try (conv => arg 3; simp only [Nat.reduceAdd, sto1, sto2, isL, cond_true, cond_false, List.drop_succ_cons, List.drop_zero, List.drop_nil])))
        refine VV.iald rfl rfl rfl (show i < 6 by omega) (by decide) ?_
        ((repeat refine VV.s rfl rfl ?_); (try (conv => arg 3; simp only [Nat.reduceAdd, sto1, sto2, isL, cond_true, cond_false, List.drop_succ_cons, List.drop_zero, List.drop_nil])))
        refine VV.iast rfl rfl rfl (show i < 6 by omega) (by decide) ?_
        ((repeat (fail_if_success show VV _ _ (16, _, _, _) _); refine VV.s rfl rfl ?_); (try (conv => arg 3; simp only [Nat.reduceAdd, sto1, sto2, isL, cond_true, cond_false, List.drop_succ_cons, List.drop_zero, List.drop_nil])))
        rw [nI_1]
        have eu : evU h i = hus h i + 1 := if_neg c0
        have es : evS h i = hsl h i + nI (wdN (hkd h i) (hus h i)) := if_neg c
        refine ih (i + 1) _ _ _ (by omega) (evNx R (fun _ => rfl) (fun j h5 h6 => ?_) (fun x => ?_) (fun x => ?_)) ((A.A (by decide)).A (by decide))
        · rw [gA_pA, if_neg (by omega), gA_pA, if_neg (by omega)]
        · show upd _ i _ x = _
          rw [upd_at, eu, ← nI_1, ← r5]
          rfl
        · show upd _ i _ x = _
          rw [upd_at, r6, es]
theorem hMi_0 (h : Hs) : hMi h 0 = h := rfl
set_option maxHeartbeats 4000000 in
theorem e_goOneEvening {b : Nat} (hb : b = 1 ∨ b = 10) {u : Sg} {h : Hs} (R : HRep u b h) (G : GoodH h) : V 7 (0, [some (.ref b), none, none, none], [], u) (fun r t => r = some (.int (evW h)) ∧ HRep t b (hEv h) ∧ Agr (offH b) u t) := by
  have hE := R.1.2.1
  have h999 := G.1.2.1
  have lp := fun h9 => e_evening_loop hb (u := u) G h9 (hn h) 0 0 none u (by omega) R Agr.rf
  unfold evW hEv
  rcases hb with rfl | rfl
  all_goals
    ((repeat refine VV.s rfl rfl ?_); (try (conv => arg 3; simp only [Nat.reduceAdd, sto1, sto2, isL, cond_true, cond_false, List.drop_succ_cons, List.drop_zero, List.drop_nil])))
    rw [hE]
    refine VV.ite (fun q => ?_) (fun q => ?_)
    · have q : nI (hev h) < nI 999 := q
      rw [lt_nI (by omega) (by omega)] at q
      ((repeat (fail_if_success show VV _ _ (16, _, _, _) _); refine VV.s rfl rfl ?_); (try (conv => arg 3; simp only [Nat.reduceAdd, sto1, sto2, isL, cond_true, cond_false, List.drop_succ_cons, List.drop_zero, List.drop_nil])))
      rw [if_pos q, if_pos q]
      exact lp q
    · have q : ¬ nI (hev h) < nI 999 := q
      rw [lt_nI (by omega) (by omega)] at q
      ((repeat refine VV.s rfl rfl ?_); (try (conv => arg 3; simp only [Nat.reduceAdd, sto1, sto2, isL, cond_true, cond_false, List.drop_succ_cons, List.drop_zero, List.drop_nil])))
      rw [if_neg q, if_neg q]
      exact VV.ret1 rfl ⟨rfl, R, Agr.rf⟩
def hLL (h : Hs) (v p : Nat) : Hs := if hho h v = 0 then hGv h v p else match voH h p with
  | 0 => h
  | w + 1 => hLv h w
theorem goodLL {h : Hs} (G : GoodH h) {v p : Nat} (hv : v < hn h) (hp : p < hn h) : GoodH (hLL h v p) := by
  unfold hLL
  split
  · exact goodGv G hv hp
  · rcases voH_spec h p with ⟨h1, -⟩ | ⟨w, hw, h1, -⟩
    · rw [h1]; exact G
    · rw [h1]; exact goodLv G hw
theorem hGv_n (h : Hs) (v p : Nat) : hn (hGv h v p) = hn h := by unfold hGv; split <;> rfl
theorem hLL_n (h : Hs) (v p : Nat) : hn (hLL h v p) = hn h := by
  unfold hLL
  split
  · exact hGv_n h v p
  · split <;> rfl
set_option maxHeartbeats 4000000 in
theorem e_lendOrLeave {u : Sg} {h : Hs} (R : HRep u 10 h) (G : GoodH h) {v p : Nat} (hv : v < hn h) (hp : p < hn h) : V 24 (0, [some (.ref 10), some (.int (nI v)), some (.int (nI p)), none], [], u) (fun r t => r = none ∧ HRep t 10 (hLL h v p) ∧ Agr (offH 10) u t) := by
  have h6 := G.1.1
  have r4 := (R.2.1 v hv).2.2.2.1
  have g4 := (G.2.2.1.1 v hv).1
  ((repeat refine VV.s rfl rfl ?_); (try (conv => arg 3; simp only [Nat.reduceAdd, sto1, sto2, isL, cond_true, cond_false, List.drop_succ_cons, List.drop_zero, List.drop_nil])))
  refine VV.iald rfl rfl rfl (show v < 6 by omega) (by decide) ?_
  ((repeat refine VV.s rfl rfl ?_); (try (conv => arg 3; simp only [Nat.reduceAdd, sto1, sto2, isL, cond_true, cond_false, List.drop_succ_cons, List.drop_zero, List.drop_nil])))
  rw [r4]
  unfold hLL
  refine VV.ite (fun q => ?_) (fun q => ?_)
  · rw [cI_none (by omega)] at q
    rw [if_neg q]
    ((repeat refine VV.s rfl rfl ?_); (try (conv => arg 3; simp only [Nat.reduceAdd, sto1, sto2, isL, cond_true, cond_false, List.drop_succ_cons, List.drop_zero, List.drop_nil])))
    refine VV.callE rfl rfl rfl rfl (e_voiceWith (Or.inr rfl) R G (p := p) (by omega)) rfl ?_
    ((repeat refine VV.s rfl rfl ?_); (try (conv => arg 3; simp only [Nat.reduceAdd, sto1, sto2, isL, cond_true, cond_false, List.drop_succ_cons, List.drop_zero, List.drop_nil])))
    rcases voH_spec h p with ⟨h1, -⟩ | ⟨w, hw, h1, -⟩
    · rw [h1]
      refine VV.itt cI_0 ?_
      exact VV.ret0 rfl ⟨rfl, R, Agr.rf⟩
    · rw [h1, cI_s]
      refine VV.itf (nI_ne1 (by omega)) ?_
      ((repeat refine VV.s rfl rfl ?_); (try (conv => arg 3; simp only [Nat.reduceAdd, sto1, sto2, isL, cond_true, cond_false, List.drop_succ_cons, List.drop_zero, List.drop_nil])))
      refine VV.call rfl rfl rfl rfl (e_putDown (Or.inr rfl) R G (v := w) hw) (fun r t q => ?_)
      obtain ⟨rfl, R2, A2⟩ := q
      exact VV.ret0 rfl ⟨rfl, R2, A2⟩
  · rw [cI_none (by omega)] at q
    rw [if_pos (Classical.not_not.mp q)]
    ((repeat refine VV.s rfl rfl ?_); (try (conv => arg 3; simp only [Nat.reduceAdd, sto1, sto2, isL, cond_true, cond_false, List.drop_succ_cons, List.drop_zero, List.drop_nil])))
    refine VV.call rfl rfl rfl rfl (e_give (Or.inr rfl) R G hv hp) (fun r t q => ?_)
    obtain ⟨rfl, R2, A2⟩ := q
    ((repeat refine VV.s rfl rfl ?_); (try (conv => arg 3; simp only [Nat.reduceAdd, sto1, sto2, isL, cond_true, cond_false, List.drop_succ_cons, List.drop_zero, List.drop_nil])))
    exact VV.ret0 rfl ⟨rfl, R2, A2⟩
/-- one house is made like another -/
theorem cpy_all {f g : Nat → Int32} {n v : Nat} (h : v < n) : va_cpy f g 0 0 n v = f v := by
  rw [pk_cpy_in (by omega) (by omega)]
  congr 1; omega
def pair (a b : Nat) : Prop := (a = 1 ∧ b = 10) ∨ (a = 10 ∧ b = 1) ∨ (a = 19 ∧ b = 1) ∨ (a = 28 ∧ b = 1) ∨ (a = 1 ∧ b = 19) ∨ (a = 1 ∧ b = 28)
set_option maxRecDepth 100000 in
set_option maxHeartbeats 8000000 in
theorem e_becomeLike {a b : Nat} (hp : pair a b) {u : Sg} {h : Hs} (R : HRep u b h) (G : GoodH h) : V 1 (0, [some (.ref a), some (.ref b)], [], u) (fun r t => r = none ∧ HRep t a h ∧ Agr (offH a) u t) := by
  have h6 := G.1.1
  have hn6 := G.1.2.2.1
  have hu8 := G.1.2.2.2
  rcases hp with ⟨rfl, rfl⟩ | ⟨rfl, rfl⟩ | ⟨rfl, rfl⟩ | ⟨rfl, rfl⟩ | ⟨rfl, rfl⟩ | ⟨rfl, rfl⟩
  all_goals
    ((repeat (fail_if_success show VV _ _ (44, _, _, _) _); refine VV.s rfl rfl ?_); (try (conv => arg 3; simp only [Nat.reduceAdd, sto1, sto2, isL, cond_true, cond_false, List.drop_succ_cons, List.drop_zero, List.drop_nil])))
    refine VV.copy (sp := 0) (dp := 0) (n := 6) rfl rfl rfl rfl rfl (by decide) (by decide) (by decide) (by decide) ?_
    ((repeat (fail_if_success show VV _ _ (59, _, _, _) _); refine VV.s rfl rfl ?_); (try (conv => arg 3; simp only [Nat.reduceAdd, sto1, sto2, isL, cond_true, cond_false, List.drop_succ_cons, List.drop_zero, List.drop_nil])))
    refine VV.copy (sp := 0) (dp := 0) (n := 6) rfl rfl rfl rfl rfl (by decide) (by decide) (by decide) (by decide) ?_
    ((repeat (fail_if_success show VV _ _ (74, _, _, _) _); refine VV.s rfl rfl ?_); (try (conv => arg 3; simp only [Nat.reduceAdd, sto1, sto2, isL, cond_true, cond_false, List.drop_succ_cons, List.drop_zero, List.drop_nil])))
    refine VV.copy (sp := 0) (dp := 0) (n := 6) rfl rfl rfl rfl rfl (by decide) (by decide) (by decide) (by decide) ?_
    ((repeat (fail_if_success show VV _ _ (89, _, _, _) _); refine VV.s rfl rfl ?_); (try (conv => arg 3; simp only [Nat.reduceAdd, sto1, sto2, isL, cond_true, cond_false, List.drop_succ_cons, List.drop_zero, List.drop_nil])))
    refine VV.copy (sp := 0) (dp := 0) (n := 6) rfl rfl rfl rfl rfl (by decide) (by decide) (by decide) (by decide) ?_
    ((repeat (fail_if_success show VV _ _ (104, _, _, _) _); refine VV.s rfl rfl ?_); (try (conv => arg 3; simp only [Nat.reduceAdd, sto1, sto2, isL, cond_true, cond_false, List.drop_succ_cons, List.drop_zero, List.drop_nil])))
    refine VV.copy (sp := 0) (dp := 0) (n := 6) rfl rfl rfl rfl rfl (by decide) (by decide) (by decide) (by decide) ?_
    ((repeat (fail_if_success show VV _ _ (119, _, _, _) _); refine VV.s rfl rfl ?_); (try (conv => arg 3; simp only [Nat.reduceAdd, sto1, sto2, isL, cond_true, cond_false, List.drop_succ_cons, List.drop_zero, List.drop_nil])))
    refine VV.copy (sp := 0) (dp := 0) (n := 6) rfl rfl rfl rfl rfl (by decide) (by decide) (by decide) (by decide) ?_
    ((repeat (fail_if_success show VV _ _ (134, _, _, _) _); refine VV.s rfl rfl ?_); (try (conv => arg 3; simp only [Nat.reduceAdd, sto1, sto2, isL, cond_true, cond_false, List.drop_succ_cons, List.drop_zero, List.drop_nil])))
    refine VV.copy (sp := 0) (dp := 0) (n := 30) rfl rfl rfl rfl rfl (by decide) (by decide) (by decide) (by decide) ?_
    ((repeat (fail_if_success show VV _ _ (150, _, _, _) _); refine VV.s rfl rfl ?_); (try (conv => arg 3; simp only [Nat.reduceAdd, sto1, sto2, isL, cond_true, cond_false, List.drop_succ_cons, List.drop_zero, List.drop_nil])))
    refine VV.copy (sp := 0) (dp := 0) (n := 152) rfl rfl rfl rfl rfl (by decide) (by decide) (by decide) (by decide) ?_
    refine VV.ret0 rfl ⟨rfl, ⟨⟨R.1.1, R.1.2.1, R.1.2.2.1, R.1.2.2.2⟩, fun v hv => ?_, fun i c hi hc => ?_, fun k hk => ?_⟩, ?_⟩
    · show va_cpy _ _ 0 0 6 v = _ ∧ va_cpy _ _ 0 0 6 v = _ ∧ va_cpy _ _ 0 0 6 v = _ ∧ va_cpy _ _ 0 0 6 v = _ ∧ va_cpy _ _ 0 0 6 v = _ ∧ va_cpy _ _ 0 0 6 v = _
      have hv6 : v < 6 := by omega
      rw [cpy_all hv6, cpy_all hv6, cpy_all hv6, cpy_all hv6, cpy_all hv6, cpy_all hv6]
      exact R.2.1 v hv
    · show va_cpy _ _ 0 0 30 _ = _
      rw [cpy_all (by omega)]
      exact R.2.2.1 i c hi hc
    · show va_cpy _ _ 0 0 152 _ = _ ∧ ∀ v, v < hn h → va_cpy _ _ 0 0 152 _ = _ ∧ va_cpy _ _ 0 0 152 _ = _ ∧ va_cpy _ _ 0 0 152 _ = _
      rw [cpy_all (by omega)]
      refine ⟨(R.2.2.2 k hk).1, fun v hv => ?_⟩
      rw [cpy_all (by omega), cpy_all (by omega), cpy_all (by omega)]
      exact (R.2.2.2 k hk).2 v hv
    · exact ((((((((((((Agr.rf).I (by decide)).I (by decide)).I (by decide)).I (by decide)).A (by decide)).A (by decide)).A (by decide)).A (by decide)).A (by decide)).A (by decide)).A (by decide)).A (by decide)
