/-! ===== reading: the class's read ===== -/
section RD5
variable {u : Sg} {z : Zs} {T : Nat → Nat} {N : Nat}
def PIok (N i : Nat) : Nat ⊕ (Hs × Nat) → Prop
  | .inl f => f ≤ N
  | .inr (h, e) => GoodH h ∧ e ≤ N ∧ i < e
theorem rdNum_lN {i b f : Nat} (hi : i ≤ N) (h : rdNum T N i b = .inl f) : f ≤ N := by
  rw [rdNum_l h]; exact (rdSk_le T hi).2
theorem rdEnd_lN {i f : Nat} (hi : i ≤ N) (h : rdEnd T N i = .inl f) : f ≤ N := by
  unfold rdEnd at h
  split at h
  · cases h
  · cases h; exact (rdSk_le T hi).2
theorem PI_end {i j : Nat} {h : Hs} (G : GoodH h) (hi : i ≤ N) (hj : j ≤ i) : PIok N j (match rdEnd T N i with | .inl f => .inl f | .inr e => .inr (h, e)) := by
  cases e : rdEnd T N i with
  | inl f => exact rdEnd_lN hi e
  | inr k => have := rdEnd_r hi e; exact ⟨G, this.1, by omega⟩
theorem pOne_ok {h : Hs} {s i : Nat} (G : GoodH h) (hs : s ≤ N) (hi : i ≤ N) : PIok N i (pOne T N h s i) := by
  unfold pOne
  split
  · exact hs
  · rename_i h5
    cases e : rdNum T N i 6 with
    | inl f => exact rdNum_lN hi e
    | inr q =>
      obtain ⟨k, i1⟩ := q
      obtain ⟨k1, k2, k3, -⟩ := rdNum_r hi e
      show PIok N i (match rdNum T N i1 10 with | .inl f => .inl f | .inr (q, i2) => _)
      cases e : rdNum T N i1 10 with
      | inl f => exact rdNum_lN k2 e
      | inr q =>
        obtain ⟨q0, i2⟩ := q
        obtain ⟨j1, j2, j3, -⟩ := rdNum_r k2 e
        show PIok N i (match rdNum T N i2 10 with | .inl f => .inl f | .inr (w, i3) => _)
        cases e : rdNum T N i2 10 with
        | inl f => exact rdNum_lN j2 e
        | inr q =>
          obtain ⟨w0, i3⟩ := q
          obtain ⟨m1, m2, m3, -⟩ := rdNum_r j2 e
          exact PI_end (goodOne G (by omega) (by omega) (by omega) (by omega)) m2 (by omega)
theorem pLeave_ok {h : Hs} {i : Nat} (G : GoodH h) (hi : i ≤ N) : PIok N i (pLeave T N h i) := by
  unfold pLeave
  cases e : rdNum T N i (hn h) with
  | inl f => exact rdNum_lN hi e
  | inr q =>
    obtain ⟨p, i1⟩ := q
    obtain ⟨k1, k2, k3, -⟩ := rdNum_r hi e
    show PIok N i (match voH h p with | 0 => _ | v + 1 => _)
    rcases voH_spec h p with ⟨hv, -⟩ | ⟨v, hv1, hv, -⟩
    · rw [hv]
      exact (rdSk_le T hi).2
    · rw [hv]
      exact PI_end (goodLv G hv1) k2 (by omega)
theorem pLend_ok {h : Hs} {i : Nat} (G : GoodH h) (hi : i ≤ N) : PIok N i (pLend T N h i) := by
  unfold pLend
  cases e : rdNum T N i (hn h) with
  | inl f => exact rdNum_lN hi e
  | inr q =>
    obtain ⟨v, i1⟩ := q
    obtain ⟨k1, k2, k3, -⟩ := rdNum_r hi e
    show PIok N i (if hho h v = 0 then _ else _)
    split
    · cases e : rdNum T N i1 (hn h) with
      | inl f => exact rdNum_lN k2 e
      | inr q =>
        obtain ⟨p, i2⟩ := q
        obtain ⟨j1, j2, j3, -⟩ := rdNum_r k2 e
        exact PI_end (goodGv G k1 j1) j2 (by omega)
    · exact (rdSk_le T hi).2
theorem rdW_at {j s : Nat} (hs : s ≤ N) (hj : j < 4) (h : rdW T N j s = true) : rdWz T N s = s + (txt j).length ∧ s + (txt j).length ≤ N ∧ s < N ∧ tkE T N s = s + (txt j).length := by
  unfold rdW at h
  rw [Bool.and_eq_true, decide_eq_true_iff] at h
  have hw := rdWz_le T hs
  have l := txt_len j hj
  have hs2 : s < N := by
    by_cases q : s < N
    · exact q
    · have : rdWz T N s = s := rdRun_0 (by omega)
      omega
  have q : isLe T s = true := by
    cases q : isLe T s with
    | true => rfl
    | false =>
      have := rdWz_s (T := T) hs2
      rw [if_neg (by rw [q]; decide)] at this
      omega
  refine ⟨by omega, by omega, hs2, ?_⟩
  unfold tkE
  rw [if_pos hs2, if_pos (tk_1.mpr q)]
  omega
theorem PIok.sub {i j : Nat} {x : Nat ⊕ (Hs × Nat)} (h : PIok N i x) (hj : j ≤ i) : PIok N j x := by
  rcases x with f | ⟨h', e⟩
  · exact h
  · exact ⟨h.1, h.2.1, by have := h.2.2; omega⟩
theorem pItem_ok {h : Hs} {s : Nat} (G : GoodH h) (hs : s ≤ N) : PIok N s (pItem T N h s) := by
  unfold pItem
  split
  · rename_i q
    have : s + 3 ≤ N := (rdW_at (j := 1) hs (by omega) q).2.1
    exact (pOne_ok G hs this).sub (by omega)
  · split
    · rename_i q
      have : s + 5 ≤ N := (rdW_at (j := 2) hs (by omega) q).2.1
      exact (pLeave_ok G this).sub (by omega)
    · split
      · rename_i q
        have : s + 4 ≤ N := (rdW_at (j := 3) hs (by omega) q).2.1
        exact (pLend_ok G this).sub (by omega)
      · exact hs
def pLoop (T : Nat → Nat) (N : Nat) : Nat → Nat → Hs → Nat → Nat ⊕ (Nat × Hs)
  | 0, _, _, _ => .inl 0
  | f + 1, c, h, i => if rdSk T N i < N then (match pItem T N h (rdSk T N i) with
    | .inl g => .inl g
    | .inr (h', i') => pLoop T N f (c + 1) h' i') else .inr (c, h)
def H00 : Hs := ((0, 0, 0, 0), (fun _ => 0, fun _ => 0, fun _ => 0, fun _ => 0, fun _ => 0, fun _ => 0), fun _ _ => 0, (fun _ _ => 0, fun _ _ => 0, fun _ _ => 0, fun _ => 0))
theorem good00 : GoodH H00 := ⟨⟨by decide, by decide, by decide, by decide⟩, fun v hv => absurd hv (Nat.not_lt_zero _), ⟨fun v hv => absurd hv (Nat.not_lt_zero _), fun v w hv => absurd hv (Nat.not_lt_zero _)⟩, fun v hv => absurd hv (Nat.not_lt_zero _), fun v hv => absurd hv (Nat.not_lt_zero _)⟩
def pRead (T : Nat → Nat) (N : Nat) : Nat ⊕ (Nat × Hs) := if rdW T N 0 (rdSk T N 0) = true then (match rdEnd T N (rdSk T N 0 + 7) with
    | .inl f => .inl f
    | .inr i => pLoop T N 150 1 H00 i) else .inl (rdSk T N 0)
def PLok (N c : Nat) : Nat ⊕ (Nat × Hs) → Prop
  | .inl g => g ≤ N
  | .inr (c', h') => GoodH h' ∧ c ≤ c' ∧ c' ≤ 151
theorem pLoop_ok : ∀ f c h i, GoodH h → i ≤ N → N < i + f → c + f = 151 → PLok N c (pLoop T N f c h i)
  | 0, c, h, i, G, hi, hf, hc => by omega
  | f + 1, c, h, i, G, hi, hf, hc => by
    rw [pLoop]
    have hs := rdSk_le T hi
    by_cases q : rdSk T N i < N
    · rw [if_pos q]
      have hp := pItem_ok (T := T) G hs.2
      cases e : pItem T N h (rdSk T N i) with
      | inl g => rw [e] at hp; exact hp
      | inr q =>
        obtain ⟨h', i'⟩ := q
        rw [e] at hp
        have ih := pLoop_ok f (c + 1) h' i' hp.1 hp.2.1 (by have := hp.2.2; omega) (by omega)
        show PLok N c (pLoop T N f (c + 1) h' i')
        revert ih
        cases pLoop T N f (c + 1) h' i' with
        | inl g => exact fun x => x
        | inr q => exact fun x => ⟨x.1, by have := x.2.1; omega, x.2.2⟩
    · rw [if_neg q]
      exact ⟨G, Nat.le_refl _, by omega⟩
theorem pRead_ok (h150 : N ≤ 150) : PLok N 1 (pRead T N) := by
  unfold pRead
  have hs := rdSk_le T (N := N) (i := 0) (Nat.zero_le _)
  by_cases q : rdW T N 0 (rdSk T N 0) = true
  · rw [if_pos q]
    have h7 : rdSk T N 0 + 7 ≤ N := (rdW_at (j := 0) hs.2 (by omega) q).2.1
    cases e : rdEnd T N (rdSk T N 0 + 7) with
    | inl f => exact rdEnd_lN h7 e
    | inr i =>
      have hr := rdEnd_r h7 e
      exact pLoop_ok 150 1 H00 i good00 hr.1 (by omega) (by omega)
  · rw [if_neg q]
    exact hs.2
set_option maxHeartbeats 8000000 in
theorem e_isItem {h : Hs} {s : Nat} (X : TX T N u) (hs : s ≤ N) (S : RS T N s u) (R : HRep u 10 h) (G : GoodH h) : V 36 (0, [some (.ref 37), some (.ref 10)], [], u) (RP u N (pItem T N h s)) := by
  unfold pItem
  ((repeat refine VV.s rfl rfl ?_); (try (conv => arg 3; simp only [Nat.reduceAdd, sto1, sto2, isL, cond_true, cond_false, List.drop_succ_cons, List.drop_zero, List.drop_nil])))
  refine VV.callE rfl rfl rfl rfl (e_word X hs S (j := 1) (by omega)) rfl ?_
  have w1 := fun q => rdW_at (T := T) (j := 1) hs (by omega) q
  have w2 := fun q => rdW_at (T := T) (j := 2) hs (by omega) q
  have w3 := fun q => rdW_at (T := T) (j := 3) hs (by omega) q
  have ret : ∀ {pc t r x}, (V 36 (pc, [some (.ref 37), some (.ref 10)], r, t) x → V 36 (pc, [some (.ref 37), some (.ref 10)], r, t) x) := fun x => x
  refine VV.s rfl rfl ?_
  cases q1 : rdW T N 1 s with
  | true =>
    refine VV.itf (by decide) ?_
    have k := w1 q1
    ((repeat refine VV.s rfl rfl ?_); (try (conv => arg 3; simp only [Nat.reduceAdd, sto1, sto2, isL, cond_true, cond_false, List.drop_succ_cons, List.drop_zero, List.drop_nil])))
    refine VV.call rfl rfl rfl rfl (e_isOne (s := s) (i := s + 3) X k.2.1 S.1 S.2.2.1 (by rw [S.2.2.2.1, k.2.2.2]; rfl) R G) (fun r t q => ?_)
    show V _ _ (RP u N (pOne T N h s (s + 3)))
    revert q
    cases pOne T N h s (s + 3) with
    | inl f => intro q; obtain ⟨rfl, q⟩ := q; exact VV.ret3 rfl (Or.inl rfl) ⟨rfl, q⟩
    | inr x => intro q; obtain ⟨rfl, q⟩ := q; exact VV.ret3 rfl (Or.inr rfl) ⟨rfl, q⟩
  | false =>
    refine VV.itt rfl ?_
    show V _ _ (RP u N (if rdW T N 2 s = true then _ else _))
    ((repeat refine VV.s rfl rfl ?_); (try (conv => arg 3; simp only [Nat.reduceAdd, sto1, sto2, isL, cond_true, cond_false, List.drop_succ_cons, List.drop_zero, List.drop_nil])))
    refine VV.callE rfl rfl rfl rfl (e_word X hs S (j := 2) (by omega)) rfl ?_
    refine VV.s rfl rfl ?_
    cases q2 : rdW T N 2 s with
    | true =>
      refine VV.itf (by decide) ?_
      have k := w2 q2
      ((repeat refine VV.s rfl rfl ?_); (try (conv => arg 3; simp only [Nat.reduceAdd, sto1, sto2, isL, cond_true, cond_false, List.drop_succ_cons, List.drop_zero, List.drop_nil])))
      refine VV.call rfl rfl rfl rfl (e_isLeave (i := s + 5) X k.2.1 S.1 (by rw [S.2.2.2.1, k.2.2.2]; rfl) R G) (fun r t q => ?_)
      show V _ _ (RP u N (pLeave T N h (s + 5)))
      revert q
      cases pLeave T N h (s + 5) with
      | inl f => intro q; obtain ⟨rfl, q⟩ := q; exact VV.ret3 rfl (Or.inl rfl) ⟨rfl, q⟩
      | inr x => intro q; obtain ⟨rfl, q⟩ := q; exact VV.ret3 rfl (Or.inr rfl) ⟨rfl, q⟩
    | false =>
      refine VV.itt rfl ?_
      show V _ _ (RP u N (if rdW T N 3 s = true then _ else _))
      ((repeat refine VV.s rfl rfl ?_); (try (conv => arg 3; simp only [Nat.reduceAdd, sto1, sto2, isL, cond_true, cond_false, List.drop_succ_cons, List.drop_zero, List.drop_nil])))
      refine VV.callE rfl rfl rfl rfl (e_word X hs S (j := 3) (by omega)) rfl ?_
      refine VV.s rfl rfl ?_
      cases q3 : rdW T N 3 s with
      | true =>
        refine VV.itf (by decide) ?_
        have k := w3 q3
        ((repeat refine VV.s rfl rfl ?_); (try (conv => arg 3; simp only [Nat.reduceAdd, sto1, sto2, isL, cond_true, cond_false, List.drop_succ_cons, List.drop_zero, List.drop_nil])))
        refine VV.call rfl rfl rfl rfl (e_isLend (i := s + 4) X k.2.1 S.1 (by rw [S.2.2.2.1, k.2.2.2]; rfl) R G) (fun r t q => ?_)
        show V _ _ (RP u N (pLend T N h (s + 4)))
        revert q
        cases pLend T N h (s + 4) with
        | inl f =>
          intro q
          obtain ⟨rfl, q⟩ := q
          refine VV.s rfl rfl ?_
          refine VV.itt rfl ?_
          ((repeat refine VV.s rfl rfl ?_); (try (conv => arg 3; simp only [Nat.reduceAdd, sto1, sto2, isL, cond_true, cond_false, List.drop_succ_cons, List.drop_zero, List.drop_nil])))
          exact VV.ret3 rfl (Or.inl rfl) ⟨rfl, q⟩
        | inr x =>
          intro q
          obtain ⟨rfl, q⟩ := q
          refine VV.s rfl rfl ?_
          refine VV.itf (by decide) ?_
          ((repeat refine VV.s rfl rfl ?_); (try (conv => arg 3; simp only [Nat.reduceAdd, sto1, sto2, isL, cond_true, cond_false, List.drop_succ_cons, List.drop_zero, List.drop_nil])))
          exact VV.ret3 rfl (Or.inr rfl) ⟨rfl, q⟩
      | false =>
        refine VV.itt rfl ?_
        ((repeat refine VV.s rfl rfl ?_); (try (conv => arg 3; simp only [Nat.reduceAdd, sto1, sto2, isL, cond_true, cond_false, List.drop_succ_cons, List.drop_zero, List.drop_nil])))
        exact VV.ret3 rfl (Or.inl rfl) ⟨rfl, S.2.2.1, S.1, Agr.rf⟩
theorem e_isCounter {s : Nat} (X : TX T N u) (hs : s ≤ N) (S : RS T N s u) : V 35 (0, [some (.ref 37)], [], u) (fun r t => Agr o37 u t ∧ gI t 37 1 = nI N ∧ ((∃ f, (if rdW T N 0 s = true then rdEnd T N (s + 7) else .inl s) = .inl f ∧ r = some (.int 0) ∧ gI t 37 3 = nI f) ∨ ∃ e, (if rdW T N 0 s = true then rdEnd T N (s + 7) else .inl s) = .inr e ∧ r = some (.int 1) ∧ gI t 37 4 = nI e)) := by
  ((repeat refine VV.s rfl rfl ?_); (try (conv => arg 3; simp only [Nat.reduceAdd, sto1, sto2, isL, cond_true, cond_false, List.drop_succ_cons, List.drop_zero, List.drop_nil])))
  refine VV.callE rfl rfl rfl rfl (e_word X hs S (j := 0) (by omega)) rfl ?_
  refine VV.s rfl rfl ?_
  cases q1 : rdW T N 0 s with
  | false =>
    refine VV.itt rfl ?_
    ((repeat refine VV.s rfl rfl ?_); (try (conv => arg 3; simp only [Nat.reduceAdd, sto1, sto2, isL, cond_true, cond_false, List.drop_succ_cons, List.drop_zero, List.drop_nil])))
    exact VV.ret3 rfl (Or.inl rfl) ⟨Agr.rf, S.1, Or.inl ⟨s, rfl, rfl, S.2.2.1⟩⟩
  | true =>
    refine VV.itf (by decide) ?_
    have k := rdW_at (T := T) (j := 0) hs (by omega) q1
    ((repeat refine VV.s rfl rfl ?_); (try (conv => arg 3; simp only [Nat.reduceAdd, sto1, sto2, isL, cond_true, cond_false, List.drop_succ_cons, List.drop_zero, List.drop_nil])))
    refine VV.call rfl rfl rfl rfl (e_end X k.2.1 S.1 (by rw [S.2.2.2.1, k.2.2.2])) (fun r t q => ?_)
    obtain ⟨A, g1, q⟩ := q
    rcases q with ⟨f, e, rfl, g3⟩ | ⟨i, e, rfl, g4⟩
    · refine VV.s rfl rfl ?_
      refine VV.itt rfl ?_
      ((repeat refine VV.s rfl rfl ?_); (try (conv => arg 3; simp only [Nat.reduceAdd, sto1, sto2, isL, cond_true, cond_false, List.drop_succ_cons, List.drop_zero, List.drop_nil])))
      exact VV.ret3 rfl (Or.inl rfl) ⟨A, g1, Or.inl ⟨f, e, rfl, g3⟩⟩
    · refine VV.s rfl rfl ?_
      refine VV.itf (by decide) ?_
      ((repeat refine VV.s rfl rfl ?_); (try (conv => arg 3; simp only [Nat.reduceAdd, sto1, sto2, isL, cond_true, cond_false, List.drop_succ_cons, List.drop_zero, List.drop_nil])))
      exact VV.ret3 rfl (Or.inr rfl) ⟨A, g1, Or.inr ⟨i, e, rfl, g4⟩⟩
def QR (u : Sg) (N : Nat) : Nat ⊕ (Nat × Hs) → Option Value → Sg → Prop
  | .inl f, r, t => r = some (.int (-10 - nI f)) ∧ gI t 37 1 = nI N ∧ Agr oR u t
  | .inr (c, h), r, t => r = some (.int (nI c)) ∧ HRep t 10 h ∧ gI t 37 1 = nI N ∧ Agr oR u t
theorem tkS_0 {s : Nat} : tkS T N s = 0 ↔ ¬ s < N := by
  unfold tkS
  have := tk_le (T s)
  split
  · rename_i h
    refine ⟨fun x => ?_, fun x => absurd h x⟩
    split at x <;> omega
  · rename_i h
    exact ⟨fun _ => h, fun _ => rfl⟩
theorem tkS_lt (T : Nat → Nat) (N s : Nat) : tkS T N s < 10 := by
  unfold tkS
  have := tk_le (T s)
  split
  · split <;> omega
  · omega
set_option maxHeartbeats 8000000 in
theorem e_read_loop (X : TX T N u) : ∀ f c h i t, GoodH h → i ≤ N → N < i + f → c + f = 151 → 1 ≤ c → HRep t 10 h → gI t 37 1 = nI N → gI t 37 4 = nI i → Agr oR u t → V 34 (13, [some (.ref 37), some (.ref 10), some (.int (nI c)), some (.int (nI c))], [], t) (QR u N (pLoop T N f c h i)) := by
  have hN := X.1
  intro f
  induction f with
  | zero => intro c h i t G hi hf; omega
  | succ f ih =>
    intro c h i t G hi hf hc hc1 R g1 g4 A
    have hs := rdSk_le T hi
    have Xt := X.keep (A 38 (by decide)).2.2
    rw [pLoop]
    ((repeat refine VV.s rfl rfl ?_); (try (conv => arg 3; simp only [Nat.reduceAdd, sto1, sto2, isL, cond_true, cond_false, List.drop_succ_cons, List.drop_zero, List.drop_nil])))
    refine VV.itf (nI_nlt (a := 150) (by omega) (by omega)) ?_
    ((repeat refine VV.s rfl rfl ?_); (try (conv => arg 3; simp only [Nat.reduceAdd, sto1, sto2, isL, cond_true, cond_false, List.drop_succ_cons, List.drop_zero, List.drop_nil])))
    refine VV.call rfl rfl rfl rfl (e_step Xt hi g1 g4) (fun r t2 q => ?_)
    obtain ⟨rfl, S, A2⟩ := q
    have Xt2 := Xt.keep (A2 38 (by decide)).2.2
    have hl := tkS_lt T N (rdSk T N i)
    have item : rdSk T N i < N → V 34 (37, [some (.ref 37), some (.ref 10), some (.int (nI c)), some (.int (nI c))], [], t2) (QR u N (match pItem T N h (rdSk T N i) with | .inl g => .inl g | .inr (h', i') => pLoop T N f (c + 1) h' i')) := by
      intro hlt
      have hp := pItem_ok (T := T) G hs.2
      ((repeat refine VV.s rfl rfl ?_); (try (conv => arg 3; simp only [Nat.reduceAdd, sto1, sto2, isL, cond_true, cond_false, List.drop_succ_cons, List.drop_zero, List.drop_nil])))
      refine VV.itt (fun x => by have := (nI_eq (b := 0) (by omega) (by omega)).mp x; omega) ?_
      ((repeat refine VV.s rfl rfl ?_); (try (conv => arg 3; simp only [Nat.reduceAdd, sto1, sto2, isL, cond_true, cond_false, List.drop_succ_cons, List.drop_zero, List.drop_nil])))
      refine VV.call rfl rfl rfl rfl (e_isItem Xt2 hs.2 S (R.o37 A2) G) (fun r t3 q => ?_)
      revert q hp
      cases pItem T N h (rdSk T N i) with
      | inl g =>
        intro hp q
        obtain ⟨rfl, k3, k1, A3⟩ := q
        refine VV.s rfl rfl ?_
        refine VV.itf (fun x => x rfl) ?_
        ((repeat refine VV.s rfl rfl ?_); (try (conv => arg 3; simp only [Nat.reduceAdd, sto1, sto2, isL, cond_true, cond_false, List.drop_succ_cons, List.drop_zero, List.drop_nil])))
        rw [k3]
        exact VV.ret1 rfl ⟨rfl, k1, A.tr ((oR37 A2).tr A3)⟩
      | inr x =>
        obtain ⟨h', i'⟩ := x
        intro hp q
        obtain ⟨rfl, k3, k4, k1, A3⟩ := q
        refine VV.s rfl rfl ?_
        refine VV.itt (by decide) ?_
        ((repeat (fail_if_success show VV _ _ (13, _, _, _) _); refine VV.s rfl rfl ?_); (try (conv => arg 3; simp only [Nat.reduceAdd, sto1, sto2, isL, cond_true, cond_false, List.drop_succ_cons, List.drop_zero, List.drop_nil])))
        rw [nI_1]
        have := hp.2.2
        exact ih (c + 1) h' i' t3 hp.1 hp.2.1 (by omega) (by omega) (by omega) k3 k1 k4 (A.tr ((oR37 A2).tr A3))
    ((repeat refine VV.s rfl rfl ?_); (try (conv => arg 3; simp only [Nat.reduceAdd, sto1, sto2, isL, cond_true, cond_false, List.drop_succ_cons, List.drop_zero, List.drop_nil])))
    rw [S.2.1]
    refine VV.ite (fun q => ?_) (fun q => ?_)
    · have q : rdSk T N i < N := by
        by_cases x : rdSk T N i < N
        · exact x
        · exact absurd (by rw [tkS_0.mpr x]; rfl) q
      rw [if_pos q]
      exact item q
    · have q : ¬ rdSk T N i < N := tkS_0.mp ((nI_eq (b := 0) (by omega) (by omega)).mp (Classical.not_not.mp q))
      rw [if_neg q]
      ((repeat refine VV.s rfl rfl ?_); (try (conv => arg 3; simp only [Nat.reduceAdd, sto1, sto2, isL, cond_true, cond_false, List.drop_succ_cons, List.drop_zero, List.drop_nil])))
      refine VV.itf (fun x => by have : nI c ≤ nI 0 := x; rw [le_nI (by omega) (by omega)] at this; omega) ?_
      ((repeat refine VV.s rfl rfl ?_); (try (conv => arg 3; simp only [Nat.reduceAdd, sto1, sto2, isL, cond_true, cond_false, List.drop_succ_cons, List.drop_zero, List.drop_nil])))
      exact VV.ret1 rfl ⟨rfl, R.o37 A2, S.1, A.tr (oR37 A2)⟩
theorem e_empty10 : V 0 (0, [some (.ref 10)], [], u) (fun r t => r = none ∧ HRep t 10 H00 ∧ Agr (offH 10) u t) := by
  ((repeat refine VV.s rfl rfl ?_); (try (conv => arg 3; simp only [Nat.reduceAdd, sto1, sto2, isL, cond_true, cond_false, List.drop_succ_cons, List.drop_zero, List.drop_nil])))
  exact VV.ret0 rfl ⟨rfl, ⟨⟨rfl, rfl, rfl, rfl⟩, fun v hv => absurd hv (Nat.not_lt_zero _), fun v c hv => absurd hv (Nat.not_lt_zero _), fun v hv => absurd hv (Nat.not_lt_zero _)⟩, (Agr.rf).I (by decide) |>.I (by decide) |>.I (by decide) |>.I (by decide)⟩
set_option maxHeartbeats 8000000 in
theorem e_readInto (X : TX T N u) (g1 : gI u 37 1 = nI N) : V 34 (0, [some (.ref 37), some (.ref 10), none, none], [], u) (QR u N (pRead T N)) := by
  have hN := X.1
  have hs := rdSk_le T (N := N) (i := 0) (Nat.zero_le _)
  unfold pRead
  ((repeat refine VV.s rfl rfl ?_); (try (conv => arg 3; simp only [Nat.reduceAdd, sto1, sto2, isL, cond_true, cond_false, List.drop_succ_cons, List.drop_zero, List.drop_nil])))
  refine VV.call rfl rfl rfl rfl e_empty10 (fun r t q => ?_)
  obtain ⟨rfl, R, A⟩ := q
  have Xt := X.keep (A 38 (by decide)).2.2
  refine VV.s rfl rfl ?_
  refine VV.s rfl rfl ?_
  refine VV.s rfl rfl ?_
  refine VV.s rfl rfl ?_
  refine VV.s rfl rfl ?_
  refine VV.s rfl rfl ?_
  refine VV.s rfl rfl ?_
  refine VV.s rfl rfl ?_
  refine VV.s rfl rfl ?_
  refine VV.s rfl rfl ?_
  refine VV.itf (by decide) ?_
  refine VV.s rfl rfl ?_
  refine VV.call rfl rfl rfl rfl (e_step (T := T) (N := N) (i := 0) (u := pI t 37 4 0) Xt (Nat.zero_le _) (by show gI t 37 1 = _; rw [(A 37 (by decide)).1]; exact g1) rfl) (fun r t2 q => ?_)
  obtain ⟨rfl, S, A2⟩ := q
  have A2 : Agr o37 t t2 := (((Agr.rf).I (fun q => q rfl)).tr A2 : Agr o37 t t2)
  have Xt2 := Xt.keep (A2 38 (by decide)).2.2
  have go : V 34 (37, [some (.ref 37), some (.ref 10), some (.int 0), some (.int 0)], [], t2) (QR u N (if rdW T N 0 (rdSk T N 0) = true then (match rdEnd T N (rdSk T N 0 + 7) with | .inl f => .inl f | .inr i => pLoop T N 150 1 H00 i) else .inl (rdSk T N 0))) := by
    refine VV.s rfl rfl ?_
    refine VV.s rfl rfl ?_
    refine VV.itf (fun x => x rfl) ?_
    refine VV.s rfl rfl ?_
    refine VV.call rfl rfl rfl rfl (e_isCounter Xt2 hs.2 S) (fun r t3 q => ?_)
    obtain ⟨A3, k1, q⟩ := q
    rcases q with ⟨f, e, rfl, k3⟩ | ⟨i, e, rfl, k4⟩
    · have ee : ((if rdW T N 0 (rdSk T N 0) = true then (match rdEnd T N (rdSk T N 0 + 7) with | .inl f => .inl f | .inr i => pLoop T N 150 1 H00 i) else .inl (rdSk T N 0)) : Nat ⊕ (Nat × Hs)) = .inl f := by
        by_cases c : rdW T N 0 (rdSk T N 0) = true
        · rw [if_pos c] at e ⊢
          rw [e]
        · rw [if_neg c] at e ⊢
          cases e; rfl
      rw [ee]
      refine VV.s rfl rfl ?_
      refine VV.itt rfl ?_
      ((repeat refine VV.s rfl rfl ?_); (try (conv => arg 3; simp only [Nat.reduceAdd, sto1, sto2, isL, cond_true, cond_false, List.drop_succ_cons, List.drop_zero, List.drop_nil])))
      rw [k3]
      exact VV.ret1 rfl ⟨rfl, k1, (oR10 A).tr ((oR37 A2).tr (oR37 A3))⟩
    · have c : rdW T N 0 (rdSk T N 0) = true := by
        by_cases c : rdW T N 0 (rdSk T N 0) = true
        · exact c
        · rw [if_neg c] at e; cases e
      rw [if_pos c] at e ⊢
      rw [e]
      have h7 : rdSk T N 0 + 7 ≤ N := (rdW_at (j := 0) hs.2 (by omega) c).2.1
      have hr := rdEnd_r h7 e
      refine VV.s rfl rfl ?_
      refine VV.itf (by decide) ?_
      ((repeat (fail_if_success show VV _ _ (13, _, _, _) _); refine VV.s rfl rfl ?_); (try (conv => arg 3; simp only [Nat.reduceAdd, sto1, sto2, isL, cond_true, cond_false, List.drop_succ_cons, List.drop_zero, List.drop_nil])))
      exact e_read_loop X 150 1 H00 i t3 good00 hr.1 (by omega) (by omega) (by omega) ((R.o37 A2).o37 A3) k1 k4 ((oR10 A).tr ((oR37 A2).tr (oR37 A3)))
  refine VV.s rfl rfl ?_
  refine VV.s rfl rfl ?_
  refine VV.s rfl rfl ?_
  refine VV.ite (fun q => go) (fun q => ?_)
  refine VV.s rfl rfl ?_
  refine VV.s rfl rfl ?_
  refine VV.itt (by decide) ?_
  exact go
/-- what read answers, and leaves -/
def rdA (z : Zs) : Int32 := match pRead z.2.2.1.2 z.2.2.1.1 with
  | .inl f => -10 - nI f
  | .inr (c, _) => nI c
def rdZ (z : Zs) : Zs := match pRead z.2.2.1.2 z.2.2.1.1 with
  | .inl _ => z
  | .inr (_, h) => zH z h
theorem ten_le : ∀ f, f < 151 → (-10 : Int32) - nI f ≤ 0 := by decide +kernel
theorem b_read (C : CInv u z) (G : GoodZ z) : BC 50 [some (.ref 0), none] u (.int (rdA z)) (rdZ z) := by
  have X : TX z.2.2.1.2 z.2.2.1.1 u := ⟨G.2.2.2.1, G.2.2.2.2, C.2.2.2.1.2⟩
  have ok := pRead_ok (T := z.2.2.1.2) G.2.2.2.1
  have hN := G.2.2.2.1
  ((repeat refine VV.s rfl rfl ?_); (try (conv => arg 3; simp only [Nat.reduceAdd, sto1, sto2, isL, cond_true, cond_false, List.drop_succ_cons, List.drop_zero, List.drop_nil])))
  refine VV.call rfl rfl rfl rfl (e_readInto X C.2.2.2.1.1) (fun r t q => ?_)
  unfold rdA rdZ
  revert q ok
  cases pRead z.2.2.1.2 z.2.2.1.1 with
  | inl f =>
    intro ok q
    obtain ⟨rfl, k1, A⟩ := q
    have ok : f ≤ z.2.2.1.1 := ok
    refine VV.s rfl rfl ?_
    refine VV.s rfl rfl ?_
    refine VV.s rfl rfl ?_
    refine VV.itt (ten_le f (by omega)) ?_
    ((repeat refine VV.s rfl rfl ?_); (try (conv => arg 3; simp only [Nat.reduceAdd, sto1, sto2, isL, cond_true, cond_false, List.drop_succ_cons, List.drop_zero, List.drop_nil])))
    exact VV.ret1 rfl ⟨rfl, C.keep2 (A.sub (fun k hk => by refine ⟨by omega, ?_⟩; show k < 10 ∨ 10 + 9 ≤ k; omega)) (by rw [k1, C.2.2.2.1.1]), A.sub (fun k hk => by have : 41 ≤ k := hk; refine ⟨by omega, ?_⟩; show k < 10 ∨ 10 + 9 ≤ k; omega)⟩
  | inr x =>
    obtain ⟨c, h⟩ := x
    intro ok q
    obtain ⟨rfl, R, k1, A⟩ := q
    have C2 : CInv t z := C.keep2 (A.sub (fun k hk => by refine ⟨by omega, ?_⟩; show k < 10 ∨ 10 + 9 ≤ k; omega)) (by rw [k1, C.2.2.2.1.1])
    have A2 : Agr onM u t := A.sub (fun k hk => by have : 41 ≤ k := hk; refine ⟨by omega, ?_⟩; show k < 10 ∨ 10 + 9 ≤ k; omega)
    obtain ⟨Gh, c1, c2⟩ := ok
    ((repeat refine VV.s rfl rfl ?_); (try (conv => arg 3; simp only [Nat.reduceAdd, sto1, sto2, isL, cond_true, cond_false, List.drop_succ_cons, List.drop_zero, List.drop_nil])))
    refine VV.itf (fun x => by have x : nI c ≤ nI 0 := x; rw [le_nI (by omega) (by omega)] at x; omega) ?_
    ((repeat refine VV.s rfl rfl ?_); (try (conv => arg 3; simp only [Nat.reduceAdd, sto1, sto2, isL, cond_true, cond_false, List.drop_succ_cons, List.drop_zero, List.drop_nil])))
    refine VV.call rfl rfl rfl rfl (e_becomeLike (a := 1) (b := 10) (Or.inl ⟨rfl, rfl⟩) R Gh) (fun r t3 q => ?_)
    obtain ⟨rfl, R3, A3⟩ := q
    ((repeat refine VV.s rfl rfl ?_); (try (conv => arg 3; simp only [Nat.reduceAdd, sto1, sto2, isL, cond_true, cond_false, List.drop_succ_cons, List.drop_zero, List.drop_nil])))
    exact VV.ret1 rfl ⟨rfl, C2.house R3 A3, A2.tr (onM_off1 A3)⟩
end RD5
