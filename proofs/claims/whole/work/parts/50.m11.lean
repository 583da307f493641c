/-! ===== the reference: rings, own again ===== -/
section M11
variable {u : Sg} {z : Zs}
/-- the first step at which one is back, or comes to one who is dumb -/
def isE (h : Hs) (p K : Nat) : Prop := 1 ≤ K ∧ K ≤ hn h ∧ (nxt h K p = 0 ∨ nxt h K p = p + 1) ∧ ∀ j, 1 ≤ j → j < K → nxt h j p ≠ 0 ∧ nxt h j p ≠ p + 1
theorem isE_ex {h : Hs} {p : Nat} (hp : p < hn h) : ∃ K, isE h p K := by
  obtain ⟨k, ⟨a1, a2, a3⟩, b⟩ := pk_least (fun k => 1 ≤ k ∧ k ≤ hn h ∧ (nxt h k p = 0 ∨ nxt h k p = p + 1)) (ring_ends hp)
  exact ⟨k, a1, a2, a3, fun j h1 h2 => ⟨fun e => b j h2 ⟨h1, by omega, Or.inl e⟩, fun e => b j h2 ⟨h1, by omega, Or.inr e⟩⟩⟩
theorem nxt_s {h : Hs} {p k q : Nat} (e : nxt h k p = q + 1) : nxt h (k + 1) p = voH h q := by rw [nxt, e]
theorem rgF_eq {h : Hs} {p K : Nat} (E : isE h p K) : ∀ m st x, nxt h (st - 1) p = x + 1 → 1 ≤ st → st ≤ K → K + 1 ≤ m + st → rgF h p m st x = if nxt h K p = 0 then 0 else K
  | 0, st, x, hx, h1, h2, h3 => by omega
  | m + 1, st, x, hx, h1, h2, h3 => by
    have e := nxt_s hx
    rw [show st - 1 + 1 = st by omega] at e
    rw [rgF, ← e]
    by_cases c : st = K
    · subst c
      rcases E.2.2.1 with q | q
      · rw [q, if_pos rfl]
      · rw [q, if_neg (by omega)]
        show (if p = p then st else _) = st
        rw [if_pos rfl]
    · obtain ⟨n1, n2⟩ := E.2.2.2 st h1 (by omega)
      obtain ⟨v, hv⟩ : ∃ v, nxt h st p = v + 1 := ⟨nxt h st p - 1, by omega⟩
      rw [hv]
      show (if v = p then st else rgF h p m (st + 1) v) = _
      rw [if_neg (by omega)]
      exact rgF_eq E m (st + 1) v hv (by omega) (by omega) (by omega)
theorem rgH_eq {h : Hs} {p K : Nat} (E : isE h p K) : rgH h p = if nxt h K p = 0 then 0 else K := rgF_eq E (hn h) 1 p rfl (by omega) E.1 (by have := E.2.1; omega)
set_option maxHeartbeats 4000000 in
theorem f_ringOf {h : Hs} (R : MRep u h) (G : GoodH h) {p : Nat} (hp : p < hn h) : V 150 (0, [some (.ref 41), some (.int (nI p)), none, none], [], u) (is (.int (nI (rgH h p))) u) := by
  have h6 := G.1.1
  obtain ⟨K, E⟩ := isE_ex hp
  rw [rgH_eq E]
  have lp : ∀ d st, st + d = K → 1 ≤ st → V 150 (8, [some (.ref 41), some (.int (nI p)), some (.int (cI (nxt h st p))), some (.int (nI st))], [], u) (is (.int (nI (if nxt h K p = 0 then 0 else K))) u) := by
    intro d
    induction d with
    | zero =>
      intro st hs h1
      have hs : st = K := by omega
      subst hs
      have hK := E.2.1
      rcases E.2.2.1 with q | q
      · rw [q, if_pos rfl]
        refine VV.s rfl rfl ?_
        refine VV.s rfl rfl ?_
        refine VV.s rfl rfl ?_
        refine VV.itt cI_0 ?_
        refine VV.s rfl rfl ?_
        refine VV.s rfl rfl ?_
        refine VV.s rfl rfl ?_
        refine VV.itf (fun e => e cI_0) ?_
        ((repeat refine VV.s rfl rfl ?_); (try (conv => arg 3; simp only [Nat.reduceAdd, sto1, sto2, isL, cond_true, cond_false, List.drop_succ_cons, List.drop_zero, List.drop_nil])))
        exact VV.ret1 rfl ⟨rfl, rfl⟩
      · rw [q, if_neg (by omega), cI_s]
        ((repeat refine VV.s rfl rfl ?_); (try (conv => arg 3; simp only [Nat.reduceAdd, sto1, sto2, isL, cond_true, cond_false, List.drop_succ_cons, List.drop_zero, List.drop_nil])))
        refine VV.itf (nI_ne1 (by omega)) ?_
        ((repeat refine VV.s rfl rfl ?_); (try (conv => arg 3; simp only [Nat.reduceAdd, sto1, sto2, isL, cond_true, cond_false, List.drop_succ_cons, List.drop_zero, List.drop_nil])))
        refine VV.itt trivial ?_
        ((repeat refine VV.s rfl rfl ?_); (try (conv => arg 3; simp only [Nat.reduceAdd, sto1, sto2, isL, cond_true, cond_false, List.drop_succ_cons, List.drop_zero, List.drop_nil])))
        refine VV.itt (nI_ne1 (by omega)) ?_
        ((repeat refine VV.s rfl rfl ?_); (try (conv => arg 3; simp only [Nat.reduceAdd, sto1, sto2, isL, cond_true, cond_false, List.drop_succ_cons, List.drop_zero, List.drop_nil])))
        exact VV.ret1 rfl ⟨rfl, rfl⟩
    | succ d ih =>
      intro st hs h1
      obtain ⟨n1, n2⟩ := E.2.2.2 st h1 (by omega)
      have hle := nxt_lt hp st
      obtain ⟨v, hv⟩ : ∃ v, nxt h st p = v + 1 := ⟨nxt h st p - 1, by omega⟩
      have nx := ih (st + 1) (by omega) (by omega)
      rw [nxt_s hv] at nx
      rw [hv, cI_s]
      ((repeat refine VV.s rfl rfl ?_); (try (conv => arg 3; simp only [Nat.reduceAdd, sto1, sto2, isL, cond_true, cond_false, List.drop_succ_cons, List.drop_zero, List.drop_nil])))
      refine VV.itf (nI_ne1 (by omega)) ?_
      ((repeat refine VV.s rfl rfl ?_); (try (conv => arg 3; simp only [Nat.reduceAdd, sto1, sto2, isL, cond_true, cond_false, List.drop_succ_cons, List.drop_zero, List.drop_nil])))
      refine VV.itf (by rw [eq_nI (by omega) (by omega)]; omega) ?_
      ((repeat refine VV.s rfl rfl ?_); (try (conv => arg 3; simp only [Nat.reduceAdd, sto1, sto2, isL, cond_true, cond_false, List.drop_succ_cons, List.drop_zero, List.drop_nil])))
      refine VV.callE rfl rfl rfl rfl (f_voiceOf R G (p := v) (by omega)) rfl ?_
      ((repeat (fail_if_success show VV _ _ (8, _, _, _) _); refine VV.s rfl rfl ?_); (try (conv => arg 3; simp only [Nat.reduceAdd, sto1, sto2, isL, cond_true, cond_false, List.drop_succ_cons, List.drop_zero, List.drop_nil])))
      rw [nI_1]
      exact nx
  ((repeat refine VV.s rfl rfl ?_); (try (conv => arg 3; simp only [Nat.reduceAdd, sto1, sto2, isL, cond_true, cond_false, List.drop_succ_cons, List.drop_zero, List.drop_nil])))
  refine VV.callE rfl rfl rfl rfl (f_voiceOf R G (p := p) (by omega)) rfl ?_
  ((repeat (fail_if_success show VV _ _ (8, _, _, _) _); refine VV.s rfl rfl ?_); (try (conv => arg 3; simp only [Nat.reduceAdd, sto1, sto2, isL, cond_true, cond_false, List.drop_succ_cons, List.drop_zero, List.drop_nil])))
  exact lp (K - 1) 1 (by have := E.1; omega) (by omega)
theorem m_ring_bad (C : MInv u z) {p : Int32} (h : ¬ thr (hn z.1) p) : MC 152 [some (.ref 41), some (.int p)] u (.int (-2)) (zB z) := by
  ((repeat refine VV.s rfl rfl ?_); (try (conv => arg 3; simp only [Nat.reduceAdd, sto1, sto2, isL, cond_true, cond_false, List.drop_succ_cons, List.drop_zero, List.drop_nil])))
  refine VV.callE rfl rfl rfl rfl (f_oneN C.1.1.1 h) rfl ?_
  refine VV.s rfl rfl ?_
  refine VV.itt (by decide) ?_
  ((repeat refine VV.s rfl rfl ?_); (try (conv => arg 3; simp only [Nat.reduceAdd, sto1, sto2, isL, cond_true, cond_false, List.drop_succ_cons, List.drop_zero, List.drop_nil])))
  refine VV.callE rfl rfl rfl rfl f_bad rfl ?_
  ((repeat refine VV.s rfl rfl ?_); (try (conv => arg 3; simp only [Nat.reduceAdd, sto1, sto2, isL, cond_true, cond_false, List.drop_succ_cons, List.drop_zero, List.drop_nil])))
  exact VV.ret1 rfl ⟨rfl, C.bad, (Agr.rf).A (by decide)⟩
theorem m_ring_ok (C : MInv u z) (G : GoodH z.1) {p : Nat} (hp : p < hn z.1) (t1 : thr (hn z.1) (nI p)) : MC 152 [some (.ref 41), some (.int (nI p))] u (.int (nI (rgH z.1 p))) z := by
  ((repeat refine VV.s rfl rfl ?_); (try (conv => arg 3; simp only [Nat.reduceAdd, sto1, sto2, isL, cond_true, cond_false, List.drop_succ_cons, List.drop_zero, List.drop_nil])))
  refine VV.callE rfl rfl rfl rfl (f_oneY C.1.1.1 t1) rfl ?_
  refine VV.s rfl rfl ?_
  refine VV.itf (by decide) ?_
  ((repeat refine VV.s rfl rfl ?_); (try (conv => arg 3; simp only [Nat.reduceAdd, sto1, sto2, isL, cond_true, cond_false, List.drop_succ_cons, List.drop_zero, List.drop_nil])))
  refine VV.callE rfl rfl rfl rfl (f_ringOf C.1 G hp) rfl ?_
  ((repeat refine VV.s rfl rfl ?_); (try (conv => arg 3; simp only [Nat.reduceAdd, sto1, sto2, isL, cond_true, cond_false, List.drop_succ_cons, List.drop_zero, List.drop_nil])))
  exact VV.ret1 rfl ⟨rfl, C, Agr.rf⟩
theorem owC_a (ho : Nat → Nat) : ∀ k v a, owC ho k v a = a + owC ho k v 0
  | 0, _, a => rfl
  | k + 1, v, a => by
    rw [owC, owC, owC_a ho k (v + 1) (if ho v = v + 1 then a else a + 1), owC_a ho k (v + 1) (if ho v = v + 1 then 0 else 0 + 1)]
    split <;> omega
theorem rgs_a (h : Hs) : ∀ k p a, rgs h k p a = a + rgs h k p 0
  | 0, _, a => rfl
  | k + 1, p, a => by
    rw [rgs, rgs, rgs_a h k (p + 1) (if 2 ≤ rgH h p ∧ rgL h p (hn h) (voH h p) = true then a + 1 else a), rgs_a h k (p + 1) (if 2 ≤ rgH h p ∧ rgL h p (hn h) (voH h p) = true then 0 + 1 else 0)]
    split <;> omega
set_option maxHeartbeats 8000000 in
theorem m_own_in {h : Hs} (R : MRep u h) (G : GoodH h) {p K : Nat} (hp : p < hn h) (E : isE h p K) (hK : nxt h K p = p + 1) {n : Nat} {by0 : Int32} {b : Bool} {Q : Option Value → Sg → Prop} (F : ∀ d4, V 151 (115, [some (.ref 41), some (.int (nI n)), some (.int (nI p)), some (.int by0), d4, some (.int (b01 b))], [], u) Q) : ∀ d st m (l : Bool), st + d = K → 1 ≤ st → d ≤ m → (l && rgL h p m (nxt h st p)) = b → V 151 (80, [some (.ref 41), some (.int (nI n)), some (.int (nI p)), some (.int by0), some (.int (cI (nxt h st p))), some (.int (b01 l))], [], u) Q := by
  have h6 := G.1.1
  intro d
  induction d with
  | zero =>
    intro st m l hs h1 hm hb
    have hs : st = K := by omega
    subst hs
    rw [hK] at hb ⊢
    rw [cI_s]
    ((repeat refine VV.s rfl rfl ?_); (try (conv => arg 3; simp only [Nat.reduceAdd, sto1, sto2, isL, cond_true, cond_false, List.drop_succ_cons, List.drop_zero, List.drop_nil])))
    refine VV.itt trivial ?_
    have e : rgL h p m (p + 1) = true := by cases m with | zero => rfl | succ m => exact if_pos rfl
    rw [e, Bool.and_true] at hb
    rw [hb]
    exact F _
  | succ d ih =>
    intro st m l hs h1 hm hb
    obtain ⟨n1, n2⟩ := E.2.2.2 st h1 (by omega)
    have hle := nxt_lt hp st
    obtain ⟨v, hv⟩ : ∃ v, nxt h st p = v + 1 := ⟨nxt h st p - 1, by omega⟩
    obtain ⟨m, rfl⟩ : ∃ k, m = k + 1 := ⟨m - 1, by omega⟩
    rw [hv] at hb ⊢
    rw [rgL, if_neg (by omega)] at hb
    rw [cI_s]
    ((repeat refine VV.s rfl rfl ?_); (try (conv => arg 3; simp only [Nat.reduceAdd, sto1, sto2, isL, cond_true, cond_false, List.drop_succ_cons, List.drop_zero, List.drop_nil])))
    refine VV.itf (by rw [eq_nI (by omega) (by omega)]; omega) ?_
    have go : ∀ l2 : Bool, (l2 && rgL h p m (nxt h (st + 1) p)) = b → V 151 (104, [some (.ref 41), some (.int (nI n)), some (.int (nI p)), some (.int by0), some (.int (nI v)), some (.int (b01 l2))], [], u) Q := by
      intro l2 hl2
      ((repeat refine VV.s rfl rfl ?_); (try (conv => arg 3; simp only [Nat.reduceAdd, sto1, sto2, isL, cond_true, cond_false, List.drop_succ_cons, List.drop_zero, List.drop_nil])))
      refine VV.callE rfl rfl rfl rfl (f_voiceOf R G (p := v) (by omega)) rfl ?_
      ((repeat (fail_if_success show VV _ _ (80, _, _, _) _); refine VV.s rfl rfl ?_); (try (conv => arg 3; simp only [Nat.reduceAdd, sto1, sto2, isL, cond_true, cond_false, List.drop_succ_cons, List.drop_zero, List.drop_nil])))
      have nx := ih (st + 1) m l2 (by omega) (by omega) (by omega) hl2
      rw [nxt_s hv] at nx
      exact nx
    refine VV.s rfl rfl ?_
    refine VV.s rfl rfl ?_
    cases l with
    | false =>
      refine VV.itt rfl ?_
      ((repeat (fail_if_success show VV _ _ (104, _, _, _) _); refine VV.s rfl rfl ?_); (try (conv => arg 3; simp only [Nat.reduceAdd, sto1, sto2, isL, cond_true, cond_false, List.drop_succ_cons, List.drop_zero, List.drop_nil])))
      exact go false (by rw [Bool.false_and] at hb ⊢; exact hb)
    | true =>
      refine VV.itf (by decide) ?_
      ((repeat refine VV.s rfl rfl ?_); (try (conv => arg 3; simp only [Nat.reduceAdd, sto1, sto2, isL, cond_true, cond_false, List.drop_succ_cons, List.drop_zero, List.drop_nil])))
      refine VV.ite (fun q => ?_) (fun q => ?_)
      · rw [le_nI (by omega) (by omega)] at q
        ((repeat (fail_if_success show VV _ _ (104, _, _, _) _); refine VV.s rfl rfl ?_); (try (conv => arg 3; simp only [Nat.reduceAdd, sto1, sto2, isL, cond_true, cond_false, List.drop_succ_cons, List.drop_zero, List.drop_nil])))
        rw [if_pos (by omega)] at hb
        exact go false (by rw [Bool.false_and]; exact hb)
      · rw [le_nI (by omega) (by omega)] at q
        ((repeat (fail_if_success show VV _ _ (104, _, _, _) _); refine VV.s rfl rfl ?_); (try (conv => arg 3; simp only [Nat.reduceAdd, sto1, sto2, isL, cond_true, cond_false, List.drop_succ_cons, List.drop_zero, List.drop_nil])))
        rw [if_neg (by omega), ← nxt_s hv] at hb
        exact go true hb
set_option maxHeartbeats 8000000 in
theorem m_own_rings {h : Hs} (R : MRep u h) (G : GoodH h) : ∀ k p n d3 d4 d5, p + k = hn h → V 151 (38, [some (.ref 41), some (.int (nI n)), some (.int (nI p)), d3, d4, d5], [], u) (is (.int (nI (rgs h k p n))) u) := by
  have h6 := G.1.1
  have hN := R.1.1
  intro k
  induction k with
  | zero =>
    intro p n d3 d4 d5 hi
    ((repeat refine VV.s rfl rfl ?_); (try (conv => arg 3; simp only [Nat.reduceAdd, sto1, sto2, isL, cond_true, cond_false, List.drop_succ_cons, List.drop_zero, List.drop_nil])))
    refine VV.itt (by rw [hN]; exact nI_le (by omega) (by omega)) ?_
    ((repeat refine VV.s rfl rfl ?_); (try (conv => arg 3; simp only [Nat.reduceAdd, sto1, sto2, isL, cond_true, cond_false, List.drop_succ_cons, List.drop_zero, List.drop_nil])))
    exact VV.ret1 rfl ⟨rfl, rfl⟩
  | succ k ih =>
    intro p n d3 d4 d5 hi
    have hp : p < hn h := by omega
    obtain ⟨K, E⟩ := isE_ex hp
    have hr := rgH_eq E
    have hK := E.2.1
    ((repeat refine VV.s rfl rfl ?_); (try (conv => arg 3; simp only [Nat.reduceAdd, sto1, sto2, isL, cond_true, cond_false, List.drop_succ_cons, List.drop_zero, List.drop_nil])))
    refine VV.itf (by rw [hN]; exact nI_ge (by omega) (by omega)) ?_
    ((repeat refine VV.s rfl rfl ?_); (try (conv => arg 3; simp only [Nat.reduceAdd, sto1, sto2, isL, cond_true, cond_false, List.drop_succ_cons, List.drop_zero, List.drop_nil])))
    refine VV.callE rfl rfl rfl rfl (f_ringOf R G hp) rfl ?_
    ((repeat refine VV.s rfl rfl ?_); (try (conv => arg 3; simp only [Nat.reduceAdd, sto1, sto2, isL, cond_true, cond_false, List.drop_succ_cons, List.drop_zero, List.drop_nil])))
    rw [rgs]
    have tail : ∀ (b : Bool) d3 d4, (b = true ↔ (2 ≤ rgH h p ∧ rgL h p (hn h) (voH h p) = true)) → V 151 (115, [some (.ref 41), some (.int (nI n)), some (.int (nI p)), d3, d4, some (.int (b01 b))], [], u) (is (.int (nI (rgs h k (p + 1) (if 2 ≤ rgH h p ∧ rgL h p (hn h) (voH h p) = true then n + 1 else n)))) u) := by
      intro b d3 d4 hb
      refine VV.s rfl rfl ?_
      refine VV.s rfl rfl ?_
      refine VV.s rfl rfl ?_
      cases b with
      | true =>
        refine VV.itf (by decide) ?_
        ((repeat (fail_if_success show VV _ _ (38, _, _, _) _); refine VV.s rfl rfl ?_); (try (conv => arg 3; simp only [Nat.reduceAdd, sto1, sto2, isL, cond_true, cond_false, List.drop_succ_cons, List.drop_zero, List.drop_nil])))
        rw [if_pos (hb.mp rfl), nI_1, nI_1]
        exact ih (p + 1) (n + 1) _ _ _ (by omega)
      | false =>
        refine VV.itt rfl ?_
        ((repeat (fail_if_success show VV _ _ (38, _, _, _) _); refine VV.s rfl rfl ?_); (try (conv => arg 3; simp only [Nat.reduceAdd, sto1, sto2, isL, cond_true, cond_false, List.drop_succ_cons, List.drop_zero, List.drop_nil])))
        rw [if_neg (fun e => by have := hb.mpr e; simp at this), nI_1, add0]
        exact ih (p + 1) n _ _ _ (by omega)
    have hl : rgH h p ≤ hn h := by rw [hr]; split <;> omega
    refine VV.ite (fun q => ?_) (fun q => ?_)
    · have q : nI (rgH h p) ≤ nI 1 := q
      have q2 := q
      rw [le_nI (by omega) (by omega)] at q
      ((repeat refine VV.s rfl rfl ?_); (try (conv => arg 3; simp only [Nat.reduceAdd, sto1, sto2, isL, cond_true, cond_false, List.drop_succ_cons, List.drop_zero, List.drop_nil])))
      refine VV.itt q2 ?_
      ((repeat refine VV.s rfl rfl ?_); (try (conv => arg 3; simp only [Nat.reduceAdd, sto1, sto2, isL, cond_true, cond_false, List.drop_succ_cons, List.drop_zero, List.drop_nil])))
      refine VV.itt trivial ?_
      exact tail false _ _ ⟨fun e => by simp at e, fun e => by omega⟩
    · have q : ¬ nI (rgH h p) ≤ nI 1 := q
      have q2 := q
      rw [le_nI (by omega) (by omega)] at q
      have hK2 : nxt h K p = p + 1 := by
        rcases E.2.2.1 with e | e
        · rw [hr, if_pos e] at q; omega
        · exact e
      ((repeat refine VV.s rfl rfl ?_); (try (conv => arg 3; simp only [Nat.reduceAdd, sto1, sto2, isL, cond_true, cond_false, List.drop_succ_cons, List.drop_zero, List.drop_nil])))
      refine VV.callE rfl rfl rfl rfl (f_voiceOf R G (p := p) (by omega)) rfl ?_
      ((repeat refine VV.s rfl rfl ?_); (try (conv => arg 3; simp only [Nat.reduceAdd, sto1, sto2, isL, cond_true, cond_false, List.drop_succ_cons, List.drop_zero, List.drop_nil])))
      refine VV.itf q2 ?_
      ((repeat (fail_if_success show VV _ _ (80, _, _, _) _); refine VV.s rfl rfl ?_); (try (conv => arg 3; simp only [Nat.reduceAdd, sto1, sto2, isL, cond_true, cond_false, List.drop_succ_cons, List.drop_zero, List.drop_nil])))
      refine m_own_in R G hp E hK2 (b := rgL h p (hn h) (voH h p)) (fun d4 => ?_) (K - 1) 1 (hn h) true (by have := E.1; omega) (by omega) (by omega) (by rw [Bool.true_and]; rfl)
      exact tail _ _ _ ⟨fun e => ⟨by omega, e⟩, fun e => e.2⟩
theorem m_own (C : MInv u z) (G : GoodH z.1) : MC 151 [some (.ref 41), none, none, none, none, none] u (.int (nI (owC (hho z.1) (hn z.1) 0 (rgs z.1 (hn z.1) 0 0)))) z := by
  have h6 := G.1.1
  have hN := C.1.1.1
  have lp : ∀ k i a, i + k = hn z.1 → V 151 (4, [some (.ref 41), some (.int (nI a)), some (.int (nI i)), none, none, none], [], u) (is (.int (nI (rgs z.1 (hn z.1) 0 (owC (hho z.1) k i a)))) u) := by
    intro k
    induction k with
    | zero =>
      intro i a hi
      ((repeat refine VV.s rfl rfl ?_); (try (conv => arg 3; simp only [Nat.reduceAdd, sto1, sto2, isL, cond_true, cond_false, List.drop_succ_cons, List.drop_zero, List.drop_nil])))
      refine VV.itt (by rw [hN]; exact nI_le (by omega) (by omega)) ?_
      ((repeat (fail_if_success show VV _ _ (38, _, _, _) _); refine VV.s rfl rfl ?_); (try (conv => arg 3; simp only [Nat.reduceAdd, sto1, sto2, isL, cond_true, cond_false, List.drop_succ_cons, List.drop_zero, List.drop_nil])))
      exact m_own_rings C.1 G (hn z.1) 0 _ none none none (by omega)
    | succ k ih =>
      intro i a hi
      have hl := (G.2.2.1.1 i (show i < hn z.1 by omega)).1
      ((repeat refine VV.s rfl rfl ?_); (try (conv => arg 3; simp only [Nat.reduceAdd, sto1, sto2, isL, cond_true, cond_false, List.drop_succ_cons, List.drop_zero, List.drop_nil])))
      refine VV.itf (by rw [hN]; exact nI_ge (by omega) (by omega)) ?_
      ((repeat refine VV.s rfl rfl ?_); (try (conv => arg 3; simp only [Nat.reduceAdd, sto1, sto2, isL, cond_true, cond_false, List.drop_succ_cons, List.drop_zero, List.drop_nil])))
      refine VV.iald rfl rfl rfl (show i < 6 by omega) (by decide) ?_
      rw [(C.1.2.1 i (show i < hn z.1 by omega)).2.2.2.1]
      ((repeat refine VV.s rfl rfl ?_); (try (conv => arg 3; simp only [Nat.reduceAdd, sto1, sto2, isL, cond_true, cond_false, List.drop_succ_cons, List.drop_zero, List.drop_nil])))
      rw [owC]
      refine VV.ite (fun q => ?_) (fun q => ?_)
      · rw [cI_nI (by omega) (by omega)] at q
        ((repeat (fail_if_success show VV _ _ (4, _, _, _) _); refine VV.s rfl rfl ?_); (try (conv => arg 3; simp only [Nat.reduceAdd, sto1, sto2, isL, cond_true, cond_false, List.drop_succ_cons, List.drop_zero, List.drop_nil])))
        rw [if_neg q, nI_1, nI_1]
        exact ih (i + 1) _ (by omega)
      · rw [cI_nI (by omega) (by omega)] at q
        ((repeat (fail_if_success show VV _ _ (4, _, _, _) _); refine VV.s rfl rfl ?_); (try (conv => arg 3; simp only [Nat.reduceAdd, sto1, sto2, isL, cond_true, cond_false, List.drop_succ_cons, List.drop_zero, List.drop_nil])))
        rw [if_pos (Classical.not_not.mp q), nI_1, add0]
        exact ih (i + 1) a (by omega)
  ((repeat (fail_if_success show VV _ _ (4, _, _, _) _); refine VV.s rfl rfl ?_); (try (conv => arg 3; simp only [Nat.reduceAdd, sto1, sto2, isL, cond_true, cond_false, List.drop_succ_cons, List.drop_zero, List.drop_nil])))
  refine VV.mono (lp (hn z.1) 0 0 (by omega)) (fun r t q => ?_)
  obtain ⟨rfl, rfl⟩ := q
  refine ⟨?_, C, Agr.rf⟩
  rw [rgs_a, owC_a (hho z.1) (hn z.1) 0 (rgs z.1 (hn z.1) 0 0), Nat.add_comm]
end M11
