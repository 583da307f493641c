/-! ===== the class: Lents, steps, the fraction, images, status, counts, the digest, the text's bytes ===== -/
section B5
variable {u : Sg} {z : Zs}
def nxS (x : Nat) : Nat := (x * 1103515245 + 12345) % 2147483648
theorem nxS_lt (x : Nat) : nxS x < 2147483648 := Nat.mod_lt _ (by omega)
theorem e_seed {x : Nat} (hx : x < 2147483648) : V 94 (0, [some (.long (lN x)), none], [], u) (is (.long (lN (nxS x))) u) := by
  ((repeat (fail_if_success show VV _ _ (12, _, _, _) _); refine VV.s rfl rfl ?_); (try (conv => arg 3; simp only [Nat.reduceAdd, sto1, sto2, isL, cond_true, cond_false, List.drop_succ_cons, List.drop_zero, List.drop_nil])))
  refine VV.lrem rfl (by decide) ?_
  refine VV.ret2 rfl ⟨congrArg (fun x => some (Value.long x)) ?_, rfl⟩
  have e1 : lN x * 1103515245 + 12345 = lN (x * 1103515245 + 12345) := by
    have a : (1103515245 : Int64) = lN 1103515245 := rfl
    have b : (12345 : Int64) = lN 12345 := rfl
    rw [a, b, lN_mul, lN_add]
  rw [e1]
  exact pk_lRem (b := 2147483648) (by omega) (by omega) (by omega)
/-- the one, the voice that a number of the seed names -/
def pkS (x n : Nat) : Nat := x / 65536 % n
def lts (n : Nat) : Nat → Nat → Hs → Int32 → Int32
  | 0, _, _, a => a
  | k + 1, x, h, a => lts n k (nxS (nxS x)) (hEv (hLL h (pkS (nxS (nxS x)) n) (pkS (nxS x) n))) (a + evW (hLL h (pkS (nxS (nxS x)) n) (pkS (nxS x) n)))
theorem lN_nz {n : Nat} (h0 : 0 < n) (h : n < 2 ^ 31) : ¬ lN n = 0 := by
  intro q
  have : lN n = lN 0 := q
  rw [lN_eq h (by omega)] at this
  omega
set_option maxHeartbeats 4000000 in
theorem b_lents_loop {sd : Int32} {m n : Nat} (hm : m ≤ 60) (h0 : 0 < n) : ∀ k i x h a t d8 d9, i + k = m → x < 2147483648 → hn h = n → HRep t 10 h → GoodH h → Agr (offH 10) u t → V 73 (63, [some (.ref 0), some (.int sd), some (.int (nI m)), some (.int (nI n)), some (.int a), some (.long (lN x)), none, some (.int (nI i)), d8, d9], [], t) (fun r t => r = some (.int (lts n k x h a)) ∧ Agr (offH 10) u t) := by
  intro k
  induction k with
  | zero =>
    intro i x h a t d8 d9 hi hx hn1 R G A
    ((repeat refine VV.s rfl rfl ?_); (try (conv => arg 3; simp only [Nat.reduceAdd, sto1, sto2, isL, cond_true, cond_false, List.drop_succ_cons, List.drop_zero, List.drop_nil])))
    refine VV.itt (nI_le (by omega) (by omega)) ?_
    ((repeat refine VV.s rfl rfl ?_); (try (conv => arg 3; simp only [Nat.reduceAdd, sto1, sto2, isL, cond_true, cond_false, List.drop_succ_cons, List.drop_zero, List.drop_nil])))
    exact VV.ret1 rfl ⟨rfl, A⟩
  | succ k ih =>
    intro i x h a t d8 d9 hi hx hn1 R G A
    have h6 := G.1.1
    have e0 : (nI n).toInt64 = lN n := nI_l (by omega)
    have l1 := nxS_lt x
    have l2 := nxS_lt (nxS x)
    have e1 : ∀ y, y < 2147483648 → lN y / 65536 = lN (y / 65536) := fun y hy => pk_lDiv (b := 65536) (by omega) (by omega) (by omega)
    have e2 : ∀ y, y < 2147483648 → lN (y / 65536) - lN (y / 65536) / lN n * lN n = lN (pkS y n) := fun y hy => pk_lRem (by omega) h0 (by omega)
    have q1 : pkS (nxS x) n < n := Nat.mod_lt _ h0
    have q2 : pkS (nxS (nxS x)) n < n := Nat.mod_lt _ h0
    ((repeat refine VV.s rfl rfl ?_); (try (conv => arg 3; simp only [Nat.reduceAdd, sto1, sto2, isL, cond_true, cond_false, List.drop_succ_cons, List.drop_zero, List.drop_nil])))
    refine VV.itf (nI_ge (by omega) (by omega)) ?_
    ((repeat refine VV.s rfl rfl ?_); (try (conv => arg 3; simp only [Nat.reduceAdd, sto1, sto2, isL, cond_true, cond_false, List.drop_succ_cons, List.drop_zero, List.drop_nil])))
    refine VV.callE rfl rfl rfl rfl (e_seed hx) rfl ?_
    ((repeat (fail_if_success show VV _ _ (81, _, _, _) _); refine VV.s rfl rfl ?_); (try (conv => arg 3; simp only [Nat.reduceAdd, sto1, sto2, isL, cond_true, cond_false, List.drop_succ_cons, List.drop_zero, List.drop_nil])))
    refine VV.ldiv rfl (by decide) ?_
    ((repeat (fail_if_success show VV _ _ (84, _, _, _) _); refine VV.s rfl rfl ?_); (try (conv => arg 3; simp only [Nat.reduceAdd, sto1, sto2, isL, cond_true, cond_false, List.drop_succ_cons, List.drop_zero, List.drop_nil])))
    rw [e0, e1 _ l1]
    refine VV.lrem rfl (lN_nz h0 (by omega)) ?_
    rw [e2 _ l1]
    ((repeat refine VV.s rfl rfl ?_); (try (conv => arg 3; simp only [Nat.reduceAdd, sto1, sto2, isL, cond_true, cond_false, List.drop_succ_cons, List.drop_zero, List.drop_nil])))
    refine VV.callE rfl rfl rfl rfl (e_seed l1) rfl ?_
    ((repeat (fail_if_success show VV _ _ (100, _, _, _) _); refine VV.s rfl rfl ?_); (try (conv => arg 3; simp only [Nat.reduceAdd, sto1, sto2, isL, cond_true, cond_false, List.drop_succ_cons, List.drop_zero, List.drop_nil])))
    refine VV.ldiv rfl (by decide) ?_
    ((repeat (fail_if_success show VV _ _ (103, _, _, _) _); refine VV.s rfl rfl ?_); (try (conv => arg 3; simp only [Nat.reduceAdd, sto1, sto2, isL, cond_true, cond_false, List.drop_succ_cons, List.drop_zero, List.drop_nil])))
    rw [e0, e1 _ l2]
    refine VV.lrem rfl (lN_nz h0 (by omega)) ?_
    rw [e2 _ l2]
    ((repeat refine VV.s rfl rfl ?_); (try (conv => arg 3; simp only [Nat.reduceAdd, sto1, sto2, isL, cond_true, cond_false, List.drop_succ_cons, List.drop_zero, List.drop_nil])))
    rw [lN_i, lN_i]
    refine VV.call rfl rfl rfl rfl (e_lendOrLeave R G (by omega) (by omega)) (fun r t2 q => ?_)
    obtain ⟨rfl, R2, A2⟩ := q
    ((repeat refine VV.s rfl rfl ?_); (try (conv => arg 3; simp only [Nat.reduceAdd, sto1, sto2, isL, cond_true, cond_false, List.drop_succ_cons, List.drop_zero, List.drop_nil])))
    have G2 := goodLL G (v := pkS (nxS (nxS x)) n) (p := pkS (nxS x) n) (by omega) (by omega)
    refine VV.call rfl rfl rfl rfl (e_goOneEvening (Or.inr rfl) R2 G2) (fun r t3 q => ?_)
    obtain ⟨rfl, R3, A3⟩ := q
    ((repeat (fail_if_success show VV _ _ (63, _, _, _) _); refine VV.s rfl rfl ?_); (try (conv => arg 3; simp only [Nat.reduceAdd, sto1, sto2, isL, cond_true, cond_false, List.drop_succ_cons, List.drop_zero, List.drop_nil])))
    rw [nI_1, lts]
    exact ih (i + 1) _ _ _ _ _ _ (by omega) l2 (by rw [hEv_n, hLL_n, hn1]) R3 (goodEv G2) ((A.tr A2).tr A3)
def lentsBad (x n : Int32) : Prop := (x < 0 ∨ 999999 < x) ∨ (n < 0 ∨ 60 < n)
theorem b_lents_bad (C : CInv u z) {x n : Int32} (h : lentsBad x n) : BC 73 [some (.ref 0), some (.int x), some (.int n), none, none, none, none, none, none, none] u (.int (-2)) (zB z) := by
  by_cases c1 : x < 0 ∨ 999999 < x
  · ((repeat refine VV.s rfl rfl ?_); (try (conv => arg 3; simp only [Nat.reduceAdd, sto1, sto2, isL, cond_true, cond_false, List.drop_succ_cons, List.drop_zero, List.drop_nil])))
    refine VV.callE rfl rfl rfl rfl (e_inN c1) rfl ?_
    refine VV.s rfl rfl ?_
    refine VV.itt (by decide) ?_
    ((repeat refine VV.s rfl rfl ?_); (try (conv => arg 3; simp only [Nat.reduceAdd, sto1, sto2, isL, cond_true, cond_false, List.drop_succ_cons, List.drop_zero, List.drop_nil])))
    refine VV.callE rfl rfl rfl rfl e_bad rfl ?_
    exact VV.ret1 rfl ⟨rfl, C.bad, (Agr.rf).I (by decide)⟩
  · ((repeat refine VV.s rfl rfl ?_); (try (conv => arg 3; simp only [Nat.reduceAdd, sto1, sto2, isL, cond_true, cond_false, List.drop_succ_cons, List.drop_zero, List.drop_nil])))
    refine VV.callE rfl rfl rfl rfl (e_inY c1) rfl ?_
    refine VV.s rfl rfl ?_
    refine VV.itf (by decide) ?_
    ((repeat refine VV.s rfl rfl ?_); (try (conv => arg 3; simp only [Nat.reduceAdd, sto1, sto2, isL, cond_true, cond_false, List.drop_succ_cons, List.drop_zero, List.drop_nil])))
    refine VV.callE rfl rfl rfl rfl (e_inN (h.resolve_left c1)) rfl ?_
    refine VV.s rfl rfl ?_
    refine VV.itf (by decide) ?_
    ((repeat refine VV.s rfl rfl ?_); (try (conv => arg 3; simp only [Nat.reduceAdd, sto1, sto2, isL, cond_true, cond_false, List.drop_succ_cons, List.drop_zero, List.drop_nil])))
    refine VV.callE rfl rfl rfl rfl e_bad rfl ?_
    exact VV.ret1 rfl ⟨rfl, C.bad, (Agr.rf).I (by decide)⟩
theorem b_lents_no (C : CInv u z) {x n : Int32} (h : ¬ lentsBad x n) (h0 : hn z.1 = 0) : BC 73 [some (.ref 0), some (.int x), some (.int n), none, none, none, none, none, none, none] u (.int (-3)) (zN z) := by
  ((repeat refine VV.s rfl rfl ?_); (try (conv => arg 3; simp only [Nat.reduceAdd, sto1, sto2, isL, cond_true, cond_false, List.drop_succ_cons, List.drop_zero, List.drop_nil])))
  refine VV.callE rfl rfl rfl rfl (e_inY (fun q => h (Or.inl q))) rfl ?_
  refine VV.s rfl rfl ?_
  refine VV.itf (by decide) ?_
  ((repeat refine VV.s rfl rfl ?_); (try (conv => arg 3; simp only [Nat.reduceAdd, sto1, sto2, isL, cond_true, cond_false, List.drop_succ_cons, List.drop_zero, List.drop_nil])))
  refine VV.callE rfl rfl rfl rfl (e_inY (fun q => h (Or.inr q))) rfl ?_
  refine VV.s rfl rfl ?_
  refine VV.itt (by decide) ?_
  ((repeat refine VV.s rfl rfl ?_); (try (conv => arg 3; simp only [Nat.reduceAdd, sto1, sto2, isL, cond_true, cond_false, List.drop_succ_cons, List.drop_zero, List.drop_nil])))
  refine VV.itf (by rw [C.1.1.1, h0]; exact fun q => q rfl) ?_
  ((repeat refine VV.s rfl rfl ?_); (try (conv => arg 3; simp only [Nat.reduceAdd, sto1, sto2, isL, cond_true, cond_false, List.drop_succ_cons, List.drop_zero, List.drop_nil])))
  refine VV.callE rfl rfl rfl rfl e_no rfl ?_
  exact VV.ret1 rfl ⟨rfl, C.no, (Agr.rf).I (by decide)⟩
theorem b_lents_ok (C : CInv u z) (G : GoodH z.1) {x m : Nat} (hx : x ≤ 999999) (hm : m ≤ 60) (h : ¬ lentsBad (nI x) (nI m)) (h0 : 0 < hn z.1) : BC 73 [some (.ref 0), some (.int (nI x)), some (.int (nI m)), none, none, none, none, none, none, none] u (.int (lts (hn z.1) m x z.1 0)) z := by
  have h6 := G.1.1
  ((repeat refine VV.s rfl rfl ?_); (try (conv => arg 3; simp only [Nat.reduceAdd, sto1, sto2, isL, cond_true, cond_false, List.drop_succ_cons, List.drop_zero, List.drop_nil])))
  refine VV.callE rfl rfl rfl rfl (e_inY (fun q => h (Or.inl q))) rfl ?_
  refine VV.s rfl rfl ?_
  refine VV.itf (by decide) ?_
  ((repeat refine VV.s rfl rfl ?_); (try (conv => arg 3; simp only [Nat.reduceAdd, sto1, sto2, isL, cond_true, cond_false, List.drop_succ_cons, List.drop_zero, List.drop_nil])))
  refine VV.callE rfl rfl rfl rfl (e_inY (fun q => h (Or.inr q))) rfl ?_
  refine VV.s rfl rfl ?_
  refine VV.itt (by decide) ?_
  ((repeat refine VV.s rfl rfl ?_); (try (conv => arg 3; simp only [Nat.reduceAdd, sto1, sto2, isL, cond_true, cond_false, List.drop_succ_cons, List.drop_zero, List.drop_nil])))
  refine VV.itt (by rw [C.1.1.1]; exact nI_ne0 h0 (by omega)) ?_
  ((repeat refine VV.s rfl rfl ?_); (try (conv => arg 3; simp only [Nat.reduceAdd, sto1, sto2, isL, cond_true, cond_false, List.drop_succ_cons, List.drop_zero, List.drop_nil])))
  refine VV.call rfl rfl rfl rfl (e_becomeLike (a := 10) (b := 1) (Or.inr (Or.inl ⟨rfl, rfl⟩)) C.1 G) (fun r t q => ?_)
  obtain ⟨rfl, R2, A2⟩ := q
  ((repeat (fail_if_success show VV _ _ (63, _, _, _) _); refine VV.s rfl rfl ?_); (try (conv => arg 3; simp only [Nat.reduceAdd, sto1, sto2, isL, cond_true, cond_false, List.drop_succ_cons, List.drop_zero, List.drop_nil])))
  rw [C.1.1.1, nI_l (by omega)]
  refine VV.mono (b_lents_loop hm h0 m 0 x z.1 0 t none none (by omega) (by omega) rfl R2 G A2) (fun r t2 q => ?_)
  obtain ⟨rfl, A3⟩ := q
  exact ⟨rfl, C.off10 A3, onM_off10 A3⟩
/-- a swap done keeps a house good -/
theorem goodEx {h : Hs} (G : GoodH h) {i j : Nat} (hi : i < hn h) (hj : j < hn h) (hne : i ≠ j) : GoodH (hEx h i j) := by
  unfold hEx
  rcases voH_spec h i with ⟨a1, -⟩ | ⟨a, ha, a1, a2⟩
  · rw [a1]; exact G
  · rcases voH_spec h j with ⟨b1, -⟩ | ⟨c, hc, b1, b2⟩
    · rw [a1, b1]; exact G
    · rw [a1, b1]
      have hac : a ≠ c := fun e => hne (by rw [e, b2] at a2; omega)
      have ev : ∀ x, updN (updN (hho h) a (j + 1)) c (i + 1) x = if x = c then i + 1 else if x = a then j + 1 else hho h x := fun x => rfl
      refine ⟨G.1, G.2.1, ⟨fun w hw => ?_, fun w x hw hx e1 e2 => ?_⟩, G.2.2.2.1, G.2.2.2.2⟩
      · refine ⟨?_, (G.2.2.1.1 w hw).2⟩
        show updN (updN (hho h) a (j + 1)) c (i + 1) w ≤ hn h
        rw [ev]
        have := (G.2.2.1.1 w hw).1
        split
        · omega
        · split <;> omega
      · have e1 : updN (updN (hho h) a (j + 1)) c (i + 1) w = updN (updN (hho h) a (j + 1)) c (i + 1) x := e1
        have e2 : updN (updN (hho h) a (j + 1)) c (i + 1) w ≠ 0 := e2
        have hw : w < hn h := hw
        have hx : x < hn h := hx
        rw [ev, ev] at e1
        rw [ev] at e2
        have U : ∀ y, y < hn h → hho h y = i + 1 → y = a := fun y hy e => G.2.2.1.2 y a hy ha (by rw [e, a2]) (by omega)
        have U2 : ∀ y, y < hn h → hho h y = j + 1 → y = c := fun y hy e => G.2.2.1.2 y c hy hc (by rw [e, b2]) (by omega)
        by_cases w1 : w = c
        · rw [if_pos w1] at e1
          by_cases x1 : x = c
          · rw [w1, x1]
          · rw [if_neg x1] at e1
            by_cases x2 : x = a
            · rw [if_pos x2] at e1; omega
            · rw [if_neg x2] at e1; exact absurd (U x hx e1.symm) x2
        · rw [if_neg w1] at e1 e2
          by_cases w2 : w = a
          · rw [if_pos w2] at e1
            by_cases x1 : x = c
            · rw [if_pos x1] at e1; omega
            · rw [if_neg x1] at e1
              by_cases x2 : x = a
              · rw [w2, x2]
              · rw [if_neg x2] at e1; exact absurd (U2 x hx e1.symm) x1
          · rw [if_neg w2] at e1 e2
            by_cases x1 : x = c
            · rw [if_pos x1] at e1; exact absurd (U w hw e1) w2
            · rw [if_neg x1] at e1
              by_cases x2 : x = a
              · rw [if_pos x2] at e1; exact absurd (U2 w hw e1) w1
              · rw [if_neg x2] at e1; exact G.2.2.1.2 w x hw hx e1 e2
theorem hEx_n (h : Hs) (i j : Nat) : hn (hEx h i j) = hn h := by unfold hEx; split <;> rfl
def stp : Nat → Hs → Nat → Nat
  | 0, _, a => a
  | k + 1, h, a => match swapL h with
    | [] => a
    | c :: _ => stp k (hEx h (c / 10) (c % 10)) (a + 1)
set_option maxHeartbeats 4000000 in
theorem b_steps_loop : ∀ k i h a t d3, i + k = 60 → HRep t 10 h → GoodH h → Agr (offH 10) u t → V 63 (15, [some (.ref 0), some (.int (nI a)), some (.int (nI i)), d3], [], t) (fun r t => r = some (.int (nI (stp k h a))) ∧ Agr (offH 10) u t) := by
  intro k
  induction k with
  | zero =>
    intro i h a t d3 hi R G A
    ((repeat refine VV.s rfl rfl ?_); (try (conv => arg 3; simp only [Nat.reduceAdd, sto1, sto2, isL, cond_true, cond_false, List.drop_succ_cons, List.drop_zero, List.drop_nil])))
    refine VV.itt (nI_le (a := 60) (by omega) (by omega)) ?_
    ((repeat refine VV.s rfl rfl ?_); (try (conv => arg 3; simp only [Nat.reduceAdd, sto1, sto2, isL, cond_true, cond_false, List.drop_succ_cons, List.drop_zero, List.drop_nil])))
    exact VV.ret1 rfl ⟨rfl, A⟩
  | succ k ih =>
    intro i h a t d3 hi R G A
    have h6 := G.1.1
    ((repeat refine VV.s rfl rfl ?_); (try (conv => arg 3; simp only [Nat.reduceAdd, sto1, sto2, isL, cond_true, cond_false, List.drop_succ_cons, List.drop_zero, List.drop_nil])))
    refine VV.itf (nI_ge (b := 60) (by omega) (by omega)) ?_
    ((repeat refine VV.s rfl rfl ?_); (try (conv => arg 3; simp only [Nat.reduceAdd, sto1, sto2, isL, cond_true, cond_false, List.drop_succ_cons, List.drop_zero, List.drop_nil])))
    refine VV.callE rfl rfl rfl rfl (e_swapAt (Or.inr rfl) R G (x := 0) (by omega)) rfl ?_
    ((repeat refine VV.s rfl rfl ?_); (try (conv => arg 3; simp only [Nat.reduceAdd, sto1, sto2, isL, cond_true, cond_false, List.drop_succ_cons, List.drop_zero, List.drop_nil])))
    rw [stp]
    unfold kth
    cases hl : swapL h with
    | nil =>
      refine VV.itf (fun q => q rfl) ?_
      ((repeat refine VV.s rfl rfl ?_); (try (conv => arg 3; simp only [Nat.reduceAdd, sto1, sto2, isL, cond_true, cond_false, List.drop_succ_cons, List.drop_zero, List.drop_nil])))
      exact VV.ret1 rfl ⟨rfl, A⟩
    | cons c l =>
      obtain ⟨x, y, h1, h2, hc, -⟩ := swapL_le h (c := c) (by rw [hl]; exact List.mem_cons_self)
      refine VV.itt (nI_ne1 (by omega)) ?_
      ((repeat (fail_if_success show VV _ _ (45, _, _, _) _); refine VV.s rfl rfl ?_); (try (conv => arg 3; simp only [Nat.reduceAdd, sto1, sto2, isL, cond_true, cond_false, List.drop_succ_cons, List.drop_zero, List.drop_nil])))
      refine VV.idiv rfl (by decide) ?_
      ((repeat (fail_if_success show VV _ _ (49, _, _, _) _); refine VV.s rfl rfl ?_); (try (conv => arg 3; simp only [Nat.reduceAdd, sto1, sto2, isL, cond_true, cond_false, List.drop_succ_cons, List.drop_zero, List.drop_nil])))
      refine VV.irem rfl (by decide) ?_
      have e1 : nI c / 10 = nI (c / 10) := pk_div (d := 10) (by omega) (by omega) (by omega)
      have e2 : nI c - nI c / 10 * 10 = nI (c % 10) := pk_rem (d := 10) (by omega) (by omega) (by omega)
      show V _ (50, _, [.int (nI c - nI c / 10 * 10), .int (nI c / 10), _], _) _
      rw [e1] at e2 ⊢
      rw [e2]
      refine VV.call rfl rfl rfl rfl (e_exchange R G (i := c / 10) (j := c % 10) (by omega) (by omega)) (fun r t2 q => ?_)
      obtain ⟨rfl, R2, A2⟩ := q
      ((repeat (fail_if_success show VV _ _ (15, _, _, _) _); refine VV.s rfl rfl ?_); (try (conv => arg 3; simp only [Nat.reduceAdd, sto1, sto2, isL, cond_true, cond_false, List.drop_succ_cons, List.drop_zero, List.drop_nil])))
      rw [nI_1, nI_1]
      exact ih (i + 1) _ _ _ _ (by omega) R2 (goodEx G (by omega) (by omega) (by omega)) (A.tr A2)
theorem b_steps (C : CInv u z) (G : GoodH z.1) : BC 63 [some (.ref 0), none, none, none] u (.int (nI (stp 60 z.1 0))) z := by
  ((repeat refine VV.s rfl rfl ?_); (try (conv => arg 3; simp only [Nat.reduceAdd, sto1, sto2, isL, cond_true, cond_false, List.drop_succ_cons, List.drop_zero, List.drop_nil])))
  refine VV.call rfl rfl rfl rfl (e_becomeLike (a := 10) (b := 1) (Or.inr (Or.inl ⟨rfl, rfl⟩)) C.1 G) (fun r t q => ?_)
  obtain ⟨rfl, R2, A2⟩ := q
  ((repeat (fail_if_success show VV _ _ (15, _, _, _) _); refine VV.s rfl rfl ?_); (try (conv => arg 3; simp only [Nat.reduceAdd, sto1, sto2, isL, cond_true, cond_false, List.drop_succ_cons, List.drop_zero, List.drop_nil])))
  refine VV.mono (b_steps_loop 60 0 z.1 0 t none (by omega) R2 G A2) (fun r t2 q => ?_)
  obtain ⟨rfl, A3⟩ := q
  exact ⟨rfl, C.off10 A3, onM_off10 A3⟩
theorem b_part_bad (C : CInv u z) {w : Int32} (h : w < 0 ∨ 1 < w) : BC 74 [some (.ref 0), some (.int w)] u (.long (-2)) (zB z) := by
  ((repeat refine VV.s rfl rfl ?_); (try (conv => arg 3; simp only [Nat.reduceAdd, sto1, sto2, isL, cond_true, cond_false, List.drop_succ_cons, List.drop_zero, List.drop_nil])))
  refine VV.callE rfl rfl rfl rfl (e_inN h) rfl ?_
  refine VV.s rfl rfl ?_
  refine VV.itf (by decide) ?_
  ((repeat refine VV.s rfl rfl ?_); (try (conv => arg 3; simp only [Nat.reduceAdd, sto1, sto2, isL, cond_true, cond_false, List.drop_succ_cons, List.drop_zero, List.drop_nil])))
  refine VV.callE rfl rfl rfl rfl e_bad rfl ?_
  ((repeat refine VV.s rfl rfl ?_); (try (conv => arg 3; simp only [Nat.reduceAdd, sto1, sto2, isL, cond_true, cond_false, List.drop_succ_cons, List.drop_zero, List.drop_nil])))
  exact VV.ret2 rfl ⟨rfl, C.bad, (Agr.rf).I (by decide)⟩
theorem b_part_0 (C : CInv u z) : BC 74 [some (.ref 0), some (.int (nI 0))] u (.long z.2.2.2.1.1) z := by
  ((repeat refine VV.s rfl rfl ?_); (try (conv => arg 3; simp only [Nat.reduceAdd, sto1, sto2, isL, cond_true, cond_false, List.drop_succ_cons, List.drop_zero, List.drop_nil])))
  refine VV.callE rfl rfl rfl rfl (e_inY (x := nI 0) (by decide)) rfl ?_
  refine VV.s rfl rfl ?_
  refine VV.itt (by decide) ?_
  refine VV.s rfl rfl ?_
  refine VV.s rfl rfl ?_
  refine VV.itf (fun q => q rfl) ?_
  ((repeat refine VV.s rfl rfl ?_); (try (conv => arg 3; simp only [Nat.reduceAdd, sto1, sto2, isL, cond_true, cond_false, List.drop_succ_cons, List.drop_zero, List.drop_nil])))
  exact VV.ret2 rfl ⟨by rw [C.2.2.2.2.1.1], C, Agr.rf⟩
theorem b_part_1 (C : CInv u z) : BC 74 [some (.ref 0), some (.int (nI 1))] u (.long z.2.2.2.1.2) z := by
  ((repeat refine VV.s rfl rfl ?_); (try (conv => arg 3; simp only [Nat.reduceAdd, sto1, sto2, isL, cond_true, cond_false, List.drop_succ_cons, List.drop_zero, List.drop_nil])))
  refine VV.callE rfl rfl rfl rfl (e_inY (x := nI 1) (by decide)) rfl ?_
  refine VV.s rfl rfl ?_
  refine VV.itt (by decide) ?_
  refine VV.s rfl rfl ?_
  refine VV.s rfl rfl ?_
  refine VV.itt (by decide) ?_
  ((repeat refine VV.s rfl rfl ?_); (try (conv => arg 3; simp only [Nat.reduceAdd, sto1, sto2, isL, cond_true, cond_false, List.drop_succ_cons, List.drop_zero, List.drop_nil])))
  exact VV.ret2 rfl ⟨by rw [C.2.2.2.2.1.2], C, Agr.rf⟩
theorem b_image_bad (C : CInv u z) {w : Int32} (h : w < 0 ∨ 1 < w) : BC 75 [some (.ref 0), some (.int w)] u (.int (-2)) (zB z) := by
  ((repeat refine VV.s rfl rfl ?_); (try (conv => arg 3; simp only [Nat.reduceAdd, sto1, sto2, isL, cond_true, cond_false, List.drop_succ_cons, List.drop_zero, List.drop_nil])))
  refine VV.callE rfl rfl rfl rfl (e_inN h) rfl ?_
  refine VV.s rfl rfl ?_
  refine VV.itf (by decide) ?_
  ((repeat refine VV.s rfl rfl ?_); (try (conv => arg 3; simp only [Nat.reduceAdd, sto1, sto2, isL, cond_true, cond_false, List.drop_succ_cons, List.drop_zero, List.drop_nil])))
  refine VV.callE rfl rfl rfl rfl e_bad rfl ?_
  exact VV.ret1 rfl ⟨rfl, C.bad, (Agr.rf).I (by decide)⟩
theorem b_image_0 (C : CInv u z) (G : GoodH z.1) : BC 75 [some (.ref 0), some (.int (nI 0))] u (.int 1) (z.1, (some z.1, z.2.1.2), z.2.2) := by
  ((repeat refine VV.s rfl rfl ?_); (try (conv => arg 3; simp only [Nat.reduceAdd, sto1, sto2, isL, cond_true, cond_false, List.drop_succ_cons, List.drop_zero, List.drop_nil])))
  refine VV.callE rfl rfl rfl rfl (e_inY (x := nI 0) (by decide)) rfl ?_
  refine VV.s rfl rfl ?_
  refine VV.itt (by decide) ?_
  refine VV.s rfl rfl ?_
  refine VV.s rfl rfl ?_
  refine VV.itf (fun q => q rfl) ?_
  ((repeat refine VV.s rfl rfl ?_); (try (conv => arg 3; simp only [Nat.reduceAdd, sto1, sto2, isL, cond_true, cond_false, List.drop_succ_cons, List.drop_zero, List.drop_nil])))
  refine VV.call rfl rfl rfl rfl (e_becomeLike (a := 19) (b := 1) (Or.inr (Or.inr (Or.inl ⟨rfl, rfl⟩))) C.1 G) (fun r t q => ?_)
  obtain ⟨rfl, R2, A2⟩ := q
  ((repeat (fail_if_success show VV _ _ (31, _, _, _) _); refine VV.s rfl rfl ?_); (try (conv => arg 3; simp only [Nat.reduceAdd, sto1, sto2, isL, cond_true, cond_false, List.drop_succ_cons, List.drop_zero, List.drop_nil])))
  refine VV.putZ rfl rfl (Or.inr rfl) ?_
  ((repeat refine VV.s rfl rfl ?_); (try (conv => arg 3; simp only [Nat.reduceAdd, sto1, sto2, isL, cond_true, cond_false, List.drop_succ_cons, List.drop_zero, List.drop_nil])))
  obtain ⟨h1, h2, h3, ⟨h4, h5⟩, ⟨h6, h7⟩, h8, h9, h10⟩ := C
  have A3 : Agr (fun k => 41 ≤ k) u (pI t 0 4 1) := (A2.sub (fun k hk => by right; omega)).I (by decide)
  have g0 := A2 0 (by left; omega)
  have g37 := A2 37 (by right; omega)
  have g38 := A2 38 (by right; omega)
  refine VV.ret1 rfl ⟨rfl, ⟨(h1.keep (A2.sub (fun k hk => by have := hk.2; left; omega))).I0 (by omega), ⟨rfl, R2.I0 (by omega)⟩, ?_, ⟨by show gI t 37 1 = _; rw [g37.1]; exact h4, fun j hj => by show gA t 38 j = _; rw [g38.2.2]; exact h5 j hj⟩, ⟨by show gJ t 0 9 = _; rw [g0.2.1]; exact h6, by show gJ t 0 10 = _; rw [g0.2.1]; exact h7⟩, by show gI t 0 11 = _; rw [g0.1]; exact h8, by show gI t 0 12 = _; rw [g0.1]; exact h9, by show gI t 0 13 = _; rw [g0.1]; exact h10⟩, A3⟩
  refine ImC.I0 ?_ (by omega) (by omega)
  show ImC t 5 28 z.2.1.2
  revert h3
  cases z.2.1.2 with
  | none => intro h2; show gI t 0 5 = 0; rw [g0.1]; exact h2
  | some q => intro h2; exact ⟨by rw [g0.1]; exact h2.1, h2.2.keep (A2.sub (fun k hk => by have := hk.1; right; omega))⟩
theorem b_image_1 (C : CInv u z) (G : GoodH z.1) : BC 75 [some (.ref 0), some (.int (nI 1))] u (.int 1) (z.1, (z.2.1.1, some z.1), z.2.2) := by
  ((repeat refine VV.s rfl rfl ?_); (try (conv => arg 3; simp only [Nat.reduceAdd, sto1, sto2, isL, cond_true, cond_false, List.drop_succ_cons, List.drop_zero, List.drop_nil])))
  refine VV.callE rfl rfl rfl rfl (e_inY (x := nI 1) (by decide)) rfl ?_
  refine VV.s rfl rfl ?_
  refine VV.itt (by decide) ?_
  refine VV.s rfl rfl ?_
  refine VV.s rfl rfl ?_
  refine VV.itt (by decide) ?_
  ((repeat refine VV.s rfl rfl ?_); (try (conv => arg 3; simp only [Nat.reduceAdd, sto1, sto2, isL, cond_true, cond_false, List.drop_succ_cons, List.drop_zero, List.drop_nil])))
  refine VV.call rfl rfl rfl rfl (e_becomeLike (a := 28) (b := 1) (Or.inr (Or.inr (Or.inr (Or.inl ⟨rfl, rfl⟩)))) C.1 G) (fun r t q => ?_)
  obtain ⟨rfl, R2, A2⟩ := q
  ((repeat (fail_if_success show VV _ _ (50, _, _, _) _); refine VV.s rfl rfl ?_); (try (conv => arg 3; simp only [Nat.reduceAdd, sto1, sto2, isL, cond_true, cond_false, List.drop_succ_cons, List.drop_zero, List.drop_nil])))
  refine VV.putZ rfl rfl (Or.inr rfl) ?_
  ((repeat refine VV.s rfl rfl ?_); (try (conv => arg 3; simp only [Nat.reduceAdd, sto1, sto2, isL, cond_true, cond_false, List.drop_succ_cons, List.drop_zero, List.drop_nil])))
  obtain ⟨h1, h2, h3, ⟨h4, h5⟩, ⟨h6, h7⟩, h8, h9, h10⟩ := C
  have A3 : Agr (fun k => 41 ≤ k) u (pI t 0 5 1) := (A2.sub (fun k hk => by right; omega)).I (by decide)
  have g0 := A2 0 (by left; omega)
  have g37 := A2 37 (by right; omega)
  have g38 := A2 38 (by right; omega)
  refine VV.ret1 rfl ⟨rfl, ⟨(h1.keep (A2.sub (fun k hk => by have := hk.2; left; omega))).I0 (by omega), ?_, ⟨rfl, R2.I0 (by omega)⟩, ⟨by show gI t 37 1 = _; rw [g37.1]; exact h4, fun j hj => by show gA t 38 j = _; rw [g38.2.2]; exact h5 j hj⟩, ⟨by show gJ t 0 9 = _; rw [g0.2.1]; exact h6, by show gJ t 0 10 = _; rw [g0.2.1]; exact h7⟩, by show gI t 0 11 = _; rw [g0.1]; exact h8, by show gI t 0 12 = _; rw [g0.1]; exact h9, by show gI t 0 13 = _; rw [g0.1]; exact h10⟩, A3⟩
  refine ImC.I0 ?_ (by omega) (by omega)
  show ImC t 4 19 z.2.1.1
  revert h2
  cases z.2.1.1 with
  | none => intro h2; show gI t 0 4 = 0; rw [g0.1]; exact h2
  | some q => intro h2; exact ⟨by rw [g0.1]; exact h2.1, h2.2.keep (A2.sub (fun k hk => by have := hk.2; left; omega))⟩
theorem b_from_bad (C : CInv u z) {w : Int32} (h : w < 0 ∨ 1 < w) : BC 76 [some (.ref 0), some (.int w)] u (.int (-2)) (zB z) := by
  ((repeat refine VV.s rfl rfl ?_); (try (conv => arg 3; simp only [Nat.reduceAdd, sto1, sto2, isL, cond_true, cond_false, List.drop_succ_cons, List.drop_zero, List.drop_nil])))
  refine VV.callE rfl rfl rfl rfl (e_inN h) rfl ?_
  refine VV.s rfl rfl ?_
  refine VV.itf (by decide) ?_
  ((repeat refine VV.s rfl rfl ?_); (try (conv => arg 3; simp only [Nat.reduceAdd, sto1, sto2, isL, cond_true, cond_false, List.drop_succ_cons, List.drop_zero, List.drop_nil])))
  refine VV.callE rfl rfl rfl rfl e_bad rfl ?_
  exact VV.ret1 rfl ⟨rfl, C.bad, (Agr.rf).I (by decide)⟩
theorem b_from_0_no (C : CInv u z) (h : z.2.1.1 = none) : BC 76 [some (.ref 0), some (.int (nI 0))] u (.int (-3)) (zN z) := by
  have hk := C.2.1
  rw [h] at hk
  ((repeat refine VV.s rfl rfl ?_); (try (conv => arg 3; simp only [Nat.reduceAdd, sto1, sto2, isL, cond_true, cond_false, List.drop_succ_cons, List.drop_zero, List.drop_nil])))
  refine VV.callE rfl rfl rfl rfl (e_inY (x := nI 0) (by decide)) rfl ?_
  refine VV.s rfl rfl ?_
  refine VV.itt (by decide) ?_
  refine VV.s rfl rfl ?_
  refine VV.s rfl rfl ?_
  refine VV.itf (fun q => q rfl) ?_
  ((repeat refine VV.s rfl rfl ?_); (try (conv => arg 3; simp only [Nat.reduceAdd, sto1, sto2, isL, cond_true, cond_false, List.drop_succ_cons, List.drop_zero, List.drop_nil])))
  refine VV.itt hk ?_
  ((repeat refine VV.s rfl rfl ?_); (try (conv => arg 3; simp only [Nat.reduceAdd, sto1, sto2, isL, cond_true, cond_false, List.drop_succ_cons, List.drop_zero, List.drop_nil])))
  refine VV.callE rfl rfl rfl rfl e_no rfl ?_
  exact VV.ret1 rfl ⟨rfl, C.no, (Agr.rf).I (by decide)⟩
theorem b_from_1_no (C : CInv u z) (h : z.2.1.2 = none) : BC 76 [some (.ref 0), some (.int (nI 1))] u (.int (-3)) (zN z) := by
  have hk := C.2.2.1
  rw [h] at hk
  ((repeat refine VV.s rfl rfl ?_); (try (conv => arg 3; simp only [Nat.reduceAdd, sto1, sto2, isL, cond_true, cond_false, List.drop_succ_cons, List.drop_zero, List.drop_nil])))
  refine VV.callE rfl rfl rfl rfl (e_inY (x := nI 1) (by decide)) rfl ?_
  refine VV.s rfl rfl ?_
  refine VV.itt (by decide) ?_
  refine VV.s rfl rfl ?_
  refine VV.s rfl rfl ?_
  refine VV.itt (by decide) ?_
  ((repeat refine VV.s rfl rfl ?_); (try (conv => arg 3; simp only [Nat.reduceAdd, sto1, sto2, isL, cond_true, cond_false, List.drop_succ_cons, List.drop_zero, List.drop_nil])))
  refine VV.itf (fun q => q hk) ?_
  ((repeat refine VV.s rfl rfl ?_); (try (conv => arg 3; simp only [Nat.reduceAdd, sto1, sto2, isL, cond_true, cond_false, List.drop_succ_cons, List.drop_zero, List.drop_nil])))
  refine VV.callE rfl rfl rfl rfl e_no rfl ?_
  exact VV.ret1 rfl ⟨rfl, C.no, (Agr.rf).I (by decide)⟩
theorem b_from_0 (C : CInv u z) {h : Hs} (e : z.2.1.1 = some h) (G : GoodH h) : BC 76 [some (.ref 0), some (.int (nI 0))] u (.int 1) (zH z h) := by
  have hk := C.2.1
  rw [e] at hk
  ((repeat refine VV.s rfl rfl ?_); (try (conv => arg 3; simp only [Nat.reduceAdd, sto1, sto2, isL, cond_true, cond_false, List.drop_succ_cons, List.drop_zero, List.drop_nil])))
  refine VV.callE rfl rfl rfl rfl (e_inY (x := nI 0) (by decide)) rfl ?_
  refine VV.s rfl rfl ?_
  refine VV.itt (by decide) ?_
  refine VV.s rfl rfl ?_
  refine VV.s rfl rfl ?_
  refine VV.itf (fun q => q rfl) ?_
  ((repeat refine VV.s rfl rfl ?_); (try (conv => arg 3; simp only [Nat.reduceAdd, sto1, sto2, isL, cond_true, cond_false, List.drop_succ_cons, List.drop_zero, List.drop_nil])))
  refine VV.itf (by rw [hk.1]; decide) ?_
  refine VV.s rfl rfl ?_
  refine VV.s rfl rfl ?_
  refine VV.s rfl rfl ?_
  refine VV.s rfl rfl ?_
  refine VV.s rfl rfl ?_
  refine VV.itf (fun q => q rfl) ?_
  ((repeat refine VV.s rfl rfl ?_); (try (conv => arg 3; simp only [Nat.reduceAdd, sto1, sto2, isL, cond_true, cond_false, List.drop_succ_cons, List.drop_zero, List.drop_nil])))
  refine VV.call rfl rfl rfl rfl (e_becomeLike (a := 1) (b := 19) (Or.inr (Or.inr (Or.inr (Or.inr (Or.inl ⟨rfl, rfl⟩))))) hk.2 G) (fun r t q => ?_)
  obtain ⟨rfl, R2, A2⟩ := q
  ((repeat refine VV.s rfl rfl ?_); (try (conv => arg 3; simp only [Nat.reduceAdd, sto1, sto2, isL, cond_true, cond_false, List.drop_succ_cons, List.drop_zero, List.drop_nil])))
  exact VV.ret1 rfl ⟨rfl, C.house R2 A2, onM_off1 A2⟩
theorem b_from_1 (C : CInv u z) {h : Hs} (e : z.2.1.2 = some h) (G : GoodH h) : BC 76 [some (.ref 0), some (.int (nI 1))] u (.int 1) (zH z h) := by
  have hk := C.2.2.1
  rw [e] at hk
  ((repeat refine VV.s rfl rfl ?_); (try (conv => arg 3; simp only [Nat.reduceAdd, sto1, sto2, isL, cond_true, cond_false, List.drop_succ_cons, List.drop_zero, List.drop_nil])))
  refine VV.callE rfl rfl rfl rfl (e_inY (x := nI 1) (by decide)) rfl ?_
  refine VV.s rfl rfl ?_
  refine VV.itt (by decide) ?_
  refine VV.s rfl rfl ?_
  refine VV.s rfl rfl ?_
  refine VV.itt (by decide) ?_
  ((repeat refine VV.s rfl rfl ?_); (try (conv => arg 3; simp only [Nat.reduceAdd, sto1, sto2, isL, cond_true, cond_false, List.drop_succ_cons, List.drop_zero, List.drop_nil])))
  refine VV.itt (by rw [hk.1]; decide) ?_
  refine VV.s rfl rfl ?_
  refine VV.s rfl rfl ?_
  refine VV.s rfl rfl ?_
  refine VV.s rfl rfl ?_
  refine VV.itt (by decide) ?_
  ((repeat refine VV.s rfl rfl ?_); (try (conv => arg 3; simp only [Nat.reduceAdd, sto1, sto2, isL, cond_true, cond_false, List.drop_succ_cons, List.drop_zero, List.drop_nil])))
  refine VV.call rfl rfl rfl rfl (e_becomeLike (a := 1) (b := 28) (Or.inr (Or.inr (Or.inr (Or.inr (Or.inr ⟨rfl, rfl⟩))))) hk.2 G) (fun r t q => ?_)
  obtain ⟨rfl, R2, A2⟩ := q
  ((repeat refine VV.s rfl rfl ?_); (try (conv => arg 3; simp only [Nat.reduceAdd, sto1, sto2, isL, cond_true, cond_false, List.drop_succ_cons, List.drop_zero, List.drop_nil])))
  exact VV.ret1 rfl ⟨rfl, C.house R2 A2, onM_off1 A2⟩
theorem b_status_bad (C : CInv u z) {w : Int32} (h : w < 0 ∨ 2 < w) : BC 77 [some (.ref 0), some (.int w)] u (.int (-1)) (zB z) := by
  ((repeat refine VV.s rfl rfl ?_); (try (conv => arg 3; simp only [Nat.reduceAdd, sto1, sto2, isL, cond_true, cond_false, List.drop_succ_cons, List.drop_zero, List.drop_nil])))
  refine V.pc (show swT 0 [28, 33, 38] 43 w = 43 from ?_) ?_
  · rw [swT, if_pos]
    rcases h with h | h
    · exact Or.inl (Int32.lt_iff_toInt_lt.mp h)
    · have := Int32.lt_iff_toInt_lt.mp h
      have e : (2 : Int32).toInt = 2 := rfl
      exact Or.inr (by rw [e] at this; simp; omega)
  · ((repeat refine VV.s rfl rfl ?_); (try (conv => arg 3; simp only [Nat.reduceAdd, sto1, sto2, isL, cond_true, cond_false, List.drop_succ_cons, List.drop_zero, List.drop_nil])))
    exact VV.ret1 rfl ⟨rfl, C.bad, (Agr.rf).I (by decide)⟩
def stI (z : Zs) : Nat → Int32
  | 0 => z.2.2.2.2.1
  | 1 => z.2.2.2.2.2.1
  | _ => z.2.2.2.2.2.2
theorem b_status_ok (C : CInv u z) {w : Nat} (hw : w ≤ 2) : BC 77 [some (.ref 0), some (.int (nI w))] u (.int (stI z w)) z := by
  obtain ⟨-, -, -, -, -, h8, h9, h10⟩ := id C
  refine VV.s rfl rfl ?_
  refine VV.s rfl rfl ?_
  rcases (show w = 0 ∨ w = 1 ∨ w = 2 by omega) with rfl | rfl | rfl
  · refine V.pc (swT_in (by omega) (by decide) (by decide) rfl) ?_
    ((repeat refine VV.s rfl rfl ?_); (try (conv => arg 3; simp only [Nat.reduceAdd, sto1, sto2, isL, cond_true, cond_false, List.drop_succ_cons, List.drop_zero, List.drop_nil])))
    exact VV.ret1 rfl ⟨by rw [h8]; rfl, C, Agr.rf⟩
  · refine V.pc (swT_in (by omega) (by decide) (by decide) rfl) ?_
    ((repeat refine VV.s rfl rfl ?_); (try (conv => arg 3; simp only [Nat.reduceAdd, sto1, sto2, isL, cond_true, cond_false, List.drop_succ_cons, List.drop_zero, List.drop_nil])))
    exact VV.ret1 rfl ⟨by rw [h9]; rfl, C, Agr.rf⟩
  · refine V.pc (swT_in (by omega) (by decide) (by decide) rfl) ?_
    ((repeat refine VV.s rfl rfl ?_); (try (conv => arg 3; simp only [Nat.reduceAdd, sto1, sto2, isL, cond_true, cond_false, List.drop_succ_cons, List.drop_zero, List.drop_nil])))
    exact VV.ret1 rfl ⟨by rw [h10]; rfl, C, Agr.rf⟩
def hmI (z : Zs) : Nat → Int32
  | 0 => nI (hn z.1)
  | 1 => nI (hev z.1)
  | 2 => nI (ctrH z.1)
  | 3 => smsH z.1
  | 4 => nI (hnn z.1)
  | 5 => nI (hun z.1)
  | _ => nI z.2.2.1.1
theorem e_howMany (C : CInv u z) (G : GoodH z.1) {w : Nat} (hw : w ≤ 6) : V 87 (0, [some (.ref 0), some (.int (nI w))], [], u) (is (.int (hmI z w)) u) := by
  obtain ⟨h1, -, -, ⟨h4, -⟩, -⟩ := id C
  refine VV.s rfl rfl ?_
  refine VV.s rfl rfl ?_
  rcases (show w = 0 ∨ w = 1 ∨ w = 2 ∨ w = 3 ∨ w = 4 ∨ w = 5 ∨ w = 6 by omega) with rfl | rfl | rfl | rfl | rfl | rfl | rfl
  · refine V.pc (swT_in (by omega) (by decide) (by decide) rfl) ?_
    ((repeat refine VV.s rfl rfl ?_); (try (conv => arg 3; simp only [Nat.reduceAdd, sto1, sto2, isL, cond_true, cond_false, List.drop_succ_cons, List.drop_zero, List.drop_nil])))
    exact VV.ret1 rfl ⟨by rw [h1.1.1]; rfl, rfl⟩
  · refine V.pc (swT_in (by omega) (by decide) (by decide) rfl) ?_
    ((repeat refine VV.s rfl rfl ?_); (try (conv => arg 3; simp only [Nat.reduceAdd, sto1, sto2, isL, cond_true, cond_false, List.drop_succ_cons, List.drop_zero, List.drop_nil])))
    exact VV.ret1 rfl ⟨by rw [h1.1.2.1]; rfl, rfl⟩
  · refine V.pc (swT_in (by omega) (by decide) (by decide) rfl) ?_
    ((repeat refine VV.s rfl rfl ?_); (try (conv => arg 3; simp only [Nat.reduceAdd, sto1, sto2, isL, cond_true, cond_false, List.drop_succ_cons, List.drop_zero, List.drop_nil])))
    refine VV.callE rfl rfl rfl rfl (e_atCounter h1 G) rfl ?_
    exact VV.ret1 rfl ⟨rfl, rfl⟩
  · refine V.pc (swT_in (by omega) (by decide) (by decide) rfl) ?_
    ((repeat refine VV.s rfl rfl ?_); (try (conv => arg 3; simp only [Nat.reduceAdd, sto1, sto2, isL, cond_true, cond_false, List.drop_succ_cons, List.drop_zero, List.drop_nil])))
    refine VV.callE rfl rfl rfl rfl (e_allSlipped h1 G) rfl ?_
    exact VV.ret1 rfl ⟨rfl, rfl⟩
  · refine V.pc (swT_in (by omega) (by decide) (by decide) rfl) ?_
    ((repeat refine VV.s rfl rfl ?_); (try (conv => arg 3; simp only [Nat.reduceAdd, sto1, sto2, isL, cond_true, cond_false, List.drop_succ_cons, List.drop_zero, List.drop_nil])))
    exact VV.ret1 rfl ⟨by rw [h1.1.2.2.1]; rfl, rfl⟩
  · refine V.pc (swT_in (by omega) (by decide) (by decide) rfl) ?_
    ((repeat refine VV.s rfl rfl ?_); (try (conv => arg 3; simp only [Nat.reduceAdd, sto1, sto2, isL, cond_true, cond_false, List.drop_succ_cons, List.drop_zero, List.drop_nil])))
    exact VV.ret1 rfl ⟨by rw [h1.1.2.2.2]; rfl, rfl⟩
  · refine V.pc (swT_out (by omega) (by decide)) ?_
    ((repeat refine VV.s rfl rfl ?_); (try (conv => arg 3; simp only [Nat.reduceAdd, sto1, sto2, isL, cond_true, cond_false, List.drop_succ_cons, List.drop_zero, List.drop_nil])))
    exact VV.ret1 rfl ⟨by rw [h4]; rfl, rfl⟩
theorem b_count_bad (C : CInv u z) {w : Int32} (h : w < 0 ∨ 6 < w) : BC 78 [some (.ref 0), some (.int w)] u (.int (-2)) (zB z) := by
  ((repeat refine VV.s rfl rfl ?_); (try (conv => arg 3; simp only [Nat.reduceAdd, sto1, sto2, isL, cond_true, cond_false, List.drop_succ_cons, List.drop_zero, List.drop_nil])))
  refine VV.callE rfl rfl rfl rfl (e_inN h) rfl ?_
  refine VV.s rfl rfl ?_
  refine VV.itt (by decide) ?_
  ((repeat refine VV.s rfl rfl ?_); (try (conv => arg 3; simp only [Nat.reduceAdd, sto1, sto2, isL, cond_true, cond_false, List.drop_succ_cons, List.drop_zero, List.drop_nil])))
  refine VV.callE rfl rfl rfl rfl e_bad rfl ?_
  exact VV.ret1 rfl ⟨rfl, C.bad, (Agr.rf).I (by decide)⟩
theorem b_count_ok (C : CInv u z) (G : GoodH z.1) {w : Nat} (hw : w ≤ 6) (h : ¬ (nI w < 0 ∨ 6 < nI w)) : BC 78 [some (.ref 0), some (.int (nI w))] u (.int (hmI z w)) z := by
  ((repeat refine VV.s rfl rfl ?_); (try (conv => arg 3; simp only [Nat.reduceAdd, sto1, sto2, isL, cond_true, cond_false, List.drop_succ_cons, List.drop_zero, List.drop_nil])))
  refine VV.callE rfl rfl rfl rfl (e_inY h) rfl ?_
  refine VV.s rfl rfl ?_
  refine VV.itf (by decide) ?_
  ((repeat refine VV.s rfl rfl ?_); (try (conv => arg 3; simp only [Nat.reduceAdd, sto1, sto2, isL, cond_true, cond_false, List.drop_succ_cons, List.drop_zero, List.drop_nil])))
  refine VV.callE rfl rfl rfl rfl (e_howMany C G hw) rfl ?_
  ((repeat refine VV.s rfl rfl ?_); (try (conv => arg 3; simp only [Nat.reduceAdd, sto1, sto2, isL, cond_true, cond_false, List.drop_succ_cons, List.drop_zero, List.drop_nil])))
  exact VV.ret1 rfl ⟨rfl, C, Agr.rf⟩
end B5
