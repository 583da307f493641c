/-! ===== the class: thieves ===== -/
section B7
variable {u : Sg} {z : Zs}
theorem e_power {c k : Nat} (hc : c < 2 ^ 31) (hk : k < 2 ^ 31) : V 91 (0, [some (.int (nI c)), some (.int (nI k)), none, none, none], [], u) (is (.long (lN (c ^ k))) u) := by
  have lp : ∀ d i, i + d = k → V 91 (5, [some (.int (nI c)), some (.int (nI k)), some (.long (lN (c ^ i))), none, some (.int (nI i))], [], u) (is (.long (lN (c ^ k))) u) := by
    intro d
    induction d with
    | zero =>
      intro i hi
      have hi : i = k := by omega
      subst hi
      refine VV.s rfl rfl ?_
      refine VV.s rfl rfl ?_
      refine VV.s rfl rfl ?_
      refine VV.itt (nI_le (by omega) (by omega)) ?_
      ((repeat refine VV.s rfl rfl ?_); (try (conv => arg 3; simp only [Nat.reduceAdd, sto1, sto2, isL, cond_true, cond_false, List.drop_succ_cons, List.drop_zero, List.drop_nil])))
      exact VV.ret2 rfl ⟨rfl, rfl⟩
    | succ d ih =>
      intro i hi
      ((repeat refine VV.s rfl rfl ?_); (try (conv => arg 3; simp only [Nat.reduceAdd, sto1, sto2, isL, cond_true, cond_false, List.drop_succ_cons, List.drop_zero, List.drop_nil])))
      refine VV.itf (nI_ge (by omega) (by omega)) ?_
      ((repeat (fail_if_success show VV _ _ (5, _, _, _) _); refine VV.s rfl rfl ?_); (try (conv => arg 3; simp only [Nat.reduceAdd, sto1, sto2, isL, cond_true, cond_false, List.drop_succ_cons, List.drop_zero, List.drop_nil])))
      rw [nI_l hc, lN_mul, ← Nat.pow_succ, nI_1]
      exact ih (i + 1) (by omega)
  ((repeat (fail_if_success show VV _ _ (5, _, _, _) _); refine VV.s rfl rfl ?_); (try (conv => arg 3; simp only [Nat.reduceAdd, sto1, sto2, isL, cond_true, cond_false, List.drop_succ_cons, List.drop_zero, List.drop_nil])))
  exact lp k 0 (by omega)
theorem lcE {b : Nat} (hb : b < 2 ^ 31) : lg_cmp (lN b) 0 = 0 ↔ b = 0 := by
  rw [lg_cmp_eq]
  exact lN_eq hb (b := 0) (by omega)
theorem e_gcd1 {a b i : Nat} {d5 d6 : Option Value} (ha : a < 2 ^ 31) (hb : b < 2 ^ 31) (hi : i < 100) {Q : Option Value → Sg → Prop} (h0 : b = 0 → Q (some (.long (lN a))) u) (h1 : 0 < b → V 93 (3, [some (.long (lN b)), none, some (.long (lN (a % b))), none, some (.int (nI (i + 1))), some (.long (lN (a % b))), none], [], u) Q) : V 93 (3, [some (.long (lN a)), none, some (.long (lN b)), none, some (.int (nI i)), d5, d6], [], u) Q := by
  ((repeat refine VV.s rfl rfl ?_); (try (conv => arg 3; simp only [Nat.reduceAdd, sto1, sto2, isL, cond_true, cond_false, List.drop_succ_cons, List.drop_zero, List.drop_nil])))
  refine VV.itf (nI_ge (b := 100) (by omega) (by omega)) ?_
  ((repeat refine VV.s rfl rfl ?_); (try (conv => arg 3; simp only [Nat.reduceAdd, sto1, sto2, isL, cond_true, cond_false, List.drop_succ_cons, List.drop_zero, List.drop_nil])))
  refine VV.ite (fun q => ?_) (fun q => ?_)
  · rw [lcE hb] at q
    ((repeat refine VV.s rfl rfl ?_); (try (conv => arg 3; simp only [Nat.reduceAdd, sto1, sto2, isL, cond_true, cond_false, List.drop_succ_cons, List.drop_zero, List.drop_nil])))
    exact VV.ret2 rfl (h0 q)
  · rw [lcE hb] at q
    ((repeat (fail_if_success show VV _ _ (18, _, _, _) _); refine VV.s rfl rfl ?_); (try (conv => arg 3; simp only [Nat.reduceAdd, sto1, sto2, isL, cond_true, cond_false, List.drop_succ_cons, List.drop_zero, List.drop_nil])))
    refine VV.lrem rfl (lN_nz (by omega) (by omega)) ?_
    ((repeat (fail_if_success show VV _ _ (3, _, _, _) _); refine VV.s rfl rfl ?_); (try (conv => arg 3; simp only [Nat.reduceAdd, sto1, sto2, isL, cond_true, cond_false, List.drop_succ_cons, List.drop_zero, List.drop_nil])))
    rw [pk_lRem (by omega) (by omega) (by omega), nI_1]
    exact h1 (by omega)
theorem half {a b r : Nat} (k : Nat) (hb : b < 2 ^ (k + 1)) (hr : 0 < r) (h : r < b) : b % r < 2 ^ k := by
  have h1 := Nat.mod_lt b hr
  have h2 := Nat.div_add_mod b r
  have h3 : 1 ≤ b / r := (Nat.one_le_div_iff hr).mpr (by omega)
  have h4 : r * 1 ≤ r * (b / r) := Nat.mul_le_mul_left r h3
  rw [Nat.pow_succ] at hb
  omega
theorem e_gcd : ∀ k a b i d5 d6, a < 2 ^ 31 → b < 2 ^ 31 → b < 2 ^ k → i + 2 * k + 1 ≤ 100 → V 93 (3, [some (.long (lN a)), none, some (.long (lN b)), none, some (.int (nI i)), d5, d6], [], u) (is (.long (lN (Nat.gcd a b))) u) := by
  intro k
  induction k with
  | zero =>
    intro a b i d5 d6 ha hb hk hi
    have hk : b = 0 := by omega
    subst hk
    exact e_gcd1 ha hb (by omega) (fun _ => ⟨by rw [Nat.gcd_zero_right], rfl⟩) (fun q => by omega)
  | succ k ih =>
    intro a b i d5 d6 ha hb hk hi
    refine e_gcd1 ha hb (by omega) (fun q => ⟨by rw [q, Nat.gcd_zero_right], rfl⟩) (fun q => ?_)
    have hr := Nat.mod_lt a q
    have eg : Nat.gcd a b = Nat.gcd b (a % b) := by rw [Nat.gcd_comm a b, Nat.gcd_rec, Nat.gcd_comm]
    rw [eg]
    refine e_gcd1 hb (by omega) (by omega) (fun q2 => ⟨by rw [q2, Nat.gcd_zero_right], rfl⟩) (fun q2 => ?_)
    have eg2 : Nat.gcd b (a % b) = Nat.gcd (a % b) (b % (a % b)) := by rw [Nat.gcd_comm b, Nat.gcd_rec, Nat.gcd_comm]
    rw [eg2]
    have hl := half (a := a) k hk q2 hr
    exact ih _ _ _ _ _ (by omega) (by have := Nat.mod_lt b q2; omega) hl (by omega)
theorem e_setFraction {a b : Nat} (ha : a ≤ 1000000) (hb : b ≤ 1000000) (h0 : 0 < b) : V 92 (0, [some (.ref 0), some (.long (lN a)), none, some (.long (lN b)), none, none, none], [], u) (isN (pJ (pJ u 0 9 (lN (a / Nat.gcd a b))) 0 10 (lN (b / Nat.gcd a b)))) := by
  have hg : 0 < Nat.gcd a b := Nat.gcd_pos_of_pos_right a h0
  have hl : Nat.gcd a b ≤ b := Nat.le_of_dvd h0 (Nat.gcd_dvd_right a b)
  have gc : V 93 (0, [some (.long (lN a)), none, some (.long (lN b)), none, none, none, none], [], u) (is (.long (lN (Nat.gcd a b))) u) := by
    ((repeat (fail_if_success show VV _ _ (3, _, _, _) _); refine VV.s rfl rfl ?_); (try (conv => arg 3; simp only [Nat.reduceAdd, sto1, sto2, isL, cond_true, cond_false, List.drop_succ_cons, List.drop_zero, List.drop_nil])))
    exact e_gcd 20 a b 0 _ _ (by omega) (by omega) (by omega) (by omega)
  ((repeat refine VV.s rfl rfl ?_); (try (conv => arg 3; simp only [Nat.reduceAdd, sto1, sto2, isL, cond_true, cond_false, List.drop_succ_cons, List.drop_zero, List.drop_nil])))
  refine VV.callE rfl rfl rfl rfl gc rfl ?_
  ((repeat refine VV.s rfl rfl ?_); (try (conv => arg 3; simp only [Nat.reduceAdd, sto1, sto2, isL, cond_true, cond_false, List.drop_succ_cons, List.drop_zero, List.drop_nil])))
  refine VV.itf (by rw [lg_cmp_le]; intro q; have := (lN_le (a := Nat.gcd a b) (b := 0) (by omega) (by omega)).mp q; omega) ?_
  ((repeat (fail_if_success show VV _ _ (18, _, _, _) _); refine VV.s rfl rfl ?_); (try (conv => arg 3; simp only [Nat.reduceAdd, sto1, sto2, isL, cond_true, cond_false, List.drop_succ_cons, List.drop_zero, List.drop_nil])))
  refine VV.ldiv rfl (lN_nz hg (by omega)) ?_
  ((repeat (fail_if_success show VV _ _ (26, _, _, _) _); refine VV.s rfl rfl ?_); (try (conv => arg 3; simp only [Nat.reduceAdd, sto1, sto2, isL, cond_true, cond_false, List.drop_succ_cons, List.drop_zero, List.drop_nil])))
  refine VV.ldiv rfl (lN_nz hg (by omega)) ?_
  ((repeat refine VV.s rfl rfl ?_); (try (conv => arg 3; simp only [Nat.reduceAdd, sto1, sto2, isL, cond_true, cond_false, List.drop_succ_cons, List.drop_zero, List.drop_nil])))
  rw [pk_lDiv (by omega) hg (by omega), pk_lDiv (by omega) hg (by omega)]
  exact VV.ret0 rfl ⟨rfl, rfl⟩
/-- how many ways to leave i of L; the sum -/
def ch (L : Nat) : Nat → Nat
  | 0 => 1
  | i + 1 => ch L i * (L - i) / (i + 1)
def wy (L n c : Nat) : Nat → Nat → Nat → Nat
  | 0, _, a => a
  | k + 1, i, a => wy L n c k (i + 1) (if n ≤ i then a + ch L i * (10 - c) ^ i * c ^ (L - i) else a)
theorem ch_le : ∀ L, L < 7 → ∀ i, i < 8 → ch L i * (L - i) < 1000 := by decide +kernel
theorem wy_le : ∀ L, L < 7 → ∀ n, n < 7 → ∀ c, c < 11 → wy L n c (L + 1) 0 0 ≤ 1000000 := by decide +kernel
theorem b_thieves_loop {L n c : Nat} (hL : L ≤ 6) (hn : n ≤ 6) (hc : c ≤ 10) {Q : Option Value → Sg → Prop} (K : ∀ d6 d7 d8, V 72 (102, [some (.ref 0), some (.int (nI n)), some (.int (nI c)), some (.int (nI L)), some (.long (lN (wy L n c (L + 1) 0 0))), none, d6, d7, d8], [], u) Q) : ∀ k i a, i + k = L + 1 → wy L n c k i a = wy L n c (L + 1) 0 0 → V 72 (42, [some (.ref 0), some (.int (nI n)), some (.int (nI c)), some (.int (nI L)), some (.long (lN a)), none, some (.long (lN (ch L i))), none, some (.int (nI i))], [], u) Q := by
  intro k
  induction k with
  | zero =>
    intro i a hi ha
    ((repeat refine VV.s rfl rfl ?_); (try (conv => arg 3; simp only [Nat.reduceAdd, sto1, sto2, isL, cond_true, cond_false, List.drop_succ_cons, List.drop_zero, List.drop_nil])))
    refine VV.itt (nI_lt (by omega) (by omega)) ?_
    have ha : a = wy L n c (L + 1) 0 0 := ha
    rw [ha]
    exact K _ _ _
  | succ k ih =>
    intro i a hi ha
    rw [wy] at ha
    have go : ∀ a', wy L n c k (i + 1) a' = wy L n c (L + 1) 0 0 → V 72 (80, [some (.ref 0), some (.int (nI n)), some (.int (nI c)), some (.int (nI L)), some (.long (lN a')), none, some (.long (lN (ch L i))), none, some (.int (nI i))], [], u) Q := by
      intro a' ha'
      have hb := ch_le L (by omega) i (by omega)
      ((repeat (fail_if_success show VV _ _ (93, _, _, _) _); refine VV.s rfl rfl ?_); (try (conv => arg 3; simp only [Nat.reduceAdd, sto1, sto2, isL, cond_true, cond_false, List.drop_succ_cons, List.drop_zero, List.drop_nil])))
      refine VV.ldiv rfl ?_ ?_
      · rw [nI_1, nI_l (by omega)]
        exact lN_nz (by omega) (by omega)
      ((repeat (fail_if_success show VV _ _ (42, _, _, _) _); refine VV.s rfl rfl ?_); (try (conv => arg 3; simp only [Nat.reduceAdd, sto1, sto2, isL, cond_true, cond_false, List.drop_succ_cons, List.drop_zero, List.drop_nil])))
      rw [nI_1, pk_sub (by omega), nI_l (by omega), nI_l (by omega), lN_mul, pk_lDiv (by omega) (by omega) (by omega)]
      exact ih (i + 1) a' (by omega) ha'
    ((repeat refine VV.s rfl rfl ?_); (try (conv => arg 3; simp only [Nat.reduceAdd, sto1, sto2, isL, cond_true, cond_false, List.drop_succ_cons, List.drop_zero, List.drop_nil])))
    refine VV.itf (nI_nlt (by omega) (by omega)) ?_
    ((repeat refine VV.s rfl rfl ?_); (try (conv => arg 3; simp only [Nat.reduceAdd, sto1, sto2, isL, cond_true, cond_false, List.drop_succ_cons, List.drop_zero, List.drop_nil])))
    refine VV.ite (fun q => ?_) (fun q => ?_)
    · rw [lt_nI (by omega) (by omega)] at q
      rw [if_neg (by omega)] at ha
      exact go a ha
    · rw [lt_nI (by omega) (by omega)] at q
      rw [if_pos (by omega)] at ha
      ((repeat refine VV.s rfl rfl ?_); (try (conv => arg 3; simp only [Nat.reduceAdd, sto1, sto2, isL, cond_true, cond_false, List.drop_succ_cons, List.drop_zero, List.drop_nil])))
      rw [show (10 : Int32) - nI c = nI (10 - c) from pk_sub (a := 10) (by omega)]
      refine VV.callE rfl rfl rfl rfl (e_power (by omega) (by omega)) rfl ?_
      ((repeat refine VV.s rfl rfl ?_); (try (conv => arg 3; simp only [Nat.reduceAdd, sto1, sto2, isL, cond_true, cond_false, List.drop_succ_cons, List.drop_zero, List.drop_nil])))
      rw [pk_sub (by omega)]
      refine VV.callE rfl rfl rfl rfl (e_power (by omega) (by omega)) rfl ?_
      ((repeat (fail_if_success show VV _ _ (80, _, _, _) _); refine VV.s rfl rfl ?_); (try (conv => arg 3; simp only [Nat.reduceAdd, sto1, sto2, isL, cond_true, cond_false, List.drop_succ_cons, List.drop_zero, List.drop_nil])))
      rw [lN_mul, lN_mul, lN_add]
      exact go _ ha
theorem CInv.fr {x y : Int64} (C : CInv u z) : CInv (pJ (pJ u 0 9 x) 0 10 y) (z.1, z.2.1, z.2.2.1, (x, y), z.2.2.2.2) := ⟨C.1, C.2.1, C.2.2.1, C.2.2.2.1, ⟨rfl, rfl⟩, C.2.2.2.2.2⟩
def zTh (z : Zs) (n c : Nat) : Zs := (z.1, z.2.1, z.2.2.1, (lN (wy (ctrH z.1) n c (ctrH z.1 + 1) 0 0 / Nat.gcd (wy (ctrH z.1) n c (ctrH z.1 + 1) 0 0) (10 ^ ctrH z.1)), lN (10 ^ ctrH z.1 / Nat.gcd (wy (ctrH z.1) n c (ctrH z.1 + 1) 0 0) (10 ^ ctrH z.1))), z.2.2.2.2)
theorem b_thieves_bad (C : CInv u z) {n c : Int32} (h : (n < 0 ∨ 6 < n) ∨ (c < 0 ∨ 10 < c)) : BC 72 [some (.ref 0), some (.int n), some (.int c), none, none, none, none, none, none] u (.int (-2)) (zB z) := by
  by_cases c1 : n < 0 ∨ 6 < n
  · ((repeat refine VV.s rfl rfl ?_); (try (conv => arg 3; simp only [Nat.reduceAdd, sto1, sto2, isL, cond_true, cond_false, List.drop_succ_cons, List.drop_zero, List.drop_nil])))
    refine VV.callE rfl rfl rfl rfl (e_inN c1) rfl ?_
    refine VV.s rfl rfl ?_
    refine VV.itt (by decide) ?_
    ((repeat refine VV.s rfl rfl ?_); (try (conv => arg 3; simp only [Nat.reduceAdd, sto1, sto2, isL, cond_true, cond_false, List.drop_succ_cons, List.drop_zero, List.drop_nil])))
    refine VV.callE rfl rfl rfl rfl e_bad rfl ?_
    exact VV.ret1 rfl ⟨rfl, C.bad, (Agr.rf).I (by decide)⟩
  · ((repeat refine VV.s rfl rfl ?_); (try (conv => arg 3; simp only [Nat.reduceAdd, sto1, sto2, isL, cond_true, cond_false, List.drop_succ_cons, List.drop_zero, List.drop_nil])))
    refine VV.callE rfl rfl rfl rfl (e_inY c1) rfl ?_
    refine VV.s rfl rfl ?_
    refine VV.itf (by decide) ?_
    ((repeat refine VV.s rfl rfl ?_); (try (conv => arg 3; simp only [Nat.reduceAdd, sto1, sto2, isL, cond_true, cond_false, List.drop_succ_cons, List.drop_zero, List.drop_nil])))
    refine VV.callE rfl rfl rfl rfl (e_inN (h.resolve_left c1)) rfl ?_
    refine VV.s rfl rfl ?_
    refine VV.itf (by decide) ?_
    ((repeat refine VV.s rfl rfl ?_); (try (conv => arg 3; simp only [Nat.reduceAdd, sto1, sto2, isL, cond_true, cond_false, List.drop_succ_cons, List.drop_zero, List.drop_nil])))
    refine VV.callE rfl rfl rfl rfl e_bad rfl ?_
    exact VV.ret1 rfl ⟨rfl, C.bad, (Agr.rf).I (by decide)⟩
theorem b_thieves_ok (C : CInv u z) (G : GoodH z.1) {n c : Nat} (hn : n ≤ 6) (hc : c ≤ 10) (h : ¬ ((nI n < 0 ∨ 6 < nI n) ∨ (nI c < 0 ∨ 10 < nI c))) : BC 72 [some (.ref 0), some (.int (nI n)), some (.int (nI c)), none, none, none, none, none, none] u (.int 1) (zTh z n c) := by
  have hL := ctrH_le z.1
  have h6 := G.1.1
  have hw := wy_le (ctrH z.1) (by omega) n (by omega) c (by omega)
  have hp : (10 : Nat) ^ ctrH z.1 ≤ 1000000 := Nat.pow_le_pow_right (n := 10) (by omega) (show ctrH z.1 ≤ 6 by omega)
  have h0 : 0 < (10 : Nat) ^ ctrH z.1 := Nat.pow_pos (by omega)
  ((repeat refine VV.s rfl rfl ?_); (try (conv => arg 3; simp only [Nat.reduceAdd, sto1, sto2, isL, cond_true, cond_false, List.drop_succ_cons, List.drop_zero, List.drop_nil])))
  refine VV.callE rfl rfl rfl rfl (e_inY (fun q => h (Or.inl q))) rfl ?_
  refine VV.s rfl rfl ?_
  refine VV.itf (by decide) ?_
  ((repeat refine VV.s rfl rfl ?_); (try (conv => arg 3; simp only [Nat.reduceAdd, sto1, sto2, isL, cond_true, cond_false, List.drop_succ_cons, List.drop_zero, List.drop_nil])))
  refine VV.callE rfl rfl rfl rfl (e_inY (fun q => h (Or.inr q))) rfl ?_
  refine VV.s rfl rfl ?_
  refine VV.itt (by decide) ?_
  ((repeat refine VV.s rfl rfl ?_); (try (conv => arg 3; simp only [Nat.reduceAdd, sto1, sto2, isL, cond_true, cond_false, List.drop_succ_cons, List.drop_zero, List.drop_nil])))
  refine VV.callE rfl rfl rfl rfl (e_atCounter C.1 G) rfl ?_
  ((repeat (fail_if_success show VV _ _ (42, _, _, _) _); refine VV.s rfl rfl ?_); (try (conv => arg 3; simp only [Nat.reduceAdd, sto1, sto2, isL, cond_true, cond_false, List.drop_succ_cons, List.drop_zero, List.drop_nil])))
  refine b_thieves_loop (by omega) hn hc (fun d6 d7 d8 => ?_) (ctrH z.1 + 1) 0 0 (by omega) rfl
  ((repeat refine VV.s rfl rfl ?_); (try (conv => arg 3; simp only [Nat.reduceAdd, sto1, sto2, isL, cond_true, cond_false, List.drop_succ_cons, List.drop_zero, List.drop_nil])))
  refine VV.callE rfl rfl rfl rfl (e_power (c := 10) (by omega) (by omega)) rfl ?_
  refine VV.callV rfl rfl rfl rfl (e_setFraction hw hp h0) rfl ?_
  ((repeat refine VV.s rfl rfl ?_); (try (conv => arg 3; simp only [Nat.reduceAdd, sto1, sto2, isL, cond_true, cond_false, List.drop_succ_cons, List.drop_zero, List.drop_nil])))
  exact VV.ret1 rfl ⟨rfl, C.fr, (Agr.rf).J (by decide) |>.J (by decide)⟩
end B7
