/-! ===== the reference: thieves ===== -/
section M12
variable {u : Sg} {z : Zs}
theorem f_lay_loop {a b : Nat} {Q : Option Value → Sg → Prop} : ∀ y x d9 d10, x ≤ 1000000 → y ≤ 1000000 → Nat.gcd x y = Nat.gcd a b → (∀ d7 d8 d9 d10, V 168 (31, [some (.ref 41), some (.long (lN a)), none, some (.long (lN b)), none, some (.long (lN (Nat.gcd a b))), none, d7, d8, d9, d10], [], u) Q) → V 168 (6, [some (.ref 41), some (.long (lN a)), none, some (.long (lN b)), none, some (.long (lN x)), none, some (.long (lN y)), none, d9, d10], [], u) Q := by
  intro y
  induction y using Nat.strongRecOn with
  | ind y ih =>
    intro x d9 d10 hx hy hg K
    ((repeat refine VV.s rfl rfl ?_); (try (conv => arg 3; simp only [Nat.reduceAdd, sto1, sto2, isL, cond_true, cond_false, List.drop_succ_cons, List.drop_zero, List.drop_nil])))
    refine VV.ite (fun q => ?_) (fun q => ?_)
    · rw [lcE (by omega)] at q
      rw [q, Nat.gcd_zero_right] at hg
      rw [hg]
      exact K _ _ _ _
    · rw [lcE (by omega)] at q
      have hr := Nat.mod_lt x (show 0 < y by omega)
      ((repeat (fail_if_success show VV _ _ (17, _, _, _) _); refine VV.s rfl rfl ?_); (try (conv => arg 3; simp only [Nat.reduceAdd, sto1, sto2, isL, cond_true, cond_false, List.drop_succ_cons, List.drop_zero, List.drop_nil])))
      refine VV.lrem rfl (lN_nz (by omega) (by omega)) ?_
      ((repeat (fail_if_success show VV _ _ (6, _, _, _) _); refine VV.s rfl rfl ?_); (try (conv => arg 3; simp only [Nat.reduceAdd, sto1, sto2, isL, cond_true, cond_false, List.drop_succ_cons, List.drop_zero, List.drop_nil])))
      rw [pk_lRem (by omega) (by omega) (by omega)]
      exact ih (x % y) hr y _ _ hy (by omega) (by rw [← hg, Nat.gcd_comm x y, Nat.gcd_rec y x, Nat.gcd_comm]) K
theorem f_lay {a b : Nat} (ha : a ≤ 1000000) (hb : b ≤ 1000000) (h0 : 0 < b) : V 168 (0, [some (.ref 41), some (.long (lN a)), none, some (.long (lN b)), none, none, none, none, none, none, none], [], u) (isN (pJ (pJ u 41 27 (lN (a / Nat.gcd a b))) 41 28 (lN (b / Nat.gcd a b)))) := by
  have hg : 0 < Nat.gcd a b := Nat.gcd_pos_of_pos_right a h0
  have hl : Nat.gcd a b ≤ b := Nat.le_of_dvd h0 (Nat.gcd_dvd_right a b)
  ((repeat (fail_if_success show VV _ _ (6, _, _, _) _); refine VV.s rfl rfl ?_); (try (conv => arg 3; simp only [Nat.reduceAdd, sto1, sto2, isL, cond_true, cond_false, List.drop_succ_cons, List.drop_zero, List.drop_nil])))
  refine f_lay_loop b a none none ha hb rfl (fun d7 d8 d9 d10 => ?_)
  ((repeat (fail_if_success show VV _ _ (35, _, _, _) _); refine VV.s rfl rfl ?_); (try (conv => arg 3; simp only [Nat.reduceAdd, sto1, sto2, isL, cond_true, cond_false, List.drop_succ_cons, List.drop_zero, List.drop_nil])))
  refine VV.ldiv rfl (lN_nz hg (by omega)) ?_
  ((repeat (fail_if_success show VV _ _ (43, _, _, _) _); refine VV.s rfl rfl ?_); (try (conv => arg 3; simp only [Nat.reduceAdd, sto1, sto2, isL, cond_true, cond_false, List.drop_succ_cons, List.drop_zero, List.drop_nil])))
  refine VV.ldiv rfl (lN_nz hg (by omega)) ?_
  ((repeat refine VV.s rfl rfl ?_); (try (conv => arg 3; simp only [Nat.reduceAdd, sto1, sto2, isL, cond_true, cond_false, List.drop_succ_cons, List.drop_zero, List.drop_nil])))
  rw [pk_lDiv (by omega) hg (by omega), pk_lDiv (by omega) hg (by omega)]
  exact VV.ret0 rfl ⟨rfl, rfl⟩
/-- sets as numbers below 64 -/
def hb (s v : Nat) : Bool := Nat.beq (s / 2 ^ v % 2) 1
def pc6 (s : Nat) : Nat := s % 2 + s / 2 % 2 + s / 4 % 2 + s / 8 % 2 + s / 16 % 2 + s / 32 % 2
def sub6 (s a : Nat) : Bool := Nat.beq (Nat.land s a) s
def wg (a s c : Nat) : Nat → Nat → Nat → Nat
  | 0, _, x => x
  | k + 1, v, x => wg a s c k (v + 1) (x * cond (hb a v) (cond (hb s v) (10 - c) c) 1)
def sm6 (m a n c : Nat) : Nat → Nat → Nat → Nat
  | 0, _, x => x
  | k + 1, s, x => sm6 m a n c k (s + 1) (cond (sub6 s a && Nat.ble n (pc6 s)) (x + wg a s c m 0 1) x)
def wl6 (a : Nat) : Nat → Nat → Nat → Nat
  | 0, _, x => x
  | k + 1, v, x => wl6 a k (v + 1) (x * cond (hb a v) 10 1)
def mk6 (c : Nat → Bool) : Nat → Nat → Nat → Nat
  | 0, _, a => a
  | k + 1, i, a => mk6 c k (i + 1) (if c i then a + 2 ^ i else a)
theorem bt_hb : ∀ s, s < 64 → ∀ v, v < 6 → bt (nI s) v = hb s v := by decide +kernel
theorem btc_pc : ∀ s, s < 64 → btc (nI s) 6 0 0 = nI (pc6 s) := by decide +kernel
theorem sub_sub6 : ∀ a, a < 64 → ∀ s, s < 64 → ((nI s &&& (nI a ^^^ -1)) = 0 ↔ sub6 s a = true) := by decide +kernel
theorem mk_6 : ∀ b0 b1 b2 b3 b4 b5 : Bool, ∀ n, n < 7 → bts (fun v => match v with | 0 => b0 | 1 => b1 | 2 => b2 | 3 => b3 | 4 => b4 | _ => b5) n 0 0 = nI (mk6 (fun v => match v with | 0 => b0 | 1 => b1 | 2 => b2 | 3 => b3 | 4 => b4 | _ => b5) n 0 0) ∧ mk6 (fun v => match v with | 0 => b0 | 1 => b1 | 2 => b2 | 3 => b3 | 4 => b4 | _ => b5) n 0 0 < 2 ^ n := by decide +kernel
theorem pc6_le : ∀ s, s < 64 → pc6 s ≤ 6 := by decide +kernel
theorem wl6_eq : ∀ m, m < 7 → ∀ a, a < 2 ^ m → wl6 a m 0 1 = 10 ^ pc6 a := by decide +kernel
theorem sm6_eq : ∀ m, m < 7 → ∀ a, a < 2 ^ m → ∀ n, n < 7 → ∀ c, c < 11 → sm6 m a n c (a + 1) 0 0 = wy (pc6 a) n c (pc6 a + 1) 0 0 := by decide +kernel
end M12
