/-! ===== the reference: thieves, the call ===== -/
section M13
variable {u : Sg} {z : Zs}
theorem atC_mk {h : Hs} (h6 : hn h ≤ 6) : ∃ a, a < 2 ^ hn h ∧ atC h = nI a ∧ pc6 a = ctrH h := by
  have e : ∀ v, 0 ≤ v → v < 0 + hn h → decide (hho h v = 0) = pk6 (fun v => decide (hho h v = 0)) v := fun v _ hv => (pk6_eq (fun v => decide (hho h v = 0)) (by omega)).symm
  have e1 : atC h = bts (pk6 (fun v => decide (hho h v = 0))) (hn h) 0 0 := bts_cong (hn h) 0 0 e
  have := mk_6 (decide (hho h 0 = 0)) (decide (hho h 1 = 0)) (decide (hho h 2 = 0)) (decide (hho h 3 = 0)) (decide (hho h 4 = 0)) (decide (hho h 5 = 0)) (hn h) (by omega)
  have e2 : atC h = nI (mk6 (pk6 (fun v => decide (hho h v = 0))) (hn h) 0 0) := e1.trans this.1
  have hlt : mk6 (pk6 (fun v => decide (hho h v = 0))) (hn h) 0 0 < 2 ^ hn h := this.2
  have h64 : (2 : Nat) ^ hn h ≤ 64 := Nat.pow_le_pow_right (n := 2) (by omega) h6
  refine ⟨_, hlt, e2, ?_⟩
  have q := bits_at h6
  rw [e2, btc_pc _ (by omega)] at q
  have hL := ctrH_le h
  have hp := pc6_le (mk6 (pk6 (fun v => decide (hho h v = 0))) (hn h) 0 0) (by omega)
  exact (nI_eq (by omega) (by omega)).mp q
set_option maxHeartbeats 8000000 in
theorem m_thieves_wl {n c m a : Nat} (hm : m ≤ 6) (ha : a < 64) (hN : gI u 41 1 = nI m) {Q : Option Value → Sg → Prop} (K : ∀ d8, V 171 (75, [some (.ref 41), some (.int (nI n)), some (.int (nI c)), some (.int (nI a)), some (.long (lN 0)), none, some (.long (lN (wl6 a m 0 1))), none, d8, none, none, none], [], u) Q) : ∀ k v x, v + k = m → wl6 a k v x = wl6 a m 0 1 → V 171 (39, [some (.ref 41), some (.int (nI n)), some (.int (nI c)), some (.int (nI a)), some (.long (lN 0)), none, some (.long (lN x)), none, some (.int (nI v)), none, none, none], [], u) Q := by
  intro k
  induction k with
  | zero =>
    intro v x hv hx
    ((repeat refine VV.s rfl rfl ?_); (try (conv => arg 3; simp only [Nat.reduceAdd, sto1, sto2, isL, cond_true, cond_false, List.drop_succ_cons, List.drop_zero, List.drop_nil])))
    refine VV.itt (by rw [hN]; exact nI_le (by omega) (by omega)) ?_
    have hx : x = wl6 a m 0 1 := hx
    rw [hx]
    exact K _
  | succ k ih =>
    intro v x hv hx
    rw [wl6] at hx
    ((repeat refine VV.s rfl rfl ?_); (try (conv => arg 3; simp only [Nat.reduceAdd, sto1, sto2, isL, cond_true, cond_false, List.drop_succ_cons, List.drop_zero, List.drop_nil])))
    refine VV.itf (by rw [hN]; exact nI_ge (by omega) (by omega)) ?_
    ((repeat refine VV.s rfl rfl ?_); (try (conv => arg 3; simp only [Nat.reduceAdd, sto1, sto2, isL, cond_true, cond_false, List.drop_succ_cons, List.drop_zero, List.drop_nil])))
    refine VV.callE rfl rfl rfl rfl f_has rfl ?_
    rw [bt_hb a ha v (by omega)]
    refine VV.s rfl rfl ?_
    cases e : hb a v with
    | true =>
      rw [e] at hx
      refine VV.itf (by decide) ?_
      ((repeat (fail_if_success show VV _ _ (39, _, _, _) _); refine VV.s rfl rfl ?_); (try (conv => arg 3; simp only [Nat.reduceAdd, sto1, sto2, isL, cond_true, cond_false, List.drop_succ_cons, List.drop_zero, List.drop_nil])))
      rw [nI_1, show lN x * 10 = lN (x * 10) from lN_mul x 10]
      exact ih (v + 1) _ (by omega) hx
    | false =>
      rw [e] at hx
      refine VV.itt rfl ?_
      ((repeat (fail_if_success show VV _ _ (39, _, _, _) _); refine VV.s rfl rfl ?_); (try (conv => arg 3; simp only [Nat.reduceAdd, sto1, sto2, isL, cond_true, cond_false, List.drop_succ_cons, List.drop_zero, List.drop_nil])))
      rw [nI_1, show lN x * 1 = lN (x * 1) from lN_mul x 1]
      exact ih (v + 1) _ (by omega) hx
set_option maxHeartbeats 8000000 in
theorem m_thieves_wg {n c m a s : Nat} (hc : c ≤ 10) (hm : m ≤ 6) (ha : a < 64) (hs : s < 64) (hN : gI u 41 1 = nI m) {y w : Int64} {Q : Option Value → Sg → Prop} (K : ∀ d11, V 171 (161, [some (.ref 41), some (.int (nI n)), some (.int (nI c)), some (.int (nI a)), some (.long y), none, some (.long w), none, some (.int (nI s)), some (.long (lN (wg a s c m 0 1))), none, d11], [], u) Q) : ∀ k v x, v + k = m → wg a s c k v x = wg a s c m 0 1 → V 171 (108, [some (.ref 41), some (.int (nI n)), some (.int (nI c)), some (.int (nI a)), some (.long y), none, some (.long w), none, some (.int (nI s)), some (.long (lN x)), none, some (.int (nI v))], [], u) Q := by
  intro k
  induction k with
  | zero =>
    intro v x hv hx
    ((repeat refine VV.s rfl rfl ?_); (try (conv => arg 3; simp only [Nat.reduceAdd, sto1, sto2, isL, cond_true, cond_false, List.drop_succ_cons, List.drop_zero, List.drop_nil])))
    refine VV.itt (by rw [hN]; exact nI_le (by omega) (by omega)) ?_
    have hx : x = wg a s c m 0 1 := hx
    rw [hx]
    exact K _
  | succ k ih =>
    intro v x hv hx
    rw [wg] at hx
    ((repeat refine VV.s rfl rfl ?_); (try (conv => arg 3; simp only [Nat.reduceAdd, sto1, sto2, isL, cond_true, cond_false, List.drop_succ_cons, List.drop_zero, List.drop_nil])))
    refine VV.itf (by rw [hN]; exact nI_ge (by omega) (by omega)) ?_
    ((repeat refine VV.s rfl rfl ?_); (try (conv => arg 3; simp only [Nat.reduceAdd, sto1, sto2, isL, cond_true, cond_false, List.drop_succ_cons, List.drop_zero, List.drop_nil])))
    refine VV.callE rfl rfl rfl rfl f_has rfl ?_
    rw [bt_hb a ha v (by omega)]
    refine VV.s rfl rfl ?_
    cases e : hb a v with
    | false =>
      rw [e] at hx
      refine VV.itf (by decide) ?_
      ((repeat (fail_if_success show VV _ _ (108, _, _, _) _); refine VV.s rfl rfl ?_); (try (conv => arg 3; simp only [Nat.reduceAdd, sto1, sto2, isL, cond_true, cond_false, List.drop_succ_cons, List.drop_zero, List.drop_nil])))
      rw [nI_1, show lN x * 1 = lN (x * 1) from lN_mul x 1]
      exact ih (v + 1) _ (by omega) hx
    | true =>
      rw [e] at hx
      refine VV.itt (by decide) ?_
      ((repeat refine VV.s rfl rfl ?_); (try (conv => arg 3; simp only [Nat.reduceAdd, sto1, sto2, isL, cond_true, cond_false, List.drop_succ_cons, List.drop_zero, List.drop_nil])))
      refine VV.callE rfl rfl rfl rfl f_has rfl ?_
      rw [bt_hb s hs v (by omega)]
      refine VV.s rfl rfl ?_
      cases e2 : hb s v with
      | true =>
        rw [e2] at hx
        refine VV.itf (by decide) ?_
        ((repeat (fail_if_success show VV _ _ (108, _, _, _) _); refine VV.s rfl rfl ?_); (try (conv => arg 3; simp only [Nat.reduceAdd, sto1, sto2, isL, cond_true, cond_false, List.drop_succ_cons, List.drop_zero, List.drop_nil])))
        rw [nI_1, show (10 : Int32) - nI c = nI (10 - c) from pk_sub (a := 10) (by omega), nI_l (by omega), lN_mul]
        exact ih (v + 1) _ (by omega) hx
      | false =>
        rw [e2] at hx
        refine VV.itt rfl ?_
        ((repeat (fail_if_success show VV _ _ (108, _, _, _) _); refine VV.s rfl rfl ?_); (try (conv => arg 3; simp only [Nat.reduceAdd, sto1, sto2, isL, cond_true, cond_false, List.drop_succ_cons, List.drop_zero, List.drop_nil])))
        rw [nI_1, nI_l (by omega), lN_mul]
        exact ih (v + 1) _ (by omega) hx
set_option maxHeartbeats 8000000 in
theorem m_thieves_sm {n c m a : Nat} (hn : n ≤ 6) (hc : c ≤ 10) (hm : m ≤ 6) (ha : a < 64) (hN : gI u 41 1 = nI m) {w : Int64} {Q : Option Value → Sg → Prop} (K : ∀ d8 d9 d10 d11, V 171 (174, [some (.ref 41), some (.int (nI n)), some (.int (nI c)), some (.int (nI a)), some (.long (lN (sm6 m a n c (a + 1) 0 0))), none, some (.long w), none, d8, d9, d10, d11], [], u) Q) : ∀ k s x d9 d10 d11, s + k = a + 1 → sm6 m a n c k s x = sm6 m a n c (a + 1) 0 0 → V 171 (78, [some (.ref 41), some (.int (nI n)), some (.int (nI c)), some (.int (nI a)), some (.long (lN x)), none, some (.long w), none, some (.int (nI s)), d9, d10, d11], [], u) Q := by
  intro k
  induction k with
  | zero =>
    intro s x d9 d10 d11 hs hx
    ((repeat refine VV.s rfl rfl ?_); (try (conv => arg 3; simp only [Nat.reduceAdd, sto1, sto2, isL, cond_true, cond_false, List.drop_succ_cons, List.drop_zero, List.drop_nil])))
    refine VV.itt (nI_lt (by omega) (by omega)) ?_
    have hx : x = sm6 m a n c (a + 1) 0 0 := hx
    rw [hx]
    exact K _ _ _ _
  | succ k ih =>
    intro s x d9 d10 d11 hs hx
    rw [sm6] at hx
    have hp := pc6_le s (by omega)
    have go : ∀ x' d9 d10 d11, sm6 m a n c k (s + 1) x' = sm6 m a n c (a + 1) 0 0 → V 171 (168, [some (.ref 41), some (.int (nI n)), some (.int (nI c)), some (.int (nI a)), some (.long (lN x')), none, some (.long w), none, some (.int (nI s)), d9, d10, d11], [], u) Q := by
      intro x' d9 d10 d11 hx'
      ((repeat (fail_if_success show VV _ _ (78, _, _, _) _); refine VV.s rfl rfl ?_); (try (conv => arg 3; simp only [Nat.reduceAdd, sto1, sto2, isL, cond_true, cond_false, List.drop_succ_cons, List.drop_zero, List.drop_nil])))
      rw [nI_1]
      exact ih (s + 1) x' _ _ _ (by omega) hx'
    ((repeat refine VV.s rfl rfl ?_); (try (conv => arg 3; simp only [Nat.reduceAdd, sto1, sto2, isL, cond_true, cond_false, List.drop_succ_cons, List.drop_zero, List.drop_nil])))
    refine VV.itf (nI_nlt (by omega) (by omega)) ?_
    ((repeat refine VV.s rfl rfl ?_); (try (conv => arg 3; simp only [Nat.reduceAdd, sto1, sto2, isL, cond_true, cond_false, List.drop_succ_cons, List.drop_zero, List.drop_nil])))
    refine VV.ite (fun q => ?_) (fun q => ?_)
    · rw [sub_sub6 a ha s (by omega)] at q
      have e : sub6 s a = false := by cases h : sub6 s a with | true => exact absurd h q | false => rfl
      rw [e] at hx
      exact go x _ _ _ hx
    · have q := Classical.not_not.mp q
      rw [sub_sub6 a ha s (by omega)] at q
      rw [q, Bool.true_and] at hx
      ((repeat refine VV.s rfl rfl ?_); (try (conv => arg 3; simp only [Nat.reduceAdd, sto1, sto2, isL, cond_true, cond_false, List.drop_succ_cons, List.drop_zero, List.drop_nil])))
      refine VV.callE rfl rfl rfl rfl f_bits rfl ?_
      rw [btc_pc s (by omega)]
      ((repeat refine VV.s rfl rfl ?_); (try (conv => arg 3; simp only [Nat.reduceAdd, sto1, sto2, isL, cond_true, cond_false, List.drop_succ_cons, List.drop_zero, List.drop_nil])))
      refine VV.ite (fun q2 => ?_) (fun q2 => ?_)
      · rw [lt_nI (by omega) (by omega)] at q2
        have e : Nat.ble n (pc6 s) = false := by cases h : Nat.ble n (pc6 s) with | true => have := Nat.le_of_ble_eq_true h; omega | false => rfl
        rw [e] at hx
        exact go x _ _ _ hx
      · rw [lt_nI (by omega) (by omega)] at q2
        rw [Nat.ble_eq_true_of_le (show n ≤ pc6 s by omega)] at hx
        ((repeat (fail_if_success show VV _ _ (108, _, _, _) _); refine VV.s rfl rfl ?_); (try (conv => arg 3; simp only [Nat.reduceAdd, sto1, sto2, isL, cond_true, cond_false, List.drop_succ_cons, List.drop_zero, List.drop_nil])))
        refine m_thieves_wg hc hm ha (by omega) hN (fun d11 => ?_) m 0 1 (by omega) rfl
        ((repeat (fail_if_success show VV _ _ (168, _, _, _) _); refine VV.s rfl rfl ?_); (try (conv => arg 3; simp only [Nat.reduceAdd, sto1, sto2, isL, cond_true, cond_false, List.drop_succ_cons, List.drop_zero, List.drop_nil])))
        rw [lN_add]
        exact go _ _ _ _ hx
theorem MInv.fr {x y : Int64} (C : MInv u z) : MInv (pJ (pJ u 41 27 x) 41 28 y) (z.1, z.2.1, z.2.2.1, (x, y), z.2.2.2.2) := ⟨C.1, C.2.1, C.2.2.1, C.2.2.2.1, ⟨rfl, rfl⟩, C.2.2.2.2.2⟩
theorem m_thieves_bad (C : MInv u z) {n c : Int32} (h : (n < 0 ∨ 6 < n) ∨ (c < 0 ∨ 10 < c)) : MC 171 [some (.ref 41), some (.int n), some (.int c), none, none, none, none, none, none, none, none, none] u (.int (-2)) (zB z) := by
  by_cases c1 : n < 0 ∨ 6 < n
  · ((repeat refine VV.s rfl rfl ?_); (try (conv => arg 3; simp only [Nat.reduceAdd, sto1, sto2, isL, cond_true, cond_false, List.drop_succ_cons, List.drop_zero, List.drop_nil])))
    refine VV.callE rfl rfl rfl rfl (f_inN c1) rfl ?_
    refine VV.s rfl rfl ?_
    refine VV.itt (by decide) ?_
    ((repeat refine VV.s rfl rfl ?_); (try (conv => arg 3; simp only [Nat.reduceAdd, sto1, sto2, isL, cond_true, cond_false, List.drop_succ_cons, List.drop_zero, List.drop_nil])))
    refine VV.callE rfl rfl rfl rfl f_bad rfl ?_
    ((repeat refine VV.s rfl rfl ?_); (try (conv => arg 3; simp only [Nat.reduceAdd, sto1, sto2, isL, cond_true, cond_false, List.drop_succ_cons, List.drop_zero, List.drop_nil])))
    exact VV.ret1 rfl ⟨rfl, C.bad, (Agr.rf).A (by decide)⟩
  · ((repeat refine VV.s rfl rfl ?_); (try (conv => arg 3; simp only [Nat.reduceAdd, sto1, sto2, isL, cond_true, cond_false, List.drop_succ_cons, List.drop_zero, List.drop_nil])))
    refine VV.callE rfl rfl rfl rfl (f_inY c1) rfl ?_
    refine VV.s rfl rfl ?_
    refine VV.itf (by decide) ?_
    ((repeat refine VV.s rfl rfl ?_); (try (conv => arg 3; simp only [Nat.reduceAdd, sto1, sto2, isL, cond_true, cond_false, List.drop_succ_cons, List.drop_zero, List.drop_nil])))
    refine VV.callE rfl rfl rfl rfl (f_inN (h.resolve_left c1)) rfl ?_
    refine VV.s rfl rfl ?_
    refine VV.itf (by decide) ?_
    ((repeat refine VV.s rfl rfl ?_); (try (conv => arg 3; simp only [Nat.reduceAdd, sto1, sto2, isL, cond_true, cond_false, List.drop_succ_cons, List.drop_zero, List.drop_nil])))
    refine VV.callE rfl rfl rfl rfl f_bad rfl ?_
    ((repeat refine VV.s rfl rfl ?_); (try (conv => arg 3; simp only [Nat.reduceAdd, sto1, sto2, isL, cond_true, cond_false, List.drop_succ_cons, List.drop_zero, List.drop_nil])))
    exact VV.ret1 rfl ⟨rfl, C.bad, (Agr.rf).A (by decide)⟩
theorem m_thieves_ok (C : MInv u z) (G : GoodH z.1) {n c : Nat} (hn6 : n ≤ 6) (hc : c ≤ 10) (h : ¬ ((nI n < 0 ∨ 6 < nI n) ∨ (nI c < 0 ∨ 10 < nI c))) : MC 171 [some (.ref 41), some (.int (nI n)), some (.int (nI c)), none, none, none, none, none, none, none, none, none] u (.int 1) (zTh z n c) := by
  have hL := ctrH_le z.1
  have h6 := G.1.1
  have hw := wy_le (ctrH z.1) (by omega) n (by omega) c (by omega)
  have hp : (10 : Nat) ^ ctrH z.1 ≤ 1000000 := Nat.pow_le_pow_right (n := 10) (by omega) (show ctrH z.1 ≤ 6 by omega)
  have h0 : 0 < (10 : Nat) ^ ctrH z.1 := Nat.pow_pos (by omega)
  obtain ⟨a, ha, ea, ep⟩ := atC_mk h6
  have h64 : (2 : Nat) ^ hn z.1 ≤ 64 := Nat.pow_le_pow_right (n := 2) (by omega) h6
  have e1 := wl6_eq (hn z.1) (by omega) a ha
  have e2 := sm6_eq (hn z.1) (by omega) a ha n (by omega) c (by omega)
  rw [ep] at e1 e2
  ((repeat refine VV.s rfl rfl ?_); (try (conv => arg 3; simp only [Nat.reduceAdd, sto1, sto2, isL, cond_true, cond_false, List.drop_succ_cons, List.drop_zero, List.drop_nil])))
  refine VV.callE rfl rfl rfl rfl (f_inY (fun q => h (Or.inl q))) rfl ?_
  refine VV.s rfl rfl ?_
  refine VV.itf (by decide) ?_
  ((repeat refine VV.s rfl rfl ?_); (try (conv => arg 3; simp only [Nat.reduceAdd, sto1, sto2, isL, cond_true, cond_false, List.drop_succ_cons, List.drop_zero, List.drop_nil])))
  refine VV.callE rfl rfl rfl rfl (f_inY (fun q => h (Or.inr q))) rfl ?_
  refine VV.s rfl rfl ?_
  refine VV.itt (by decide) ?_
  ((repeat refine VV.s rfl rfl ?_); (try (conv => arg 3; simp only [Nat.reduceAdd, sto1, sto2, isL, cond_true, cond_false, List.drop_succ_cons, List.drop_zero, List.drop_nil])))
  refine VV.callE rfl rfl rfl rfl (f_atCounter C.1 G) rfl ?_
  rw [ea]
  ((repeat (fail_if_success show VV _ _ (39, _, _, _) _); refine VV.s rfl rfl ?_); (try (conv => arg 3; simp only [Nat.reduceAdd, sto1, sto2, isL, cond_true, cond_false, List.drop_succ_cons, List.drop_zero, List.drop_nil])))
  refine m_thieves_wl h6 (by omega) C.1.1.1 (fun d8 => ?_) (hn z.1) 0 1 (by omega) rfl
  ((repeat (fail_if_success show VV _ _ (78, _, _, _) _); refine VV.s rfl rfl ?_); (try (conv => arg 3; simp only [Nat.reduceAdd, sto1, sto2, isL, cond_true, cond_false, List.drop_succ_cons, List.drop_zero, List.drop_nil])))
  refine m_thieves_sm hn6 hc h6 (by omega) C.1.1.1 (fun d8 d9 d10 d11 => ?_) (a + 1) 0 0 _ _ _ (by omega) rfl
  rw [e1, e2]
  ((repeat refine VV.s rfl rfl ?_); (try (conv => arg 3; simp only [Nat.reduceAdd, sto1, sto2, isL, cond_true, cond_false, List.drop_succ_cons, List.drop_zero, List.drop_nil])))
  refine VV.callV rfl rfl rfl rfl (f_lay hw hp h0) rfl ?_
  ((repeat refine VV.s rfl rfl ?_); (try (conv => arg 3; simp only [Nat.reduceAdd, sto1, sto2, isL, cond_true, cond_false, List.drop_succ_cons, List.drop_zero, List.drop_nil])))
  exact VV.ret1 rfl ⟨rfl, C.fr, (Agr.rf).J (by decide) |>.J (by decide)⟩
end M13
