def fx (f : Nat → Int32) (p : Int32) : Nat → Nat → Int32
  | 0, _ => -1
  | k + 1, i => if f i = p then nI i else fx f p k (i + 1)
set_option maxHeartbeats 4000000 in
theorem e_voiceWith_loop {b : Nat} (hb : b = 1 ∨ b = 10) {u : Sg} {p : Int32} {n : Nat} (hn : gI u b 0 = nI n) (h6 : n ≤ 6) : ∀ k i, i + k = n → V 3 (2, [some (.ref b), some (.int p), some (.int (nI i))], [], u) (fun r t => r = some (.int (fx (gA u (b + 4)) p k i)) ∧ t = u) := by
  rcases hb with rfl | rfl
  all_goals
    intro k
    induction k with
    | zero =>
      intro i hi
      (repeat refine VV.s rfl rfl ?_)
      refine VV.itt (by rw [hn]; exact nI_le (by omega) (by omega)) ?_
      (repeat refine VV.s rfl rfl ?_)
      exact VV.ret1 rfl ⟨rfl, rfl⟩
    | succ k ih =>
      intro i hi
      (repeat refine VV.s rfl rfl ?_)
      refine VV.itf (by rw [hn]; exact nI_ge (by omega) (by omega)) ?_
      (repeat refine VV.s rfl rfl ?_)
      refine VV.iald rfl rfl rfl (show i < 6 by omega) (by decide) ?_
      (repeat refine VV.s rfl rfl ?_)
      refine VV.ite (fun h => ?_) (fun h => ?_)
      · (repeat (fail_if_success show VV _ _ (2, _, _, _) _); refine VV.s rfl rfl ?_)
        refine VV.eq ?_ (VV.mono (ih (i + 1) (by omega)) ?_)
        · rw [← nI_1]; rfl
        · intro r t q
          rw [fx, if_neg h]
          exact q
      · (repeat refine VV.s rfl rfl ?_)
        refine VV.ret1 rfl ⟨?_, rfl⟩
        rw [fx, if_pos (Classical.not_not.mp h)]
theorem e_voiceWith {b : Nat} (hb : b = 1 ∨ b = 10) {u : Sg} {p : Int32} {n : Nat} (hn : gI u b 0 = nI n) (h6 : n ≤ 6) : V 3 (0, [some (.ref b), some (.int p), none], [], u) (fun r t => r = some (.int (fx (gA u (b + 4)) p n 0)) ∧ t = u) := by
  refine VV.s rfl rfl ?_
  refine VV.s rfl rfl ?_
  exact e_voiceWith_loop hb hn h6 n 0 (by omega)
