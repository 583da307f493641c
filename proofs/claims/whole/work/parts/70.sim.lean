/-! ===== every call: the class and the reference answer alike, and hold the same state ===== -/
section SIM
variable {u : Sg} {z : Zs}
/-- both answer the same int, and come to the same state -/
def SMi (mB mM : Nat) (LB LM : List (Option Value)) (u : Sg) (z : Zs) : Prop := ∃ (r : Int32) (z' : Zs), BC mB LB u (.int r) z' ∧ (∀ t, MInv t z → MC mM LM t (.int r) z') ∧ GoodZ z'
def SMl (mB mM : Nat) (LB LM : List (Option Value)) (u : Sg) (z : Zs) : Prop := ∃ (r : Int64) (z' : Zs), BC mB LB u (.long r) z' ∧ (∀ t, MInv t z → MC mM LM t (.long r) z') ∧ GoodZ z'
theorem rg_nI {x : Int32} {M : Nat} (hM : M < 2 ^ 31) (h : ¬ (x < 0 ∨ nI M < x)) : ∃ j, j ≤ M ∧ x = nI j := by
  obtain ⟨j, hj, rfl⟩ := nI_of (fun q => h (Or.inl q))
  refine ⟨j, ?_, rfl⟩
  rcases Nat.lt_or_ge M j with q | q
  · exact absurd (Or.inr (nI_lt q hj)) h
  · exact q
theorem neg1 {k : Int32} (h1 : ¬ k < -1) (h2 : ¬ k = -1) : ¬ k < 0 := by
  intro h
  have a1 := Int32.lt_iff_toInt_lt.mp h
  have a2 : ¬ k.toInt < (-1 : Int32).toInt := fun q => h1 (Int32.lt_iff_toInt_lt.mpr q)
  have e0 : (0 : Int32).toInt = 0 := by decide
  have e1 : (-1 : Int32).toInt = -1 := by decide
  have a3 : k.toInt ≠ -1 := fun q => h2 (Int32.toInt_inj.mp (by rw [q, e1]))
  omega
theorem goodZH {h : Hs} (G : GoodZ z) (g : GoodH h) : GoodZ (zH z h) := ⟨g, G.2⟩
theorem good0 (h : Hs) : GoodH (h0 h) := ⟨⟨Nat.zero_le _, Nat.zero_le _, Nat.zero_le _, Nat.zero_le _⟩, fun v hv => absurd hv (Nat.not_lt_zero _), ⟨fun v hv => absurd hv (Nat.not_lt_zero _), fun v w hv => absurd hv (Nat.not_lt_zero _)⟩, fun v hv => absurd hv (Nat.not_lt_zero _), fun v hv => absurd hv (Nat.not_lt_zero _)⟩
theorem goodFg {h : Hs} (G : GoodH h) : GoodH (hFg h) := ⟨⟨G.1.1, G.1.2.1, Nat.zero_le _, G.1.2.2.2⟩, G.2.1, G.2.2.1, fun v hv => absurd hv (Nat.not_lt_zero _), G.2.2.2.2⟩
theorem goodNt {h : Hs} (G : GoodH h) (h5 : hnn h < 6) {v x d s w : Nat} (hv : v < hn h) (hx : x ≤ 20) (hd : d ≤ 99) (hs : s ≤ 9) (hw : w ≤ 9) : GoodH (hNt h (row5 v x d s w)) := by
  refine ⟨⟨G.1.1, G.1.2.1, by show hnn h + 1 ≤ 6; omega, G.1.2.2.2⟩, G.2.1, G.2.2.1, fun i hi => ?_, G.2.2.2.2⟩
  have hi : i < hnn h + 1 := hi
  show updN (hN h) (hnn h) (row5 v x d s w) i 0 < hn h ∧ updN (hN h) (hnn h) (row5 v x d s w) i 1 ≤ 20 ∧ updN (hN h) (hnn h) (row5 v x d s w) i 2 ≤ 99 ∧ updN (hN h) (hnn h) (row5 v x d s w) i 3 ≤ 9 ∧ updN (hN h) (hnn h) (row5 v x d s w) i 4 ≤ 9
  rw [updN_at]
  by_cases c : i = hnn h
  · rw [if_pos c]
    exact ⟨hv, hx, hd, hs, hw⟩
  · rw [if_neg c]
    exact G.2.2.2.1 i (by omega)
theorem goodT (G : GoodZ z) {c : Nat} (hc : c < 128) (h : z.2.2.1.1 < 150) : GoodZ (zT z c) := by
  refine ⟨G.1, G.2.1, G.2.2.1, h, fun j hj => ?_⟩
  have hj : j < z.2.2.1.1 + 1 := hj
  show updN z.2.2.1.2 z.2.2.1.1 c j < 128
  rw [updN_at]
  by_cases e : j = z.2.2.1.1
  · rw [if_pos e]; exact hc
  · rw [if_neg e]; exact G.2.2.2.2 j (by omega)
theorem goodRd (G : GoodZ z) : GoodZ (rdZ z) := by
  have ok := pRead_ok (T := z.2.2.1.2) G.2.2.2.1
  unfold rdZ
  revert ok
  cases pRead z.2.2.1.2 z.2.2.1.1 with
  | inl f => exact fun _ => G
  | inr x => exact fun ok => goodZH G ok.1
theorem s_counter (C : CInv u z) (G : GoodZ z) : SMi 46 103 [some (.ref 0), none] [some (.ref 41), none] u z := ⟨_, _, b_counter C, fun t D => m_counter D, goodZH G (good0 _)⟩
theorem s_one (C : CInv u z) (G : GoodZ z) (k s w : Int32) : SMi 47 105 [some (.ref 0), some (.int k), some (.int s), some (.int w)] [some (.ref 41), some (.int k), some (.int s), some (.int w)] u z := by
  by_cases h : oneBad k s w
  · exact ⟨_, _, b_one_bad C h, fun t D => m_one_bad D h, G⟩
  · have h6 := G.1.1.1
    by_cases e : hn z.1 = 6
    · exact ⟨_, _, b_one_full C h e, fun t D => m_one_full D h e, G⟩
    · obtain ⟨k', hk, rfl⟩ := rg_nI (M := 5) (by omega) (fun q => h (Or.inl q))
      obtain ⟨s', hs, rfl⟩ := rg_nI (M := 9) (by omega) (fun q => h (Or.inr (Or.inl q)))
      obtain ⟨w', hw, rfl⟩ := rg_nI (M := 9) (by omega) (fun q => h (Or.inr (Or.inr q)))
      exact ⟨_, _, b_one_ok C (by omega) hk hs hw h, fun t D => m_one_ok D (by omega) h, goodZH G (goodOne G.1 (by omega) hk hs hw)⟩
theorem s_type (C : CInv u z) (G : GoodZ z) (c : Int32) : SMi 48 106 [some (.ref 0), some (.int c)] [some (.ref 41), some (.int c)] u z := by
  by_cases h : c < 0 ∨ 127 < c
  · exact ⟨_, _, b_type_bad C h, fun t D => m_type_bad D h, G⟩
  · have h5 := G.2.2.2.1
    by_cases e : z.2.2.1.1 = 150
    · exact ⟨_, _, b_type_full C h e, fun t D => m_type_full D h e, G⟩
    · obtain ⟨c', hc, rfl⟩ := rg_nI (M := 127) (by omega) h
      exact ⟨_, _, b_type_ok C (by omega) h (by omega), fun t D => m_type_ok D h (by omega), goodT G (by omega) (by omega)⟩
theorem s_clear (C : CInv u z) (G : GoodZ z) : SMi 49 107 [some (.ref 0), none] [some (.ref 41), none] u z := ⟨_, _, b_clear C, fun t D => m_clear D, G.1, G.2.1, G.2.2.1, Nat.zero_le _, fun j hj => absurd hj (Nat.not_lt_zero _)⟩
theorem s_read (C : CInv u z) (G : GoodZ z) : SMi 50 124 [some (.ref 0), none] [some (.ref 41), none, none] u z := ⟨_, _, b_read C G, fun t D => m_read D G, goodRd G⟩
theorem s_lend (C : CInv u z) (G : GoodZ z) (v p : Int32) : SMi 51 140 [some (.ref 0), some (.int v), some (.int p)] [some (.ref 41), some (.int v), some (.int p)] u z := by
  by_cases h : ¬ thr (hn z.1) v ∨ ¬ thr (hn z.1) p
  · exact ⟨_, _, b_lend_bad C h, fun t D => m_lend_bad D h, G⟩
  · have t1 : thr (hn z.1) v := Classical.not_not.mp (fun q => h (Or.inl q))
    have t2 : thr (hn z.1) p := Classical.not_not.mp (fun q => h (Or.inr q))
    obtain ⟨v', hv, rfl⟩ := thr_nI G.1.1.1 t1
    obtain ⟨p', hp, rfl⟩ := thr_nI G.1.1.1 t2
    by_cases e : hho z.1 v' = 0
    · exact ⟨_, _, b_lend_ok C G.1 hv hp t1 t2 e, fun t D => m_lend_ok D G.1 hv hp t1 t2 e, goodZH G (goodGv (goodKp G.1) hv hp)⟩
    · exact ⟨_, _, b_lend_no C G.1 hv t1 t2 e, fun t D => m_lend_no D G.1 hv t1 t2 e, G⟩
theorem s_leave (C : CInv u z) (G : GoodZ z) (p : Int32) : SMi 52 141 [some (.ref 0), some (.int p), none] [some (.ref 41), some (.int p), none] u z := by
  by_cases t1 : thr (hn z.1) p
  · obtain ⟨p', hp, rfl⟩ := thr_nI G.1.1.1 t1
    rcases voH_spec z.1 p' with ⟨h1, h2⟩ | ⟨w, hw, h1, h2⟩
    · exact ⟨_, _, b_leave_no C G.1 hp t1 h1, fun t D => m_leave_no D G.1 hp t1 h1, G⟩
    · exact ⟨_, _, b_leave_ok C G.1 hp t1 hw h1, fun t D => m_leave_ok D G.1 hp t1 hw h1, goodZH G (goodLv (goodKp G.1) hw)⟩
  · exact ⟨_, _, b_leave_bad C t1, fun t D => m_leave_bad D t1, G⟩
theorem s_evening (C : CInv u z) (G : GoodZ z) (x : Int32) : SMi 53 142 [some (.ref 0), some (.int x), none, none] [some (.ref 41), some (.int x), none, none, none] u z := by
  by_cases h : x < 1 ∨ 30 < x
  · exact ⟨_, _, b_evening_bad C h, fun t D => m_evening_bad D h, G⟩
  · obtain ⟨n, hn, rfl⟩ := rg_nI (x := x) (M := 30) (by omega) (fun q => h (q.imp (fun q => Int32.lt_trans q (by decide)) id))
    exact ⟨_, _, b_evening_ok C G.1 hn h, fun t D => m_evening_ok D G.1 hn h, goodZH G (goodEvn n (goodKp G.1))⟩
theorem s_undo (C : CInv u z) (G : GoodZ z) : SMi 54 143 [some (.ref 0)] [some (.ref 41)] u z := by
  by_cases h : hun z.1 = 0
  · exact ⟨_, _, b_undo_no C h, fun t D => m_undo_no D h, G⟩
  · exact ⟨_, _, b_undo_ok C G.1 (by omega), fun t D => m_undo_ok D G.1 (by omega), goodZH G (goodBk G.1 (by omega))⟩
theorem s_of (C : CInv u z) (G : GoodZ z) (p w : Int32) : SMi 55 144 [some (.ref 0), some (.int p), some (.int w)] [some (.ref 41), some (.int p), some (.int w)] u z := by
  by_cases h : ¬ thr (hn z.1) p ∨ (w < 0 ∨ 2 < w)
  · exact ⟨_, _, b_of_bad C h, fun t D => m_of_bad D h, G⟩
  · have t1 : thr (hn z.1) p := Classical.not_not.mp (fun q => h (Or.inl q))
    obtain ⟨p', hp, rfl⟩ := thr_nI G.1.1.1 t1
    have h2 : ¬ (w < 0 ∨ 2 < w) := fun q => h (Or.inr q)
    obtain ⟨w', hw, rfl⟩ := rg_nI (M := 2) (by omega) h2
    exact ⟨_, _, b_of_ok C G.1 hp t1 hw h2, fun t D => m_of_ok D G.1 hp t1 hw h2, G⟩
theorem s_about (C : CInv u z) (G : GoodZ z) (p w : Int32) : SMi 56 145 [some (.ref 0), some (.int p), some (.int w)] [some (.ref 41), some (.int p), some (.int w)] u z := by
  by_cases h : ¬ thr (hn z.1) p ∨ (w < 0 ∨ 5 < w)
  · exact ⟨_, _, b_about_bad C h, fun t D => m_about_bad D h, G⟩
  · have t1 : thr (hn z.1) p := Classical.not_not.mp (fun q => h (Or.inl q))
    obtain ⟨p', hp, rfl⟩ := thr_nI G.1.1.1 t1
    have h2 : ¬ (w < 0 ∨ 5 < w) := fun q => h (Or.inr q)
    obtain ⟨w', hw, rfl⟩ := rg_nI (M := 5) (by omega) h2
    exact ⟨_, _, b_about_ok C G.1 hp t1 hw h2, fun t D => m_about_ok D G.1 hp t1 hw h2, G⟩
theorem s_fit (C : CInv u z) (G : GoodZ z) (v p : Int32) : SMi 57 146 [some (.ref 0), some (.int v), some (.int p)] [some (.ref 41), some (.int v), some (.int p)] u z := by
  by_cases h : ¬ thr (hn z.1) v ∨ ¬ thr (hn z.1) p
  · exact ⟨_, _, b_fit_bad C h, fun t D => m_fit_bad D h, G⟩
  · have t1 : thr (hn z.1) v := Classical.not_not.mp (fun q => h (Or.inl q))
    have t2 : thr (hn z.1) p := Classical.not_not.mp (fun q => h (Or.inr q))
    obtain ⟨v', hv, rfl⟩ := thr_nI G.1.1.1 t1
    obtain ⟨p', hp, rfl⟩ := thr_nI G.1.1.1 t2
    exact ⟨_, _, b_fit_ok C G.1 hv hp t1 t2, fun t D => m_fit_ok D G.1 hv hp t1 t2, G⟩
theorem s_best (C : CInv u z) (G : GoodZ z) (p : Int32) : SMi 58 148 [some (.ref 0), some (.int p)] [some (.ref 41), some (.int p), none, none, none, none] u z := by
  by_cases e : p = -1
  · subst e
    exact ⟨_, _, b_best_all C G.1, fun t D => m_best_1 D G.1, G⟩
  · by_cases t1 : thr (hn z.1) p
    · obtain ⟨p', hp, rfl⟩ := thr_nI G.1.1.1 t1
      exact ⟨_, _, b_best_ok C G.1 hp t1, fun t D => m_best_ok D G.1 hp t1, G⟩
    · exact ⟨_, _, b_best_bad C e t1, fun t D => m_best_bad D e t1, G⟩
theorem s_dumb (C : CInv u z) (G : GoodZ z) : SMi 59 149 [some (.ref 0), none, none] [some (.ref 41), none, none] u z := ⟨_, _, b_dumb C G.1, fun t D => m_dumb D G.1, G⟩
theorem s_own (C : CInv u z) (G : GoodZ z) : SMi 60 151 [some (.ref 0), none, none] [some (.ref 41), none, none, none, none, none] u z := ⟨_, _, b_own C G.1, fun t D => m_own D G.1, G⟩
theorem s_ring (C : CInv u z) (G : GoodZ z) (p : Int32) : SMi 61 152 [some (.ref 0), some (.int p)] [some (.ref 41), some (.int p)] u z := by
  by_cases t1 : thr (hn z.1) p
  · obtain ⟨p', hp, rfl⟩ := thr_nI G.1.1.1 t1
    exact ⟨_, _, b_ring_ok C G.1 hp t1, fun t D => m_ring_ok D G.1 hp t1, G⟩
  · exact ⟨_, _, b_ring_bad C t1, fun t D => m_ring_bad D t1, G⟩
theorem s_swaps (C : CInv u z) (G : GoodZ z) (k : Int32) : SMi 62 154 [some (.ref 0), some (.int k), none] [some (.ref 41), some (.int k), none, none, none, none] u z := by
  by_cases h : k < -1
  · exact ⟨_, _, b_swaps_bad C h, fun t D => m_swaps_bad D h, G⟩
  · by_cases e : k = -1
    · subst e
      exact ⟨_, _, b_swaps_all C G.1, fun t D => m_swaps_all D G.1, G⟩
    · obtain ⟨j, hj, rfl⟩ := nI_of (neg1 h e)
      exact ⟨_, _, b_swaps_ok C G.1 hj, fun t D => m_swaps_ok D G.1 hj, G⟩
theorem s_steps (C : CInv u z) (G : GoodZ z) : SMi 63 156 [some (.ref 0), none, none, none] [some (.ref 41), none, none, none, none] u z := ⟨_, _, b_steps C G.1, fun t D => m_steps D G.1, G⟩
theorem le1 {w : Nat} (h : w ≤ 1) : w = 0 ∨ w = 1 := by omega
theorem s_worst (C : CInv u z) (G : GoodZ z) (w : Int32) : SMi 64 157 [some (.ref 0), some (.int w), none] [some (.ref 41), some (.int w), none, none, none, none, none] u z := by
  by_cases h : w < 0 ∨ 1 < w
  · exact ⟨_, _, b_worst_bad C h, fun t D => m_worst_bad D h, G⟩
  · obtain ⟨w', hw, rfl⟩ := rg_nI (M := 1) (by omega) h
    rcases le1 hw with rfl | rfl
    · exact ⟨_, _, b_worst_0 C G.1, fun t D => m_worst_0 D G.1, G⟩
    · exact ⟨_, _, b_worst_1 C G.1, fun t D => m_worst_1 D G.1, G⟩
theorem s_slips (C : CInv u z) (G : GoodZ z) (p w : Int32) : SMi 65 158 [some (.ref 0), some (.int p), some (.int w), none, none] [some (.ref 41), some (.int p), some (.int w), none, none] u z := by
  by_cases h : ¬ thr (hn z.1) p ∨ (w < 0 ∨ 60 < w)
  · exact ⟨_, _, b_slips_bad C h, fun t D => m_slips_bad D h, G⟩
  · have t1 : thr (hn z.1) p := Classical.not_not.mp (fun q => h (Or.inl q))
    obtain ⟨p', hp, rfl⟩ := thr_nI G.1.1.1 t1
    have h2 : ¬ (w < 0 ∨ 60 < w) := fun q => h (Or.inr q)
    obtain ⟨w', hw, rfl⟩ := rg_nI (M := 60) (by omega) h2
    exact ⟨_, _, b_slips_ok C G.1 hp t1 hw h2, fun t D => m_slips_ok D G.1 hp t1 hw h2, G⟩
theorem s_note (C : CInv u z) (G : GoodZ z) (v x d s w : Int32) : SMi 66 159 [some (.ref 0), some (.int v), some (.int x), some (.int d), some (.int s), some (.int w), none] [some (.ref 41), some (.int v), some (.int x), some (.int d), some (.int s), some (.int w)] u z := by
  by_cases h : noteBad (hn z.1) v x d s w
  · exact ⟨_, _, b_note_bad C h, fun t D => m_note_bad D h, G⟩
  · have h6 := G.1.1.2.2.1
    by_cases e : hnn z.1 = 6
    · exact ⟨_, _, b_note_full C h e, fun t D => m_note_full D h e, G⟩
    · have t1 : thr (hn z.1) v := Classical.not_not.mp (fun q => h (Or.inl q))
      obtain ⟨v', hv, rfl⟩ := thr_nI G.1.1.1 t1
      obtain ⟨x', hx, rfl⟩ := rg_nI (M := 20) (by omega) (fun q => h (Or.inr (Or.inl q)))
      obtain ⟨d', hd, rfl⟩ := rg_nI (M := 99) (by omega) (fun q => h (Or.inr (Or.inr (Or.inl q))))
      obtain ⟨s', hs, rfl⟩ := rg_nI (M := 9) (by omega) (fun q => h (Or.inr (Or.inr (Or.inr (Or.inl q)))))
      obtain ⟨w', hw, rfl⟩ := rg_nI (M := 9) (by omega) (fun q => h (Or.inr (Or.inr (Or.inr (Or.inr q)))))
      exact ⟨_, _, b_note_ok C h (by omega), fun t D => m_note_ok D h (by omega), goodZH G (goodNt G.1 (by omega) hv hx hd hs hw)⟩
theorem s_forget (C : CInv u z) (G : GoodZ z) : SMi 67 160 [some (.ref 0), none] [some (.ref 41), none] u z := ⟨_, _, b_forget C, fun t D => m_forget D, goodZH G (goodFg G.1)⟩
theorem s_is (C : CInv u z) (G : GoodZ z) (p : Int32) : SMi 68 162 [some (.ref 0), some (.int p)] [some (.ref 41), some (.int p)] u z := by
  by_cases t1 : thr (hn z.1) p
  · obtain ⟨p', hp, rfl⟩ := thr_nI G.1.1.1 t1
    exact ⟨_, _, b_is_ok C G.1 hp t1, fun t D => m_is_ok D G.1 hp t1, G⟩
  · exact ⟨_, _, b_is_bad C t1, fun t D => m_is_bad D t1, G⟩
theorem s_listen (C : CInv u z) (G : GoodZ z) (p : Int32) : SMi 69 164 [some (.ref 0), some (.int p), none, none, none, none, none, none] [some (.ref 41), some (.int p), none, none, none, none, none, none] u z := by
  by_cases t1 : thr (hn z.1) p
  · obtain ⟨p', hp, rfl⟩ := thr_nI G.1.1.1 t1
    exact ⟨_, _, b_listen_ok C G.1 hp t1, fun t D => m_listen_ok D G.1 hp t1, G⟩
  · exact ⟨_, _, b_listen_bad C t1, fun t D => m_listen_bad D t1, G⟩
theorem s_whose (C : CInv u z) (G : GoodZ z) (s : Int32) : SMi 70 165 [some (.ref 0), some (.int s), none, none] [some (.ref 41), some (.int s), none, none] u z := by
  by_cases h : s < 0 ∨ 9 < s
  · exact ⟨_, _, b_whose_bad C h, fun t D => m_whose_bad D h, G⟩
  · obtain ⟨s', hs, rfl⟩ := rg_nI (M := 9) (by omega) h
    exact ⟨_, _, b_whose_ok C G.1 hs h, fun t D => m_whose_ok D G.1 hs h, G⟩
theorem s_asks (C : CInv u z) (G : GoodZ z) (a b v : Int32) : SMi 71 167 [some (.ref 0), some (.int a), some (.int b), some (.int v), none, none, none, none, none, none, none, none] [some (.ref 41), some (.int a), some (.int b), some (.int v), none, none, none, none, none] u z := by
  by_cases h : asksBad (hn z.1) a b v
  · exact ⟨_, _, b_asks_bad C h, fun t D => m_asks_bad D h, G⟩
  · have t1 : thr (hn z.1) a := Classical.not_not.mp (fun q => h (Or.inl q))
    have t2 : thr (hn z.1) b := Classical.not_not.mp (fun q => h (Or.inr (Or.inl q)))
    have t3 : thr (hn z.1) v := Classical.not_not.mp (fun q => h (Or.inr (Or.inr (Or.inr q))))
    obtain ⟨a', ha, rfl⟩ := thr_nI G.1.1.1 t1
    obtain ⟨b', hb, rfl⟩ := thr_nI G.1.1.1 t2
    obtain ⟨v', hv, rfl⟩ := thr_nI G.1.1.1 t3
    by_cases e : hho z.1 v' = 0
    · exact ⟨_, _, b_asks_ok C G.1 h ha hb hv e, fun t D => m_asks_ok D G.1 h ha hb hv e, G⟩
    · exact ⟨_, _, b_asks_no C G.1 h hv e, fun t D => m_asks_no D G.1 h hv e, G⟩
theorem s_thieves (C : CInv u z) (G : GoodZ z) (n c : Int32) : SMi 72 171 [some (.ref 0), some (.int n), some (.int c), none, none, none, none, none, none] [some (.ref 41), some (.int n), some (.int c), none, none, none, none, none, none, none, none, none] u z := by
  by_cases h : (n < 0 ∨ 6 < n) ∨ (c < 0 ∨ 10 < c)
  · exact ⟨_, _, b_thieves_bad C h, fun t D => m_thieves_bad D h, G⟩
  · obtain ⟨n', hn, rfl⟩ := rg_nI (M := 6) (by omega) (fun q => h (Or.inl q))
    obtain ⟨c', hc, rfl⟩ := rg_nI (M := 10) (by omega) (fun q => h (Or.inr q))
    exact ⟨_, _, b_thieves_ok C G.1 hn hc h, fun t D => m_thieves_ok D G.1 hn hc h, G⟩
theorem s_lents (C : CInv u z) (G : GoodZ z) (x n : Int32) : SMi 73 172 [some (.ref 0), some (.int x), some (.int n), none, none, none, none, none, none, none] [some (.ref 41), some (.int x), some (.int n), none, none, none, none, none, none, none] u z := by
  by_cases h : lentsBad x n
  · exact ⟨_, _, b_lents_bad C h, fun t D => m_lents_bad D h, G⟩
  · by_cases e : hn z.1 = 0
    · exact ⟨_, _, b_lents_no C h e, fun t D => m_lents_no D h e, G⟩
    · obtain ⟨x', hx, rfl⟩ := rg_nI (M := 999999) (by omega) (fun q => h (Or.inl q))
      obtain ⟨n', hn, rfl⟩ := rg_nI (M := 60) (by omega) (fun q => h (Or.inr q))
      exact ⟨_, _, b_lents_ok C G.1 hx hn h (by omega), fun t D => m_lents_ok D G.1 hx hn h (by omega), G⟩
theorem s_part (C : CInv u z) (G : GoodZ z) (w : Int32) : SMl 74 173 [some (.ref 0), some (.int w)] [some (.ref 41), some (.int w)] u z := by
  by_cases h : w < 0 ∨ 1 < w
  · exact ⟨_, _, b_part_bad C h, fun t D => m_part_bad D h, G⟩
  · obtain ⟨w', hw, rfl⟩ := rg_nI (M := 1) (by omega) h
    rcases le1 hw with rfl | rfl
    · exact ⟨_, _, b_part_0 C, fun t D => m_part_0 D, G⟩
    · exact ⟨_, _, b_part_1 C, fun t D => m_part_1 D, G⟩
theorem s_image (C : CInv u z) (G : GoodZ z) (w : Int32) : SMi 75 174 [some (.ref 0), some (.int w)] [some (.ref 41), some (.int w), none, none] u z := by
  by_cases h : w < 0 ∨ 1 < w
  · exact ⟨_, _, b_image_bad C h, fun t D => m_image_bad D h, G⟩
  · obtain ⟨w', hw, rfl⟩ := rg_nI (M := 1) (by omega) h
    rcases le1 hw with rfl | rfl
    · exact ⟨_, _, b_image_0 C G.1, fun t D => m_image_0 D G, G.1, G.1, G.2.2.1, G.2.2.2⟩
    · exact ⟨_, _, b_image_1 C G.1, fun t D => m_image_1 D G, G.1, G.2.1, G.1, G.2.2.2⟩
theorem ImM_none {t : Sg} {i : Nat} {o : Option Hs} (I : ImM t i o) (h : o = none) : gA t 62 i = 0 := by subst h; exact I
theorem ImM_some {t : Sg} {i : Nat} {o : Option Hs} {h : Hs} (I : ImM t i o) (e : o = some h) : gA t 62 i = 1 ∧ IRep t (230 * i) h := by subst e; exact I
theorem GoodO_some {o : Option Hs} {h : Hs} (g : GoodO o) (e : o = some h) : GoodH h := by subst e; exact g
theorem s_from (C : CInv u z) (G : GoodZ z) (w : Int32) : SMi 76 175 [some (.ref 0), some (.int w)] [some (.ref 41), some (.int w), none, none] u z := by
  by_cases h : w < 0 ∨ 1 < w
  · exact ⟨_, _, b_from_bad C h, fun t D => m_from_bad D h, G⟩
  · obtain ⟨w', hw, rfl⟩ := rg_nI (M := 1) (by omega) h
    rcases le1 hw with rfl | rfl
    · cases e : z.2.1.1 with
      | none => exact ⟨_, _, b_from_0_no C e, fun t D => m_from_no D (by omega) h (ImM_none D.2.1 e), G⟩
      | some h1 => exact ⟨_, _, b_from_0 C e (GoodO_some G.2.1 e), fun t D => m_from_ok D (by omega) h (GoodO_some G.2.1 e) (ImM_some D.2.1 e).1 (ImM_some D.2.1 e).2, goodZH G (GoodO_some G.2.1 e)⟩
    · cases e : z.2.1.2 with
      | none => exact ⟨_, _, b_from_1_no C e, fun t D => m_from_no D (by omega) h (ImM_none D.2.2.1 e), G⟩
      | some h1 => exact ⟨_, _, b_from_1 C e (GoodO_some G.2.2.1 e), fun t D => m_from_ok D (by omega) h (GoodO_some G.2.2.1 e) (ImM_some D.2.2.1 e).1 (ImM_some D.2.2.1 e).2, goodZH G (GoodO_some G.2.2.1 e)⟩
theorem s_status (C : CInv u z) (G : GoodZ z) (w : Int32) : SMi 77 176 [some (.ref 0), some (.int w)] [some (.ref 41), some (.int w)] u z := by
  by_cases h : w < 0 ∨ 2 < w
  · exact ⟨_, _, b_status_bad C h, fun t D => m_status_bad D h, G⟩
  · obtain ⟨w', hw, rfl⟩ := rg_nI (M := 2) (by omega) h
    exact ⟨_, _, b_status_ok C hw, fun t D => m_status_ok D hw h, G⟩
theorem s_count (C : CInv u z) (G : GoodZ z) (w : Int32) : SMi 78 179 [some (.ref 0), some (.int w)] [some (.ref 41), some (.int w)] u z := by
  by_cases h : w < 0 ∨ 6 < w
  · exact ⟨_, _, b_count_bad C h, fun t D => m_count_bad D h, G⟩
  · obtain ⟨w', hw, rfl⟩ := rg_nI (M := 6) (by omega) h
    exact ⟨_, _, b_count_ok C G.1 hw h, fun t D => m_count_ok D G.1 hw h, G⟩
theorem s_digest (C : CInv u z) (G : GoodZ z) : SMl 79 181 [some (.ref 0), none, none, none] [some (.ref 41), none] u z := ⟨_, _, b_digest C G.1, fun t D => m_digest D G.1, G⟩
/-- both calls, as contracts of the machine -/
theorem sim_i (l : Launch) {mB mM kB kM : Nat} {dB dM : MD} {As : List Value} (C : MInv u z) (S : SMi mB mM (ent dB.2.2.1 (.ref 0 :: As)) (ent dM.2.2.1 (.ref 41 :: As)) u z) (hB : inf mB = some dB) (hM : inf mM = some dM) (kb : MDok dB kB) (km : MDok dM kM) (sb : slc (.ref 0 :: As) ≤ dB.2.2.1) (sm : slc (.ref 41 :: As) ≤ dM.2.2.1) : ∃ (r : Int32) (u1 u2 : Sg) (z' : Zs), MetR l dB (.ref 0 :: As) u (some (.int r)) u1 ∧ MetR l dM (.ref 41 :: As) u1 (some (.int r)) u2 ∧ CInv u2 z' ∧ MInv u2 z' ∧ GoodZ z' := by
  obtain ⟨r, z', hb, hm, G'⟩ := S
  obtain ⟨x, u1, -, ⟨rfl, C1, A1⟩, M1⟩ := met_run l hB kb sb hb
  obtain ⟨x, u2, -, ⟨rfl, D2, A2⟩, M2⟩ := met_run l hM km sm (hm u1 (C.keep A1))
  exact ⟨r, u1, u2, z', M1, M2, C1.keep A2, D2, G'⟩
theorem sim_l (l : Launch) {mB mM kB kM : Nat} {dB dM : MD} {As : List Value} (C : MInv u z) (S : SMl mB mM (ent dB.2.2.1 (.ref 0 :: As)) (ent dM.2.2.1 (.ref 41 :: As)) u z) (hB : inf mB = some dB) (hM : inf mM = some dM) (kb : MDok dB kB) (km : MDok dM kM) (sb : slc (.ref 0 :: As) ≤ dB.2.2.1) (sm : slc (.ref 41 :: As) ≤ dM.2.2.1) : ∃ (r : Int64) (u1 u2 : Sg) (z' : Zs), MetR l dB (.ref 0 :: As) u (some (.long r)) u1 ∧ MetR l dM (.ref 41 :: As) u1 (some (.long r)) u2 ∧ CInv u2 z' ∧ MInv u2 z' ∧ GoodZ z' := by
  obtain ⟨r, z', hb, hm, G'⟩ := S
  obtain ⟨x, u1, -, ⟨rfl, C1, A1⟩, M1⟩ := met_run l hB kb sb hb
  obtain ⟨x, u2, -, ⟨rfl, D2, A2⟩, M2⟩ := met_run l hM km sm (hm u1 (C.keep A1))
  exact ⟨r, u1, u2, z', M1, M2, C1.keep A2, D2, G'⟩
end SIM
