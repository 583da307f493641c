/-! ===== the class: notes, listening, asking, images, the digest ===== -/
section B3
variable {u : Sg} {z : Zs}
def noteBad (n : Nat) (v x d s w : Int32) : Prop := ¬ thr n v ∨ (x < 0 ∨ 20 < x) ∨ (d < 0 ∨ 99 < d) ∨ (s < 0 ∨ 9 < s) ∨ (w < 0 ∨ 9 < w)
theorem b_note_bad (C : CInv u z) {v x d s w : Int32} (h : noteBad (hn z.1) v x d s w) : BC 66 [some (.ref 0), some (.int v), some (.int x), some (.int d), some (.int s), some (.int w), none] u (.int (-2)) (zB z) := by
  have tail : V 66 (51, [some (.ref 0), some (.int v), some (.int x), some (.int d), some (.int s), some (.int w), none], [], u) (fun r t => r = some (.int (-2)) ∧ CInv t (zB z) ∧ Agr onM u t) := by
    refine VV.s rfl rfl ?_
    refine VV.s rfl rfl ?_
    refine VV.s rfl rfl ?_
    refine VV.s rfl rfl ?_
    refine VV.itf (fun q => q rfl) ?_
    ((repeat refine VV.s rfl rfl ?_); (try (conv => arg 3; simp only [Nat.reduceAdd, sto1, sto2, isL, cond_true, cond_false, List.drop_succ_cons, List.drop_zero, List.drop_nil])))
    refine VV.callE rfl rfl rfl rfl e_bad rfl ?_
    exact VV.ret1 rfl ⟨rfl, C.bad, (Agr.rf).I (by decide)⟩
  by_cases c1 : thr (hn z.1) v
  · ((repeat refine VV.s rfl rfl ?_); (try (conv => arg 3; simp only [Nat.reduceAdd, sto1, sto2, isL, cond_true, cond_false, List.drop_succ_cons, List.drop_zero, List.drop_nil])))
    refine VV.callE rfl rfl rfl rfl (e_thereY C.1.1.1 c1) rfl ?_
    refine VV.s rfl rfl ?_
    refine VV.itf (by decide) ?_
    have h := h.resolve_left (fun q => q c1)
    by_cases c2 : x < 0 ∨ 20 < x
    · ((repeat refine VV.s rfl rfl ?_); (try (conv => arg 3; simp only [Nat.reduceAdd, sto1, sto2, isL, cond_true, cond_false, List.drop_succ_cons, List.drop_zero, List.drop_nil])))
      refine VV.callE rfl rfl rfl rfl (e_inN c2) rfl ?_
      refine VV.s rfl rfl ?_
      refine VV.itt (by decide) ?_
      exact tail
    · ((repeat refine VV.s rfl rfl ?_); (try (conv => arg 3; simp only [Nat.reduceAdd, sto1, sto2, isL, cond_true, cond_false, List.drop_succ_cons, List.drop_zero, List.drop_nil])))
      refine VV.callE rfl rfl rfl rfl (e_inY c2) rfl ?_
      refine VV.s rfl rfl ?_
      refine VV.itf (by decide) ?_
      have h := h.resolve_left c2
      by_cases c3 : d < 0 ∨ 99 < d
      · ((repeat refine VV.s rfl rfl ?_); (try (conv => arg 3; simp only [Nat.reduceAdd, sto1, sto2, isL, cond_true, cond_false, List.drop_succ_cons, List.drop_zero, List.drop_nil])))
        refine VV.callE rfl rfl rfl rfl (e_inN c3) rfl ?_
        refine VV.s rfl rfl ?_
        refine VV.itt (by decide) ?_
        exact tail
      · ((repeat refine VV.s rfl rfl ?_); (try (conv => arg 3; simp only [Nat.reduceAdd, sto1, sto2, isL, cond_true, cond_false, List.drop_succ_cons, List.drop_zero, List.drop_nil])))
        refine VV.callE rfl rfl rfl rfl (e_inY c3) rfl ?_
        refine VV.s rfl rfl ?_
        refine VV.itf (by decide) ?_
        have h := h.resolve_left c3
        by_cases c4 : s < 0 ∨ 9 < s
        · ((repeat refine VV.s rfl rfl ?_); (try (conv => arg 3; simp only [Nat.reduceAdd, sto1, sto2, isL, cond_true, cond_false, List.drop_succ_cons, List.drop_zero, List.drop_nil])))
          refine VV.callE rfl rfl rfl rfl (e_soN c4) rfl ?_
          refine VV.s rfl rfl ?_
          refine VV.itt (by decide) ?_
          exact tail
        · ((repeat refine VV.s rfl rfl ?_); (try (conv => arg 3; simp only [Nat.reduceAdd, sto1, sto2, isL, cond_true, cond_false, List.drop_succ_cons, List.drop_zero, List.drop_nil])))
          refine VV.callE rfl rfl rfl rfl (e_soY c4) rfl ?_
          refine VV.s rfl rfl ?_
          refine VV.itf (by decide) ?_
          ((repeat refine VV.s rfl rfl ?_); (try (conv => arg 3; simp only [Nat.reduceAdd, sto1, sto2, isL, cond_true, cond_false, List.drop_succ_cons, List.drop_zero, List.drop_nil])))
          refine VV.callE rfl rfl rfl rfl (e_inN (h.resolve_left c4)) rfl ?_
          refine VV.s rfl rfl ?_
          refine VV.itt (by decide) ?_
          exact tail
  · ((repeat refine VV.s rfl rfl ?_); (try (conv => arg 3; simp only [Nat.reduceAdd, sto1, sto2, isL, cond_true, cond_false, List.drop_succ_cons, List.drop_zero, List.drop_nil])))
    refine VV.callE rfl rfl rfl rfl (e_thereN C.1.1.1 c1) rfl ?_
    refine VV.s rfl rfl ?_
    refine VV.itt (by decide) ?_
    exact tail
theorem b_note_go (C : CInv u z) {v x d s w : Int32} (h : ¬ noteBad (hn z.1) v x d s w) {Q : Option Value → Sg → Prop} (K : ∀ b, V 66 (64, [some (.ref 0), some (.int v), some (.int x), some (.int d), some (.int s), some (.int w), b], [], u) Q) : V 66 (0, [some (.ref 0), some (.int v), some (.int x), some (.int d), some (.int s), some (.int w), none], [], u) Q := by
  ((repeat refine VV.s rfl rfl ?_); (try (conv => arg 3; simp only [Nat.reduceAdd, sto1, sto2, isL, cond_true, cond_false, List.drop_succ_cons, List.drop_zero, List.drop_nil])))
  refine VV.callE rfl rfl rfl rfl (e_thereY C.1.1.1 (Classical.not_not.mp (fun q => h (Or.inl q)))) rfl ?_
  refine VV.s rfl rfl ?_
  refine VV.itf (by decide) ?_
  ((repeat refine VV.s rfl rfl ?_); (try (conv => arg 3; simp only [Nat.reduceAdd, sto1, sto2, isL, cond_true, cond_false, List.drop_succ_cons, List.drop_zero, List.drop_nil])))
  refine VV.callE rfl rfl rfl rfl (e_inY (fun q => h (Or.inr (Or.inl q)))) rfl ?_
  refine VV.s rfl rfl ?_
  refine VV.itf (by decide) ?_
  ((repeat refine VV.s rfl rfl ?_); (try (conv => arg 3; simp only [Nat.reduceAdd, sto1, sto2, isL, cond_true, cond_false, List.drop_succ_cons, List.drop_zero, List.drop_nil])))
  refine VV.callE rfl rfl rfl rfl (e_inY (fun q => h (Or.inr (Or.inr (Or.inl q))))) rfl ?_
  refine VV.s rfl rfl ?_
  refine VV.itf (by decide) ?_
  ((repeat refine VV.s rfl rfl ?_); (try (conv => arg 3; simp only [Nat.reduceAdd, sto1, sto2, isL, cond_true, cond_false, List.drop_succ_cons, List.drop_zero, List.drop_nil])))
  refine VV.callE rfl rfl rfl rfl (e_soY (fun q => h (Or.inr (Or.inr (Or.inr (Or.inl q)))))) rfl ?_
  refine VV.s rfl rfl ?_
  refine VV.itf (by decide) ?_
  ((repeat refine VV.s rfl rfl ?_); (try (conv => arg 3; simp only [Nat.reduceAdd, sto1, sto2, isL, cond_true, cond_false, List.drop_succ_cons, List.drop_zero, List.drop_nil])))
  refine VV.callE rfl rfl rfl rfl (e_inY (fun q => h (Or.inr (Or.inr (Or.inr (Or.inr q)))))) rfl ?_
  refine VV.s rfl rfl ?_
  refine VV.itf (by decide) ?_
  refine VV.s rfl rfl ?_
  refine VV.s rfl rfl ?_
  refine VV.s rfl rfl ?_
  refine VV.s rfl rfl ?_
  refine VV.s rfl rfl ?_
  refine VV.itt (by decide) ?_
  exact K _
theorem b_note_full (C : CInv u z) {v x d s w : Int32} (h : ¬ noteBad (hn z.1) v x d s w) (h6 : hnn z.1 = 6) : BC 66 [some (.ref 0), some (.int v), some (.int x), some (.int d), some (.int s), some (.int w), none] u (.int (-4)) (zF z) := by
  refine b_note_go C h (fun b => ?_)
  ((repeat refine VV.s rfl rfl ?_); (try (conv => arg 3; simp only [Nat.reduceAdd, sto1, sto2, isL, cond_true, cond_false, List.drop_succ_cons, List.drop_zero, List.drop_nil])))
  refine VV.itf (by rw [C.1.1.2.2.1, h6]; decide) ?_
  ((repeat refine VV.s rfl rfl ?_); (try (conv => arg 3; simp only [Nat.reduceAdd, sto1, sto2, isL, cond_true, cond_false, List.drop_succ_cons, List.drop_zero, List.drop_nil])))
  refine VV.callE rfl rfl rfl rfl e_full rfl ?_
  exact VV.ret1 rfl ⟨rfl, C.full, (Agr.rf).I (by decide)⟩
theorem b_note_ok (C : CInv u z) {v x d s w : Nat} (h : ¬ noteBad (hn z.1) (nI v) (nI x) (nI d) (nI s) (nI w)) (h5 : hnn z.1 < 6) : BC 66 [some (.ref 0), some (.int (nI v)), some (.int (nI x)), some (.int (nI d)), some (.int (nI s)), some (.int (nI w)), none] u (.int (nI (hnn z.1 + 1))) (zH z (hNt z.1 (row5 v x d s w))) := by
  refine b_note_go C h (fun b => ?_)
  ((repeat refine VV.s rfl rfl ?_); (try (conv => arg 3; simp only [Nat.reduceAdd, sto1, sto2, isL, cond_true, cond_false, List.drop_succ_cons, List.drop_zero, List.drop_nil])))
  refine VV.itt (by rw [C.1.1.2.2.1]; exact nI_lt (b := 6) h5 (by omega)) ?_
  ((repeat refine VV.s rfl rfl ?_); (try (conv => arg 3; simp only [Nat.reduceAdd, sto1, sto2, isL, cond_true, cond_false, List.drop_succ_cons, List.drop_zero, List.drop_nil])))
  refine VV.call rfl rfl rfl rfl (e_writeDown C.1 h5) (fun r t q => ?_)
  obtain ⟨rfl, R2, A2⟩ := q
  exact VV.ret1 rfl ⟨rfl, C.house R2 A2, onM_off1 A2⟩
def hFg (h : Hs) : Hs := ((hn h, hev h, 0, hun h), h.2)
theorem b_forget (C : CInv u z) : BC 67 [some (.ref 0), none] u (.int (nI (hnn z.1))) (zH z (hFg z.1)) := by
  ((repeat refine VV.s rfl rfl ?_); (try (conv => arg 3; simp only [Nat.reduceAdd, sto1, sto2, isL, cond_true, cond_false, List.drop_succ_cons, List.drop_zero, List.drop_nil])))
  have A : Agr (offH 1) u (pI u 1 2 0) := (Agr.rf).I (by decide)
  refine VV.ret1 rfl ⟨by rw [C.1.1.2.2.1], C.house ⟨⟨C.1.1.1, C.1.1.2.1, rfl, C.1.1.2.2.2⟩, C.1.2.1, fun i c hi => absurd hi (Nat.not_lt_zero i), C.1.2.2.2⟩ A, onM_off1 A⟩
theorem b_is_bad (C : CInv u z) {p : Int32} (h : ¬ thr (hn z.1) p) : BC 68 [some (.ref 0), some (.int p)] u (.int (-2)) (zB z) := by
  ((repeat refine VV.s rfl rfl ?_); (try (conv => arg 3; simp only [Nat.reduceAdd, sto1, sto2, isL, cond_true, cond_false, List.drop_succ_cons, List.drop_zero, List.drop_nil])))
  refine VV.callE rfl rfl rfl rfl (e_thereN C.1.1.1 h) rfl ?_
  refine VV.s rfl rfl ?_
  refine VV.itf (by decide) ?_
  ((repeat refine VV.s rfl rfl ?_); (try (conv => arg 3; simp only [Nat.reduceAdd, sto1, sto2, isL, cond_true, cond_false, List.drop_succ_cons, List.drop_zero, List.drop_nil])))
  refine VV.callE rfl rfl rfl rfl e_bad rfl ?_
  exact VV.ret1 rfl ⟨rfl, C.bad, (Agr.rf).I (by decide)⟩
theorem b_is_ok (C : CInv u z) (G : GoodH z.1) {v : Nat} (hv : v < hn z.1) (t1 : thr (hn z.1) (nI v)) : BC 68 [some (.ref 0), some (.int (nI v))] u (.int (isK z.1 v)) z := by
  have h6 := G.1.1
  ((repeat refine VV.s rfl rfl ?_); (try (conv => arg 3; simp only [Nat.reduceAdd, sto1, sto2, isL, cond_true, cond_false, List.drop_succ_cons, List.drop_zero, List.drop_nil])))
  refine VV.callE rfl rfl rfl rfl (e_thereY C.1.1.1 t1) rfl ?_
  refine VV.s rfl rfl ?_
  refine VV.itt (by decide) ?_
  ((repeat refine VV.s rfl rfl ?_); (try (conv => arg 3; simp only [Nat.reduceAdd, sto1, sto2, isL, cond_true, cond_false, List.drop_succ_cons, List.drop_zero, List.drop_nil])))
  refine VV.callE rfl rfl rfl rfl (e_kindsByNotes C.1 G (by omega)) rfl ?_
  exact VV.ret1 rfl ⟨rfl, C, Agr.rf⟩
/-- kinds that sound and let slip alike -/
def bt (ks : Int32) (a : Nat) : Bool := decide ((ks >>> (nI a &&& 31)) &&& 1 = 1)
def alk (ks : Int32) (s x d a b : Nat) : Bool := bt ks a && bt ks b && decide (sdN a s d = sdN b s d) && decide (wdN a x = wdN b x)
def alC (ks : Int32) (s x d a : Nat) : Nat → Nat → Nat → Nat
  | 0, _, c => c
  | k + 1, b, c => alC ks s x d a k (b + 1) (if alk ks s x d a b then c + 1 else c)
def alM (ks : Int32) (s x d : Nat) : Nat → Nat → Nat → Nat
  | 0, _, m => m
  | k + 1, a, m => alM ks s x d k (a + 1) (max m (alC ks s x d a 6 0 0))
theorem alC_le (ks : Int32) (s x d a : Nat) : ∀ k b c, alC ks s x d a k b c ≤ c + k
  | 0, _, c => by rw [alC]; omega
  | k + 1, b, c => by
    rw [alC]
    by_cases hc : alk ks s x d a b = true
    · rw [if_pos hc]
      have := alC_le ks s x d a k (b + 1) (c + 1)
      omega
    · rw [if_neg hc]
      have := alC_le ks s x d a k (b + 1) c
      omega
theorem alM_le (ks : Int32) (s x d : Nat) : ∀ k a m, m ≤ 6 → alM ks s x d k a m ≤ 6
  | 0, _, m, h => h
  | k + 1, a, m, h => by
    rw [alM]
    have := alC_le ks s x d a 6 0 0
    exact alM_le ks s x d k (a + 1) _ (by omega)
set_option maxHeartbeats 4000000 in
theorem e_alike_in {ks : Int32} {s x d a m : Nat} (hs : s ≤ 9) (hx : x < 2 ^ 31) (hd : d < 2 ^ 31) (ha : a ≤ 5) {Q : Option Value → Sg → Prop} (K : ∀ d7 d8, V 32 (99, [some (.int ks), some (.int (nI s)), some (.int (nI x)), some (.int (nI d)), some (.int (nI m)), some (.int (nI a)), some (.int (nI (alC ks s x d a 6 0 0))), d7, d8], [], u) Q) : ∀ k b c d8, b + k = 6 → alC ks s x d a k b c = alC ks s x d a 6 0 0 → V 32 (19, [some (.int ks), some (.int (nI s)), some (.int (nI x)), some (.int (nI d)), some (.int (nI m)), some (.int (nI a)), some (.int (nI c)), some (.int (nI b)), d8], [], u) Q := by
  intro k
  induction k with
  | zero =>
    intro b c d8 hb hc
    ((repeat refine VV.s rfl rfl ?_); (try (conv => arg 3; simp only [Nat.reduceAdd, sto1, sto2, isL, cond_true, cond_false, List.drop_succ_cons, List.drop_zero, List.drop_nil])))
    refine VV.itt (nI_le (a := 6) (by omega) (by omega)) ?_
    have hc : c = _ := hc
    rw [hc]
    exact K _ _
  | succ k ih =>
    intro b c d8 hb hc
    rw [alC] at hc
    ((repeat refine VV.s rfl rfl ?_); (try (conv => arg 3; simp only [Nat.reduceAdd, sto1, sto2, isL, cond_true, cond_false, List.drop_succ_cons, List.drop_zero, List.drop_nil])))
    refine VV.itf (nI_ge (b := 6) (by omega) (by omega)) ?_
    have no : ∀ d8, alk ks s x d a b = false → V 32 (93, [some (.int ks), some (.int (nI s)), some (.int (nI x)), some (.int (nI d)), some (.int (nI m)), some (.int (nI a)), some (.int (nI c)), some (.int (nI b)), d8], [], u) Q := by
      intro d8 hf
      ((repeat (fail_if_success show VV _ _ (19, _, _, _) _); refine VV.s rfl rfl ?_); (try (conv => arg 3; simp only [Nat.reduceAdd, sto1, sto2, isL, cond_true, cond_false, List.drop_succ_cons, List.drop_zero, List.drop_nil])))
      rw [nI_1]
      exact ih (b + 1) c d8 (by omega) (by rw [← hc, hf]; rfl)
    ((repeat refine VV.s rfl rfl ?_); (try (conv => arg 3; simp only [Nat.reduceAdd, sto1, sto2, isL, cond_true, cond_false, List.drop_succ_cons, List.drop_zero, List.drop_nil])))
    refine VV.ite (fun q => ?_) (fun q => ?_)
    · refine VV.s rfl rfl ?_
      refine VV.s rfl rfl ?_
      refine VV.s rfl rfl ?_
      refine VV.s rfl rfl ?_
      refine VV.itt rfl ?_
      exact no _ (by simp [alk, bt, q])
    · have q := Classical.not_not.mp q
      ((repeat refine VV.s rfl rfl ?_); (try (conv => arg 3; simp only [Nat.reduceAdd, sto1, sto2, isL, cond_true, cond_false, List.drop_succ_cons, List.drop_zero, List.drop_nil])))
      refine VV.ite (fun q2 => ?_) (fun q2 => ?_)
      · refine VV.s rfl rfl ?_
        refine VV.s rfl rfl ?_
        refine VV.s rfl rfl ?_
        refine VV.s rfl rfl ?_
        refine VV.itt rfl ?_
        exact no _ (by simp [alk, bt, q2])
      · have q2 := Classical.not_not.mp q2
        refine VV.s rfl rfl ?_
        refine VV.s rfl rfl ?_
        refine VV.s rfl rfl ?_
        refine VV.s rfl rfl ?_
        refine VV.s rfl rfl ?_
        refine VV.itf (by decide) ?_
        ((repeat refine VV.s rfl rfl ?_); (try (conv => arg 3; simp only [Nat.reduceAdd, sto1, sto2, isL, cond_true, cond_false, List.drop_succ_cons, List.drop_zero, List.drop_nil])))
        refine VV.callE rfl rfl rfl rfl (e_Ksound ha hs hd) rfl ?_
        ((repeat refine VV.s rfl rfl ?_); (try (conv => arg 3; simp only [Nat.reduceAdd, sto1, sto2, isL, cond_true, cond_false, List.drop_succ_cons, List.drop_zero, List.drop_nil])))
        refine VV.callE rfl rfl rfl rfl (e_Ksound (show b ≤ 5 by omega) hs hd) rfl ?_
        ((repeat refine VV.s rfl rfl ?_); (try (conv => arg 3; simp only [Nat.reduceAdd, sto1, sto2, isL, cond_true, cond_false, List.drop_succ_cons, List.drop_zero, List.drop_nil])))
        have l1 := sdN_le (k := a) (d := d) hs
        have l2 := sdN_le (k := b) (d := d) hs
        refine VV.ite (fun q3 => ?_) (fun q3 => ?_)
        · rw [eq_nI (by omega) (by omega)] at q3
          exact no _ (by simp [alk, q3])
        · rw [eq_nI (by omega) (by omega)] at q3
          have q3 := Classical.not_not.mp q3
          ((repeat refine VV.s rfl rfl ?_); (try (conv => arg 3; simp only [Nat.reduceAdd, sto1, sto2, isL, cond_true, cond_false, List.drop_succ_cons, List.drop_zero, List.drop_nil])))
          refine VV.callE rfl rfl rfl rfl (e_words ha hx) rfl ?_
          ((repeat refine VV.s rfl rfl ?_); (try (conv => arg 3; simp only [Nat.reduceAdd, sto1, sto2, isL, cond_true, cond_false, List.drop_succ_cons, List.drop_zero, List.drop_nil])))
          refine VV.callE rfl rfl rfl rfl (e_words (show b ≤ 5 by omega) hx) rfl ?_
          ((repeat refine VV.s rfl rfl ?_); (try (conv => arg 3; simp only [Nat.reduceAdd, sto1, sto2, isL, cond_true, cond_false, List.drop_succ_cons, List.drop_zero, List.drop_nil])))
          have l3 := wdN_le a x
          have l4 := wdN_le b x
          refine VV.ite (fun q4 => ?_) (fun q4 => ?_)
          · rw [eq_nI (by omega) (by omega)] at q4
            exact no _ (by simp [alk, q4])
          · rw [eq_nI (by omega) (by omega)] at q4
            have q4 := Classical.not_not.mp q4
            ((repeat (fail_if_success show VV _ _ (19, _, _, _) _); refine VV.s rfl rfl ?_); (try (conv => arg 3; simp only [Nat.reduceAdd, sto1, sto2, isL, cond_true, cond_false, List.drop_succ_cons, List.drop_zero, List.drop_nil])))
            rw [nI_1, nI_1]
            have yes : alk ks s x d a b = true := by simp [alk, bt, q, q2, q3, q4]
            exact ih (b + 1) (c + 1) _ (by omega) (by rw [← hc, yes]; rfl)
set_option maxHeartbeats 4000000 in
theorem e_alike_out {ks : Int32} {s x d : Nat} (hs : s ≤ 9) (hx : x < 2 ^ 31) (hd : d < 2 ^ 31) : ∀ k a m d6 d7 d8, a + k = 6 → m ≤ 6 → V 32 (6, [some (.int ks), some (.int (nI s)), some (.int (nI x)), some (.int (nI d)), some (.int (nI m)), some (.int (nI a)), d6, d7, d8], [], u) (is (.int (nI (alM ks s x d k a m))) u) := by
  intro k
  induction k with
  | zero =>
    intro a m d6 d7 d8 ha hm
    ((repeat refine VV.s rfl rfl ?_); (try (conv => arg 3; simp only [Nat.reduceAdd, sto1, sto2, isL, cond_true, cond_false, List.drop_succ_cons, List.drop_zero, List.drop_nil])))
    refine VV.itt (nI_le (a := 6) (by omega) (by omega)) ?_
    ((repeat refine VV.s rfl rfl ?_); (try (conv => arg 3; simp only [Nat.reduceAdd, sto1, sto2, isL, cond_true, cond_false, List.drop_succ_cons, List.drop_zero, List.drop_nil])))
    exact VV.ret1 rfl ⟨rfl, rfl⟩
  | succ k ih =>
    intro a m d6 d7 d8 ha hm
    ((repeat refine VV.s rfl rfl ?_); (try (conv => arg 3; simp only [Nat.reduceAdd, sto1, sto2, isL, cond_true, cond_false, List.drop_succ_cons, List.drop_zero, List.drop_nil])))
    refine VV.itf (nI_ge (b := 6) (by omega) (by omega)) ?_
    ((repeat (fail_if_success show VV _ _ (19, _, _, _) _); refine VV.s rfl rfl ?_); (try (conv => arg 3; simp only [Nat.reduceAdd, sto1, sto2, isL, cond_true, cond_false, List.drop_succ_cons, List.drop_zero, List.drop_nil])))
    refine e_alike_in hs hx hd (show a ≤ 5 by omega) (fun d7 d8 => ?_) 6 0 0 d8 (by omega) rfl
    ((repeat (fail_if_success show VV _ _ (6, _, _, _) _); refine VV.s rfl rfl ?_); (try (conv => arg 3; simp only [Nat.reduceAdd, sto1, sto2, isL, cond_true, cond_false, List.drop_succ_cons, List.drop_zero, List.drop_nil])))
    have hl := alC_le ks s x d a 6 0 0
    have e : (if nI m < nI (alC ks s x d a 6 0 0) then nI (alC ks s x d a 6 0 0) else nI m) = nI (max m (alC ks s x d a 6 0 0)) := by
      by_cases c : m < alC ks s x d a 6 0 0
      · rw [if_pos (nI_lt c (by omega))]
        congr 1; omega
      · rw [if_neg (nI_nlt (by omega) (by omega))]
        congr 1; omega
    rw [e, nI_1, alM]
    exact ih (a + 1) _ _ _ _ (by omega) (by omega)
theorem e_alike {ks : Int32} {s x d : Nat} (hs : s ≤ 9) (hx : x < 2 ^ 31) (hd : d < 2 ^ 31) : V 32 (0, [some (.int ks), some (.int (nI s)), some (.int (nI x)), some (.int (nI d)), none, none, none, none, none], [], u) (is (.int (nI (alM ks s x d 6 0 0))) u) := by
  ((repeat (fail_if_success show VV _ _ (6, _, _, _) _); refine VV.s rfl rfl ?_); (try (conv => arg 3; simp only [Nat.reduceAdd, sto1, sto2, isL, cond_true, cond_false, List.drop_succ_cons, List.drop_zero, List.drop_nil])))
  exact e_alike_out hs hx hd 6 0 0 none none none (by omega) (by omega)
/-- the next evening to listen: what is chosen (10 u + d), how few -/
def lsD (ks : Int32) (s x : Nat) : Nat → Nat → Int32 × Nat → Int32 × Nat
  | 0, _, q => q
  | k + 1, d, q => lsD ks s x k (d + 1) (if alM ks s x d 6 0 0 < q.2 then (nI (10 * x + d), alM ks s x d 6 0 0) else q)
def lsU (ks : Int32) (s : Nat) : Nat → Nat → Int32 × Nat → Int32 × Nat
  | 0, _, q => q
  | k + 1, x, q => lsU ks s k (x + 1) (lsD ks s x 2 0 q)
theorem lsD_le (ks : Int32) (s x : Nat) : ∀ k d q, q.2 ≤ 7 → (lsD ks s x k d q).2 ≤ 7
  | 0, _, q, h => h
  | k + 1, d, q, h => by
    rw [lsD]
    have := alM_le ks s x d 6 0 0 (by omega)
    refine lsD_le ks s x k (d + 1) _ ?_
    split
    · show alM ks s x d 6 0 0 ≤ 7; omega
    · exact h
set_option maxHeartbeats 4000000 in
theorem b_listen_in (C : CInv u z) (G : GoodH z.1) {v x : Nat} (hv : v < hn z.1) (hx : x ≤ 4) {ks : Int32} {q0 : Int32 × Nat} {Q : Option Value → Sg → Prop} (K : ∀ d6 d7, V 69 (97, [some (.ref 0), some (.int (nI v)), some (.int ks), some (.int (lsD ks (hso z.1 v) x 2 0 q0).1), some (.int (nI (lsD ks (hso z.1 v) x 2 0 q0).2)), some (.int (nI x)), d6, d7], [], u) Q) : ∀ k d q d7, d + k = 2 → q.2 ≤ 7 → lsD ks (hso z.1 v) x k d q = lsD ks (hso z.1 v) x 2 0 q0 → V 69 (46, [some (.ref 0), some (.int (nI v)), some (.int ks), some (.int q.1), some (.int (nI q.2)), some (.int (nI x)), some (.int (nI d)), d7], [], u) Q := by
  have h6 := G.1.1
  have r2 := (C.1.2.1 v hv).2.1
  have g2 := (G.2.1 v hv).2.1
  intro k
  induction k with
  | zero =>
    intro d q d7 hd hq he
    ((repeat refine VV.s rfl rfl ?_); (try (conv => arg 3; simp only [Nat.reduceAdd, sto1, sto2, isL, cond_true, cond_false, List.drop_succ_cons, List.drop_zero, List.drop_nil])))
    refine VV.itt (nI_lt (a := 1) (by omega) (by omega)) ?_
    have he : q = _ := he
    rw [he]
    exact K _ _
  | succ k ih =>
    intro d q d7 hd hq he
    rw [lsD] at he
    have hm := alM_le ks (hso z.1 v) x d 6 0 0 (by omega)
    ((repeat refine VV.s rfl rfl ?_); (try (conv => arg 3; simp only [Nat.reduceAdd, sto1, sto2, isL, cond_true, cond_false, List.drop_succ_cons, List.drop_zero, List.drop_nil])))
    refine VV.itf (nI_nlt (a := 1) (by omega) (by omega)) ?_
    ((repeat refine VV.s rfl rfl ?_); (try (conv => arg 3; simp only [Nat.reduceAdd, sto1, sto2, isL, cond_true, cond_false, List.drop_succ_cons, List.drop_zero, List.drop_nil])))
    refine VV.iald rfl rfl rfl (show v < 6 by omega) (by decide) ?_
    ((repeat refine VV.s rfl rfl ?_); (try (conv => arg 3; simp only [Nat.reduceAdd, sto1, sto2, isL, cond_true, cond_false, List.drop_succ_cons, List.drop_zero, List.drop_nil])))
    rw [r2]
    refine VV.callE rfl rfl rfl rfl (e_alike g2 (by omega) (by omega)) rfl ?_
    ((repeat refine VV.s rfl rfl ?_); (try (conv => arg 3; simp only [Nat.reduceAdd, sto1, sto2, isL, cond_true, cond_false, List.drop_succ_cons, List.drop_zero, List.drop_nil])))
    refine VV.ite (fun c => ?_) (fun c => ?_)
    · rw [le_nI (by omega) (by omega)] at c
      ((repeat (fail_if_success show VV _ _ (46, _, _, _) _); refine VV.s rfl rfl ?_); (try (conv => arg 3; simp only [Nat.reduceAdd, sto1, sto2, isL, cond_true, cond_false, List.drop_succ_cons, List.drop_zero, List.drop_nil])))
      rw [nI_1]
      refine ih (d + 1) q _ (by omega) hq ?_
      rw [← he, if_neg (by omega)]
    · rw [le_nI (by omega) (by omega)] at c
      ((repeat (fail_if_success show VV _ _ (46, _, _, _) _); refine VV.s rfl rfl ?_); (try (conv => arg 3; simp only [Nat.reduceAdd, sto1, sto2, isL, cond_true, cond_false, List.drop_succ_cons, List.drop_zero, List.drop_nil])))
      rw [nI_1, ten_nI]
      refine ih (d + 1) (nI (10 * x + d), alM ks (hso z.1 v) x d 6 0 0) _ (by omega) (by simp; omega) ?_
      rw [← he, if_pos (by omega)]
set_option maxHeartbeats 4000000 in
theorem b_listen_out (C : CInv u z) (G : GoodH z.1) {v : Nat} (hv : v < hn z.1) {ks : Int32} : ∀ k x q d6 d7, x + k = 5 → q.2 ≤ 7 → V 69 (37, [some (.ref 0), some (.int (nI v)), some (.int ks), some (.int q.1), some (.int (nI q.2)), some (.int (nI x)), d6, d7], [], u) (is (.int (lsU ks (hso z.1 v) k x q).1) u) := by
  intro k
  induction k with
  | zero =>
    intro x q d6 d7 hx hq
    ((repeat refine VV.s rfl rfl ?_); (try (conv => arg 3; simp only [Nat.reduceAdd, sto1, sto2, isL, cond_true, cond_false, List.drop_succ_cons, List.drop_zero, List.drop_nil])))
    refine VV.itt (nI_lt (a := 4) (by omega) (by omega)) ?_
    ((repeat refine VV.s rfl rfl ?_); (try (conv => arg 3; simp only [Nat.reduceAdd, sto1, sto2, isL, cond_true, cond_false, List.drop_succ_cons, List.drop_zero, List.drop_nil])))
    exact VV.ret1 rfl ⟨rfl, rfl⟩
  | succ k ih =>
    intro x q d6 d7 hx hq
    ((repeat refine VV.s rfl rfl ?_); (try (conv => arg 3; simp only [Nat.reduceAdd, sto1, sto2, isL, cond_true, cond_false, List.drop_succ_cons, List.drop_zero, List.drop_nil])))
    refine VV.itf (nI_nlt (a := 4) (by omega) (by omega)) ?_
    ((repeat (fail_if_success show VV _ _ (46, _, _, _) _); refine VV.s rfl rfl ?_); (try (conv => arg 3; simp only [Nat.reduceAdd, sto1, sto2, isL, cond_true, cond_false, List.drop_succ_cons, List.drop_zero, List.drop_nil])))
    refine b_listen_in C G hv (show x ≤ 4 by omega) (q0 := q) (fun d6 d7 => ?_) 2 0 q _ (by omega) hq rfl
    ((repeat (fail_if_success show VV _ _ (37, _, _, _) _); refine VV.s rfl rfl ?_); (try (conv => arg 3; simp only [Nat.reduceAdd, sto1, sto2, isL, cond_true, cond_false, List.drop_succ_cons, List.drop_zero, List.drop_nil])))
    rw [nI_1, lsU]
    exact ih (x + 1) _ _ _ (by omega) (lsD_le ks _ x 2 0 q hq)
def lsI (h : Hs) (v : Nat) : Int32 := if isK h v = 0 then -1 else (lsU (isK h v) (hso h v) 5 0 (-1, 7)).1
theorem b_listen_bad (C : CInv u z) {p : Int32} (h : ¬ thr (hn z.1) p) : BC 69 [some (.ref 0), some (.int p), none, none, none, none, none, none] u (.int (-2)) (zB z) := by
  ((repeat refine VV.s rfl rfl ?_); (try (conv => arg 3; simp only [Nat.reduceAdd, sto1, sto2, isL, cond_true, cond_false, List.drop_succ_cons, List.drop_zero, List.drop_nil])))
  refine VV.callE rfl rfl rfl rfl (e_thereN C.1.1.1 h) rfl ?_
  refine VV.s rfl rfl ?_
  refine VV.itf (by decide) ?_
  ((repeat refine VV.s rfl rfl ?_); (try (conv => arg 3; simp only [Nat.reduceAdd, sto1, sto2, isL, cond_true, cond_false, List.drop_succ_cons, List.drop_zero, List.drop_nil])))
  refine VV.callE rfl rfl rfl rfl e_bad rfl ?_
  exact VV.ret1 rfl ⟨rfl, C.bad, (Agr.rf).I (by decide)⟩
theorem b_listen_ok (C : CInv u z) (G : GoodH z.1) {v : Nat} (hv : v < hn z.1) (t1 : thr (hn z.1) (nI v)) : BC 69 [some (.ref 0), some (.int (nI v)), none, none, none, none, none, none] u (.int (lsI z.1 v)) z := by
  have h6 := G.1.1
  ((repeat refine VV.s rfl rfl ?_); (try (conv => arg 3; simp only [Nat.reduceAdd, sto1, sto2, isL, cond_true, cond_false, List.drop_succ_cons, List.drop_zero, List.drop_nil])))
  refine VV.callE rfl rfl rfl rfl (e_thereY C.1.1.1 t1) rfl ?_
  refine VV.s rfl rfl ?_
  refine VV.itt (by decide) ?_
  ((repeat refine VV.s rfl rfl ?_); (try (conv => arg 3; simp only [Nat.reduceAdd, sto1, sto2, isL, cond_true, cond_false, List.drop_succ_cons, List.drop_zero, List.drop_nil])))
  refine VV.callE rfl rfl rfl rfl (e_kindsByNotes C.1 G (by omega)) rfl ?_
  ((repeat refine VV.s rfl rfl ?_); (try (conv => arg 3; simp only [Nat.reduceAdd, sto1, sto2, isL, cond_true, cond_false, List.drop_succ_cons, List.drop_zero, List.drop_nil])))
  unfold lsI
  refine VV.ite (fun q => ?_) (fun q => ?_)
  · rw [if_neg q]
    ((repeat (fail_if_success show VV _ _ (37, _, _, _) _); refine VV.s rfl rfl ?_); (try (conv => arg 3; simp only [Nat.reduceAdd, sto1, sto2, isL, cond_true, cond_false, List.drop_succ_cons, List.drop_zero, List.drop_nil])))
    refine VV.mono (b_listen_out C G hv 5 0 (-1, 7) none none (by omega) (by simp)) (fun r t q => ?_)
    obtain ⟨rfl, rfl⟩ := q
    exact ⟨rfl, C, Agr.rf⟩
  · rw [if_pos (Classical.not_not.mp q)]
    ((repeat refine VV.s rfl rfl ?_); (try (conv => arg 3; simp only [Nat.reduceAdd, sto1, sto2, isL, cond_true, cond_false, List.drop_succ_cons, List.drop_zero, List.drop_nil])))
    exact VV.ret1 rfl ⟨rfl, C, Agr.rf⟩
theorem b_whose_bad (C : CInv u z) {s : Int32} (h : s < 0 ∨ 9 < s) : BC 70 [some (.ref 0), some (.int s), none, none] u (.int (-2)) (zB z) := by
  ((repeat refine VV.s rfl rfl ?_); (try (conv => arg 3; simp only [Nat.reduceAdd, sto1, sto2, isL, cond_true, cond_false, List.drop_succ_cons, List.drop_zero, List.drop_nil])))
  refine VV.callE rfl rfl rfl rfl (e_soN h) rfl ?_
  refine VV.s rfl rfl ?_
  refine VV.itf (by decide) ?_
  ((repeat refine VV.s rfl rfl ?_); (try (conv => arg 3; simp only [Nat.reduceAdd, sto1, sto2, isL, cond_true, cond_false, List.drop_succ_cons, List.drop_zero, List.drop_nil])))
  refine VV.callE rfl rfl rfl rfl e_bad rfl ?_
  exact VV.ret1 rfl ⟨rfl, C.bad, (Agr.rf).I (by decide)⟩
theorem b_whose_loop (C : CInv u z) (G : GoodH z.1) {s : Nat} (hs : s ≤ 9) : ∀ k i a, i + k = hn z.1 → V 70 (16, [some (.ref 0), some (.int (nI s)), some (.int a), some (.int (nI i))], [], u) (is (.int (bts (fun v => decide (sdH z.1 v = s)) k i a)) u) := by
  have hN := C.1.1.1
  have h6 := G.1.1
  intro k
  induction k with
  | zero =>
    intro i a hi
    ((repeat refine VV.s rfl rfl ?_); (try (conv => arg 3; simp only [Nat.reduceAdd, sto1, sto2, isL, cond_true, cond_false, List.drop_succ_cons, List.drop_zero, List.drop_nil])))
    refine VV.itt (by rw [hN]; exact nI_le (by omega) (by omega)) ?_
    ((repeat refine VV.s rfl rfl ?_); (try (conv => arg 3; simp only [Nat.reduceAdd, sto1, sto2, isL, cond_true, cond_false, List.drop_succ_cons, List.drop_zero, List.drop_nil])))
    exact VV.ret1 rfl ⟨rfl, rfl⟩
  | succ k ih =>
    intro i a hi
    ((repeat refine VV.s rfl rfl ?_); (try (conv => arg 3; simp only [Nat.reduceAdd, sto1, sto2, isL, cond_true, cond_false, List.drop_succ_cons, List.drop_zero, List.drop_nil])))
    refine VV.itf (by rw [hN]; exact nI_ge (by omega) (by omega)) ?_
    ((repeat refine VV.s rfl rfl ?_); (try (conv => arg 3; simp only [Nat.reduceAdd, sto1, sto2, isL, cond_true, cond_false, List.drop_succ_cons, List.drop_zero, List.drop_nil])))
    refine VV.callE rfl rfl rfl rfl (e_Hsound (Or.inl rfl) C.1 G (show i < hn z.1 by omega)) rfl ?_
    ((repeat refine VV.s rfl rfl ?_); (try (conv => arg 3; simp only [Nat.reduceAdd, sto1, sto2, isL, cond_true, cond_false, List.drop_succ_cons, List.drop_zero, List.drop_nil])))
    rw [bts]
    have hl := sdH_le G (show i < hn z.1 by omega)
    refine VV.ite (fun q => ?_) (fun q => ?_)
    · rw [eq_nI (by omega) (by omega)] at q
      ((repeat (fail_if_success show VV _ _ (16, _, _, _) _); refine VV.s rfl rfl ?_); (try (conv => arg 3; simp only [Nat.reduceAdd, sto1, sto2, isL, cond_true, cond_false, List.drop_succ_cons, List.drop_zero, List.drop_nil])))
      rw [if_neg (by simp [q]), nI_1]
      exact ih (i + 1) a (by omega)
    · rw [eq_nI (by omega) (by omega)] at q
      ((repeat (fail_if_success show VV _ _ (16, _, _, _) _); refine VV.s rfl rfl ?_); (try (conv => arg 3; simp only [Nat.reduceAdd, sto1, sto2, isL, cond_true, cond_false, List.drop_succ_cons, List.drop_zero, List.drop_nil])))
      rw [if_pos (by simp [Classical.not_not.mp q]), nI_1]
      exact ih (i + 1) _ (by omega)
theorem b_whose_ok (C : CInv u z) (G : GoodH z.1) {s : Nat} (hs : s ≤ 9) (h : ¬ (nI s < 0 ∨ 9 < nI s)) : BC 70 [some (.ref 0), some (.int (nI s)), none, none] u (.int (bts (fun v => decide (sdH z.1 v = s)) (hn z.1) 0 0)) z := by
  ((repeat refine VV.s rfl rfl ?_); (try (conv => arg 3; simp only [Nat.reduceAdd, sto1, sto2, isL, cond_true, cond_false, List.drop_succ_cons, List.drop_zero, List.drop_nil])))
  refine VV.callE rfl rfl rfl rfl (e_soY h) rfl ?_
  refine VV.s rfl rfl ?_
  refine VV.itt (by decide) ?_
  ((repeat (fail_if_success show VV _ _ (16, _, _, _) _); refine VV.s rfl rfl ?_); (try (conv => arg 3; simp only [Nat.reduceAdd, sto1, sto2, isL, cond_true, cond_false, List.drop_succ_cons, List.drop_zero, List.drop_nil])))
  refine VV.mono (b_whose_loop C G hs (hn z.1) 0 0 (by omega)) (fun r t q => ?_)
  obtain ⟨rfl, rfl⟩ := q
  exact ⟨rfl, C, Agr.rf⟩
end B3
