/-! ===== a house of the class: what is written ===== -/
def updN {α : Type} (f : Nat → α) (k : Nat) (x : α) : Nat → α := fun j => if j = k then x else f j
theorem upd_at (f : Nat → Int32) (k : Nat) (x : Int32) (j : Nat) : upd f k x j = if j = k then x else f j := rfl
theorem updN_at {α : Type} (f : Nat → α) (k : Nat) (x : α) (j : Nat) : updN f k x j = if j = k then x else f j := rfl
/-- where voices are, used; the same with slipped and the evening -/
def hW (h : Hs) (ho us : Nat → Nat) : Hs := (h.1, (hkd h, hso h, hwa h, ho, us, hsl h), h.2.2)
def hE (h : Hs) (e : Nat) (ho us : Nat → Nat) (sl : Nat → Int32) : Hs := ((hn h, e, hnn h, hun h), (hkd h, hso h, hwa h, ho, us, sl), h.2.2)
def h0 (h : Hs) : Hs := ((0, 0, 0, 0), h.2)
/-- by what a house's cells show it holds a new state: where voices are, used, slipped, the evening -/
theorem HRep.setE {u t : Sg} {b : Nat} {h : Hs} (R : HRep u b h) {e : Nat} {ho us : Nat → Nat} {sl : Nat → Int32} (i0 : gI t b 0 = gI u b 0) (i1 : gI t b 1 = nI e) (i2 : gI t b 2 = gI u b 2) (i3 : gI t b 3 = gI u b 3) (a1 : gA t (b + 1) = gA u (b + 1)) (a2 : gA t (b + 2) = gA u (b + 2)) (a3 : gA t (b + 3) = gA u (b + 3)) (a4 : ∀ v, v < hn h → gA t (b + 4) v = cI (ho v)) (a5 : ∀ v, v < hn h → gA t (b + 5) v = nI (us v)) (a6 : ∀ v, v < hn h → gA t (b + 6) v = sl v) (a7 : gA t (b + 7) = gA u (b + 7)) (a8 : gA t (b + 8) = gA u (b + 8)) : HRep t b (hE h e ho us sl) := by
  refine ⟨⟨i0.trans R.1.1, i1, i2.trans R.1.2.2.1, i3.trans R.1.2.2.2⟩, fun v hv => ?_, fun i c hi hc => by rw [a7]; exact R.2.2.1 i c hi hc, fun k hk => by rw [a8]; exact R.2.2.2 k hk⟩
  obtain ⟨r1, r2, r3, -⟩ := R.2.1 v hv
  rw [a1, a2, a3]
  exact ⟨r1, r2, r3, a4 v hv, a5 v hv, a6 v hv⟩
theorem hE_hW (h : Hs) (ho us : Nat → Nat) : hE h (hev h) ho us (hsl h) = hW h ho us := rfl
theorem e_empty {b : Nat} (hb : b = 1 ∨ b = 10) {u : Sg} {h : Hs} (R : HRep u b h) : V 0 (0, [some (.ref b)], [], u) (fun r t => r = none ∧ HRep t b (h0 h) ∧ Agr (offH b) u t ∧ ∀ k, gA t k = gA u k) := by
  rcases hb with rfl | rfl
  all_goals
    ((repeat refine VV.s rfl rfl ?_); (try (conv => arg 3; simp only [Nat.reduceAdd, sto1, sto2, isL, cond_true, cond_false, List.drop_succ_cons, List.drop_zero, List.drop_nil])))
    refine VV.ret0 rfl ⟨rfl, ⟨⟨rfl, rfl, rfl, rfl⟩, fun v hv => absurd hv (Nat.not_lt_zero v), fun i c hi => absurd hi (Nat.not_lt_zero i), fun k hk => absurd hk (Nat.not_lt_zero k)⟩, ?_, fun k => rfl⟩
    exact ((((Agr.rf).I (by decide)).I (by decide)).I (by decide)).I (by decide)
theorem e_putDown {b : Nat} (hb : b = 1 ∨ b = 10) {u : Sg} {h : Hs} (R : HRep u b h) (G : GoodH h) {v : Nat} (hv : v < hn h) : V 5 (0, [some (.ref b), some (.int (nI v))], [], u) (fun r t => r = none ∧ HRep t b (hW h (updN (hho h) v 0) (updN (hus h) v 0)) ∧ Agr (offH b) u t) := by
  have h6 := G.1.1
  rcases hb with rfl | rfl
  all_goals
    ((repeat refine VV.s rfl rfl ?_); (try (conv => arg 3; simp only [Nat.reduceAdd, sto1, sto2, isL, cond_true, cond_false, List.drop_succ_cons, List.drop_zero, List.drop_nil])))
    refine VV.iast rfl rfl rfl (show v < 6 by omega) (by decide) ?_
    ((repeat refine VV.s rfl rfl ?_); (try (conv => arg 3; simp only [Nat.reduceAdd, sto1, sto2, isL, cond_true, cond_false, List.drop_succ_cons, List.drop_zero, List.drop_nil])))
    refine VV.iast rfl rfl rfl (show v < 6 by omega) (by decide) ?_
    ((repeat refine VV.s rfl rfl ?_); (try (conv => arg 3; simp only [Nat.reduceAdd, sto1, sto2, isL, cond_true, cond_false, List.drop_succ_cons, List.drop_zero, List.drop_nil])))
    refine VV.ret0 rfl ⟨rfl, ?_, ((Agr.rf).A (by decide)).A (by decide)⟩
    rw [← hE_hW]
    refine R.setE rfl R.1.2.1 rfl rfl rfl rfl rfl (fun w hw => ?_) (fun w hw => ?_) (fun w hw => (R.2.1 w hw).2.2.2.2.2) rfl rfl
    · show upd _ v _ w = _
      rw [upd_at, updN_at]
      split
      · rfl
      · exact (R.2.1 w hw).2.2.2.1
    · show upd _ v _ w = _
      rw [upd_at, updN_at]
      split
      · rfl
      · exact (R.2.1 w hw).2.2.2.2.1
/-- one has voice v now; what one had is at the counter -/
def hLv (h : Hs) (v : Nat) : Hs := hW h (updN (hho h) v 0) (updN (hus h) v 0)
def hGv (h : Hs) (v p : Nat) : Hs := match voH h p with
  | 0 => hW h (updN (hho h) v (p + 1)) (updN (hus h) v 0)
  | w + 1 => hW h (updN (updN (hho h) w 0) v (p + 1)) (updN (updN (hus h) w 0) v 0)
theorem goodLv {h : Hs} (G : GoodH h) {v : Nat} (hv : v < hn h) : GoodH (hLv h v) := by
  refine ⟨G.1, G.2.1, ⟨fun w hw => ?_, fun w x hw hx e1 e2 => ?_⟩, G.2.2.2.1, G.2.2.2.2⟩
  · show updN _ v 0 w ≤ _ ∧ updN _ v 0 w ≤ _
    have := G.2.2.1.1 w hw
    rw [updN_at, updN_at]
    split
    · exact ⟨Nat.zero_le _, Nat.zero_le _⟩
    · exact this
  · have e1 : updN (hho h) v 0 w = updN (hho h) v 0 x := e1
    have e2 : updN (hho h) v 0 w ≠ 0 := e2
    rw [updN_at, updN_at] at e1
    rw [updN_at] at e2
    by_cases c1 : w = v
    · rw [if_pos c1] at e2; exact absurd rfl e2
    · rw [if_neg c1] at e1 e2
      by_cases c2 : x = v
      · rw [if_pos c2] at e1; exact absurd e1 e2
      · rw [if_neg c2] at e1
        exact G.2.2.1.2 w x hw hx e1 e2
theorem goodPut {h : Hs} (G : GoodH h) {v p : Nat} (hv : v < hn h) (hp : p < hn h) (hno : ∀ w, w < hn h → hho h w ≠ p + 1) : GoodH (hW h (updN (hho h) v (p + 1)) (updN (hus h) v 0)) := by
  refine ⟨G.1, G.2.1, ⟨fun w hw => ?_, fun w x hw hx e1 e2 => ?_⟩, G.2.2.2.1, G.2.2.2.2⟩
  · show updN _ v (p + 1) w ≤ _ ∧ updN _ v 0 w ≤ _
    have := G.2.2.1.1 w hw
    rw [updN_at, updN_at]
    split
    · exact ⟨hp, Nat.zero_le _⟩
    · exact this
  · have e1 : updN (hho h) v (p + 1) w = updN (hho h) v (p + 1) x := e1
    have e2 : updN (hho h) v (p + 1) w ≠ 0 := e2
    rw [updN_at, updN_at] at e1
    rw [updN_at] at e2
    by_cases c1 : w = v
    · by_cases c2 : x = v
      · rw [c1, c2]
      · rw [if_pos c1, if_neg c2] at e1
        exact absurd e1.symm (hno x hx)
    · rw [if_neg c1] at e1 e2
      by_cases c2 : x = v
      · rw [if_pos c2] at e1; exact absurd e1 (hno w hw)
      · rw [if_neg c2] at e1
        exact G.2.2.1.2 w x hw hx e1 e2
theorem goodGv {h : Hs} (G : GoodH h) {v p : Nat} (hv : v < hn h) (hp : p < hn h) : GoodH (hGv h v p) := by
  unfold hGv
  rcases voH_spec h p with ⟨h1, h2⟩ | ⟨w, hw, h1, h2⟩
  · rw [h1]
    exact goodPut G hv hp h2
  · rw [h1]
    exact goodPut (h := hLv h w) (goodLv G hw) hv hp (fun x hx e => by
      have e : updN (hho h) w 0 x = p + 1 := e
      rw [updN_at] at e
      by_cases c : x = w
      · rw [if_pos c] at e; omega
      · rw [if_neg c] at e
        exact c (G.2.2.1.2 x w hx hw (by rw [e, h2]) (by omega)))
set_option maxHeartbeats 4000000 in
theorem e_give {b : Nat} (hb : b = 1 ∨ b = 10) {u : Sg} {h : Hs} (R : HRep u b h) (G : GoodH h) {v p : Nat} (hv : v < hn h) (hp : p < hn h) : V 4 (0, [some (.ref b), some (.int (nI v)), some (.int (nI p)), none], [], u) (fun r t => r = some (.int (cI (voH h p))) ∧ HRep t b (hGv h v p) ∧ Agr (offH b) u t) := by
  have h6 := G.1.1
  have hs := e_voiceWith hb R G (p := p) (by omega)
  have hpd := fun w hw => e_putDown hb R G (v := w) hw
  have hx := voH_spec h p
  rcases hb with rfl | rfl
  all_goals
    ((repeat refine VV.s rfl rfl ?_); (try (conv => arg 3; simp only [Nat.reduceAdd, sto1, sto2, isL, cond_true, cond_false, List.drop_succ_cons, List.drop_zero, List.drop_nil])))
    refine VV.callE rfl rfl rfl rfl hs rfl ?_
    ((repeat refine VV.s rfl rfl ?_); (try (conv => arg 3; simp only [Nat.reduceAdd, sto1, sto2, isL, cond_true, cond_false, List.drop_succ_cons, List.drop_zero, List.drop_nil])))
    unfold hGv
    rcases hx with ⟨h1, -⟩ | ⟨w, hw, h1, -⟩
    · rw [h1]
      refine VV.itt cI_0 ?_
      ((repeat refine VV.s rfl rfl ?_); (try (conv => arg 3; simp only [Nat.reduceAdd, sto1, sto2, isL, cond_true, cond_false, List.drop_succ_cons, List.drop_zero, List.drop_nil])))
      refine VV.iast rfl rfl rfl (show v < 6 by omega) (by decide) ?_
      ((repeat refine VV.s rfl rfl ?_); (try (conv => arg 3; simp only [Nat.reduceAdd, sto1, sto2, isL, cond_true, cond_false, List.drop_succ_cons, List.drop_zero, List.drop_nil])))
      refine VV.iast rfl rfl rfl (show v < 6 by omega) (by decide) ?_
      ((repeat refine VV.s rfl rfl ?_); (try (conv => arg 3; simp only [Nat.reduceAdd, sto1, sto2, isL, cond_true, cond_false, List.drop_succ_cons, List.drop_zero, List.drop_nil])))
      refine VV.ret1 rfl ⟨rfl, ?_, ((Agr.rf).A (by decide)).A (by decide)⟩
      show HRep _ _ (hW h _ _)
      rw [← hE_hW]
      refine R.setE rfl R.1.2.1 rfl rfl rfl rfl rfl (fun x hx => ?_) (fun x hx => ?_) (fun x hx => (R.2.1 x hx).2.2.2.2.2) rfl rfl
      · show upd _ v _ x = _
        rw [upd_at, updN_at]
        split
        · rw [cI_s]
        · exact (R.2.1 x hx).2.2.2.1
      · show upd _ v _ x = _
        rw [upd_at, updN_at]
        split
        · rfl
        · exact (R.2.1 x hx).2.2.2.2.1
    · rw [h1, cI_s]
      refine VV.itf (nI_ne1 (by omega)) ?_
      ((repeat refine VV.s rfl rfl ?_); (try (conv => arg 3; simp only [Nat.reduceAdd, sto1, sto2, isL, cond_true, cond_false, List.drop_succ_cons, List.drop_zero, List.drop_nil])))
      refine VV.call rfl rfl rfl rfl (hpd w hw) (fun r t q => ?_)
      obtain ⟨rfl, R2, A2⟩ := q
      ((repeat refine VV.s rfl rfl ?_); (try (conv => arg 3; simp only [Nat.reduceAdd, sto1, sto2, isL, cond_true, cond_false, List.drop_succ_cons, List.drop_zero, List.drop_nil])))
      refine VV.iast rfl rfl rfl (show v < 6 by omega) (by decide) ?_
      ((repeat refine VV.s rfl rfl ?_); (try (conv => arg 3; simp only [Nat.reduceAdd, sto1, sto2, isL, cond_true, cond_false, List.drop_succ_cons, List.drop_zero, List.drop_nil])))
      refine VV.iast rfl rfl rfl (show v < 6 by omega) (by decide) ?_
      ((repeat refine VV.s rfl rfl ?_); (try (conv => arg 3; simp only [Nat.reduceAdd, sto1, sto2, isL, cond_true, cond_false, List.drop_succ_cons, List.drop_zero, List.drop_nil])))
      refine VV.ret1 rfl ⟨rfl, ?_, (A2.A (by decide)).A (by decide)⟩
      show HRep _ _ (hW (hLv h w) _ _)
      rw [← hE_hW]
      refine R2.setE rfl R2.1.2.1 rfl rfl rfl rfl rfl (fun x hx => ?_) (fun x hx => ?_) (fun x hx => (R2.2.1 x hx).2.2.2.2.2) rfl rfl
      · show upd _ v _ x = _
        rw [upd_at, updN_at]
        split
        · rw [cI_s]
        · exact (R2.2.1 x hx).2.2.2.1
      · show upd _ v _ x = _
        rw [upd_at, updN_at]
        split
        · rfl
        · exact (R2.2.1 x hx).2.2.2.2.1
