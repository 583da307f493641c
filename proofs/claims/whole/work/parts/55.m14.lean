/-! ===== the reference: the next line ===== -/
section M14
variable {u : Sg} {z : Zs}
def nlK (f : Nat → Nat) : Nat → Nat
  | 0 => 0
  | k + 1 => if f (k + 1) < f k then nlK f k else k + 1
def nlJ (f : Nat → Nat) (x : Nat) : Nat → Nat
  | 0 => 0
  | j + 1 => if f (j + 1) < x then nlJ f x j else j + 1
def nlR : Nat → Nat → Nat → (Nat → Nat) → Nat → Nat
  | 0, _, _, f => f
  | m + 1, a, b, f => if a < b then nlR m (a + 1) (b - 1) (updN (updN f a (f b)) b (f a)) else f
def nlS (n : Nat) (f : Nat → Nat) : Nat → Nat := updN (updN f (nlK f (n - 1) - 1) (f (nlJ f (f (nlK f (n - 1) - 1)) (n - 1)))) (nlJ f (f (nlK f (n - 1) - 1)) (n - 1)) (f (nlK f (n - 1) - 1))
def nlF (n : Nat) (f : Nat → Nat) : Nat → Nat := nlR n (nlK f (n - 1)) (n - 1) (nlS n f)
theorem nlK_le (f : Nat → Nat) : ∀ k, nlK f k ≤ k
  | 0 => Nat.le_refl _
  | k + 1 => by
    rw [nlK]
    have := nlK_le f k
    split <;> omega
theorem nlK_up (f : Nat → Nat) : ∀ k j, nlK f k = j + 1 → f j ≤ f (j + 1)
  | 0, j, h => by cases h
  | k + 1, j, h => by
    rw [nlK] at h
    split at h
    · exact nlK_up f k j h
    · have : k = j := by omega
      subst this
      omega
abbrev LI (n : Nat) (f : Nat → Nat) (u t : Sg) : Prop := (∀ k, k < n → gA t 59 k = nI (f k)) ∧ Agr (fun k => k ≠ 59) u t
set_option maxHeartbeats 8000000 in
theorem f_next_k {n : Nat} (h6 : n ≤ 6) {f : Nat → Nat} (hf : ∀ k, k < n → f k < 6) (hL : ∀ k, k < n → gA u 59 k = nI (f k)) {Q : Option Value → Sg → Prop} (K : V 147 (34, [some (.ref 41), some (.int (cI (nlK f (n - 1)))), none, none, none, none], [], u) Q) : ∀ k, k + 1 ≤ n → nlK f k = nlK f (n - 1) → V 147 (7, [some (.ref 41), some (.int (cI k)), none, none, none, none], [], u) Q := by
  intro k
  induction k with
  | zero =>
    intro hk e
    rw [← e] at K
    refine VV.s rfl rfl ?_
    refine VV.s rfl rfl ?_
    refine VV.itt (by decide) ?_
    exact K
  | succ k ih =>
    intro hk e
    have f1 := hf k (by omega)
    have f2 := hf (k + 1) (by omega)
    rw [nlK] at e
    rw [cI_s]
    ((repeat refine VV.s rfl rfl ?_); (try (conv => arg 3; simp only [Nat.reduceAdd, sto1, sto2, isL, cond_true, cond_false, List.drop_succ_cons, List.drop_zero, List.drop_nil])))
    refine VV.itf (nI_nlt (b := 0) (by omega) (by omega)) ?_
    ((repeat refine VV.s rfl rfl ?_); (try (conv => arg 3; simp only [Nat.reduceAdd, sto1, sto2, isL, cond_true, cond_false, List.drop_succ_cons, List.drop_zero, List.drop_nil])))
    refine VV.iald rfl rfl rfl (show k < 6 by omega) (by decide) ?_
    rw [hL k (by omega)]
    ((repeat refine VV.s rfl rfl ?_); (try (conv => arg 3; simp only [Nat.reduceAdd, sto1, sto2, isL, cond_true, cond_false, List.drop_succ_cons, List.drop_zero, List.drop_nil])))
    rw [nI_1]
    refine VV.iald rfl rfl rfl (show (k + 1) < 6 by omega) (by decide) ?_
    rw [hL (k + 1) (by omega)]
    ((repeat refine VV.s rfl rfl ?_); (try (conv => arg 3; simp only [Nat.reduceAdd, sto1, sto2, isL, cond_true, cond_false, List.drop_succ_cons, List.drop_zero, List.drop_nil])))
    refine VV.ite (fun q => ?_) (fun q => ?_)
    · rw [le_nI (by omega) (by omega)] at q
      rw [if_neg (by omega)] at e
      rw [← e, cI_s] at K
      exact K
    · rw [le_nI (by omega) (by omega)] at q
      rw [if_pos (by omega)] at e
      ((repeat (fail_if_success show VV _ _ (7, _, _, _) _); refine VV.s rfl rfl ?_); (try (conv => arg 3; simp only [Nat.reduceAdd, sto1, sto2, isL, cond_true, cond_false, List.drop_succ_cons, List.drop_zero, List.drop_nil])))
      rw [nI_m1]
      exact ih (by omega) e
theorem f_next_34 {n : Nat} (h6 : n ≤ 6) (hN : gI u 41 1 = nI n) {f : Nat → Nat} (hf : ∀ k, k < n → f k < 6) (hL : ∀ k, k < n → gA u 59 k = nI (f k)) {Q : Option Value → Sg → Prop} (K : V 147 (34, [some (.ref 41), some (.int (cI (nlK f (n - 1)))), none, none, none, none], [], u) Q) (h0 : n = 0 → V 147 (34, [some (.ref 41), some (.int (-2)), none, none, none, none], [], u) Q) : V 147 (0, [some (.ref 41), none, none, none, none, none], [], u) Q := by
  ((repeat (fail_if_success show VV _ _ (7, _, _, _) _); refine VV.s rfl rfl ?_); (try (conv => arg 3; simp only [Nat.reduceAdd, sto1, sto2, isL, cond_true, cond_false, List.drop_succ_cons, List.drop_zero, List.drop_nil])))
  rw [hN]
  by_cases e : n = 0
  · subst e
    refine VV.s rfl rfl ?_
    refine VV.s rfl rfl ?_
    refine VV.itt (by decide) ?_
    exact h0 rfl
  · have : nI n - 2 = cI (n - 1) := by
      have q : ∀ n, n < 7 → 0 < n → nI n - 2 = cI (n - 1) := by decide +kernel
      exact q n (by omega) (by omega)
    rw [this]
    exact f_next_k h6 hf hL K (n - 1) (by omega) rfl
theorem f_nextN {n : Nat} (h6 : n ≤ 6) (hN : gI u 41 1 = nI n) {f : Nat → Nat} (hf : ∀ k, k < n → f k < 6) (hL : ∀ k, k < n → gA u 59 k = nI (f k)) (h : nlK f (n - 1) = 0) : V 147 (0, [some (.ref 41), none, none, none, none, none], [], u) (is (.int 0) u) := by
  refine f_next_34 h6 hN hf hL ?_ (fun _ => ?_)
  · rw [h]
    refine VV.s rfl rfl ?_
    refine VV.s rfl rfl ?_
    refine VV.itf (by decide) ?_
    ((repeat refine VV.s rfl rfl ?_); (try (conv => arg 3; simp only [Nat.reduceAdd, sto1, sto2, isL, cond_true, cond_false, List.drop_succ_cons, List.drop_zero, List.drop_nil])))
    exact VV.ret3 rfl (Or.inl rfl) ⟨rfl, rfl⟩
  · refine VV.s rfl rfl ?_
    refine VV.s rfl rfl ?_
    refine VV.itf (by decide) ?_
    ((repeat refine VV.s rfl rfl ?_); (try (conv => arg 3; simp only [Nat.reduceAdd, sto1, sto2, isL, cond_true, cond_false, List.drop_succ_cons, List.drop_zero, List.drop_nil])))
    exact VV.ret3 rfl (Or.inl rfl) ⟨rfl, rfl⟩
set_option maxHeartbeats 8000000 in
theorem f_next_j {n k : Nat} (h6 : n ≤ 6) {f : Nat → Nat} (hf : ∀ k, k < n → f k < 6) (hL : ∀ k, k < n → gA u 59 k = nI (f k)) (hup : f k ≤ f (k + 1)) {Q : Option Value → Sg → Prop} (K : k < nlJ f (f k) (n - 1) → nlJ f (f k) (n - 1) < n → V 147 (68, [some (.ref 41), some (.int (nI k)), some (.int (nI (nlJ f (f k) (n - 1)))), none, none, none], [], u) Q) : ∀ j, k < j → j < n → nlJ f (f k) j = nlJ f (f k) (n - 1) → V 147 (47, [some (.ref 41), some (.int (nI k)), some (.int (nI j)), none, none, none], [], u) Q := by
  intro j
  induction j with
  | zero => intro h; omega
  | succ j ih =>
    intro h1 h2 e
    have f1 := hf k (by omega)
    have f2 := hf (j + 1) (by omega)
    rw [nlJ] at e
    ((repeat refine VV.s rfl rfl ?_); (try (conv => arg 3; simp only [Nat.reduceAdd, sto1, sto2, isL, cond_true, cond_false, List.drop_succ_cons, List.drop_zero, List.drop_nil])))
    refine VV.iald rfl rfl rfl (show (j + 1) < 6 by omega) (by decide) ?_
    rw [hL (j + 1) (by omega)]
    ((repeat refine VV.s rfl rfl ?_); (try (conv => arg 3; simp only [Nat.reduceAdd, sto1, sto2, isL, cond_true, cond_false, List.drop_succ_cons, List.drop_zero, List.drop_nil])))
    refine VV.iald rfl rfl rfl (show k < 6 by omega) (by decide) ?_
    rw [hL k (by omega)]
    ((repeat refine VV.s rfl rfl ?_); (try (conv => arg 3; simp only [Nat.reduceAdd, sto1, sto2, isL, cond_true, cond_false, List.drop_succ_cons, List.drop_zero, List.drop_nil])))
    refine VV.ite (fun q => ?_) (fun q => ?_)
    · rw [le_nI (by omega) (by omega)] at q
      rw [if_neg (by omega)] at e
      rw [← e] at K
      exact K (by omega) (by omega)
    · rw [le_nI (by omega) (by omega)] at q
      rw [if_pos (by omega)] at e
      have hne : k ≠ j := fun x => by subst x; omega
      ((repeat (fail_if_success show VV _ _ (47, _, _, _) _); refine VV.s rfl rfl ?_); (try (conv => arg 3; simp only [Nat.reduceAdd, sto1, sto2, isL, cond_true, cond_false, List.drop_succ_cons, List.drop_zero, List.drop_nil])))
      rw [nI_m1, cI_s]
      exact ih (by omega) (by omega) e
theorem LI.set {n : Nat} {g : Nat → Nat} {t : Sg} (I : LI n g u t) {i x : Nat} {y : Int32} (e : y = nI x) : LI n (updN g i x) u (pA t 59 (upd (gA t 59) i y)) := by
  refine ⟨fun k hk => ?_, I.2.A (fun q => q rfl)⟩
  rw [gA_pA, if_pos rfl, upd_at, updN_at]
  split
  · exact e
  · exact I.1 k hk
set_option maxHeartbeats 8000000 in
theorem f_next_r {n : Nat} (h6 : n ≤ 6) {k J : Int32} : ∀ m a b g t d3, a + b < 100 → b < a + m → b < n → LI n g u t → V 147 (107, [some (.ref 41), some (.int k), some (.int J), d3, some (.int (nI a)), some (.int (nI b))], [], t) (fun r t => r = some (.int 1) ∧ LI n (nlR m a b g) u t) := by
  have fin : ∀ a b g t d3, ¬ a < b → a < 100 → b < n → LI n g u t → V 147 (107, [some (.ref 41), some (.int k), some (.int J), d3, some (.int (nI a)), some (.int (nI b))], [], t) (fun r t => r = some (.int 1) ∧ LI n g u t) := by
    intro a b g t d3 h ha hb I
    ((repeat refine VV.s rfl rfl ?_); (try (conv => arg 3; simp only [Nat.reduceAdd, sto1, sto2, isL, cond_true, cond_false, List.drop_succ_cons, List.drop_zero, List.drop_nil])))
    refine VV.itt (nI_le (by omega) (by omega)) ?_
    ((repeat refine VV.s rfl rfl ?_); (try (conv => arg 3; simp only [Nat.reduceAdd, sto1, sto2, isL, cond_true, cond_false, List.drop_succ_cons, List.drop_zero, List.drop_nil])))
    exact VV.ret3 rfl (Or.inr rfl) ⟨rfl, I⟩
  intro m
  induction m with
  | zero =>
    intro a b g t d3 ha h hb I
    exact fin a b g t d3 (by omega) (by omega) hb I
  | succ m ih =>
    intro a b g t d3 ha h hb I
    rw [nlR]
    by_cases c : a < b
    · rw [if_pos c]
      obtain ⟨b, rfl⟩ : ∃ c, b = c + 1 := ⟨b - 1, by omega⟩
      ((repeat refine VV.s rfl rfl ?_); (try (conv => arg 3; simp only [Nat.reduceAdd, sto1, sto2, isL, cond_true, cond_false, List.drop_succ_cons, List.drop_zero, List.drop_nil])))
      refine VV.itf (nI_ge (by omega) (by omega)) ?_
      ((repeat refine VV.s rfl rfl ?_); (try (conv => arg 3; simp only [Nat.reduceAdd, sto1, sto2, isL, cond_true, cond_false, List.drop_succ_cons, List.drop_zero, List.drop_nil])))
      refine VV.iald rfl rfl rfl (show a < 6 by omega) (by decide) ?_
      ((repeat refine VV.s rfl rfl ?_); (try (conv => arg 3; simp only [Nat.reduceAdd, sto1, sto2, isL, cond_true, cond_false, List.drop_succ_cons, List.drop_zero, List.drop_nil])))
      refine VV.iald rfl rfl rfl (show (b + 1) < 6 by omega) (by decide) ?_
      refine VV.iast rfl rfl rfl (show a < 6 by omega) (by decide) ?_
      ((repeat refine VV.s rfl rfl ?_); (try (conv => arg 3; simp only [Nat.reduceAdd, sto1, sto2, isL, cond_true, cond_false, List.drop_succ_cons, List.drop_zero, List.drop_nil])))
      refine VV.iast rfl rfl rfl (show (b + 1) < 6 by omega) (by decide) ?_
      ((repeat (fail_if_success show VV _ _ (107, _, _, _) _); refine VV.s rfl rfl ?_); (try (conv => arg 3; simp only [Nat.reduceAdd, sto1, sto2, isL, cond_true, cond_false, List.drop_succ_cons, List.drop_zero, List.drop_nil])))
      rw [nI_1, nI_m1, cI_s]
      refine ih (a + 1) b _ _ _ (by omega) (by omega) (by omega) ((I.set ?_).set ?_)
      · exact I.1 (b + 1) hb
      · exact I.1 a (by omega)
    · rw [if_neg c]
      exact fin a b g t d3 c (by omega) hb I
theorem f_nextY {n : Nat} (h6 : n ≤ 6) (hN : gI u 41 1 = nI n) {f : Nat → Nat} (hf : ∀ k, k < n → f k < 6) (hL : ∀ k, k < n → gA u 59 k = nI (f k)) (h : nlK f (n - 1) ≠ 0) : V 147 (0, [some (.ref 41), none, none, none, none, none], [], u) (fun r t => r = some (.int 1) ∧ LI n (nlF n f) u t) := by
  have hk := nlK_le f (n - 1)
  refine f_next_34 h6 hN hf hL ?_ (fun q => by subst q; exact absurd rfl h)
  obtain ⟨k, e⟩ : ∃ k, nlK f (n - 1) = k + 1 := ⟨nlK f (n - 1) - 1, by omega⟩
  have hup := nlK_up f (n - 1) k e
  rw [e, cI_s]
  ((repeat refine VV.s rfl rfl ?_); (try (conv => arg 3; simp only [Nat.reduceAdd, sto1, sto2, isL, cond_true, cond_false, List.drop_succ_cons, List.drop_zero, List.drop_nil])))
  refine VV.itt (nI_le (a := 0) (by omega) (by omega)) ?_
  ((repeat (fail_if_success show VV _ _ (47, _, _, _) _); refine VV.s rfl rfl ?_); (try (conv => arg 3; simp only [Nat.reduceAdd, sto1, sto2, isL, cond_true, cond_false, List.drop_succ_cons, List.drop_zero, List.drop_nil])))
  rw [hN, show nI n - 1 = cI n from rfl, show cI n = nI (n - 1) by obtain ⟨m, rfl⟩ : ∃ m, n = m + 1 := ⟨n - 1, by omega⟩; exact cI_s m]
  refine f_next_j h6 hf hL hup (fun j1 j2 => ?_) (n - 1) (by omega) (by omega) rfl
  have I0 : LI n f u u := ⟨hL, Agr.rf⟩
  ((repeat refine VV.s rfl rfl ?_); (try (conv => arg 3; simp only [Nat.reduceAdd, sto1, sto2, isL, cond_true, cond_false, List.drop_succ_cons, List.drop_zero, List.drop_nil])))
  refine VV.iald rfl rfl rfl (show k < 6 by omega) (by decide) ?_
  ((repeat refine VV.s rfl rfl ?_); (try (conv => arg 3; simp only [Nat.reduceAdd, sto1, sto2, isL, cond_true, cond_false, List.drop_succ_cons, List.drop_zero, List.drop_nil])))
  refine VV.iald (n := nlJ f (f k) (n - 1)) rfl rfl rfl (show _ < 6 by omega) (by decide) ?_
  refine VV.iast rfl rfl rfl (show k < 6 by omega) (by decide) ?_
  ((repeat refine VV.s rfl rfl ?_); (try (conv => arg 3; simp only [Nat.reduceAdd, sto1, sto2, isL, cond_true, cond_false, List.drop_succ_cons, List.drop_zero, List.drop_nil])))
  refine VV.iast (n := nlJ f (f k) (n - 1)) rfl rfl rfl (show _ < 6 by omega) (by decide) ?_
  have I2 := (I0.set (i := k) (hL (nlJ f (f k) (n - 1)) j2)).set (i := nlJ f (f k) (n - 1)) (hL k (by omega))
  ((repeat (fail_if_success show VV _ _ (107, _, _, _) _); refine VV.s rfl rfl ?_); (try (conv => arg 3; simp only [Nat.reduceAdd, sto1, sto2, isL, cond_true, cond_false, List.drop_succ_cons, List.drop_zero, List.drop_nil])))
  rw [show gI (pA (pA u 59 (upd (gA u 59) k (gA u 59 (nlJ f (f k) (n - 1))))) 59 (upd (gA (pA u 59 (upd (gA u 59) k (gA u 59 (nlJ f (f k) (n - 1))))) 59) (nlJ f (f k) (n - 1)) (gA u 59 k))) 41 1 = nI n from hN, nI_1, show nI n - 1 = cI n from rfl, show cI n = nI (n - 1) by obtain ⟨m, rfl⟩ : ∃ m, n = m + 1 := ⟨n - 1, by omega⟩; exact cI_s m]
  have := f_next_r (u := u) h6 (k := nI k) (J := nI (nlJ f (f k) (n - 1))) n (k + 1) (n - 1) _ _ (some (.int (gA u 59 k))) (by omega) (by omega) (by omega) I2
  refine VV.mono this (fun r t q => ⟨q.1, ?_⟩)
  have q2 := q.2
  unfold nlF nlS
  rw [e, Nat.add_sub_cancel]
  exact q2
/-- a line as a function; all lines follow one another -/
def lnf (l : List Nat) (k : Nat) : Nat := l.getD k 0
def eqN : Nat → (Nat → Nat) → (Nat → Nat) → Bool
  | 0, _, _ => true
  | n + 1, f, g => Nat.beq (f n) (g n) && eqN n f g
theorem eqN_at : ∀ n f g, eqN n f g = true → ∀ k, k < n → f k = g k
  | 0, f, g, h, k, hk => by omega
  | n + 1, f, g, h, k, hk => by
    rw [eqN, Bool.and_eq_true] at h
    by_cases e : k = n
    · rw [e]; exact Nat.eq_of_beq_eq_true h.1
    · exact eqN_at n f g h.2 k (by omega)
def lnOk (n : Nat) (l : List Nat) : Bool := Nat.beq l.length n && l.all (fun v => Nat.blt v n)
def chk (n : Nat) : List (List Nat) → Bool
  | [] => true
  | l :: r => lnOk n l && (match r with | [] => Nat.beq (nlK (lnf l) (n - 1)) 0 | l' :: _ => !(Nat.beq (nlK (lnf l) (n - 1)) 0) && eqN n (nlF n (lnf l)) (lnf l')) && chk n r
theorem chk_all : ∀ n, n < 7 → chk n (lp n n 0) = true := by decide +kernel
theorem first_all : ∀ n, n < 7 → (match lp n n 0 with | [] => false | l :: _ => eqN n (lnf l) id) = true := by decide +kernel
end M14
