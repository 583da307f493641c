/-! ===== the best lines: sets from the top down, or all lines in their order, the first of the most ===== -/
section BEST
/-- 0: none yet, else the most and one; the line -/
def fmx (a b : Nat × List Nat) : Nat × List Nat := if a.1 < b.1 then b else a
def fms (g : List Nat → Nat) (a : Nat × List Nat) (l : List Nat) : Nat × List Nat := fmx a (g l + 1, l)
theorem fmx_assoc (a b c : Nat × List Nat) : fmx (fmx a b) c = fmx a (fmx b c) := by
  unfold fmx
  by_cases h1 : a.1 < b.1
  · rw [if_pos h1]
    by_cases h2 : b.1 < c.1
    · rw [if_pos h2, if_pos (by omega)]
    · rw [if_neg h2, if_pos h1]
  · rw [if_neg h1]
    by_cases h2 : b.1 < c.1
    · rw [if_pos h2]
    · rw [if_neg h2, if_neg h1, if_neg (by omega)]
theorem fmx_0 {b : Nat × List Nat} (h : 0 < b.1) : fmx (0, []) b = b := if_pos h
theorem fm_fold (g : List Nat → Nat) : ∀ (L : List (List Nat)) (a : Nat × List Nat), L.foldl (fms g) a = fmx a (L.foldl (fms g) (0, []))
  | [], a => (if_neg (by simp)).symm
  | l :: L, a => by
    rw [List.foldl_cons, List.foldl_cons, fm_fold g L (fms g a l), fm_fold g L (fms g (0, []) l), fms, fms, fmx_0 (by simp), fmx_assoc]
def lif (f v : Nat) (a : Nat × List Nat) : Nat × List Nat := if a.1 = 0 then (0, []) else (f + a.1, v :: a.2)
def sc (F : Nat → Nat → Nat) : Nat → List Nat → Nat
  | _, [] => 0
  | p, v :: t => F p v + sc F (p + 1) t
theorem fm_map (F : Nat → Nat → Nat) (p v : Nat) : ∀ (L : List (List Nat)) (a : Nat × List Nat), (L.map (List.cons v)).foldl (fms (sc F p)) (lif (F p v) v a) = lif (F p v) v (L.foldl (fms (sc F (p + 1))) a)
  | [], a => rfl
  | l :: L, a => by
    have e : fms (sc F p) (lif (F p v) v a) (v :: l) = lif (F p v) v (fms (sc F (p + 1)) a l) := by
      unfold fms fmx
      have es : sc F p (v :: l) = F p v + sc F (p + 1) l := rfl
      by_cases h0 : a.1 = 0
      · have e1 : lif (F p v) v a = (0, []) := if_pos h0
        rw [e1, es, if_pos (by simp), if_pos (show a.1 < (sc F (p + 1) l + 1, l).1 by show a.1 < sc F (p + 1) l + 1; omega)]
        exact (if_neg (by simp)).symm
      · have e1 : lif (F p v) v a = (F p v + a.1, v :: a.2) := if_neg h0
        rw [e1, es]
        by_cases h1 : a.1 < sc F (p + 1) l + 1
        · rw [if_pos (show (F p v + a.1, v :: a.2).1 < (F p v + sc F (p + 1) l + 1, v :: l).1 by show F p v + a.1 < F p v + sc F (p + 1) l + 1; omega), if_pos (show a.1 < (sc F (p + 1) l + 1, l).1 from h1)]
          exact (if_neg (by simp)).symm
        · rw [if_neg (show ¬ (F p v + a.1, v :: a.2).1 < (F p v + sc F (p + 1) l + 1, v :: l).1 by show ¬ F p v + a.1 < F p v + sc F (p + 1) l + 1; omega), if_neg (show ¬ a.1 < (sc F (p + 1) l + 1, l).1 from h1)]
          exact e1.symm
    rw [List.map_cons, List.foldl_cons, List.foldl_cons, e]
    exact fm_map F p v L _
def lpv (f : Nat → List (List Nat)) (S : Nat) : Nat → Nat → List (List Nat)
  | 0, _ => []
  | k + 1, v => cond (hb S v) [] ((f (S + 2 ^ v)).map (List.cons v)) ++ lpv f S k (v + 1)
/-- all lines, in their order, of k more, where S are given -/
def lp (n : Nat) : Nat → Nat → List (List Nat)
  | 0, _ => [[]]
  | k + 1, S => lpv (lp n k) S n 0
def bpv (F : Nat → Nat → Nat) (p : Nat) (f : Nat → Nat × List Nat) (S : Nat) : Nat → Nat → Nat × List Nat → Nat × List Nat
  | 0, _, a => a
  | k + 1, v, a => bpv F p f S k (v + 1) (cond (hb S v) a (fmx a (lif (F p v) v (f (S + 2 ^ v)))))
def bp (n : Nat) (F : Nat → Nat → Nat) : Nat → Nat → Nat × List Nat
  | 0, _ => (1, [])
  | k + 1, S => bpv F (n - (k + 1)) (bp n F k) S n 0 (0, [])
theorem fold_lpv (F : Nat → Nat → Nat) (p S : Nat) (f : Nat → List (List Nat)) (g : Nat → Nat × List Nat) (h : ∀ S, (f S).foldl (fms (sc F (p + 1))) (0, []) = g S) : ∀ k v a, (lpv f S k v).foldl (fms (sc F p)) a = bpv F p g S k v a
  | 0, _, a => rfl
  | k + 1, v, a => by
    rw [lpv, bpv, List.foldl_append, fold_lpv F p S f g h k (v + 1)]
    congr 1
    cases hb S v with
    | true => rfl
    | false =>
      show ((f (S + 2 ^ v)).map (List.cons v)).foldl (fms (sc F p)) a = fmx a _
      rw [fm_fold]
      congr 1
      have := fm_map F p v (f (S + 2 ^ v)) (0, [])
      rw [h] at this
      exact this
theorem fold_lp (n : Nat) (F : Nat → Nat → Nat) : ∀ k S, k ≤ n → (lp n k S).foldl (fms (sc F (n - k))) (0, []) = bp n F k S
  | 0, S, _ => rfl
  | k + 1, S, hk => by
    refine fold_lpv F (n - (k + 1)) S (lp n k) (bp n F k) (fun S' => ?_) n 0 (0, [])
    have := fold_lp n F k S' (by omega)
    rw [show n - k = n - (k + 1) + 1 by omega] at this
    exact this
theorem lp_some : ∀ n, n < 7 → ∀ S, S < 2 ^ n → (lp n (n - pc6 S) S).isEmpty = false := by decide +kernel
theorem fm_pos (g : List Nat → Nat) {L : List (List Nat)} (h : L.isEmpty = false) : 0 < (L.foldl (fms g) (0, [])).1 := by
  cases L with
  | nil => cases h
  | cons l L =>
    rw [List.foldl_cons, fm_fold]
    have e : fms g (0, []) l = (g l + 1, l) := fmx_0 (by simp)
    rw [e]
    unfold fmx
    split
    · rename_i q
      have q : g l + 1 < _ := q
      omega
    · show 0 < g l + 1
      omega
theorem pc6_n : ∀ n, n < 7 → ∀ S, S < 2 ^ n → pc6 S ≤ n ∧ (S + 1 < 2 ^ n → pc6 S < n) := by decide +kernel
theorem bp_pos {n : Nat} (F : Nat → Nat → Nat) (h6 : n ≤ 6) {S : Nat} (hS : S < 2 ^ n) : 0 < (bp n F (n - pc6 S) S).1 := by
  rw [← fold_lp n F _ S (by omega)]
  exact fm_pos _ (lp_some n (by omega) S hS)
theorem bpv_le {F : Nat → Nat → Nat} {p S M : Nat} {f : Nat → Nat × List Nat} (hF : ∀ p v, F p v ≤ 9) (hf : ∀ S, (f S).1 ≤ M) : ∀ k v a, a.1 ≤ M + 9 → (bpv F p f S k v a).1 ≤ M + 9
  | 0, _, a, h => h
  | k + 1, v, a, h => by
    rw [bpv]
    refine bpv_le hF hf k (v + 1) _ ?_
    cases hb S v with
    | true => exact h
    | false =>
      show (fmx a _).1 ≤ _
      unfold fmx
      split
      · unfold lif
        split
        · show 0 ≤ _; omega
        · have := hF p v; have := hf (S + 2 ^ v); show F p v + _ ≤ _; omega
      · exact h
theorem bp_le {n : Nat} {F : Nat → Nat → Nat} (hF : ∀ p v, F p v ≤ 9) : ∀ k S, (bp n F k S).1 ≤ 9 * k + 1
  | 0, S => Nat.le_refl _
  | k + 1, S => by
    have := bpv_le hF (p := n - (k + 1)) (S := S) (bp_le (n := n) hF k) n 0 (0, []) (by simp)
    rw [bp]
    omega
/-- what the sets' table holds -/
def BS (n : Nat) (F : Nat → Nat → Nat) (S : Nat) : Nat × List Nat := bp n F (n - pc6 S) S
theorem pc6_add : ∀ S, S < 64 → ∀ v, v < 6 → hb S v = false → pc6 (S + 2 ^ v) = pc6 S + 1 := by decide +kernel
theorem lt_add6 : ∀ n, n < 7 → ∀ S, S < 2 ^ n → ∀ v, v < n → hb S v = false → S + 2 ^ v < 2 ^ n := by decide +kernel
theorem pow6 {n : Nat} (h : n ≤ 6) : (2 : Nat) ^ n ≤ 64 := Nat.pow_le_pow_right (n := 2) (by omega) h
theorem BS_in {n : Nat} {F : Nat → Nat → Nat} (h6 : n ≤ 6) {S : Nat} (hS : S < 2 ^ n) {v : Nat} (hv : v < n) (hb0 : hb S v = false) : bp n F (n - pc6 S - 1) (S + 2 ^ v) = BS n F (S + 2 ^ v) := by
  have := pow6 h6
  unfold BS
  rw [pc6_add S (by omega) v (by omega) hb0]
  rfl
theorem BS_s {n : Nat} {F : Nat → Nat → Nat} (h6 : n ≤ 6) {S : Nat} (hS : S + 1 < 2 ^ n) : BS n F S = bpv F (pc6 S) (bp n F (n - pc6 S - 1)) S n 0 (0, []) := by
  have h := (pc6_n n (by omega) S (by omega)).2 hS
  unfold BS
  obtain ⟨k, hk⟩ : ∃ k, n - pc6 S = k + 1 := ⟨n - pc6 S - 1, by omega⟩
  rw [hk, bp, show n - (k + 1) = pc6 S by omega]
  rfl
theorem bpv_path {F : Nat → Nat → Nat} {p S : Nat} {f : Nat → Nat × List Nat} : ∀ k v a, bpv F p f S k v a = a ∨ ∃ w, v ≤ w ∧ w < v + k ∧ hb S w = false ∧ (bpv F p f S k v a) = lif (F p w) w (f (S + 2 ^ w))
  | 0, _, a => Or.inl rfl
  | k + 1, v, a => by
    rw [bpv]
    rcases bpv_path k (v + 1) (cond (hb S v) a (fmx a (lif (F p v) v (f (S + 2 ^ v))))) with e | ⟨w, h1, h2, h3, h4⟩
    · rw [e]
      cases hq : hb S v with
      | true => exact Or.inl rfl
      | false =>
        show fmx a _ = a ∨ ∃ w, _ ∧ _ ∧ _ ∧ fmx a _ = _
        unfold fmx
        split
        · exact Or.inr ⟨v, Nat.le_refl _, by omega, hq, rfl⟩
        · exact Or.inl rfl
    · exact Or.inr ⟨w, by omega, by omega, h3, h4⟩
theorem BS_path {n : Nat} {F : Nat → Nat → Nat} (h6 : n ≤ 6) {S : Nat} (hS : S + 1 < 2 ^ n) : ∃ w, w < n ∧ hb S w = false ∧ S + 2 ^ w < 2 ^ n ∧ BS n F S = (F (pc6 S) w + (BS n F (S + 2 ^ w)).1, w :: (BS n F (S + 2 ^ w)).2) := by
  have hp : 0 < (BS n F S).1 := bp_pos F h6 (by omega)
  have e := BS_s (F := F) h6 hS
  rcases bpv_path (F := F) (p := pc6 S) (S := S) (f := bp n F (n - pc6 S - 1)) n 0 (0, []) with q | ⟨w, h1, h2, h3, h4⟩
  · rw [e, q] at hp
    exact absurd hp (by simp)
  · have hw : w < n := by omega
    have hl := lt_add6 n (by omega) S (by omega) w hw h3
    refine ⟨w, hw, h3, hl, ?_⟩
    rw [e, h4, BS_in h6 (by omega) hw h3]
    have hp2 : 0 < (BS n F (S + 2 ^ w)).1 := bp_pos F h6 hl
    exact if_neg (by omega)
end BEST
