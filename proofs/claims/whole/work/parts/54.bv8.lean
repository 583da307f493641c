/-! ===== the class: best ===== -/
section B8
variable {u : Sg} {z : Zs}
theorem cI_le {x y : Nat} (hx : x < 2 ^ 31) (hy : y < 2 ^ 31) : cI x ≤ cI y ↔ x ≤ y := by
  rw [Int32.le_iff_toInt_le, cI_toInt hx, cI_toInt hy]
  omega
theorem cI_add (a x : Nat) : nI a + cI x = cI (a + x) := by
  unfold cI
  rw [← nI_add, Int32.sub_eq_add_neg, Int32.sub_eq_add_neg, Int32.add_assoc]
theorem nI_m1 (a : Nat) : nI a + -1 = cI a := by
  unfold cI
  rw [Int32.sub_eq_add_neg]
def ushr (x y : Int32) : Int32 := (x.toUInt32 >>> (y.toUInt32 &&& Int32.toUInt32 31)).toInt32
def bc1 (x : Int32) : Int32 := x - (ushr x 1 &&& 1431655765)
def bc2 (a : Int32) : Int32 := (a &&& 858993459) + (ushr a 2 &&& 858993459)
def bc3 (b : Int32) : Int32 := (b + ushr b 4) &&& 252645135
def bc4 (c : Int32) : Int32 := c + ushr c 8
def bc5 (d : Int32) : Int32 := (d + ushr d 16) &&& 63
theorem bc_all : ∀ s, s < 64 → bc5 (bc4 (bc3 (bc2 (bc1 (nI s))))) = nI (pc6 s) := by decide +kernel
theorem e_bitCount {s : Nat} (hs : s < 64) : V 182 (0, [some (.int (nI s))], [], u) (is (.int (nI (pc6 s))) u) := by
  ((repeat refine VV.s rfl rfl ?_); (try (conv => arg 3; simp only [Nat.reduceAdd, sto1, sto2, isL, cond_true, cond_false, List.drop_succ_cons, List.drop_zero, List.drop_nil])))
  exact VV.ret1 rfl ⟨congrArg (fun x => some (Value.int x)) (bc_all s hs), rfl⟩
theorem shl1 : ∀ n, n < 7 → (1 : Int32) <<< (nI n &&& 31) - 1 = nI (2 ^ n - 1) := by decide +kernel
theorem or_add : ∀ S, S < 64 → ∀ v, v < 6 → hb S v = false → nI S ||| ((1 : Int32) <<< (nI v &&& 31)) = nI (S + 2 ^ v) := by decide +kernel
theorem shr_hb : ∀ S, S < 64 → ∀ v, v < 6 → (((nI S >>> (nI v &&& 31)) &&& 1) = 0 ↔ hb S v = false) := by decide +kernel
abbrev BH (h : Hs) (S : Nat) : Nat × List Nat := BS (hn h) (ftH h) S
/-- the two rows of the sets, down to g -/
def DPI (h : Hs) (u : Sg) (g : Nat) (t : Sg) : Prop := (∀ S, g ≤ S → S < 2 ^ hn h → gA t 39 S = cI (BH h S).1 ∧ (S + 1 < 2 ^ hn h → gA t 40 S = nI ((BH h S).2.headD 0))) ∧ Agr (fun k => k ≠ 39 ∧ k ≠ 40) u t
theorem BH_le (h : Hs) (S : Nat) : (BH h S).1 ≤ 9 * hn h + 1 := by
  have := bp_le (n := hn h) (F := ftH h) (ftH_le h) (hn h - pc6 S) S
  show (bp _ _ _ _).1 ≤ _
  omega
set_option maxHeartbeats 16000000 in
theorem e_findBest_in {h : Hs} (R : HRep u 1 h) (G : GoodH h) {S : Nat} (hS : S + 1 < 2 ^ hn h) {al : Int32} {Q : Option Value → Sg → Prop} (K : ∀ t d5 d6, DPI h u S t → V 88 (116, [some (.ref 0), some (.int al), some (.int (nI S)), some (.int (nI (pc6 S))), some (.int (cI (BH h S).1)), d5, d6], [], t) Q) : ∀ k v a d6 t, v + k = hn h → a.1 ≤ 9 * hn h + 10 → bpv (ftH h) (pc6 S) (bp (hn h) (ftH h) (hn h - pc6 S - 1)) S k v a = BH h S → DPI h u (S + 1) t → (a.1 ≠ 0 → gA t 40 S = nI (a.2.headD 0)) → V 88 (38, [some (.ref 0), some (.int al), some (.int (nI S)), some (.int (nI (pc6 S))), some (.int (cI a.1)), some (.int (nI v)), d6], [], t) Q := by
  have h6 := G.1.1
  have h64 := pow6 h6
  have hp := (pc6_n (hn h) (by omega) S (by omega)).2 hS
  intro k
  induction k with
  | zero =>
    intro v a d6 t hv hl ha D h40
    have Rt : HRep t 1 h := R.keep (D.2.sub (fun k hk => by have := hk.2; exact ⟨by omega, by omega⟩))
    have ha : a = BH h S := ha
    ((repeat refine VV.s rfl rfl ?_); (try (conv => arg 3; simp only [Nat.reduceAdd, sto1, sto2, isL, cond_true, cond_false, List.drop_succ_cons, List.drop_zero, List.drop_nil])))
    refine VV.itt (by rw [Rt.1.1]; exact nI_le (by omega) (by omega)) ?_
    ((repeat refine VV.s rfl rfl ?_); (try (conv => arg 3; simp only [Nat.reduceAdd, sto1, sto2, isL, cond_true, cond_false, List.drop_succ_cons, List.drop_zero, List.drop_nil])))
    refine VV.iast rfl rfl rfl (show S < 64 by omega) (by decide) ?_
    rw [ha]
    have hpos : 0 < (BH h S).1 := bp_pos _ h6 (by omega)
    refine K _ _ _ ⟨fun S' h1 h2 => ?_, D.2.A (fun q => q.1 rfl)⟩
    by_cases e : S' = S
    · subst e
      refine ⟨?_, fun _ => ?_⟩
      · rw [gA_pA, if_pos rfl, upd_eq rfl]
      · rw [gA_pA, if_neg (by decide), h40 (by rw [ha]; omega), ha]
    · have := D.1 S' (by omega) h2
      refine ⟨?_, fun q => ?_⟩
      · rw [gA_pA, if_pos rfl, upd_ne e]; exact this.1
      · rw [gA_pA, if_neg (by decide)]; exact this.2 q
  | succ k ih =>
    intro v a d6 t hv hl ha D h40
    have Rt : HRep t 1 h := R.keep (D.2.sub (fun k hk => by have := hk.2; exact ⟨by omega, by omega⟩))
    rw [bpv] at ha
    have hvn : v < hn h := by omega
    have go : ∀ a' d6 t', a'.1 ≤ 9 * hn h + 10 → bpv (ftH h) (pc6 S) (bp (hn h) (ftH h) (hn h - pc6 S - 1)) S k (v + 1) a' = BH h S → DPI h u (S + 1) t' → (a'.1 ≠ 0 → gA t' 40 S = nI (a'.2.headD 0)) → V 88 (102, [some (.ref 0), some (.int al), some (.int (nI S)), some (.int (nI (pc6 S))), some (.int (cI a'.1)), some (.int (nI v)), d6], [], t') Q := by
      intro a' d6 t' h1 h2 h3 h4
      ((repeat (fail_if_success show VV _ _ (38, _, _, _) _); refine VV.s rfl rfl ?_); (try (conv => arg 3; simp only [Nat.reduceAdd, sto1, sto2, isL, cond_true, cond_false, List.drop_succ_cons, List.drop_zero, List.drop_nil])))
      rw [nI_1]
      exact ih (v + 1) a' d6 t' (by omega) h1 h2 h3 h4
    ((repeat refine VV.s rfl rfl ?_); (try (conv => arg 3; simp only [Nat.reduceAdd, sto1, sto2, isL, cond_true, cond_false, List.drop_succ_cons, List.drop_zero, List.drop_nil])))
    refine VV.itf (by rw [Rt.1.1]; exact nI_ge (by omega) (by omega)) ?_
    ((repeat refine VV.s rfl rfl ?_); (try (conv => arg 3; simp only [Nat.reduceAdd, sto1, sto2, isL, cond_true, cond_false, List.drop_succ_cons, List.drop_zero, List.drop_nil])))
    refine VV.ite (fun q => ?_) (fun q => ?_)
    · rw [shr_hb S (by omega) v (by omega)] at q
      have e : hb S v = true := by cases hq : hb S v with | true => rfl | false => exact absurd hq q
      rw [e] at ha
      exact go a _ _ hl ha D h40
    · have q := Classical.not_not.mp q
      rw [shr_hb S (by omega) v (by omega)] at q
      rw [q] at ha
      have hlt := lt_add6 (hn h) (by omega) S (by omega) v hvn q
      have hpp : 0 < (BH h (S + 2 ^ v)).1 := bp_pos _ h6 hlt
      have hble := BH_le h (S + 2 ^ v)
      have hfl := ftH_le h (pc6 S) v
      have e1 : lif (ftH h (pc6 S) v) v (bp (hn h) (ftH h) (hn h - pc6 S - 1) (S + 2 ^ v)) = (ftH h (pc6 S) v + (BH h (S + 2 ^ v)).1, v :: (BH h (S + 2 ^ v)).2) := by
        rw [BS_in h6 (by omega) hvn q]
        exact if_neg (by show ¬ (BH h (S + 2 ^ v)).1 = 0; omega)
      rw [e1] at ha
      ((repeat refine VV.s rfl rfl ?_); (try (conv => arg 3; simp only [Nat.reduceAdd, sto1, sto2, isL, cond_true, cond_false, List.drop_succ_cons, List.drop_zero, List.drop_nil])))
      refine VV.callE rfl rfl rfl rfl (e_fitWith (Or.inl rfl) Rt G hp hvn) rfl ?_
      ((repeat refine VV.s rfl rfl ?_); (try (conv => arg 3; simp only [Nat.reduceAdd, sto1, sto2, isL, cond_true, cond_false, List.drop_succ_cons, List.drop_zero, List.drop_nil])))
      rw [or_add S (by omega) v (by omega) q]
      refine VV.iald rfl rfl rfl (show (S + 2 ^ v) < 64 by omega) (by decide) ?_
      rw [(D.1 (S + 2 ^ v) (by have := Nat.pow_pos (n := v) (show 0 < 2 by omega); omega) hlt).1]
      ((repeat refine VV.s rfl rfl ?_); (try (conv => arg 3; simp only [Nat.reduceAdd, sto1, sto2, isL, cond_true, cond_false, List.drop_succ_cons, List.drop_zero, List.drop_nil])))
      rw [cI_add]
      refine VV.ite (fun q2 => ?_) (fun q2 => ?_)
      · rw [cI_le (by omega) (by omega)] at q2
        have ha : bpv (ftH h) (pc6 S) (bp (hn h) (ftH h) (hn h - pc6 S - 1)) S k (v + 1) (fmx a (ftH h (pc6 S) v + (BH h (S + 2 ^ v)).1, v :: (BH h (S + 2 ^ v)).2)) = BH h S := ha
        have e2 : fmx a (ftH h (pc6 S) v + (BH h (S + 2 ^ v)).1, v :: (BH h (S + 2 ^ v)).2) = a := if_neg (by show ¬ a.1 < ftH h (pc6 S) v + (BH h (S + 2 ^ v)).1; omega)
        rw [e2] at ha
        exact go a _ _ hl ha D h40
      · rw [cI_le (by omega) (by omega)] at q2
        have ha : bpv (ftH h) (pc6 S) (bp (hn h) (ftH h) (hn h - pc6 S - 1)) S k (v + 1) (fmx a (ftH h (pc6 S) v + (BH h (S + 2 ^ v)).1, v :: (BH h (S + 2 ^ v)).2)) = BH h S := ha
        have e2 : fmx a (ftH h (pc6 S) v + (BH h (S + 2 ^ v)).1, v :: (BH h (S + 2 ^ v)).2) = (ftH h (pc6 S) v + (BH h (S + 2 ^ v)).1, v :: (BH h (S + 2 ^ v)).2) := if_pos (by show a.1 < ftH h (pc6 S) v + (BH h (S + 2 ^ v)).1; omega)
        rw [e2] at ha
        ((repeat refine VV.s rfl rfl ?_); (try (conv => arg 3; simp only [Nat.reduceAdd, sto1, sto2, isL, cond_true, cond_false, List.drop_succ_cons, List.drop_zero, List.drop_nil])))
        refine VV.iast rfl rfl rfl (show S < 64 by omega) (by decide) ?_
        refine go _ _ _ (by show ftH h (pc6 S) v + (BH h (S + 2 ^ v)).1 ≤ _; omega) ha ⟨fun S' h1 h2 => ?_, D.2.A (fun q => q.2 rfl)⟩ (fun _ => ?_)
        · have := D.1 S' h1 h2
          refine ⟨?_, fun q => ?_⟩
          · rw [gA_pA, if_neg (by decide)]; exact this.1
          · rw [gA_pA, if_pos rfl, upd_ne (by omega)]; exact this.2 q
        · rw [gA_pA, if_pos rfl, upd_eq rfl]
          rfl
set_option maxHeartbeats 16000000 in
theorem e_findBest {h : Hs} (R : HRep u 1 h) (G : GoodH h) : V 88 (0, [some (.ref 0), none, none, none, none, none, none], [], u) (fun r t => r = none ∧ DPI h u 0 t) := by
  have h6 := G.1.1
  have h64 := pow6 h6
  have h1 : 0 < 2 ^ hn h := Nat.pow_pos (by omega)
  have lp : ∀ g al d3 d4 d5 d6 t, g < 2 ^ hn h → DPI h u g t → V 88 (23, [some (.ref 0), some (.int al), some (.int (cI g)), d3, d4, d5, d6], [], t) (fun r t => r = none ∧ DPI h u 0 t) := by
    intro g
    induction g with
    | zero =>
      intro al d3 d4 d5 d6 t hg D
      refine VV.s rfl rfl ?_
      refine VV.s rfl rfl ?_
      refine VV.itt (by decide) ?_
      exact VV.ret0 rfl ⟨rfl, D⟩
    | succ S ih =>
      intro al d3 d4 d5 d6 t hg D
      rw [cI_s]
      ((repeat refine VV.s rfl rfl ?_); (try (conv => arg 3; simp only [Nat.reduceAdd, sto1, sto2, isL, cond_true, cond_false, List.drop_succ_cons, List.drop_zero, List.drop_nil])))
      refine VV.itf (nI_nlt (b := 0) (by omega) (by omega)) ?_
      ((repeat refine VV.s rfl rfl ?_); (try (conv => arg 3; simp only [Nat.reduceAdd, sto1, sto2, isL, cond_true, cond_false, List.drop_succ_cons, List.drop_zero, List.drop_nil])))
      refine VV.callE rfl rfl rfl rfl (e_bitCount (by omega)) rfl ?_
      ((repeat (fail_if_success show VV _ _ (38, _, _, _) _); refine VV.s rfl rfl ?_); (try (conv => arg 3; simp only [Nat.reduceAdd, sto1, sto2, isL, cond_true, cond_false, List.drop_succ_cons, List.drop_zero, List.drop_nil])))
      refine e_findBest_in R G hg (fun t' d5 d6 D' => ?_) (hn h) 0 (0, []) _ t (by omega) (by simp) (BS_s h6 hg).symm D (fun q => absurd rfl q)
      ((repeat (fail_if_success show VV _ _ (23, _, _, _) _); refine VV.s rfl rfl ?_); (try (conv => arg 3; simp only [Nat.reduceAdd, sto1, sto2, isL, cond_true, cond_false, List.drop_succ_cons, List.drop_zero, List.drop_nil])))
      rw [nI_m1]
      exact ih al _ _ _ _ t' (by omega) D'
  ((repeat (fail_if_success show VV _ _ (18, _, _, _) _); refine VV.s rfl rfl ?_); (try (conv => arg 3; simp only [Nat.reduceAdd, sto1, sto2, isL, cond_true, cond_false, List.drop_succ_cons, List.drop_zero, List.drop_nil])))
  rw [R.1.1, shl1 (hn h) (by omega)]
  refine VV.iast (n := 2 ^ hn h - 1) rfl rfl rfl (by show _ < 64; omega) (by decide) ?_
  ((repeat (fail_if_success show VV _ _ (23, _, _, _) _); refine VV.s rfl rfl ?_); (try (conv => arg 3; simp only [Nat.reduceAdd, sto1, sto2, isL, cond_true, cond_false, List.drop_succ_cons, List.drop_zero, List.drop_nil])))
  refine lp (2 ^ hn h - 1) _ _ _ _ _ _ (by omega) ⟨fun S a b => ?_, (Agr.rf).A (fun q => q.1 rfl)⟩
  have e : S = 2 ^ hn h - 1 := by omega
  subst e
  refine ⟨?_, fun q => by omega⟩
  rw [gA_pA, if_pos rfl, upd_eq rfl]
  have e2 : ∀ n, n < 7 → pc6 (2 ^ n - 1) = n := by decide +kernel
  have e3 : BH h (2 ^ hn h - 1) = (1, []) := by
    show bp _ _ _ _ = _
    rw [e2 (hn h) (by omega), Nat.sub_self]
    rfl
  rw [e3]
  rfl
/-- the place of p in the first best line -/
def bsN (h : Hs) (p : Nat) : Nat := (BH h 0).2.getD p 0
theorem pc6_0 : pc6 0 = 0 := rfl
set_option maxHeartbeats 4000000 in
theorem e_bestVoiceOf {h : Hs} (G : GoodH h) {t : Sg} (D : DPI h u 0 t) {p : Nat} (hp : p < hn h) : V 89 (0, [some (.ref 0), some (.int (nI p)), none, none], [], t) (is (.int (nI (bsN h p))) t) := by
  have h6 := G.1.1
  have h64 := pow6 h6
  have h1 : 0 < 2 ^ hn h := Nat.pow_pos (by omega)
  have ful : ∀ S, S < 2 ^ hn h → pc6 S < hn h → S + 1 < 2 ^ hn h := by
    intro S a b
    have : ∀ n, n < 7 → ∀ S, S < 2 ^ n → pc6 S < n → S + 1 < 2 ^ n := by decide +kernel
    exact this (hn h) (by omega) S a b
  have lp : ∀ k i S, i + k = p → S < 2 ^ hn h → pc6 S = i → (BH h 0).2.getD p 0 = (BH h S).2.getD k 0 → V 89 (4, [some (.ref 0), some (.int (nI p)), some (.int (nI S)), some (.int (nI i))], [], t) (is (.int (nI (bsN h p))) t) := by
    intro k
    induction k with
    | zero =>
      intro i S hi hS hpc hg
      have hf := ful S hS (by omega)
      have d := (D.1 S (by omega) hS).2 hf
      obtain ⟨w, -, -, -, e⟩ := BS_path (F := ftH h) h6 hf
      ((repeat refine VV.s rfl rfl ?_); (try (conv => arg 3; simp only [Nat.reduceAdd, sto1, sto2, isL, cond_true, cond_false, List.drop_succ_cons, List.drop_zero, List.drop_nil])))
      refine VV.itt (nI_le (by omega) (by omega)) ?_
      ((repeat refine VV.s rfl rfl ?_); (try (conv => arg 3; simp only [Nat.reduceAdd, sto1, sto2, isL, cond_true, cond_false, List.drop_succ_cons, List.drop_zero, List.drop_nil])))
      refine VV.iald rfl rfl rfl (show S < 64 by omega) (by decide) ?_
      rw [d]
      refine VV.ret1 rfl ⟨?_, rfl⟩
      unfold bsN
      rw [hg, show BH h S = _ from e]
      rfl
    | succ k ih =>
      intro i S hi hS hpc hg
      have hf := ful S hS (by omega)
      have d := (D.1 S (by omega) hS).2 hf
      obtain ⟨w, w1, w2, w3, e⟩ := BS_path (F := ftH h) h6 hf
      ((repeat refine VV.s rfl rfl ?_); (try (conv => arg 3; simp only [Nat.reduceAdd, sto1, sto2, isL, cond_true, cond_false, List.drop_succ_cons, List.drop_zero, List.drop_nil])))
      refine VV.itf (nI_ge (by omega) (by omega)) ?_
      ((repeat refine VV.s rfl rfl ?_); (try (conv => arg 3; simp only [Nat.reduceAdd, sto1, sto2, isL, cond_true, cond_false, List.drop_succ_cons, List.drop_zero, List.drop_nil])))
      refine VV.iald rfl rfl rfl (show S < 64 by omega) (by decide) ?_
      rw [d, show BH h S = _ from e]
      ((repeat (fail_if_success show VV _ _ (4, _, _, _) _); refine VV.s rfl rfl ?_); (try (conv => arg 3; simp only [Nat.reduceAdd, sto1, sto2, isL, cond_true, cond_false, List.drop_succ_cons, List.drop_zero, List.drop_nil])))
      show V _ (4, [some (.ref 0), some (.int (nI p)), some (.int (nI S ||| ((1 : Int32) <<< (nI w &&& 31)))), some (.int (nI i + 1))], [], t) _
      rw [nI_1, or_add S (by omega) w (by omega) w2]
      refine ih (i + 1) (S + 2 ^ w) (by omega) w3 (by rw [pc6_add S (by omega) w (by omega) w2, hpc]) ?_
      rw [hg, show BH h S = _ from e]
      rfl
  ((repeat (fail_if_success show VV _ _ (4, _, _, _) _); refine VV.s rfl rfl ?_); (try (conv => arg 3; simp only [Nat.reduceAdd, sto1, sto2, isL, cond_true, cond_false, List.drop_succ_cons, List.drop_zero, List.drop_nil])))
  exact lp p 0 0 (by omega) h1 rfl rfl
theorem b_best_bad (C : CInv u z) {p : Int32} (h0 : ¬ p = -1) (h : ¬ thr (hn z.1) p) : BC 58 [some (.ref 0), some (.int p)] u (.int (-10)) (zB z) := by
  ((repeat refine VV.s rfl rfl ?_); (try (conv => arg 3; simp only [Nat.reduceAdd, sto1, sto2, isL, cond_true, cond_false, List.drop_succ_cons, List.drop_zero, List.drop_nil])))
  refine VV.itf h0 ?_
  ((repeat refine VV.s rfl rfl ?_); (try (conv => arg 3; simp only [Nat.reduceAdd, sto1, sto2, isL, cond_true, cond_false, List.drop_succ_cons, List.drop_zero, List.drop_nil])))
  refine VV.callE rfl rfl rfl rfl (e_thereN C.1.1.1 h) rfl ?_
  refine VV.s rfl rfl ?_
  refine VV.itf (by decide) ?_
  ((repeat refine VV.s rfl rfl ?_); (try (conv => arg 3; simp only [Nat.reduceAdd, sto1, sto2, isL, cond_true, cond_false, List.drop_succ_cons, List.drop_zero, List.drop_nil])))
  refine VV.callE rfl rfl rfl rfl e_ten rfl ?_
  exact VV.ret1 rfl ⟨rfl, C.bad, (Agr.rf).I (by decide)⟩
theorem DPI.inv (C : CInv u z) {h : Hs} {t : Sg} (D : DPI h u 0 t) : CInv t z ∧ Agr onM u t := ⟨C.keep2 (D.2.sub (fun k hk => by constructor <;> omega)) ((D.2 37 (by decide)).1 1), D.2.sub (fun k hk => by have hk : 41 ≤ k := hk; constructor <;> omega)⟩
theorem b_best_all (C : CInv u z) (G : GoodH z.1) : BC 58 [some (.ref 0), some (.int (-1))] u (.int (cI (BH z.1 0).1)) z := by
  have h1 : 0 < 2 ^ hn z.1 := Nat.pow_pos (by omega)
  refine VV.s rfl rfl ?_
  refine VV.s rfl rfl ?_
  refine VV.s rfl rfl ?_
  refine VV.itt rfl ?_
  refine VV.s rfl rfl ?_
  refine VV.call rfl rfl rfl rfl (e_findBest C.1 G) (fun r t q => ?_)
  obtain ⟨rfl, D⟩ := q
  refine VV.s rfl rfl ?_
  refine VV.s rfl rfl ?_
  refine VV.s rfl rfl ?_
  refine VV.itf (fun q => q rfl) ?_
  ((repeat (fail_if_success show VV _ _ (32, _, _, _) _); refine VV.s rfl rfl ?_); (try (conv => arg 3; simp only [Nat.reduceAdd, sto1, sto2, isL, cond_true, cond_false, List.drop_succ_cons, List.drop_zero, List.drop_nil])))
  refine VV.iald (n := 0) rfl rfl rfl (by decide) (by decide) ?_
  ((repeat refine VV.s rfl rfl ?_); (try (conv => arg 3; simp only [Nat.reduceAdd, sto1, sto2, isL, cond_true, cond_false, List.drop_succ_cons, List.drop_zero, List.drop_nil])))
  rw [(D.1 0 (by omega) h1).1]
  exact VV.ret1 rfl ⟨rfl, D.inv C⟩
theorem b_best_ok (C : CInv u z) (G : GoodH z.1) {p : Nat} (hp : p < hn z.1) (t1 : thr (hn z.1) (nI p)) : BC 58 [some (.ref 0), some (.int (nI p))] u (.int (nI (bsN z.1 p))) z := by
  have h6 := G.1.1
  ((repeat refine VV.s rfl rfl ?_); (try (conv => arg 3; simp only [Nat.reduceAdd, sto1, sto2, isL, cond_true, cond_false, List.drop_succ_cons, List.drop_zero, List.drop_nil])))
  refine VV.itf (nI_ne1 (by omega)) ?_
  ((repeat refine VV.s rfl rfl ?_); (try (conv => arg 3; simp only [Nat.reduceAdd, sto1, sto2, isL, cond_true, cond_false, List.drop_succ_cons, List.drop_zero, List.drop_nil])))
  refine VV.callE rfl rfl rfl rfl (e_thereY C.1.1.1 t1) rfl ?_
  refine VV.s rfl rfl ?_
  refine VV.itt (by decide) ?_
  refine VV.s rfl rfl ?_
  refine VV.call rfl rfl rfl rfl (e_findBest C.1 G) (fun r t q => ?_)
  obtain ⟨rfl, D⟩ := q
  ((repeat refine VV.s rfl rfl ?_); (try (conv => arg 3; simp only [Nat.reduceAdd, sto1, sto2, isL, cond_true, cond_false, List.drop_succ_cons, List.drop_zero, List.drop_nil])))
  refine VV.itt (nI_ne1 (by omega)) ?_
  ((repeat refine VV.s rfl rfl ?_); (try (conv => arg 3; simp only [Nat.reduceAdd, sto1, sto2, isL, cond_true, cond_false, List.drop_succ_cons, List.drop_zero, List.drop_nil])))
  refine VV.callE rfl rfl rfl rfl (e_bestVoiceOf G D hp) rfl ?_
  ((repeat refine VV.s rfl rfl ?_); (try (conv => arg 3; simp only [Nat.reduceAdd, sto1, sto2, isL, cond_true, cond_false, List.drop_succ_cons, List.drop_zero, List.drop_nil])))
  exact VV.ret1 rfl ⟨rfl, D.inv C⟩
end B8
