/-! ===== the law: its start ===== -/
theorem tbl_at {w : Cond} {i : Nat} (h : tables_1[i]? = some w) : w ∈ lw_tbl := List.mem_append_right _ (List.mem_of_getElem? h)
theorem lw_kB : Cond.classLink R_law 7 RX3 ∈ gtb := gtb_of (tbl_at (i := 13) (by decide +kernel)) (by decide +kernel)
theorem lw_lB : Cond.methodLink R_law 9 yX3_init ∈ gtb := gtb_of (tbl_at (i := 15) (by decide +kernel)) (by decide +kernel)
theorem lw_kM : Cond.classLink R_law 10 RX4 ∈ gtb := gtb_of (tbl_at (i := 609) (by decide +kernel)) (by decide +kernel)
theorem lw_lM : Cond.methodLink R_law 12 yX4_init ∈ gtb := gtb_of (tbl_at (i := 611) (by decide +kernel)) (by decide +kernel)
theorem lw_n9 : Cond.methodLinkNest "BorrowedVoice" 9 yX0_init "BorrowedVoice" ∈ lw_tbl := tbl_at (i := 23) (by decide +kernel)
theorem lw_n34 : Cond.methodLinkNest "BorrowedVoice" 34 yX2_init "BorrowedVoice" ∈ lw_tbl := tbl_at (i := 79) (by decide +kernel)
theorem lw_s0 : Cond.stringRef RX2 47 "counter" ∈ lw_tbl := tbl_at (i := 213) (by decide +kernel)
theorem lw_s1 : Cond.stringRef RX2 56 "one" ∈ lw_tbl := tbl_at (i := 274) (by decide +kernel)
theorem lw_s2 : Cond.stringRef RX2 61 "leave" ∈ lw_tbl := tbl_at (i := 284) (by decide +kernel)
theorem lw_s3 : Cond.stringRef RX2 66 "lend" ∈ lw_tbl := tbl_at (i := 297) (by decide +kernel)
theorem lw_cs : Cond.laysStatic "java/lang/String" "COMPACT_STRINGS" "Z" ∈ lw_tbl := tbl_at (i := 227) (by decide +kernel)
theorem lw_si : Cond.laysStatic "jdk/internal/util/Preconditions" "SIOOBE_FORMATTER" "Ljava/util/function/BiFunction;" ∈ lw_tbl := tbl_at (i := 243) (by decide +kernel)
section START
variable {s : State} {args : Array Value}
theorem st_K (htg : ∀ w ∈ gtb, w.before args s = true) : ∃ (dC : Nat → ClassId) (dI : Nat → Nat → Nat) (dA : Nat → ClassId), va_K (dC, dI) vwCl (tyA dA) s := by
  obtain ⟨c0, i0, k0⟩ := u_known (C := RX0) (T := TX0) (N := 12) (n := 12) htg cfX0.2.2.1 (htg _ nw_tX0)
  obtain ⟨c1, i1, k1⟩ := u_known (C := RX2) (T := TX2) (N := 6) (n := 6) htg cfX2.2.2.1 (htg _ nw_tX2)
  obtain ⟨c2, i2, k2⟩ := u_known (C := RX3) (T := TX3) (N := 14) (n := 14) htg cfX3.2.2.1 (htg _ nw_tX3)
  obtain ⟨c3, i3, k3⟩ := u_known (C := RX4) (T := TX4) (N := 32) (n := 32) htg cfX4.2.2.1 (htg _ nw_tX4)
  obtain ⟨aI, kI, oI, fI, hI, gI⟩ := Cond.arrayClass_spec (htg _ nw_arI)
  obtain ⟨aB, kB, oB, fB, hB, gB⟩ := Cond.arrayClass_spec (htg _ nw_arB)
  refine ⟨fun k => match k with | 0 => c0 | 1 => c1 | 2 => c2 | _ => c3, fun k => match k with | 0 => i0 | 1 => i1 | 2 => i2 | _ => i3, fun k => match k with | 0 => aI | _ => aB, fun k q hq => ?_, fun k q hq => ?_⟩
  · match k, hq with
    | 0, hq => cases hq; exact k0
    | 1, hq => cases hq; exact k1
    | 2, hq => cases hq; exact k2
    | 3, hq => cases hq; exact k3
    | k + 4, hq => exact absurd (List.getElem?_eq_some_iff.mp hq).1 (by show ¬ k + 4 < 4; omega)
  · match k, hq with
    | 0, hq => cases hq; exact ⟨fun n z => ⟨fun k h => (by cases h), kI, hI, oI, gI⟩, fI⟩
    | 1, hq => cases hq; exact ⟨fun n z => ⟨fun k h => (by cases h), kB, hB, oB, gB⟩, fB⟩
    | k + 2, hq => exact absurd (List.getElem?_eq_some_iff.mp hq).1 (by show ¬ k + 2 < 2; omega)
abbrev txT (i : Nat) : Term := .string RX2 (txI.getD i 0)
abbrev flL : List Cond := flatC (Jvm.Cond.and given_1 narrow_1)
theorem fl_ex : ∀ i, i < 4 → Cond.exactly (txT i) "java/lang/String" ∈ flL := by decide +kernel
theorem fl_co : ∀ i, i < 4 → Cond.eq (.field (txT i) "java/lang/String" "coder" "B") (.int 0) ∈ flL := by decide +kernel
theorem fl_ar : ∀ i, i < 4 → Cond.arrayOf (.field (txT i) "java/lang/String" "value" "[B") .byte ∈ flL := by decide +kernel
theorem fl_le : ∀ i, i < 4 → Cond.eq (.length (.field (txT i) "java/lang/String" "value" "[B")) (.int (Int32.ofNat (txN.getD i 0))) ∈ flL := by decide +kernel
theorem fl_el : ∀ i, i < 4 → ∀ j, j < txN.getD i 0 → Cond.eq (.elem (.field (txT i) "java/lang/String" "value" "[B") (.int (Int32.ofNat j))) (.int ((txB.getD i []).getD j 0)) ∈ flL := by decide +kernel
theorem fl_ne : ∀ i, i < 4 → ∀ j, j < 4 → i ≠ j → Cond.not (Cond.eq (txT i) (txT j)) ∈ flL ∨ Cond.not (Cond.eq (txT j) (txT i)) ∈ flL := by decide +kernel
theorem fl_cs : Cond.eq (.static "java/lang/String" "COMPACT_STRINGS" "Z") (.int 1) ∈ flL := by decide +kernel
theorem fl_si : Cond.isRef (.static "jdk/internal/util/Preconditions" "SIOOBE_FORMATTER" "Ljava/util/function/BiFunction;") ∈ flL := by decide +kernel
theorem tx_31 : ∀ i, i < 4 → txN.getD i 0 < 2 ^ 31 := by decide +kernel
theorem st_T (hts : ∀ w ∈ lw_tbl, w.before args s = true) (hgv : (Jvm.Cond.and given_1 narrow_1).before args s = true) : ∃ aK aV : Nat → Nat, vk_S 4 txN txB aK aV (fun q => s.heap.size ≤ q) s s.heap ∧ (∀ i, i < 4 → vk_R RX2 (txI.getD i 0) (txS.getD i "") (aK i) s) ∧ va_Z "java/lang/String" "COMPACT_STRINGS" "Z" (.int 1) (fun q => s.heap.size ≤ q) s s.heap ∧ va_Zq "jdk/internal/util/Preconditions" "SIOOBE_FORMATTER" "Ljava/util/function/BiFunction;" (fun q => s.heap.size ≤ q) s s.heap := by
  have hq := flat_of_before _ hgv
  have hA : ∀ a : Nat, a < s.heap.size → ¬ (fun q => s.heap.size ≤ q) a := fun a h => Nat.not_le.mpr h
  obtain ⟨aK, aV, h1, h2⟩ := vk_Sof (N := 4) (tm := txT) (len := txN) (byt := txB) (A := fun q => s.heap.size ≤ q) tx_31 (fun i hi => hq _ (fl_ex i hi)) (fun i hi => hq _ (fl_co i hi)) (fun i hi => hq _ (fl_ar i hi)) (fun i hi => hq _ (fl_le i hi)) (fun i hi j hj => hq _ (fl_el i hi j hj)) (fun i j hi hj hne => (fl_ne i hi j hj hne).imp (hq _) (hq _)) hA
  refine ⟨aK, aV, h1, fun i hi => ?_, va_Zof (hts _ lw_cs) (hts _ (gtb_in tw_iS)) (va_eqt (hq _ fl_cs)) hA, va_Zqof (hts _ lw_si) (hts _ (gtb_in tw_iP)) (hq _ fl_si) hA⟩
  refine vk_R.of (A := args) ?_ (h2 i hi)
  rcases (show i = 0 ∨ i = 1 ∨ i = 2 ∨ i = 3 by omega) with rfl | rfl | rfl | rfl
  · exact hts _ lw_s0
  · exact hts _ lw_s1
  · exact hts _ lw_s2
  · exact hts _ lw_s3
end START
def z00 : Zs := (H00, (none, none), (0, fun _ => 0), (0, 1), (0, 0, 0))
theorem good_z00 : GoodZ z00 := ⟨good00, trivial, trivial, Nat.zero_le _, fun j hj => absurd hj (Nat.not_lt_zero _)⟩
theorem c_z00 : CInv u00 z00 := ⟨⟨⟨rfl, rfl, rfl, rfl⟩, fun v hv => absurd hv (Nat.not_lt_zero _), fun v c hv => absurd hv (Nat.not_lt_zero _), fun v hv => absurd hv (Nat.not_lt_zero _)⟩, rfl, rfl, ⟨rfl, fun v hv => absurd hv (Nat.not_lt_zero _)⟩, ⟨rfl, rfl⟩, rfl, rfl, rfl⟩
theorem m_z00 : MInv u00 z00 := ⟨⟨⟨rfl, rfl, rfl, rfl⟩, fun v hv => absurd hv (Nat.not_lt_zero _), fun v c hv => absurd hv (Nat.not_lt_zero _), fun v hv => absurd hv (Nat.not_lt_zero _)⟩, rfl, rfl, ⟨rfl, fun v hv => absurd hv (Nat.not_lt_zero _)⟩, ⟨rfl, rfl⟩, rfl, rfl, rfl⟩
/-- where the cells are: the class's, the reference's, the texts -/
def adS (a a2 aK : Nat → Nat) : Nat → Nat := fun k => cond (Nat.blt k 41) (a k) (cond (Nat.blt k 63) (a2 k) (aK (k - 100)))
theorem adS_K (a a2 aK : Nat → Nat) (i : Nat) : adS a a2 aK (100 + i) = aK i := by
  have h1 : Nat.blt (100 + i) 41 = false := by
    cases h : Nat.blt (100 + i) 41 with
    | false => rfl
    | true => have := Nat.le_of_ble_eq_true h; omega
  have h2 : Nat.blt (100 + i) 63 = false := by
    cases h : Nat.blt (100 + i) 63 with
    | false => rfl
    | true => have := Nat.le_of_ble_eq_true h; omega
  unfold adS
  rw [h1, h2]
  show aK (100 + i - 100) = aK i
  rw [Nat.add_sub_cancel_left]
set_option maxRecDepth 100000 in
set_option maxHeartbeats 4000000 in
theorem adS_w (dA : Nat → ClassId) (a a2 aK : Nat → Nat) : wor dA (adS a a2 aK) u00 = bwo dA a ++ mwo dA a2 := (wor_u00 dA (adS a a2 aK)).trans rfl
set_option maxHeartbeats 8000000 in
set_option maxRecDepth 100000 in
theorem whole_start {p : Program} {e : Env} {s : State} {m : MethodId} {below : List Frame} {meth : Method} {c : Code} (l : Launch) {b L : Nat} {xs : Nat → Int32} (hL : L ≤ 3072) (C0 : lw_At p s m meth c b L xs) : W p l e room_1 s m #[Value.ref b] below meth c s.heap [] 0 0 (lw_Z below #[Value.ref b] s) (entryFrame m ([Value.ref b] : List Value).toArray 4) := by
  obtain ⟨hx, hb, hr, hml, hown, hts, hX, hbl, hlocks, hgv⟩ := id C0
  have htg : ∀ w ∈ gtb, w.before #[Value.ref b] s = true := fun w hw => hts w (gtb_in hw)
  obtain ⟨dC, dI, dA, hK⟩ := st_K htg
  obtain ⟨aK, aV, t1, t2, t3, t4⟩ := st_T hts hgv
  have hN9 := va_Nw.of rfl (hts _ lw_n9)
  have hN34 := va_Nw.of rfl (hts _ lw_n34)
  have hA : ∀ q : Nat, s.heap.size ≤ q → (fun q : Nat => s.heap.size ≤ q) q := fun _ h => h
  have hS : va_S (fun q : Nat => s.heap.size ≤ q) s.heap s.heap [] := va_S.rf
  have hP : va_P (dC, dI) vwCl [] s.heap := fun k q h => by simp at h
  have hD : va_D (fun q : Nat => s.heap.size ≤ q) [] := ⟨fun i j p q h => by simp at h, fun k q h => by simp at h⟩
  have hl := lv_entry ([.ref b]) (n := 4) (Nat.le_of_ble_eq_true rfl)
  rw [lg_entry_eq]
  generalize (lg_sl ([.ref b]) ++ List.replicate (4 - (lg_sl ([.ref b])).length) Slot.unset).toArray = ls at hl ⊢
  have hl : lv_has ls 4 [(0, .ref b)] := hl
  refine va_new (ci := 2) (fs := fsX3) (C := RX3) (T := TX3) (N := 14) hx hb htg cfX3.2.2.1 tyX3 cfX3.2.2.2.1 hown (htg _ lw_kB) (htg _ nw_tX3) (htg _ nw_iX3) hK hP hD hS hA rfl (fun j hj => by
    have h : ∀ j, j < 14 → defaultValue (tyX3 j) = vp_V fsX3 j := by decide +kernel
    exact h j hj) (Nat.le_of_ble_eq_true rfl) (Nat.le_of_ble_eq_true rfl) dL_law_0 (fun q0 H hP hD hS => ?_)
  refine W.widen (k := 1) (n := 14) (Nat.le_of_ble_eq_true rfl) (Nat.le_of_ble_eq_true rfl) ?_
  refine lv_dup hx hb dL_law_3 rfl ?_
  obtain ⟨hPc, hDc⟩ := lastP hP hD
  have hFc := freeL hD hS hA
  refine va_callv (va_runI (As := []) (rest := [.ref q0]) ⟨hx, hb, hml, hown, htg⟩ (n_X3 l dC dI dA q0 H.size) ⟨callB_of 0 htg (good_wsD mkN_X3) rfl rfl rfl (htg _ nw_iX3) (htg _ lw_lB) mkN_X3.2.2.2 ⟨Nat.le_of_ble_eq_true rfl, Nat.le_of_ble_eq_true rfl⟩, rfl, htg _ nw_mX3⟩ ⟨fun a U g mk q => by obtain ⟨q0, q1, qP, qK, qD, qN, qM⟩ := q; exact ⟨q0, q1, qP, va_K.moved (u := U) (U := U.calling g mk a) (Vm.Alike.refl U.vm) qK, qD, va_Nw.same (u := U) (U := U.calling g mk a) rfl rfl qN, va_Nw.same (u := U) (U := U.calling g mk a) rfl rfl qM⟩, fun U hU hW => ⟨rfl, by rw [hU], by rw [hU]; exact hPc, va_K.moved hW.alike hK, hDc.weaken (fun _ _ _ _ => trivial), va_Nw.warmM hW hN9, va_Nw.warmM hW hN34⟩⟩ rfl rfl hl.1 rfl (lv_room (Nat.le_of_ble_eq_true rfl)) dL_law_4 ⟨Nat.le_of_ble_eq_true rfl, Nat.le_of_ble_eq_true rfl⟩) hS (fun q _ h => hFc q h) hFc (fun a t H1 locs ht hvm hw hB hz1 hk1 hS => ?_)
  obtain ⟨hP1, hD1⟩ := hB
  rw [ht] at hP1
  obtain ⟨hPj, hDj⟩ := join1 hP hD hk1 hFc hP1 hD1
  have hw : a 0 = q0 := hw
  subst hw
  have hP : va_P (dC, dI) vwCl (bwo dA a) H1 := hPj
  have hD : va_D (fun q : Nat => s.heap.size ≤ q) (bwo dA a) := hDj
  refine W.widen (k := 41) (n := 1218) (Nat.le_of_ble_eq_true rfl) (Nat.le_of_ble_eq_true rfl) ?_
  refine lv_astore_n (lv' := [(1, .ref (a 0)), (0, .ref b)]) hx hb dL_law_7 rfl hl (by decide) rfl (fun ls hl => ?_)
  refine va_new (ci := 3) (fs := fsX4) (C := RX4) (T := TX4) (N := 32) hx hb htg cfX4.2.2.1 tyX4 cfX4.2.2.2.1 hown (htg _ lw_kM) (htg _ nw_tX4) (htg _ nw_iX4) hK hP hD hS hA rfl (fun j hj => by
    have h : ∀ j, j < 32 → defaultValue (tyX4 j) = vp_V fsX4 j := by decide +kernel
    exact h j hj) (Nat.le_of_ble_eq_true rfl) (Nat.le_of_ble_eq_true rfl) dL_law_8 (fun q1 H hP hD hS => ?_)
  refine W.widen (k := 42) (n := 1250) (Nat.le_of_ble_eq_true rfl) (Nat.le_of_ble_eq_true rfl) ?_
  refine lv_dup hx hb dL_law_11 rfl ?_
  obtain ⟨hPc, hDc⟩ := lastP hP hD
  have hFc := freeL hD hS hA
  refine va_callv (va_runI (As := []) (rest := [.ref q1]) ⟨hx, hb, hml, hown, htg⟩ (n_X4 l dC dI dA q1 H.size) ⟨callB_of 0 htg (good_wsD mkN_X4) rfl rfl rfl (htg _ nw_iX4) (htg _ lw_lM) mkN_X4.2.2.2 ⟨Nat.le_of_ble_eq_true rfl, Nat.le_of_ble_eq_true rfl⟩, rfl, htg _ nw_mX4⟩ ⟨fun a U g mk q => by obtain ⟨q0, q1, qP, qK, qD⟩ := q; exact ⟨q0, q1, qP, va_K.moved (u := U) (U := U.calling g mk a) (Vm.Alike.refl U.vm) qK, qD⟩, fun U hU hW => ⟨rfl, by rw [hU], by rw [hU]; exact hPc, va_K.moved hW.alike hK, hDc.weaken (fun _ _ _ _ => trivial)⟩⟩ rfl rfl hl.1 rfl (lv_room (Nat.le_of_ble_eq_true rfl)) dL_law_12 ⟨Nat.le_of_ble_eq_true rfl, Nat.le_of_ble_eq_true rfl⟩) hS (fun q _ h => hFc q h) hFc (fun a2 tt H2 locs2 ht2 hvm2 hw2 hB2 hz2 hk2 hS => ?_)
  obtain ⟨hP1, hD1⟩ := hB2
  rw [ht2] at hP1
  obtain ⟨hPk, hDk⟩ := join1 hP hD hk2 hFc hP1 hD1
  have hw2 : a2 41 = q1 := hw2
  subst hw2
  refine W.widen (k := 63) (n := 2138) (Nat.le_of_ble_eq_true rfl) (Nat.le_of_ble_eq_true rfl) ?_
  refine lv_astore_n (lv' := [(2, .ref (a2 41)), (1, .ref (a 0)), (0, .ref b)]) hx hb dL_law_15 rfl hl (by decide) rfl (fun ls hl => ?_)
  refine lv_iconst (v := 0) hx hb dL_law_16 (by decide) ?_
  refine lv_istore_n (lv' := [(3, .int 0), (2, .ref (a2 41)), (1, .ref (a 0)), (0, .ref b)]) hx hb dL_law_17 rfl hl (by decide) rfl (fun ls hl => ?_)
  have hT : Tx (adS a a2 aK) aV (fun q => s.heap.size ≤ q) s s.heap := by
    have e1 : (fun i => adS a a2 aK (100 + i)) = aK := funext (adS_K a a2 aK)
    refine ⟨?_, fun i hi => ?_, t3, t4⟩
    · show vk_S 4 txN txB (fun i => adS a a2 aK (100 + i)) aV _ s s.heap
      rw [e1]
      exact t1
    · rw [adS_K]
      exact t2 i hi
  refine law_loop (ad := adS a a2 aK) (aV := aV) ⟨⟨hx, hb, hml, hown, htg, hK, Nat.le_refl _, Nat.le_refl _, hT, hA⟩, hX, hbl, hL⟩ hr hlocks (L + 1) 0 u00 z00 H2 locs2 ls (by omega) (by omega) ⟨?_, ?_, hS, lv_sub hl [3, 2, 1, 0] rfl, c_z00, m_z00, good_z00⟩
  · rw [adS_w]
    exact hPk
  · rw [adS_w]
    exact hDk
