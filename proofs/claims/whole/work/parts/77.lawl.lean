/-! ===== the law: its loop ===== -/
section LAW2
variable {p : Program} {l : Launch} {e : Env} {s : State} {m : MethodId} {below : List Frame} {meth : Method} {c : Code} {b L : Nat} {xs : Nat → Int32} {dC : Nat → ClassId} {dI : Nat → Nat → Nat} {dA : Nat → ClassId} {ad aV : Nat → Nat} {Q : State → Prop} {H : Heap} {locs : List Loc} {ls : Array Slot} {i : Nat} {u : Sg} {z : Zs}
def tgL : List Nat := [184, 197, 240, 263, 276, 289, 322, 345, 368, 381, 414, 447, 480, 503, 516, 529, 552, 575, 588, 611, 644, 707, 720, 743, 766, 789, 832, 865, 898, 922, 945, 968, 991, 1014]
def ofL : List Int := [151, 164, 207, 230, 243, 256, 289, 312, 335, 348, 381, 414, 447, 470, 483, 496, 519, 542, 555, 578, 611, 674, 687, 710, 733, 756, 799, 832, 865, 889, 912, 935, 958, 981]
theorem tg_ok : ∀ j, j < 34 → (#[151, 164, 207, 230, 243, 256, 289, 312, 335, 348, 381, 414, 447, 470, 483, 496, 519, 542, 555, 578, 611, 674, 687, 710, 733, 756, 799, 832, 865, 889, 912, 935, 958, 981] : Array Int)[j]? = some (ofL.getD j 0) ∧ ((33 : Nat) : Int) + ofL.getD j 0 = ((tgL.getD j 0 : Nat) : Int) := by decide +kernel
theorem l_sw {x : Int32} (hx : p.tables.exec = Jvm.exec) (hb : c.code = code) {rest : List Value} (k0 : W p l e room_1 s m #[Value.ref b] below meth c H locs 63 2138 Q (F0 m 1028 ls rest)) (k1 : ∀ j, j < 34 → W p l e room_1 s m #[Value.ref b] below meth c H locs 63 2138 Q (F0 m (tgL.getD j 0) ls rest)) : W p l e room_1 s m #[Value.ref b] below meth c H locs 63 2138 Q (F0 m 33 ls (.int x :: rest)) := by
  by_cases h : x.toInt < 0 ∨ 33 < x.toInt
  · exact lv_tableOut (tgt := 1028) hx hb dL_law_33 h (by decide) k0
  · have h1 : ¬ x.toInt < 0 := fun q => h (Or.inl q)
    have h2 : ¬ 33 < x.toInt := fun q => h (Or.inr q)
    have hj : x.toInt.toNat < 34 := by omega
    have ok := tg_ok _ hj
    exact lv_tableIn (off := ofL.getD x.toInt.toNat 0) (tgt := tgL.getD x.toInt.toNat 0) hx hb dL_law_33 h1 h2 (by rw [Int.sub_zero]; exact ok.1) ok.2 (k1 _ hj)
theorem l_neg : ∀ n, n < 6 → nI n - 6 < 0 := by decide +kernel
theorem l_end {L i : Nat} (hL : L ≤ 3072) (hi : i ≤ L + 6) (h : L < i + 6) : nI L - 6 < nI i := by
  rcases Nat.lt_or_ge L 6 with q | q
  · have h1 := Int32.lt_iff_toInt_lt.mp (l_neg L q)
    have h0 : (0 : Int32).toInt = 0 := by decide
    have h2 : (nI i).toInt = (i : Int) := nI_toInt (by omega)
    exact Int32.lt_iff_toInt_lt.mpr (by omega)
  · have e1 : nI L - 6 = nI (L - 6) := pk_sub (a := L) (b := 6) q
    rw [e1]
    exact nI_lt (by omega) (by omega)
theorem l_go {L i : Nat} (hL : L ≤ 3072) (h : i + 6 ≤ L) : ¬ nI L - 6 < nI i := by
  have e1 : nI L - 6 = nI (L - 6) := pk_sub (a := L) (b := 6) (by omega)
  rw [e1]
  exact nI_nlt (by omega) (by omega)
set_option maxHeartbeats 4000000 in
set_option maxRecDepth 100000 in
theorem law_loop (C : LC dC dI dA ad aV p s m c b L xs) (hr : meth.sig.returnType = ret) (hlocks : meth.locks = false) : ∀ (f i : Nat) (u : Sg) (z : Zs) (H : Heap) (locs : List Loc) (ls : Array Slot), L < i + f → i ≤ L + 6 → LSt dC dI dA ad s b i u z H locs ls → W p l e room_1 s m #[Value.ref b] below meth c H locs 63 2138 (lw_Z below #[Value.ref b] s) (F0 m 18 ls []) := by
  obtain ⟨hx, hb, hml, hown, htg, hK, hR1, hR2, hT, hA⟩ := C.1
  obtain ⟨-, hX, hbl, hL⟩ := id C
  intro f
  induction f with
  | zero =>
    intro i u z H locs ls hf hi6 S
    obtain ⟨hP, hD, hS, hl, CI, MI, G⟩ := id S
    refine lv_iload_n hx hb dL_law_18 rfl (lv_at hl 3 rfl) ?_
    refine lv_aload_n hx hb dL_law_19 rfl (lv_at hl 0 rfl) ?_
    refine va_slen hx hb hX hbl (Nat.not_le.mpr hbl) hS dL_law_20 ?_
    refine lv_bipush (v := 6) hx hb dL_law_21 rfl ?_
    refine lv_isub hx hb dL_law_23 ?_
    refine lv_icmp_gt (tgt := 1034) hx hb dL_law_24 (by decide) (fun _ => ?_) (fun h => absurd (l_end hL hi6 (by omega)) h)
    refine lv_iconst (v := 1) hx hb dL_law_1034 (by decide) ?_
    refine va_forget (fun q hq => hS.2.2 q hq) ?_
    exact lw_ret hx hb hr hlocks dL_law_1035
  | succ f ih =>
    intro i u z H locs ls hf hi6 S
    obtain ⟨hP, hD, hS, hl, CI, MI, G⟩ := id S
    refine lv_iload_n hx hb dL_law_18 rfl (lv_at hl 3 rfl) ?_
    refine lv_aload_n hx hb dL_law_19 rfl (lv_at hl 0 rfl) ?_
    refine va_slen hx hb hX hbl (Nat.not_le.mpr hbl) hS dL_law_20 ?_
    refine lv_bipush (v := 6) hx hb dL_law_21 rfl ?_
    refine lv_isub hx hb dL_law_23 ?_
    by_cases hi : i + 6 ≤ L
    · refine lv_icmp_gt (tgt := 1034) hx hb dL_law_24 (by decide) (fun h => absurd h (l_go hL hi)) (fun _ => ?_)
      refine lv_aload_n hx hb dL_law_27 rfl (lv_at hl 0 rfl) ?_
      refine lv_iload_n hx hb dL_law_28 rfl (lv_at hl 3 rfl) ?_
      refine va_sld hx hb hX hbl (Nat.not_le.mpr hbl) hS (vp_in_nI (by omega) (by omega)) dL_law_29 ?_
      refine lv_bipush (v := 63) hx hb dL_law_30 rfl ?_
      refine lv_iand hx hb dL_law_32 ?_
      have kk : ∀ (u2 : Sg) (z2 : Zs) (H2 : Heap) (locs2 : List Loc), LSt dC dI dA ad s b i u2 z2 H2 locs2 ls → W p l e room_1 s m #[Value.ref b] below meth c H2 locs2 63 2138 (lw_Z below #[Value.ref b] s) (F0 m 1028 ls []) := by
        intro u2 z2 H2 locs2 S2
        obtain ⟨hP, hD, hS, hl, CI, MI, G⟩ := S2
        refine lv_iinc (v := nI (i + 6)) (lv' := [(3, .int (nI (i + 6))), (0, .ref b), (1, .ref (ad 0)), (2, .ref (ad 41))]) hx hb dL_law_1028 hl (k := 3) rfl (nI_add i 6) (by decide) rfl (fun ls hl => ?_)
        refine lv_goto (tgt := 18) hx hb dL_law_1031 (by decide) ?_
        exact ih (i + 6) u2 z2 H2 locs2 ls (by omega) (by omega) ⟨hP, hD, hS, lv_sub hl [1, 2, 3, 0] rfl, CI, MI, G⟩
      refine l_sw hx hb (kk u z H locs S) (fun j hj => ?_)
      rcases (show j = 0 ∨ j = 1 ∨ j = 2 ∨ j = 3 ∨ j = 4 ∨ j = 5 ∨ j = 6 ∨ j = 7 ∨ j = 8 ∨ j = 9 ∨ j = 10 ∨ j = 11 ∨ j = 12 ∨ j = 13 ∨ j = 14 ∨ j = 15 ∨ j = 16 ∨ j = 17 ∨ j = 18 ∨ j = 19 ∨ j = 20 ∨ j = 21 ∨ j = 22 ∨ j = 23 ∨ j = 24 ∨ j = 25 ∨ j = 26 ∨ j = 27 ∨ j = 28 ∨ j = 29 ∨ j = 30 ∨ j = 31 ∨ j = 32 ∨ j = 33 by omega) with rfl | rfl | rfl | rfl | rfl | rfl | rfl | rfl | rfl | rfl | rfl | rfl | rfl | rfl | rfl | rfl | rfl | rfl | rfl | rfl | rfl | rfl | rfl | rfl | rfl | rfl | rfl | rfl | rfl | rfl | rfl | rfl | rfl | rfl
      · exact lc_0 C S hi kk
      · exact lc_1 C S hi kk
      · exact lc_2 C S hi kk
      · exact lc_3 C S hi kk
      · exact lc_4 C S hi kk
      · exact lc_5 C S hi kk
      · exact lc_6 C S hi kk
      · exact lc_7 C S hi kk
      · exact lc_8 C S hi kk
      · exact lc_9 C S hi kk
      · exact lc_10 C S hi kk
      · exact lc_11 C S hi kk
      · exact lc_12 C S hi kk
      · exact lc_13 C S hi kk
      · exact lc_14 C S hi kk
      · exact lc_15 C S hi kk
      · exact lc_16 C S hi kk
      · exact lc_17 C S hi kk
      · exact lc_18 C S hi kk
      · exact lc_19 C S hi kk
      · exact lc_20 C S hi kk
      · exact lc_21 C S hi kk
      · exact lc_22 C S hi kk
      · exact lc_23 C S hi kk
      · exact lc_24 C S hi kk
      · exact lc_25 C S hi kk
      · exact lc_26 C S hi kk
      · exact lc_27 C S hi kk
      · exact lc_28 C S hi kk
      · exact lc_29 C S hi kk
      · exact lc_30 C S hi kk
      · exact lc_31 C S hi kk
      · exact lc_32 C S hi kk
      · exact lc_33 C S hi kk
    · refine lv_icmp_gt (tgt := 1034) hx hb dL_law_24 (by decide) (fun _ => ?_) (fun h => absurd (l_end hL hi6 (by omega)) h)
      refine lv_iconst (v := 1) hx hb dL_law_1034 (by decide) ?_
      refine va_forget (fun q hq => hS.2.2 q hq) ?_
      exact lw_ret hx hb hr hlocks dL_law_1035
end LAW2
