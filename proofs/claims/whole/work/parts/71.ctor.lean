/-! ===== the constructors: the world as it begins ===== -/
theorem nw_oi : Cond.instanceMethod objectInit ∈ gtb := gtb_of (List.mem_append_right _ (List.mem_of_getElem? (i := 19) (by decide +kernel))) (by decide +kernel)
theorem nw_oc : Cond.code objectInit ⟨#[0xb1]⟩ 1 none ∈ gtb := gtb_of (List.mem_append_right _ (List.mem_of_getElem? (i := 20) (by decide +kernel))) (by decide +kernel)
theorem nw_arI : Cond.arrayClass .int ∈ gtb := gtb_of (List.mem_append_right _ (List.mem_of_getElem? (i := 76) (by decide +kernel))) (by decide +kernel)
theorem nw_arB : Cond.arrayClass .byte ∈ gtb := gtb_of (List.mem_append_right _ (List.mem_of_getElem? (i := 103) (by decide +kernel))) (by decide +kernel)
theorem nw_olX0 : Cond.methodLink "BorrowedVoice$House" 3 objectInit ∈ gtb := gtb_of (List.mem_append_right _ (List.mem_of_getElem? (i := 26) (by decide +kernel))) (by decide +kernel)
theorem nw_iX0 : Cond.initialized "BorrowedVoice$House" ∈ gtb := gtb_of (List.mem_append_right _ (List.mem_of_getElem? (i := 2) (by decide +kernel))) (by decide +kernel)
theorem nw_tX0 : Cond.instantiable "BorrowedVoice$House" 12 ∈ gtb := gtb_of (List.mem_append_right _ (List.mem_of_getElem? (i := 22) (by decide +kernel))) (by decide +kernel)
theorem nw_cX0 : Cond.code yX0_init cX0_init 1 none ∈ gtb := gtb_of (List.mem_append_right _ (List.mem_of_getElem? (i := 25) (by decide +kernel))) (by decide +kernel)
theorem nw_mX0 : Cond.instanceMethod yX0_init ∈ gtb := gtb_of (List.mem_append_right _ (List.mem_of_getElem? (i := 24) (by decide +kernel))) (by decide +kernel)
theorem nw_fX0_9 : Cond.fieldLink "BorrowedVoice$House" 9 "BorrowedVoice$House" "people" "I" ∈ gtb := gtb_of (List.mem_append_right _ (List.mem_of_getElem? (i := 27) (by decide +kernel))) (by decide +kernel)
theorem nw_fX0_15 : Cond.fieldLink "BorrowedVoice$House" 15 "BorrowedVoice$House" "evening" "I" ∈ gtb := gtb_of (List.mem_append_right _ (List.mem_of_getElem? (i := 30) (by decide +kernel))) (by decide +kernel)
theorem nw_fX0_18 : Cond.fieldLink "BorrowedVoice$House" 18 "BorrowedVoice$House" "notes" "I" ∈ gtb := gtb_of (List.mem_append_right _ (List.mem_of_getElem? (i := 32) (by decide +kernel))) (by decide +kernel)
theorem nw_fX0_21 : Cond.fieldLink "BorrowedVoice$House" 21 "BorrowedVoice$House" "undos" "I" ∈ gtb := gtb_of (List.mem_append_right _ (List.mem_of_getElem? (i := 34) (by decide +kernel))) (by decide +kernel)
theorem nw_fX0_24 : Cond.fieldLink "BorrowedVoice$House" 24 "BorrowedVoice$House" "kind" "[I" ∈ gtb := gtb_of (List.mem_append_right _ (List.mem_of_getElem? (i := 36) (by decide +kernel))) (by decide +kernel)
theorem nw_fX0_28 : Cond.fieldLink "BorrowedVoice$House" 28 "BorrowedVoice$House" "sort" "[I" ∈ gtb := gtb_of (List.mem_append_right _ (List.mem_of_getElem? (i := 38) (by decide +kernel))) (by decide +kernel)
theorem nw_fX0_31 : Cond.fieldLink "BorrowedVoice$House" 31 "BorrowedVoice$House" "wants" "[I" ∈ gtb := gtb_of (List.mem_append_right _ (List.mem_of_getElem? (i := 40) (by decide +kernel))) (by decide +kernel)
theorem nw_fX0_34 : Cond.fieldLink "BorrowedVoice$House" 34 "BorrowedVoice$House" "holder" "[I" ∈ gtb := gtb_of (List.mem_append_right _ (List.mem_of_getElem? (i := 42) (by decide +kernel))) (by decide +kernel)
theorem nw_fX0_37 : Cond.fieldLink "BorrowedVoice$House" 37 "BorrowedVoice$House" "used" "[I" ∈ gtb := gtb_of (List.mem_append_right _ (List.mem_of_getElem? (i := 45) (by decide +kernel))) (by decide +kernel)
theorem nw_fX0_40 : Cond.fieldLink "BorrowedVoice$House" 40 "BorrowedVoice$House" "slipped" "[I" ∈ gtb := gtb_of (List.mem_append_right _ (List.mem_of_getElem? (i := 47) (by decide +kernel))) (by decide +kernel)
theorem nw_fX0_43 : Cond.fieldLink "BorrowedVoice$House" 43 "BorrowedVoice$House" "noteRows" "[I" ∈ gtb := gtb_of (List.mem_append_right _ (List.mem_of_getElem? (i := 49) (by decide +kernel))) (by decide +kernel)
theorem nw_fX0_46 : Cond.fieldLink "BorrowedVoice$House" 46 "BorrowedVoice$House" "past" "[I" ∈ gtb := gtb_of (List.mem_append_right _ (List.mem_of_getElem? (i := 50) (by decide +kernel))) (by decide +kernel)
theorem nw_olX2 : Cond.methodLink "BorrowedVoice$Reader" 3 objectInit ∈ gtb := gtb_of (List.mem_append_right _ (List.mem_of_getElem? (i := 82) (by decide +kernel))) (by decide +kernel)
theorem nw_iX2 : Cond.initialized "BorrowedVoice$Reader" ∈ gtb := gtb_of (List.mem_append_right _ (List.mem_of_getElem? (i := 3) (by decide +kernel))) (by decide +kernel)
theorem nw_tX2 : Cond.instantiable "BorrowedVoice$Reader" 6 ∈ gtb := gtb_of (List.mem_append_right _ (List.mem_of_getElem? (i := 78) (by decide +kernel))) (by decide +kernel)
theorem nw_cX2 : Cond.code yX2_init cX2_init 1 none ∈ gtb := gtb_of (List.mem_append_right _ (List.mem_of_getElem? (i := 81) (by decide +kernel))) (by decide +kernel)
theorem nw_mX2 : Cond.instanceMethod yX2_init ∈ gtb := gtb_of (List.mem_append_right _ (List.mem_of_getElem? (i := 80) (by decide +kernel))) (by decide +kernel)
theorem nw_fX2_9 : Cond.fieldLink "BorrowedVoice$Reader" 9 "BorrowedVoice$Reader" "bytes" "[B" ∈ gtb := gtb_of (List.mem_append_right _ (List.mem_of_getElem? (i := 83) (by decide +kernel))) (by decide +kernel)
theorem nw_fX2_15 : Cond.fieldLink "BorrowedVoice$Reader" 15 "BorrowedVoice$Reader" "length" "I" ∈ gtb := gtb_of (List.mem_append_right _ (List.mem_of_getElem? (i := 84) (by decide +kernel))) (by decide +kernel)
theorem nw_fX2_19 : Cond.fieldLink "BorrowedVoice$Reader" 19 "BorrowedVoice$Reader" "token" "I" ∈ gtb := gtb_of (List.mem_append_right _ (List.mem_of_getElem? (i := 86) (by decide +kernel))) (by decide +kernel)
theorem nw_fX2_22 : Cond.fieldLink "BorrowedVoice$Reader" 22 "BorrowedVoice$Reader" "begin" "I" ∈ gtb := gtb_of (List.mem_append_right _ (List.mem_of_getElem? (i := 87) (by decide +kernel))) (by decide +kernel)
theorem nw_fX2_25 : Cond.fieldLink "BorrowedVoice$Reader" 25 "BorrowedVoice$Reader" "behind" "I" ∈ gtb := gtb_of (List.mem_append_right _ (List.mem_of_getElem? (i := 88) (by decide +kernel))) (by decide +kernel)
theorem nw_fX2_28 : Cond.fieldLink "BorrowedVoice$Reader" 28 "BorrowedVoice$Reader" "value" "I" ∈ gtb := gtb_of (List.mem_append_right _ (List.mem_of_getElem? (i := 89) (by decide +kernel))) (by decide +kernel)
theorem nw_olX3 : Cond.methodLink "BorrowedVoice" 1 objectInit ∈ gtb := gtb_of (List.mem_append_right _ (List.mem_of_getElem? (i := 18) (by decide +kernel))) (by decide +kernel)
theorem nw_iX3 : Cond.initialized "BorrowedVoice" ∈ gtb := gtb_of (List.mem_append_right _ (List.mem_of_getElem? (i := 1) (by decide +kernel))) (by decide +kernel)
theorem nw_tX3 : Cond.instantiable "BorrowedVoice" 14 ∈ gtb := gtb_of (List.mem_append_right _ (List.mem_of_getElem? (i := 14) (by decide +kernel))) (by decide +kernel)
theorem nw_cX3 : Cond.code yX3_init cX3_init 1 none ∈ gtb := gtb_of (List.mem_append_right _ (List.mem_of_getElem? (i := 17) (by decide +kernel))) (by decide +kernel)
theorem nw_mX3 : Cond.instanceMethod yX3_init ∈ gtb := gtb_of (List.mem_append_right _ (List.mem_of_getElem? (i := 16) (by decide +kernel))) (by decide +kernel)
theorem nw_fX3_10 : Cond.fieldLink "BorrowedVoice" 10 "BorrowedVoice" "house" "LBorrowedVoice$House;" ∈ gtb := gtb_of (List.mem_append_right _ (List.mem_of_getElem? (i := 104) (by decide +kernel))) (by decide +kernel)
theorem nw_fX3_16 : Cond.fieldLink "BorrowedVoice" 16 "BorrowedVoice" "trial" "LBorrowedVoice$House;" ∈ gtb := gtb_of (List.mem_append_right _ (List.mem_of_getElem? (i := 105) (by decide +kernel))) (by decide +kernel)
theorem nw_fX3_19 : Cond.fieldLink "BorrowedVoice" 19 "BorrowedVoice" "firstImage" "LBorrowedVoice$House;" ∈ gtb := gtb_of (List.mem_append_right _ (List.mem_of_getElem? (i := 106) (by decide +kernel))) (by decide +kernel)
theorem nw_fX3_22 : Cond.fieldLink "BorrowedVoice" 22 "BorrowedVoice" "secondImage" "LBorrowedVoice$House;" ∈ gtb := gtb_of (List.mem_append_right _ (List.mem_of_getElem? (i := 107) (by decide +kernel))) (by decide +kernel)
theorem nw_fX3_25 : Cond.fieldLink "BorrowedVoice" 25 "BorrowedVoice" "firstKept" "Z" ∈ gtb := gtb_of (List.mem_append_right _ (List.mem_of_getElem? (i := 108) (by decide +kernel))) (by decide +kernel)
theorem nw_fX3_29 : Cond.fieldLink "BorrowedVoice" 29 "BorrowedVoice" "secondKept" "Z" ∈ gtb := gtb_of (List.mem_append_right _ (List.mem_of_getElem? (i := 109) (by decide +kernel))) (by decide +kernel)
theorem nw_fX3_35 : Cond.fieldLink "BorrowedVoice" 35 "BorrowedVoice" "reader" "LBorrowedVoice$Reader;" ∈ gtb := gtb_of (List.mem_append_right _ (List.mem_of_getElem? (i := 110) (by decide +kernel))) (by decide +kernel)
theorem nw_fX3_39 : Cond.fieldLink "BorrowedVoice" 39 "BorrowedVoice" "bestRest" "[I" ∈ gtb := gtb_of (List.mem_append_right _ (List.mem_of_getElem? (i := 111) (by decide +kernel))) (by decide +kernel)
theorem nw_fX3_43 : Cond.fieldLink "BorrowedVoice" 43 "BorrowedVoice" "bestNext" "[I" ∈ gtb := gtb_of (List.mem_append_right _ (List.mem_of_getElem? (i := 112) (by decide +kernel))) (by decide +kernel)
theorem nw_fX3_46 : Cond.fieldLink "BorrowedVoice" 46 "BorrowedVoice" "above" "J" ∈ gtb := gtb_of (List.mem_append_right _ (List.mem_of_getElem? (i := 113) (by decide +kernel))) (by decide +kernel)
theorem nw_fX3_50 : Cond.fieldLink "BorrowedVoice" 50 "BorrowedVoice" "below" "J" ∈ gtb := gtb_of (List.mem_append_right _ (List.mem_of_getElem? (i := 114) (by decide +kernel))) (by decide +kernel)
theorem nw_fX3_53 : Cond.fieldLink "BorrowedVoice" 53 "BorrowedVoice" "bads" "I" ∈ gtb := gtb_of (List.mem_append_right _ (List.mem_of_getElem? (i := 115) (by decide +kernel))) (by decide +kernel)
theorem nw_fX3_57 : Cond.fieldLink "BorrowedVoice" 57 "BorrowedVoice" "nos" "I" ∈ gtb := gtb_of (List.mem_append_right _ (List.mem_of_getElem? (i := 116) (by decide +kernel))) (by decide +kernel)
theorem nw_fX3_60 : Cond.fieldLink "BorrowedVoice" 60 "BorrowedVoice" "fulls" "I" ∈ gtb := gtb_of (List.mem_append_right _ (List.mem_of_getElem? (i := 117) (by decide +kernel))) (by decide +kernel)
theorem nw_olX4 : Cond.methodLink "BorrowedVoiceModel" 7 objectInit ∈ gtb := gtb_of (List.mem_append_right _ (List.mem_of_getElem? (i := 614) (by decide +kernel))) (by decide +kernel)
theorem nw_iX4 : Cond.initialized "BorrowedVoiceModel" ∈ gtb := gtb_of (List.mem_append_right _ (List.mem_of_getElem? (i := 4) (by decide +kernel))) (by decide +kernel)
theorem nw_tX4 : Cond.instantiable "BorrowedVoiceModel" 32 ∈ gtb := gtb_of (List.mem_append_right _ (List.mem_of_getElem? (i := 610) (by decide +kernel))) (by decide +kernel)
theorem nw_cX4 : Cond.code yX4_init cX4_init 1 none ∈ gtb := gtb_of (List.mem_append_right _ (List.mem_of_getElem? (i := 613) (by decide +kernel))) (by decide +kernel)
theorem nw_mX4 : Cond.instanceMethod yX4_init ∈ gtb := gtb_of (List.mem_append_right _ (List.mem_of_getElem? (i := 612) (by decide +kernel))) (by decide +kernel)
theorem nw_fX4_1 : Cond.fieldLink "BorrowedVoiceModel" 1 "BorrowedVoiceModel" "refused" "[I" ∈ gtb := gtb_of (List.mem_append_right _ (List.mem_of_getElem? (i := 619) (by decide +kernel))) (by decide +kernel)
theorem nw_fX4_13 : Cond.fieldLink "BorrowedVoiceModel" 13 "BorrowedVoiceModel" "kinds" "[I" ∈ gtb := gtb_of (List.mem_append_right _ (List.mem_of_getElem? (i := 623) (by decide +kernel))) (by decide +kernel)
theorem nw_fX4_16 : Cond.fieldLink "BorrowedVoiceModel" 16 "BorrowedVoiceModel" "sorts" "[I" ∈ gtb := gtb_of (List.mem_append_right _ (List.mem_of_getElem? (i := 624) (by decide +kernel))) (by decide +kernel)
theorem nw_fX4_19 : Cond.fieldLink "BorrowedVoiceModel" 19 "BorrowedVoiceModel" "wants" "[I" ∈ gtb := gtb_of (List.mem_append_right _ (List.mem_of_getElem? (i := 625) (by decide +kernel))) (by decide +kernel)
theorem nw_fX4_22 : Cond.fieldLink "BorrowedVoiceModel" 22 "BorrowedVoiceModel" "withs" "[I" ∈ gtb := gtb_of (List.mem_append_right _ (List.mem_of_getElem? (i := 626) (by decide +kernel))) (by decide +kernel)
theorem nw_fX4_25 : Cond.fieldLink "BorrowedVoiceModel" 25 "BorrowedVoiceModel" "used" "[I" ∈ gtb := gtb_of (List.mem_append_right _ (List.mem_of_getElem? (i := 627) (by decide +kernel))) (by decide +kernel)
theorem nw_fX4_28 : Cond.fieldLink "BorrowedVoiceModel" 28 "BorrowedVoiceModel" "slipped" "[I" ∈ gtb := gtb_of (List.mem_append_right _ (List.mem_of_getElem? (i := 628) (by decide +kernel))) (by decide +kernel)
theorem nw_fX4_31 : Cond.fieldLink "BorrowedVoiceModel" 31 "BorrowedVoiceModel" "noteVoice" "[I" ∈ gtb := gtb_of (List.mem_append_right _ (List.mem_of_getElem? (i := 629) (by decide +kernel))) (by decide +kernel)
theorem nw_fX4_34 : Cond.fieldLink "BorrowedVoiceModel" 34 "BorrowedVoiceModel" "noteUsed" "[I" ∈ gtb := gtb_of (List.mem_append_right _ (List.mem_of_getElem? (i := 630) (by decide +kernel))) (by decide +kernel)
theorem nw_fX4_37 : Cond.fieldLink "BorrowedVoiceModel" 37 "BorrowedVoiceModel" "noteDay" "[I" ∈ gtb := gtb_of (List.mem_append_right _ (List.mem_of_getElem? (i := 631) (by decide +kernel))) (by decide +kernel)
theorem nw_fX4_40 : Cond.fieldLink "BorrowedVoiceModel" 40 "BorrowedVoiceModel" "noteSort" "[I" ∈ gtb := gtb_of (List.mem_append_right _ (List.mem_of_getElem? (i := 632) (by decide +kernel))) (by decide +kernel)
theorem nw_fX4_43 : Cond.fieldLink "BorrowedVoiceModel" 43 "BorrowedVoiceModel" "noteWords" "[I" ∈ gtb := gtb_of (List.mem_append_right _ (List.mem_of_getElem? (i := 633) (by decide +kernel))) (by decide +kernel)
theorem nw_fX4_46 : Cond.fieldLink "BorrowedVoiceModel" 46 "BorrowedVoiceModel" "text" "[I" ∈ gtb := gtb_of (List.mem_append_right _ (List.mem_of_getElem? (i := 634) (by decide +kernel))) (by decide +kernel)
theorem nw_fX4_49 : Cond.fieldLink "BorrowedVoiceModel" 49 "BorrowedVoiceModel" "readOnes" "[I" ∈ gtb := gtb_of (List.mem_append_right _ (List.mem_of_getElem? (i := 638) (by decide +kernel))) (by decide +kernel)
theorem nw_fX4_52 : Cond.fieldLink "BorrowedVoiceModel" 52 "BorrowedVoiceModel" "readWiths" "[I" ∈ gtb := gtb_of (List.mem_append_right _ (List.mem_of_getElem? (i := 639) (by decide +kernel))) (by decide +kernel)
theorem nw_fX4_55 : Cond.fieldLink "BorrowedVoiceModel" 55 "BorrowedVoiceModel" "ahead" "[I" ∈ gtb := gtb_of (List.mem_append_right _ (List.mem_of_getElem? (i := 641) (by decide +kernel))) (by decide +kernel)
theorem nw_fX4_58 : Cond.fieldLink "BorrowedVoiceModel" 58 "BorrowedVoiceModel" "aside" "[I" ∈ gtb := gtb_of (List.mem_append_right _ (List.mem_of_getElem? (i := 643) (by decide +kernel))) (by decide +kernel)
theorem nw_fX4_61 : Cond.fieldLink "BorrowedVoiceModel" 61 "BorrowedVoiceModel" "line" "[I" ∈ gtb := gtb_of (List.mem_append_right _ (List.mem_of_getElem? (i := 644) (by decide +kernel))) (by decide +kernel)
theorem nw_fX4_64 : Cond.fieldLink "BorrowedVoiceModel" 64 "BorrowedVoiceModel" "bestLine" "[I" ∈ gtb := gtb_of (List.mem_append_right _ (List.mem_of_getElem? (i := 645) (by decide +kernel))) (by decide +kernel)
theorem nw_fX4_67 : Cond.fieldLink "BorrowedVoiceModel" 67 "BorrowedVoiceModel" "below" "J" ∈ gtb := gtb_of (List.mem_append_right _ (List.mem_of_getElem? (i := 647) (by decide +kernel))) (by decide +kernel)
theorem nw_fX4_71 : Cond.fieldLink "BorrowedVoiceModel" 71 "BorrowedVoiceModel" "images" "[I" ∈ gtb := gtb_of (List.mem_append_right _ (List.mem_of_getElem? (i := 648) (by decide +kernel))) (by decide +kernel)
theorem nw_fX4_74 : Cond.fieldLink "BorrowedVoiceModel" 74 "BorrowedVoiceModel" "isKept" "[I" ∈ gtb := gtb_of (List.mem_append_right _ (List.mem_of_getElem? (i := 649) (by decide +kernel))) (by decide +kernel)
theorem nw_kH : Cond.classLink "BorrowedVoice" 7 "BorrowedVoice$House" ∈ gtb := gtb_of (List.mem_append_right _ (List.mem_of_getElem? (i := 21) (by decide +kernel))) (by decide +kernel)
theorem nw_kR : Cond.classLink "BorrowedVoice" 32 "BorrowedVoice$Reader" ∈ gtb := gtb_of (List.mem_append_right _ (List.mem_of_getElem? (i := 77) (by decide +kernel))) (by decide +kernel)
def mdN_X0 : MD := (yX0_init, cX0_init, 1, none, 1, 12)
theorem mkN_X0 : MDok mdN_X0 0 := ⟨by decide +kernel, nw_cX0, nw_iX0, by decide +kernel, by decide +kernel, by decide +kernel⟩
def mdN_X2 : MD := (yX2_init, cX2_init, 1, none, 1, 12)
theorem mkN_X2 : MDok mdN_X2 0 := ⟨by decide +kernel, nw_cX2, nw_iX2, by decide +kernel, by decide +kernel, by decide +kernel⟩
def mdN_X3 : MD := (yX3_init, cX3_init, 1, none, 2, 32)
theorem mkN_X3 : MDok mdN_X3 0 := ⟨by decide +kernel, nw_cX3, nw_iX3, by decide +kernel, by decide +kernel, by decide +kernel⟩
def mdN_X4 : MD := (yX4_init, cX4_init, 1, none, 1, 20)
theorem mkN_X4 : MDok mdN_X4 0 := ⟨by decide +kernel, nw_cX4, nw_iX4, by decide +kernel, by decide +kernel, by decide +kernel⟩
/-- the heap of a new class and a new reference: all is 0, but the fraction is 0/1 -/
def u00 : Sg := (fun _ _ => 0, fun k j => cond ((Nat.beq k 0 && Nat.beq j 10) || (Nat.beq k 41 && Nat.beq j 28)) 1 0, fun _ _ => 0)
section CTOR
variable {p : Program} {l : Launch} {e : Env} {R : Room} {s : State} {m : MethodId} {args : Array Value} {below : List Frame} {meth : Method} {c : Code} {H : Heap} {locs : List Loc} {cells slots : Nat} {Q : State → Prop}
variable {dC : Nat → ClassId} {dI : Nat → Nat → Nat} {dA : Nat → ClassId} {A : Nat → Prop} {H0 : Heap} {cc : ByteArray} {pc : Nat} {ls : Array Slot} {rest : List Value} {ws : va_W}
theorem newI (hx : p.tables.exec = Jvm.exec) (hb : c.code = cc) (harr : (Cond.arrayClass .int).before args s = true) (hK : va_K (dC, dI) vwCl (tyA dA) s) (hP : va_P (dC, dI) vwCl ws H) (hD : va_D A ws) (hS : va_S A H0 H locs) (hA : ∀ q, H0.size ≤ q → A q) {n : Int32} {N' : Nat} (hn : ¬ n < 0) (hN : n.toNatClampNeg = N') (hy : N' * componentBytes .int ≤ 536870912) (hc : cells + 1 ≤ R.cells) (hs : slots + N' ≤ R.slots) (hdg : decode cc pc = .ok (.newarray .int, 2))
    (kk : ∀ (q : Nat) (H1 : Heap), va_P (dC, dI) vwCl (ws ++ [(q, .inl (dA 0, N', .inl (fun _ => 0)))]) H1 → va_D A (ws ++ [(q, .inl (dA 0, N', .inl (fun _ => 0)))]) → va_S A H0 H1 locs → W p l e R s m args below meth c H1 locs (cells + 1) (slots + N') Q (F0 m (pc + 2) ls (.ref q :: rest))) : W p l e R s m args below meth c H locs cells slots Q (F0 m pc ls (.int n :: rest)) := by
  refine va_newa (atype := .int) (ty := .int) (a0 := (N', .inl (fun _ => 0))) hx hb harr rfl hK hP hD hS hA (fun cA => rfl) hn hN hy hc hs hdg (fun q cA H1 hK1 hP1 hD1 hS1 => ?_)
  have h1 : s.vm.findClass _ = some (dA 0) := (hK1.2 0 (dA 0, .int) rfl).2
  have h2 : s.vm.findClass _ = some cA := (hK1.2 2 (cA, .int) rfl).2
  have e1 : cA = dA 0 := Option.some.inj (h2.symm.trans h1)
  subst e1
  exact kk q H1 hP1 hD1 hS1
theorem newB (hx : p.tables.exec = Jvm.exec) (hb : c.code = cc) (harr : (Cond.arrayClass .byte).before args s = true) (hK : va_K (dC, dI) vwCl (tyA dA) s) (hP : va_P (dC, dI) vwCl ws H) (hD : va_D A ws) (hS : va_S A H0 H locs) (hA : ∀ q, H0.size ≤ q → A q) {n : Int32} {N' : Nat} (hn : ¬ n < 0) (hN : n.toNatClampNeg = N') (hy : N' * componentBytes .byte ≤ 536870912) (hc : cells + 1 ≤ R.cells) (hs : slots + N' ≤ R.slots) (hdg : decode cc pc = .ok (.newarray .byte, 2))
    (kk : ∀ (q : Nat) (H1 : Heap), va_P (dC, dI) vwCl (ws ++ [(q, .inl (dA 1, N', .inl (fun _ => 0)))]) H1 → va_D A (ws ++ [(q, .inl (dA 1, N', .inl (fun _ => 0)))]) → va_S A H0 H1 locs → W p l e R s m args below meth c H1 locs (cells + 1) (slots + N') Q (F0 m (pc + 2) ls (.ref q :: rest))) : W p l e R s m args below meth c H locs cells slots Q (F0 m pc ls (.int n :: rest)) := by
  refine va_newa (atype := .byte) (ty := .byte) (a0 := (N', .inl (fun _ => 0))) hx hb harr rfl hK hP hD hS hA (fun cA => rfl) hn hN hy hc hs hdg (fun q cA H1 hK1 hP1 hD1 hS1 => ?_)
  have h1 : s.vm.findClass _ = some (dA 1) := (hK1.2 1 (dA 1, .byte) rfl).2
  have h2 : s.vm.findClass _ = some cA := (hK1.2 2 (cA, .byte) rfl).2
  have e1 : cA = dA 1 := Option.some.inj (h2.symm.trans h1)
  subst e1
  exact kk q H1 hP1 hD1 hS1
/-- what came back beside the rest: the callee's world was the last cell -/
theorem join1 {D : va_G} {cl : List vw_C} {wr w1 : va_W} {x : Nat × va_E} {H1 : Heap} (hP : va_P D cl (wr ++ [x]) H) (hD : va_D A (wr ++ [x])) (hk : ∀ q : Nat, q < H.size → ¬ va_A [x] H.size q → H1[q]? = H[q]?) (hF : ∀ q, va_A [x] H.size q → A q) (hP1 : va_P D cl w1 H1) (hD1 : va_D (va_A [x] H.size) w1) : va_P D cl (wr ++ w1) H1 ∧ va_D A (wr ++ w1) := by
  have hx : (wr ++ [x])[wr.length]? = some x := by rw [List.getElem?_append_right (Nat.le_refl _), Nat.sub_self]; rfl
  have hl : ∀ (k : Nat) (q : Nat × va_E), wr[k]? = some q → (wr ++ [x])[k]? = some q := fun k q h => by rw [List.getElem?_append_left (List.getElem?_eq_some_iff.mp h).1]; exact h
  have apart : ∀ (k : Nat) (q : Nat × va_E), wr[k]? = some q → q.1 < H.size ∧ ¬ va_A [x] H.size q.1 := by
    intro k q h
    have hlt := (hP k q (hl k q h)).lt
    refine ⟨hlt, fun h2 => ?_⟩
    rcases h2 with ⟨i, y, h2⟩ | h2
    · have hi : i < 1 := (List.getElem?_eq_some_iff.mp h2).1
      have hi : i = 0 := by omega
      subst hi
      have hxq : x = (q.1, y) := Option.some.inj h2
      have := hD.1 k wr.length q x (hl k q h) hx (by rw [hxq])
      have hk2 := (List.getElem?_eq_some_iff.mp h).1
      omega
    · omega
  refine ⟨va_P.app (fun k q hq => ?_) hP1, va_D.app ⟨fun i j a b ha hb2 hab => hD.1 i j a b (hl i a ha) (hl j b hb2) hab, fun k q hq => hD.2 k q (hl k q hq)⟩ (hD1.weaken (fun k q _ h => hF q.1 h)) (fun i j a b ha hb2 hab => ?_)⟩
  · obtain ⟨g1, g2⟩ := apart k q hq
    exact (hP k q (hl k q hq)).kept (hk q.1 g1 g2)
  · exact (apart i a ha).2 (by rw [hab]; exact hD1.2 j b hb2)
/-- the last cell alone -/
theorem lastP {D : va_G} {cl : List vw_C} {wr : va_W} {x : Nat × va_E} (hP : va_P D cl (wr ++ [x]) H) (hD : va_D A (wr ++ [x])) : va_P D cl [x] H ∧ va_D A [x] := by
  have hx : (wr ++ [x])[wr.length]? = some x := by rw [List.getElem?_append_right (Nat.le_refl _), Nat.sub_self]; rfl
  refine ⟨fun k q hq => ?_, fun i j a b ha hb hab => ?_, fun k q hq => ?_⟩
  · have hi : k < 1 := (List.getElem?_eq_some_iff.mp hq).1
    have hi : k = 0 := by omega
    subst hi
    cases hq
    exact hP _ _ hx
  · have h1 : i < 1 := (List.getElem?_eq_some_iff.mp ha).1
    have h2 : j < 1 := (List.getElem?_eq_some_iff.mp hb).1
    omega
  · have hi : k < 1 := (List.getElem?_eq_some_iff.mp hq).1
    have hi : k = 0 := by omega
    subst hi
    cases hq
    exact hD.2 _ _ hx
theorem freeL {wr : va_W} {x : Nat × va_E} (hD : va_D A (wr ++ [x])) (hS : va_S A H0 H locs) (hA : ∀ q, H0.size ≤ q → A q) : ∀ q, va_A [x] H.size q → A q := by
  have hx : (wr ++ [x])[wr.length]? = some x := by rw [List.getElem?_append_right (Nat.le_refl _), Nat.sub_self]; rfl
  intro q h
  rcases h with ⟨i, y, h2⟩ | h2
  · have hi : i < 1 := (List.getElem?_eq_some_iff.mp h2).1
    have hi : i = 0 := by omega
    subst hi
    have hxq : x = (q, y) := Option.some.inj h2
    have := hD.2 _ _ hx
    rw [hxq] at this
    exact this
  · exact hA q (Nat.le_trans hS.1 h2)
end CTOR
abbrev fsX0 : List Value := [.int 0, .int 0, .int 0, .int 0, .null, .null, .null, .null, .null, .null, .null, .null]
abbrev fsX2 : List Value := [.null, .int 0, .int 0, .int 0, .int 0, .int 0]
abbrev fsX3 : List Value := [.null, .null, .null, .null, .int 0, .int 0, .null, .null, .null, .long 0, .long 0, .int 0, .int 0, .int 0]
abbrev fsX4 : List Value := [.null, .int 0, .int 0, .int 0, .null, .null, .null, .null, .null, .null, .null, .null, .null, .null, .null, .null, .int 0, .int 0, .int 0, .null, .null, .int 0, .null, .int 0, .null, .null, .null, .long 0, .long 0, .null, .null, .long 0]
def hwo (dA : Nat → ClassId) (q : Nat → Nat) : va_W := [(q 0, .inr (0, [.int 0, .int 0, .int 0, .int 0, .ref (q 1), .ref (q 2), .ref (q 3), .ref (q 4), .ref (q 5), .ref (q 6), .ref (q 7), .ref (q 8)])), (q 1, .inl (dA 0, 6, .inl (fun _ => 0))), (q 2, .inl (dA 0, 6, .inl (fun _ => 0))), (q 3, .inl (dA 0, 6, .inl (fun _ => 0))), (q 4, .inl (dA 0, 6, .inl (fun _ => 0))), (q 5, .inl (dA 0, 6, .inl (fun _ => 0))), (q 6, .inl (dA 0, 6, .inl (fun _ => 0))), (q 7, .inl (dA 0, 30, .inl (fun _ => 0))), (q 8, .inl (dA 0, 152, .inl (fun _ => 0)))]
def rwo (dA : Nat → ClassId) (q : Nat → Nat) : va_W := [(q 0, .inr (1, [.ref (q 1), .int 0, .int 0, .int 0, .int 0, .int 0])), (q 1, .inl (dA 1, 150, .inl (fun _ => 0)))]
def bwo (dA : Nat → ClassId) (a : Nat → Nat) : va_W := [(a 0, .inr (2, [.ref (a 1), .ref (a 10), .ref (a 19), .ref (a 28), .int 0, .int 0, .ref (a 37), .ref (a 39), .ref (a 40), .long 0, .long 1, .int 0, .int 0, .int 0])), (a 1, .inr (0, [.int 0, .int 0, .int 0, .int 0, .ref (a 2), .ref (a 3), .ref (a 4), .ref (a 5), .ref (a 6), .ref (a 7), .ref (a 8), .ref (a 9)])), (a 2, .inl (dA 0, 6, .inl (fun _ => 0))), (a 3, .inl (dA 0, 6, .inl (fun _ => 0))), (a 4, .inl (dA 0, 6, .inl (fun _ => 0))), (a 5, .inl (dA 0, 6, .inl (fun _ => 0))), (a 6, .inl (dA 0, 6, .inl (fun _ => 0))), (a 7, .inl (dA 0, 6, .inl (fun _ => 0))), (a 8, .inl (dA 0, 30, .inl (fun _ => 0))), (a 9, .inl (dA 0, 152, .inl (fun _ => 0))), (a 10, .inr (0, [.int 0, .int 0, .int 0, .int 0, .ref (a 11), .ref (a 12), .ref (a 13), .ref (a 14), .ref (a 15), .ref (a 16), .ref (a 17), .ref (a 18)])), (a 11, .inl (dA 0, 6, .inl (fun _ => 0))), (a 12, .inl (dA 0, 6, .inl (fun _ => 0))), (a 13, .inl (dA 0, 6, .inl (fun _ => 0))), (a 14, .inl (dA 0, 6, .inl (fun _ => 0))), (a 15, .inl (dA 0, 6, .inl (fun _ => 0))), (a 16, .inl (dA 0, 6, .inl (fun _ => 0))), (a 17, .inl (dA 0, 30, .inl (fun _ => 0))), (a 18, .inl (dA 0, 152, .inl (fun _ => 0))), (a 19, .inr (0, [.int 0, .int 0, .int 0, .int 0, .ref (a 20), .ref (a 21), .ref (a 22), .ref (a 23), .ref (a 24), .ref (a 25), .ref (a 26), .ref (a 27)])), (a 20, .inl (dA 0, 6, .inl (fun _ => 0))), (a 21, .inl (dA 0, 6, .inl (fun _ => 0))), (a 22, .inl (dA 0, 6, .inl (fun _ => 0))), (a 23, .inl (dA 0, 6, .inl (fun _ => 0))), (a 24, .inl (dA 0, 6, .inl (fun _ => 0))), (a 25, .inl (dA 0, 6, .inl (fun _ => 0))), (a 26, .inl (dA 0, 30, .inl (fun _ => 0))), (a 27, .inl (dA 0, 152, .inl (fun _ => 0))), (a 28, .inr (0, [.int 0, .int 0, .int 0, .int 0, .ref (a 29), .ref (a 30), .ref (a 31), .ref (a 32), .ref (a 33), .ref (a 34), .ref (a 35), .ref (a 36)])), (a 29, .inl (dA 0, 6, .inl (fun _ => 0))), (a 30, .inl (dA 0, 6, .inl (fun _ => 0))), (a 31, .inl (dA 0, 6, .inl (fun _ => 0))), (a 32, .inl (dA 0, 6, .inl (fun _ => 0))), (a 33, .inl (dA 0, 6, .inl (fun _ => 0))), (a 34, .inl (dA 0, 6, .inl (fun _ => 0))), (a 35, .inl (dA 0, 30, .inl (fun _ => 0))), (a 36, .inl (dA 0, 152, .inl (fun _ => 0))), (a 37, .inr (1, [.ref (a 38), .int 0, .int 0, .int 0, .int 0, .int 0])), (a 38, .inl (dA 1, 150, .inl (fun _ => 0))), (a 39, .inl (dA 0, 64, .inl (fun _ => 0))), (a 40, .inl (dA 0, 64, .inl (fun _ => 0)))]
def mwo (dA : Nat → ClassId) (a : Nat → Nat) : va_W := [(a 41, .inr (3, [.ref (a 42), .int 0, .int 0, .int 0, .ref (a 43), .ref (a 44), .ref (a 45), .ref (a 46), .ref (a 47), .ref (a 48), .ref (a 49), .ref (a 50), .ref (a 51), .ref (a 52), .ref (a 53), .ref (a 54), .int 0, .int 0, .int 0, .ref (a 55), .ref (a 56), .int 0, .ref (a 57), .int 0, .ref (a 58), .ref (a 59), .ref (a 60), .long 0, .long 1, .ref (a 61), .ref (a 62), .long 0])), (a 42, .inl (dA 0, 3, .inl (fun _ => 0))), (a 43, .inl (dA 0, 6, .inl (fun _ => 0))), (a 44, .inl (dA 0, 6, .inl (fun _ => 0))), (a 45, .inl (dA 0, 6, .inl (fun _ => 0))), (a 46, .inl (dA 0, 6, .inl (fun _ => 0))), (a 47, .inl (dA 0, 6, .inl (fun _ => 0))), (a 48, .inl (dA 0, 6, .inl (fun _ => 0))), (a 49, .inl (dA 0, 6, .inl (fun _ => 0))), (a 50, .inl (dA 0, 6, .inl (fun _ => 0))), (a 51, .inl (dA 0, 6, .inl (fun _ => 0))), (a 52, .inl (dA 0, 6, .inl (fun _ => 0))), (a 53, .inl (dA 0, 6, .inl (fun _ => 0))), (a 54, .inl (dA 0, 150, .inl (fun _ => 0))), (a 55, .inl (dA 0, 18, .inl (fun _ => 0))), (a 56, .inl (dA 0, 6, .inl (fun _ => 0))), (a 57, .inl (dA 0, 152, .inl (fun _ => 0))), (a 58, .inl (dA 0, 19, .inl (fun _ => 0))), (a 59, .inl (dA 0, 6, .inl (fun _ => 0))), (a 60, .inl (dA 0, 6, .inl (fun _ => 0))), (a 61, .inl (dA 0, 460, .inl (fun _ => 0))), (a 62, .inl (dA 0, 2, .inl (fun _ => 0)))]
set_option maxRecDepth 100000 in
set_option maxHeartbeats 4000000 in
theorem wor_u00 (dA : Nat → ClassId) (a : Nat → Nat) : wor dA a u00 = bwo dA a ++ mwo dA a := by rfl
set_option maxHeartbeats 8000000 in
set_option maxRecDepth 100000 in
theorem n_X0 (l : Launch) (dC : Nat → ClassId) (dI : Nat → Nat → Nat) (dA : Nat → ClassId) (h0 sz : Nat) : Met l yX0_init (wsD mdN_X0) { frames := 1, cells := 8, slots := 218, locals := 12 } (va_Pc [.ref h0] (fun U => U.heap.size = sz ∧ va_P (dC, dI) vwCl [(h0, .inr (0, fsX0))] U.heap ∧ va_K (dC, dI) vwCl (tyA dA) U ∧ va_D (fun _ => True) [(h0, .inr (0, fsX0))])) (va_Qv (fun q : Nat → Nat => q 0 = h0) (fun q t => va_P (dC, dI) vwCl (hwo dA q) t.heap ∧ va_D (va_A [(h0, .inr (0, fsX0))] sz) (hwo dA q)) (va_A [(h0, .inr (0, fsX0))] sz)) 8 218 (va_A [(h0, .inr (0, fsX0))] sz) := by
  refine Met.ofW (cc := cX0_init) (maxL := 1) (ret := none) (by decide +kernel) rfl ?_
  intro p e s m args below meth c s₁ B hml hv
  obtain ⟨rfl, hsz, hP, hK, hD0⟩ := hv
  have hx := B.exec
  have hb := B.bytes
  have hr := B.returns
  have hts := atoms_spec (ws := wsD mdN_X0) B.pre
  have htg : ∀ w ∈ gtb, w.before _ s = true := fun w hw => hts w (List.mem_cons_of_mem _ hw)
  have hown : s.vm.findClass RX0 = some m.cls := findClass_of_methodNamed B.named
  have hlocks := B.notSynchronized
  have hin : meth.name = "<init>" := (name_of_methodNamed B.named B.method).1
  subst hsz
  have hD := hD0.self (sz := s.heap.size)
  generalize hAe : va_A [(h0, .inr (0, fsX0))] s.heap.size = A at hD ⊢
  have hA : ∀ q : Nat, s.heap.size ≤ q → A q := fun q h => by rw [← hAe]; exact Or.inr h
  have hS : va_S A s.heap s.heap [] := va_S.rf
  have hl := lv_entry ([.ref h0]) (n := 1) (Nat.le_of_ble_eq_true rfl)
  rw [lg_entry_eq]
  generalize (lg_sl ([.ref h0]) ++ List.replicate (1 - (lg_sl ([.ref h0])).length) Slot.unset).toArray = ls at hl ⊢
  have hl : lv_has ls 1 [(0, .ref h0)] := hl
  have hP : va_P (dC, dI) vwCl [(h0, .inr (0, [.int 0, .int 0, .int 0, .int 0, .null, .null, .null, .null, .null, .null, .null, .null]))] s.heap := hP
  have hD : va_D A [(h0, .inr (0, [.int 0, .int 0, .int 0, .int 0, .null, .null, .null, .null, .null, .null, .null, .null]))] := hD
  refine lv_aload_n hx hb dX0_init_0 rfl (lv_at hl 0 rfl) ?_
  refine W.objInit hx hb hown (htg _ nw_olX0) (htg _ nw_oi) (htg _ nw_oc) rfl (by rw [hml]; exact hl.1) rfl dX0_init_1 (Nat.le_of_ble_eq_true rfl) (Nat.le_of_ble_eq_true rfl) ?_
  refine W.eq (g2 := F0 m 4 ls []) rfl ?_
  refine lv_aload_n hx hb dX0_init_4 rfl (lv_at hl 0 rfl) ?_
  refine lv_iconst (v := 0) hx hb dX0_init_5 (by decide) ?_
  refine va_put hx hb htg cfX0.2.2.1 tyX0 cfX0.2.2.2.1 cfX0.2.2.2.2 hown hK hP hD hS 0 rfl rfl 0 (by decide) (htg _ nw_fX0_9) (fun x h => h) rfl (cfX0.2.2.2.1 0 (by decide)) rfl rfl (Nat.le_of_ble_eq_true rfl) dX0_init_6 (fun H locs hP hD hS => ?_)
  have hP : va_P (dC, dI) vwCl [(h0, .inr (0, [.int 0, .int 0, .int 0, .int 0, .null, .null, .null, .null, .null, .null, .null, .null]))] H := hP
  have hD : va_D A [(h0, .inr (0, [.int 0, .int 0, .int 0, .int 0, .null, .null, .null, .null, .null, .null, .null, .null]))] := hD
  refine lv_aload_n hx hb dX0_init_9 rfl (lv_at hl 0 rfl) ?_
  refine lv_iconst (v := 0) hx hb dX0_init_10 (by decide) ?_
  refine va_put hx hb htg cfX0.2.2.1 tyX0 cfX0.2.2.2.1 cfX0.2.2.2.2 hown hK hP hD hS 0 rfl rfl 1 (by decide) (htg _ nw_fX0_15) (fun x h => h) rfl (cfX0.2.2.2.1 1 (by decide)) rfl rfl (Nat.le_of_ble_eq_true rfl) dX0_init_11 (fun H locs hP hD hS => ?_)
  have hP : va_P (dC, dI) vwCl [(h0, .inr (0, [.int 0, .int 0, .int 0, .int 0, .null, .null, .null, .null, .null, .null, .null, .null]))] H := hP
  have hD : va_D A [(h0, .inr (0, [.int 0, .int 0, .int 0, .int 0, .null, .null, .null, .null, .null, .null, .null, .null]))] := hD
  refine lv_aload_n hx hb dX0_init_14 rfl (lv_at hl 0 rfl) ?_
  refine lv_iconst (v := 0) hx hb dX0_init_15 (by decide) ?_
  refine va_put hx hb htg cfX0.2.2.1 tyX0 cfX0.2.2.2.1 cfX0.2.2.2.2 hown hK hP hD hS 0 rfl rfl 2 (by decide) (htg _ nw_fX0_18) (fun x h => h) rfl (cfX0.2.2.2.1 2 (by decide)) rfl rfl (Nat.le_of_ble_eq_true rfl) dX0_init_16 (fun H locs hP hD hS => ?_)
  have hP : va_P (dC, dI) vwCl [(h0, .inr (0, [.int 0, .int 0, .int 0, .int 0, .null, .null, .null, .null, .null, .null, .null, .null]))] H := hP
  have hD : va_D A [(h0, .inr (0, [.int 0, .int 0, .int 0, .int 0, .null, .null, .null, .null, .null, .null, .null, .null]))] := hD
  refine lv_aload_n hx hb dX0_init_19 rfl (lv_at hl 0 rfl) ?_
  refine lv_iconst (v := 0) hx hb dX0_init_20 (by decide) ?_
  refine va_put hx hb htg cfX0.2.2.1 tyX0 cfX0.2.2.2.1 cfX0.2.2.2.2 hown hK hP hD hS 0 rfl rfl 3 (by decide) (htg _ nw_fX0_21) (fun x h => h) rfl (cfX0.2.2.2.1 3 (by decide)) rfl rfl (Nat.le_of_ble_eq_true rfl) dX0_init_21 (fun H locs hP hD hS => ?_)
  have hP : va_P (dC, dI) vwCl [(h0, .inr (0, [.int 0, .int 0, .int 0, .int 0, .null, .null, .null, .null, .null, .null, .null, .null]))] H := hP
  have hD : va_D A [(h0, .inr (0, [.int 0, .int 0, .int 0, .int 0, .null, .null, .null, .null, .null, .null, .null, .null]))] := hD
  refine lv_aload_n hx hb dX0_init_24 rfl (lv_at hl 0 rfl) ?_
  refine lv_bipush (v := 6) hx hb dX0_init_25 rfl ?_
  refine newI hx hb (htg _ nw_arI) hK hP hD hS hA (N' := 6) (by decide +kernel) (by decide +kernel) (by decide +kernel) (Nat.le_of_ble_eq_true rfl) (Nat.le_of_ble_eq_true rfl) dX0_init_27 (fun q1 H hP hD hS => ?_)
  have hP : va_P (dC, dI) vwCl [(h0, .inr (0, [.int 0, .int 0, .int 0, .int 0, .null, .null, .null, .null, .null, .null, .null, .null])), (q1, .inl (dA 0, 6, .inl (fun _ => 0)))] H := hP
  have hD : va_D A [(h0, .inr (0, [.int 0, .int 0, .int 0, .int 0, .null, .null, .null, .null, .null, .null, .null, .null])), (q1, .inl (dA 0, 6, .inl (fun _ => 0)))] := hD
  refine W.widen (k := 1) (n := 6) (Nat.le_of_ble_eq_true rfl) (Nat.le_of_ble_eq_true rfl) ?_
  refine va_putF hx hb htg cfX0.2.2.1 tyX0 cfX0.2.2.2.1 cfX0.2.2.2.2 hown hK hP hD hS 0 rfl rfl 4 (by decide) (htg _ nw_fX0_24) (fun x h => h) rfl hin rfl (cfX0.2.2.2.1 4 (by decide)) rfl rfl (Nat.le_of_ble_eq_true rfl) dX0_init_29 (fun H locs hP hD hS => ?_)
  have hP : va_P (dC, dI) vwCl [(h0, .inr (0, [.int 0, .int 0, .int 0, .int 0, .ref q1, .null, .null, .null, .null, .null, .null, .null])), (q1, .inl (dA 0, 6, .inl (fun _ => 0)))] H := hP
  have hD : va_D A [(h0, .inr (0, [.int 0, .int 0, .int 0, .int 0, .ref q1, .null, .null, .null, .null, .null, .null, .null])), (q1, .inl (dA 0, 6, .inl (fun _ => 0)))] := hD
  refine lv_aload_n hx hb dX0_init_32 rfl (lv_at hl 0 rfl) ?_
  refine lv_bipush (v := 6) hx hb dX0_init_33 rfl ?_
  refine newI hx hb (htg _ nw_arI) hK hP hD hS hA (N' := 6) (by decide +kernel) (by decide +kernel) (by decide +kernel) (Nat.le_of_ble_eq_true rfl) (Nat.le_of_ble_eq_true rfl) dX0_init_35 (fun q2 H hP hD hS => ?_)
  have hP : va_P (dC, dI) vwCl [(h0, .inr (0, [.int 0, .int 0, .int 0, .int 0, .ref q1, .null, .null, .null, .null, .null, .null, .null])), (q1, .inl (dA 0, 6, .inl (fun _ => 0))), (q2, .inl (dA 0, 6, .inl (fun _ => 0)))] H := hP
  have hD : va_D A [(h0, .inr (0, [.int 0, .int 0, .int 0, .int 0, .ref q1, .null, .null, .null, .null, .null, .null, .null])), (q1, .inl (dA 0, 6, .inl (fun _ => 0))), (q2, .inl (dA 0, 6, .inl (fun _ => 0)))] := hD
  refine W.widen (k := 2) (n := 12) (Nat.le_of_ble_eq_true rfl) (Nat.le_of_ble_eq_true rfl) ?_
  refine va_putF hx hb htg cfX0.2.2.1 tyX0 cfX0.2.2.2.1 cfX0.2.2.2.2 hown hK hP hD hS 0 rfl rfl 5 (by decide) (htg _ nw_fX0_28) (fun x h => h) rfl hin rfl (cfX0.2.2.2.1 5 (by decide)) rfl rfl (Nat.le_of_ble_eq_true rfl) dX0_init_37 (fun H locs hP hD hS => ?_)
  have hP : va_P (dC, dI) vwCl [(h0, .inr (0, [.int 0, .int 0, .int 0, .int 0, .ref q1, .ref q2, .null, .null, .null, .null, .null, .null])), (q1, .inl (dA 0, 6, .inl (fun _ => 0))), (q2, .inl (dA 0, 6, .inl (fun _ => 0)))] H := hP
  have hD : va_D A [(h0, .inr (0, [.int 0, .int 0, .int 0, .int 0, .ref q1, .ref q2, .null, .null, .null, .null, .null, .null])), (q1, .inl (dA 0, 6, .inl (fun _ => 0))), (q2, .inl (dA 0, 6, .inl (fun _ => 0)))] := hD
  refine lv_aload_n hx hb dX0_init_40 rfl (lv_at hl 0 rfl) ?_
  refine lv_bipush (v := 6) hx hb dX0_init_41 rfl ?_
  refine newI hx hb (htg _ nw_arI) hK hP hD hS hA (N' := 6) (by decide +kernel) (by decide +kernel) (by decide +kernel) (Nat.le_of_ble_eq_true rfl) (Nat.le_of_ble_eq_true rfl) dX0_init_43 (fun q3 H hP hD hS => ?_)
  have hP : va_P (dC, dI) vwCl [(h0, .inr (0, [.int 0, .int 0, .int 0, .int 0, .ref q1, .ref q2, .null, .null, .null, .null, .null, .null])), (q1, .inl (dA 0, 6, .inl (fun _ => 0))), (q2, .inl (dA 0, 6, .inl (fun _ => 0))), (q3, .inl (dA 0, 6, .inl (fun _ => 0)))] H := hP
  have hD : va_D A [(h0, .inr (0, [.int 0, .int 0, .int 0, .int 0, .ref q1, .ref q2, .null, .null, .null, .null, .null, .null])), (q1, .inl (dA 0, 6, .inl (fun _ => 0))), (q2, .inl (dA 0, 6, .inl (fun _ => 0))), (q3, .inl (dA 0, 6, .inl (fun _ => 0)))] := hD
  refine W.widen (k := 3) (n := 18) (Nat.le_of_ble_eq_true rfl) (Nat.le_of_ble_eq_true rfl) ?_
  refine va_putF hx hb htg cfX0.2.2.1 tyX0 cfX0.2.2.2.1 cfX0.2.2.2.2 hown hK hP hD hS 0 rfl rfl 6 (by decide) (htg _ nw_fX0_31) (fun x h => h) rfl hin rfl (cfX0.2.2.2.1 6 (by decide)) rfl rfl (Nat.le_of_ble_eq_true rfl) dX0_init_45 (fun H locs hP hD hS => ?_)
  have hP : va_P (dC, dI) vwCl [(h0, .inr (0, [.int 0, .int 0, .int 0, .int 0, .ref q1, .ref q2, .ref q3, .null, .null, .null, .null, .null])), (q1, .inl (dA 0, 6, .inl (fun _ => 0))), (q2, .inl (dA 0, 6, .inl (fun _ => 0))), (q3, .inl (dA 0, 6, .inl (fun _ => 0)))] H := hP
  have hD : va_D A [(h0, .inr (0, [.int 0, .int 0, .int 0, .int 0, .ref q1, .ref q2, .ref q3, .null, .null, .null, .null, .null])), (q1, .inl (dA 0, 6, .inl (fun _ => 0))), (q2, .inl (dA 0, 6, .inl (fun _ => 0))), (q3, .inl (dA 0, 6, .inl (fun _ => 0)))] := hD
  refine lv_aload_n hx hb dX0_init_48 rfl (lv_at hl 0 rfl) ?_
  refine lv_bipush (v := 6) hx hb dX0_init_49 rfl ?_
  refine newI hx hb (htg _ nw_arI) hK hP hD hS hA (N' := 6) (by decide +kernel) (by decide +kernel) (by decide +kernel) (Nat.le_of_ble_eq_true rfl) (Nat.le_of_ble_eq_true rfl) dX0_init_51 (fun q4 H hP hD hS => ?_)
  have hP : va_P (dC, dI) vwCl [(h0, .inr (0, [.int 0, .int 0, .int 0, .int 0, .ref q1, .ref q2, .ref q3, .null, .null, .null, .null, .null])), (q1, .inl (dA 0, 6, .inl (fun _ => 0))), (q2, .inl (dA 0, 6, .inl (fun _ => 0))), (q3, .inl (dA 0, 6, .inl (fun _ => 0))), (q4, .inl (dA 0, 6, .inl (fun _ => 0)))] H := hP
  have hD : va_D A [(h0, .inr (0, [.int 0, .int 0, .int 0, .int 0, .ref q1, .ref q2, .ref q3, .null, .null, .null, .null, .null])), (q1, .inl (dA 0, 6, .inl (fun _ => 0))), (q2, .inl (dA 0, 6, .inl (fun _ => 0))), (q3, .inl (dA 0, 6, .inl (fun _ => 0))), (q4, .inl (dA 0, 6, .inl (fun _ => 0)))] := hD
  refine W.widen (k := 4) (n := 24) (Nat.le_of_ble_eq_true rfl) (Nat.le_of_ble_eq_true rfl) ?_
  refine va_putF hx hb htg cfX0.2.2.1 tyX0 cfX0.2.2.2.1 cfX0.2.2.2.2 hown hK hP hD hS 0 rfl rfl 7 (by decide) (htg _ nw_fX0_34) (fun x h => h) rfl hin rfl (cfX0.2.2.2.1 7 (by decide)) rfl rfl (Nat.le_of_ble_eq_true rfl) dX0_init_53 (fun H locs hP hD hS => ?_)
  have hP : va_P (dC, dI) vwCl [(h0, .inr (0, [.int 0, .int 0, .int 0, .int 0, .ref q1, .ref q2, .ref q3, .ref q4, .null, .null, .null, .null])), (q1, .inl (dA 0, 6, .inl (fun _ => 0))), (q2, .inl (dA 0, 6, .inl (fun _ => 0))), (q3, .inl (dA 0, 6, .inl (fun _ => 0))), (q4, .inl (dA 0, 6, .inl (fun _ => 0)))] H := hP
  have hD : va_D A [(h0, .inr (0, [.int 0, .int 0, .int 0, .int 0, .ref q1, .ref q2, .ref q3, .ref q4, .null, .null, .null, .null])), (q1, .inl (dA 0, 6, .inl (fun _ => 0))), (q2, .inl (dA 0, 6, .inl (fun _ => 0))), (q3, .inl (dA 0, 6, .inl (fun _ => 0))), (q4, .inl (dA 0, 6, .inl (fun _ => 0)))] := hD
  refine lv_aload_n hx hb dX0_init_56 rfl (lv_at hl 0 rfl) ?_
  refine lv_bipush (v := 6) hx hb dX0_init_57 rfl ?_
  refine newI hx hb (htg _ nw_arI) hK hP hD hS hA (N' := 6) (by decide +kernel) (by decide +kernel) (by decide +kernel) (Nat.le_of_ble_eq_true rfl) (Nat.le_of_ble_eq_true rfl) dX0_init_59 (fun q5 H hP hD hS => ?_)
  have hP : va_P (dC, dI) vwCl [(h0, .inr (0, [.int 0, .int 0, .int 0, .int 0, .ref q1, .ref q2, .ref q3, .ref q4, .null, .null, .null, .null])), (q1, .inl (dA 0, 6, .inl (fun _ => 0))), (q2, .inl (dA 0, 6, .inl (fun _ => 0))), (q3, .inl (dA 0, 6, .inl (fun _ => 0))), (q4, .inl (dA 0, 6, .inl (fun _ => 0))), (q5, .inl (dA 0, 6, .inl (fun _ => 0)))] H := hP
  have hD : va_D A [(h0, .inr (0, [.int 0, .int 0, .int 0, .int 0, .ref q1, .ref q2, .ref q3, .ref q4, .null, .null, .null, .null])), (q1, .inl (dA 0, 6, .inl (fun _ => 0))), (q2, .inl (dA 0, 6, .inl (fun _ => 0))), (q3, .inl (dA 0, 6, .inl (fun _ => 0))), (q4, .inl (dA 0, 6, .inl (fun _ => 0))), (q5, .inl (dA 0, 6, .inl (fun _ => 0)))] := hD
  refine W.widen (k := 5) (n := 30) (Nat.le_of_ble_eq_true rfl) (Nat.le_of_ble_eq_true rfl) ?_
  refine va_putF hx hb htg cfX0.2.2.1 tyX0 cfX0.2.2.2.1 cfX0.2.2.2.2 hown hK hP hD hS 0 rfl rfl 8 (by decide) (htg _ nw_fX0_37) (fun x h => h) rfl hin rfl (cfX0.2.2.2.1 8 (by decide)) rfl rfl (Nat.le_of_ble_eq_true rfl) dX0_init_61 (fun H locs hP hD hS => ?_)
  have hP : va_P (dC, dI) vwCl [(h0, .inr (0, [.int 0, .int 0, .int 0, .int 0, .ref q1, .ref q2, .ref q3, .ref q4, .ref q5, .null, .null, .null])), (q1, .inl (dA 0, 6, .inl (fun _ => 0))), (q2, .inl (dA 0, 6, .inl (fun _ => 0))), (q3, .inl (dA 0, 6, .inl (fun _ => 0))), (q4, .inl (dA 0, 6, .inl (fun _ => 0))), (q5, .inl (dA 0, 6, .inl (fun _ => 0)))] H := hP
  have hD : va_D A [(h0, .inr (0, [.int 0, .int 0, .int 0, .int 0, .ref q1, .ref q2, .ref q3, .ref q4, .ref q5, .null, .null, .null])), (q1, .inl (dA 0, 6, .inl (fun _ => 0))), (q2, .inl (dA 0, 6, .inl (fun _ => 0))), (q3, .inl (dA 0, 6, .inl (fun _ => 0))), (q4, .inl (dA 0, 6, .inl (fun _ => 0))), (q5, .inl (dA 0, 6, .inl (fun _ => 0)))] := hD
  refine lv_aload_n hx hb dX0_init_64 rfl (lv_at hl 0 rfl) ?_
  refine lv_bipush (v := 6) hx hb dX0_init_65 rfl ?_
  refine newI hx hb (htg _ nw_arI) hK hP hD hS hA (N' := 6) (by decide +kernel) (by decide +kernel) (by decide +kernel) (Nat.le_of_ble_eq_true rfl) (Nat.le_of_ble_eq_true rfl) dX0_init_67 (fun q6 H hP hD hS => ?_)
  have hP : va_P (dC, dI) vwCl [(h0, .inr (0, [.int 0, .int 0, .int 0, .int 0, .ref q1, .ref q2, .ref q3, .ref q4, .ref q5, .null, .null, .null])), (q1, .inl (dA 0, 6, .inl (fun _ => 0))), (q2, .inl (dA 0, 6, .inl (fun _ => 0))), (q3, .inl (dA 0, 6, .inl (fun _ => 0))), (q4, .inl (dA 0, 6, .inl (fun _ => 0))), (q5, .inl (dA 0, 6, .inl (fun _ => 0))), (q6, .inl (dA 0, 6, .inl (fun _ => 0)))] H := hP
  have hD : va_D A [(h0, .inr (0, [.int 0, .int 0, .int 0, .int 0, .ref q1, .ref q2, .ref q3, .ref q4, .ref q5, .null, .null, .null])), (q1, .inl (dA 0, 6, .inl (fun _ => 0))), (q2, .inl (dA 0, 6, .inl (fun _ => 0))), (q3, .inl (dA 0, 6, .inl (fun _ => 0))), (q4, .inl (dA 0, 6, .inl (fun _ => 0))), (q5, .inl (dA 0, 6, .inl (fun _ => 0))), (q6, .inl (dA 0, 6, .inl (fun _ => 0)))] := hD
  refine W.widen (k := 6) (n := 36) (Nat.le_of_ble_eq_true rfl) (Nat.le_of_ble_eq_true rfl) ?_
  refine va_putF hx hb htg cfX0.2.2.1 tyX0 cfX0.2.2.2.1 cfX0.2.2.2.2 hown hK hP hD hS 0 rfl rfl 9 (by decide) (htg _ nw_fX0_40) (fun x h => h) rfl hin rfl (cfX0.2.2.2.1 9 (by decide)) rfl rfl (Nat.le_of_ble_eq_true rfl) dX0_init_69 (fun H locs hP hD hS => ?_)
  have hP : va_P (dC, dI) vwCl [(h0, .inr (0, [.int 0, .int 0, .int 0, .int 0, .ref q1, .ref q2, .ref q3, .ref q4, .ref q5, .ref q6, .null, .null])), (q1, .inl (dA 0, 6, .inl (fun _ => 0))), (q2, .inl (dA 0, 6, .inl (fun _ => 0))), (q3, .inl (dA 0, 6, .inl (fun _ => 0))), (q4, .inl (dA 0, 6, .inl (fun _ => 0))), (q5, .inl (dA 0, 6, .inl (fun _ => 0))), (q6, .inl (dA 0, 6, .inl (fun _ => 0)))] H := hP
  have hD : va_D A [(h0, .inr (0, [.int 0, .int 0, .int 0, .int 0, .ref q1, .ref q2, .ref q3, .ref q4, .ref q5, .ref q6, .null, .null])), (q1, .inl (dA 0, 6, .inl (fun _ => 0))), (q2, .inl (dA 0, 6, .inl (fun _ => 0))), (q3, .inl (dA 0, 6, .inl (fun _ => 0))), (q4, .inl (dA 0, 6, .inl (fun _ => 0))), (q5, .inl (dA 0, 6, .inl (fun _ => 0))), (q6, .inl (dA 0, 6, .inl (fun _ => 0)))] := hD
  refine lv_aload_n hx hb dX0_init_72 rfl (lv_at hl 0 rfl) ?_
  refine lv_bipush (v := 30) hx hb dX0_init_73 rfl ?_
  refine newI hx hb (htg _ nw_arI) hK hP hD hS hA (N' := 30) (by decide +kernel) (by decide +kernel) (by decide +kernel) (Nat.le_of_ble_eq_true rfl) (Nat.le_of_ble_eq_true rfl) dX0_init_75 (fun q7 H hP hD hS => ?_)
  have hP : va_P (dC, dI) vwCl [(h0, .inr (0, [.int 0, .int 0, .int 0, .int 0, .ref q1, .ref q2, .ref q3, .ref q4, .ref q5, .ref q6, .null, .null])), (q1, .inl (dA 0, 6, .inl (fun _ => 0))), (q2, .inl (dA 0, 6, .inl (fun _ => 0))), (q3, .inl (dA 0, 6, .inl (fun _ => 0))), (q4, .inl (dA 0, 6, .inl (fun _ => 0))), (q5, .inl (dA 0, 6, .inl (fun _ => 0))), (q6, .inl (dA 0, 6, .inl (fun _ => 0))), (q7, .inl (dA 0, 30, .inl (fun _ => 0)))] H := hP
  have hD : va_D A [(h0, .inr (0, [.int 0, .int 0, .int 0, .int 0, .ref q1, .ref q2, .ref q3, .ref q4, .ref q5, .ref q6, .null, .null])), (q1, .inl (dA 0, 6, .inl (fun _ => 0))), (q2, .inl (dA 0, 6, .inl (fun _ => 0))), (q3, .inl (dA 0, 6, .inl (fun _ => 0))), (q4, .inl (dA 0, 6, .inl (fun _ => 0))), (q5, .inl (dA 0, 6, .inl (fun _ => 0))), (q6, .inl (dA 0, 6, .inl (fun _ => 0))), (q7, .inl (dA 0, 30, .inl (fun _ => 0)))] := hD
  refine W.widen (k := 7) (n := 66) (Nat.le_of_ble_eq_true rfl) (Nat.le_of_ble_eq_true rfl) ?_
  refine va_putF hx hb htg cfX0.2.2.1 tyX0 cfX0.2.2.2.1 cfX0.2.2.2.2 hown hK hP hD hS 0 rfl rfl 10 (by decide) (htg _ nw_fX0_43) (fun x h => h) rfl hin rfl (cfX0.2.2.2.1 10 (by decide)) rfl rfl (Nat.le_of_ble_eq_true rfl) dX0_init_77 (fun H locs hP hD hS => ?_)
  have hP : va_P (dC, dI) vwCl [(h0, .inr (0, [.int 0, .int 0, .int 0, .int 0, .ref q1, .ref q2, .ref q3, .ref q4, .ref q5, .ref q6, .ref q7, .null])), (q1, .inl (dA 0, 6, .inl (fun _ => 0))), (q2, .inl (dA 0, 6, .inl (fun _ => 0))), (q3, .inl (dA 0, 6, .inl (fun _ => 0))), (q4, .inl (dA 0, 6, .inl (fun _ => 0))), (q5, .inl (dA 0, 6, .inl (fun _ => 0))), (q6, .inl (dA 0, 6, .inl (fun _ => 0))), (q7, .inl (dA 0, 30, .inl (fun _ => 0)))] H := hP
  have hD : va_D A [(h0, .inr (0, [.int 0, .int 0, .int 0, .int 0, .ref q1, .ref q2, .ref q3, .ref q4, .ref q5, .ref q6, .ref q7, .null])), (q1, .inl (dA 0, 6, .inl (fun _ => 0))), (q2, .inl (dA 0, 6, .inl (fun _ => 0))), (q3, .inl (dA 0, 6, .inl (fun _ => 0))), (q4, .inl (dA 0, 6, .inl (fun _ => 0))), (q5, .inl (dA 0, 6, .inl (fun _ => 0))), (q6, .inl (dA 0, 6, .inl (fun _ => 0))), (q7, .inl (dA 0, 30, .inl (fun _ => 0)))] := hD
  refine lv_aload_n hx hb dX0_init_80 rfl (lv_at hl 0 rfl) ?_
  refine lv_sipush (v := 152) hx hb dX0_init_81 rfl ?_
  refine newI hx hb (htg _ nw_arI) hK hP hD hS hA (N' := 152) (by decide +kernel) (by decide +kernel) (by decide +kernel) (Nat.le_of_ble_eq_true rfl) (Nat.le_of_ble_eq_true rfl) dX0_init_84 (fun q8 H hP hD hS => ?_)
  have hP : va_P (dC, dI) vwCl [(h0, .inr (0, [.int 0, .int 0, .int 0, .int 0, .ref q1, .ref q2, .ref q3, .ref q4, .ref q5, .ref q6, .ref q7, .null])), (q1, .inl (dA 0, 6, .inl (fun _ => 0))), (q2, .inl (dA 0, 6, .inl (fun _ => 0))), (q3, .inl (dA 0, 6, .inl (fun _ => 0))), (q4, .inl (dA 0, 6, .inl (fun _ => 0))), (q5, .inl (dA 0, 6, .inl (fun _ => 0))), (q6, .inl (dA 0, 6, .inl (fun _ => 0))), (q7, .inl (dA 0, 30, .inl (fun _ => 0))), (q8, .inl (dA 0, 152, .inl (fun _ => 0)))] H := hP
  have hD : va_D A [(h0, .inr (0, [.int 0, .int 0, .int 0, .int 0, .ref q1, .ref q2, .ref q3, .ref q4, .ref q5, .ref q6, .ref q7, .null])), (q1, .inl (dA 0, 6, .inl (fun _ => 0))), (q2, .inl (dA 0, 6, .inl (fun _ => 0))), (q3, .inl (dA 0, 6, .inl (fun _ => 0))), (q4, .inl (dA 0, 6, .inl (fun _ => 0))), (q5, .inl (dA 0, 6, .inl (fun _ => 0))), (q6, .inl (dA 0, 6, .inl (fun _ => 0))), (q7, .inl (dA 0, 30, .inl (fun _ => 0))), (q8, .inl (dA 0, 152, .inl (fun _ => 0)))] := hD
  refine W.widen (k := 8) (n := 218) (Nat.le_of_ble_eq_true rfl) (Nat.le_of_ble_eq_true rfl) ?_
  refine va_putF hx hb htg cfX0.2.2.1 tyX0 cfX0.2.2.2.1 cfX0.2.2.2.2 hown hK hP hD hS 0 rfl rfl 11 (by decide) (htg _ nw_fX0_46) (fun x h => h) rfl hin rfl (cfX0.2.2.2.1 11 (by decide)) rfl rfl (Nat.le_of_ble_eq_true rfl) dX0_init_86 (fun H locs hP hD hS => ?_)
  have hP : va_P (dC, dI) vwCl [(h0, .inr (0, [.int 0, .int 0, .int 0, .int 0, .ref q1, .ref q2, .ref q3, .ref q4, .ref q5, .ref q6, .ref q7, .ref q8])), (q1, .inl (dA 0, 6, .inl (fun _ => 0))), (q2, .inl (dA 0, 6, .inl (fun _ => 0))), (q3, .inl (dA 0, 6, .inl (fun _ => 0))), (q4, .inl (dA 0, 6, .inl (fun _ => 0))), (q5, .inl (dA 0, 6, .inl (fun _ => 0))), (q6, .inl (dA 0, 6, .inl (fun _ => 0))), (q7, .inl (dA 0, 30, .inl (fun _ => 0))), (q8, .inl (dA 0, 152, .inl (fun _ => 0)))] H := hP
  have hD : va_D A [(h0, .inr (0, [.int 0, .int 0, .int 0, .int 0, .ref q1, .ref q2, .ref q3, .ref q4, .ref q5, .ref q6, .ref q7, .ref q8])), (q1, .inl (dA 0, 6, .inl (fun _ => 0))), (q2, .inl (dA 0, 6, .inl (fun _ => 0))), (q3, .inl (dA 0, 6, .inl (fun _ => 0))), (q4, .inl (dA 0, 6, .inl (fun _ => 0))), (q5, .inl (dA 0, 6, .inl (fun _ => 0))), (q6, .inl (dA 0, 6, .inl (fun _ => 0))), (q7, .inl (dA 0, 30, .inl (fun _ => 0))), (q8, .inl (dA 0, 152, .inl (fun _ => 0)))] := hD
  exact W.vret hx hb hr (fun t ht hW => ⟨⟨nth [h0, q1, q2, q3, q4, q5, q6, q7, q8], rfl, rfl, by rw [ht]; exact hP, hD⟩, hS.F ht⟩) hS.2.2 dX0_init_89
set_option maxHeartbeats 8000000 in
set_option maxRecDepth 100000 in
theorem n_X2 (l : Launch) (dC : Nat → ClassId) (dI : Nat → Nat → Nat) (dA : Nat → ClassId) (h0 sz : Nat) : Met l yX2_init (wsD mdN_X2) { frames := 1, cells := 1, slots := 150, locals := 12 } (va_Pc [.ref h0] (fun U => U.heap.size = sz ∧ va_P (dC, dI) vwCl [(h0, .inr (1, fsX2))] U.heap ∧ va_K (dC, dI) vwCl (tyA dA) U ∧ va_D (fun _ => True) [(h0, .inr (1, fsX2))])) (va_Qv (fun q : Nat → Nat => q 0 = h0) (fun q t => va_P (dC, dI) vwCl (rwo dA q) t.heap ∧ va_D (va_A [(h0, .inr (1, fsX2))] sz) (rwo dA q)) (va_A [(h0, .inr (1, fsX2))] sz)) 1 150 (va_A [(h0, .inr (1, fsX2))] sz) := by
  refine Met.ofW (cc := cX2_init) (maxL := 1) (ret := none) (by decide +kernel) rfl ?_
  intro p e s m args below meth c s₁ B hml hv
  obtain ⟨rfl, hsz, hP, hK, hD0⟩ := hv
  have hx := B.exec
  have hb := B.bytes
  have hr := B.returns
  have hts := atoms_spec (ws := wsD mdN_X2) B.pre
  have htg : ∀ w ∈ gtb, w.before _ s = true := fun w hw => hts w (List.mem_cons_of_mem _ hw)
  have hown : s.vm.findClass RX2 = some m.cls := findClass_of_methodNamed B.named
  have hlocks := B.notSynchronized
  have hin : meth.name = "<init>" := (name_of_methodNamed B.named B.method).1
  subst hsz
  have hD := hD0.self (sz := s.heap.size)
  generalize hAe : va_A [(h0, .inr (1, fsX2))] s.heap.size = A at hD ⊢
  have hA : ∀ q : Nat, s.heap.size ≤ q → A q := fun q h => by rw [← hAe]; exact Or.inr h
  have hS : va_S A s.heap s.heap [] := va_S.rf
  have hl := lv_entry ([.ref h0]) (n := 1) (Nat.le_of_ble_eq_true rfl)
  rw [lg_entry_eq]
  generalize (lg_sl ([.ref h0]) ++ List.replicate (1 - (lg_sl ([.ref h0])).length) Slot.unset).toArray = ls at hl ⊢
  have hl : lv_has ls 1 [(0, .ref h0)] := hl
  have hP : va_P (dC, dI) vwCl [(h0, .inr (1, [.null, .int 0, .int 0, .int 0, .int 0, .int 0]))] s.heap := hP
  have hD : va_D A [(h0, .inr (1, [.null, .int 0, .int 0, .int 0, .int 0, .int 0]))] := hD
  refine lv_aload_n hx hb dX2_init_0 rfl (lv_at hl 0 rfl) ?_
  refine W.objInit hx hb hown (htg _ nw_olX2) (htg _ nw_oi) (htg _ nw_oc) rfl (by rw [hml]; exact hl.1) rfl dX2_init_1 (Nat.le_of_ble_eq_true rfl) (Nat.le_of_ble_eq_true rfl) ?_
  refine W.eq (g2 := F0 m 4 ls []) rfl ?_
  refine lv_aload_n hx hb dX2_init_4 rfl (lv_at hl 0 rfl) ?_
  refine lv_sipush (v := 150) hx hb dX2_init_5 rfl ?_
  refine newB hx hb (htg _ nw_arB) hK hP hD hS hA (N' := 150) (by decide +kernel) (by decide +kernel) (by decide +kernel) (Nat.le_of_ble_eq_true rfl) (Nat.le_of_ble_eq_true rfl) dX2_init_8 (fun q1 H hP hD hS => ?_)
  have hP : va_P (dC, dI) vwCl [(h0, .inr (1, [.null, .int 0, .int 0, .int 0, .int 0, .int 0])), (q1, .inl (dA 1, 150, .inl (fun _ => 0)))] H := hP
  have hD : va_D A [(h0, .inr (1, [.null, .int 0, .int 0, .int 0, .int 0, .int 0])), (q1, .inl (dA 1, 150, .inl (fun _ => 0)))] := hD
  refine W.widen (k := 1) (n := 150) (Nat.le_of_ble_eq_true rfl) (Nat.le_of_ble_eq_true rfl) ?_
  refine va_putF hx hb htg cfX2.2.2.1 tyX2 cfX2.2.2.2.1 cfX2.2.2.2.2 hown hK hP hD hS 0 rfl rfl 0 (by decide) (htg _ nw_fX2_9) (fun x h => h) rfl hin rfl (cfX2.2.2.2.1 0 (by decide)) rfl rfl (Nat.le_of_ble_eq_true rfl) dX2_init_10 (fun H locs hP hD hS => ?_)
  have hP : va_P (dC, dI) vwCl [(h0, .inr (1, [.ref q1, .int 0, .int 0, .int 0, .int 0, .int 0])), (q1, .inl (dA 1, 150, .inl (fun _ => 0)))] H := hP
  have hD : va_D A [(h0, .inr (1, [.ref q1, .int 0, .int 0, .int 0, .int 0, .int 0])), (q1, .inl (dA 1, 150, .inl (fun _ => 0)))] := hD
  refine lv_aload_n hx hb dX2_init_13 rfl (lv_at hl 0 rfl) ?_
  refine lv_iconst (v := 0) hx hb dX2_init_14 (by decide) ?_
  refine va_put hx hb htg cfX2.2.2.1 tyX2 cfX2.2.2.2.1 cfX2.2.2.2.2 hown hK hP hD hS 0 rfl rfl 1 (by decide) (htg _ nw_fX2_15) (fun x h => h) rfl (cfX2.2.2.2.1 1 (by decide)) rfl rfl (Nat.le_of_ble_eq_true rfl) dX2_init_15 (fun H locs hP hD hS => ?_)
  have hP : va_P (dC, dI) vwCl [(h0, .inr (1, [.ref q1, .int 0, .int 0, .int 0, .int 0, .int 0])), (q1, .inl (dA 1, 150, .inl (fun _ => 0)))] H := hP
  have hD : va_D A [(h0, .inr (1, [.ref q1, .int 0, .int 0, .int 0, .int 0, .int 0])), (q1, .inl (dA 1, 150, .inl (fun _ => 0)))] := hD
  refine lv_aload_n hx hb dX2_init_18 rfl (lv_at hl 0 rfl) ?_
  refine lv_iconst (v := 0) hx hb dX2_init_19 (by decide) ?_
  refine va_put hx hb htg cfX2.2.2.1 tyX2 cfX2.2.2.2.1 cfX2.2.2.2.2 hown hK hP hD hS 0 rfl rfl 2 (by decide) (htg _ nw_fX2_19) (fun x h => h) rfl (cfX2.2.2.2.1 2 (by decide)) rfl rfl (Nat.le_of_ble_eq_true rfl) dX2_init_20 (fun H locs hP hD hS => ?_)
  have hP : va_P (dC, dI) vwCl [(h0, .inr (1, [.ref q1, .int 0, .int 0, .int 0, .int 0, .int 0])), (q1, .inl (dA 1, 150, .inl (fun _ => 0)))] H := hP
  have hD : va_D A [(h0, .inr (1, [.ref q1, .int 0, .int 0, .int 0, .int 0, .int 0])), (q1, .inl (dA 1, 150, .inl (fun _ => 0)))] := hD
  refine lv_aload_n hx hb dX2_init_23 rfl (lv_at hl 0 rfl) ?_
  refine lv_iconst (v := 0) hx hb dX2_init_24 (by decide) ?_
  refine va_put hx hb htg cfX2.2.2.1 tyX2 cfX2.2.2.2.1 cfX2.2.2.2.2 hown hK hP hD hS 0 rfl rfl 3 (by decide) (htg _ nw_fX2_22) (fun x h => h) rfl (cfX2.2.2.2.1 3 (by decide)) rfl rfl (Nat.le_of_ble_eq_true rfl) dX2_init_25 (fun H locs hP hD hS => ?_)
  have hP : va_P (dC, dI) vwCl [(h0, .inr (1, [.ref q1, .int 0, .int 0, .int 0, .int 0, .int 0])), (q1, .inl (dA 1, 150, .inl (fun _ => 0)))] H := hP
  have hD : va_D A [(h0, .inr (1, [.ref q1, .int 0, .int 0, .int 0, .int 0, .int 0])), (q1, .inl (dA 1, 150, .inl (fun _ => 0)))] := hD
  refine lv_aload_n hx hb dX2_init_28 rfl (lv_at hl 0 rfl) ?_
  refine lv_iconst (v := 0) hx hb dX2_init_29 (by decide) ?_
  refine va_put hx hb htg cfX2.2.2.1 tyX2 cfX2.2.2.2.1 cfX2.2.2.2.2 hown hK hP hD hS 0 rfl rfl 4 (by decide) (htg _ nw_fX2_25) (fun x h => h) rfl (cfX2.2.2.2.1 4 (by decide)) rfl rfl (Nat.le_of_ble_eq_true rfl) dX2_init_30 (fun H locs hP hD hS => ?_)
  have hP : va_P (dC, dI) vwCl [(h0, .inr (1, [.ref q1, .int 0, .int 0, .int 0, .int 0, .int 0])), (q1, .inl (dA 1, 150, .inl (fun _ => 0)))] H := hP
  have hD : va_D A [(h0, .inr (1, [.ref q1, .int 0, .int 0, .int 0, .int 0, .int 0])), (q1, .inl (dA 1, 150, .inl (fun _ => 0)))] := hD
  refine lv_aload_n hx hb dX2_init_33 rfl (lv_at hl 0 rfl) ?_
  refine lv_iconst (v := 0) hx hb dX2_init_34 (by decide) ?_
  refine va_put hx hb htg cfX2.2.2.1 tyX2 cfX2.2.2.2.1 cfX2.2.2.2.2 hown hK hP hD hS 0 rfl rfl 5 (by decide) (htg _ nw_fX2_28) (fun x h => h) rfl (cfX2.2.2.2.1 5 (by decide)) rfl rfl (Nat.le_of_ble_eq_true rfl) dX2_init_35 (fun H locs hP hD hS => ?_)
  have hP : va_P (dC, dI) vwCl [(h0, .inr (1, [.ref q1, .int 0, .int 0, .int 0, .int 0, .int 0])), (q1, .inl (dA 1, 150, .inl (fun _ => 0)))] H := hP
  have hD : va_D A [(h0, .inr (1, [.ref q1, .int 0, .int 0, .int 0, .int 0, .int 0])), (q1, .inl (dA 1, 150, .inl (fun _ => 0)))] := hD
  exact W.vret hx hb hr (fun t ht hW => ⟨⟨nth [h0, q1], rfl, rfl, by rw [ht]; exact hP, hD⟩, hS.F ht⟩) hS.2.2 dX2_init_38
section MK
variable {p : Program} {l : Launch} {e : Env} {R : Room} {s : State} {m : MethodId} {args : Array Value} {below : List Frame} {meth : Method} {c : Code} {H : Heap} {locs : List Loc} {cells slots : Nat} {Q : State → Prop}
variable {dC : Nat → ClassId} {dI : Nat → Nat → Nat} {dA : Nat → ClassId} {A : Nat → Prop} {cc : ByteArray} {pc mx : Nat} {ls : Array Slot} {rest : List Value} {ws : va_W}
theorem mkX0 (hx : p.tables.exec = Jvm.exec) (hb : c.code = cc) (hml : c.maxLocals = mx) (hls : ls.size = mx) (hown : s.vm.findClass RX3 = some m.cls) (htg : ∀ w ∈ gtb, w.before args s = true) (hN : va_Nw (.methodLinkNest "BorrowedVoice" 9 yX0_init "BorrowedVoice") s) (hK : va_K (dC, dI) vwCl (tyA dA) s) (hP : va_P (dC, dI) vwCl ws H) (hD : va_D A ws) (hS : va_S A s.heap H locs) (hA : ∀ q, s.heap.size ≤ q → A q) (hc : cells + 9 ≤ R.cells) (hs : slots + 230 ≤ R.slots) (hf : 2 ≤ R.frames) (hlo : 32 ≤ R.locals) (hz : 1 + (rest.map fun v => v.category).sum ≤ 8) (d0 : decode cc pc = .ok (.new 7, 3)) (d1 : decode cc (pc + 3) = .ok (.dup, 1)) (d2 : decode cc (pc + 4) = .ok (.invokespecial 9, 3))
    (kk : ∀ (q : Nat → Nat) (H1 : Heap) (locs1 : List Loc), va_P (dC, dI) vwCl (ws ++ hwo dA q) H1 → va_D A (ws ++ hwo dA q) → va_S A s.heap H1 locs1 → W p l e R s m args below meth c H1 locs1 (cells + 9) (slots + 230) Q (F0 m (pc + 7) ls (.ref (q 0) :: rest))) : W p l e R s m args below meth c H locs cells slots Q (F0 m pc ls rest) := by
  refine va_new (ci := 0) (fs := fsX0) (C := RX0) (T := TX0) (N := 12) hx hb htg cfX0.2.2.1 tyX0 cfX0.2.2.2.1 hown (htg _ nw_kH) (htg _ nw_tX0) (htg _ nw_iX0) hK hP hD hS hA rfl (fun j hj => by
    have h : ∀ j, j < 12 → defaultValue (tyX0 j) = vp_V fsX0 j := by decide +kernel
    exact h j hj) (by omega) (by omega) d0 (fun q H hP hD hS => ?_)
  refine lv_dup hx hb d1 rfl ?_
  obtain ⟨hPc, hDc⟩ := lastP hP hD
  have hFc := freeL hD hS hA
  refine va_callv (va_runIN (As := []) (rest := .ref q :: rest) ⟨hx, hb, hml, hown, htg⟩ (n_X0 l dC dI dA q H.size) ⟨va_cnB 0 htg (good_wsD mkN_X0) rfl rfl rfl hN (htg _ nw_iX0) mkN_X0.2.2.2 ⟨hf, hlo⟩, rfl, htg _ nw_mX0⟩ ⟨fun a U g mk q => by obtain ⟨q0, q1, qP, qK, qD⟩ := q; exact ⟨q0, q1, qP, va_K.moved (u := U) (U := U.calling g mk a) (Vm.Alike.refl U.vm) qK, qD⟩, fun U hU hW => ⟨rfl, by rw [hU], by rw [hU]; exact hPc, va_K.moved hW.alike hK, hDc.weaken (fun _ _ _ _ => trivial)⟩⟩ rfl rfl hls rfl (lv_room (by simpa [Value.category] using hz)) d2 ⟨by show _ ≤ _; omega, by show _ ≤ _; omega⟩) hS (fun q _ h => hFc q h) hFc (fun qf t H1 locs1 ht hvm hw hB hz1 hk1 hS1 => ?_)
  obtain ⟨hP1, hD1⟩ := hB
  rw [ht] at hP1
  obtain ⟨hP2, hD2⟩ := join1 hP hD hk1 hFc hP1 hD1
  have hw : qf 0 = q := hw
  subst hw
  exact W.widen (by omega) (by omega) (kk qf H1 locs1 hP2 hD2 hS1)
theorem mkX2 (hx : p.tables.exec = Jvm.exec) (hb : c.code = cc) (hml : c.maxLocals = mx) (hls : ls.size = mx) (hown : s.vm.findClass RX3 = some m.cls) (htg : ∀ w ∈ gtb, w.before args s = true) (hN : va_Nw (.methodLinkNest "BorrowedVoice" 34 yX2_init "BorrowedVoice") s) (hK : va_K (dC, dI) vwCl (tyA dA) s) (hP : va_P (dC, dI) vwCl ws H) (hD : va_D A ws) (hS : va_S A s.heap H locs) (hA : ∀ q, s.heap.size ≤ q → A q) (hc : cells + 2 ≤ R.cells) (hs : slots + 156 ≤ R.slots) (hf : 2 ≤ R.frames) (hlo : 32 ≤ R.locals) (hz : 1 + (rest.map fun v => v.category).sum ≤ 8) (d0 : decode cc pc = .ok (.new 32, 3)) (d1 : decode cc (pc + 3) = .ok (.dup, 1)) (d2 : decode cc (pc + 4) = .ok (.invokespecial 34, 3))
    (kk : ∀ (q : Nat → Nat) (H1 : Heap) (locs1 : List Loc), va_P (dC, dI) vwCl (ws ++ rwo dA q) H1 → va_D A (ws ++ rwo dA q) → va_S A s.heap H1 locs1 → W p l e R s m args below meth c H1 locs1 (cells + 2) (slots + 156) Q (F0 m (pc + 7) ls (.ref (q 0) :: rest))) : W p l e R s m args below meth c H locs cells slots Q (F0 m pc ls rest) := by
  refine va_new (ci := 1) (fs := fsX2) (C := RX2) (T := TX2) (N := 6) hx hb htg cfX2.2.2.1 tyX2 cfX2.2.2.2.1 hown (htg _ nw_kR) (htg _ nw_tX2) (htg _ nw_iX2) hK hP hD hS hA rfl (fun j hj => by
    have h : ∀ j, j < 6 → defaultValue (tyX2 j) = vp_V fsX2 j := by decide +kernel
    exact h j hj) (by omega) (by omega) d0 (fun q H hP hD hS => ?_)
  refine lv_dup hx hb d1 rfl ?_
  obtain ⟨hPc, hDc⟩ := lastP hP hD
  have hFc := freeL hD hS hA
  refine va_callv (va_runIN (As := []) (rest := .ref q :: rest) ⟨hx, hb, hml, hown, htg⟩ (n_X2 l dC dI dA q H.size) ⟨va_cnB 0 htg (good_wsD mkN_X2) rfl rfl rfl hN (htg _ nw_iX2) mkN_X2.2.2.2 ⟨hf, hlo⟩, rfl, htg _ nw_mX2⟩ ⟨fun a U g mk q => by obtain ⟨q0, q1, qP, qK, qD⟩ := q; exact ⟨q0, q1, qP, va_K.moved (u := U) (U := U.calling g mk a) (Vm.Alike.refl U.vm) qK, qD⟩, fun U hU hW => ⟨rfl, by rw [hU], by rw [hU]; exact hPc, va_K.moved hW.alike hK, hDc.weaken (fun _ _ _ _ => trivial)⟩⟩ rfl rfl hls rfl (lv_room (by simpa [Value.category] using hz)) d2 ⟨by show _ ≤ _; omega, by show _ ≤ _; omega⟩) hS (fun q _ h => hFc q h) hFc (fun qf t H1 locs1 ht hvm hw hB hz1 hk1 hS1 => ?_)
  obtain ⟨hP1, hD1⟩ := hB
  rw [ht] at hP1
  obtain ⟨hP2, hD2⟩ := join1 hP hD hk1 hFc hP1 hD1
  have hw : qf 0 = q := hw
  subst hw
  exact W.widen (by omega) (by omega) (kk qf H1 locs1 hP2 hD2 hS1)
end MK
