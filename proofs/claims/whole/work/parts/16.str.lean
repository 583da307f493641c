theorem snd_slen {own : String} {cc : ByteArray} {mx fr lc pc idx : Nat} (hw : Cond.methodLink own idx ⟨"java/lang/String", "length", "()I"⟩ ∈ gtb) (hfr : 2 ≤ fr) (hlc : 40 ≤ lc) (hd : decode cc pc = .ok (.invokevirtual idx, 3)) : SndI own cc mx fr lc pc (o_slen (pc + 3)) := by
  sorry
theorem snd_schr {own : String} {cc : ByteArray} {mx fr lc pc idx : Nat} (hw : Cond.methodLink own idx ⟨"java/lang/String", "charAt", "(I)C"⟩ ∈ gtb) (hfr : 2 ≤ fr) (hlc : 42 ≤ lc) (hd : decode cc pc = .ok (.invokevirtual idx, 3)) : SndI own cc mx fr lc pc (o_schr (pc + 3)) := by
  sorry
