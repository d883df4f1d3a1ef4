/-! STRING CONSTANTS: length and charAt, the JDK's own code -/
theorem wi_String : Cond.initialized "java/lang/String" ∈ wT := (inT1 (List.mem_of_getElem? (i := 14) rfl) rfl)
theorem wi_StringLatin1 : Cond.initialized "java/lang/StringLatin1" ∈ wT := (inT1 (List.mem_of_getElem? (i := 15) rfl) rfl)
theorem wi_Preconditions : Cond.initialized "jdk/internal/util/Preconditions" ∈ wT := (inT1 (List.mem_of_getElem? (i := 16) rfl) rfl)
abbrev cJ0_coder : ByteArray := prog_18_method_152_code
theorem dJ0_coder_0 : decode cJ0_coder 0 = .ok (.getstatic 38, 3) := by decide +kernel
theorem dJ0_coder_3 : decode cJ0_coder 3 = .ok (.ifCond .eq 10, 3) := by decide +kernel
theorem dJ0_coder_6 : decode cJ0_coder 6 = .ok (.aload_n 0, 1) := by decide +kernel
theorem dJ0_coder_7 : decode cJ0_coder 7 = .ok (.getfield 15, 3) := by decide +kernel
theorem dJ0_coder_10 : decode cJ0_coder 10 = .ok (.goto 4, 3) := by decide +kernel
theorem dJ0_coder_13 : decode cJ0_coder 13 = .ok (.iconst 1, 1) := by decide +kernel
theorem dJ0_coder_14 : decode cJ0_coder 14 = .ok (.ireturn, 1) := by decide +kernel
def yJ0_coder : MethodName := ⟨"java/lang/String", "coder", "()B"⟩
abbrev mJ0_coder : Md := (yJ0_coder, cJ0_coder, 1, (some FieldType.byte))
theorem mo_J0_coder : MdOk mJ0_coder 0 := ⟨(inL3 (List.mem_of_getElem? (i := 66) rfl)), wi_String, by decide +kernel, ⟨by decide +kernel, by decide +kernel⟩, by decide +kernel, by decide⟩
abbrev cJ0_length : ByteArray := prog_18_method_54_code
theorem dJ0_length_0 : decode cJ0_length 0 = .ok (.aload_n 0, 1) := by decide +kernel
theorem dJ0_length_1 : decode cJ0_length 1 = .ok (.getfield 9, 3) := by decide +kernel
theorem dJ0_length_4 : decode cJ0_length 4 = .ok (.arraylength, 1) := by decide +kernel
theorem dJ0_length_5 : decode cJ0_length 5 = .ok (.aload_n 0, 1) := by decide +kernel
theorem dJ0_length_6 : decode cJ0_length 6 = .ok (.invokevirtual 335, 3) := by decide +kernel
theorem dJ0_length_9 : decode cJ0_length 9 = .ok (.ishr, 1) := by decide +kernel
theorem dJ0_length_10 : decode cJ0_length 10 = .ok (.ireturn, 1) := by decide +kernel
def yJ0_length : MethodName := ⟨"java/lang/String", "length", "()I"⟩
abbrev mJ0_length : Md := (yJ0_length, cJ0_length, 1, (some FieldType.int))
theorem mo_J0_length : MdOk mJ0_length 0 := ⟨(inL3 (List.mem_of_getElem? (i := 62) rfl)), wi_String, by decide +kernel, ⟨by decide +kernel, by decide +kernel⟩, by decide +kernel, by decide⟩
abbrev cJ0_isLatin1 : ByteArray := prog_18_method_154_code
theorem dJ0_isLatin1_0 : decode cJ0_isLatin1 0 = .ok (.getstatic 38, 3) := by decide +kernel
theorem dJ0_isLatin1_3 : decode cJ0_isLatin1 3 = .ok (.ifCond .eq 14, 3) := by decide +kernel
theorem dJ0_isLatin1_6 : decode cJ0_isLatin1 6 = .ok (.aload_n 0, 1) := by decide +kernel
theorem dJ0_isLatin1_7 : decode cJ0_isLatin1 7 = .ok (.getfield 15, 3) := by decide +kernel
theorem dJ0_isLatin1_10 : decode cJ0_isLatin1 10 = .ok (.ifCond .ne 7, 3) := by decide +kernel
theorem dJ0_isLatin1_13 : decode cJ0_isLatin1 13 = .ok (.iconst 1, 1) := by decide +kernel
theorem dJ0_isLatin1_14 : decode cJ0_isLatin1 14 = .ok (.goto 4, 3) := by decide +kernel
theorem dJ0_isLatin1_17 : decode cJ0_isLatin1 17 = .ok (.iconst 0, 1) := by decide +kernel
theorem dJ0_isLatin1_18 : decode cJ0_isLatin1 18 = .ok (.ireturn, 1) := by decide +kernel
def yJ0_isLatin1 : MethodName := ⟨"java/lang/String", "isLatin1", "()Z"⟩
abbrev mJ0_isLatin1 : Md := (yJ0_isLatin1, cJ0_isLatin1, 1, (some FieldType.boolean))
theorem mo_J0_isLatin1 : MdOk mJ0_isLatin1 0 := ⟨(inL3 (List.mem_of_getElem? (i := 76) rfl)), wi_String, by decide +kernel, ⟨by decide +kernel, by decide +kernel⟩, by decide +kernel, by decide⟩
abbrev cJ3_checkIndex : ByteArray := prog_23_method_11_code
theorem dJ3_checkIndex_0 : decode cJ3_checkIndex 0 = .ok (.iload_n 0, 1) := by decide +kernel
theorem dJ3_checkIndex_1 : decode cJ3_checkIndex 1 = .ok (.ifCond .lt 8, 3) := by decide +kernel
theorem dJ3_checkIndex_4 : decode cJ3_checkIndex 4 = .ok (.iload_n 0, 1) := by decide +kernel
theorem dJ3_checkIndex_5 : decode cJ3_checkIndex 5 = .ok (.iload_n 1, 1) := by decide +kernel
theorem dJ3_checkIndex_6 : decode cJ3_checkIndex 6 = .ok (.if_icmp .lt 10, 3) := by decide +kernel
theorem dJ3_checkIndex_9 : decode cJ3_checkIndex 9 = .ok (.aload_n 2, 1) := by decide +kernel
theorem dJ3_checkIndex_10 : decode cJ3_checkIndex 10 = .ok (.iload_n 0, 1) := by decide +kernel
theorem dJ3_checkIndex_11 : decode cJ3_checkIndex 11 = .ok (.iload_n 1, 1) := by decide +kernel
theorem dJ3_checkIndex_12 : decode cJ3_checkIndex 12 = .ok (.invokestatic 95, 3) := by decide +kernel
theorem dJ3_checkIndex_15 : decode cJ3_checkIndex 15 = .ok (.athrow, 1) := by decide +kernel
theorem dJ3_checkIndex_16 : decode cJ3_checkIndex 16 = .ok (.iload_n 0, 1) := by decide +kernel
theorem dJ3_checkIndex_17 : decode cJ3_checkIndex 17 = .ok (.ireturn, 1) := by decide +kernel
def yJ3_checkIndex : MethodName := ⟨"jdk/internal/util/Preconditions", "checkIndex", "(IILjava/util/function/BiFunction;)I"⟩
abbrev mJ3_checkIndex : Md := (yJ3_checkIndex, cJ3_checkIndex, 3, (some FieldType.int))
theorem mo_J3_checkIndex : MdOk mJ3_checkIndex 3 := ⟨(inL3 (List.mem_of_getElem? (i := 87) rfl)), wi_Preconditions, by decide +kernel, ⟨by decide +kernel, by decide +kernel⟩, by decide +kernel, by decide⟩
abbrev cJ0_checkIndex : ByteArray := prog_18_method_155_code
theorem dJ0_checkIndex_0 : decode cJ0_checkIndex 0 = .ok (.iload_n 0, 1) := by decide +kernel
theorem dJ0_checkIndex_1 : decode cJ0_checkIndex 1 = .ok (.iload_n 1, 1) := by decide +kernel
theorem dJ0_checkIndex_2 : decode cJ0_checkIndex 2 = .ok (.getstatic 1053, 3) := by decide +kernel
theorem dJ0_checkIndex_5 : decode cJ0_checkIndex 5 = .ok (.invokestatic 1059, 3) := by decide +kernel
theorem dJ0_checkIndex_8 : decode cJ0_checkIndex 8 = .ok (.pop, 1) := by decide +kernel
theorem dJ0_checkIndex_9 : decode cJ0_checkIndex 9 = .ok (.return_, 1) := by decide +kernel
def yJ0_checkIndex : MethodName := ⟨"java/lang/String", "checkIndex", "(II)V"⟩
abbrev mJ0_checkIndex : Md := (yJ0_checkIndex, cJ0_checkIndex, 2, none)
theorem mo_J0_checkIndex : MdOk mJ0_checkIndex 2 := ⟨(inL3 (List.mem_of_getElem? (i := 82) rfl)), wi_String, by decide +kernel, ⟨by decide +kernel, by decide +kernel⟩, by decide +kernel, by decide⟩
abbrev cJ1_charAt : ByteArray := prog_19_method_2_code
theorem dJ1_charAt_0 : decode cJ1_charAt 0 = .ok (.iload_n 1, 1) := by decide +kernel
theorem dJ1_charAt_1 : decode cJ1_charAt 1 = .ok (.aload_n 0, 1) := by decide +kernel
theorem dJ1_charAt_2 : decode cJ1_charAt 2 = .ok (.arraylength, 1) := by decide +kernel
theorem dJ1_charAt_3 : decode cJ1_charAt 3 = .ok (.invokestatic 9, 3) := by decide +kernel
theorem dJ1_charAt_6 : decode cJ1_charAt 6 = .ok (.aload_n 0, 1) := by decide +kernel
theorem dJ1_charAt_7 : decode cJ1_charAt 7 = .ok (.iload_n 1, 1) := by decide +kernel
theorem dJ1_charAt_8 : decode cJ1_charAt 8 = .ok (.baload, 1) := by decide +kernel
theorem dJ1_charAt_9 : decode cJ1_charAt 9 = .ok (.sipush 255, 3) := by decide +kernel
theorem dJ1_charAt_12 : decode cJ1_charAt 12 = .ok (.iand, 1) := by decide +kernel
theorem dJ1_charAt_13 : decode cJ1_charAt 13 = .ok (.i2c, 1) := by decide +kernel
theorem dJ1_charAt_14 : decode cJ1_charAt 14 = .ok (.ireturn, 1) := by decide +kernel
def yJ1_charAt : MethodName := ⟨"java/lang/StringLatin1", "charAt", "([BI)C"⟩
abbrev mJ1_charAt : Md := (yJ1_charAt, cJ1_charAt, 2, (some FieldType.char))
theorem mo_J1_charAt : MdOk mJ1_charAt 2 := ⟨(inL3 (List.mem_of_getElem? (i := 79) rfl)), wi_StringLatin1, by decide +kernel, ⟨by decide +kernel, by decide +kernel⟩, by decide +kernel, by decide⟩
abbrev cJ0_charAt : ByteArray := prog_18_method_56_code
theorem dJ0_charAt_0 : decode cJ0_charAt 0 = .ok (.aload_n 0, 1) := by decide +kernel
theorem dJ0_charAt_1 : decode cJ0_charAt 1 = .ok (.invokevirtual 492, 3) := by decide +kernel
theorem dJ0_charAt_4 : decode cJ0_charAt 4 = .ok (.ifCond .eq 12, 3) := by decide +kernel
theorem dJ0_charAt_7 : decode cJ0_charAt 7 = .ok (.aload_n 0, 1) := by decide +kernel
theorem dJ0_charAt_8 : decode cJ0_charAt 8 = .ok (.getfield 9, 3) := by decide +kernel
theorem dJ0_charAt_11 : decode cJ0_charAt 11 = .ok (.iload_n 1, 1) := by decide +kernel
theorem dJ0_charAt_12 : decode cJ0_charAt 12 = .ok (.invokestatic 495, 3) := by decide +kernel
theorem dJ0_charAt_15 : decode cJ0_charAt 15 = .ok (.ireturn, 1) := by decide +kernel
theorem dJ0_charAt_16 : decode cJ0_charAt 16 = .ok (.aload_n 0, 1) := by decide +kernel
theorem dJ0_charAt_17 : decode cJ0_charAt 17 = .ok (.getfield 9, 3) := by decide +kernel
theorem dJ0_charAt_20 : decode cJ0_charAt 20 = .ok (.iload_n 1, 1) := by decide +kernel
theorem dJ0_charAt_21 : decode cJ0_charAt 21 = .ok (.invokestatic 498, 3) := by decide +kernel
theorem dJ0_charAt_24 : decode cJ0_charAt 24 = .ok (.ireturn, 1) := by decide +kernel
def yJ0_charAt : MethodName := ⟨"java/lang/String", "charAt", "(I)C"⟩
abbrev mJ0_charAt : Md := (yJ0_charAt, cJ0_charAt, 2, (some FieldType.char))
theorem mo_J0_charAt : MdOk mJ0_charAt 1 := ⟨(inL3 (List.mem_of_getElem? (i := 72) rfl)), wi_String, by decide +kernel, ⟨by decide +kernel, by decide +kernel⟩, by decide +kernel, by decide⟩
theorem fl_S_38 : Cond.fieldLink "java/lang/String" 38 "java/lang/String" "COMPACT_STRINGS" "Z" ∈ wT := (inT3 (List.mem_of_getElem? (i := 67) rfl) rfl)
theorem fl_S_1053 : Cond.fieldLink "java/lang/String" 1053 "jdk/internal/util/Preconditions" "SIOOBE_FORMATTER" "Ljava/util/function/BiFunction;" ∈ wT := (inT3 (List.mem_of_getElem? (i := 83) rfl) rfl)
theorem fl_S_9 : Cond.fieldLink "java/lang/String" 9 "java/lang/String" "value" "[B" ∈ wT := (inT8 (List.mem_of_getElem? (i := 7) rfl) rfl)
theorem fl_S_15 : Cond.fieldLink "java/lang/String" 15 "java/lang/String" "coder" "B" ∈ wT := (inT8 (List.mem_of_getElem? (i := 8) rfl) rfl)
theorem ml_2_131 : Cond.methodLink RX2 131 yJ0_length ∈ wT ∧ Cond.instanceMethod yJ0_length ∈ wT ∧ Cond.selects "java/lang/String" yJ0_length yJ0_length ∈ wT := ⟨(inT3 (List.mem_of_getElem? (i := 59) rfl) rfl), (inT3 (List.mem_of_getElem? (i := 60) rfl) rfl), (inT3 (List.mem_of_getElem? (i := 61) rfl) rfl)⟩
theorem ml_S_335 : Cond.methodLink "java/lang/String" 335 yJ0_coder ∈ wT ∧ Cond.instanceMethod yJ0_coder ∈ wT ∧ Cond.selects "java/lang/String" yJ0_coder yJ0_coder ∈ wT := ⟨(inT3 (List.mem_of_getElem? (i := 63) rfl) rfl), (inT3 (List.mem_of_getElem? (i := 64) rfl) rfl), (inT3 (List.mem_of_getElem? (i := 65) rfl) rfl)⟩
theorem ml_2_135 : Cond.methodLink RX2 135 yJ0_charAt ∈ wT ∧ Cond.instanceMethod yJ0_charAt ∈ wT ∧ Cond.selects "java/lang/String" yJ0_charAt yJ0_charAt ∈ wT := ⟨(inT3 (List.mem_of_getElem? (i := 69) rfl) rfl), (inT3 (List.mem_of_getElem? (i := 70) rfl) rfl), (inT3 (List.mem_of_getElem? (i := 71) rfl) rfl)⟩
theorem ml_S_492 : Cond.methodLink "java/lang/String" 492 yJ0_isLatin1 ∈ wT ∧ Cond.instanceMethod yJ0_isLatin1 ∈ wT ∧ Cond.selects "java/lang/String" yJ0_isLatin1 yJ0_isLatin1 ∈ wT := ⟨(inT3 (List.mem_of_getElem? (i := 73) rfl) rfl), (inT3 (List.mem_of_getElem? (i := 74) rfl) rfl), (inT3 (List.mem_of_getElem? (i := 75) rfl) rfl)⟩
theorem ml_S_495 : Cond.methodLink "java/lang/String" 495 yJ1_charAt ∈ wT ∧ Cond.static yJ1_charAt ∈ wT := ⟨(inT3 (List.mem_of_getElem? (i := 77) rfl) rfl), (inT3 (List.mem_of_getElem? (i := 78) rfl) rfl)⟩
theorem ml_SL_9 : Cond.methodLink "java/lang/StringLatin1" 9 yJ0_checkIndex ∈ wT ∧ Cond.static yJ0_checkIndex ∈ wT := ⟨(inT3 (List.mem_of_getElem? (i := 80) rfl) rfl), (inT3 (List.mem_of_getElem? (i := 81) rfl) rfl)⟩
theorem ml_S_1059 : Cond.methodLink "java/lang/String" 1059 yJ3_checkIndex ∈ wT ∧ Cond.static yJ3_checkIndex ∈ wT := ⟨(inT3 (List.mem_of_getElem? (i := 85) rfl) rfl), (inT3 (List.mem_of_getElem? (i := 86) rfl) rfl)⟩
theorem ml_12_232 : Cond.methodLink RX12 232 yJ0_length ∈ wT ∧ Cond.instanceMethod yJ0_length ∈ wT ∧ Cond.selects "java/lang/String" yJ0_length yJ0_length ∈ wT := ⟨(inT6 (List.mem_of_getElem? (i := 207) rfl) rfl), (inT3 (List.mem_of_getElem? (i := 60) rfl) rfl), (inT3 (List.mem_of_getElem? (i := 61) rfl) rfl)⟩
theorem ml_12_237 : Cond.methodLink RX12 237 yJ0_charAt ∈ wT ∧ Cond.instanceMethod yJ0_charAt ∈ wT ∧ Cond.selects "java/lang/String" yJ0_charAt yJ0_charAt ∈ wT := ⟨(inT6 (List.mem_of_getElem? (i := 208) rfl) rfl), (inT3 (List.mem_of_getElem? (i := 70) rfl) rfl), (inT3 (List.mem_of_getElem? (i := 71) rfl) rfl)⟩
def sLn (j : Nat) : Nat := strL.getD j 0
def sCh (j k : Nat) : Int := ((strB.getD j []).getD k 0).toInt
theorem sCh_t : ∀ j, j < 14 → ∀ k, k < 4 → aAnd (sCh j k) 255 = sCh j k ∧ ((Int32.ofInt (sCh j k)).toUInt32 % 65536).toInt32 = Int32.ofInt (sCh j k) ∧ narrow .char (.int (Int32.ofInt (sCh j k))) = .int (Int32.ofInt (sCh j k)) ∧ (0 ≤ sCh j k ∧ sCh j k ≤ 122) ∧ Int32.ofInt (sCh j k) = (strB.getD j []).getD k 0 := by decide +kernel
theorem sLn_t : ∀ j, j < 14 → 2 ≤ sLn j ∧ sLn j ≤ 4 := by decide
section STR2
variable {l : Launch} {G : Gt} {d : Nat} {md md2 : Md} {pc : Nat} {ls : List (Option Vl)} {st : List Vl} {M M1 : Mem} {r r1 : Option Vl} {M' : Mem}
theorem rep_k {H : Heap} (hR : Rep G M H) : ∀ a : Nat, a < (gH G).size → ¬ gB G ≤ a → H[a]? = (gH G)[a]? := fun a _ h => hR.2.2.1 a (by omega)
theorem r_getSV {ix j : Nat} (q : Nat) (hd : decode (mB md) pc = .ok (.getfield ix, 3)) (hq : pc + 3 = q) (hw : Cond.fieldLink (mY md).cls ix "java/lang/String" "value" "[B" ∈ wT) (hj : j < 14) (hStr : cCnt M.2.2 1 = 28) (k : Ex l G d md q ls (vR (some (1, 14 + j)) :: st) M r M') : Ex l G d md pc ls (vR (some (1, j)) :: st) M r M' := by
  subst hq
  refine Ex.pure k fun p e R s m args below meth c H locs cells slots A Q F hR hS hl kk => ?_
  have hv : VOK M.2.2 (vR (some (1, 14 + j))) := by show 14 + j < cCnt M.2.2 1; omega
  have ea : cAd M.2.2 1 j = gS G j := hR.2.2.2.2.2.2.2.1 j (by omega)
  have eb : cAd M.2.2 1 (14 + j) = gS G (14 + j) := hR.2.2.2.2.2.2.2.1 _ (by omega)
  obtain ⟨cf, k0, fi, f, cell, h1, h2, h3, h4, h5, h6⟩ := ((F.2.2.2.2.2.2.2.2.2.2.1.2.1 j hj).2.2.1.kept (rep_k hR))
  rw [← ea] at h3
  rw [← eb] at h5
  exact W.getf F.1 F.2.1 F.2.2.2.1 (F.2.2.2.2.1 _ hw) h1 h2 h3 h4 (v := .ref (cAd M.2.2 1 (14 + j))) h5 rfl rfl hd (kk A (hS.pop.push hv) hl)
theorem r_getSC {ix j : Nat} (q : Nat) (hd : decode (mB md) pc = .ok (.getfield ix, 3)) (hq : pc + 3 = q) (hw : Cond.fieldLink (mY md).cls ix "java/lang/String" "coder" "B" ∈ wT) (hj : j < 14) (hStr : cCnt M.2.2 1 = 28) (k : Ex l G d md q ls (vI 0 :: st) M r M') : Ex l G d md pc ls (vR (some (1, j)) :: st) M r M' := by
  subst hq
  refine Ex.pure k fun p e R s m args below meth c H locs cells slots A Q F hR hS hl kk => ?_
  have hv : VOK M.2.2 (vI 0) := by show InR 0; unfold InR; omega
  have ea : cAd M.2.2 1 j = gS G j := hR.2.2.2.2.2.2.2.1 j (by omega)
  obtain ⟨cf, k0, fi, f, cell, h1, h2, h3, h4, h5, h6⟩ := ((F.2.2.2.2.2.2.2.2.2.2.1.2.1 j hj).2.1.kept (rep_k hR))
  rw [← ea] at h3
  exact W.getf F.1 F.2.1 F.2.2.2.1 (F.2.2.2.2.1 _ hw) h1 h2 h3 h4 (v := .int (Int32.ofInt 0)) h5 rfl rfl hd (kk A (hS.pop.push hv) hl)
theorem r_getsC {ix : Nat} (q : Nat) (hd : decode (mB md) pc = .ok (.getstatic ix, 3)) (hq : pc + 3 = q) (hw : Cond.fieldLink (mY md).cls ix "java/lang/String" "COMPACT_STRINGS" "Z" ∈ wT) (k : Ex l G d md q ls (vI 1 :: st) M r M') : Ex l G d md pc ls st M r M' := by
  subst hq
  refine Ex.pure k fun p e R s m args below meth c H locs cells slots A Q F hR hS hl kk => ?_
  have hv : VOK M.2.2 (vI 1) := by show InR 1; unfold InR; omega
  obtain ⟨cf, kf, fi, f, a, cell, h1, h2, h3, h4, h5, h6, h7, h8⟩ := (F.2.2.2.2.2.2.2.2.2.2.1.2.2.1.kept (rep_k hR))
  exact W.gets F.1 F.2.1 F.2.2.2.1 (F.2.2.2.2.1 _ hw) h1 h2 h3 h4 h5 (fun e => by rw [e] at h6; cases h6) (v := .int (Int32.ofInt 1)) h7 rfl hd (kk A (hS.push hv) hl)
theorem r_alenS {j : Nat} {v : Int} (q : Nat) (hd : decode (mB md) pc = .ok (.arraylength, 1)) (hq : pc + 1 = q) (hj : j < 14) (hStr : cCnt M.2.2 1 = 28) (hv : (sLn j : Int) = v) (kx : Ex l G d md q ls (vI v :: st) M r M') : Ex l G d md pc ls (vR (some (1, 14 + j)) :: st) M r M' := by
  subst hq; subst hv
  refine Ex.pure kx fun p e R s m args below meth c H locs cells slots A Q F hR hS hl kk => ?_
  have hl4 := sLn_t j hj
  have hv : VOK M.2.2 (vI (sLn j : Int)) := by show InR _; unfold InR; omega
  have eb : cAd M.2.2 1 (14 + j) = gS G (14 + j) := hR.2.2.2.2.2.2.2.1 _ (by omega)
  obtain ⟨cell, h1, h2, h3, h4, h5, h6, h7⟩ := ((F.2.2.2.2.2.2.2.2.2.2.1.2.1 j hj).2.2.2.kept (rep_k hR))
  rw [← eb] at h1
  exact W.alen (n := Int32.ofInt (sLn j : Int)) F.1 F.2.1 h1 h2 (by rw [h5, Int32.ofInt_eq_ofNat]; rfl) rfl rfl hd (kk A (hS.pop.push hv) hl)
theorem r_baldS {j : Nat} {a : Int} (q : Nat) (hd : decode (mB md) pc = .ok (.baload, 1)) (hq : pc + 1 = q) (hj : j < 14) (hStr : cCnt M.2.2 1 = 28) (ho : 0 ≤ a ∧ a < sLn j) (kx : Ex l G d md q ls (vI (sCh j a.toNat) :: st) M r M') : Ex l G d md pc ls (vI a :: vR (some (1, 14 + j)) :: st) M r M' := by
  subst hq
  refine Ex.pure kx fun p e R s m args below meth c H locs cells slots A Q F hR hS hl kk => ?_
  have hl4 := sLn_t j hj
  have ha : InR a := hS.top
  obtain ⟨-, -, -, t4, t5⟩ := sCh_t j hj a.toNat (by omega)
  have hv : VOK M.2.2 (vI (sCh j a.toNat)) := by show InR _; unfold InR; omega
  have eb : cAd M.2.2 1 (14 + j) = gS G (14 + j) := hR.2.2.2.2.2.2.2.1 _ (by omega)
  obtain ⟨cell, h1, h2, h3, h4, h5, h6, h7⟩ := ((F.2.2.2.2.2.2.2.2.2.2.1.2.1 j hj).2.2.2.kept (rep_k hR))
  rw [← eb] at h1
  have hix := i32_ix ha (sLn j) ho.1 ho.2
  refine W.bald (v := .int (Int32.ofInt (sCh j a.toNat))) F.1 F.2.1 h1 h2 h3 ?_ ?_ rfl rfl hd (kk A (hS.pop.pop.push hv) hl)
  · intro h
    rcases h with h | h
    · exact hix (.inl h)
    · exact hix (.inr (Nat.le_trans h4 h))
  · rw [i32_cl ha, h6 _ (by show a.toNat < sLn j; omega), t5]
theorem r_i2cS {x : Int} (q : Nat) (hd : decode (mB md) pc = .ok (.i2c, 1)) (hq : pc + 1 = q) (hx : ((Int32.ofInt x).toUInt32 % 65536).toInt32 = Int32.ofInt x) (k : Ex l G d md q ls (vI x :: st) M r M') : Ex l G d md pc ls (vI x :: st) M r M' :=
  Ex.pure k fun p e R s m args below meth c H locs cells slots A Q F hR hS hl kk => by subst hq; exact lv_i2c F.1 F.2.1 hd hx (kk A hS hl)
theorem r_iretN {x : Int} {ty : FieldType} (hd : decode (mB md) pc = .ok (.ireturn, 1)) (hr : mR md = some ty) (hty : narrow ty (.int (Int32.ofInt x)) = .int (Int32.ofInt x)) (h1 : r = some (vI x)) (h2 : M' = M) : Ex l G d md pc ls [vI x] M r M' := by
  subst h1; subst h2
  refine ⟨CLe.rf _, fun p e R s m args below meth c H locs cells slots nc0 ns0 mc ms A h1 h2 h3 h4 h5 h6 h7 => ?_⟩
  have e1 : mc = cells := by omega
  have e2 : ms = slots := by omega
  subst e1; subst e2
  obtain ⟨hx, hb, hml, hown, hts, hret, hlk, hnm, hK⟩ := h1
  exact W.zret (v := Int32.ofInt x) (ty := ty) hx hb (hret.trans hr) hty (fun t ht _ => ⟨rfl, by rw [ht]; exact h2, fun v hv => by cases hv; exact h4.top⟩) h3 hd hlk
/-- a method of a String constant -/
theorem r_callVS {ix j : Nat} {st0 : List Vl} (args rest : List Vl) (q : Nat) (hd : decode (mB md) pc = .ok (.invokevirtual ix, 3)) (hq : pc + 3 = q) (hj : j < 14) (hStr : cCnt M.2.2 1 = 28) (hst : st0 = args.reverse ++ vR (some (1, j)) :: rest) (hm : MdOk md2 args.length) (hw : Cond.methodLink (mY md).cls ix (mY md2) ∈ wT ∧ Cond.instanceMethod (mY md2) ∈ wT ∧ Cond.selects "java/lang/String" (mY md2) (mY md2) ∈ wT) (hn : Nat.ble ((vR (some (1, j)) :: args).flatMap sl2).length (mL md2) = true) (hr : Nat.ble rest.length 4 = true)
    (hcl : Cl l G d md2 (vR (some (1, j)) :: args) M r1 M1) (kx : Ex l G (d + 1) md q ls (r1.toList ++ rest) M1 r M') : Ex l G (d + 1) md pc ls st0 M r M' := by
  subst hst
  have hsp : ∀ c, SOK c ls (args.reverse ++ vR (some (1, j)) :: rest) → SOK c ls rest ∧ ∀ v ∈ vR (some (1, j)) :: args, VOK c v := fun c h => by
    obtain ⟨h1, h2⟩ := h.app
    refine ⟨h1.pop, fun v hv => ?_⟩
    rcases List.mem_cons.mp hv with rfl | hv
    · exact h1.top
    · exact h2 v (List.mem_reverse.mpr hv)
  refine Ex.call hq hcl kx (fun c h => (hsp c h).1) fun p e R s m as0 below meth c H locs cells slots A F hR hS hA hfr hcs => ?_
  obtain ⟨hx, hb, hml, hown, hts, hret, hlk, hnm, hK⟩ := F
  obtain ⟨hv1, hv2⟩ := hsp _ hS
  have ea : cAd M.2.2 1 j = gS G j := hR.2.2.2.2.2.2.2.1 j (by omega)
  obtain ⟨cell, q1, q2, q3, -⟩ := (hK.2.2.1.2.1 j hj).1.kept (rep_k hR)
  rw [← ea] at q1
  have hroom : ((rest.map (cv M.2.2)).map fun v => v.category).sum ≤ 8 := by
    have h1 := cat_le (c := M.2.2) (st := rest)
    have h2 : rest.length ≤ 4 := by simpa using hr
    omega
  have hM := hcl.met hm.2.2.1 (by rw [sl2_len]; simpa using hn) hv2
  have hcb := callB_of args.length hts hm.good rfl (rm := { frames := d + 1, cells := cNc M1.2.2 - cNc M.2.2, slots := cNs M1.2.2 - cNs M.2.2, locals := 64 * d + 64 }) rfl rfl (hts _ hm.2.1) (hts _ hw.1) ⟨hm.2.2.2.1.1, hm.2.2.2.1.2, hm.2.2.2.2.1⟩ (R := R) ⟨hfr.1, by have := hm.2.2.2.2.2; have h2 := hfr.2; show 8 + (mL md2 + 11) + (64 * d + 64) ≤ _; omega⟩
  exact ⟨_, va_runV (As := args.map (cv M.2.2)) (b := cAd M.2.2 1 j) (C := "java/lang/String") ⟨hx, hb, hml, hown, hts⟩ hM ⟨hcb, hts _ hw.2.1, hts _ hw.2.2⟩ ⟨mP_blind, ⟨cell, q1, q2, q3⟩, fun U hU hW => ⟨rfl, by rw [hU]; exact hR, hK.moved hW, (nW.of hts).moved hW⟩⟩ rfl (by rw [List.length_map]) hA (by show ((args.reverse ++ vR (some (1, j)) :: rest).map _) = _; rw [List.map_append, List.map_reverse]; rfl) (lv_room hroom) hd hcs⟩
theorem KJ0_coder (d : Nat) {j : Nat} (hj : j < 14) (hStr : cCnt M.2.2 1 = 28) : Cl l G d mJ0_coder [vR (some (1, j))] M (some (vI 0)) M := by
  show Ex l G d mJ0_coder 0 [some (vR (some (1, j)))] [] M (some (vI 0)) M
  refine r_getsC 3 dJ0_coder_0 rfl fl_S_38 ?_
  refine r_if_eq 6 13 dJ0_coder_3 rfl rfl (fun h => by omega) fun _ => ?_
  refine r_aload_n 7 dJ0_coder_6 rfl rfl ?_
  refine r_getSC 10 dJ0_coder_7 rfl fl_S_15 hj hStr ?_
  refine r_goto 14 dJ0_coder_10 rfl ?_
  exact r_iretN dJ0_coder_14 rfl (by decide +kernel) rfl rfl
theorem KJ0_isLatin1 (d : Nat) {j : Nat} (hj : j < 14) (hStr : cCnt M.2.2 1 = 28) : Cl l G d mJ0_isLatin1 [vR (some (1, j))] M (some (vI 1)) M := by
  show Ex l G d mJ0_isLatin1 0 [some (vR (some (1, j)))] [] M (some (vI 1)) M
  refine r_getsC 3 dJ0_isLatin1_0 rfl fl_S_38 ?_
  refine r_if_eq 6 17 dJ0_isLatin1_3 rfl rfl (fun h => by omega) fun _ => ?_
  refine r_aload_n 7 dJ0_isLatin1_6 rfl rfl ?_
  refine r_getSC 10 dJ0_isLatin1_7 rfl fl_S_15 hj hStr ?_
  refine r_if_ne 13 17 dJ0_isLatin1_10 rfl rfl (fun h => absurd rfl h) fun _ => ?_
  refine r_iconst 14 dJ0_isLatin1_13 rfl (by unfold InR; omega) ?_
  refine r_goto 18 dJ0_isLatin1_14 rfl ?_
  exact r_iretN dJ0_isLatin1_18 rfl (by decide +kernel) rfl rfl
theorem KJ0_length (d : Nat) {j : Nat} (hj : j < 14) (hStr : cCnt M.2.2 1 = 28) : Cl l G (d + 1) mJ0_length [vR (some (1, j))] M (some (vI (sLn j : Int))) M := by
  show Ex l G (d + 1) mJ0_length 0 [some (vR (some (1, j)))] [] M (some (vI (sLn j : Int))) M
  refine r_aload_n 1 dJ0_length_0 rfl rfl ?_
  refine r_getSV 4 dJ0_length_1 rfl fl_S_9 hj hStr ?_
  refine r_alenS 5 dJ0_length_4 rfl hj hStr rfl ?_
  refine r_aload_n 6 dJ0_length_5 rfl rfl ?_
  refine r_callVS [] [vI (sLn j : Int)] 9 dJ0_length_6 rfl hj hStr rfl mo_J0_coder ml_S_335 rfl rfl (KJ0_coder d hj hStr) ?_
  show Ex l G (d + 1) mJ0_length 9 [some (vR (some (1, j)))] [vI 0, vI (sLn j : Int)] M (some (vI (sLn j : Int))) M
  refine r_ishr 10 dJ0_length_9 rfl (by omega) ?_
  rw [show aShr (sLn j : Int) 0 = (sLn j : Int) by unfold aShr; simp]
  exact r_iretN dJ0_length_10 rfl rfl rfl rfl
theorem EJ3_checkIndex (d : Nat) {i n : Int} (hi : 0 ≤ i ∧ i < n) : Ex l G d mJ3_checkIndex 0 [some (vI i), some (vI n), none] [] M (some (vI i)) M := by
  refine r_iload_n 1 dJ3_checkIndex_0 rfl rfl ?_
  refine r_if_lt 4 9 dJ3_checkIndex_1 rfl rfl (fun h => by omega) fun _ => ?_
  refine r_iload_n 5 dJ3_checkIndex_4 rfl rfl ?_
  refine r_iload_n 6 dJ3_checkIndex_5 rfl rfl ?_
  refine r_icmp_lt 9 16 dJ3_checkIndex_6 rfl rfl (fun h => ?_) fun h => by omega
  refine r_iload_n 17 dJ3_checkIndex_16 rfl rfl ?_
  exact r_iretN dJ3_checkIndex_17 rfl rfl rfl rfl
/-- the check's contract, whatever its third argument is -/
theorem mtCI (d : Nat) {i n : Int} {v : Value} (hv : v.category = 1) (hi : 0 ≤ i ∧ i < n) (hn : InR n) :
    Met l yJ3_checkIndex (mW mJ3_checkIndex) { frames := d + 1, cells := cNc M.2.2 - cNc M.2.2, slots := cNs M.2.2 - cNs M.2.2, locals := 64 * d + 64 } (fun a s => a = [.int (Int32.ofInt i), .int (Int32.ofInt n), v].toArray ∧ Rep G M s.heap ∧ KS G s ∧ nW s) (QR G (some (vI i)) M) (cNc M.2.2 - cNc M.2.2) (cNs M.2.2 - cNs M.2.2) (fun q => gB G ≤ q) := by
  refine Met.ofW (cc := mB mJ3_checkIndex) (maxL := mL mJ3_checkIndex) (ret := mR mJ3_checkIndex) (by decide +kernel) rfl ?_
  intro p e s m args below meth c s₁ B hml hP
  obtain ⟨rfl, hR, hK, hN⟩ := hP
  have hts := atoms_spec (ws := mW mJ3_checkIndex) B.pre
  have hall : ∀ w ∈ wT, w.before [.int (Int32.ofInt i), .int (Int32.ofInt n), v].toArray s = true := hN.all fun w hw => hts w (List.mem_cons_of_mem _ hw)
  have hent := lv_entry [.int (Int32.ofInt i), .int (Int32.ofInt n), v] (n := mL mJ3_checkIndex) (by rcases v <;> first | exact Nat.le_refl _ | cases hv)
  rw [lg_entry_eq]
  have hI : InR i := by unfold InR at *; omega
  refine (EJ3_checkIndex (l := l) (G := G) (M := M) d hi).2 p e _ s m _ below meth c s.heap [] 0 0 (cNc M.2.2) (cNs M.2.2) _ _ _ ⟨B.exec, B.bytes, hml, findClass_of_methodNamed B.named, hall, B.returns, B.notSynchronized, (name_of_methodNamed B.named B.method).1, hK⟩ hR (fun q hq => by cases hq) ⟨fun w hw => ?_, fun w hw => by cases hw⟩ ⟨hent.1, hent.2.1, fun q hq => hent.2.2 q ?_⟩ ⟨by omega, by omega, by omega, by omega⟩ ?_
  · simp at hw
    rcases hw with rfl | rfl
    · exact hI
    · exact hn
  · have hq' : q = (0, Value.int (Int32.ofInt i)) ∨ q = (1, Value.int (Int32.ofInt n)) := by simpa [lvl, cv] using hq
    rcases hq' with rfl | rfl
    · exact List.mem_cons_self
    · exact List.mem_cons_of_mem _ List.mem_cons_self
  · exact ⟨Nat.le_refl _, Nat.le_refl _, Nat.le_refl _, Nat.le_refl _⟩
theorem r_sio {i n : Int} {ix1 ix2 : Nat} (q : Nat) (hd1 : decode (mB md) pc = .ok (.getstatic ix1, 3)) (hd2 : decode (mB md) (pc + 3) = .ok (.invokestatic ix2, 3)) (hq : pc + 3 + 3 = q) (hL : Cond.fieldLink (mY md).cls ix1 "jdk/internal/util/Preconditions" "SIOOBE_FORMATTER" "Ljava/util/function/BiFunction;" ∈ wT) (hw : Cond.methodLink (mY md).cls ix2 yJ3_checkIndex ∈ wT ∧ Cond.static yJ3_checkIndex ∈ wT) (hi : 0 ≤ i ∧ i < n) (k : Ex l G (d + 1) md q ls [vI i] M r M') : Ex l G (d + 1) md pc ls [vI n, vI i] M r M' := by
  subst hq
  refine ⟨k.1, fun p e R s m args below meth c H locs cells slots nc0 ns0 mc ms A h1 h2 h3 h4 h5 h6 h7 => ?_⟩
  have F := h1
  obtain ⟨hx, hb, hml, hown, hts, hret, hlk, hnm, hK⟩ := h1
  have hn : InR n := h4.top
  have hI : InR i := h4.pop.top
  obtain ⟨v, hv, cf, kf, fi, f, a, cell, g1, g2, g3, g4, g5, g6, g7, g8⟩ : ∃ v : Value, v.category = 1 ∧ va_Z "jdk/internal/util/Preconditions" "SIOOBE_FORMATTER" "Ljava/util/function/BiFunction;" v (fun q => gB G ≤ q) s H := by
    rcases (hK.2.2.1.2.2.2.kept (rep_k h2)) with h | ⟨t, h⟩
    · exact ⟨.null, rfl, h⟩
    · exact ⟨.ref t, rfl, h⟩
  refine W.gets hx hb hown (hts _ hL) g1 g2 g3 g4 g5 (fun e => by rw [e] at g6; cases g6) (v := v) g7 rfl hd1 ?_
  have hM := mtCI (l := l) (G := G) (M := M) d hv hi hn
  have hm := mo_J3_checkIndex
  have hcb := callB_of 3 hts hm.good rfl (rm := { frames := d + 1, cells := cNc M.2.2 - cNc M.2.2, slots := cNs M.2.2 - cNs M.2.2, locals := 64 * d + 64 }) rfl rfl (hts _ hm.2.1) (hts _ hw.1) ⟨hm.2.2.2.1.1, hm.2.2.2.1.2, hm.2.2.2.2.1⟩ (R := R) ⟨h7.1, by have := hm.2.2.2.2.2; have h2 := h7.2.1; show 8 + (mL mJ3_checkIndex + 11) + (64 * d + 64) ≤ _; omega⟩
  intro T hT X
  have hbl : FrameBlind (fun a s => a = [.int (Int32.ofInt i), .int (Int32.ofInt n), v].toArray ∧ Rep G M s.heap ∧ KS G s ∧ nW s) := fun a U g mk h => ⟨h.1, h.2.1, KS.same (s := U) (U := U.calling g mk a) rfl h.2.2.1, nW.same (s := U) (U := U.calling g mk a) rfl h.2.2.2⟩
  obtain ⟨v1, st₀, t, T', L, g0, X', hL', e1, e2, ⟨hv1, hR1, hVO⟩, stp⟩ := va_runS (As := [.int (Int32.ofInt i), .int (Int32.ofInt n), v]) (rest := []) (g := F0 m (pc + 3) A [v, .int (Int32.ofInt n), .int (Int32.ofInt i)]) ⟨hx, hb, hml, hown, hts⟩ hM ⟨hcb, hts _ hw.2⟩ ⟨hbl, fun U hU hW => ⟨rfl, by rw [hU]; exact h2, hK.moved hW, (nW.of hts).moved hW⟩⟩ rfl rfl h5.1 rfl (lv_room (by decide)) hd2 (by have := k.1.1; have := k.1.2.1; omega) T hT X
  have hv1 : v1 = (some (vI i)).map (cv M.2.2) := Outcome.returned.inj hv1
  have kk := k.2 p e R s m args below meth c t.heap (locs ++ L) (cells + (cNc M.2.2 - cNc M.2.2)) (slots + (cNs M.2.2 - cNs M.2.2)) nc0 ns0 mc ms A F hR1 (fun q hq => (List.mem_append.mp hq).elim (h3 q) (hL' q)) ⟨h4.1, fun w hw => by rw [List.mem_singleton.mp hw]; exact hI⟩ h5 ⟨by omega, by omega, h6.2.2⟩ h7 T' e1 X'
  obtain ⟨t2, a1, b1⟩ := kk
  refine ⟨t2, stp t2 ?_, b1⟩
  rw [hv1]
  exact a1
theorem KJ0_checkIndex (d : Nat) {i n : Int} (hi : 0 ≤ i ∧ i < n) : Cl l G (d + 1) mJ0_checkIndex [vI i, vI n] M none M := by
  show Ex l G (d + 1) mJ0_checkIndex 0 [some (vI i), some (vI n)] [] M none M
  refine r_iload_n 1 dJ0_checkIndex_0 rfl rfl ?_
  refine r_iload_n 2 dJ0_checkIndex_1 rfl rfl ?_
  refine r_sio 8 dJ0_checkIndex_2 dJ0_checkIndex_5 rfl fl_S_1053 ml_S_1059 hi ?_
  refine r_pop 9 dJ0_checkIndex_8 rfl rfl ?_
  exact r_vret dJ0_checkIndex_9 rfl rfl rfl
theorem KJ1_charAt (d : Nat) {j : Nat} {k : Int} (hj : j < 14) (hStr : cCnt M.2.2 1 = 28) (hk : 0 ≤ k ∧ k < sLn j) : Cl l G (d + 2) mJ1_charAt [vR (some (1, 14 + j)), vI k] M (some (vI (sCh j k.toNat))) M := by
  show Ex l G (d + 2) mJ1_charAt 0 [some (vR (some (1, 14 + j))), some (vI k)] [] M (some (vI (sCh j k.toNat))) M
  have hl4 := sLn_t j hj
  obtain ⟨t1, t2, t3, t4, t5⟩ := sCh_t j hj k.toNat (by omega)
  refine r_iload_n 1 dJ1_charAt_0 rfl rfl ?_
  refine r_aload_n 2 dJ1_charAt_1 rfl rfl ?_
  refine r_alenS 3 dJ1_charAt_2 rfl hj hStr rfl ?_
  refine r_callS [vI k, vI (sLn j : Int)] [] 6 dJ1_charAt_3 rfl rfl mo_J0_checkIndex ml_SL_9 rfl rfl (KJ0_checkIndex d hk) ?_
  show Ex l G (d + 2) mJ1_charAt 6 [some (vR (some (1, 14 + j))), some (vI k)] [] M (some (vI (sCh j k.toNat))) M
  refine r_aload_n 7 dJ1_charAt_6 rfl rfl ?_
  refine r_iload_n 8 dJ1_charAt_7 rfl rfl ?_
  refine r_baldS 9 dJ1_charAt_8 rfl hj hStr hk ?_
  refine r_sipush 12 dJ1_charAt_9 rfl rfl ?_
  refine r_iand 13 dJ1_charAt_12 rfl ?_
  rw [t1]
  refine r_i2cS 14 dJ1_charAt_13 rfl t2 ?_
  exact r_iretN dJ1_charAt_14 rfl t3 rfl rfl
theorem KJ0_charAt (d : Nat) {j : Nat} {k : Int} (hj : j < 14) (hStr : cCnt M.2.2 1 = 28) (hk : 0 ≤ k ∧ k < sLn j) : Cl l G (d + 3) mJ0_charAt [vR (some (1, j)), vI k] M (some (vI (sCh j k.toNat))) M := by
  show Ex l G (d + 3) mJ0_charAt 0 [some (vR (some (1, j))), some (vI k)] [] M (some (vI (sCh j k.toNat))) M
  have hl4 := sLn_t j hj
  obtain ⟨t1, t2, t3, t4, t5⟩ := sCh_t j hj k.toNat (by omega)
  refine r_aload_n 1 dJ0_charAt_0 rfl rfl ?_
  refine r_callVS [] [] 4 dJ0_charAt_1 rfl hj hStr rfl mo_J0_isLatin1 ml_S_492 rfl rfl (KJ0_isLatin1 (d + 2) hj hStr) ?_
  show Ex l G (d + 3) mJ0_charAt 4 [some (vR (some (1, j))), some (vI k)] [vI 1] M (some (vI (sCh j k.toNat))) M
  refine r_if_eq 7 16 dJ0_charAt_4 rfl rfl (fun h => by omega) fun _ => ?_
  refine r_aload_n 8 dJ0_charAt_7 rfl rfl ?_
  refine r_getSV 11 dJ0_charAt_8 rfl fl_S_9 hj hStr ?_
  refine r_iload_n 12 dJ0_charAt_11 rfl rfl ?_
  refine r_callS [vR (some (1, 14 + j)), vI k] [] 15 dJ0_charAt_12 rfl rfl mo_J1_charAt ml_S_495 rfl rfl (KJ1_charAt d hj hStr hk) ?_
  exact r_iretN dJ0_charAt_15 rfl t3 rfl rfl
theorem s_len {ix j : Nat} {st0 : List Vl} (rest : List Vl) (q : Nat) (hd : decode (mB md) pc = .ok (.invokevirtual ix, 3)) (hq : pc + 3 = q) (hj : j < 14) (hStr : cCnt M.2.2 1 = 28) (hst : st0 = vR (some (1, j)) :: rest) (hw : Cond.methodLink (mY md).cls ix yJ0_length ∈ wT ∧ Cond.instanceMethod yJ0_length ∈ wT ∧ Cond.selects "java/lang/String" yJ0_length yJ0_length ∈ wT) (hr : Nat.ble rest.length 4 = true) (kx : Ex l G (d + 4) md q ls (vI ((sLn j : Nat) : Int) :: rest) M r M') : Ex l G (d + 4) md pc ls st0 M r M' :=
  r_callVS [] rest q hd hq hj hStr hst mo_J0_length hw rfl hr (KJ0_length (d + 2) hj hStr) kx
theorem s_chr {ix j : Nat} {k : Int} {st0 : List Vl} (rest : List Vl) (q : Nat) (hd : decode (mB md) pc = .ok (.invokevirtual ix, 3)) (hq : pc + 3 = q) (hj : j < 14) (hStr : cCnt M.2.2 1 = 28) (hk : 0 ≤ k ∧ k < ((sLn j : Nat) : Int)) (hst : st0 = vI k :: vR (some (1, j)) :: rest) (hw : Cond.methodLink (mY md).cls ix yJ0_charAt ∈ wT ∧ Cond.instanceMethod yJ0_charAt ∈ wT ∧ Cond.selects "java/lang/String" yJ0_charAt yJ0_charAt ∈ wT) (hr : Nat.ble rest.length 4 = true) (kx : Ex l G (d + 4) md q ls (vI (sCh j k.toNat) :: rest) M r M') : Ex l G (d + 4) md pc ls st0 M r M' :=
  r_callVS [vI k] rest q hd hq hj hStr hst mo_J0_charAt hw rfl hr (KJ0_charAt d hj hStr hk) kx
end STR2
