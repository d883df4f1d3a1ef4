/-! read on the class -/
section CW11
variable {l : Launch} {G : Gt} {d : Nat} {M : Mem} {t : Tp} {n : Nat}
set_option maxRecDepth 4000 in
theorem xX2_read_0 {l : Launch} {G : Gt} {d : Nat} {M M' : Mem} {r : Option Vl} {x2 : Int} (h : 
    ∃ (M_1 : Mem), Cl l G d mX2_readHead [vR (some (12, 0))] ((upI (upI (upI (upI (upI (upI (upI M.1 12 0 1 (if 400 < x2 then 400 else x2 : Int)) 12 0 3 0) 12 0 4 0) 12 0 5 0) 12 0 9 0) 12 0 6 0) 12 0 7 0), (upR M.2.1 12 0 0 (some (16, 0))), M.2.2) none M_1 ∧ (∃ (M_3 : Mem), Cl l G d mX2_readTest [vR (some (12, 0)), vI 0, vI 0] M_1 none M_3 ∧ ((¬ ((M_3.1 12 0 4) = 0) → r = some (vI (M_3.1 12 0 4)) ∧ M' = M_3) ∧ ((M_3.1 12 0 4) = 0 → ∃ (r_7 : Int) (M_5 : Mem), Cl l G d mX2_look [vR (some (12, 0))] M_3 (some (vI r_7)) M_5 ∧ (((M_5.1 12 0 1) ≤ (M_5.1 12 0 2) → r = some (vI (M_5.1 12 0 4)) ∧ M' = M_5) ∧ (¬ ((M_5.1 12 0 1) ≤ (M_5.1 12 0 2)) → ∃ (M_8 : Mem), Cl l G d mX2_fail [vR (some (12, 0)), vI 0] M_5 none M_8 ∧ r = some (vI (M_8.1 12 0 4)) ∧ M' = M_8)))))) : Cl l G (d + 1) mX2_read [vR (some (12, 0)), vR (some (16, 0)), vI x2] M r M' := by
  show Ex l G (d + 1) mX2_read 0 [some (vR (some (12, 0))), some (vR (some (16, 0))), some (vI x2)] [] M r M'
  refine r_aload_n 1 dX2_read_0 rfl rfl ?_
  refine r_aload_n 2 dX2_read_1 rfl rfl ?_
  refine p_R 5 dX2_read_2 rfl rfl rfl rfl pf_2_9 (.inl rfl) rfl ?_
  refine r_aload_n 6 dX2_read_5 rfl rfl ?_
  refine r_iload_n 7 dX2_read_6 rfl rfl ?_
  refine r_aload_n 8 dX2_read_7 rfl rfl ?_
  refine r_alen (v := 400) 9 dX2_read_8 rfl rfl (.inl rfl) rfl (InR_of rfl) ?_
  refine r_min 12 dX2_read_9 rfl (inT3 (List.mem_of_getElem? (i := 31) rfl) rfl) rfl ?_
  refine p_I 15 dX2_read_12 rfl rfl rfl rfl pf_2_24 (.inl rfl) rfl ?_
  refine r_aload_n 16 dX2_read_15 rfl rfl ?_
  refine r_iconst 17 dX2_read_16 rfl (InR_of rfl) ?_
  refine p_I 20 dX2_read_17 rfl rfl rfl rfl pf_2_28 (.inl rfl) rfl ?_
  refine r_aload_n 21 dX2_read_20 rfl rfl ?_
  refine r_iconst 22 dX2_read_21 rfl (InR_of rfl) ?_
  refine p_I 25 dX2_read_22 rfl rfl rfl rfl pf_2_31 (.inl rfl) rfl ?_
  refine r_aload_n 26 dX2_read_25 rfl rfl ?_
  refine r_iconst 27 dX2_read_26 rfl (InR_of rfl) ?_
  refine p_I 30 dX2_read_27 rfl rfl rfl rfl pf_2_34 (.inl rfl) rfl ?_
  refine r_aload_n 31 dX2_read_30 rfl rfl ?_
  refine r_iconst 32 dX2_read_31 rfl (InR_of rfl) ?_
  refine p_I 35 dX2_read_32 rfl rfl rfl rfl pf_2_37 (.inl rfl) rfl ?_
  refine r_aload_n 36 dX2_read_35 rfl rfl ?_
  refine r_iconst 37 dX2_read_36 rfl (InR_of rfl) ?_
  refine p_Z 40 dX2_read_37 rfl rfl rfl rfl pf_2_40 (.inl rfl) rfl (.inl rfl) ?_
  refine r_aload_n 41 dX2_read_40 rfl rfl ?_
  refine r_iconst 42 dX2_read_41 rfl (InR_of rfl) ?_
  refine p_Z 45 dX2_read_42 rfl rfl rfl rfl pf_2_44 (.inl rfl) rfl (.inl rfl) ?_
  refine r_aload_n 46 dX2_read_45 rfl rfl ?_
  obtain ⟨M_1, hc_2, h⟩ := h
  refine v_0 (ci := 2) (C := (RX2, TX2, 10)) [] [] 49 dX2_read_46 rfl rfl rfl rfl rfl mo_X2_readHead ml_2_47 rfl rfl hc_2 ?_
  refine r_aload_n 50 dX2_read_49 rfl rfl ?_
  refine r_iconst 51 dX2_read_50 rfl (InR_of rfl) ?_
  refine r_iconst 52 dX2_read_51 rfl (InR_of rfl) ?_
  obtain ⟨M_3, hc_4, h⟩ := h
  refine v_0 (ci := 2) (C := (RX2, TX2, 10)) [vI 0, vI 0] [] 55 dX2_read_52 rfl rfl rfl rfl rfl mo_X2_readTest ml_2_50 rfl rfl hc_4 ?_
  refine r_aload_n 56 dX2_read_55 rfl rfl ?_
  refine g_I 59 dX2_read_56 rfl rfl rfl fi_2_31 rfl ?_
  refine r_if_ne 62 83 dX2_read_59 rfl rfl (fun c => ?_) (fun c => ?_)
  · have h := h.1 (c)
    refine r_aload_n 84 dX2_read_83 rfl rfl ?_
    refine g_I 87 dX2_read_84 rfl rfl rfl fi_2_31 rfl ?_
    exact r_iret dX2_read_87 rfl (.inl rfl) h.1 h.2
  · have h := h.2 (Decidable.not_not.mp c)
    refine r_aload_n 63 dX2_read_62 rfl rfl ?_
    obtain ⟨r_7, M_5, hc_6, h⟩ := h
    refine v_1 (ci := 2) (C := (RX2, TX2, 10)) [] [] 66 dX2_read_63 rfl rfl rfl rfl rfl mo_X2_look ml_2_54 rfl rfl hc_6 ?_
    refine r_pop 67 dX2_read_66 rfl rfl ?_
    refine r_aload_n 68 dX2_read_67 rfl rfl ?_
    refine g_I 71 dX2_read_68 rfl rfl rfl fi_2_58 rfl ?_
    refine r_aload_n 72 dX2_read_71 rfl rfl ?_
    refine g_I 75 dX2_read_72 rfl rfl rfl fi_2_24 rfl ?_
    refine r_icmp_ge 78 83 dX2_read_75 rfl rfl (fun c => ?_) (fun c => ?_)
    · have h := h.1 (c)
      refine r_aload_n 84 dX2_read_83 rfl rfl ?_
      refine g_I 87 dX2_read_84 rfl rfl rfl fi_2_31 rfl ?_
      exact r_iret dX2_read_87 rfl (.inl rfl) h.1 h.2
    · have h := h.2 (c)
      refine r_aload_n 79 dX2_read_78 rfl rfl ?_
      refine r_iconst 80 dX2_read_79 rfl (InR_of rfl) ?_
      obtain ⟨M_8, hc_9, h⟩ := h
      refine v_0 (ci := 2) (C := (RX2, TX2, 10)) [vI 0] [] 83 dX2_read_80 rfl rfl rfl rfl rfl mo_X2_fail ml_2_61 rfl rfl hc_9 ?_
      refine r_aload_n 84 dX2_read_83 rfl rfl ?_
      refine g_I 87 dX2_read_84 rfl rfl rfl fi_2_31 rfl ?_
      exact r_iret dX2_read_87 rfl (.inl rfl) h.1 h.2

theorem Sh_text (h : Sh M.2.1) : Sh (upR M.2.1 12 0 0 (some (16, 0))) := h.congr fun f k i hs => by
  by_cases e : f = 12 ∧ k = 0
  · obtain ⟨rfl, rfl⟩ := e
    rw [upR_c]
    by_cases e2 : i = 0
    · subst e2; exact absurd hs (by decide)
    · rw [if_neg e2]
  · rw [upR_o e]
/-- what read leaves: the end of the machine, the row, the words ahead -/
theorem KX2_read (hS : Sh M.2.1) (hStr : cCnt M.2.2 1 = 28) (hn : n ≤ 400) (hT : ∀ i, i < 400 → M.1 16 0 i = t i ∧ (0 ≤ t i ∧ t i ≤ 255)) : ∃ I' c', Cl l G (d + 70) mX2_read [vR (some (12, 0)), vR (some (16, 0)), vI (n : Int)] M (some (vI (cE c'))) (I', upR M.2.1 12 0 0 (some (16, 0)), M.2.2) ∧ Rn t n (c0 t n) c' ∧ cM c' = 3 ∧ (∃ st sp fa o, Cg t n st sp (cE c') fa o I' ∧ (cE c' = 0 → o = cO c')) ∧ I' 12 0 6 = bZ (hdR t n).2.1 ∧ I' 12 0 7 = bZ (hdR t n).2.2 ∧ ∀ f k i, ¬ (k = 0 ∧ ((f = 12 ∧ 1 ≤ i ∧ i ≤ 9 ∧ ¬ i = 8) ∨ f = 22)) → I' f k i = M.1 f k i := by
  have hS' := Sh_text hS
  have hX' : (upR M.2.1 12 0 0 (some (16, 0))) 12 0 0 = some (16, 0) := by rw [upR_c, if_pos rfl]
  obtain ⟨J, hJ⟩ : ∃ J : IM, J = upI (upI (upI (upI (upI (upI (upI M.1 12 0 1 (if 400 < (n : Int) then 400 else (n : Int))) 12 0 3 0) 12 0 4 0) 12 0 5 0) 12 0 9 0) 12 0 6 0) 12 0 7 0 := ⟨_, rfl⟩
  have fJ : ∀ f k i, ¬ (k = 0 ∧ ((f = 12 ∧ 1 ≤ i ∧ i ≤ 9 ∧ ¬ i = 8) ∨ f = 22)) → J f k i = M.1 f k i := fun f k i h => by
    rw [hJ, upI_ne (by omega), upI_ne (by omega), upI_ne (by omega), upI_ne (by omega), upI_ne (by omega), upI_ne (by omega), upI_ne (by omega)]
  have j1 : J 12 0 1 = (n : Int) := by rw [hJ, upI_ne (by omega), upI_ne (by omega), upI_ne (by omega), upI_ne (by omega), upI_ne (by omega), upI_ne (by omega), upI_s, if_neg (by omega)]
  have j3 : J 12 0 3 = ((0 : Nat) : Int) := by rw [hJ, upI_ne (by omega), upI_ne (by omega), upI_ne (by omega), upI_ne (by omega), upI_ne (by omega), upI_s]; rfl
  have j4 : J 12 0 4 = 0 := by rw [hJ, upI_ne (by omega), upI_ne (by omega), upI_ne (by omega), upI_ne (by omega), upI_s]
  have j5 : J 12 0 5 = ((0 : Nat) : Int) := by rw [hJ, upI_ne (by omega), upI_ne (by omega), upI_ne (by omega), upI_s]; rfl
  have j9 : J 12 0 9 = 0 := by rw [hJ, upI_ne (by omega), upI_ne (by omega), upI_s]
  have j6 : J 12 0 6 = bZ false := by rw [hJ, upI_ne (by omega), upI_s]; rfl
  have j7 : J 12 0 7 = bZ false := by rw [hJ, upI_s]; rfl
  have TJ : CTp t n (upI J 12 0 2 ((0 : Nat) : Int)) := ⟨by rw [upI_ne (by omega)]; exact j1, hn, fun i hi => by rw [upI_ne (by omega), fJ _ _ _ (by omega)]; exact hT i hi⟩
  have cJ : Cg t n 0 0 0 0 [] (upI J 12 0 2 ((0 : Nat) : Int)) := ⟨TJ, by rw [upI_s], by rw [upI_ne (by omega)]; exact j3, by rw [upI_ne (by omega)]; exact j4, by rw [upI_ne (by omega)]; exact j5, by rw [upI_ne (by omega)]; exact j9, fun k hk => by cases hk⟩
  obtain ⟨I1, k1, k2, ⟨st1, sp1, c1, s1, b1⟩, k6, k7⟩ := hd_2 (l := l) (G := G) (d := d + 62) (t := t) (n := n) 2 (M := (J, upR M.2.1 12 0 0 (some (16, 0)), M.2.2)) (st := 0) (sp := 0) (a := false) (b := false) (x1 := 0) rfl hX' hStr cJ (fun h => by omega) (by omega) j6 j7
  have hle : (hdR t n).1 ≤ n := by have := (rn_ge (fun i => decide (t i = 32)) n sp1 s1).2; have b1' : bl t n sp1 = (hdR t n).1 := b1; rw [← b1']; exact this
  have hbb : bl t n sp1 = bl t n (cP (c0 t n)) := by
    show bl t n sp1 = bl t n (hdR t n).1
    have b1' : bl t n sp1 = (hdR t n).1 := b1
    rw [← b1']; exact (rn_rn _ _ _ s1).symm
  obtain ⟨I2, c', z1, z2, z3, z4, z5⟩ := rd_tail (l := l) (G := G) (d := d) (M := (I1, upR M.2.1 12 0 0 (some (16, 0)), M.2.2)) (c := c0 t n) hS' hX' hStr (c0_inv hle) rfl rfl rfl ⟨st1, sp1, c1, s1, hbb⟩
  refine ⟨I2, c', xX2_read_0 ⟨(I1, upR M.2.1 12 0 0 (some (16, 0)), M.2.2), by rw [← hJ]; exact xX2_readHead_0 k1, z1⟩, z3, z4, z5, by rw [z2 _ _ _ (by omega)]; exact k6, by rw [z2 _ _ _ (by omega)]; exact k7, fun f k i h => ?_⟩
  rw [z2 _ _ _ (by omega)]
  show I1 f k i = _
  rw [k2 _ _ _ (by omega)]
  exact fJ f k i h
end CW11
