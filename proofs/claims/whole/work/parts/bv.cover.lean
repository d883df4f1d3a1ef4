/-! cover on the class -/
set_option maxRecDepth 4000 in
theorem xX1_init_0 {l : Launch} {G : Gt} {d : Nat} {M M' : Mem} {r : Option Vl} {k0 : Nat} {x1 : Int} {k2 : Nat} {x3 : Int} {x4 : Int} (h : 
    ((x3 = 0 ∨ x3 = 1) ∧ (x4 = 0 ∨ x4 = 1)) ∧ r = none ∧ M' = ((upI (upI (upI M.1 13 k0 0 x1) 13 k0 2 x3) 13 k0 3 x4), (upR M.2.1 13 k0 1 (some (47, k2))), M.2.2)) : Cl l G (d + 1) mX1_init [vR (some (13, k0)), vI x1, vR (some (47, k2)), vI x3, vI x4] M r M' := by
  show Ex l G (d + 1) mX1_init 0 [some (vR (some (13, k0))), some (vI x1), some (vR (some (47, k2))), some (vI x3), some (vI x4)] [] M r M'
  obtain ⟨⟨o_1, o_2⟩, h⟩ := h
  refine r_aload_n 1 dX1_init_0 rfl rfl ?_
  refine r_objInit 4 dX1_init_1 rfl rfl ⟨(inT3 (List.mem_of_getElem? (i := 175) rfl) rfl), (inT1 (List.mem_of_getElem? (i := 28) rfl) rfl), (inT1 (List.mem_of_getElem? (i := 29) rfl) rfl)⟩ rfl ?_
  refine r_aload_n 5 dX1_init_4 rfl rfl ?_
  refine r_iload_n 6 dX1_init_5 rfl rfl ?_
  refine p_I 9 dX1_init_6 rfl rfl rfl rfl pf_1_7 (.inr rfl) rfl ?_
  refine r_aload_n 10 dX1_init_9 rfl rfl ?_
  refine r_aload_n 11 dX1_init_10 rfl rfl ?_
  refine p_R 14 dX1_init_11 rfl rfl rfl rfl pf_1_13 (.inr rfl) rfl ?_
  refine r_aload_n 15 dX1_init_14 rfl rfl ?_
  refine r_iload_n 16 dX1_init_15 rfl rfl ?_
  refine p_Z 19 dX1_init_16 rfl rfl rfl rfl pf_1_17 (.inr rfl) rfl o_1 ?_
  refine r_aload_n 20 dX1_init_19 rfl rfl ?_
  refine r_iload 22 dX1_init_20 rfl rfl ?_
  refine p_Z 25 dX1_init_22 rfl rfl rfl rfl pf_1_21 (.inr rfl) rfl o_2 ?_
  exact r_vret dX1_init_25 rfl h.1 h.2

set_option maxRecDepth 4000 in
theorem xX2_newCover_0 {l : Launch} {G : Gt} {d : Nat} {M M' : Mem} {r : Option Vl} {x1 : Int} (hS : Sh M.2.1) (h : 
    (∀ M_1 : Mem, newM M 13 0 4 = M_1 → ∃ (k_4 : Nat) (M_2 : Mem), Cl l G d mJ7_copyOf_59c91 [vR (some (22, 0)), vI (M.1 12 0 9)] M_1 (some (vR (some (47, k_4)))) M_2 ∧ (∃ (M_5 : Mem), Cl l G d mX1_init [vR (some (13, cCnt M.2.2 13)), vI x1, vR (some (47, k_4)), vI (M_2.1 12 0 6), vI (M_2.1 12 0 7)] M_2 none M_5 ∧ r = some (vR (some (13, cCnt M.2.2 13))) ∧ M' = M_5))) : Cl l G (d + 1) mX2_newCover [vR (some (12, 0)), vI x1] M r M' := by
  show Ex l G (d + 1) mX2_newCover 0 [some (vR (some (12, 0))), some (vI x1)] [] M r M'
  refine r_new (f := 13) (ci := 1) (C := (RX1, TX1, 4)) 3 dX2_newCover_0 rfl rfl rfl rfl (inT3 (List.mem_of_getElem? (i := 156) rfl) rfl) (inT3 (List.mem_of_getElem? (i := 157) rfl) rfl) wi_1 ?_
  generalize hM_1 : newM M 13 0 4 = M_1
  have h := h M_1 hM_1
  refine r_dup 4 dX2_newCover_3 rfl rfl ?_
  refine r_iload_n 5 dX2_newCover_4 rfl rfl ?_
  refine r_aload_n 6 dX2_newCover_5 rfl rfl ?_
  refine g_R 9 dX2_newCover_6 rfl rfl rfl fr_2_15 ((newM_R hM_1 rfl).trans (sh_2_8 hS)) ?_
  refine r_aload_n 10 dX2_newCover_9 rfl rfl ?_
  refine g_I 13 dX2_newCover_10 rfl rfl rfl fi_2_37 (newM_I hM_1 rfl) ?_
  obtain ⟨k_4, M_2, hc_3, h⟩ := h
  refine c_1 [vR (some (22, 0)), vI (M.1 12 0 9)] [vI x1, vR (some (13, cCnt M.2.2 13)), vR (some (13, cCnt M.2.2 13))] 16 dX2_newCover_13 rfl rfl mo_J7_copyOf_59c91 ml_2_67 rfl rfl hc_3 ?_
  refine r_aload_n 17 dX2_newCover_16 rfl rfl ?_
  refine g_I 20 dX2_newCover_17 rfl rfl rfl fi_2_40 rfl ?_
  refine r_aload_n 21 dX2_newCover_20 rfl rfl ?_
  refine g_I 24 dX2_newCover_21 rfl rfl rfl fi_2_44 rfl ?_
  obtain ⟨M_5, hc_6, h⟩ := h
  refine r_callI [vI x1, vR (some (47, k_4)), vI (M_2.1 12 0 6), vI (M_2.1 12 0 7)] [vR (some (13, cCnt M.2.2 13))] 27 dX2_newCover_24 rfl rfl rfl mo_X1_init ⟨rfl, rfl⟩ ml_2_73 rfl rfl hc_6 ?_
  exact r_aret dX2_newCover_27 rfl rfl h.1 h.2

set_option maxRecDepth 4000 in
theorem xX11_cover_0 {l : Launch} {G : Gt} {d : Nat} {M M' : Mem} {r : Option Vl}  (hS : Sh M.2.1) (h : 
    ((M.1 2 0 10) < 8 → ∃ (r_3 : Int) (M_1 : Mem), Cl l G d mX2_read [vR (some (12, 0)), vR (some (16, 0)), vI (M.1 2 0 12)] M (some (vI r_3)) M_1 ∧ Sh M_1.2.1 ∧ ((r_3 = 0 → ∃ (k_6 : Nat) (M_4 : Mem), Cl l G d mX2_newCover [vR (some (12, 0)), vI (M_1.1 2 0 10)] ((upI M_1.1 2 0 12 0), M_1.2.1, M_1.2.2) (some (vR (some (13, k_6)))) M_4 ∧ ((0 ≤ (M_1.1 2 0 10) ∧ (M_1.1 2 0 10) < 8) ∧ InR ((M_4.1 2 0 10) + 1)) ∧ r = some (vI (M_4.1 2 0 10)) ∧ M' = ((upI M_4.1 2 0 10 ((M_4.1 2 0 10) + 1)), (upR M_4.2.1 15 0 (M_1.1 2 0 10).toNat (some (13, k_6))), M_4.2.2)) ∧ (¬ (r_3 = 0) → (InR ((-2) - r_3)) ∧ r = some (vI ((-2) - r_3)) ∧ M' = ((upI M_1.1 2 0 12 0), M_1.2.1, M_1.2.2)))) ∧ (¬ ((M.1 2 0 10) < 8) → r = some (vI (-1)) ∧ M' = M)) : Cl l G (d + 1) mX11_cover [vR (some (2, 0))] M r M' := by
  show Ex l G (d + 1) mX11_cover 0 [some (vR (some (2, 0))), none] [] M r M'
  refine r_aload_n 1 dX11_cover_0 rfl rfl ?_
  refine g_I 4 dX11_cover_1 rfl rfl rfl fi_11_153 rfl ?_
  refine r_bipush 6 dX11_cover_4 rfl rfl ?_
  refine r_icmp_lt 9 11 dX11_cover_6 rfl rfl (fun c => ?_) (fun c => ?_)
  · have h := h.1 (c)
    refine r_aload_n 12 dX11_cover_11 rfl rfl ?_
    refine g_R 15 dX11_cover_12 rfl rfl rfl fr_11_65 (sh_11_7 hS) ?_
    refine r_aload_n 16 dX11_cover_15 rfl rfl ?_
    refine g_R 19 dX11_cover_16 rfl rfl rfl fr_11_82 (sh_11_11 hS) ?_
    refine r_aload_n 20 dX11_cover_19 rfl rfl ?_
    refine g_I 23 dX11_cover_20 rfl rfl rfl fi_11_147 rfl ?_
    obtain ⟨r_3, M_1, hc_2, hS, h⟩ := h
    refine v_1 (ci := 2) (C := (RX2, TX2, 10)) [vR (some (16, 0)), vI (M.1 2 0 12)] [] 26 dX11_cover_23 rfl rfl rfl rfl rfl mo_X2_read ml_11_156 rfl rfl hc_2 ?_
    refine r_istore_n (ls' := [some (vR (some (2, 0))), some (vI r_3)]) 27 dX11_cover_26 rfl rfl rfl rfl ?_
    refine r_aload_n 28 dX11_cover_27 rfl rfl ?_
    refine r_iconst 29 dX11_cover_28 rfl (InR_of rfl) ?_
    refine p_I 32 dX11_cover_29 rfl rfl rfl rfl pf_11_147 (.inl rfl) rfl ?_
    refine r_iload_n 33 dX11_cover_32 rfl rfl ?_
    refine r_if_eq 36 41 dX11_cover_33 rfl rfl (fun c => ?_) (fun c => ?_)
    · have h := h.1 (c)
      refine r_aload_n 42 dX11_cover_41 rfl rfl ?_
      refine g_R 45 dX11_cover_42 rfl rfl rfl fr_11_78 (mR_0 (sh_11_9 hS)) ?_
      refine r_aload_n 46 dX11_cover_45 rfl rfl ?_
      refine g_I 49 dX11_cover_46 rfl rfl rfl fi_11_153 (mI_0 (upI_i (by decide))) ?_
      refine r_aload_n 50 dX11_cover_49 rfl rfl ?_
      refine g_R 53 dX11_cover_50 rfl rfl rfl fr_11_65 (mR_0 (sh_11_7 hS)) ?_
      refine r_aload_n 54 dX11_cover_53 rfl rfl ?_
      refine g_I 57 dX11_cover_54 rfl rfl rfl fi_11_153 (mI_0 (upI_i (by decide))) ?_
      obtain ⟨k_6, M_4, hc_5, h⟩ := h
      refine v_1 (ci := 2) (C := (RX2, TX2, 10)) [vI (M_1.1 2 0 10)] [vI (M_1.1 2 0 10), vR (some (15, 0))] 60 dX11_cover_57 rfl rfl rfl rfl rfl mo_X2_newCover ml_11_160 rfl rfl hc_5 ?_
      obtain ⟨⟨o_7, o_8⟩, h⟩ := h
      refine s_R (ci := 1) 8 61 dX11_cover_60 rfl rfl rfl rfl rfl rfl rfl rfl o_7 ?_
      refine r_aload_n 62 dX11_cover_61 rfl rfl ?_
      refine r_dup 63 dX11_cover_62 rfl rfl ?_
      refine g_I 66 dX11_cover_63 rfl rfl rfl fi_11_153 (mI_0 rfl) ?_
      refine r_dup_x1 67 dX11_cover_66 rfl rfl ?_
      refine r_iconst 68 dX11_cover_67 rfl (InR_of rfl) ?_
      refine r_iadd 69 dX11_cover_68 rfl o_8 ?_
      refine p_I 72 dX11_cover_69 rfl rfl rfl rfl pf_11_153 (.inl rfl) rfl ?_
      exact r_iret dX11_cover_72 rfl (.inl rfl) h.1 h.2
    · have h := h.2 (c)
      obtain ⟨o_9, h⟩ := h
      refine r_bipush 38 dX11_cover_36 rfl rfl ?_
      refine r_iload_n 39 dX11_cover_38 rfl rfl ?_
      refine r_isub 40 dX11_cover_39 rfl o_9 ?_
      exact r_iret dX11_cover_40 rfl (.inl rfl) h.1 h.2
  · have h := h.2 (c)
    refine r_iconst 10 dX11_cover_9 rfl (InR_of rfl) ?_
    exact r_iret dX11_cover_10 rfl (.inl rfl) h.1 h.2

section CVC
variable {l : Launch} {G : Gt} {d : Nat} {Q Q' : QT} {M M' : Mem}
/-- the relation behind cover -/
theorem RelC.cv (hR : RelC Q M) (hw : WFA Q) (hO : ∀ f i, ¬ covF (nCv Q) f i → Q' f i = Q f i) (e29 : Q' 3 29 = 0) (hS' : Sh M'.2.1)
    (hI : ∀ f k i, ¬ (f = 12 ∨ f = 22 ∨ (f = 2 ∧ (i = 10 ∨ i = 12)) ∨ ((f = 13 ∨ f = 47) ∧ k = nCv Q)) → M'.1 f k i = M.1 f k i)
    (hRr : ∀ f k i, ¬ (f = 12 ∨ (f = 15 ∧ i = nCv Q) ∨ ((f = 13 ∨ f = 47) ∧ k = nCv Q)) → M'.2.1 f k i = M.2.1 f k i)
    (hc : ∀ f, ¬ (f = 13 ∨ f = 47) → cCnt M'.2.2 f = cCnt M.2.2 f) (hl : CLe M.2.2 M'.2.2) (h12 : M'.1 2 0 12 = 0) (h10 : M'.1 2 0 10 = Q' 3 33)
    (hN : (nCv Q' = nCv Q ∧ cCnt M'.2.2 13 = nCv Q ∧ cCnt M'.2.2 47 = nCv Q) ∨ (nCv Q' = nCv Q + 1 ∧ cCnt M'.2.2 13 = nCv Q + 1 ∧ cCnt M'.2.2 47 = nCv Q + 1 ∧ M'.2.1 15 0 (nCv Q) = some (13, nCv Q) ∧ CovC Q' M' (nCv Q) (nCv Q) ∧ M'.1 13 (nCv Q) 0 = (nCv Q : Int) ∧ M'.1 13 (nCv Q) 2 = Q' 83 (nCv Q) ∧ M'.1 13 (nCv Q) 3 = Q' 84 (nCv Q))) : RelC Q' M' := by
  have hf : ∀ f, 48 ≤ f → f ≤ 70 → Q' f = Q f := fun f _ _ => funext fun i => hO f i (by unfold covF; omega)
  have qc : eqC Q Q' := ⟨by rw [hf _ (by omega) (by omega)], by rw [hf _ (by omega) (by omega)], hf _ (by omega) (by omega), hf _ (by omega) (by omega), hf _ (by omega) (by omega), hf _ (by omega) (by omega), hf _ (by omega) (by omega), hf _ (by omega) (by omega), hf _ (by omega) (by omega)⟩
  have qr : eqR Q Q' := ⟨by rw [hf _ (by omega) (by omega)], hf _ (by omega) (by omega), hf _ (by omega) (by omega), hf _ (by omega) (by omega)⟩
  have him : Q' 90 = Q 90 := funext fun i => hO _ _ (by unfold covF; omega)
  obtain ⟨⟨⟨hS, hC, hP, hF, hCv, hK⟩, hW, hRd⟩, hSt, hTp, hIm, hCn⟩ := hR
  have hSn : ∀ n, Snap Q M.1 n n → Snap Q M'.1 n n := fun n h => by
    refine ⟨fun m hm => ?_, fun t p ht hp => ?_, fun p hp => ?_, fun a ha => ?_⟩
    · rw [hI _ _ _ (by omega)]; exact h.1 m hm
    · rw [hI _ _ _ (by omega)]; exact h.2.1 t p ht hp
    · rw [hI _ _ _ (by omega)]; exact h.2.2.1 p hp
    · rw [hI _ _ _ (by omega)]; exact h.2.2.2 a ha
  have c' : ClsC Q M'.1 := by
    refine ⟨?_, ?_, fun p hp => ?_, fun i hi => ?_⟩
    · rw [hI _ _ _ (by omega)]; exact hC.1
    · rw [hI _ _ _ (by omega)]; exact hC.2.1
    · rw [hI _ _ _ (by omega)]; exact hC.2.2.1 p hp
    · rw [hI _ _ _ (by omega)]; exact hC.2.2.2 i hi
  have p' : PastOK Q M' := by
    obtain ⟨p1, p2, ⟨p3, p4, p5, p6⟩, p7, p8, p9⟩ := hP
    have e2 := hI 6 0 2 (by omega)
    have c1 := hc 14 (by omega)
    have c2 := hc 29 (by omega)
    have c3 := hc 30 (by omega)
    have c4 := hc 31 (by omega)
    have c5 := hc 32 (by omega)
    refine ⟨by rw [e2, c1]; exact p1, by rw [c1]; exact p2, by rw [c1, c2, c3, c4, c5]; exact ⟨p3, p4, p5, p6⟩, fun i hi => by rw [hRr _ _ _ (by omega), c1]; exact p7 i hi, fun n hn => ?_, fun n hn => hSn n (p9 n (by rw [e2] at hn; exact hn))⟩
    rw [hI _ _ _ (by omega)]; exact p8 n (by rw [c1] at hn; exact hn)
  have f' : FitC Q' (nCv Q') M'.1 := by
    have hle : nCv Q ≤ nCv Q' := by omega
    refine ⟨fun c j hj => ?_, fun j cv s n seen hj hc8 hs hn e => ?_⟩
    · rw [hI _ _ _ (by omega)] at c ⊢; exact hF.1 c j hj
    · rw [hI _ _ _ (by omega)] at e ⊢
      obtain ⟨g1, g2⟩ := hF.2 j cv s n seen hj hc8 hs (by rw [nCh_q qc] at hn; exact hn) e
      rw [evS_q qc (eqK_cv hw hO g1).1]
      exact ⟨by omega, g2⟩
  have old : ∀ x, x < nCv Q → M'.2.1 15 0 x = some (13, x) ∧ CovC Q' M' x x ∧ M'.1 13 x 0 = (x : Int) ∧ M'.1 13 x 2 = Q' 83 x ∧ M'.1 13 x 3 = Q' 84 x := fun x hx => by
    obtain ⟨h1, ⟨h2, h2'⟩, h3⟩ := hCv
    obtain ⟨a1, ⟨a2, a2'⟩, a3, a4, a5⟩ := h3 x hx
    have hk := eqK_cv hw hO hx
    refine ⟨by rw [hRr _ _ _ (by omega)]; exact a1, CovC_q hk.1 ⟨?_, fun k hk => by rw [hI _ _ _ (by omega)]; exact a2' k hk⟩, by rw [hI _ _ _ (by omega)]; exact a3, by rw [hI _ _ _ (by omega), hk.2.1]; exact a4, by rw [hI _ _ _ (by omega), hk.2.2]; exact a5⟩
    rw [aLen_mono hl (by omega)]; exact a2
  have v' : CovsC Q' M' := by
    refine ⟨h10, ?_, fun x hx => ?_⟩
    · rcases hN with ⟨n1, n2, n3⟩ | ⟨n1, n2, n3, -⟩
      · exact ⟨by omega, by omega⟩
      · exact ⟨by omega, by omega⟩
    · by_cases e : x < nCv Q
      · exact old x e
      · rcases hN with ⟨n1, n2, n3⟩ | ⟨n1, n2, n3, n4⟩
        · omega
        · rw [show x = nCv Q by omega]; exact n4
  have k' : KnC Q' M'.1 := fun r hr => by rw [hI _ _ _ (by omega), hf _ (by omega) (by omega)]; exact hK r hr
  have hn8 := hw.l.n8
  refine ⟨⟨⟨hS', ClsC_q qc c', PastOK_q qc p', f', v', k'⟩, WaysC_q qr ⟨fun a b ha hb => ?_, fun a b ha hb => ?_⟩, RoadsC_q qr fun a b ha hb => ?_⟩, StI_c (hSt.fr hn8 (fun i => hI _ _ _ (by omega)) (fun f i hh => hI _ _ _ (by omega)) (fun i => hRr _ _ _ (by omega)) (fun i hi => ⟨fun x => hI _ _ _ (by omega), hRr _ _ _ (by omega)⟩)) hf, ⟨by rw [h12, e29], fun i hi => ?_⟩, ⟨fun k hk => ?_, fun k1 k2 j g1 g2 e1 e2 => ?_⟩, ?_⟩
  · rw [hI _ _ _ (by omega)]; exact hW.1 a b ha hb
  · rw [hI _ _ _ (by omega)]; exact hW.2 a b ha hb
  · rw [hI _ _ _ (by omega)]; exact hRd a b ha hb
  · rw [hI _ _ _ (by omega), hO _ _ (by unfold covF; omega)]; exact hTp.2 i hi
  · rw [hRr _ _ _ (by omega), hO 91 _ (by unfold covF; omega), hc _ (by omega)]
    rcases hIm.1 k hk with a | ⟨a, j, b1, b2, b3, b4⟩
    · exact .inl a
    · exact .inr ⟨a, j, b1, b2, b3, StI_c (b4.fr (hw.im k hk a) (fun i => hI _ _ _ (by omega)) (fun f i hh => hI _ _ _ (by omega)) (fun i => hRr _ _ _ (by omega)) (fun i hi => ⟨fun x => hI _ _ _ (by omega), hRr _ _ _ (by omega)⟩)) (fun f h1 h2 => QB_cv him h1 h2)⟩
  · rw [hRr _ _ _ (by omega)] at e1 e2
    exact hIm.2 k1 k2 j g1 g2 e1 e2
  · obtain ⟨c1, c2, c3⟩ := hCn
    refine ⟨fun f hh => ?_, ?_, ?_⟩
    · rw [hc f (by omega), hc _ (by omega)]; exact c1 f hh
    · rw [hc _ (by omega), hc _ (by omega)]; exact c2
    · rw [hc _ (by omega)]; exact c3
/-- the new cover -/
def nwM (M : Mem) (n : Nat) (x1 x3 x4 : Int) (g : Nat → Int) : Mem :=
  (upI (upI (upI (seI (seI M.1 13 (cCnt M.2.2 13) (fun _ => 0)) 47 (cCnt M.2.2 47) g) 13 (cCnt M.2.2 13) 0 x1) 13 (cCnt M.2.2 13) 2 x3) 13 (cCnt M.2.2 13) 3 x4, upR (seR (seR M.2.1 13 (cCnt M.2.2 13) (fun _ => none)) 47 (cCnt M.2.2 47) (fun _ => none)) 13 (cCnt M.2.2 13) 1 (some (47, cCnt M.2.2 47)), newC (newC M.2.2 13 0 4) 47 n n)
theorem KX2_newCover {n : Nat} {x1 : Int} (hS : Sh M.2.1) (h9 : M.1 12 0 9 = (n : Int)) (hn : n ≤ 400) (h6 : M.1 12 0 6 = 0 ∨ M.1 12 0 6 = 1) (h7 : M.1 12 0 7 = 0 ∨ M.1 12 0 7 = 1) : ∃ g : Nat → Int, Cl l G (d + 2) mX2_newCover [vR (some (12, 0)), vI x1] M (some (vR (some (13, cCnt M.2.2 13)))) (nwM M n x1 (M.1 12 0 6) (M.1 12 0 7) g) ∧ ∀ i, i < n → g i = M.1 22 0 i := by
  obtain ⟨g, k1, k2⟩ := KJ7_copyOf (l := l) (G := G) (d := d) (M := newM M 13 0 4) hn
  have e47 : cCnt (newM M 13 0 4).2.2 47 = cCnt M.2.2 47 := rfl
  have e6 : seI (newM M 13 0 4).1 47 (cCnt M.2.2 47) g 12 0 6 = M.1 12 0 6 := by
    rw [seI_o (by omega)]
    exact newM_In rfl (by omega)
  have e7 : seI (newM M 13 0 4).1 47 (cCnt M.2.2 47) g 12 0 7 = M.1 12 0 7 := by
    rw [seI_o (by omega)]
    exact newM_In rfl (by omega)
  refine ⟨g, xX2_newCover_0 hS fun M1 e1 => ?_, fun i hi => ?_⟩
  · subst e1
    rw [h9]
    rw [e47] at k1
    refine ⟨cCnt M.2.2 47, _, k1, _, xX1_init_0 ⟨⟨?_, ?_⟩, rfl, rfl⟩, rfl, ?_⟩
    · dsimp only; rw [e6]; exact h6
    · dsimp only; rw [e7]; exact h7
    · dsimp only
      rw [e6, e7]
      rfl
  · rw [k2 i hi]
    exact newM_In rfl (by omega)
theorem upR_ne {R : RM} {f k i : Nat} {v : Option Nm} {f' k' i' : Nat} (h : ¬ (f' = f ∧ k' = k ∧ i' = i)) : upR R f k i v f' k' i' = R f' k' i' := by
  by_cases e : f' = f ∧ k' = k
  · obtain ⟨rfl, rfl⟩ := e
    rw [upR_c, if_neg (fun e => h ⟨rfl, rfl, e⟩)]
  · rw [upR_o e]
theorem KX11_cover (hR : RelC Q M) (hw : WFA Q) (hStr : cCnt M.2.2 1 = 28) : ∃ M' r, Cl l G (d + 71) mX11_cover [vR (some (2, 0))] M (some (vI r)) M' ∧ frK M M' ∧ ∀ Q' r', CovS Q Q' r' → r' = r ∧ RelC Q' M' := by
  have hS := hR.1.1.1
  have hCv := hR.1.1.2.2.2.2.1
  have h33 := hw.2.1.1
  have e33 : (nCv Q : Int) = Q 3 33 := by unfold nCv; omega
  have h10 : M.1 2 0 10 = (nCv Q : Int) := hCv.1.trans e33.symm
  by_cases hlt : nCv Q < 8
  · have hn : tlQ Q ≤ 400 := by have := hw.2.2.1.1; unfold tlQ; omega
    have h12 : M.1 2 0 12 = (tlQ Q : Int) := by rw [hR.2.2.1.1]; have := hw.2.2.1.1; unfold tlQ; omega
    obtain ⟨I1, c1, k1, k2, k3, ⟨st, sp, fa, o, kc, ko⟩, k6, k7, kf⟩ := KX2_read (l := l) (G := G) (d := d) (t := tpQ Q) (n := tlQ Q) hS hStr hn (fun i hi => ⟨hR.2.2.1.2 i hi, by unfold tpQ; omega⟩)
    have hS1 := Sh_text hS
    have a10 : I1 2 0 10 = (nCv Q : Int) := by rw [kf _ _ _ (by omega)]; exact h10
    have hB := okB_run k2 (c0_inv (hdR_le _ _)) ⟨Int.le_refl _, by show (0 : Int) ≤ _; omega⟩
    have hB1 := hB.1
    have hB2 := hB.2
    by_cases hz : cE c1 = 0
    · have ho := ko hz
      subst ho
      have h9 : I1 12 0 9 = ((cO c1).length : Int) := kc.2.2.2.2.2.1
      have hsg := kc.2.2.2.2.2.2
      have hrun := InvD_run k2 (c0_inv (hdR_le _ _))
      obtain ⟨i1, i2, -⟩ := hrun.1 hz
      have hlen : (cO c1).length ≤ 400 := by omega
      have u : ∀ f i, ¬ (f = 2 ∧ i = 12) → upI I1 2 0 12 0 f 0 i = I1 f 0 i := fun f i h => by rw [upI_ne (by omega)]
      obtain ⟨g, g1, g2⟩ := KX2_newCover (l := l) (G := G) (d := d + 68) (M := (upI I1 2 0 12 0, upR M.2.1 12 0 0 (some (16, 0)), M.2.2)) (n := (cO c1).length) (x1 := I1 2 0 10) hS1 (by dsimp only; rw [u _ _ (by omega)]; exact h9) hlen (by dsimp only; rw [u _ _ (by omega), k6]; exact bZ_or _) (by dsimp only; rw [u _ _ (by omega), k7]; exact bZ_or _)
      have ec13 : cCnt M.2.2 13 = nCv Q := hCv.2.1.1
      have ec47 : cCnt M.2.2 47 = nCv Q := hCv.2.1.2
      dsimp only at g1 g2
      rw [u _ _ (show ¬ (12 = 2 ∧ 6 = 12) by omega), u _ _ (show ¬ (12 = 2 ∧ 7 = 12) by omega), k6, k7, a10, ec13] at g1
      obtain ⟨N, hN⟩ : ∃ N, nwM (upI I1 2 0 12 0, upR M.2.1 12 0 0 (some (16, 0)), M.2.2) (cO c1).length (nCv Q : Int) (bZ (hdR (tpQ Q) (tlQ Q)).2.1) (bZ (hdR (tpQ Q) (tlQ Q)).2.2) g = N := ⟨_, rfl⟩
      rw [hN] at g1
      have nI : ∀ f k i, ¬ ((f = 13 ∨ f = 47) ∧ k = nCv Q) → N.1 f k i = upI I1 2 0 12 0 f k i := fun f k i h => by
        rw [← hN]
        unfold nwM
        dsimp only
        rw [ec13, ec47, upI_ne (by omega), upI_ne (by omega), upI_ne (by omega), seI_o (by omega), seI_o (by omega)]
      have n10 : N.1 2 0 10 = (nCv Q : Int) := by rw [nI _ _ _ (by omega), upI_ne (by omega)]; exact a10
      have nR : ∀ f k i, ¬ ((f = 13 ∨ f = 47) ∧ k = nCv Q) → N.2.1 f k i = upR M.2.1 12 0 0 (some (16, 0)) f k i := fun f k i h => by
        rw [← hN]
        unfold nwM
        dsimp only
        rw [ec13, ec47, upR_ne (by omega), seR_o (by omega), seR_o (by omega)]
      have nc : N.2.2 = newC (newC M.2.2 13 0 4) 47 (cO c1).length (cO c1).length := by rw [← hN]; rfl
      have nCL : CLe M.2.2 N.2.2 := by rw [nc]; exact (newC_le _ _ _ _).tr (newC_le _ _ _ _)
      have ncn : ∀ f, ¬ (f = 13 ∨ f = 47) → cCnt N.2.2 f = cCnt M.2.2 f := fun f h => by rw [nc, newC_cnt, if_neg (by omega), newC_cnt, if_neg (by omega)]
      have nc13 : cCnt N.2.2 13 = nCv Q + 1 := by rw [nc, newC_cnt, if_neg (by omega), newC_cnt, if_pos rfl, ec13]
      have nc47 : cCnt N.2.2 47 = nCv Q + 1 := by rw [nc, newC_cnt, if_pos rfl, newC_cnt, if_neg (by omega), ec47]
      have nS : Sh N.2.1 := hS1.congr fun f k i hs => by
        by_cases e : (f = 13 ∨ f = 47) ∧ k = nCv Q
        · obtain ⟨e1, rfl⟩ := e
          rcases e1 with rfl | rfl
          · have hi : i = 1 := by
              by_cases hi : i = 1
              · exact hi
              · exfalso
                have : ∀ i, shp 13 i = true → i = 1 := fun i h => by
                  unfold shp at h
                  have h2 := List.contains_iff_mem.mp h
                  simp at h2
                  exact h2
                exact hi (this i hs)
            subst hi
            rw [sh_1_1 hS1, ← hN]
            unfold nwM
            dsimp only
            rw [ec13, ec47, upR_c, if_pos rfl]
          · exact absurd (shp_lt hs).1 (by omega)
        · exact nR f k i e
      refine ⟨(upI N.1 2 0 10 (N.1 2 0 10 + 1), upR N.2.1 15 0 (I1 2 0 10).toNat (some (13, nCv Q)), N.2.2), (nCv Q : Int), xX11_cover_0 hS ⟨fun _ => ⟨cE c1, (I1, upR M.2.1 12 0 0 (some (16, 0)), M.2.2), by rw [h12]; exact k1, hS1, fun _ => ⟨nCv Q, N, by dsimp only; rw [a10]; exact g1, ⟨by dsimp only; omega, by rw [n10]; unfold InR; omega⟩, by rw [n10], rfl⟩, fun c => absurd hz c⟩, fun c => absurd (by omega) c⟩, ⟨fun f k i hh => ?_, ⟨?_, ?_⟩, ?_, ?_⟩, fun Q' r' hcov => ?_⟩
      · dsimp only
        rw [upI_ne (by omega), nI _ _ _ (by omega), upI_ne (by omega)]
        exact kf _ _ _ (by omega)
      · exact ncn _ (by omega)
      · exact ncn _ (by omega)
      · dsimp only
        rw [nc]
        show cNc M.2.2 + 1 + 1 ≤ _
        omega
      · dsimp only
        rw [nc]
        show cNs M.2.2 + 4 + (cO c1).length ≤ _
        omega
      · obtain ⟨c2, run, m3, er, e29, e33', ⟨eo, et⟩, eok, hO⟩ := hcov.2 hlt
        have ec : c2 = c1 := run.det k2 m3 k3
        subst ec
        rw [if_pos hz] at er e33'
        obtain ⟨q1, q2⟩ := eok hz
        have hln : ln Q' (nCv Q) = (cO c2).length := by unfold ln; rw [q1]; exact Int.toNat_natCast _
        refine ⟨er, hR.cv hw hO e29 ?_ (fun f k i h => ?_) (fun f k i h => ?_) ncn nCL ?_ ?_ (.inr ⟨?_, nc13, nc47, ?_, ⟨?_, fun k hk => ?_⟩, ?_, ?_, ?_⟩)⟩
        · exact nS.congr fun f k i hs => upR_ne (by have := (shp_lt hs).1; omega)
        · dsimp only
          rw [upI_ne (by omega), nI _ _ _ (by omega), upI_ne (by omega)]
          exact kf _ _ _ (by omega)
        · dsimp only
          rw [upR_ne (by omega), nR _ _ _ (by omega), upR_ne (by omega)]
        · dsimp only
          rw [upI_ne (by omega), nI _ _ _ (by omega), upI_s]
        · dsimp only
          rw [upI_s, n10, e33']
        · unfold nCv at *
          omega
        · dsimp only
          rw [show (I1 2 0 10).toNat = nCv Q by omega, upR_c, if_pos rfl]
        · dsimp only
          rw [nc, hln]
          have := aLen_new (c := newC M.2.2 13 0 4) (f := 47) (n := (cO c2).length) (sl := (cO c2).length) (.inr rfl)
          rw [show cCnt (newC M.2.2 13 0 4) 47 = nCv Q from (by rw [newC_cnt, if_neg (by omega)]; exact ec47)] at this
          exact this
        · rw [hln] at hk
          dsimp only
          rw [upI_ne (by omega), (q2 k hk).1, (q2 k hk).2, ← hsg k hk]
          have : N.1 47 (nCv Q) k = g k := by
            rw [← hN]
            unfold nwM
            dsimp only
            rw [ec13, ec47, upI_ne (by omega), upI_ne (by omega), upI_ne (by omega), seI_s]
          rw [this, g2 k hk, upI_ne (by omega)]
        · dsimp only
          rw [upI_ne (by omega), ← hN]
          unfold nwM
          dsimp only
          rw [ec13, upI_ne (by omega), upI_ne (by omega), upI_s]
        · dsimp only
          rw [upI_ne (by omega), ← hN, eo]
          unfold nwM
          dsimp only
          rw [ec13, upI_ne (by omega), upI_s]
        · dsimp only
          rw [upI_ne (by omega), ← hN, et]
          unfold nwM
          dsimp only
          rw [ec13, upI_s]
    · refine ⟨(upI I1 2 0 12 0, upR M.2.1 12 0 0 (some (16, 0)), M.2.2), -2 - cE c1, xX11_cover_0 hS ⟨fun _ => ⟨cE c1, (I1, upR M.2.1 12 0 0 (some (16, 0)), M.2.2), by rw [h12]; exact k1, hS1, fun c => absurd c hz, fun _ => ⟨by unfold InR; omega, rfl, rfl⟩⟩, fun c => absurd (by omega) c⟩, ⟨fun f k i hh => ?_, ⟨rfl, rfl⟩, Nat.le_add_right _ _, Nat.le_add_right _ _⟩, fun Q' r' hcov => ?_⟩
      · dsimp only
        rw [upI_ne (by omega)]
        exact kf _ _ _ (by omega)
      · obtain ⟨c2, run, m3, er, e29, e33', -, eok, hO⟩ := hcov.2 hlt
        have ec : c2 = c1 := run.det k2 m3 k3
        subst ec
        rw [if_neg hz] at er e33'
        refine ⟨er, hR.cv hw hO e29 hS1 (fun f k i h => ?_) (fun f k i h => ?_) (fun _ _ => rfl) (CLe.rf _) ?_ ?_ (.inl ⟨?_, hCv.2.1.1, hCv.2.1.2⟩)⟩
        · dsimp only
          rw [upI_ne (by omega)]
          exact kf _ _ _ (by omega)
        · dsimp only
          rw [upR_ne (by omega)]
        · dsimp only
          rw [upI_s]
        · dsimp only
          rw [upI_ne (by omega), a10, e33']
          omega
        · unfold nCv at *
          omega
  · refine ⟨M, -1, xX11_cover_0 hS ⟨fun c => absurd c (by omega), fun _ => ⟨rfl, rfl⟩⟩, frK.rf, fun Q' r' h => ?_⟩
    obtain ⟨e1, e2⟩ := h.1 hlt
    rw [e1]
    exact ⟨e2, hR⟩
end CVC
