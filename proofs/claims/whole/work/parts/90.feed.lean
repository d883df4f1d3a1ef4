/-! end, feed -/
set_option maxRecDepth 4000 in
theorem xX12_put_0 {l : Launch} {G : Gt} {d : Nat} {M M' : Mem} {r : Option Vl} {x1 : Int} (h : 
    Ex l G d mX12_put 3 [some (vR (some (3, 0))), some (vI x1), some (vI 24)] [] M r M') : Cl l G d mX12_put [vR (some (3, 0)), vI x1] M r M' := by
  show Ex l G d mX12_put 0 [some (vR (some (3, 0))), some (vI x1), none] [] M r M'
  refine r_bipush 2 dX12_put_0 rfl rfl ?_
  refine r_istore_n (ls' := [some (vR (some (3, 0))), some (vI x1), some (vI 24)]) 3 dX12_put_2 rfl rfl rfl rfl ?_
  exact h
set_option maxRecDepth 4000 in
theorem xX12_put_3 {l : Launch} {G : Gt} {d : Nat} {M M' : Mem} {r : Option Vl} {x1 : Int} {x2 : Int} (hS : Sh M.2.1) (h : 
    (x2 < 0 → r = none ∧ M' = M) ∧ (¬ (x2 < 0) → ((0 ≤ x2 ∧ x2 < 32) ∧ (0 ≤ (M.1 3 0 29) ∧ (M.1 3 0 29) < 400) ∧ InB (aI2b (aShr x1 x2)) ∧ InR ((M.1 3 0 29) + 1) ∧ InR (x2 + (-8))) ∧ Ex l G d mX12_put 3 [some (vR (some (3, 0))), some (vI x1), some (vI (x2 + (-8)))] [] ((upI (upI M.1 76 0 (M.1 3 0 29).toNat (aI2b (aShr x1 x2))) 3 0 29 ((M.1 3 0 29) + 1)), M.2.1, M.2.2) r M')) : Ex l G d mX12_put 3 [some (vR (some (3, 0))), some (vI x1), some (vI x2)] [] M r M' := by
  refine r_iload_n 4 dX12_put_3 rfl rfl ?_
  refine r_if_lt 7 36 dX12_put_4 rfl rfl (fun c => ?_) (fun c => ?_)
  · have h := h.1 (c)
    exact r_vret dX12_put_36 rfl h.1 h.2
  · have h := h.2 (c)
    obtain ⟨⟨o_1, o_2, o_3, o_4, o_5⟩, h⟩ := h
    refine r_aload_n 8 dX12_put_7 rfl rfl ?_
    refine g_R 11 dX12_put_8 rfl rfl rfl fr_12_94 (sh_12_39 hS) ?_
    refine r_aload_n 12 dX12_put_11 rfl rfl ?_
    refine g_I 15 dX12_put_12 rfl rfl rfl fi_12_209 rfl ?_
    refine r_iload_n 16 dX12_put_15 rfl rfl ?_
    refine r_iload_n 17 dX12_put_16 rfl rfl ?_
    refine r_ishr 18 dX12_put_17 rfl o_1 ?_
    refine r_i2b 19 dX12_put_18 rfl ?_
    refine s_B 400 20 dX12_put_19 rfl rfl (by decide) rfl rfl o_2 o_3 ?_
    refine r_aload_n 21 dX12_put_20 rfl rfl ?_
    refine r_dup 22 dX12_put_21 rfl rfl ?_
    refine g_I 25 dX12_put_22 rfl rfl rfl fi_12_209 (mI_0 (upI_f rfl)) ?_
    refine r_iconst 26 dX12_put_25 rfl (InR_of rfl) ?_
    refine r_iadd 27 dX12_put_26 rfl o_4 ?_
    refine p_I 30 dX12_put_27 rfl rfl rfl rfl pf_12_209 (.inl rfl) rfl ?_
    refine r_iinc (ls' := [some (vR (some (3, 0))), some (vI x1), some (vI (x2 + (-8)))]) 33 dX12_put_30 rfl rfl rfl rfl o_5 rfl ?_
    refine r_goto 3 dX12_put_33 rfl ?_
    exact h

set_option maxRecDepth 4000 in
theorem xX12_feed_0 {l : Launch} {G : Gt} {d : Nat} {M M' : Mem} {r : Option Vl} {x1 : Int} {x2 : Int} {x3 : Int} {x4 : Int} {x5 : Int} (h : 
    (InR ((M.1 3 0 29) + 20)) ∧ ((((M.1 3 0 29) + 20) ≤ 400 → ∃ (M_2 : Mem), Cl l G d mX12_put [vR (some (3, 0)), vI x1] M none M_2 ∧ (∃ (M_4 : Mem), Cl l G d mX12_put [vR (some (3, 0)), vI x2] M_2 none M_4 ∧ (∃ (M_6 : Mem), Cl l G d mX12_put [vR (some (3, 0)), vI x3] M_4 none M_6 ∧ (∃ (M_8 : Mem), Cl l G d mX12_put [vR (some (3, 0)), vI x4] M_6 none M_8 ∧ (∃ (M_10 : Mem), Cl l G d mX12_put [vR (some (3, 0)), vI x5] M_8 none M_10 ∧ r = some (vI (M_10.1 3 0 29)) ∧ M' = M_10))))) ∧ (¬ (((M.1 3 0 29) + 20) ≤ 400) → r = some (vI (-1)) ∧ M' = M))) : Cl l G (d + 1) mX12_feed [vR (some (3, 0)), vI x1, vI x2, vI x3, vI x4, vI x5] M r M' := by
  show Ex l G (d + 1) mX12_feed 0 [some (vR (some (3, 0))), some (vI x1), some (vI x2), some (vI x3), some (vI x4), some (vI x5)] [] M r M'
  obtain ⟨o_1, h⟩ := h
  refine r_aload_n 1 dX12_feed_0 rfl rfl ?_
  refine g_I 4 dX12_feed_1 rfl rfl rfl fi_12_209 rfl ?_
  refine r_bipush 6 dX12_feed_4 rfl rfl ?_
  refine r_iadd 7 dX12_feed_6 rfl o_1 ?_
  refine r_sipush 10 dX12_feed_7 rfl rfl ?_
  refine r_icmp_le 13 15 dX12_feed_10 rfl rfl (fun c => ?_) (fun c => ?_)
  · have h := h.1 (c)
    refine r_aload_n 16 dX12_feed_15 rfl rfl ?_
    refine r_iload_n 17 dX12_feed_16 rfl rfl ?_
    obtain ⟨M_2, hc_3, h⟩ := h
    refine v_0 (ci := 12) (C := (RX12, TX12, 68)) [vI x1] [] 20 dX12_feed_17 rfl rfl rfl rfl rfl mo_X12_put ml_12_212 rfl rfl hc_3 ?_
    refine r_aload_n 21 dX12_feed_20 rfl rfl ?_
    refine r_iload_n 22 dX12_feed_21 rfl rfl ?_
    obtain ⟨M_4, hc_5, h⟩ := h
    refine v_0 (ci := 12) (C := (RX12, TX12, 68)) [vI x2] [] 25 dX12_feed_22 rfl rfl rfl rfl rfl mo_X12_put ml_12_212 rfl rfl hc_5 ?_
    refine r_aload_n 26 dX12_feed_25 rfl rfl ?_
    refine r_iload_n 27 dX12_feed_26 rfl rfl ?_
    obtain ⟨M_6, hc_7, h⟩ := h
    refine v_0 (ci := 12) (C := (RX12, TX12, 68)) [vI x3] [] 30 dX12_feed_27 rfl rfl rfl rfl rfl mo_X12_put ml_12_212 rfl rfl hc_7 ?_
    refine r_aload_n 31 dX12_feed_30 rfl rfl ?_
    refine r_iload 33 dX12_feed_31 rfl rfl ?_
    obtain ⟨M_8, hc_9, h⟩ := h
    refine v_0 (ci := 12) (C := (RX12, TX12, 68)) [vI x4] [] 36 dX12_feed_33 rfl rfl rfl rfl rfl mo_X12_put ml_12_212 rfl rfl hc_9 ?_
    refine r_aload_n 37 dX12_feed_36 rfl rfl ?_
    refine r_iload 39 dX12_feed_37 rfl rfl ?_
    obtain ⟨M_10, hc_11, h⟩ := h
    refine v_0 (ci := 12) (C := (RX12, TX12, 68)) [vI x5] [] 42 dX12_feed_39 rfl rfl rfl rfl rfl mo_X12_put ml_12_212 rfl rfl hc_11 ?_
    refine r_aload_n 43 dX12_feed_42 rfl rfl ?_
    refine g_I 46 dX12_feed_43 rfl rfl rfl fi_12_209 rfl ?_
    exact r_iret dX12_feed_46 rfl (.inl rfl) h.1 h.2
  · have h := h.2 (c)
    refine r_iconst 14 dX12_feed_13 rfl (InR_of rfl) ?_
    exact r_iret dX12_feed_14 rfl (.inl rfl) h.1 h.2

set_option maxRecDepth 4000 in
theorem xX11_putBytes_0 {l : Launch} {G : Gt} {d : Nat} {M M' : Mem} {r : Option Vl} {x1 : Int} (h : 
    Ex l G d mX11_putBytes 3 [some (vR (some (2, 0))), some (vI x1), some (vI 24)] [] M r M') : Cl l G d mX11_putBytes [vR (some (2, 0)), vI x1] M r M' := by
  show Ex l G d mX11_putBytes 0 [some (vR (some (2, 0))), some (vI x1), none] [] M r M'
  refine r_bipush 2 dX11_putBytes_0 rfl rfl ?_
  refine r_istore_n (ls' := [some (vR (some (2, 0))), some (vI x1), some (vI 24)]) 3 dX11_putBytes_2 rfl rfl rfl rfl ?_
  exact h
set_option maxRecDepth 4000 in
theorem xX11_putBytes_3 {l : Launch} {G : Gt} {d : Nat} {M M' : Mem} {r : Option Vl} {x1 : Int} {x2 : Int} (hS : Sh M.2.1) (h : 
    (x2 < 0 → r = none ∧ M' = M) ∧ (¬ (x2 < 0) → (400 ≤ (M.1 2 0 12) → (InR (x2 + (-8))) ∧ Ex l G d mX11_putBytes 3 [some (vR (some (2, 0))), some (vI x1), some (vI (x2 + (-8)))] [] M r M') ∧ (¬ (400 ≤ (M.1 2 0 12)) → ((0 ≤ x2 ∧ x2 < 32) ∧ (0 ≤ (M.1 2 0 12) ∧ (M.1 2 0 12) < 400) ∧ InR ((M.1 2 0 12) + 1) ∧ InR (x2 + (-8))) ∧ Ex l G d mX11_putBytes 3 [some (vR (some (2, 0))), some (vI x1), some (vI (x2 + (-8)))] [] ((upI (upI M.1 16 0 (M.1 2 0 12).toNat (aAnd (aUshr x1 x2) 255)) 2 0 12 ((M.1 2 0 12) + 1)), M.2.1, M.2.2) r M'))) : Ex l G d mX11_putBytes 3 [some (vR (some (2, 0))), some (vI x1), some (vI x2)] [] M r M' := by
  refine r_iload_n 4 dX11_putBytes_3 rfl rfl ?_
  refine r_if_lt 7 49 dX11_putBytes_4 rfl rfl (fun c => ?_) (fun c => ?_)
  · have h := h.1 (c)
    exact r_vret dX11_putBytes_49 rfl h.1 h.2
  · have h := h.2 (c)
    refine r_aload_n 8 dX11_putBytes_7 rfl rfl ?_
    refine g_I 11 dX11_putBytes_8 rfl rfl rfl fi_11_147 rfl ?_
    refine r_sipush 14 dX11_putBytes_11 rfl rfl ?_
    refine r_icmp_ge 17 43 dX11_putBytes_14 rfl rfl (fun c => ?_) (fun c => ?_)
    · have h := h.1 (c)
      obtain ⟨o_1, h⟩ := h
      refine r_iinc (ls' := [some (vR (some (2, 0))), some (vI x1), some (vI (x2 + (-8)))]) 46 dX11_putBytes_43 rfl rfl rfl rfl o_1 rfl ?_
      refine r_goto 3 dX11_putBytes_46 rfl ?_
      exact h
    · have h := h.2 (c)
      obtain ⟨⟨o_2, o_3, o_4, o_5⟩, h⟩ := h
      refine r_aload_n 18 dX11_putBytes_17 rfl rfl ?_
      refine g_R 21 dX11_putBytes_18 rfl rfl rfl fr_11_82 (sh_11_11 hS) ?_
      refine r_aload_n 22 dX11_putBytes_21 rfl rfl ?_
      refine g_I 25 dX11_putBytes_22 rfl rfl rfl fi_11_147 rfl ?_
      refine r_iload_n 26 dX11_putBytes_25 rfl rfl ?_
      refine r_iload_n 27 dX11_putBytes_26 rfl rfl ?_
      refine r_iushr 28 dX11_putBytes_27 rfl o_2 ?_
      refine r_sipush 31 dX11_putBytes_28 rfl rfl ?_
      refine r_iand 32 dX11_putBytes_31 rfl ?_
      refine s_I 400 33 dX11_putBytes_32 rfl rfl (by decide) rfl rfl o_3 ?_
      refine r_aload_n 34 dX11_putBytes_33 rfl rfl ?_
      refine r_dup 35 dX11_putBytes_34 rfl rfl ?_
      refine g_I 38 dX11_putBytes_35 rfl rfl rfl fi_11_147 (mI_0 (upI_f rfl)) ?_
      refine r_iconst 39 dX11_putBytes_38 rfl (InR_of rfl) ?_
      refine r_iadd 40 dX11_putBytes_39 rfl o_4 ?_
      refine p_I 43 dX11_putBytes_40 rfl rfl rfl rfl pf_11_147 (.inl rfl) rfl ?_
      refine r_iinc (ls' := [some (vR (some (2, 0))), some (vI x1), some (vI (x2 + (-8)))]) 46 dX11_putBytes_43 rfl rfl rfl rfl o_5 rfl ?_
      refine r_goto 3 dX11_putBytes_46 rfl ?_
      exact h

set_option maxRecDepth 4000 in
theorem xX11_feed_0 {l : Launch} {G : Gt} {d : Nat} {M M' : Mem} {r : Option Vl} {x1 : Int} {x2 : Int} {x3 : Int} {x4 : Int} {x5 : Int} (h : 
    ((M.1 2 0 12) ≤ 380 → ∃ (M_1 : Mem), Cl l G d mX11_putBytes [vR (some (2, 0)), vI x1] M none M_1 ∧ (∃ (M_3 : Mem), Cl l G d mX11_putBytes [vR (some (2, 0)), vI x2] M_1 none M_3 ∧ (∃ (M_5 : Mem), Cl l G d mX11_putBytes [vR (some (2, 0)), vI x3] M_3 none M_5 ∧ (∃ (M_7 : Mem), Cl l G d mX11_putBytes [vR (some (2, 0)), vI x4] M_5 none M_7 ∧ (∃ (M_9 : Mem), Cl l G d mX11_putBytes [vR (some (2, 0)), vI x5] M_7 none M_9 ∧ r = some (vI (M_9.1 2 0 12)) ∧ M' = M_9))))) ∧ (¬ ((M.1 2 0 12) ≤ 380) → r = some (vI (-1)) ∧ M' = M)) : Cl l G (d + 1) mX11_feed [vR (some (2, 0)), vI x1, vI x2, vI x3, vI x4, vI x5] M r M' := by
  show Ex l G (d + 1) mX11_feed 0 [some (vR (some (2, 0))), some (vI x1), some (vI x2), some (vI x3), some (vI x4), some (vI x5)] [] M r M'
  refine r_aload_n 1 dX11_feed_0 rfl rfl ?_
  refine g_I 4 dX11_feed_1 rfl rfl rfl fi_11_147 rfl ?_
  refine r_sipush 7 dX11_feed_4 rfl rfl ?_
  refine r_icmp_le 10 12 dX11_feed_7 rfl rfl (fun c => ?_) (fun c => ?_)
  · have h := h.1 (c)
    refine r_aload_n 13 dX11_feed_12 rfl rfl ?_
    refine r_iload_n 14 dX11_feed_13 rfl rfl ?_
    obtain ⟨M_1, hc_2, h⟩ := h
    refine v_0 (ci := 11) (C := (RX11, TX11, 16)) [vI x1] [] 17 dX11_feed_14 rfl rfl rfl rfl rfl mo_X11_putBytes ml_11_150 rfl rfl hc_2 ?_
    refine r_aload_n 18 dX11_feed_17 rfl rfl ?_
    refine r_iload_n 19 dX11_feed_18 rfl rfl ?_
    obtain ⟨M_3, hc_4, h⟩ := h
    refine v_0 (ci := 11) (C := (RX11, TX11, 16)) [vI x2] [] 22 dX11_feed_19 rfl rfl rfl rfl rfl mo_X11_putBytes ml_11_150 rfl rfl hc_4 ?_
    refine r_aload_n 23 dX11_feed_22 rfl rfl ?_
    refine r_iload_n 24 dX11_feed_23 rfl rfl ?_
    obtain ⟨M_5, hc_6, h⟩ := h
    refine v_0 (ci := 11) (C := (RX11, TX11, 16)) [vI x3] [] 27 dX11_feed_24 rfl rfl rfl rfl rfl mo_X11_putBytes ml_11_150 rfl rfl hc_6 ?_
    refine r_aload_n 28 dX11_feed_27 rfl rfl ?_
    refine r_iload 30 dX11_feed_28 rfl rfl ?_
    obtain ⟨M_7, hc_8, h⟩ := h
    refine v_0 (ci := 11) (C := (RX11, TX11, 16)) [vI x4] [] 33 dX11_feed_30 rfl rfl rfl rfl rfl mo_X11_putBytes ml_11_150 rfl rfl hc_8 ?_
    refine r_aload_n 34 dX11_feed_33 rfl rfl ?_
    refine r_iload 36 dX11_feed_34 rfl rfl ?_
    obtain ⟨M_9, hc_10, h⟩ := h
    refine v_0 (ci := 11) (C := (RX11, TX11, 16)) [vI x5] [] 39 dX11_feed_36 rfl rfl rfl rfl rfl mo_X11_putBytes ml_11_150 rfl rfl hc_10 ?_
    refine r_aload_n 40 dX11_feed_39 rfl rfl ?_
    refine g_I 43 dX11_feed_40 rfl rfl rfl fi_11_147 rfl ?_
    exact r_iret dX11_feed_43 rfl (.inl rfl) h.1 h.2
  · have h := h.2 (c)
    refine r_iconst 11 dX11_feed_10 rfl (InR_of rfl) ?_
    exact r_iret dX11_feed_11 rfl (.inl rfl) h.1 h.2

theorem byte_eq {x : Int} {s : Nat} (h : s = 24 ∨ s = 16 ∨ s = 8 ∨ s = 0) : aAnd (aUshr x (s : Int)) 255 = aI2b (aShr x (s : Int)) % 256 := by
  have hb : aI2b (aShr x (s : Int)) % 256 = (x / 2 ^ s) % 256 := by
    unfold aI2b aShr
    rw [Int.toNat_natCast]
    generalize x / 2 ^ s = y
    have := Int.bmod_emod (x := y) (m := 256)
    exact this
  rw [hb]
  unfold aAnd aUshr
  have hu := u32_lt x
  have e255 : u32 255 = 2 ^ 8 - 1 := rfl
  have hs : u32 (s32 (u32 x / 2 ^ (s : Int).toNat)) = u32 x / 2 ^ s := by
    rw [Int.toNat_natCast]
    exact u32_s32 (Nat.lt_of_le_of_lt (Nat.div_le_self _ _) hu)
  rw [hs, e255, Nat.and_two_pow_sub_one_eq_mod, s32_nat (by omega)]
  have hx : (u32 x : Int) = x % 4294967296 := by unfold u32; omega
  rcases h with rfl | rfl | rfl | rfl
  · show ((u32 x / 16777216 % 256 : Nat) : Int) = x / 16777216 % 256
    omega
  · show ((u32 x / 65536 % 256 : Nat) : Int) = x / 65536 % 256
    omega
  · show ((u32 x / 256 % 256 : Nat) : Int) = x / 256 % 256
    omega
  · show ((u32 x / 1 % 256 : Nat) : Int) = x / 1 % 256
    omega
theorem aI2b_B (a : Int) : InB (aI2b a) := by
  unfold InB aI2b
  have h1 := Int.le_bmod (x := a) (m := 256) (by omega)
  have h2 := Int.bmod_lt (x := a) (m := 256) (by omega)
  omega
def endQ (Q : QT) (n : Int) : QT := if 0 ≤ n ∧ n ≤ Q 3 29 then upQ Q 3 29 n else Q
def endVV (Q : QT) (n : Int) : Int := if 0 ≤ n ∧ n ≤ Q 3 29 then n else -1
def putQ (Q : QT) (x s : Int) : QT := upQ (upQ Q 76 (Q 3 29).toNat (aI2b (aShr x s))) 3 29 (Q 3 29 + 1)
def put4 (Q : QT) (x : Int) : QT := putQ (putQ (putQ (putQ Q x 24) x 16) x 8) x 0
def feedQ (Q : QT) (a b c e f : Int) : QT := if Q 3 29 + 20 ≤ 400 then put4 (put4 (put4 (put4 (put4 Q a) b) c) e) f else Q
def feedV (Q : QT) : Int := if Q 3 29 + 20 ≤ 400 then Q 3 29 + 20 else -1
section FD
variable {l : Launch} {G : Gt} {d : Nat} {Q : QT} {M : Mem}
theorem tp_eq {f i : Nat} {v : Int} (h : f = 76 ∨ (f = 3 ∧ i = 29)) : eqC Q (upQ Q f i v) ∧ eqV Q (upQ Q f i v) ∧ eqR Q (upQ Q f i v) ∧ eqM Q (upQ Q f i v) ∧ ∀ f', 48 ≤ f' → f' ≤ 70 → upQ Q f i v f' = Q f' := by
  have hf : ∀ f', 48 ≤ f' → f' ≤ 70 → upQ Q f i v f' = Q f' := fun f' h1 h2 => upQ_f (by omega)
  refine ⟨⟨upQ_o (by omega), upQ_o (by omega), hf _ (by omega) (by omega), hf _ (by omega) (by omega), hf _ (by omega) (by omega), hf _ (by omega) (by omega), hf _ (by omega) (by omega), hf _ (by omega) (by omega), hf _ (by omega) (by omega)⟩, ⟨upQ_o (by omega), upQ_f (by omega), upQ_f (by omega), upQ_f (by omega), upQ_f (by omega), upQ_f (by omega)⟩, ⟨upQ_o (by omega), hf _ (by omega) (by omega), hf _ (by omega) (by omega), hf _ (by omega) (by omega)⟩, ⟨upQ_f (by omega), upQ_o (by omega), upQ_f (by omega)⟩, hf⟩
theorem WFi_q {Q' : QT} (h : WFi Q) (hc : eqC Q Q') (hv : nCv Q' = nCv Q) (hr : eqR Q Q') (hf : ∀ f', 48 ≤ f' → f' ≤ 70 → Q' f' = Q f') : WFi Q' := by
  obtain ⟨a1, a2, a3, a4, a5, a6, a7, a8⟩ := h
  refine ⟨WFc_q hc a1, WFr_q hr a2, ?_, ?_, a5.eq (nPp_q hc) hv (by rw [hf _ (by omega) (by omega)]) (by rw [hf _ (by omega) (by omega)]) (fun f h1 h2 => hf f (by omega) h2), ?_, ?_, ?_⟩
  · unfold WFk at *; rw [hf _ (by omega) (by omega)]; exact a3
  · unfold WFp at *; rw [hf 50 (by omega) (by omega), nPp_q hc]; exact a4
  · rw [hf 50 (by omega) (by omega), nPp_q hc]; exact a6
  · rw [hf 51 (by omega) (by omega)]; exact a7
  · rw [hf 48 (by omega) (by omega), hf 52 (by omega) (by omega)]; exact a8
theorem WFA.tp {f i : Nat} {v : Int} (hw : WFA Q) (h : (f = 76 ∧ -128 ≤ v ∧ v ≤ 127) ∨ (f = 3 ∧ i = 29 ∧ 0 ≤ v ∧ v ≤ 400)) : WFA (upQ Q f i v) := by
  obtain ⟨hc, hv, hr, hM, hf⟩ := tp_eq (Q := Q) (f := f) (i := i) (v := v) (by omega)
  refine hw.mk2 (WFi_q hw.1 hc (nCv_q hv) hr hf) (WFV_q hv hw.2.1) ⟨?_, fun j => ?_⟩ (fun f' i' h1 h2 h3 => by rw [hf f' h1 h2]; exact hw.2.2.2.1 f' i' h1 h2 h3) hM hv.2.2.2.2
  · by_cases e : f = 3
    · subst e
      obtain ⟨_, rfl, h4⟩ : 3 = 3 ∧ i = 29 ∧ 0 ≤ v ∧ v ≤ 400 := by omega
      rw [upQ_s]; exact h4
    · rw [upQ_f (fun x => e x.symm)]; exact hw.2.2.1.1
  · by_cases e : f = 76
    · subst e
      rw [upQ_c]
      split
      · omega
      · exact hw.2.2.1.2 j
    · rw [upQ_f (fun x => e x.symm)]; exact hw.2.2.1.2 j
theorem RelC.tp {f fq i iq : Nat} {v vq : Int} (hR : RelC Q M) (hw : WFA Q) (h : (f = 16 ∧ fq = 76 ∧ i = iq ∧ v = vq % 256) ∨ (f = 2 ∧ i = 12 ∧ fq = 3 ∧ iq = 29 ∧ v = vq)) : RelC (upQ Q fq iq vq) (upI M.1 f 0 i v, M.2.1, M.2.2) := by
  obtain ⟨hc, hv, hr, hM, hf⟩ := tp_eq (Q := Q) (f := fq) (i := iq) (v := vq) (by omega)
  have o : ∀ f' k' i', ¬ (f' = f ∧ k' = 0) → upI M.1 f 0 i v f' k' i' = M.1 f' k' i' := fun f' k' i' hn => by rw [upI_o hn]
  have S : StI Q (upI M.1 f 0 i v, M.2.1, M.2.2) 0 := hR.2.1.fr hw.l.n8 (fun i => o _ _ _ (by omega)) (fun f' i hh => o _ _ _ (by omega)) (fun _ => rfl) (fun i hi => ⟨fun x => o _ _ _ (by omega), rfl⟩)
  obtain ⟨⟨a1, a2, a3, a4⟩, a5, a6, a7, a8, a9, a10, a11⟩ := S
  refine hR.one hw (RelB_q hc hv hr (hf _ (by omega) (by omega)) ⟨hR.1.1.up (by unfold relF; omega), ⟨fun x y hx hy => ?_, fun x y hx hy => ?_⟩, fun x y hx hy => ?_⟩) ⟨⟨?_, ?_, ?_, ?_⟩, ?_, RoadsC_q hr a6, ?_, ?_, ?_, ?_, ⟨?_, ?_⟩, a11.2.1, ?_⟩ ⟨?_, fun j hj => ?_⟩ hM (fun f' k' i' hh => o f' k' i' (by omega)) (fun _ _ _ _ => rfl) (fun _ _ => rfl)
  · dsimp only; rw [o _ _ _ (by omega)]; exact hR.1.2.1.1 x y hx hy
  · dsimp only; rw [o _ _ _ (by omega)]; exact hR.1.2.1.2 x y hx hy
  · dsimp only; rw [o _ _ _ (by omega)]; exact hR.1.2.2 x y hx hy
  · rw [hf 48 (by omega) (by omega)]; exact a1
  · rw [hf 48 (by omega) (by omega)]; exact a2
  · rw [hf 48 (by omega) (by omega)]; exact a3
  · rw [hf 48 (by omega) (by omega)]; exact a4
  · rw [hf 49 (by omega) (by omega)]; exact a5
  · rw [pk_q hc, srt_q hc, nCh_q hc]; exact a7
  · rw [hf 50 (by omega) (by omega)]; exact a8
  · rw [hf 51 (by omega) (by omega)]; exact a9
  · rw [hf 52 (by omega) (by omega)]; exact a10
  · rw [hf 48 (by omega) (by omega)]; exact a11.1.1
  · rw [hf 48 (by omega) (by omega)]; exact a11.1.2
  · have en : nLt (upQ Q fq iq vq) = nLt Q := by unfold nLt; rw [hf 48 (by omega) (by omega)]
    rw [en]
    intro j hj
    have := a11.2.2 j hj
    unfold LtC at *
    rw [hf 63 (by omega) (by omega), hf 62 (by omega) (by omega), hf 64 (by omega) (by omega), hf 65 (by omega) (by omega), hf 66 (by omega) (by omega), hf 67 (by omega) (by omega), hf 68 (by omega) (by omega), hf 69 (by omega) (by omega), hf 70 (by omega) (by omega)]
    exact this
  · dsimp only
    rcases h with ⟨rfl, rfl, rfl, rfl⟩ | ⟨rfl, rfl, rfl, rfl, rfl⟩
    · rw [o _ _ _ (by omega), upQ_f (by omega)]; exact hR.2.2.1.1
    · rw [upI_s, upQ_s]
  · dsimp only
    rcases h with ⟨rfl, rfl, rfl, rfl⟩ | ⟨rfl, rfl, rfl, rfl, rfl⟩
    · rw [upI_c, upQ_c]
      split
      · rfl
      · exact hR.2.2.1.2 j hj
    · rw [o _ _ _ (by omega), upQ_f (by omega)]; exact hR.2.2.1.2 j hj
/-! end -/
theorem endQ_W {n : Int} (hw : WFA Q) : WFA (endQ Q n) := by
  unfold endQ
  have := hw.2.2.1.1
  split
  · exact hw.tp (.inr ⟨rfl, rfl, by omega⟩)
  · exact hw
theorem KX12_end {n : Int} (hH : HoldsQ Q M.1) : ∃ I', Cl l G d mX12_end [vR (some (3, 0)), vI n] M (some (vI (endVV Q n))) (I', M.2.1, M.2.2) ∧ HoldsQ (endQ Q n) I' ∧ frR M.1 I' := by
  have e : M.1 3 0 29 = Q 3 29 := hH.1 _ _ (by unfold perF; omega)
  unfold endVV endQ
  by_cases g : 0 ≤ n ∧ n ≤ Q 3 29
  · rw [if_pos g, if_pos g]
    refine ⟨_, xX12_end_0 ?_, hH.up (by unfold perF; omega) (by omega), frR.up (by omega)⟩
    rw [e]
    exact ⟨fun c => by omega, fun _ => ⟨fun _ => ⟨rfl, rfl⟩, fun c => absurd g.2 c⟩⟩
  · rw [if_neg g, if_neg g]
    refine ⟨M.1, xX12_end_0 ?_, hH, frR.rf⟩
    rw [e]
    exact ⟨fun _ => ⟨rfl, rfl⟩, fun c => ⟨fun c2 => absurd ⟨by omega, c2⟩ g, fun _ => ⟨rfl, rfl⟩⟩⟩
theorem KX11_end {n : Int} (hR : RelC Q M) (hw : WFA Q) : ∃ M', Cl l G d mX11_end [vR (some (2, 0)), vI n] M (some (vI (endVV Q n))) M' ∧ RelC (endQ Q n) M' ∧ frK M M' := by
  have e : M.1 2 0 12 = Q 3 29 := hR.2.2.1.1
  unfold endVV endQ
  by_cases g : 0 ≤ n ∧ n ≤ Q 3 29
  · rw [if_pos g, if_pos g]
    refine ⟨_, xX11_end_0 ?_, hR.tp (f := 2) (i := 12) (v := n) hw (.inr ⟨rfl, rfl, rfl, rfl, rfl⟩), frK.up (by omega)⟩
    rw [e]
    exact ⟨fun c => by omega, fun _ => ⟨fun _ => ⟨rfl, rfl⟩, fun c => absurd g.2 c⟩⟩
  · rw [if_neg g, if_neg g]
    refine ⟨M, xX11_end_0 ?_, hR, frK.rf⟩
    rw [e]
    exact ⟨fun _ => ⟨rfl, rfl⟩, fun c => ⟨fun c2 => absurd ⟨by omega, c2⟩ g, fun _ => ⟨rfl, rfl⟩⟩⟩
/-! feed -/
theorem putQ_29 {x s : Int} : putQ Q x s 3 29 = Q 3 29 + 1 := upQ_s
theorem putQ_W {x s : Int} (hw : WFA Q) (h : Q 3 29 < 400) : WFA (putQ Q x s) := by
  have h0 := hw.2.2.1.1
  have hb := aI2b_B (aShr x s)
  exact (hw.tp (f := 76) (i := (Q 3 29).toNat) (v := aI2b (aShr x s)) (.inl ⟨rfl, hb⟩)).tp (.inr ⟨rfl, rfl, by omega⟩)
theorem put4_29 {x : Int} : put4 Q x 3 29 = Q 3 29 + 4 := by
  unfold put4
  rw [putQ_29, putQ_29, putQ_29, putQ_29]
  omega
theorem put4_W {x : Int} (hw : WFA Q) (h : Q 3 29 ≤ 396) : WFA (put4 Q x) := by
  unfold put4
  refine putQ_W (putQ_W (putQ_W (putQ_W hw ?_) ?_) ?_) ?_
  · omega
  · rw [putQ_29]; omega
  · rw [putQ_29, putQ_29]; omega
  · rw [putQ_29, putQ_29, putQ_29]; omega
theorem put_3 {x : Int} {s : Nat} {r : Option Vl} {M' : Mem} (hS : Sh M.2.1) (hs : s ≤ 24) (hw : WFA Q) (hH : HoldsQ Q M.1) (h : Q 3 29 < 400) (K : Ex l G d mX12_put 3 [some (vR (some (3, 0))), some (vI x), some (vI ((s : Int) + (-8)))] [] (upI (upI M.1 76 0 (Q 3 29).toNat (aI2b (aShr x (s : Int)))) 3 0 29 (Q 3 29 + 1), M.2.1, M.2.2) r M') : Ex l G d mX12_put 3 [some (vR (some (3, 0))), some (vI x), some (vI (s : Int))] [] M r M' := by
  have e : M.1 3 0 29 = Q 3 29 := hH.1 _ _ (by unfold perF; omega)
  have h0 := hw.2.2.1.1
  refine xX12_put_3 hS ⟨fun c => by omega, fun _ => ?_⟩
  rw [e]
  exact ⟨⟨by omega, by omega, aI2b_B _, by unfold InR; omega, by unfold InR; omega⟩, K⟩
theorem put_H {x s : Int} (hH : HoldsQ Q M.1) : HoldsQ (putQ Q x s) (upI (upI M.1 76 0 (Q 3 29).toNat (aI2b (aShr x s))) 3 0 29 (Q 3 29 + 1)) := (hH.up (by unfold perF; omega) (by omega)).up (by unfold perF; omega) (by omega)
theorem put_R {I : IM} {i : Nat} {v w : Int} : frR I (upI (upI I 76 0 i v) 3 0 29 w) := (frR.up (by omega)).tr (frR.up (by omega))
theorem KX12_put {x : Int} (hS : Sh M.2.1) (hw : WFA Q) (hH : HoldsQ Q M.1) (h : Q 3 29 ≤ 396) : ∃ I', Cl l G d mX12_put [vR (some (3, 0)), vI x] M none (I', M.2.1, M.2.2) ∧ HoldsQ (put4 Q x) I' ∧ frR M.1 I' := by
  have h0 := hw.2.2.1.1
  have w1 := putQ_W (x := x) (s := 24) hw (by omega)
  have w2 := putQ_W (x := x) (s := 16) w1 (by rw [putQ_29]; omega)
  have w3 := putQ_W (x := x) (s := 8) w2 (by rw [putQ_29, putQ_29]; omega)
  have H1 := put_H (M := M) (x := x) (s := 24) hH
  have H2 := put_H (M := (_, M.2.1, M.2.2)) (x := x) (s := 16) H1
  have H3 := put_H (M := (_, M.2.1, M.2.2)) (x := x) (s := 8) H2
  have H4 := put_H (M := (_, M.2.1, M.2.2)) (x := x) (s := 0) H3
  refine ⟨_, xX12_put_0 ?_, H4, ((put_R.tr put_R).tr put_R).tr put_R⟩
  refine put_3 (s := 24) hS (by omega) hw hH (by omega) ?_
  refine put_3 (M := (_, M.2.1, M.2.2)) (s := 16) hS (by omega) w1 H1 (by rw [putQ_29]; omega) ?_
  refine put_3 (M := (_, M.2.1, M.2.2)) (s := 8) hS (by omega) w2 H2 (by rw [putQ_29, putQ_29]; omega) ?_
  refine put_3 (M := (_, M.2.1, M.2.2)) (s := 0) hS (by omega) w3 H3 (by rw [putQ_29, putQ_29, putQ_29]; omega) ?_
  exact xX12_put_3 hS ⟨fun _ => ⟨rfl, rfl⟩, fun c => absurd (by omega) c⟩
theorem pby_3 {x : Int} {s : Nat} {r : Option Vl} {M' : Mem} (hs : s = 24 ∨ s = 16 ∨ s = 8 ∨ s = 0) (hw : WFA Q) (hR : RelC Q M) (h : Q 3 29 < 400) (K : Ex l G d mX11_putBytes 3 [some (vR (some (2, 0))), some (vI x), some (vI ((s : Int) + (-8)))] [] (upI (upI M.1 16 0 (Q 3 29).toNat (aAnd (aUshr x (s : Int)) 255)) 2 0 12 (Q 3 29 + 1), M.2.1, M.2.2) r M') : Ex l G d mX11_putBytes 3 [some (vR (some (2, 0))), some (vI x), some (vI (s : Int))] [] M r M' := by
  have e : M.1 2 0 12 = Q 3 29 := hR.2.2.1.1
  have h0 := hw.2.2.1.1
  refine xX11_putBytes_3 hR.1.1.1 ⟨fun c => by omega, fun _ => ?_⟩
  rw [e]
  exact ⟨fun c => by omega, fun _ => ⟨⟨by omega, by omega, by unfold InR; omega, by unfold InR; omega⟩, K⟩⟩
theorem pby_R {x : Int} {s : Nat} (hs : s = 24 ∨ s = 16 ∨ s = 8 ∨ s = 0) (hw : WFA Q) (hR : RelC Q M) : RelC (putQ Q x (s : Int)) (upI (upI M.1 16 0 (Q 3 29).toNat (aAnd (aUshr x (s : Int)) 255)) 2 0 12 (Q 3 29 + 1), M.2.1, M.2.2) := by
  have hb := aI2b_B (aShr x (s : Int))
  have r1 := hR.tp (f := 16) (fq := 76) (i := (Q 3 29).toNat) (iq := (Q 3 29).toNat) (v := aAnd (aUshr x (s : Int)) 255) (vq := aI2b (aShr x (s : Int))) hw (.inl ⟨rfl, rfl, rfl, byte_eq hs⟩)
  exact r1.tp (f := 2) (fq := 3) (i := 12) (iq := 29) (v := Q 3 29 + 1) (vq := Q 3 29 + 1) (hw.tp (.inl ⟨rfl, hb⟩)) (.inr ⟨rfl, rfl, rfl, rfl, rfl⟩)
/-- only the tape is other -/
def frT (M M' : Mem) : Prop := (∀ f k i, ¬ (f = 16 ∨ f = 2) → M'.1 f k i = M.1 f k i) ∧ M'.2 = M.2
theorem frT.tr {M M' M'' : Mem} (h : frT M M') (h' : frT M' M'') : frT M M'' := ⟨fun f k i hn => (h'.1 f k i hn).trans (h.1 f k i hn), h'.2.trans h.2⟩
theorem frT.ck {M M' : Mem} (h : frT M M') : frK M M' := ⟨fun f k i hh => h.1 f k i (by omega), ⟨by rw [h.2], by rw [h.2]⟩, by rw [h.2]; omega, by rw [h.2]; omega⟩
theorem frT.up {i : Nat} {v w : Int} : frT M (upI (upI M.1 16 0 i v) 2 0 12 w, M.2.1, M.2.2) := ⟨fun f k j hn => by dsimp only; rw [upI_o (fun e => by omega), upI_o (fun e => by omega)], rfl⟩
theorem KX11_putBytes {x : Int} (hw : WFA Q) (hR : RelC Q M) (h : Q 3 29 ≤ 396) : ∃ M', Cl l G d mX11_putBytes [vR (some (2, 0)), vI x] M none M' ∧ RelC (put4 Q x) M' ∧ frT M M' := by
  have h0 := hw.2.2.1.1
  have w1 := putQ_W (x := x) (s := 24) hw (by omega)
  have w2 := putQ_W (x := x) (s := 16) w1 (by rw [putQ_29]; omega)
  have w3 := putQ_W (x := x) (s := 8) w2 (by rw [putQ_29, putQ_29]; omega)
  have H1 := pby_R (M := M) (x := x) (s := 24) (by omega) hw hR
  have H2 := pby_R (M := (_, M.2.1, M.2.2)) (x := x) (s := 16) (by omega) w1 H1
  have H3 := pby_R (M := (_, M.2.1, M.2.2)) (x := x) (s := 8) (by omega) w2 H2
  have H4 := pby_R (M := (_, M.2.1, M.2.2)) (x := x) (s := 0) (by omega) w3 H3
  refine ⟨_, xX11_putBytes_0 ?_, H4, ((frT.up.tr (frT.up (M := (_, M.2.1, M.2.2)))).tr (frT.up (M := (_, M.2.1, M.2.2)))).tr (frT.up (M := (_, M.2.1, M.2.2)))⟩
  refine pby_3 (s := 24) (by omega) hw hR (by omega) ?_
  refine pby_3 (M := (_, M.2.1, M.2.2)) (s := 16) (by omega) w1 H1 (by rw [putQ_29]; omega) ?_
  refine pby_3 (M := (_, M.2.1, M.2.2)) (s := 8) (by omega) w2 H2 (by rw [putQ_29, putQ_29]; omega) ?_
  refine pby_3 (M := (_, M.2.1, M.2.2)) (s := 0) (by omega) w3 H3 (by rw [putQ_29, putQ_29, putQ_29]; omega) ?_
  exact xX11_putBytes_3 hR.1.1.1 ⟨fun _ => ⟨rfl, rfl⟩, fun c => absurd (by omega) c⟩
theorem feedQ_W {a b c e f : Int} (hw : WFA Q) : WFA (feedQ Q a b c e f) := by
  unfold feedQ
  split
  · refine put4_W (put4_W (put4_W (put4_W (put4_W hw (by omega)) ?_) ?_) ?_) ?_
    · rw [put4_29]; omega
    · rw [put4_29, put4_29]; omega
    · rw [put4_29, put4_29, put4_29]; omega
    · rw [put4_29, put4_29, put4_29, put4_29]; omega
  · exact hw
theorem KX12_feed {a b c e f : Int} (hS : Sh M.2.1) (hw : WFA Q) (hH : HoldsQ Q M.1) : ∃ I', Cl l G (d + 1) mX12_feed [vR (some (3, 0)), vI a, vI b, vI c, vI e, vI f] M (some (vI (feedV Q))) (I', M.2.1, M.2.2) ∧ HoldsQ (feedQ Q a b c e f) I' ∧ frR M.1 I' := by
  have h0 := hw.2.2.1.1
  have e29 : M.1 3 0 29 = Q 3 29 := hH.1 _ _ (by unfold perF; omega)
  unfold feedV feedQ
  by_cases g : Q 3 29 + 20 ≤ 400
  · rw [if_pos g, if_pos g]
    obtain ⟨I1, c1, H1, f1⟩ := KX12_put (l := l) (G := G) (d := d) (x := a) hS hw hH (by omega)
    have w1 := put4_W (x := a) hw (by omega)
    obtain ⟨I2, c2, H2, f2⟩ := KX12_put (l := l) (G := G) (d := d) (M := (I1, M.2.1, M.2.2)) (x := b) hS w1 H1 (by rw [put4_29]; omega)
    have w2 := put4_W (x := b) w1 (by rw [put4_29]; omega)
    obtain ⟨I3, c3, H3, f3⟩ := KX12_put (l := l) (G := G) (d := d) (M := (I2, M.2.1, M.2.2)) (x := c) hS w2 H2 (by rw [put4_29, put4_29]; omega)
    have w3 := put4_W (x := c) w2 (by rw [put4_29, put4_29]; omega)
    obtain ⟨I4, c4, H4, f4⟩ := KX12_put (l := l) (G := G) (d := d) (M := (I3, M.2.1, M.2.2)) (x := e) hS w3 H3 (by rw [put4_29, put4_29, put4_29]; omega)
    have w4 := put4_W (x := e) w3 (by rw [put4_29, put4_29, put4_29]; omega)
    obtain ⟨I5, c5, H5, f5⟩ := KX12_put (l := l) (G := G) (d := d) (M := (I4, M.2.1, M.2.2)) (x := f) hS w4 H4 (by rw [put4_29, put4_29, put4_29, put4_29]; omega)
    have e5 : I5 3 0 29 = Q 3 29 + 20 := by rw [H5.1 _ _ (by unfold perF; omega), put4_29, put4_29, put4_29, put4_29, put4_29]; omega
    refine ⟨I5, xX12_feed_0 ?_, H5, (((f1.tr f2).tr f3).tr f4).tr f5⟩
    rw [e29]
    exact ⟨by unfold InR; omega, fun _ => ⟨_, c1, _, c2, _, c3, _, c4, _, c5, by dsimp only; rw [e5], rfl⟩, fun c => absurd g c⟩
  · rw [if_neg g, if_neg g]
    refine ⟨M.1, xX12_feed_0 ?_, hH, frR.rf⟩
    rw [e29]
    exact ⟨by unfold InR; omega, fun c => absurd c g, fun _ => ⟨rfl, rfl⟩⟩
theorem KX11_feed {a b c e f : Int} (hR : RelC Q M) (hw : WFA Q) : ∃ M', Cl l G (d + 1) mX11_feed [vR (some (2, 0)), vI a, vI b, vI c, vI e, vI f] M (some (vI (feedV Q))) M' ∧ RelC (feedQ Q a b c e f) M' ∧ frK M M' := by
  have h0 := hw.2.2.1.1
  have e29 : M.1 2 0 12 = Q 3 29 := hR.2.2.1.1
  unfold feedV feedQ
  by_cases g : Q 3 29 + 20 ≤ 400
  · rw [if_pos g, if_pos g]
    obtain ⟨M1, c1, H1, f1⟩ := KX11_putBytes (l := l) (G := G) (d := d) (x := a) hw hR (by omega)
    have w1 := put4_W (x := a) hw (by omega)
    obtain ⟨M2, c2, H2, f2⟩ := KX11_putBytes (l := l) (G := G) (d := d) (x := b) w1 H1 (by rw [put4_29]; omega)
    have w2 := put4_W (x := b) w1 (by rw [put4_29]; omega)
    obtain ⟨M3, c3, H3, f3⟩ := KX11_putBytes (l := l) (G := G) (d := d) (x := c) w2 H2 (by rw [put4_29, put4_29]; omega)
    have w3 := put4_W (x := c) w2 (by rw [put4_29, put4_29]; omega)
    obtain ⟨M4, c4, H4, f4⟩ := KX11_putBytes (l := l) (G := G) (d := d) (x := e) w3 H3 (by rw [put4_29, put4_29, put4_29]; omega)
    have w4 := put4_W (x := e) w3 (by rw [put4_29, put4_29, put4_29]; omega)
    obtain ⟨M5, c5, H5, f5⟩ := KX11_putBytes (l := l) (G := G) (d := d) (x := f) w4 H4 (by rw [put4_29, put4_29, put4_29, put4_29]; omega)
    have e5 : M5.1 2 0 12 = Q 3 29 + 20 := by rw [H5.2.2.1.1, put4_29, put4_29, put4_29, put4_29, put4_29]; omega
    refine ⟨M5, xX11_feed_0 ?_, H5, ((((f1.tr f2).tr f3).tr f4).tr f5).ck⟩
    rw [e29]
    exact ⟨fun _ => ⟨_, c1, _, c2, _, c3, _, c4, _, c5, by rw [e5], rfl⟩, fun c => absurd (by omega) c⟩
  · rw [if_neg g, if_neg g]
    refine ⟨M, xX11_feed_0 ?_, hR, frK.rf⟩
    rw [e29]
    exact ⟨fun c => absurd (by omega) g, fun _ => ⟨rfl, rfl⟩⟩
end FD
