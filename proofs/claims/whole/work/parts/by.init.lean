/-! NamelessPostModel() -/
section BY
variable {l : Launch} {G : Gt} {d : Nat} {M : Mem} {cn : Nat → Nat} {nc ns : Nat}
theorem inc_z {cn : Nat → Nat} {g : Nat} (h : ∀ f, g ≤ f → cn f = 0) : ∀ f, g + 1 ≤ f → inc cn g f = 0 := fun f hf => by rw [inc_n (by omega)]; exact h f (by omega)
theorem inc_l {cn cn' : Nat → Nat} {g : Nat} (hg : 48 ≤ g) (h : ∀ f, f < 48 → cn f = cn' f) : ∀ f, f < 48 → inc cn g f = cn' f := fun f hf => by rw [inc_n (by omega)]; exact h f hf
theorem BX12_init (h : Bu (fun f _ _ => f < 0) (fun f k i => f = 3 ∧ k = 0 ∧ ((1 ≤ i ∧ i ≤ 28) ∨ (39 ≤ i ∧ i ≤ 47) ∨ (51 ≤ i ∧ i ≤ 55) ∨ (64 ≤ i ∧ i ≤ 65))) cn nc ns M) (hz : ∀ f, 48 ≤ f → cn f = 0) : ∃ M' cn' nc' ns', Cl l G (d + 1) mX12_init [vR (some (3, 0))] M none M' ∧ Bu (fun f _ _ => f < 0) (fun f _ _ => f < 0) cn' nc' ns' M' ∧ (∀ f, f < 48 → cn' f = cn f) ∧ nc' ≤ nc + 100 ∧ ns' ≤ ns + 20000 := by
  obtain ⟨N1, e1⟩ : ∃ N, newM M 48 6 6 = N := ⟨_, rfl⟩
  have c48 := hz 48 (Nat.le_refl _)
  have k48 : cCnt M.2.2 48 = 0 := (h.2.2.1 48).trans c48
  have a1 := h.row e1 (c := 0) c48 (fun _ => rfl) (fun _ => rfl)
  have u1 := (a1.upR (f := 3) (k := 0) (i := 1) (v := some (48, cCnt M.2.2 48)) (by rw [k48]; rfl)).mo (U' := fun f k i => f = 3 ∧ k = 0 ∧ ((1 ≤ i ∧ i ≤ 28) ∨ (39 ≤ i ∧ i ≤ 47) ∨ (51 ≤ i ∧ i ≤ 55) ∨ (64 ≤ i ∧ i ≤ 65)) ∧ 1 < i) (fun _ _ _ hw => hw) (fun f k i hw => by omega)
  have z1 := inc_z hz
  have l1 := inc_l (g := 48) (by decide) (cn := cn) (cn' := cn) (fun _ _ => rfl)
  obtain ⟨N2, e2⟩ : ∃ N, newM (N1.1, upR N1.2.1 3 0 1 (some (48, cCnt M.2.2 48)), N1.2.2) 49 12 12 = N := ⟨_, rfl⟩
  have c49 := z1 49 (Nat.le_refl _)
  have k49 : cCnt N1.2.2 49 = 0 := (a1.2.2.1 49).trans c49
  have a2 := u1.row e2 (c := 0) c49 (fun _ => rfl) (fun _ => rfl)
  have u2 := (a2.upR (f := 3) (k := 0) (i := 2) (v := some (49, cCnt N1.2.2 49)) (by rw [k49]; rfl)).mo (U' := fun f k i => f = 3 ∧ k = 0 ∧ ((1 ≤ i ∧ i ≤ 28) ∨ (39 ≤ i ∧ i ≤ 47) ∨ (51 ≤ i ∧ i ≤ 55) ∨ (64 ≤ i ∧ i ≤ 65)) ∧ 2 < i) (fun _ _ _ hw => hw) (fun f k i hw => by omega)
  have z2 := inc_z z1
  have l2 := inc_l (g := 49) (by decide) l1
  obtain ⟨N3, e3⟩ : ∃ N, newM (N2.1, upR N2.2.1 3 0 2 (some (49, cCnt N1.2.2 49)), N2.2.2) 50 12 12 = N := ⟨_, rfl⟩
  have c50 := z2 50 (Nat.le_refl _)
  have k50 : cCnt N2.2.2 50 = 0 := (a2.2.2.1 50).trans c50
  have a3 := u2.row e3 (c := 0) c50 (fun _ => rfl) (fun _ => rfl)
  have u3 := (a3.upR (f := 3) (k := 0) (i := 3) (v := some (50, cCnt N2.2.2 50)) (by rw [k50]; rfl)).mo (U' := fun f k i => f = 3 ∧ k = 0 ∧ ((1 ≤ i ∧ i ≤ 28) ∨ (39 ≤ i ∧ i ≤ 47) ∨ (51 ≤ i ∧ i ≤ 55) ∨ (64 ≤ i ∧ i ≤ 65)) ∧ 3 < i) (fun _ _ _ hw => hw) (fun f k i hw => by omega)
  have z3 := inc_z z2
  have l3 := inc_l (g := 50) (by decide) l2
  obtain ⟨N4, e4⟩ : ∃ N, newM (N3.1, upR N3.2.1 3 0 3 (some (50, cCnt N2.2.2 50)), N3.2.2) 51 17 17 = N := ⟨_, rfl⟩
  have c51 := z3 51 (Nat.le_refl _)
  have k51 : cCnt N3.2.2 51 = 0 := (a3.2.2.1 51).trans c51
  have a4 := (u3.new e4 (c := 0) c51 (fun i => i < 17) (fun i => i < 0) (fun i hi => if_neg hi) (fun _ _ => rfl)).mo (W' := fun f k i => f = 51 ∧ k = 0 ∧ i < 17) (U' := fun f k i => f = 3 ∧ k = 0 ∧ ((1 ≤ i ∧ i ≤ 28) ∨ (39 ≤ i ∧ i ≤ 47) ∨ (51 ≤ i ∧ i ≤ 55) ∨ (64 ≤ i ∧ i ≤ 65)) ∧ 3 < i) (fun f k i hw => by omega) (fun f k i hw => by omega)
  have u4 := (a4.upR (f := 3) (k := 0) (i := 4) (v := some (51, cCnt N3.2.2 51)) (by rw [k51]; rfl)).mo (U' := fun f k i => f = 3 ∧ k = 0 ∧ ((1 ≤ i ∧ i ≤ 28) ∨ (39 ≤ i ∧ i ≤ 47) ∨ (51 ≤ i ∧ i ≤ 55) ∨ (64 ≤ i ∧ i ≤ 65)) ∧ 4 < i) (fun _ _ _ hw => hw) (fun f k i hw => by omega)
  have z4 := inc_z z3
  have l4 := inc_l (g := 51) (by decide) l3
  obtain ⟨N5, e5⟩ : ∃ N, newM (N4.1, upR N4.2.1 3 0 4 (some (51, cCnt N3.2.2 51)), N4.2.2) 52 20 20 = N := ⟨_, rfl⟩
  have c52 := z4 52 (Nat.le_refl _)
  have k52 : cCnt N4.2.2 52 = 0 := (a4.2.2.1 52).trans c52
  have a5 := u4.row e5 (c := 0) c52 (fun _ => rfl) (fun _ => rfl)
  have u5 := (a5.upR (f := 3) (k := 0) (i := 5) (v := some (52, cCnt N4.2.2 52)) (by rw [k52]; rfl)).mo (U' := fun f k i => f = 3 ∧ k = 0 ∧ ((1 ≤ i ∧ i ≤ 28) ∨ (39 ≤ i ∧ i ≤ 47) ∨ (51 ≤ i ∧ i ≤ 55) ∨ (64 ≤ i ∧ i ≤ 65)) ∧ 5 < i) (fun _ _ _ hw => hw) (fun f k i hw => by omega)
  have z5 := inc_z z4
  have l5 := inc_l (g := 52) (by decide) l4
  obtain ⟨N6, e6⟩ : ∃ N, newM (N5.1, upR N5.2.1 3 0 5 (some (52, cCnt N4.2.2 52)), N5.2.2) 53 16 16 = N := ⟨_, rfl⟩
  have c53 := z5 53 (Nat.le_refl _)
  have k53 : cCnt N5.2.2 53 = 0 := (a5.2.2.1 53).trans c53
  have a6 := u5.row e6 (c := 0) c53 (fun _ => rfl) (fun _ => rfl)
  have u6 := (a6.upR (f := 3) (k := 0) (i := 6) (v := some (53, cCnt N5.2.2 53)) (by rw [k53]; rfl)).mo (U' := fun f k i => f = 3 ∧ k = 0 ∧ ((1 ≤ i ∧ i ≤ 28) ∨ (39 ≤ i ∧ i ≤ 47) ∨ (51 ≤ i ∧ i ≤ 55) ∨ (64 ≤ i ∧ i ≤ 65)) ∧ 6 < i) (fun _ _ _ hw => hw) (fun f k i hw => by omega)
  have z6 := inc_z z5
  have l6 := inc_l (g := 53) (by decide) l5
  obtain ⟨N7, e7⟩ : ∃ N, newM (N6.1, upR N6.2.1 3 0 6 (some (53, cCnt N5.2.2 53)), N6.2.2) 54 16 16 = N := ⟨_, rfl⟩
  have c54 := z6 54 (Nat.le_refl _)
  have k54 : cCnt N6.2.2 54 = 0 := (a6.2.2.1 54).trans c54
  have a7 := u6.row e7 (c := 0) c54 (fun _ => rfl) (fun _ => rfl)
  have u7 := (a7.upR (f := 3) (k := 0) (i := 7) (v := some (54, cCnt N6.2.2 54)) (by rw [k54]; rfl)).mo (U' := fun f k i => f = 3 ∧ k = 0 ∧ ((1 ≤ i ∧ i ≤ 28) ∨ (39 ≤ i ∧ i ≤ 47) ∨ (51 ≤ i ∧ i ≤ 55) ∨ (64 ≤ i ∧ i ≤ 65)) ∧ 7 < i) (fun _ _ _ hw => hw) (fun f k i hw => by omega)
  have z7 := inc_z z6
  have l7 := inc_l (g := 54) (by decide) l6
  obtain ⟨N8, e8⟩ : ∃ N, newM (N7.1, upR N7.2.1 3 0 7 (some (54, cCnt N6.2.2 54)), N7.2.2) 55 16 16 = N := ⟨_, rfl⟩
  have c55 := z7 55 (Nat.le_refl _)
  have k55 : cCnt N7.2.2 55 = 0 := (a7.2.2.1 55).trans c55
  have a8 := u7.row e8 (c := 0) c55 (fun _ => rfl) (fun _ => rfl)
  have u8 := (a8.upR (f := 3) (k := 0) (i := 8) (v := some (55, cCnt N7.2.2 55)) (by rw [k55]; rfl)).mo (U' := fun f k i => f = 3 ∧ k = 0 ∧ ((1 ≤ i ∧ i ≤ 28) ∨ (39 ≤ i ∧ i ≤ 47) ∨ (51 ≤ i ∧ i ≤ 55) ∨ (64 ≤ i ∧ i ≤ 65)) ∧ 8 < i) (fun _ _ _ hw => hw) (fun f k i hw => by omega)
  have z8 := inc_z z7
  have l8 := inc_l (g := 55) (by decide) l7
  obtain ⟨N9, e9⟩ : ∃ N, newM (N8.1, upR N8.2.1 3 0 8 (some (55, cCnt N7.2.2 55)), N8.2.2) 56 60 60 = N := ⟨_, rfl⟩
  have c56 := z8 56 (Nat.le_refl _)
  have k56 : cCnt N8.2.2 56 = 0 := (a8.2.2.1 56).trans c56
  have a9 := u8.row e9 (c := 0) c56 (fun _ => rfl) (fun _ => rfl)
  have u9 := (a9.upR (f := 3) (k := 0) (i := 9) (v := some (56, cCnt N8.2.2 56)) (by rw [k56]; rfl)).mo (U' := fun f k i => f = 3 ∧ k = 0 ∧ ((1 ≤ i ∧ i ≤ 28) ∨ (39 ≤ i ∧ i ≤ 47) ∨ (51 ≤ i ∧ i ≤ 55) ∨ (64 ≤ i ∧ i ≤ 65)) ∧ 9 < i) (fun _ _ _ hw => hw) (fun f k i hw => by omega)
  have z9 := inc_z z8
  have l9 := inc_l (g := 56) (by decide) l8
  obtain ⟨N10, e10⟩ : ∃ N, newM (N9.1, upR N9.2.1 3 0 9 (some (56, cCnt N8.2.2 56)), N9.2.2) 57 60 60 = N := ⟨_, rfl⟩
  have c57 := z9 57 (Nat.le_refl _)
  have k57 : cCnt N9.2.2 57 = 0 := (a9.2.2.1 57).trans c57
  have a10 := u9.row e10 (c := 0) c57 (fun _ => rfl) (fun _ => rfl)
  have u10 := (a10.upR (f := 3) (k := 0) (i := 10) (v := some (57, cCnt N9.2.2 57)) (by rw [k57]; rfl)).mo (U' := fun f k i => f = 3 ∧ k = 0 ∧ ((1 ≤ i ∧ i ≤ 28) ∨ (39 ≤ i ∧ i ≤ 47) ∨ (51 ≤ i ∧ i ≤ 55) ∨ (64 ≤ i ∧ i ≤ 65)) ∧ 10 < i) (fun _ _ _ hw => hw) (fun f k i hw => by omega)
  have z10 := inc_z z9
  have l10 := inc_l (g := 57) (by decide) l9
  obtain ⟨N11, e11⟩ : ∃ N, newM (N10.1, upR N10.2.1 3 0 10 (some (57, cCnt N9.2.2 57)), N10.2.2) 58 60 60 = N := ⟨_, rfl⟩
  have c58 := z10 58 (Nat.le_refl _)
  have k58 : cCnt N10.2.2 58 = 0 := (a10.2.2.1 58).trans c58
  have a11 := u10.row e11 (c := 0) c58 (fun _ => rfl) (fun _ => rfl)
  have u11 := (a11.upR (f := 3) (k := 0) (i := 11) (v := some (58, cCnt N10.2.2 58)) (by rw [k58]; rfl)).mo (U' := fun f k i => f = 3 ∧ k = 0 ∧ ((1 ≤ i ∧ i ≤ 28) ∨ (39 ≤ i ∧ i ≤ 47) ∨ (51 ≤ i ∧ i ≤ 55) ∨ (64 ≤ i ∧ i ≤ 65)) ∧ 11 < i) (fun _ _ _ hw => hw) (fun f k i hw => by omega)
  have z11 := inc_z z10
  have l11 := inc_l (g := 58) (by decide) l10
  obtain ⟨N12, e12⟩ : ∃ N, newM (N11.1, upR N11.2.1 3 0 11 (some (58, cCnt N10.2.2 58)), N11.2.2) 59 60 60 = N := ⟨_, rfl⟩
  have c59 := z11 59 (Nat.le_refl _)
  have k59 : cCnt N11.2.2 59 = 0 := (a11.2.2.1 59).trans c59
  have a12 := u11.row e12 (c := 0) c59 (fun _ => rfl) (fun _ => rfl)
  have u12 := (a12.upR (f := 3) (k := 0) (i := 12) (v := some (59, cCnt N11.2.2 59)) (by rw [k59]; rfl)).mo (U' := fun f k i => f = 3 ∧ k = 0 ∧ ((1 ≤ i ∧ i ≤ 28) ∨ (39 ≤ i ∧ i ≤ 47) ∨ (51 ≤ i ∧ i ≤ 55) ∨ (64 ≤ i ∧ i ≤ 65)) ∧ 12 < i) (fun _ _ _ hw => hw) (fun f k i hw => by omega)
  have z12 := inc_z z11
  have l12 := inc_l (g := 59) (by decide) l11
  obtain ⟨N13, e13⟩ : ∃ N, newM (N12.1, upR N12.2.1 3 0 12 (some (59, cCnt N11.2.2 59)), N12.2.2) 60 60 60 = N := ⟨_, rfl⟩
  have c60 := z12 60 (Nat.le_refl _)
  have k60 : cCnt N12.2.2 60 = 0 := (a12.2.2.1 60).trans c60
  have a13 := u12.row e13 (c := 0) c60 (fun _ => rfl) (fun _ => rfl)
  have u13 := (a13.upR (f := 3) (k := 0) (i := 13) (v := some (60, cCnt N12.2.2 60)) (by rw [k60]; rfl)).mo (U' := fun f k i => f = 3 ∧ k = 0 ∧ ((1 ≤ i ∧ i ≤ 28) ∨ (39 ≤ i ∧ i ≤ 47) ∨ (51 ≤ i ∧ i ≤ 55) ∨ (64 ≤ i ∧ i ≤ 65)) ∧ 13 < i) (fun _ _ _ hw => hw) (fun f k i hw => by omega)
  have z13 := inc_z z12
  have l13 := inc_l (g := 60) (by decide) l12
  obtain ⟨N14, e14⟩ : ∃ N, newM (N13.1, upR N13.2.1 3 0 13 (some (60, cCnt N12.2.2 60)), N13.2.2) 61 60 60 = N := ⟨_, rfl⟩
  have c61 := z13 61 (Nat.le_refl _)
  have k61 : cCnt N13.2.2 61 = 0 := (a13.2.2.1 61).trans c61
  have a14 := u13.row e14 (c := 0) c61 (fun _ => rfl) (fun _ => rfl)
  have u14 := (a14.upR (f := 3) (k := 0) (i := 14) (v := some (61, cCnt N13.2.2 61)) (by rw [k61]; rfl)).mo (U' := fun f k i => f = 3 ∧ k = 0 ∧ ((1 ≤ i ∧ i ≤ 28) ∨ (39 ≤ i ∧ i ≤ 47) ∨ (51 ≤ i ∧ i ≤ 55) ∨ (64 ≤ i ∧ i ≤ 65)) ∧ 14 < i) (fun _ _ _ hw => hw) (fun f k i hw => by omega)
  have z14 := inc_z z13
  have l14 := inc_l (g := 61) (by decide) l13
  obtain ⟨N15, e15⟩ : ∃ N, newM (N14.1, upR N14.2.1 3 0 14 (some (61, cCnt N13.2.2 61)), N14.2.2) 62 8 8 = N := ⟨_, rfl⟩
  have c62 := z14 62 (Nat.le_refl _)
  have k62 : cCnt N14.2.2 62 = 0 := (a14.2.2.1 62).trans c62
  have a15 := u14.row e15 (c := 0) c62 (fun _ => rfl) (fun _ => rfl)
  have u15 := (a15.upR (f := 3) (k := 0) (i := 15) (v := some (62, cCnt N14.2.2 62)) (by rw [k62]; rfl)).mo (U' := fun f k i => f = 3 ∧ k = 0 ∧ ((1 ≤ i ∧ i ≤ 28) ∨ (39 ≤ i ∧ i ≤ 47) ∨ (51 ≤ i ∧ i ≤ 55) ∨ (64 ≤ i ∧ i ≤ 65)) ∧ 15 < i) (fun _ _ _ hw => hw) (fun f k i hw => by omega)
  have z15 := inc_z z14
  have l15 := inc_l (g := 62) (by decide) l14
  obtain ⟨N16, e16⟩ : ∃ N, newM (N15.1, upR N15.2.1 3 0 15 (some (62, cCnt N14.2.2 62)), N15.2.2) 63 8 8 = N := ⟨_, rfl⟩
  have c63 := z15 63 (Nat.le_refl _)
  have k63 : cCnt N15.2.2 63 = 0 := (a15.2.2.1 63).trans c63
  have a16 := u15.row e16 (c := 0) c63 (fun _ => rfl) (fun _ => rfl)
  have u16 := (a16.upR (f := 3) (k := 0) (i := 16) (v := some (63, cCnt N15.2.2 63)) (by rw [k63]; rfl)).mo (U' := fun f k i => f = 3 ∧ k = 0 ∧ ((1 ≤ i ∧ i ≤ 28) ∨ (39 ≤ i ∧ i ≤ 47) ∨ (51 ≤ i ∧ i ≤ 55) ∨ (64 ≤ i ∧ i ≤ 65)) ∧ 16 < i) (fun _ _ _ hw => hw) (fun f k i hw => by omega)
  have z16 := inc_z z15
  have l16 := inc_l (g := 63) (by decide) l15
  obtain ⟨N17, e17⟩ : ∃ N, newM (N16.1, upR N16.2.1 3 0 16 (some (63, cCnt N15.2.2 63)), N16.2.2) 64 8 8 = N := ⟨_, rfl⟩
  have c64 := z16 64 (Nat.le_refl _)
  have k64 : cCnt N16.2.2 64 = 0 := (a16.2.2.1 64).trans c64
  have a17 := u16.row e17 (c := 0) c64 (fun _ => rfl) (fun _ => rfl)
  have u17 := (a17.upR (f := 3) (k := 0) (i := 17) (v := some (64, cCnt N16.2.2 64)) (by rw [k64]; rfl)).mo (U' := fun f k i => f = 3 ∧ k = 0 ∧ ((1 ≤ i ∧ i ≤ 28) ∨ (39 ≤ i ∧ i ≤ 47) ∨ (51 ≤ i ∧ i ≤ 55) ∨ (64 ≤ i ∧ i ≤ 65)) ∧ 17 < i) (fun _ _ _ hw => hw) (fun f k i hw => by omega)
  have z17 := inc_z z16
  have l17 := inc_l (g := 64) (by decide) l16
  obtain ⟨N18, e18⟩ : ∃ N, newM (N17.1, upR N17.2.1 3 0 17 (some (64, cCnt N16.2.2 64)), N17.2.2) 65 8 8 = N := ⟨_, rfl⟩
  have c65 := z17 65 (Nat.le_refl _)
  have k65 : cCnt N17.2.2 65 = 0 := (a17.2.2.1 65).trans c65
  have a18 := u17.row e18 (c := 0) c65 (fun _ => rfl) (fun _ => rfl)
  have u18 := (a18.upR (f := 3) (k := 0) (i := 18) (v := some (65, cCnt N17.2.2 65)) (by rw [k65]; rfl)).mo (U' := fun f k i => f = 3 ∧ k = 0 ∧ ((1 ≤ i ∧ i ≤ 28) ∨ (39 ≤ i ∧ i ≤ 47) ∨ (51 ≤ i ∧ i ≤ 55) ∨ (64 ≤ i ∧ i ≤ 65)) ∧ 18 < i) (fun _ _ _ hw => hw) (fun f k i hw => by omega)
  have z18 := inc_z z17
  have l18 := inc_l (g := 65) (by decide) l17
  obtain ⟨N19, e19⟩ : ∃ N, newM (N18.1, upR N18.2.1 3 0 18 (some (65, cCnt N17.2.2 65)), N18.2.2) 66 8 8 = N := ⟨_, rfl⟩
  have c66 := z18 66 (Nat.le_refl _)
  have k66 : cCnt N18.2.2 66 = 0 := (a18.2.2.1 66).trans c66
  have a19 := u18.row e19 (c := 0) c66 (fun _ => rfl) (fun _ => rfl)
  have u19 := (a19.upR (f := 3) (k := 0) (i := 19) (v := some (66, cCnt N18.2.2 66)) (by rw [k66]; rfl)).mo (U' := fun f k i => f = 3 ∧ k = 0 ∧ ((1 ≤ i ∧ i ≤ 28) ∨ (39 ≤ i ∧ i ≤ 47) ∨ (51 ≤ i ∧ i ≤ 55) ∨ (64 ≤ i ∧ i ≤ 65)) ∧ 19 < i) (fun _ _ _ hw => hw) (fun f k i hw => by omega)
  have z19 := inc_z z18
  have l19 := inc_l (g := 66) (by decide) l18
  obtain ⟨N20, e20⟩ : ∃ N, newM (N19.1, upR N19.2.1 3 0 19 (some (66, cCnt N18.2.2 66)), N19.2.2) 67 8 8 = N := ⟨_, rfl⟩
  have c67 := z19 67 (Nat.le_refl _)
  have k67 : cCnt N19.2.2 67 = 0 := (a19.2.2.1 67).trans c67
  have a20 := u19.row e20 (c := 0) c67 (fun _ => rfl) (fun _ => rfl)
  have u20 := (a20.upR (f := 3) (k := 0) (i := 20) (v := some (67, cCnt N19.2.2 67)) (by rw [k67]; rfl)).mo (U' := fun f k i => f = 3 ∧ k = 0 ∧ ((1 ≤ i ∧ i ≤ 28) ∨ (39 ≤ i ∧ i ≤ 47) ∨ (51 ≤ i ∧ i ≤ 55) ∨ (64 ≤ i ∧ i ≤ 65)) ∧ 20 < i) (fun _ _ _ hw => hw) (fun f k i hw => by omega)
  have z20 := inc_z z19
  have l20 := inc_l (g := 67) (by decide) l19
  obtain ⟨N21, e21⟩ : ∃ N, newM (N20.1, upR N20.2.1 3 0 20 (some (67, cCnt N19.2.2 67)), N20.2.2) 68 8 8 = N := ⟨_, rfl⟩
  have c68 := z20 68 (Nat.le_refl _)
  have k68 : cCnt N20.2.2 68 = 0 := (a20.2.2.1 68).trans c68
  have a21 := u20.row e21 (c := 0) c68 (fun _ => rfl) (fun _ => rfl)
  have u21 := (a21.upR (f := 3) (k := 0) (i := 21) (v := some (68, cCnt N20.2.2 68)) (by rw [k68]; rfl)).mo (U' := fun f k i => f = 3 ∧ k = 0 ∧ ((1 ≤ i ∧ i ≤ 28) ∨ (39 ≤ i ∧ i ≤ 47) ∨ (51 ≤ i ∧ i ≤ 55) ∨ (64 ≤ i ∧ i ≤ 65)) ∧ 21 < i) (fun _ _ _ hw => hw) (fun f k i hw => by omega)
  have z21 := inc_z z20
  have l21 := inc_l (g := 68) (by decide) l20
  obtain ⟨N22, e22⟩ : ∃ N, newM (N21.1, upR N21.2.1 3 0 21 (some (68, cCnt N20.2.2 68)), N21.2.2) 69 8 8 = N := ⟨_, rfl⟩
  have c69 := z21 69 (Nat.le_refl _)
  have k69 : cCnt N21.2.2 69 = 0 := (a21.2.2.1 69).trans c69
  have a22 := u21.row e22 (c := 0) c69 (fun _ => rfl) (fun _ => rfl)
  have u22 := (a22.upR (f := 3) (k := 0) (i := 22) (v := some (69, cCnt N21.2.2 69)) (by rw [k69]; rfl)).mo (U' := fun f k i => f = 3 ∧ k = 0 ∧ ((1 ≤ i ∧ i ≤ 28) ∨ (39 ≤ i ∧ i ≤ 47) ∨ (51 ≤ i ∧ i ≤ 55) ∨ (64 ≤ i ∧ i ≤ 65)) ∧ 22 < i) (fun _ _ _ hw => hw) (fun f k i hw => by omega)
  have z22 := inc_z z21
  have l22 := inc_l (g := 69) (by decide) l21
  obtain ⟨N23, e23⟩ : ∃ N, newM (N22.1, upR N22.2.1 3 0 22 (some (69, cCnt N21.2.2 69)), N22.2.2) 70 8 8 = N := ⟨_, rfl⟩
  have c70 := z22 70 (Nat.le_refl _)
  have k70 : cCnt N22.2.2 70 = 0 := (a22.2.2.1 70).trans c70
  have a23 := u22.row e23 (c := 0) c70 (fun _ => rfl) (fun _ => rfl)
  have u23 := (a23.upR (f := 3) (k := 0) (i := 23) (v := some (70, cCnt N22.2.2 70)) (by rw [k70]; rfl)).mo (U' := fun f k i => f = 3 ∧ k = 0 ∧ ((1 ≤ i ∧ i ≤ 28) ∨ (39 ≤ i ∧ i ≤ 47) ∨ (51 ≤ i ∧ i ≤ 55) ∨ (64 ≤ i ∧ i ≤ 65)) ∧ 23 < i) (fun _ _ _ hw => hw) (fun f k i hw => by omega)
  have z23 := inc_z z22
  have l23 := inc_l (g := 70) (by decide) l22
  obtain ⟨N24, e24⟩ : ∃ N, newM (N23.1, upR N23.2.1 3 0 23 (some (70, cCnt N22.2.2 70)), N23.2.2) 71 24 24 = N := ⟨_, rfl⟩
  have c71 := z23 71 (Nat.le_refl _)
  have k71 : cCnt N23.2.2 71 = 0 := (a23.2.2.1 71).trans c71
  have a24 := u23.row e24 (c := 0) c71 (fun _ => rfl) (fun _ => rfl)
  have u24 := (a24.upR (f := 3) (k := 0) (i := 24) (v := some (71, cCnt N23.2.2 71)) (by rw [k71]; rfl)).mo (U' := fun f k i => f = 3 ∧ k = 0 ∧ ((1 ≤ i ∧ i ≤ 28) ∨ (39 ≤ i ∧ i ≤ 47) ∨ (51 ≤ i ∧ i ≤ 55) ∨ (64 ≤ i ∧ i ≤ 65)) ∧ 24 < i) (fun _ _ _ hw => hw) (fun f k i hw => by omega)
  have z24 := inc_z z23
  have l24 := inc_l (g := 71) (by decide) l23
  obtain ⟨N25, e25⟩ : ∃ N, newM (N24.1, upR N24.2.1 3 0 24 (some (71, cCnt N23.2.2 71)), N24.2.2) 72 144 144 = N := ⟨_, rfl⟩
  have c72 := z24 72 (Nat.le_refl _)
  have k72 : cCnt N24.2.2 72 = 0 := (a24.2.2.1 72).trans c72
  have a25 := u24.row e25 (c := 0) c72 (fun _ => rfl) (fun _ => rfl)
  have u25 := (a25.upR (f := 3) (k := 0) (i := 25) (v := some (72, cCnt N24.2.2 72)) (by rw [k72]; rfl)).mo (U' := fun f k i => f = 3 ∧ k = 0 ∧ ((1 ≤ i ∧ i ≤ 28) ∨ (39 ≤ i ∧ i ≤ 47) ∨ (51 ≤ i ∧ i ≤ 55) ∨ (64 ≤ i ∧ i ≤ 65)) ∧ 25 < i) (fun _ _ _ hw => hw) (fun f k i hw => by omega)
  have z25 := inc_z z24
  have l25 := inc_l (g := 72) (by decide) l24
  obtain ⟨N26, e26⟩ : ∃ N, newM (N25.1, upR N25.2.1 3 0 25 (some (72, cCnt N24.2.2 72)), N25.2.2) 73 24 24 = N := ⟨_, rfl⟩
  have c73 := z25 73 (Nat.le_refl _)
  have k73 : cCnt N25.2.2 73 = 0 := (a25.2.2.1 73).trans c73
  have a26 := u25.row e26 (c := 0) c73 (fun _ => rfl) (fun _ => rfl)
  have u26 := (a26.upR (f := 3) (k := 0) (i := 26) (v := some (73, cCnt N25.2.2 73)) (by rw [k73]; rfl)).mo (U' := fun f k i => f = 3 ∧ k = 0 ∧ ((1 ≤ i ∧ i ≤ 28) ∨ (39 ≤ i ∧ i ≤ 47) ∨ (51 ≤ i ∧ i ≤ 55) ∨ (64 ≤ i ∧ i ≤ 65)) ∧ 26 < i) (fun _ _ _ hw => hw) (fun f k i hw => by omega)
  have z26 := inc_z z25
  have l26 := inc_l (g := 73) (by decide) l25
  obtain ⟨N27, e27⟩ : ∃ N, newM (N26.1, upR N26.2.1 3 0 26 (some (73, cCnt N25.2.2 73)), N26.2.2) 74 60 60 = N := ⟨_, rfl⟩
  have c74 := z26 74 (Nat.le_refl _)
  have k74 : cCnt N26.2.2 74 = 0 := (a26.2.2.1 74).trans c74
  have a27 := u26.row e27 (c := 0) c74 (fun _ => rfl) (fun _ => rfl)
  have u27 := (a27.upR (f := 3) (k := 0) (i := 27) (v := some (74, cCnt N26.2.2 74)) (by rw [k74]; rfl)).mo (U' := fun f k i => f = 3 ∧ k = 0 ∧ ((1 ≤ i ∧ i ≤ 28) ∨ (39 ≤ i ∧ i ≤ 47) ∨ (51 ≤ i ∧ i ≤ 55) ∨ (64 ≤ i ∧ i ≤ 65)) ∧ 27 < i) (fun _ _ _ hw => hw) (fun f k i hw => by omega)
  have z27 := inc_z z26
  have l27 := inc_l (g := 74) (by decide) l26
  obtain ⟨N28, e28⟩ : ∃ N, newM (N27.1, upR N27.2.1 3 0 27 (some (74, cCnt N26.2.2 74)), N27.2.2) 75 8 8 = N := ⟨_, rfl⟩
  have c75 := z27 75 (Nat.le_refl _)
  have k75 : cCnt N27.2.2 75 = 0 := (a27.2.2.1 75).trans c75
  have a28 := u27.row e28 (c := 0) c75 (fun _ => rfl) (fun _ => rfl)
  have u28 := (a28.upR (f := 3) (k := 0) (i := 28) (v := some (75, cCnt N27.2.2 75)) (by rw [k75]; rfl)).mo (U' := fun f k i => f = 3 ∧ k = 0 ∧ ((1 ≤ i ∧ i ≤ 28) ∨ (39 ≤ i ∧ i ≤ 47) ∨ (51 ≤ i ∧ i ≤ 55) ∨ (64 ≤ i ∧ i ≤ 65)) ∧ 28 < i) (fun _ _ _ hw => hw) (fun f k i hw => by omega)
  have z28 := inc_z z27
  have l28 := inc_l (g := 75) (by decide) l27
  obtain ⟨N29, e29⟩ : ∃ N, newM (N28.1, upR N28.2.1 3 0 28 (some (75, cCnt N27.2.2 75)), N28.2.2) 76 400 400 = N := ⟨_, rfl⟩
  have c76 := z28 76 (Nat.le_refl _)
  have k76 : cCnt N28.2.2 76 = 0 := (a28.2.2.1 76).trans c76
  have a29 := u28.row e29 (c := 0) c76 (fun _ => rfl) (fun _ => rfl)
  have u29 := (a29.upR (f := 3) (k := 0) (i := 39) (v := some (76, cCnt N28.2.2 76)) (by rw [k76]; rfl)).mo (U' := fun f k i => f = 3 ∧ k = 0 ∧ ((1 ≤ i ∧ i ≤ 28) ∨ (39 ≤ i ∧ i ≤ 47) ∨ (51 ≤ i ∧ i ≤ 55) ∨ (64 ≤ i ∧ i ≤ 65)) ∧ 39 < i) (fun _ _ _ hw => hw) (fun f k i hw => by omega)
  have z29 := inc_z z28
  have l29 := inc_l (g := 76) (by decide) l28
  obtain ⟨N30, e30⟩ : ∃ N, newM (N29.1, upR N29.2.1 3 0 39 (some (76, cCnt N28.2.2 76)), N29.2.2) 77 3200 3200 = N := ⟨_, rfl⟩
  have c77 := z29 77 (Nat.le_refl _)
  have k77 : cCnt N29.2.2 77 = 0 := (a29.2.2.1 77).trans c77
  have a30 := u29.row e30 (c := 0) c77 (fun _ => rfl) (fun _ => rfl)
  have u30 := (a30.upR (f := 3) (k := 0) (i := 40) (v := some (77, cCnt N29.2.2 77)) (by rw [k77]; rfl)).mo (U' := fun f k i => f = 3 ∧ k = 0 ∧ ((1 ≤ i ∧ i ≤ 28) ∨ (39 ≤ i ∧ i ≤ 47) ∨ (51 ≤ i ∧ i ≤ 55) ∨ (64 ≤ i ∧ i ≤ 65)) ∧ 40 < i) (fun _ _ _ hw => hw) (fun f k i hw => by omega)
  have z30 := inc_z z29
  have l30 := inc_l (g := 77) (by decide) l29
  obtain ⟨N31, e31⟩ : ∃ N, newM (N30.1, upR N30.2.1 3 0 40 (some (77, cCnt N29.2.2 77)), N30.2.2) 78 3200 3200 = N := ⟨_, rfl⟩
  have c78 := z30 78 (Nat.le_refl _)
  have k78 : cCnt N30.2.2 78 = 0 := (a30.2.2.1 78).trans c78
  have a31 := u30.row e31 (c := 0) c78 (fun _ => rfl) (fun _ => rfl)
  have u31 := (a31.upR (f := 3) (k := 0) (i := 41) (v := some (78, cCnt N30.2.2 78)) (by rw [k78]; rfl)).mo (U' := fun f k i => f = 3 ∧ k = 0 ∧ ((1 ≤ i ∧ i ≤ 28) ∨ (39 ≤ i ∧ i ≤ 47) ∨ (51 ≤ i ∧ i ≤ 55) ∨ (64 ≤ i ∧ i ≤ 65)) ∧ 41 < i) (fun _ _ _ hw => hw) (fun f k i hw => by omega)
  have z31 := inc_z z30
  have l31 := inc_l (g := 78) (by decide) l30
  obtain ⟨N32, e32⟩ : ∃ N, newM (N31.1, upR N31.2.1 3 0 41 (some (78, cCnt N30.2.2 78)), N31.2.2) 79 8 8 = N := ⟨_, rfl⟩
  have c79 := z31 79 (Nat.le_refl _)
  have k79 : cCnt N31.2.2 79 = 0 := (a31.2.2.1 79).trans c79
  have a32 := u31.row e32 (c := 0) c79 (fun _ => rfl) (fun _ => rfl)
  have u32 := (a32.upR (f := 3) (k := 0) (i := 42) (v := some (79, cCnt N31.2.2 79)) (by rw [k79]; rfl)).mo (U' := fun f k i => f = 3 ∧ k = 0 ∧ ((1 ≤ i ∧ i ≤ 28) ∨ (39 ≤ i ∧ i ≤ 47) ∨ (51 ≤ i ∧ i ≤ 55) ∨ (64 ≤ i ∧ i ≤ 65)) ∧ 42 < i) (fun _ _ _ hw => hw) (fun f k i hw => by omega)
  have z32 := inc_z z31
  have l32 := inc_l (g := 79) (by decide) l31
  obtain ⟨N33, e33⟩ : ∃ N, newM (N32.1, upR N32.2.1 3 0 42 (some (79, cCnt N31.2.2 79)), N32.2.2) 80 402 402 = N := ⟨_, rfl⟩
  have c80 := z32 80 (Nat.le_refl _)
  have k80 : cCnt N32.2.2 80 = 0 := (a32.2.2.1 80).trans c80
  have a33 := u32.row e33 (c := 0) c80 (fun _ => rfl) (fun _ => rfl)
  have u33 := (a33.upR (f := 3) (k := 0) (i := 43) (v := some (80, cCnt N32.2.2 80)) (by rw [k80]; rfl)).mo (U' := fun f k i => f = 3 ∧ k = 0 ∧ ((1 ≤ i ∧ i ≤ 28) ∨ (39 ≤ i ∧ i ≤ 47) ∨ (51 ≤ i ∧ i ≤ 55) ∨ (64 ≤ i ∧ i ≤ 65)) ∧ 43 < i) (fun _ _ _ hw => hw) (fun f k i hw => by omega)
  have z33 := inc_z z32
  have l33 := inc_l (g := 80) (by decide) l32
  obtain ⟨N34, e34⟩ : ∃ N, newM (N33.1, upR N33.2.1 3 0 43 (some (80, cCnt N32.2.2 80)), N33.2.2) 81 402 402 = N := ⟨_, rfl⟩
  have c81 := z33 81 (Nat.le_refl _)
  have k81 : cCnt N33.2.2 81 = 0 := (a33.2.2.1 81).trans c81
  have a34 := u33.row e34 (c := 0) c81 (fun _ => rfl) (fun _ => rfl)
  have u34 := (a34.upR (f := 3) (k := 0) (i := 44) (v := some (81, cCnt N33.2.2 81)) (by rw [k81]; rfl)).mo (U' := fun f k i => f = 3 ∧ k = 0 ∧ ((1 ≤ i ∧ i ≤ 28) ∨ (39 ≤ i ∧ i ≤ 47) ∨ (51 ≤ i ∧ i ≤ 55) ∨ (64 ≤ i ∧ i ≤ 65)) ∧ 44 < i) (fun _ _ _ hw => hw) (fun f k i hw => by omega)
  have z34 := inc_z z33
  have l34 := inc_l (g := 81) (by decide) l33
  obtain ⟨N35, e35⟩ : ∃ N, newM (N34.1, upR N34.2.1 3 0 44 (some (81, cCnt N33.2.2 81)), N34.2.2) 82 400 400 = N := ⟨_, rfl⟩
  have c82 := z34 82 (Nat.le_refl _)
  have k82 : cCnt N34.2.2 82 = 0 := (a34.2.2.1 82).trans c82
  have a35 := u34.row e35 (c := 0) c82 (fun _ => rfl) (fun _ => rfl)
  have u35 := (a35.upR (f := 3) (k := 0) (i := 45) (v := some (82, cCnt N34.2.2 82)) (by rw [k82]; rfl)).mo (U' := fun f k i => f = 3 ∧ k = 0 ∧ ((1 ≤ i ∧ i ≤ 28) ∨ (39 ≤ i ∧ i ≤ 47) ∨ (51 ≤ i ∧ i ≤ 55) ∨ (64 ≤ i ∧ i ≤ 65)) ∧ 45 < i) (fun _ _ _ hw => hw) (fun f k i hw => by omega)
  have z35 := inc_z z34
  have l35 := inc_l (g := 82) (by decide) l34
  obtain ⟨N36, e36⟩ : ∃ N, newM (N35.1, upR N35.2.1 3 0 45 (some (82, cCnt N34.2.2 82)), N35.2.2) 83 8 8 = N := ⟨_, rfl⟩
  have c83 := z35 83 (Nat.le_refl _)
  have k83 : cCnt N35.2.2 83 = 0 := (a35.2.2.1 83).trans c83
  have a36 := u35.row e36 (c := 0) c83 (fun _ => rfl) (fun _ => rfl)
  have u36 := (a36.upR (f := 3) (k := 0) (i := 46) (v := some (83, cCnt N35.2.2 83)) (by rw [k83]; rfl)).mo (U' := fun f k i => f = 3 ∧ k = 0 ∧ ((1 ≤ i ∧ i ≤ 28) ∨ (39 ≤ i ∧ i ≤ 47) ∨ (51 ≤ i ∧ i ≤ 55) ∨ (64 ≤ i ∧ i ≤ 65)) ∧ 46 < i) (fun _ _ _ hw => hw) (fun f k i hw => by omega)
  have z36 := inc_z z35
  have l36 := inc_l (g := 83) (by decide) l35
  obtain ⟨N37, e37⟩ : ∃ N, newM (N36.1, upR N36.2.1 3 0 46 (some (83, cCnt N35.2.2 83)), N36.2.2) 84 8 8 = N := ⟨_, rfl⟩
  have c84 := z36 84 (Nat.le_refl _)
  have k84 : cCnt N36.2.2 84 = 0 := (a36.2.2.1 84).trans c84
  have a37 := u36.row e37 (c := 0) c84 (fun _ => rfl) (fun _ => rfl)
  have u37 := (a37.upR (f := 3) (k := 0) (i := 47) (v := some (84, cCnt N36.2.2 84)) (by rw [k84]; rfl)).mo (U' := fun f k i => f = 3 ∧ k = 0 ∧ ((1 ≤ i ∧ i ≤ 28) ∨ (39 ≤ i ∧ i ≤ 47) ∨ (51 ≤ i ∧ i ≤ 55) ∨ (64 ≤ i ∧ i ≤ 65)) ∧ 47 < i) (fun _ _ _ hw => hw) (fun f k i hw => by omega)
  have z37 := inc_z z36
  have l37 := inc_l (g := 84) (by decide) l36
  obtain ⟨N38, e38⟩ : ∃ N, newM (N37.1, upR N37.2.1 3 0 47 (some (84, cCnt N36.2.2 84)), N37.2.2) 85 488 488 = N := ⟨_, rfl⟩
  have c85 := z37 85 (Nat.le_refl _)
  have k85 : cCnt N37.2.2 85 = 0 := (a37.2.2.1 85).trans c85
  have a38 := u37.row e38 (c := 0) c85 (fun _ => rfl) (fun _ => rfl)
  have u38 := (a38.upR (f := 3) (k := 0) (i := 51) (v := some (85, cCnt N37.2.2 85)) (by rw [k85]; rfl)).mo (U' := fun f k i => f = 3 ∧ k = 0 ∧ ((1 ≤ i ∧ i ≤ 28) ∨ (39 ≤ i ∧ i ≤ 47) ∨ (51 ≤ i ∧ i ≤ 55) ∨ (64 ≤ i ∧ i ≤ 65)) ∧ 51 < i) (fun _ _ _ hw => hw) (fun f k i hw => by omega)
  have z38 := inc_z z37
  have l38 := inc_l (g := 85) (by decide) l37
  obtain ⟨N39, e39⟩ : ∃ N, newM (N38.1, upR N38.2.1 3 0 51 (some (85, cCnt N37.2.2 85)), N38.2.2) 86 488 488 = N := ⟨_, rfl⟩
  have c86 := z38 86 (Nat.le_refl _)
  have k86 : cCnt N38.2.2 86 = 0 := (a38.2.2.1 86).trans c86
  have a39 := u38.row e39 (c := 0) c86 (fun _ => rfl) (fun _ => rfl)
  have u39 := (a39.upR (f := 3) (k := 0) (i := 52) (v := some (86, cCnt N38.2.2 86)) (by rw [k86]; rfl)).mo (U' := fun f k i => f = 3 ∧ k = 0 ∧ ((1 ≤ i ∧ i ≤ 28) ∨ (39 ≤ i ∧ i ≤ 47) ∨ (51 ≤ i ∧ i ≤ 55) ∨ (64 ≤ i ∧ i ≤ 65)) ∧ 52 < i) (fun _ _ _ hw => hw) (fun f k i hw => by omega)
  have z39 := inc_z z38
  have l39 := inc_l (g := 86) (by decide) l38
  obtain ⟨N40, e40⟩ : ∃ N, newM (N39.1, upR N39.2.1 3 0 52 (some (86, cCnt N38.2.2 86)), N39.2.2) 87 8 8 = N := ⟨_, rfl⟩
  have c87 := z39 87 (Nat.le_refl _)
  have k87 : cCnt N39.2.2 87 = 0 := (a39.2.2.1 87).trans c87
  have a40 := u39.row e40 (c := 0) c87 (fun _ => rfl) (fun _ => rfl)
  have u40 := (a40.upR (f := 3) (k := 0) (i := 53) (v := some (87, cCnt N39.2.2 87)) (by rw [k87]; rfl)).mo (U' := fun f k i => f = 3 ∧ k = 0 ∧ ((1 ≤ i ∧ i ≤ 28) ∨ (39 ≤ i ∧ i ≤ 47) ∨ (51 ≤ i ∧ i ≤ 55) ∨ (64 ≤ i ∧ i ≤ 65)) ∧ 53 < i) (fun _ _ _ hw => hw) (fun f k i hw => by omega)
  have z40 := inc_z z39
  have l40 := inc_l (g := 87) (by decide) l39
  obtain ⟨N41, e41⟩ : ∃ N, newM (N40.1, upR N40.2.1 3 0 53 (some (87, cCnt N39.2.2 87)), N40.2.2) 88 372 372 = N := ⟨_, rfl⟩
  have c88 := z40 88 (Nat.le_refl _)
  have k88 : cCnt N40.2.2 88 = 0 := (a40.2.2.1 88).trans c88
  have a41 := u40.row e41 (c := 0) c88 (fun _ => rfl) (fun _ => rfl)
  have u41 := (a41.upR (f := 3) (k := 0) (i := 54) (v := some (88, cCnt N40.2.2 88)) (by rw [k88]; rfl)).mo (U' := fun f k i => f = 3 ∧ k = 0 ∧ ((1 ≤ i ∧ i ≤ 28) ∨ (39 ≤ i ∧ i ≤ 47) ∨ (51 ≤ i ∧ i ≤ 55) ∨ (64 ≤ i ∧ i ≤ 65)) ∧ 54 < i) (fun _ _ _ hw => hw) (fun f k i hw => by omega)
  have z41 := inc_z z40
  have l41 := inc_l (g := 88) (by decide) l40
  obtain ⟨N42, e42⟩ : ∃ N, newM (N41.1, upR N41.2.1 3 0 54 (some (88, cCnt N40.2.2 88)), N41.2.2) 89 1024 1024 = N := ⟨_, rfl⟩
  have c89 := z41 89 (Nat.le_refl _)
  have k89 : cCnt N41.2.2 89 = 0 := (a41.2.2.1 89).trans c89
  have a42 := u41.row e42 (c := 0) c89 (fun _ => rfl) (fun _ => rfl)
  have u42 := (a42.upR (f := 3) (k := 0) (i := 55) (v := some (89, cCnt N41.2.2 89)) (by rw [k89]; rfl)).mo (U' := fun f k i => f = 3 ∧ k = 0 ∧ ((1 ≤ i ∧ i ≤ 28) ∨ (39 ≤ i ∧ i ≤ 47) ∨ (51 ≤ i ∧ i ≤ 55) ∨ (64 ≤ i ∧ i ≤ 65)) ∧ 55 < i) (fun _ _ _ hw => hw) (fun f k i hw => by omega)
  have z42 := inc_z z41
  have l42 := inc_l (g := 89) (by decide) l41
  obtain ⟨N43, e43⟩ : ∃ N, newM (N42.1, upR N42.2.1 3 0 55 (some (89, cCnt N41.2.2 89)), N42.2.2) 90 2280 2280 = N := ⟨_, rfl⟩
  have c90 := z42 90 (Nat.le_refl _)
  have k90 : cCnt N42.2.2 90 = 0 := (a42.2.2.1 90).trans c90
  have a43 := u42.row e43 (c := 0) c90 (fun _ => rfl) (fun _ => rfl)
  have u43 := (a43.upR (f := 3) (k := 0) (i := 64) (v := some (90, cCnt N42.2.2 90)) (by rw [k90]; rfl)).mo (U' := fun f k i => f = 3 ∧ k = 0 ∧ ((1 ≤ i ∧ i ≤ 28) ∨ (39 ≤ i ∧ i ≤ 47) ∨ (51 ≤ i ∧ i ≤ 55) ∨ (64 ≤ i ∧ i ≤ 65)) ∧ 64 < i) (fun _ _ _ hw => hw) (fun f k i hw => by omega)
  have z43 := inc_z z42
  have l43 := inc_l (g := 90) (by decide) l42
  obtain ⟨N44, e44⟩ : ∃ N, newM (N43.1, upR N43.2.1 3 0 64 (some (90, cCnt N42.2.2 90)), N43.2.2) 91 4 4 = N := ⟨_, rfl⟩
  have c91 := z43 91 (Nat.le_refl _)
  have k91 : cCnt N43.2.2 91 = 0 := (a43.2.2.1 91).trans c91
  have a44 := u43.row e44 (c := 0) c91 (fun _ => rfl) (fun _ => rfl)
  have u44 := (a44.upR (f := 3) (k := 0) (i := 65) (v := some (91, cCnt N43.2.2 91)) (by rw [k91]; rfl)).mo (U' := fun f _ _ => f < 0) (fun _ _ _ hw => hw) (fun f k i hw => by omega)
  have z44 := inc_z z43
  have l44 := inc_l (g := 91) (by decide) l43
  have key : ∀ n x : Nat, n + x = 17 → ∀ (N : Mem) (cn' : Nat → Nat) (nc' ns' : Nat), Bu (fun f k i => f = 51 ∧ k = 0 ∧ x ≤ i ∧ i < 17) (fun f _ _ => f < 0) cn' nc' ns' N → ∃ M', Ex l G (d + 1) mX12_init 369 [some (vR (some (3, 0))), some (vI (x : Int))] [] N none M' ∧ Bu (fun f _ _ => f < 0) (fun f _ _ => f < 0) cn' nc' ns' M' := by
    intro n
    induction n with
    | zero =>
      intro x hx N cn' nc' ns' hb
      have hS : Sh N.2.1 := Sh_R00.congr fun f k i _ => hb.2.1 f k i (by omega)
      exact ⟨N, xX12_init_369 hS ⟨fun _ => ⟨rfl, rfl⟩, fun c => absurd (by omega) c⟩, hb.mo (fun f k i hw => by omega) (fun _ _ _ h => h)⟩
    | succ n ih =>
      intro x hx N cn' nc' ns' hb
      have hS : Sh N.2.1 := Sh_R00.congr fun f k i _ => hb.2.1 f k i (by omega)
      have b := hb.upI (f := 51) (k := 0) (i := x) (v := 1) (show (1 : Int) = if x < 17 then 1 else 0 by rw [if_pos (by omega)])
      obtain ⟨M', y1, y2⟩ := ih (x + 1) (by omega) _ cn' nc' ns' (b.mo (W' := fun f k i => f = 51 ∧ k = 0 ∧ x + 1 ≤ i ∧ i < 17) (fun f k i hw => by omega) (fun _ _ _ h => h))
      refine ⟨M', xX12_init_369 hS ⟨fun c => by omega, fun _ => ⟨⟨by omega, by unfold InR; omega⟩, ?_⟩⟩, y2⟩
      rw [Int.toNat_natCast]
      exact y1
  obtain ⟨M', y1, y2⟩ := key 17 0 rfl _ _ _ _ (u44.mo (W' := fun f k i => f = 51 ∧ k = 0 ∧ 0 ≤ i ∧ i < 17) (fun f k i hw => by omega) (fun _ _ _ h => h))
  refine ⟨M', _, _, _, xX12_init_0 ?_, y2, l44, by omega, by omega⟩
  intro Z1 g1 Z2 g2 Z3 g3 Z4 g4 Z5 g5 Z6 g6 Z7 g7 Z8 g8 Z9 g9 Z10 g10 Z11 g11 Z12 g12 Z13 g13 Z14 g14 Z15 g15 Z16 g16 Z17 g17 Z18 g18 Z19 g19 Z20 g20 Z21 g21 Z22 g22 Z23 g23 Z24 g24 Z25 g25 Z26 g26 Z27 g27 Z28 g28 Z29 g29 Z30 g30 Z31 g31 Z32 g32 Z33 g33 Z34 g34 Z35 g35 Z36 g36 Z37 g37 Z38 g38 Z39 g39 Z40 g40 Z41 g41 Z42 g42 Z43 g43 Z44 g44
  rw [e1] at g1; subst g1
  rw [e2] at g2; subst g2
  rw [e3] at g3; subst g3
  rw [e4] at g4; subst g4
  rw [e5] at g5; subst g5
  rw [e6] at g6; subst g6
  rw [e7] at g7; subst g7
  rw [e8] at g8; subst g8
  rw [e9] at g9; subst g9
  rw [e10] at g10; subst g10
  rw [e11] at g11; subst g11
  rw [e12] at g12; subst g12
  rw [e13] at g13; subst g13
  rw [e14] at g14; subst g14
  rw [e15] at g15; subst g15
  rw [e16] at g16; subst g16
  rw [e17] at g17; subst g17
  rw [e18] at g18; subst g18
  rw [e19] at g19; subst g19
  rw [e20] at g20; subst g20
  rw [e21] at g21; subst g21
  rw [e22] at g22; subst g22
  rw [e23] at g23; subst g23
  rw [e24] at g24; subst g24
  rw [e25] at g25; subst g25
  rw [e26] at g26; subst g26
  rw [e27] at g27; subst g27
  rw [e28] at g28; subst g28
  rw [e29] at g29; subst g29
  rw [e30] at g30; subst g30
  rw [e31] at g31; subst g31
  rw [e32] at g32; subst g32
  rw [e33] at g33; subst g33
  rw [e34] at g34; subst g34
  rw [e35] at g35; subst g35
  rw [e36] at g36; subst g36
  rw [e37] at g37; subst g37
  rw [e38] at g38; subst g38
  rw [e39] at g39; subst g39
  rw [e40] at g40; subst g40
  rw [e41] at g41; subst g41
  rw [e42] at g42; subst g42
  rw [e43] at g43; subst g43
  rw [e44] at g44; subst g44
  exact y1
end BY
