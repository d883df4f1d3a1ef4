/-- what Past keeps -/
def PastOK (Q : QT) (M : Mem) : Prop := (-1 ≤ M.1 6 0 2 ∧ M.1 6 0 2 ≤ nCh Q ∧ M.1 6 0 2 < cCnt M.2.2 14) ∧ cCnt M.2.2 14 ≤ 61 ∧ (cCnt M.2.2 29 = cCnt M.2.2 14 ∧ cCnt M.2.2 30 = cCnt M.2.2 14 ∧ cCnt M.2.2 31 = cCnt M.2.2 14 ∧ cCnt M.2.2 32 = cCnt M.2.2 14) ∧ (∀ i, i < 61 → M.2.1 28 0 i = if i < cCnt M.2.2 14 then some (14, i) else none) ∧ (∀ n, n < cCnt M.2.2 14 → M.1 14 n 0 = n) ∧ ∀ n : Nat, (n : Int) ≤ M.1 6 0 2 → Snap Q M.1 n n
/-- only what Past keeps is other -/
def frP (M M' : Mem) : Prop := (∀ f k i, ¬ (f = 14 ∨ f = 29 ∨ f = 30 ∨ f = 31 ∨ f = 32 ∨ (f = 6 ∧ i = 2)) → M'.1 f k i = M.1 f k i) ∧ (∀ f k i, ¬ (f = 14 ∨ f = 28 ∨ f = 29 ∨ f = 30 ∨ f = 31 ∨ f = 32) → M'.2.1 f k i = M.2.1 f k i) ∧ (∀ f, ¬ (f = 14 ∨ f = 29 ∨ f = 30 ∨ f = 31 ∨ f = 32) → cCnt M'.2.2 f = cCnt M.2.2 f) ∧ CLe M.2.2 M'.2.2 ∧ cNc M'.2.2 + 5 * cCnt M.2.2 14 = cNc M.2.2 + 5 * cCnt M'.2.2 14 ∧ cNs M'.2.2 + 107 * cCnt M.2.2 14 = cNs M.2.2 + 107 * cCnt M'.2.2 14
theorem frP.rf {M : Mem} : frP M M := ⟨fun _ _ _ _ => rfl, fun _ _ _ _ => rfl, fun _ _ => rfl, CLe.rf _, rfl, rfl⟩
theorem frP.tr {M M' M'' : Mem} (h : frP M M') (h' : frP M' M'') : frP M M'' := ⟨fun f k i hn => (h'.1 f k i hn).trans (h.1 f k i hn), fun f k i hn => (h'.2.1 f k i hn).trans (h.2.1 f k i hn), fun f hn => (h'.2.2.1 f hn).trans (h.2.2.1 f hn), h.2.2.2.1.tr h'.2.2.2.1, by have a := h.2.2.2.2.1; have b := h'.2.2.2.2.1; omega, by have a := h.2.2.2.2.2; have b := h'.2.2.2.2.2; omega⟩
theorem ClsC.frP {Q : QT} {M M' : Mem} (h : ClsC Q M.1) (hs : frP M M') : ClsC Q M'.1 := by
  refine ⟨?_, ?_, fun p hp => ?_, fun i hi => ?_⟩
  · rw [hs.1 _ _ _ (by omega)]; exact h.1
  · rw [hs.1 _ _ _ (by omega)]; exact h.2.1
  · rw [hs.1 _ _ _ (by omega)]; exact h.2.2.1 p hp
  · rw [hs.1 _ _ _ (by omega)]; exact h.2.2.2 i hi
theorem shp_no {f i : Nat} (h : shp f i = true) : ¬ (f = 28 ∨ f = 29 ∨ f = 30 ∨ f = 31 ∨ f = 32) ∧ (f = 14 → i = 1 ∨ i = 2 ∨ i = 3 ∨ i = 4) := by
  unfold shp at h
  have h2 := List.contains_iff_mem.mp h
  have h3 : ∀ q ∈ ([(9, 0), (9, 1), (9, 2), (9, 3), (9, 12), (13, 1), (12, 8), (8, 0), (8, 1), (8, 2), (11, 0), (11, 2), (6, 0), (6, 1), (14, 1), (14, 2), (14, 3), (14, 4), (4, 1), (4, 3), (4, 5), (4, 6), (4, 7), (4, 9), (4, 12), (10, 0), (10, 1), (10, 2), (10, 3), (10, 4), (7, 0), (7, 1), (2, 0), (2, 1), (2, 2), (2, 3), (2, 4), (2, 5), (2, 6), (2, 7), (2, 8), (2, 9), (2, 11), (2, 13), (2, 14), (2, 15), (3, 1), (3, 2), (3, 3), (3, 4), (3, 5), (3, 6), (3, 7), (3, 8), (3, 9), (3, 10), (3, 11), (3, 12), (3, 13), (3, 14), (3, 15), (3, 16), (3, 17), (3, 18), (3, 19), (3, 20), (3, 21), (3, 22), (3, 23), (3, 24), (3, 25), (3, 26), (3, 27), (3, 28), (3, 39), (3, 40), (3, 41), (3, 42), (3, 43), (3, 44), (3, 45), (3, 46), (3, 47), (3, 51), (3, 52), (3, 53), (3, 54), (3, 55), (3, 64), (3, 65)] : List (Nat × Nat)), ¬ (q.1 = 28 ∨ q.1 = 29 ∨ q.1 = 30 ∨ q.1 = 31 ∨ q.1 = 32) ∧ (q.1 = 14 → q.2 = 1 ∨ q.2 = 2 ∨ q.2 = 3 ∨ q.2 = 4) := by decide
  exact h3 (f, i) h2
section ON
variable {l : Launch} {G : Gt} {d : Nat}
/-- a snapshot more is made up: last goes on to n -/
theorem PastOK.next {Q : QT} {M : Mem} {I' : IM} {n : Nat} (h : PastOK Q M) (hlast : M.1 6 0 2 = (n : Int) - 1) (hn : n ≤ nCh Q) (hc : n < cCnt M.2.2 14) (hs : sameS n M.1 I') (hL : Snap Q I' n n) : PastOK Q (upI I' 6 0 2 n, M.2.1, M.2.2) ∧ frP M (upI I' 6 0 2 n, M.2.1, M.2.2) := by
  refine ⟨⟨⟨?_, ?_, ?_⟩, h.2.1, h.2.2.1, h.2.2.2.1, fun j hj => ?_, fun j hj => ?_⟩, fun f k i hne => ?_, fun _ _ _ _ => rfl, fun _ _ => rfl, CLe.rf _, rfl, rfl⟩
  · dsimp only; rw [upI_s]; omega
  · dsimp only; rw [upI_s]; omega
  · dsimp only; rw [upI_s]; omega
  · dsimp only
    rw [upI_f rfl, hs _ _ _ (by omega)]; exact h.2.2.2.2.1 j hj
  · dsimp only at hj ⊢
    rw [upI_s] at hj
    have hL' : Snap Q I' j j := by
      by_cases e : j = n
      · subst e; exact hL
      · exact (h.2.2.2.2.2 j (by omega)).same e hs
    refine ⟨fun m hm => ?_, fun t p ht hp => ?_, fun p hp => ?_, fun a ha => ?_⟩
    · rw [upI_f rfl]; exact hL'.1 m hm
    · rw [upI_f rfl]; exact hL'.2.1 t p ht hp
    · rw [upI_f rfl]; exact hL'.2.2.1 p hp
    · rw [upI_f rfl]; exact hL'.2.2.2 a ha
  · dsimp only
    by_cases e : f = 6 ∧ k = 0
    · obtain ⟨rfl, rfl⟩ := e
      rw [upI_c, if_neg (by omega), hs _ _ _ (by omega)]
    · rw [upI_o e, hs _ _ _ (by omega)]
theorem on_90 {Q : QT} {M : Mem} {x1 x2 : Int} {n : Nat} {r : Option Vl} (hS : Sh M.2.1) (hw : WFc Q) (hC : ClsC Q M.1) (hP : PastOK Q M) (hlast : M.1 6 0 2 = (n : Int) - 1) (hn : n ≤ nCh Q) (hc : n < cCnt M.2.2 14)
    {Post : Mem → Prop} (K : ∀ M1 : Mem, Sh M1.2.1 → PastOK Q M1 → frP M M1 → M1.1 6 0 2 = n → ∃ M', Ex l G (d + 2) mX6_on 62 [some (vR (some (6, 0))), some (vI x1), some (vI x2), some (vI ((n : Int) + 1)), none] [] M1 r M' ∧ Post M') :
    ∃ M', Ex l G (d + 2) mX6_on 90 [some (vR (some (6, 0))), some (vI x1), some (vI x2), some (vI (n : Int)), none] [] M r M' ∧ Post M' := by
  have h60 := nCh_le hw
  by_cases e0 : n = 0
  · subst e0
    obtain ⟨I1, hc1, hs1, hL1⟩ := KX7_beginWith (l := l) (G := G) (d := d) (k := 0) hS hw hC
    obtain ⟨hP1, hf1⟩ := hP.next hlast hn hc hs1 hL1
    obtain ⟨M', hx, hpost⟩ := K (upI I1 6 0 2 ((0 : Nat) : Int), M.2.1, M.2.2) hS hP1 hf1 (by dsimp only; rw [upI_s])
    refine ⟨M', xX6_on_90 hS ⟨fun c => absurd rfl c, fun _ => ⟨0, ?_, (I1, M.2.1, M.2.2), hc1, by unfold InR; omega, hx⟩⟩, hpost⟩
    rw [hP.2.2.2.1 0 (by omega), if_pos hc]
  · obtain ⟨m, rfl⟩ : ∃ m, n = m + 1 := ⟨n - 1, by omega⟩
    have hLm := hP.2.2.2.2.2 m (by rw [hlast]; omega)
    obtain ⟨I1, hc1, hs1, hL1⟩ := KX7_follow (l := l) (G := G) (d := d) (k0 := m + 1) (k1 := m) (n := m) (by omega) hS hw (by omega) hLm
    obtain ⟨hP1, hf1⟩ := hP.next hlast hn hc hs1 hL1
    obtain ⟨M', hx, hpost⟩ := K (upI I1 6 0 2 ((m + 1 : Nat) : Int), M.2.1, M.2.2) hS hP1 hf1 (by dsimp only; rw [upI_s])
    have e1 : (((m + 1 : Nat) : Int) - 1).toNat = m := by omega
    refine ⟨M', xX6_on_90 hS ⟨fun _ => ⟨⟨by omega, by unfold InR; omega, by omega, by omega⟩, m + 1, ?_, m, ?_, (I1, M.2.1, M.2.2), ?_, by unfold InR; omega, hx⟩, fun c => absurd c (by omega)⟩, hpost⟩
    · simp only [Int.toNat_natCast]; rw [hP.2.2.2.1 _ (by omega), if_pos hc]
    · rw [e1, hP.2.2.2.1 _ (by omega), if_pos (by omega)]
    · rw [e1, hC.2.2.2 m (by omega)]; exact hc1
/-- a snapshot is made -/
theorem past_new {Q : QT} {M : Mem} (hS : Sh M.2.1) (hP : PastOK Q M) (h61 : cCnt M.2.2 14 < 61) : ∃ M4, Cl l G (d + 1) mX7_init [vR (some (14, cCnt M.2.2 14)), vI (cCnt M.2.2 14 : Int)] (newM M 14 0 5) none M4 ∧ Sh (upR M4.2.1 28 0 (cCnt M.2.2 14) (some (14, cCnt M.2.2 14))) ∧ PastOK Q (M4.1, upR M4.2.1 28 0 (cCnt M.2.2 14) (some (14, cCnt M.2.2 14)), M4.2.2) ∧ frP M (M4.1, upR M4.2.1 28 0 (cCnt M.2.2 14) (some (14, cCnt M.2.2 14)), M4.2.2) ∧ M4.1 6 0 2 = M.1 6 0 2 ∧ cCnt M4.2.2 14 = cCnt M.2.2 14 + 1 := by
  obtain ⟨M3, e3⟩ : ∃ M3, newM M 14 0 5 = M3 := ⟨_, rfl⟩
  rw [e3]
  generalize hk : cCnt M.2.2 14 = k at *
  obtain ⟨c1, c2, c3, c4⟩ := hP.2.2.1
  obtain ⟨M4, hcl, hI, h0, hR, ⟨r1, r2, r3, r4⟩, hcn, hnc, hns⟩ := KX7_init (l := l) (G := G) (d := d) (M := M3) (k := k) (x := (k : Int)) (by rw [newM_c e3]; exact c1.trans hk) (by rw [newM_c e3]; exact c2.trans hk) (by rw [newM_c e3]; exact c3.trans hk) (by rw [newM_c e3]; exact c4.trans hk)
  have hI' : ∀ f j i, ¬ ((f = 29 ∨ f = 30 ∨ f = 31 ∨ f = 32 ∨ f = 14) ∧ j = k) → M4.1 f j i = M.1 f j i := fun f j i hn => by
    rw [hI f j i hn]
    by_cases hf : f = 14
    · exact newM_Ik e3 (by rw [hk]; intro e; exact hn ⟨by omega, e⟩)
    · exact newM_In e3 hf
  have hR' : ∀ f j i, ¬ ((f = 29 ∨ f = 30 ∨ f = 31 ∨ f = 32 ∨ f = 14) ∧ j = k) → M4.2.1 f j i = M.2.1 f j i := fun f j i hn => by
    rw [hR f j i hn]
    by_cases hf : f = 14
    · exact newM_Rk e3 (by rw [hk]; intro e; exact hn ⟨by omega, e⟩)
    · exact newM_Rn e3 hf
  have hcs : cCnt M4.2.2 14 = k + 1 := by
    rw [hcn, if_neg (by omega), newM_c e3, if_pos rfl, hk]
  have hca : ∀ f, (f = 29 ∨ f = 30 ∨ f = 31 ∨ f = 32) → cCnt M4.2.2 f = k + 1 := fun f hf => by rw [hcn, if_pos hf]
  have hco : ∀ f, ¬ (f = 14 ∨ f = 29 ∨ f = 30 ∨ f = 31 ∨ f = 32) → cCnt M4.2.2 f = cCnt M.2.2 f := fun f hf => by
    rw [hcn, if_neg (by omega), newM_c e3, if_neg (by omega)]
  have hle : CLe M.2.2 M4.2.2 := (by rw [← e3]; exact newC_le _ _ _ _ : CLe M.2.2 M3.2.2).tr hcl.1
  have hlast := hI' 6 0 2 (by omega)
  refine ⟨M4, hcl, hS.congr fun f j i hp => ?_, ⟨⟨?_, ?_, ?_⟩, ?_, ?_, fun i hi => ?_, fun n hn => ?_, fun n hn => ?_⟩, ⟨fun f j i hn => hI' f j i (by omega), fun f j i hn => ?_, hco, hle, ?_, ?_⟩, hlast, hcs⟩
  · obtain ⟨g1, g2⟩ := shp_no hp
    rw [upR_o (by omega)]
    by_cases e : f = 14 ∧ j = k
    · obtain ⟨rfl, rfl⟩ := e
      rcases g2 rfl with rfl | rfl | rfl | rfl
      · rw [r1]; exact (sh_7_1 hS _).symm
      · rw [r2]; exact (sh_7_2 hS _).symm
      · rw [r3]; exact (sh_7_3 hS _).symm
      · rw [r4]; exact (sh_7_4 hS _).symm
    · exact hR' f j i (by omega)
  · dsimp only; rw [hlast]; exact hP.1.1
  · dsimp only; rw [hlast]; exact hP.1.2.1
  · dsimp only; rw [hlast, hcs]; have := hP.1.2.2; rw [hk] at this; omega
  · dsimp only; rw [hcs]; omega
  · dsimp only; rw [hcs]; exact ⟨hca _ (by omega), hca _ (by omega), hca _ (by omega), hca _ (by omega)⟩
  · dsimp only
    rw [hcs, upR_c]
    by_cases e : i = k
    · subst e; rw [if_pos rfl, if_pos (by omega)]
    · rw [if_neg e, hR' _ _ _ (by omega), hP.2.2.2.1 i hi, hk]
      by_cases e2 : i < k
      · rw [if_pos e2, if_pos (by omega)]
      · rw [if_neg e2, if_neg (by omega)]
  · dsimp only at hn ⊢
    rw [hcs] at hn
    by_cases e : n = k
    · subst e; exact h0
    · rw [hI' _ _ _ (by omega)]; exact hP.2.2.2.2.1 n (by omega)
  · dsimp only at hn ⊢
    rw [hlast] at hn
    have hnk : n ≠ k := by have := hP.1.2.2; rw [hk] at this; omega
    have hL := hP.2.2.2.2.2 n hn
    refine ⟨fun m hm => ?_, fun t p ht hp => ?_, fun p hp => ?_, fun a ha => ?_⟩
    · rw [hI' _ _ _ (by omega)]; exact hL.1 m hm
    · rw [hI' _ _ _ (by omega)]; exact hL.2.1 t p ht hp
    · rw [hI' _ _ _ (by omega)]; exact hL.2.2.1 p hp
    · rw [hI' _ _ _ (by omega)]; exact hL.2.2.2 a ha
  · dsimp only
    rw [upR_o (by omega)]; exact hR' f j i (by omega)
  · dsimp only; rw [hcs, hnc, newM_nc e3, hk]; omega
  · dsimp only; rw [hcs, hns, newM_ns e3, hk]; omega
theorem on_62 {Q : QT} {x1 : Int} (hw : WFc Q) : ∀ n, n ≤ dn Q x1 + 1 → ∀ M : Mem, Sh M.2.1 → ClsC Q M.1 → PastOK Q M → M.1 6 0 2 = (n : Int) - 1 →
    ∃ M', Ex l G (d + 2) mX6_on 62 [some (vR (some (6, 0))), some (vI x1), some (vI (dn Q x1 : Int)), some (vI (n : Int)), none] [] M (some (vR (some (14, dn Q x1)))) M' ∧ Sh M'.2.1 ∧ PastOK Q M' ∧ frP M M' ∧ (dn Q x1 : Int) ≤ M'.1 6 0 2 := by
  intro n hn
  have hdn : dn Q x1 ≤ nCh Q := dnF_le (fun i => Q 56 (srt Q i)) x1 (nCh Q)
  have h60 := nCh_le hw
  refine loopUp (P := fun n => ∀ M : Mem, Sh M.2.1 → ClsC Q M.1 → PastOK Q M → M.1 6 0 2 = (n : Int) - 1 → ∃ M', Ex l G (d + 2) mX6_on 62 [some (vR (some (6, 0))), some (vI x1), some (vI (dn Q x1 : Int)), some (vI (n : Int)), none] [] M (some (vR (some (14, dn Q x1)))) M' ∧ Sh M'.2.1 ∧ PastOK Q M' ∧ frP M M' ∧ (dn Q x1 : Int) ≤ M'.1 6 0 2) n (dn Q x1 + 1) hn ?_ ?_
  · intro n _ hn ih M hS hC hP hlast
    have hlt := hP.1.2.2
    rw [hlast] at hlt
    have K : ∀ M0 : Mem, frP M M0 → ClsC Q M0.1 → ∀ M1 : Mem, Sh M1.2.1 → PastOK Q M1 → frP M0 M1 → M1.1 6 0 2 = n → ∃ M', Ex l G (d + 2) mX6_on 62 [some (vR (some (6, 0))), some (vI x1), some (vI (dn Q x1 : Int)), some (vI ((n : Int) + 1)), none] [] M1 (some (vR (some (14, dn Q x1)))) M' ∧ (Sh M'.2.1 ∧ PastOK Q M' ∧ frP M M' ∧ (dn Q x1 : Int) ≤ M'.1 6 0 2) := by
      intro M0 hf0 hC0 M1 hS1 hP1 hf1 hl1
      obtain ⟨M', hx, h1, h2, h3, h4⟩ := ih M1 hS1 (hC0.frP hf1) hP1 (by rw [hl1]; omega)
      exact ⟨M', hx, h1, h2, (hf0.tr hf1).tr h3, h4⟩
    by_cases c : n < cCnt M.2.2 14
    · obtain ⟨M', hx, h1⟩ := on_90 (l := l) (G := G) (d := d) (x1 := x1) (x2 := (dn Q x1 : Int)) (r := some (vR (some (14, dn Q x1)))) hS hw hC hP hlast (by omega) c (Post := fun M' => Sh M'.2.1 ∧ PastOK Q M' ∧ frP M M' ∧ (dn Q x1 : Int) ≤ M'.1 6 0 2) (fun M1 a b e f => K M frP.rf hC M1 a b e f)
      refine ⟨M', xX6_on_62 hS ⟨fun c2 => absurd c2 (by omega), fun _ => ⟨by omega, fun _ => hx, fun c2 => ?_⟩⟩, h1⟩
      simp only [Int.toNat_natCast] at c2
      rw [hP.2.2.2.1 n (by omega), if_pos c] at c2
      cases c2
    · have ek : cCnt M.2.2 14 = n := by omega
      obtain ⟨M4, hcl, hS4, hP4, hf4, hl4, hc4⟩ := past_new (l := l) (G := G) (d := d) hS hP (by omega)
      rw [ek] at hcl hS4 hP4 hf4 hc4
      obtain ⟨M', hx, h1⟩ := on_90 (l := l) (G := G) (d := d) (M := (M4.1, upR M4.2.1 28 0 n (some (14, n)), M4.2.2)) (x1 := x1) (x2 := (dn Q x1 : Int)) (r := some (vR (some (14, dn Q x1)))) hS4 hw (hC.frP hf4) hP4 (by dsimp only; rw [hl4]; exact hlast) (by omega) (by dsimp only; rw [hc4]; omega) (Post := fun M' => Sh M'.2.1 ∧ PastOK Q M' ∧ frP M M' ∧ (dn Q x1 : Int) ≤ M'.1 6 0 2) (fun M1 a b e f => K (M4.1, upR M4.2.1 28 0 n (some (14, n)), M4.2.2) hf4 (hC.frP hf4) M1 a b e f)
      refine ⟨M', xX6_on_62 hS ⟨fun c2 => absurd c2 (by omega), fun _ => ⟨by omega, fun c2 => absurd ?_ c2, fun _ M3 e3 => ?_⟩⟩, h1⟩
      · simp only [Int.toNat_natCast]
        rw [hP.2.2.2.1 n (by omega), if_neg c]
      · subst e3
        rw [ek]
        exact ⟨M4, hcl, by omega, hx⟩
  · intro M hS hC hP hlast
    refine ⟨M, xX6_on_62 hS ⟨fun _ => ⟨by omega, ?_, rfl⟩, fun c => absurd (show (dn Q x1 : Int) < ((dn Q x1 + 1 : Nat) : Int) by omega) c⟩, hS, hP, frP.rf, by rw [hlast]; omega⟩
    have := hP.1.2.2
    rw [hlast] at this
    simp only [Int.toNat_natCast]
    rw [hP.2.2.2.1 _ (by omega), if_pos (by omega)]
theorem KX6_on {Q : QT} {M : Mem} {x1 : Int} (hS : Sh M.2.1) (hw : WFc Q) (hC : ClsC Q M.1) (hP : PastOK Q M) :
    ∃ M', Cl l G (d + 2) mX6_on [vR (some (6, 0)), vI x1] M (some (vR (some (14, dn Q x1)))) M' ∧ Sh M'.2.1 ∧ PastOK Q M' ∧ frP M M' ∧ (dn Q x1 : Int) ≤ M'.1 6 0 2 ∧ M.1 6 0 2 ≤ M'.1 6 0 2 := by
  have hdn : dn Q x1 ≤ nCh Q := dnF_le (fun i => Q 56 (srt Q i)) x1 (nCh Q)
  have h60 := nCh_le hw
  have hl := hP.1
  have key : ∃ M', Ex l G (d + 2) mX6_on 62 [some (vR (some (6, 0))), some (vI x1), some (vI (dn Q x1 : Int)), some (vI (M.1 6 0 2 + 1)), none] [] M (some (vR (some (14, dn Q x1)))) M' ∧ Sh M'.2.1 ∧ PastOK Q M' ∧ frP M M' ∧ (dn Q x1 : Int) ≤ M'.1 6 0 2 ∧ M.1 6 0 2 ≤ M'.1 6 0 2 := by
    obtain ⟨n, en⟩ := Int.eq_ofNat_of_zero_le (show 0 ≤ M.1 6 0 2 + 1 by omega)
    rw [en]
    by_cases c : n ≤ dn Q x1 + 1
    · obtain ⟨M', g1, g2, g3, g4, g5⟩ := on_62 (l := l) (G := G) (d := d) hw n c M hS hC hP (by omega)
      exact ⟨M', g1, g2, g3, g4, g5, by omega⟩
    · refine ⟨M, xX6_on_62 hS ⟨fun _ => ⟨by omega, ?_, rfl⟩, fun c => absurd (show (dn Q x1 : Int) < (n : Int) by omega) c⟩, hS, hP, frP.rf, by omega, by omega⟩
      simp only [Int.toNat_natCast]
      rw [hP.2.2.2.1 _ (by omega), if_pos (by omega)]
  obtain ⟨M', hx, hrest⟩ := key
  refine ⟨M', xX6_on_0 ?_, hrest⟩
  refine on_5 (s := 32) (a := 0) hS hw hC (by omega) (by omega) (by omega) (by omega) fun a h1 h2 => ?_
  refine on_5 (s := 16) hS hw hC (by omega) (by omega) h1 (by omega) fun a h1 h2 => ?_
  refine on_5 (s := 8) hS hw hC (by omega) (by omega) h1 (by omega) fun a h1 h2 => ?_
  refine on_5 (s := 4) hS hw hC (by omega) (by omega) h1 (by omega) fun a h1 h2 => ?_
  refine on_5 (s := 2) hS hw hC (by omega) (by omega) h1 (by omega) fun a h1 h2 => ?_
  refine on_5 (s := 1) hS hw hC (by omega) (by omega) h1 (by omega) fun a h1 h2 => ?_
  have e : a = dn Q x1 := by omega
  subst e
  exact xX6_on_5 hS ⟨fun _ => ⟨by unfold InR; omega, hx⟩, fun c => absurd (show ((1 : Nat) : Int) / 2 ≤ 0 by omega) c⟩
end ON
