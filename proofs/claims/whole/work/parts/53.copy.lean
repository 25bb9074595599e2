/-! the class: a cliff copied from a cliff -/
/-- the tape, and the numbers that wait -/
def tW (I : mg_I) (B : Nat) (d : Nat → Int32) : Prop := ∃ n m, n ≤ 50 ∧ m ≤ 20 ∧ d 6 = nI n ∧ d 7 = nI m ∧ I (B + 11) 1 = nI n ∧ I (B + 13) 1 = nI m ∧ (∀ k, k < n → I (B + 12) k = d (236 + k)) ∧ (∀ k, k < m → I (B + 14) k = d (116 + k))
def bH (B : Nat) (I I' : mg_I) : Prop := ∀ a j, a < B ∨ B + 30 ≤ a → I' a j = I a j
def qRC (d : Nat → Int32) (B : Nat) (I : mg_I) (nm : Nat) : Option Value → mg_I → Nat → Prop := fun r I' nm' => r = none ∧ (rK I' B d ∧ tW I' B d ∧ bH B I I') ∧ nm' = nm
theorem g_RC {sc : List Value} {own : Nat} {ini rz : Bool} {code : List (Nat × Instr)} {dd n : Nat} {ls r : List Value} {I : mg_I} {nm0 B : Nat} {d : Nat → Int32} {Q : Option Value → mg_I → Nat → Prop} (k : ∀ I', rK I' B d → tW I' B d → bH B I I' → GG sc own ini rz code dd n ls r I' nm0 Q) : ∀ a I2 nm2, qRC d B I nm0 a I2 nm2 → GG sc own ini rz code dd n ls (a.toList ++ r) I2 nm2 Q := by
  rintro a I2 nm2 ⟨rfl, ⟨h1, h2, h3⟩, rfl⟩
  exact k I2 h1 h2 h3
theorem cf_dis {B C : Nat} (hB : isCliff B) (hC : isCliff C) (h : B ≠ C) : B + 30 ≤ C ∨ C + 30 ≤ B := by
  rcases hB with rfl | rfl | rfl <;> rcases hC with rfl | rfl | rfl <;> omega
theorem cR_o {I : mg_I} {R Q n a x : Nat} (h : a ≠ R) (h2 : a ≠ R + 1) : cR I R Q n a x = I a x := by
  unfold cR
  rw [if_neg (fun q => h2 q.1), if_neg (fun q => h q.1)]
theorem cR_r {I : mg_I} {R Q n : Nat} : cR I R Q n R 1 = nI n := by
  unfold cR
  rw [if_neg (by omega), if_pos ⟨rfl, rfl⟩]
theorem cR_x {I : mg_I} {R Q n x : Nat} (h : x < n) : cR I R Q n (R + 1) x = I (Q + 1) x := if_pos ⟨rfl, h⟩
/-- so far: the space, and k goers -/
def cG (I J : mg_I) (B C k : Nat) : Prop := (∀ y, y < 24 → J (B + 1) y = I (C + 1) y) ∧ (∀ g, g < k → ∀ w, 1 ≤ w → w < 16 → J (B + 3 + g) w = I (C + 3 + g) w) ∧ (∀ g, g < 8 → J (B + 3 + g) 0 = I (B + 3 + g) 0) ∧ J B 2 = I C 2 ∧ (∀ a j, a < B ∨ B + 11 ≤ a → J a j = I a j)
theorem gcM_n {I : mg_I} {G H a j : Nat} (h : ¬ (a = G ∧ 1 ≤ j ∧ j < 1 + 15)) : gcM I G H 15 a j = I a j := if_neg h
theorem gcM_y {I : mg_I} {G H j : Nat} (h : 1 ≤ j ∧ j < 1 + 15) : gcM I G H 15 G j = I H j := if_pos ⟨rfl, h⟩
theorem cG_s {I J : mg_I} {B C k : Nat} (hd : B + 30 ≤ C ∨ C + 30 ≤ B) (h : cG I J B C k) (hk : k < 8) : cG I (gcM J (B + 3 + k) (C + 3 + k) 15) B C (k + 1) := by
  obtain ⟨h1, h2, h3, h4, h5⟩ := h
  refine ⟨fun y hy => ?_, fun g hg w w1 w2 => ?_, fun g hg => ?_, ?_, fun a j ha => ?_⟩
  · rw [gcM_n (by omega)]; exact h1 y hy
  · by_cases e : g = k
    · subst e
      rw [gcM_y (by omega)]; exact h5 _ _ (by omega)
    · rw [gcM_n (by omega)]; exact h2 g (by omega) w w1 w2
  · rw [gcM_n (by omega)]; exact h3 g hg
  · rw [gcM_n (by omega)]; exact h4
  · rw [gcM_n (by omega)]; exact h5 a j ha
/-- all but the rows -/
def cP (I M : mg_I) (B : Nat) (d : Nat → Int32) : Prop := (∀ j, j < 5 → M B (j + 2) = d j) ∧ (∀ y, y < 24 → M (B + 1) y = d (10 + y)) ∧ (∀ g, g < fN d → ∀ w, w < 10 → M (B + 3 + g) (w + 1) = fO d g w) ∧
  (∀ g, g < fN d → M (B + 3 + g) 11 = fTb d g ∧ M (B + 3 + g) 12 = fPace (fO d g 0) (fO d g 1) ∧ M (B + 3 + g) 13 = fLoad (fO d g 0) (fO d g 1) ∧ M (B + 3 + g) 14 = fBack (fO d g 0) (fO d g 1) ∧ M (B + 3 + g) 15 = fHears (fO d g 0)) ∧
  (∀ g, g < 8 → M (B + 3 + g) 0 = nI g) ∧ (∀ a j, a < B ∨ B + 11 ≤ a → M a j = I a j)
theorem cP_of {I J : mg_I} {B C : Nat} {d : Nat → Int32} (hd : B + 30 ≤ C ∨ C + 30 ≤ B) (hA : aK I B) (hR : rK I C d) (h : cG I J B C (fN d)) : cP I (mf_up (mf_up (mf_up (mf_up J B 3 (d 1)) B 4 (d 2)) B 5 (d 3)) B 6 (d 4)) B d := by
  obtain ⟨h1, h2, h3, h4, h5⟩ := h
  have hN8 := (rK_N hR).2
  have key : ∀ a j, a ≠ B → mf_up (mf_up (mf_up (mf_up J B 3 (d 1)) B 4 (d 2)) B 5 (d 3)) B 6 (d 4) a j = J a j := fun a j ha => by
    rw [mf_ne (by omega), mf_ne (by omega), mf_ne (by omega), mf_ne (by omega)]
  refine ⟨fun j hj => ?_, fun y hy => ?_, fun g hg w hw => ?_, fun g hg => ?_, fun g hg => ?_, fun a j ha => ?_⟩
  · rcases (show j = 0 ∨ j = 1 ∨ j = 2 ∨ j = 3 ∨ j = 4 by omega) with rfl | rfl | rfl | rfl | rfl
    · rw [mf_ne (by omega), mf_ne (by omega), mf_ne (by omega), mf_ne (by omega)]; exact h4.trans (rK_n hR (j := 0) (by omega))
    · rw [mf_ne (by omega), mf_ne (by omega), mf_ne (by omega)]; exact mf_at
    · rw [mf_ne (by omega), mf_ne (by omega)]; exact mf_at
    · rw [mf_ne (by omega)]; exact mf_at
    · exact mf_at
  · rw [key _ _ (by omega), h1 y hy]; exact rK_s hR hy
  · rw [key _ _ (by omega), h2 g hg _ (by omega) (by omega)]; exact rK_g hR hg hw
  · rw [key _ _ (by omega), key _ _ (by omega), key _ _ (by omega), key _ _ (by omega), key _ _ (by omega), h2 g hg _ (by omega) (by omega), h2 g hg _ (by omega) (by omega), h2 g hg _ (by omega) (by omega), h2 g hg _ (by omega) (by omega), h2 g hg _ (by omega) (by omega)]
    exact hR.2.2.2.1 g hg
  · rw [key _ _ (by omega), h3 g hg]; exact hA.1 g hg
  · rw [key _ _ (by omega)]; exact h5 a j ha
theorem cP_fin {I M : mg_I} {B C n m q r : Nat} {d : Nat → Int32} (hd : B + 30 ≤ C ∨ C + 30 ≤ B) (hA : aK I B) (hP : cP I M B d) (hn : n ≤ 50) (hm : m ≤ 20) (e6 : d 6 = nI n) (e7 : d 7 = nI m) (ht : ∀ k, k < n → I (C + 12) k = d (236 + k)) (hw : ∀ k, k < m → I (C + 14) k = d (116 + k)) (hq : q ≤ 50) (hr : r ≤ 50) (h0 : ∀ a b c, (cEv (I (C + 16 + 7 * 0 + 2)) (n3 a b c) q).headD 0 = fGive d 0 a b c) (h1 : ∀ a b c, (cEv (I (C + 16 + 7 * 1 + 2)) (n3 a b c) r).headD 0 = fGive d 1 a b c) (hN : iR (d 0) 9) :
    rK (cR (cR (cR (cR M (B + 11) (C + 11) n) (B + 13) (C + 13) m) (B + 16 + 7 * 0 + 1) (C + 16 + 7 * 0 + 1) q) (B + 16 + 7 * 1 + 1) (C + 16 + 7 * 1 + 1) r) B d ∧ tW (cR (cR (cR (cR M (B + 11) (C + 11) n) (B + 13) (C + 13) m) (B + 16 + 7 * 0 + 1) (C + 16 + 7 * 0 + 1) q) (B + 16 + 7 * 1 + 1) (C + 16 + 7 * 1 + 1) r) B d ∧ bH B I (cR (cR (cR (cR M (B + 11) (C + 11) n) (B + 13) (C + 13) m) (B + 16 + 7 * 0 + 1) (C + 16 + 7 * 0 + 1) q) (B + 16 + 7 * 1 + 1) (C + 16 + 7 * 1 + 1) r) := by
  obtain ⟨p1, p2, p3, p4, p5, p6⟩ := hP
  have hN8 := (fN_eq hN).2
  have key : ∀ a j, a ≠ B + 11 → a ≠ B + 12 → a ≠ B + 13 → a ≠ B + 14 → a ≠ B + 17 → a ≠ B + 18 → a ≠ B + 24 → a ≠ B + 25 → cR (cR (cR (cR M (B + 11) (C + 11) n) (B + 13) (C + 13) m) (B + 16 + 7 * 0 + 1) (C + 16 + 7 * 0 + 1) q) (B + 16 + 7 * 1 + 1) (C + 16 + 7 * 1 + 1) r a j = M a j := fun a j z1 z2 z3 z4 z5 z6 z7 z8 => by
    rw [cR_o (by omega) (by omega), cR_o (by omega) (by omega), cR_o (by omega) (by omega), cR_o (by omega) (by omega)]
  refine ⟨⟨fun j hj => ?_, fun y hy => ?_, fun g hg w hw => ?_, fun g hg => ?_, ⟨fun g hg => ?_, ?_, ?_, ?_, ?_⟩, fun u hu => ?_, hN⟩, ⟨n, m, hn, hm, e6, e7, ?_, ?_, fun k hk => ?_, fun k hk => ?_⟩, fun a j ha => ?_⟩
  · rw [key _ _ (by omega) (by omega) (by omega) (by omega) (by omega) (by omega) (by omega) (by omega)]; exact p1 j hj
  · rw [key _ _ (by omega) (by omega) (by omega) (by omega) (by omega) (by omega) (by omega) (by omega)]; exact p2 y hy
  · rw [key _ _ (by omega) (by omega) (by omega) (by omega) (by omega) (by omega) (by omega) (by omega)]; exact p3 g hg w hw
  · have kk : ∀ j, _ := fun j => key (B + 3 + g) j (by omega) (by omega) (by omega) (by omega) (by omega) (by omega) (by omega) (by omega)
    rw [kk, kk, kk, kk, kk]; exact p4 g hg
  · rw [key _ _ (by omega) (by omega) (by omega) (by omega) (by omega) (by omega) (by omega) (by omega)]; exact p5 g hg
  · rw [key _ _ (by omega) (by omega) (by omega) (by omega) (by omega) (by omega) (by omega) (by omega), p6 _ _ (by omega)]; exact hA.2.1
  · rw [key _ _ (by omega) (by omega) (by omega) (by omega) (by omega) (by omega) (by omega) (by omega), p6 _ _ (by omega)]; exact hA.2.2.1
  · rw [key _ _ (by omega) (by omega) (by omega) (by omega) (by omega) (by omega) (by omega) (by omega), p6 _ _ (by omega)]; exact hA.2.2.2.1
  · rw [key _ _ (by omega) (by omega) (by omega) (by omega) (by omega) (by omega) (by omega) (by omega), p6 _ _ (by omega)]; exact hA.2.2.2.2
  · rcases (show u = 0 ∨ u = 1 by omega) with rfl | rfl
    · refine ⟨q, hq, ?_, fun a b c => ?_⟩
      · rw [cR_o (by omega) (by omega)]; exact cR_r
      · rw [← h0 a b c]
        refine congrArg (fun z => List.headD z 0) (cEv_c q (fun k hk => ?_))
        rw [cR_o (by omega) (by omega)]
        refine (cR_x hk).trans ?_
        rw [cR_o (by omega) (by omega), cR_o (by omega) (by omega)]
        exact p6 _ _ (by omega)
    · refine ⟨r, hr, cR_r, fun a b c => ?_⟩
      rw [← h1 a b c]
      refine congrArg (fun z => List.headD z 0) (cEv_c r (fun k hk => ?_))
      refine (cR_x hk).trans ?_
      rw [cR_o (by omega) (by omega), cR_o (by omega) (by omega), cR_o (by omega) (by omega)]
      exact p6 _ _ (by omega)
  · rw [cR_o (by omega) (by omega), cR_o (by omega) (by omega), cR_o (by omega) (by omega)]; exact cR_r
  · rw [cR_o (by omega) (by omega), cR_o (by omega) (by omega)]; exact cR_r
  · rw [cR_o (by omega) (by omega), cR_o (by omega) (by omega), cR_o (by omega) (by omega)]
    exact (cR_x hk).trans ((p6 _ _ (by omega)).trans (ht k hk))
  · rw [cR_o (by omega) (by omega), cR_o (by omega) (by omega)]
    refine (cR_x hk).trans ?_
    rw [cR_o (by omega) (by omega)]
    exact (p6 _ _ (by omega)).trans (hw k hk)
  · rw [key _ _ (by omega) (by omega) (by omega) (by omega) (by omega) (by omega) (by omega) (by omega)]; exact p6 a j (by omega)
theorem c_ccopy {sc : List Value} {nm : Nat} {I : mg_I} {B C : Nat} {d : Nat → Int32} (hB : isCliff B) (hC : isCliff C) (hne : B ≠ C) (hA : aK I B) (hR : rK I C d) (hT : tW I C d) (hw : gW d) : SP sc 3 6 [.ref B, .ref C] I nm (qRC d B I nm) := by
  refine SP.of (h := 2) (t := 6) (q := (yX1_copyFrom, cX1_copyFrom, 3, none, 1, 820, mi_k6)) rfl (by decide) (show ¬ (3 : Nat) < 2 by decide) (fun dd hd => ?_)
  show GG sc 1 false false mi_k6 dd 0 [.ref B, .ref C, .null] [] I nm (qRC d B I nm)
  have hN8 := (rK_N hR).2
  have hdis := cf_dis hB hC hne
  obtain ⟨n1, m1, hn1, hm1, e6, e7, hn, hm, ht, hwt⟩ := hT
  obtain ⟨q1, hq1, eq1, f0⟩ := rK_t hR (u := 0) (by omega)
  obtain ⟨q2, hq2, eq2, f1⟩ := rK_t hR (u := 1) (by omega)
  have H : ∀ (m k : Nat) (J : mg_I), k + m = fN d → cG I J B C k → GG sc 1 false false mi_k6 dd 25 [.ref B, .ref C, .int (nI k)] [] J nm (qRC d B I nm) := by
    intro m
    induction m with
    | zero =>
      intro k J hk hG
      refine g_iload_n (n := 26) rfl rfl ?_
      refine g_aload_n (n := 27) rfl rfl ?_
      refine g_getv (n := 30) (ci := 1) (j := 2) (v := nI (fN d)) (hG.2.2.2.1.trans ((rK_n hR (j := 0) (by omega)).trans (rK_N hR).1)) rfl (by decide +kernel) rfl (by decide) (cf_hd hB) ?_
      refine g_icge (n := 33) 54 rfl (by decide) (fun h1 => ?_) (fun h1 => ?_)
      ·
        refine g_aload_n (n := 55) rfl rfl ?_
        refine g_aload_n (n := 56) rfl rfl ?_
        refine g_getv (n := 59) (ci := 1) (j := 3) (v := d 1) (by exact (hG.2.2.2.2 _ _ (by omega)).trans (rK_n hR (j := 1) (by omega))) rfl (by decide +kernel) rfl (by decide) (cf_hd hC) ?_
        refine g_puti (n := 62) (ci := 1) (j := 3) rfl (by decide +kernel) rfl (by decide) (cf_hd hB) (by decide +kernel) rfl ?_
        refine g_aload_n (n := 63) rfl rfl ?_
        refine g_aload_n (n := 64) rfl rfl ?_
        refine g_getv (n := 67) (ci := 1) (j := 4) (v := d 2) (by rw [mf_ne (by omega)]; exact (hG.2.2.2.2 _ _ (by omega)).trans (rK_n hR (j := 2) (by omega))) rfl (by decide +kernel) rfl (by decide) (cf_hd hC) ?_
        refine g_puti (n := 70) (ci := 1) (j := 4) rfl (by decide +kernel) rfl (by decide) (cf_hd hB) (by decide +kernel) rfl ?_
        refine g_aload_n (n := 71) rfl rfl ?_
        refine g_aload_n (n := 72) rfl rfl ?_
        refine g_getv (n := 75) (ci := 1) (j := 5) (v := d 3) (by rw [mf_ne (by omega), mf_ne (by omega)]; exact (hG.2.2.2.2 _ _ (by omega)).trans (rK_n hR (j := 3) (by omega))) rfl (by decide +kernel) rfl (by decide) (cf_hd hC) ?_
        refine g_puti (n := 78) (ci := 1) (j := 5) rfl (by decide +kernel) rfl (by decide) (cf_hd hB) (by decide +kernel) rfl ?_
        refine g_aload_n (n := 79) rfl rfl ?_
        refine g_aload_n (n := 80) rfl rfl ?_
        refine g_getv (n := 83) (ci := 1) (j := 6) (v := d 4) (by rw [mf_ne (by omega), mf_ne (by omega), mf_ne (by omega)]; exact (hG.2.2.2.2 _ _ (by omega)).trans (rK_n hR (j := 4) (by omega))) rfl (by decide +kernel) rfl (by decide) (cf_hd hC) ?_
        refine g_puti (n := 86) (ci := 1) (j := 6) rfl (by decide +kernel) rfl (by decide) (cf_hd hB) (by decide +kernel) rfl ?_
        refine g_aload_n (n := 87) rfl rfl ?_
        refine g_getr (n := 90) (ci := 1) (j := 7) (b := (B + 11)) rfl (by decide +kernel) (cf_hd hB) (cf_lt hB (by decide)) (cf_r7 hB) ?_
        refine g_aload_n (n := 91) rfl rfl ?_
        refine g_getr (n := 94) (ci := 1) (j := 7) (b := (C + 11)) rfl (by decide +kernel) (cf_hd hC) (cf_lt hC (by decide)) (cf_r7 hC) ?_
        have hP := cP_of hdis hA hR (show cG I J B C (fN d) from (show k = fN d by omega) ▸ hG)
        generalize mf_up (mf_up (mf_up (mf_up J B 3 (d 1)) B 4 (d 2)) B 5 (d 3)) B 6 (d 4) = M at hP ⊢
        have p6 := hP.2.2.2.2.2
        refine g_cv1 (n := 97) (t := 60) (ci := 6) rfl (by decide +kernel) (by decide +kernel) (rw_hd (cf_t hB)) (rw_136 (cf_t hB)) (by decide +kernel) (by rfl) (c_rcopy (cf_t hB) (n := n1) (by omega) (cf_t hC) ((p6 _ _ (by omega)).trans hn) (by omega)) (by omega) (g_Z ?_)
        refine g_aload_n (n := 98) rfl rfl ?_
        refine g_getr (n := 101) (ci := 1) (j := 8) (b := (B + 13)) rfl (by decide +kernel) (cf_hd hB) (cf_lt hB (by decide)) (cf_r8 hB) ?_
        refine g_aload_n (n := 102) rfl rfl ?_
        refine g_getr (n := 105) (ci := 1) (j := 8) (b := (C + 13)) rfl (by decide +kernel) (cf_hd hC) (cf_lt hC (by decide)) (cf_r8 hC) ?_
        refine g_cv1 (n := 108) (t := 60) (ci := 6) rfl (by decide +kernel) (by decide +kernel) (rw_hd (cf_w hB)) (rw_136 (cf_w hB)) (by decide +kernel) (by rfl) (c_rcopy (cf_w hB) (n := m1) (by omega) (cf_w hC) ((cR_o (by omega) (by omega)).trans ((p6 _ _ (by omega)).trans hm)) (by omega)) (by omega) (g_Z ?_)
        refine g_iconst (n := 109) (v := 0) rfl rfl ?_
        refine g_istore_n2 (n := 110) rfl rfl ?_
        refine g_iload_n (n := 111) rfl rfl ?_
        refine g_iconst (n := 112) (v := 2) rfl rfl ?_
        refine g_icge (n := 115) 136 rfl (by decide) (fun h => absurd h (by decide)) (fun _ => ?_)
        refine g_aload_n (n := 116) rfl rfl ?_
        refine g_getr (n := 119) (ci := 1) (j := 9) (b := (B + 15)) rfl (by decide +kernel) (cf_hd hB) (cf_lt hB (by decide)) (cf_r9 hB) ?_
        refine g_iload_n (n := 120) rfl rfl ?_
        refine g_aald (n := 121) (b := (B + 16 + 7 * 0)) (0) rfl (cf_15a hB) (cf_15h hB) rfl (cf_15x hB (by omega)) (cf_15r hB (by omega)) ?_
        refine g_aload_n (n := 122) rfl rfl ?_
        refine g_getr (n := 125) (ci := 1) (j := 9) (b := (C + 15)) rfl (by decide +kernel) (cf_hd hC) (cf_lt hC (by decide)) (cf_r9 hC) ?_
        refine g_iload_n (n := 126) rfl rfl ?_
        refine g_aald (n := 127) (b := (C + 16 + 7 * 0)) (0) rfl (cf_15a hC) (cf_15h hC) rfl (cf_15x hC (by omega)) (cf_15r hC (by omega)) ?_
        refine g_cv1 (n := 130) (t := 66) (ci := 8) rfl (by decide +kernel) (by decide +kernel) (tx_hd (cf_x hB (u := 0) (by omega))) (tx_136 (cf_x hB (u := 0) (by omega))) (by decide +kernel) (by rfl) (c_tcopy (n := q1) (cf_x hB (u := 0) (by omega)) (cf_x hC (u := 0) (by omega)) hq1 ((cR_o (by omega) (by omega)).trans ((cR_o (by omega) (by omega)).trans ((p6 _ _ (by omega)).trans eq1)))) (by omega) (g_Z ?_)
        refine g_iinc2 (n := 133) rfl rfl (nI_inc _) ?_
        show GG sc 1 false false mi_k6 dd 133 [.ref B, .ref C, .int (nI 1)] [] _ nm _
        refine g_goto 110 rfl (by decide) ?_
        refine g_iload_n (n := 111) rfl rfl ?_
        refine g_iconst (n := 112) (v := 2) rfl rfl ?_
        refine g_icge (n := 115) 136 rfl (by decide) (fun h => absurd h (by decide)) (fun _ => ?_)
        refine g_aload_n (n := 116) rfl rfl ?_
        refine g_getr (n := 119) (ci := 1) (j := 9) (b := (B + 15)) rfl (by decide +kernel) (cf_hd hB) (cf_lt hB (by decide)) (cf_r9 hB) ?_
        refine g_iload_n (n := 120) rfl rfl ?_
        refine g_aald (n := 121) (b := (B + 16 + 7 * 1)) (1) rfl (cf_15a hB) (cf_15h hB) rfl (cf_15x hB (by omega)) (cf_15r hB (by omega)) ?_
        refine g_aload_n (n := 122) rfl rfl ?_
        refine g_getr (n := 125) (ci := 1) (j := 9) (b := (C + 15)) rfl (by decide +kernel) (cf_hd hC) (cf_lt hC (by decide)) (cf_r9 hC) ?_
        refine g_iload_n (n := 126) rfl rfl ?_
        refine g_aald (n := 127) (b := (C + 16 + 7 * 1)) (1) rfl (cf_15a hC) (cf_15h hC) rfl (cf_15x hC (by omega)) (cf_15r hC (by omega)) ?_
        refine g_cv1 (n := 130) (t := 66) (ci := 8) rfl (by decide +kernel) (by decide +kernel) (tx_hd (cf_x hB (u := 1) (by omega))) (tx_136 (cf_x hB (u := 1) (by omega))) (by decide +kernel) (by rfl) (c_tcopy (n := q2) (cf_x hB (u := 1) (by omega)) (cf_x hC (u := 1) (by omega)) hq2 ((cR_o (by omega) (by omega)).trans ((cR_o (by omega) (by omega)).trans ((cR_o (by omega) (by omega)).trans ((p6 _ _ (by omega)).trans eq2))))) (by omega) (g_Z ?_)
        refine g_iinc2 (n := 133) rfl rfl (nI_inc _) ?_
        show GG sc 1 false false mi_k6 dd 133 [.ref B, .ref C, .int (nI 2)] [] _ nm _
        refine g_goto 110 rfl (by decide) ?_
        refine g_iload_n (n := 111) rfl rfl ?_
        refine g_iconst (n := 112) (v := 2) rfl rfl ?_
        refine g_icge (n := 115) 136 rfl (by decide) (fun _ => ?_) (fun h => absurd (by decide) h)
        refine g_vret (n := 137) rfl ?_
        exact ⟨rfl, cP_fin hdis hA hP hn1 hm1 e6 e7 ht hwt hq1 hq2 f0 f1 hR.2.2.2.2.2.2, rfl⟩
      ·
        exact absurd (fN_nle rfl (by omega) (by omega) h1) (by omega)
    | succ m ih =>
      intro k J hk hG
      refine g_iload_n (n := 26) rfl rfl ?_
      refine g_aload_n (n := 27) rfl rfl ?_
      refine g_getv (n := 30) (ci := 1) (j := 2) (v := nI (fN d)) (hG.2.2.2.1.trans ((rK_n hR (j := 0) (by omega)).trans (rK_N hR).1)) rfl (by decide +kernel) rfl (by decide) (cf_hd hB) ?_
      refine g_icge (n := 33) 54 rfl (by decide) (fun h1 => ?_) (fun h1 => ?_)
      ·
        exact absurd (fN_le rfl (by omega) (by omega) h1) (by omega)
      ·
        refine g_aload_n (n := 34) rfl rfl ?_
        refine g_getr (n := 37) (ci := 1) (j := 1) (b := (B + 2)) rfl (by decide +kernel) (cf_hd hB) (cf_lt hB (by decide)) (cf_r1 hB) ?_
        refine g_iload_n (n := 38) rfl rfl ?_
        refine g_aald (n := 39) (b := (B + 3 + k)) (k) rfl (cf_2a hB) (cf_2h hB) rfl (cf_2x hB (by omega)) (cf_2r hB (by omega)) ?_
        refine g_aload_n (n := 40) rfl rfl ?_
        refine g_getr (n := 43) (ci := 1) (j := 1) (b := (C + 2)) rfl (by decide +kernel) (cf_hd hC) (cf_lt hC (by decide)) (cf_r1 hC) ?_
        refine g_iload_n (n := 44) rfl rfl ?_
        refine g_aald (n := 45) (b := (C + 3 + k)) (k) rfl (cf_2a hC) (cf_2h hC) rfl (cf_2x hC (by omega)) (cf_2r hC (by omega)) ?_
        have hX : ∀ j, J (C + 3 + k) j = I (C + 3 + k) j := fun j => hG.2.2.2.2 _ _ (by omega)
        refine g_cv1 (n := 48) (t := 44) (ci := 4) rfl (by decide +kernel) (by decide +kernel) (cf_gh hB (by omega)) (cf_g1 hB (by omega)) (by decide +kernel) (by rfl) (c_gcopy (cf_G hB (by omega)) (cf_G hC (by omega)) (by omega) (by rw [hX, rK_g hR (show k < fN d by omega) (w := 8) (by omega)]; exact hw.2.1 k (by omega)) (by rw [hX, rK_p11 hR (show k < fN d by omega)]; exact fTb_01) (by rw [hX, rK_p14 hR (show k < fN d by omega)]; exact fBack_01) (by rw [hX, rK_p15 hR (show k < fN d by omega)]; exact bI_01)) (by omega) (g_Z ?_)
        refine g_iinc2 (n := 51) rfl rfl (nI_inc _) ?_
        refine g_goto 25 rfl (by decide) ?_
        exact ih (k + 1) _ (by omega) (cG_s hdis hG (by omega))
  refine g_aload_n (n := 1) rfl rfl ?_
  refine g_getr (n := 4) (ci := 1) (j := 0) (b := (C + 1)) rfl (by decide +kernel) (cf_hd hC) (cf_lt hC (by decide)) (cf_r0 hC) ?_
  refine g_iconst (n := 5) (v := 0) rfl rfl ?_
  refine g_aload_n (n := 6) rfl rfl ?_
  refine g_getr (n := 9) (ci := 1) (j := 0) (b := (B + 1)) rfl (by decide +kernel) (cf_hd hB) (cf_lt hB (by decide)) (cf_r0 hB) ?_
  refine g_iconst (n := 10) (v := 0) rfl rfl ?_
  refine g_bipush (n := 12) (v := 24) rfl rfl ?_
  refine g_acp (a := B + 1) (a0 := C + 1) (nn := 24) (dp := 0) (sp := 0) (n := 15) (pl := 821) rfl (by decide +kernel) rfl (cf_1h hB) (cf_1h hC) (by rw [cf_1s hC]; omega) (by rw [cf_1s hB]; omega) ?_
  refine g_aload_n (n := 16) rfl rfl ?_
  refine g_aload_n (n := 17) rfl rfl ?_
  refine g_getv (n := 20) (ci := 1) (j := 2) (v := I C 2) (if_neg (by omega)) rfl (by decide +kernel) rfl (by decide) (cf_hd hC) ?_
  refine g_puti (n := 23) (ci := 1) (j := 2) rfl (by decide +kernel) rfl (by decide) (cf_hd hB) (by decide +kernel) rfl ?_
  refine g_iconst (n := 24) (v := 0) rfl rfl ?_
  refine g_istore_n2 (n := 25) rfl rfl ?_
  exact H (fN d) 0 _ (by omega) ⟨fun y hy => by rw [mf_ne (by omega)]; exact (if_pos (by omega)).trans (congrArg (I (C + 1)) (by omega)), fun g hg => absurd hg (by omega), fun g hg => by rw [mf_ne (by omega)]; exact if_neg (by omega), mf_at, fun a j ha => by rw [mf_ne (by omega)]; exact if_neg (by omega)⟩
