/-! the class: a goer's step in a minute -/
def qRN (d' : Nat → Int32) (B : Nat) (I : mg_I) (nm : Nat) : Option Value → mg_I → Nat → Prop := fun r I' nm' => r = none ∧ rK I' B d' ∧ bF B I I' ∧ nm' = nm
def qRB (v : Int32) (d' : Nat → Int32) (B : Nat) (I : mg_I) (nm : Nat) : Option Value → mg_I → Nat → Prop := fun r I' nm' => r = some (.int v) ∧ rK I' B d' ∧ bF B I I' ∧ nm' = nm
section GRN
variable {sc : List Value} {own : Nat} {ini rz : Bool} {code : List (Nat × Instr)} {dd n : Nat} {ls : List Value} {I : mg_I} {nm0 : Nat} {Q : Option Value → mg_I → Nat → Prop} {r : List Value} {v : Int32} {B : Nat} {d : Nat → Int32}
theorem g_RN (k : ∀ I', rK I' B d → bF B I I' → GG sc own ini rz code dd n ls r I' nm0 Q) : ∀ a I2 nm2, qRN d B I nm0 a I2 nm2 → GG sc own ini rz code dd n ls (a.toList ++ r) I2 nm2 Q := by
  rintro a I2 nm2 ⟨rfl, h1, h2, rfl⟩
  exact k I2 h1 h2
theorem g_RB (k : ∀ I', rK I' B d → bF B I I' → GG sc own ini rz code dd n ls (.int v :: r) I' nm0 Q) : ∀ a I2 nm2, qRB v d B I nm0 a I2 nm2 → GG sc own ini rz code dd n ls (a.toList ++ r) I2 nm2 Q := by
  rintro a I2 nm2 ⟨rfl, h1, h2, rfl⟩
  exact k I2 h1 h2
end GRN
theorem held_min {b : Int32} (h : iR b 10000) : (if b + 1 < 9999 then b + 1 else 9999) = fHeld (b + 1) 0 9999 := by
  obtain ⟨k, hk, rfl, _⟩ := iR_nI h
  rw [nI_1]
  unfold fHeld
  rw [if_neg (nI_pos (n := k + 1) (by omega))]
  rw [show (9999 : Int32) = nI 9999 from rfl]
  by_cases h1 : k + 1 < 9999
  · rw [if_pos ((nI_ltI (b := 9999) (by omega) (by omega)).mpr h1), if_neg (fun q => absurd ((nI_ltI (a := 9999) (by omega) (by omega)).mp q) (by omega))]
  · rw [if_neg (fun q => h1 ((nI_ltI (b := 9999) (by omega) (by omega)).mp q))]
    by_cases h2 : k + 1 = 9999
    · rw [h2]; decide
    · rw [if_pos ((nI_ltI (a := 9999) (by omega) (by omega)).mpr (by omega))]
theorem held_mm {x : Int32} : (if (-99999 : Int32) < (if x < 99999 then x else 99999) then (if x < 99999 then x else 99999) else -99999) = fHeld x (-99999) 99999 := by
  unfold fHeld
  have e1 : Int32.toInt (-99999) = -99999 := by decide
  have e2 : Int32.toInt 99999 = 99999 := by decide
  by_cases hx : x < 99999
  · rw [if_pos hx]
    by_cases hl : -99999 < x
    · rw [if_pos hl, if_neg (fun q => by rw [Int32.lt_iff_toInt_lt] at q hl; omega), if_neg (fun q => by rw [Int32.lt_iff_toInt_lt] at q hx; omega)]
    · rw [if_neg hl]
      by_cases h3 : x < -99999
      · rw [if_pos h3]
      · rw [if_neg h3, if_neg (fun q => by rw [Int32.lt_iff_toInt_lt] at q hx; omega)]
        exact Int32.toInt_inj.mp (by rw [Int32.lt_iff_toInt_lt] at hl h3; omega)
  · rw [if_neg hx, if_pos (by decide), if_neg (fun q => by rw [Int32.lt_iff_toInt_lt] at q hx; omega)]
    by_cases h3 : 99999 < x
    · rw [if_pos h3]
    · rw [if_neg h3]
      exact Int32.toInt_inj.mp (by rw [Int32.lt_iff_toInt_lt] at hx h3; omega)
def chMeets (d : Nat → Int32) (g h : Nat) : Prop := ¬ (fRank d h < fRank d g ∨ (fRank d g = fRank d h ∧ g < h)) ∧ ¬ fBack (fO d g 0) (fO d g 1) = 0
theorem bF_g {B g : Nat} {I J : mg_I} (h : bF B I J) (hg : g < 8) {j : Nat} {x : Int32} : bF B I (mf_up J (B + 3 + g) j x) := bF_up h (by omega)
theorem bF_b {B : Nat} {I J : mg_I} (h : bF B I J) {j : Nat} {x : Int32} : bF B I (mf_up J B j x) := bF_up h (by omega)
theorem c_gives {sc : List Value} {nm : Nat} {I : mg_I} {B : Nat} {d : Nat → Int32} (hB : isCliff B) (hR : rK I B d) {g h : Nat} (hw : gW d) (hg : g < fN d) (hh : h < fN d) : SP sc 1 23 [.ref B, .ref (B + 3 + g), .int (fRank d g), .ref (B + 3 + h), .int (fRank d h)] I nm (qRB (bP (chMeets d g h)) (fMeets d g h) B I nm) := by
  refine SP.of (h := 0) (t := 23) (q := (yX1_givesWay, cX1_givesWay, 5, (some .boolean), 1, 795, mi_k23)) rfl (by decide) (show ¬ (5 : Nat) < 5 by decide) (fun dd hd => ?_)
  show GG sc 1 false true mi_k23 dd 0 [.ref B, .ref (B + 3 + g), .int (fRank d g), .ref (B + 3 + h), .int (fRank d h)] [] I nm (qRB (bP (chMeets d g h)) (fMeets d g h) B I nm)
  have hN8 := (rK_N hR).2
  refine g_iload_n (n := 1) rfl rfl ?_
  refine g_iload (n := 3) rfl rfl ?_
  refine g_icgt (n := 6) 23 rfl (by decide) (fun h1 => ?_) (fun h1 => ?_)
  ·
    have hp : fRank d h < fRank d g ∨ (fRank d g = fRank d h ∧ g < h) := Or.inl h1
    refine g_iconst (n := 24) (v := 0) rfl rfl ?_
    refine g_iret (n := 25) rfl (fun _ => by first | exact Or.inl rfl | exact Or.inr rfl | exact bI_01 | exact bP_01 | (rw [hb]; exact bP_01)) ?_
    rw [bP_f (show ¬ chMeets d g h from fun q => q.1 hp), show fMeets d g h = d from if_pos hp]; exact ⟨rfl, hR, bF.rfl', rfl⟩
  ·
    refine g_iload_n (n := 7) rfl rfl ?_
    refine g_iload (n := 9) rfl rfl ?_
    refine g_icne (n := 12) 25 rfl (by decide) (fun h2 => ?_) (fun h2 => ?_)
    ·
      have hc : ¬ (fRank d h < fRank d g ∨ (fRank d g = fRank d h ∧ g < h)) := fun z => z.elim h1 (fun y => h2 y.1)
      refine g_aload_n (n := 26) rfl rfl ?_
      refine g_getv (n := 29) (ci := 4) (j := 14) (v := fBack (fO d g 0) (fO d g 1)) (rK_p14 hR (show g < fN d by omega)) rfl (by decide +kernel) rfl (by decide) (cf_gh hB (show g < 8 by omega)) ?_
      refine g_ifne (n := 32) 39 rfl (by decide) (fun h3 => ?_) (fun h3 => ?_)
      ·
        have hbk : ¬ fBack (fO d g 0) (fO d g 1) = 0 := h3
        refine g_aload_n (n := 40) rfl rfl ?_
        refine g_iconst (n := 41) (v := 1) rfl rfl ?_
        refine g_puti (n := 44) (ci := 4) (j := 9) rfl (by decide +kernel) rfl (by decide) (cf_gh hB (by omega)) (by decide +kernel) rfl ?_
        have hR2 := rK_put (w := 8) (x := 1) hR hg (by omega)
        refine g_aload_n (n := 45) rfl rfl ?_
        refine g_dupa (n := 46) rfl ?_
        refine g_getv (n := 49) (ci := 4) (j := 10) (v := fO (up d (34 + 10 * g + 8) 1) g 9) (rK_g hR2 (by rw [fN_up (by omega)]; exact hg) (w := 9) (by omega)) rfl (by decide +kernel) rfl (by decide) (cf_gh hB (by omega)) ?_
        refine g_iconst (n := 50) (v := 1) rfl rfl ?_
        refine g_iadd (n := 51) rfl ?_
        refine g_puti (n := 54) (ci := 4) (j := 10) rfl (by decide +kernel) rfl (by decide) (cf_gh hB (by omega)) (by decide +kernel) rfl ?_
        have hR3 := rK_put (w := 9) (x := fO (up d (34 + 10 * g + 8) 1) g 9 + 1) hR2 (by rw [fN_up (by omega)]; exact hg) (by omega)
        refine g_aload_n (n := 55) rfl rfl ?_
        refine g_sipush (n := 58) (v := 9999) rfl rfl ?_
        refine g_aload_n (n := 59) rfl rfl ?_
        refine g_getv (n := 62) (ci := 1) (j := 5) (v := (up (up d (34 + 10 * g + 8) 1) (34 + 10 * g + 9) (fO (up d (34 + 10 * g + 8) 1) g 9 + 1)) 3) (rK_n hR3 (j := 3) (by omega)) rfl (by decide +kernel) rfl (by decide) (cf_hd hB) ?_
        refine g_iconst (n := 63) (v := 1) rfl rfl ?_
        refine g_iadd (n := 64) rfl ?_
        refine g_min (n := 67) (pl := 785) rfl (by decide +kernel) rfl ?_
        refine g_top (w := fHeld ((up (up d (34 + 10 * g + 8) 1) (34 + 10 * g + 9) (fO (up d (34 + 10 * g + 8) 1) g 9 + 1)) 3 + 1) 0 9999) (held_min (by rw [up_ne (by omega), up_ne (by omega)]; exact hw.2.2.1)) ?_
        refine g_puti (n := 70) (ci := 1) (j := 5) rfl (by decide +kernel) rfl (by decide) (cf_hd hB) (by decide +kernel) rfl ?_
        have hR4 := rK_num (q := 3) (x := fHeld ((up (up d (34 + 10 * g + 8) 1) (34 + 10 * g + 9) (fO (up d (34 + 10 * g + 8) 1) g 9 + 1)) 3 + 1) 0 9999) hR3 (by omega)
        refine g_iconst (n := 71) (v := 1) rfl rfl ?_
        refine g_iret (n := 72) rfl (fun _ => by first | exact Or.inl rfl | exact Or.inr rfl | exact bI_01 | exact bP_01 | (rw [hb]; exact bP_01)) ?_
        rw [bP_t (show chMeets d g h from ⟨hc, hbk⟩), show fMeets d g h = _ from (if_neg hc).trans (if_neg hbk)]; exact ⟨rfl, hR4, bF_b (bF_g (bF_g bF.rfl' (by omega)) (by omega)), rfl⟩
      ·
        have hbk : fBack (fO d g 0) (fO d g 1) = 0 := h3
        refine g_aload_n (n := 33) rfl rfl ?_
        refine g_iconst (n := 34) (v := 1) rfl rfl ?_
        refine g_puti (n := 37) (ci := 4) (j := 11) rfl (by decide +kernel) rfl (by decide) (cf_gh hB (by omega)) (by decide +kernel) rfl ?_
        have hR2 := rK_flt (x := 1) (y := d 5 ||| fBit g) hR hg (fun k hk => fTb_or (d := d) hw.2.2.2 (by omega) up_at)
        refine g_iconst (n := 38) (v := 0) rfl rfl ?_
        refine g_iret (n := 39) rfl (fun _ => by first | exact Or.inl rfl | exact Or.inr rfl | exact bI_01 | exact bP_01 | (rw [hb]; exact bP_01)) ?_
        rw [bP_f (show ¬ chMeets d g h from fun q => q.2 hbk), show fMeets d g h = up d 5 (d 5 ||| fBit g) from (if_neg hc).trans (if_pos hbk)]; exact ⟨rfl, hR2, bF_g bF.rfl' (by omega), rfl⟩
    ·
      refine g_aload_n (n := 13) rfl rfl ?_
      refine g_getv (n := 16) (ci := 4) (j := 0) (v := nI g) (rK_c hR (show g < 8 by omega)) rfl (by decide +kernel) rfl (by decide) (cf_gh hB (show g < 8 by omega)) ?_
      refine g_aload_n (n := 17) rfl rfl ?_
      refine g_getv (n := 20) (ci := 4) (j := 0) (v := nI h) (rK_c hR (show h < 8 by omega)) rfl (by decide +kernel) rfl (by decide) (cf_gh hB (show h < 8 by omega)) ?_
      refine g_icge (n := 23) 25 rfl (by decide) (fun h4 => ?_) (fun h4 => ?_)
      ·
        have hc : ¬ (fRank d h < fRank d g ∨ (fRank d g = fRank d h ∧ g < h)) := fun z => z.elim h1 (fun y => absurd ((nI_leI (by omega) (by omega)).mp h4) (by omega))
        refine g_aload_n (n := 26) rfl rfl ?_
        refine g_getv (n := 29) (ci := 4) (j := 14) (v := fBack (fO d g 0) (fO d g 1)) (rK_p14 hR (show g < fN d by omega)) rfl (by decide +kernel) rfl (by decide) (cf_gh hB (show g < 8 by omega)) ?_
        refine g_ifne (n := 32) 39 rfl (by decide) (fun h5 => ?_) (fun h5 => ?_)
        ·
          have hbk : ¬ fBack (fO d g 0) (fO d g 1) = 0 := h5
          refine g_aload_n (n := 40) rfl rfl ?_
          refine g_iconst (n := 41) (v := 1) rfl rfl ?_
          refine g_puti (n := 44) (ci := 4) (j := 9) rfl (by decide +kernel) rfl (by decide) (cf_gh hB (by omega)) (by decide +kernel) rfl ?_
          have hR2 := rK_put (w := 8) (x := 1) hR hg (by omega)
          refine g_aload_n (n := 45) rfl rfl ?_
          refine g_dupa (n := 46) rfl ?_
          refine g_getv (n := 49) (ci := 4) (j := 10) (v := fO (up d (34 + 10 * g + 8) 1) g 9) (rK_g hR2 (by rw [fN_up (by omega)]; exact hg) (w := 9) (by omega)) rfl (by decide +kernel) rfl (by decide) (cf_gh hB (by omega)) ?_
          refine g_iconst (n := 50) (v := 1) rfl rfl ?_
          refine g_iadd (n := 51) rfl ?_
          refine g_puti (n := 54) (ci := 4) (j := 10) rfl (by decide +kernel) rfl (by decide) (cf_gh hB (by omega)) (by decide +kernel) rfl ?_
          have hR3 := rK_put (w := 9) (x := fO (up d (34 + 10 * g + 8) 1) g 9 + 1) hR2 (by rw [fN_up (by omega)]; exact hg) (by omega)
          refine g_aload_n (n := 55) rfl rfl ?_
          refine g_sipush (n := 58) (v := 9999) rfl rfl ?_
          refine g_aload_n (n := 59) rfl rfl ?_
          refine g_getv (n := 62) (ci := 1) (j := 5) (v := (up (up d (34 + 10 * g + 8) 1) (34 + 10 * g + 9) (fO (up d (34 + 10 * g + 8) 1) g 9 + 1)) 3) (rK_n hR3 (j := 3) (by omega)) rfl (by decide +kernel) rfl (by decide) (cf_hd hB) ?_
          refine g_iconst (n := 63) (v := 1) rfl rfl ?_
          refine g_iadd (n := 64) rfl ?_
          refine g_min (n := 67) (pl := 785) rfl (by decide +kernel) rfl ?_
          refine g_top (w := fHeld ((up (up d (34 + 10 * g + 8) 1) (34 + 10 * g + 9) (fO (up d (34 + 10 * g + 8) 1) g 9 + 1)) 3 + 1) 0 9999) (held_min (by rw [up_ne (by omega), up_ne (by omega)]; exact hw.2.2.1)) ?_
          refine g_puti (n := 70) (ci := 1) (j := 5) rfl (by decide +kernel) rfl (by decide) (cf_hd hB) (by decide +kernel) rfl ?_
          have hR4 := rK_num (q := 3) (x := fHeld ((up (up d (34 + 10 * g + 8) 1) (34 + 10 * g + 9) (fO (up d (34 + 10 * g + 8) 1) g 9 + 1)) 3 + 1) 0 9999) hR3 (by omega)
          refine g_iconst (n := 71) (v := 1) rfl rfl ?_
          refine g_iret (n := 72) rfl (fun _ => by first | exact Or.inl rfl | exact Or.inr rfl | exact bI_01 | exact bP_01 | (rw [hb]; exact bP_01)) ?_
          rw [bP_t (show chMeets d g h from ⟨hc, hbk⟩), show fMeets d g h = _ from (if_neg hc).trans (if_neg hbk)]; exact ⟨rfl, hR4, bF_b (bF_g (bF_g bF.rfl' (by omega)) (by omega)), rfl⟩
        ·
          have hbk : fBack (fO d g 0) (fO d g 1) = 0 := h5
          refine g_aload_n (n := 33) rfl rfl ?_
          refine g_iconst (n := 34) (v := 1) rfl rfl ?_
          refine g_puti (n := 37) (ci := 4) (j := 11) rfl (by decide +kernel) rfl (by decide) (cf_gh hB (by omega)) (by decide +kernel) rfl ?_
          have hR2 := rK_flt (x := 1) (y := d 5 ||| fBit g) hR hg (fun k hk => fTb_or (d := d) hw.2.2.2 (by omega) up_at)
          refine g_iconst (n := 38) (v := 0) rfl rfl ?_
          refine g_iret (n := 39) rfl (fun _ => by first | exact Or.inl rfl | exact Or.inr rfl | exact bI_01 | exact bP_01 | (rw [hb]; exact bP_01)) ?_
          rw [bP_f (show ¬ chMeets d g h from fun q => q.2 hbk), show fMeets d g h = up d 5 (d 5 ||| fBit g) from (if_neg hc).trans (if_pos hbk)]; exact ⟨rfl, hR2, bF_g bF.rfl' (by omega), rfl⟩
      ·
        have hp : fRank d h < fRank d g ∨ (fRank d g = fRank d h ∧ g < h) := Or.inr ⟨h2, (nI_ltI (by omega) (by omega)).mp (Int32.not_le.mp h4)⟩
        refine g_iconst (n := 24) (v := 0) rfl rfl ?_
        refine g_iret (n := 25) rfl (fun _ => by first | exact Or.inl rfl | exact Or.inr rfl | exact bI_01 | exact bP_01 | (rw [hb]; exact bP_01)) ?_
        rw [bP_f (show ¬ chMeets d g h from fun q => q.1 hp), show fMeets d g h = d from if_pos hp]; exact ⟨rfl, hR, bF.rfl', rfl⟩
theorem c_step {sc : List Value} {nm : Nat} {I : mg_I} {B : Nat} {d : Nat → Int32} (hB : isCliff B) (hR : rK I B d) {g y : Nat} (hg : g < fN d) (hy : y < 24) : SP sc 4 20 [.ref B, .ref (B + 3 + g), .int (nI y)] I nm (qRN (fComes d g y) B I nm) := by
  refine SP.of (h := 3) (t := 20) (q := (yX1_step, cX1_step, 4, none, 1, 781, mi_k20)) rfl (by decide) (show ¬ (4 : Nat) < 3 by decide) (fun dd hd => ?_)
  show GG sc 1 false false mi_k20 dd 0 [.ref B, .ref (B + 3 + g), .int (nI y), .null] [] I nm (qRN (fComes d g y) B I nm)
  have hN8 := (rK_N hR).2
  refine g_aload_n (n := 1) rfl rfl ?_
  refine g_iload_n (n := 2) rfl rfl ?_
  refine g_puti (n := 5) (ci := 4) (j := 7) rfl (by decide +kernel) rfl (by decide) (cf_gh hB (by omega)) (by decide +kernel) rfl ?_
  have hR2 := rK_put (w := 6) (x := nI y) hR hg (by omega)
  refine g_aload_n (n := 6) rfl rfl ?_
  refine g_aload_n (n := 7) rfl rfl ?_
  refine g_getv (n := 10) (ci := 4) (j := 12) (v := fPace (fO d g 0) (fO d g 1)) ((rK_p12 hR2 (by rw [fN_up (by omega)]; exact hg)).trans (by rw [fO_up (by omega), fO_up (by omega)])) rfl (by decide +kernel) rfl (by decide) (cf_gh hB (by omega)) ?_
  refine g_iconst (n := 11) (v := 1) rfl rfl ?_
  refine g_isub (n := 12) rfl ?_
  refine g_puti (n := 15) (ci := 4) (j := 8) rfl (by decide +kernel) rfl (by decide) (cf_gh hB (by omega)) (by decide +kernel) rfl ?_
  have hR3 := (rK_put (w := 7) (x := fPace (fO d g 0) (fO d g 1) - 1) hR2 (by rw [fN_up (by omega)]; exact hg) (by omega) : rK _ B (fC1 d g y))
  refine g_aload_n (n := 16) rfl rfl ?_
  refine g_iload_n (n := 17) rfl rfl ?_
  refine g_cv1 (n := 20) (t := 7) (ci := 1) rfl (by decide +kernel) (by decide +kernel) (cf_hd hB) (cf_136 hB) (by decide +kernel) (by rfl) (c_cLedgeN hB hR3 (y := y) hy) (by omega) (g_E ?_)
  refine g_split (fun hL1 => ?_) (fun hL0 => ?_)
  ·
    refine g_ifeq1 (n := 23) 71 rfl (by decide) ?_
    rw [show fComes d g y = _ from if_pos hL1]
    refine g_aload_n (n := 24) rfl rfl ?_
    refine g_iconst (n := 25) (v := 0) rfl rfl ?_
    refine g_puti (n := 28) (ci := 4) (j := 9) rfl (by decide +kernel) rfl (by decide) (cf_gh hB (by omega)) (by decide +kernel) rfl ?_
    have hR4 := (rK_put (w := 8) (x := 0) hR3 (by unfold fC1; rw [fN_up (by omega), fN_up (by omega)]; exact hg) (by omega) : rK _ B (fC2 d g y))
    refine g_aload_n (n := 29) rfl rfl ?_
    refine g_getr (n := 32) (ci := 1) (j := 9) (b := (B + 15)) rfl (by decide +kernel) (cf_hd hB) (cf_lt hB (by decide)) (cf_r9 hB) ?_
    refine g_iconst (n := 33) (v := 1) rfl rfl ?_
    refine g_aald (n := 34) (b := (B + 16 + 7 * 1)) (1) rfl (cf_15a hB) (cf_15h hB) rfl (cf_15x hB (by omega)) (cf_15r hB (by omega)) ?_
    refine g_aload_n (n := 35) rfl rfl ?_
    refine g_getv (n := 38) (ci := 4) (j := 13) (v := fLoad (fO (fC2 d g y) g 0) (fO (fC2 d g y) g 1)) (rK_p13 hR4 (by unfold fC2 fC1; rw [fN_up (by omega), fN_up (by omega), fN_up (by omega)]; exact hg)) rfl (by decide +kernel) rfl (by decide) (cf_gh hB (by omega)) ?_
    refine g_aload_n (n := 39) rfl rfl ?_
    refine g_iload_n (n := 40) rfl rfl ?_
    refine g_cv1 (n := 43) (t := 10) (ci := 1) rfl (by decide +kernel) (by decide +kernel) (cf_hd hB) (cf_136 hB) (by decide +kernel) (by rfl) (c_cLedgeAt hB hR4 (y := y) hy) (by omega) (g_E ?_)
    refine g_top (w := fBefore (fC2 d g y) y) (if_pos (show 1 < up (fC1 d g y) (34 + 10 * g + 8) 0 (10 + y) by rw [up_ne (by omega)]; exact hL1)) ?_
    refine g_aload_n (n := 44) rfl rfl ?_
    refine g_getv (n := 47) (ci := 1) (j := 3) (v := fC2 d g y 1) (rK_n hR4 (j := 1) (by omega)) rfl (by decide +kernel) rfl (by decide) (cf_hd hB) ?_
    refine g_cv3 (n := 50) (t := 67) (ci := 8) rfl (by decide +kernel) (by decide +kernel) (tx_hd (cf_x hB (u := 1) (by omega))) (tx_136 (cf_x hB (u := 1) (by omega))) (by decide +kernel) (by rfl) (c_cText (u := 1) hB hR4 (by omega)) (by omega) (g_VT fun I5 hv => ?_)
    have hR5 := rK_v (u := 1) (by omega) hR4 hv
    refine g_istore_n3 (n := 51) rfl rfl ?_
    refine g_aload_n (n := 52) rfl rfl ?_
    refine g_ldc (n := 54) (v := -99999) (pl := 783) rfl (by decide +kernel) ?_
    refine g_ldc (n := 56) (v := 99999) (pl := 784) rfl (by decide +kernel) ?_
    refine g_aload_n (n := 57) rfl rfl ?_
    refine g_getv (n := 60) (ci := 1) (j := 4) (v := fC2 d g y 2) (rK_n hR5 (j := 2) (by omega)) rfl (by decide +kernel) rfl (by decide) (cf_hd hB) ?_
    refine g_iload_n (n := 61) rfl rfl ?_
    refine g_iadd (n := 62) rfl ?_
    refine g_min (n := 65) (pl := 785) rfl (by decide +kernel) rfl ?_
    refine g_max (n := 68) (pl := 786) rfl (by decide +kernel) rfl ?_
    refine g_top held_mm ?_
    refine g_puti (n := 71) (ci := 1) (j := 4) rfl (by decide +kernel) rfl (by decide) (cf_hd hB) (by decide +kernel) rfl ?_
    have hR6 := rK_num (q := 2) (x := fHeld (fC2 d g y 2 + fText (fC2 d g y) 1 (fLoad (fO (fC2 d g y) g 0) (fO (fC2 d g y) g 1)) (fBefore (fC2 d g y) y) (fC2 d g y 1)) (-99999) 99999) hR5 (by omega)
    refine g_vret (n := 72) rfl ?_
    exact ⟨rfl, hR6, bF_b ((bF_g (bF_g (bF_g bF.rfl' (by omega)) (by omega)) (by omega)).trans (bF_v (u := 1) (by omega) hv)), rfl⟩
  ·
    refine g_ifeq0 (n := 23) 71 rfl (by decide) ?_
    rw [show fComes d g y = fC1 d g y from if_neg hL0]
    refine g_vret (n := 72) rfl ?_
    exact ⟨rfl, hR3, bF_g (bF_g bF.rfl' (by omega)) (by omega), rfl⟩
def chM (d : Nat → Int32) (g : Nat) (x : Int32) : Prop := ¬ fAgainst d g x < 0 ∧ chMeets d g (cl (fAgainst d g x))
def sM (d : Nat → Int32) (g : Nat) (x : Int32) : Nat → Int32 := if fAgainst d g x < 0 then d else fMeets d g (cl (fAgainst d g x))
theorem c_meet {sc : List Value} {nm : Nat} {I : mg_I} {B : Nat} {d : Nat → Int32} (hB : isCliff B) (hR : rK I B d) {g : Nat} {x : Int32} (hw : gW d) (hg : g < fN d) : SP sc 5 22 [.ref B, .ref (B + 3 + g), .int x] I nm (qRB (bP (chM d g x)) (sM d g x) B I nm) := by
  refine SP.of (h := 4) (t := 22) (q := (yX1_meet, cX1_meet, 5, (some .boolean), 1, 790, mi_k22)) rfl (by decide) (show ¬ (5 : Nat) < 3 by decide) (fun dd hd => ?_)
  show GG sc 1 false true mi_k22 dd 0 [.ref B, .ref (B + 3 + g), .int x, .null, .null] [] I nm (qRB (bP (chM d g x)) (sM d g x) B I nm)
  have hN8 := (rK_N hR).2
  have H : ∀ (m k : Nat) {x4 : Value}, k + m = fN d → fFirst (gFace d g x) (fN d) (9 - k) k = fAgainst d g x → GG sc 1 false true mi_k22 dd 2 [.ref B, .ref (B + 3 + g), .int x, .int (nI k), x4] [] I nm (qRB (bP (chM d g x)) (sM d g x) B I nm) := by
    intro m
    induction m with
    | zero =>
      intro k x4 hk hf
      have hlt : fAgainst d g x < 0 := by rw [← hf, show 9 - k = (9 - k - 1) + 1 by omega, fFirst, if_pos (by omega)]; decide
      refine g_iload_n (n := 3) rfl rfl ?_
      refine g_aload_n (n := 4) rfl rfl ?_
      refine g_getv (n := 7) (ci := 1) (j := 2) (v := nI (fN d)) ((rK_n hR (j := 0) (by omega)).trans (rK_N hR).1) rfl (by decide +kernel) rfl (by decide) (cf_hd hB) ?_
      refine g_icge (n := 10) 61 rfl (by decide) (fun h1 => ?_) (fun h1 => ?_)
      ·
        refine g_iconst (n := 62) (v := 0) rfl rfl ?_
        refine g_iret (n := 63) rfl (fun _ => by first | exact Or.inl rfl | exact Or.inr rfl | exact bI_01 | exact bP_01 | (rw [hb]; exact bP_01)) ?_
        exact ⟨by rw [bP_f (show ¬ chM d g x from fun q => q.1 hlt)], by rw [show sM d g x = d from if_pos hlt]; exact hR, bF.rfl', rfl⟩
      ·
        exact absurd (fN_nle rfl (by omega) (by omega) h1) (by omega)
    | succ m ih =>
      intro k x4 hk hf
      rw [show 9 - k = (9 - k - 1) + 1 by omega, fFirst, if_neg (by omega)] at hf
      refine g_iload_n (n := 3) rfl rfl ?_
      refine g_aload_n (n := 4) rfl rfl ?_
      refine g_getv (n := 7) (ci := 1) (j := 2) (v := nI (fN d)) ((rK_n hR (j := 0) (by omega)).trans (rK_N hR).1) rfl (by decide +kernel) rfl (by decide) (cf_hd hB) ?_
      refine g_icge (n := 10) 61 rfl (by decide) (fun h1 => ?_) (fun h1 => ?_)
      ·
        exact absurd (fN_le rfl (by omega) (by omega) h1) (by omega)
      ·
        refine g_aload_n (n := 11) rfl rfl ?_
        refine g_getr (n := 14) (ci := 1) (j := 1) (b := (B + 2)) rfl (by decide +kernel) (cf_hd hB) (cf_lt hB (by decide)) (cf_r1 hB) ?_
        refine g_iload_n (n := 15) rfl rfl ?_
        refine g_aald (n := 16) (b := (B + 3 + k)) (k) rfl (cf_2a hB) (cf_2h hB) rfl (cf_2x hB (by omega)) (cf_2r hB (by omega)) ?_
        refine g_astore4 (n := 18) rfl rfl ?_
        refine g_aload (n := 20) rfl rfl ?_
        refine g_getv (n := 23) (ci := 4) (j := 7) (v := fO d k 6) (rK_g hR (show k < fN d by omega) (w := 6) (by omega)) rfl (by decide +kernel) rfl (by decide) (cf_gh hB (show k < 8 by omega)) ?_
        refine g_iload_n (n := 24) rfl rfl ?_
        refine g_icne (n := 27) 55 rfl (by decide) (fun h2 => ?_) (fun h2 => ?_)
        ·
          rw [if_neg (show ¬ gFace d g x k from fun q => h2 q.2.1)] at hf
          refine g_iinc3 (n := 58) rfl rfl (nI_inc _) ?_
          refine g_goto 2 rfl (by decide) ?_
          exact ih (k + 1) (by omega) (by rw [show 9 - (k + 1) = 9 - k - 1 by omega]; exact hf)
        ·
          refine g_aload (n := 29) rfl rfl ?_
          refine g_aload_n (n := 30) rfl rfl ?_
          refine g_cv1 (n := 33) (t := 42) (ci := 4) rfl (by decide +kernel) (by decide +kernel) (cf_gh hB (by omega)) (cf_g1 hB (by omega)) (by decide +kernel) (by rfl) (c_comesA (cf_G hB (by omega)) (cf_G hB (by omega))) (by omega) (g_E ?_)
          refine g_top (rK_ca hR hg (by omega)) ?_
          refine g_split (fun hc1 => ?_) (fun hc0 => ?_)
          ·
            refine g_ifeq1 (n := 36) 55 rfl (by decide) ?_
            rw [if_pos (show gFace d g x k from ⟨hc1.1, by assumption, hc1.2.1, hc1.2.2⟩)] at hf
            have hnl : ¬ fAgainst d g x < 0 := by rw [← hf]; exact nI_pos (by omega)
            have hcl : cl (fAgainst d g x) = k := by rw [← hf]; exact nI_clamp (by omega)
            rw [show bP (chM d g x) = bP (chMeets d g k) from bP_eq ⟨fun q => hcl ▸ q.2, fun q => ⟨hnl, hcl.symm ▸ q⟩⟩, show sM d g x = fMeets d g k from (if_neg hnl).trans (by rw [hcl])]
            refine g_aload_n (n := 37) rfl rfl ?_
            refine g_aload_n (n := 38) rfl rfl ?_
            refine g_aload_n (n := 39) rfl rfl ?_
            refine g_aload_n (n := 40) rfl rfl ?_
            refine g_cv1 (n := 43) (t := 15) (ci := 1) rfl (by decide +kernel) (by decide +kernel) (cf_hd hB) (cf_136 hB) (by decide +kernel) (by rfl) (c_cRank hB hR (g := g) (by omega)) (by omega) (g_VT fun I1 hv1 => ?_)
            have hR1 := rK_v (u := 0) (by omega) hR hv1
            refine g_aload (n := 45) rfl rfl ?_
            refine g_aload_n (n := 46) rfl rfl ?_
            refine g_aload (n := 48) rfl rfl ?_
            refine g_cv1 (n := 51) (t := 15) (ci := 1) rfl (by decide +kernel) (by decide +kernel) (cf_hd hB) (cf_136 hB) (by decide +kernel) (by rfl) (c_cRank hB hR1 (g := k) (by omega)) (by omega) (g_VT fun I2 hv2 => ?_)
            have hR2 := rK_v (u := 0) (by omega) hR1 hv2
            refine g_cv4 (n := 54) (t := 23) (ci := 1) rfl (by decide +kernel) (by decide +kernel) (cf_hd hB) (cf_136 hB) (by decide +kernel) (by rfl) (c_gives hB hR2 (g := g) (h := k) hw hg (by omega)) (by omega) (g_RB fun I3 hR3 hF3 => ?_)
            refine g_iret (n := 55) rfl (fun _ => by first | exact Or.inl rfl | exact Or.inr rfl | exact bI_01 | exact bP_01 | (rw [hb]; exact bP_01)) ?_
            exact ⟨rfl, hR3, ((bF_v (u := 0) (by omega) hv1).trans (bF_v (u := 0) (by omega) hv2)).trans hF3, rfl⟩
          ·
            refine g_ifeq0 (n := 36) 55 rfl (by decide) ?_
            rw [if_neg (show ¬ gFace d g x k from fun q => hc0 ⟨q.1, q.2.2.1, q.2.2.2⟩)] at hf
            refine g_iinc3 (n := 58) rfl rfl (nI_inc _) ?_
            refine g_goto 2 rfl (by decide) ?_
            exact ih (k + 1) (by omega) (by rw [show 9 - (k + 1) = 9 - k - 1 by omega]; exact hf)
  refine g_iconst (n := 1) (v := 0) rfl rfl ?_
  refine g_istore_n3 (n := 2) rfl rfl ?_
  exact H (fN d) 0 (by omega) rfl
def chGo (d : Nat → Int32) (g : Nat) (b x : Int32) : Prop := (0 ≤ x.toInt ∧ x.toInt ≤ 23) ∧ (fAt d x < d (10 + cl x) ∨ (b = 0 ∧ ¬ 1 < d (10 + cl (fO d g 6)) ∧ chM d g x))
def chGoes (d : Nat → Int32) (g : Nat) (fog : Int32) : Prop :=
  (fO d g 8 = 1 ∧ chGo d g 1 (fO d g 6 - fFaces d g)) ∨ (¬ fO d g 8 = 1 ∧ (fO d g 6 = fO d g 3 ∨ (¬ (1 < d (10 + cl (fO d g 6)) ∧ fog = 0 ∧ ¬ fHears (fO d g 0) = 0 ∧ ¬ fHeard d g = 0) ∧ ¬ fO d g 6 = fO d g 3 ∧ chGo d g 0 (fO d g 6 + fFaces d g))))
theorem fGo_n {d : Nat → Int32} {g : Nat} {b x : Int32} (h : ¬ (0 ≤ x.toInt ∧ x.toInt ≤ 23)) : fGo d g b x = d := if_neg h
theorem fGo_c {d : Nat → Int32} {g : Nat} {b x : Int32} (h : 0 ≤ x.toInt ∧ x.toInt ≤ 23) (h2 : fAt d x < d (10 + cl x)) : fGo d g b x = fComes d g (cl x) := (if_pos h).trans (if_neg (Int32.not_le.mpr h2))
theorem fGo_1 {d : Nat → Int32} {g : Nat} {b x : Int32} (h : 0 ≤ x.toInt ∧ x.toInt ≤ 23) (h2 : ¬ fAt d x < d (10 + cl x)) (hb : ¬ b = 0) : fGo d g b x = d := ((if_pos h).trans (if_pos (Int32.not_lt.mp h2))).trans (if_neg hb)
theorem fGo_l {d : Nat → Int32} {g : Nat} {b x : Int32} (h : 0 ≤ x.toInt ∧ x.toInt ≤ 23) (h2 : ¬ fAt d x < d (10 + cl x)) (hl : 1 < d (10 + cl (fO d g 6))) : fGo d g b x = d := by
  refine ((if_pos h).trans (if_pos (Int32.not_lt.mp h2))).trans ?_
  split
  · first | exact if_pos hl | rfl
  · rfl
theorem fGo_m {d : Nat → Int32} {g : Nat} {x : Int32} (h : 0 ≤ x.toInt ∧ x.toInt ≤ 23) (h2 : ¬ fAt d x < d (10 + cl x)) (hl : ¬ 1 < d (10 + cl (fO d g 6))) : fGo d g 0 x = sM d g x := ((if_pos h).trans (if_pos (Int32.not_lt.mp h2))).trans ((if_pos rfl).trans (if_neg hl))
theorem c_walkT0 {sc : List Value} {nm : Nat} {I : mg_I} {B : Nat} {d : Nat → Int32} {g dd : Nat} {x fog l : Int32} (hB : isCliff B) (hR : rK I B d) (hw : gW d) (hg : g < fN d) (hb : fO d g 8 = 0) (hlb : l = bI (1 < d (10 + cl (fO d g 6)))) (hd : 6 ≤ dd) : GG sc 1 false true mi_k18 dd 115 [.ref B, .ref (B + 3 + g), .int fog, .int l, .int x] [] I nm (qRB (bP (chGo d g 0 x)) (fGo d g 0 x) B I nm) := by
  have hN8 := (rK_N hR).2
  refine g_iload (n := 117) rfl rfl ?_
  refine g_cn1 (n := 120) (t := 131) (x := (387, 388, 71)) rfl (by decide +kernel) (by decide +kernel) (by decide +kernel) (by rfl) c_sYard (by omega) (g_E ?_)
  refine g_split (fun hy => ?_) (fun hy => ?_)
  ·
    refine g_ifne1 (n := 123) 125 rfl (by decide) ?_
    refine g_aload_n (n := 126) rfl rfl ?_
    refine g_iload (n := 128) rfl rfl ?_
    refine g_cv1 (n := 131) (t := 19) (ci := 1) rfl (by decide +kernel) (by decide +kernel) (cf_hd hB) (cf_136 hB) (by decide +kernel) (by rfl) (c_cFree hB hR) (by omega) (g_E ?_)
    refine g_split (fun hf1 => ?_) (fun hf0 => ?_)
    ·
      refine g_ifeq1 (n := 134) 143 rfl (by decide) ?_
      refine g_aload_n (n := 135) rfl rfl ?_
      refine g_aload_n (n := 136) rfl rfl ?_
      refine g_iload (n := 138) rfl rfl ?_
      obtain ⟨yy, hyy, ex, hcy⟩ := iR_nI (x := x) (n := 24) ⟨hy.1, by omega⟩
      have hst := c_step (sc := sc) (nm := nm) hB hR (g := g) (y := yy) hg hyy
      rw [← ex, show yy = cl x from hcy.symm] at hst
      refine g_cv2 (n := 141) (t := 20) (ci := 1) rfl (by decide +kernel) (by decide +kernel) (cf_hd hB) (cf_136 hB) (by decide +kernel) (by rfl) hst (by omega) (g_RN fun I3 hR3 hF3 => ?_)
      refine g_iconst (n := 142) (v := 1) rfl rfl ?_
      refine g_iret (n := 143) rfl (fun _ => by first | exact Or.inl rfl | exact Or.inr rfl | exact bI_01 | exact bP_01 | (rw [hb]; exact bP_01)) ?_
      rw [bP_t (show chGo d g 0 x from ⟨hy, Or.inl hf1.2⟩), fGo_c hy hf1.2]; exact ⟨rfl, hR3, hF3, rfl⟩
    ·
      refine g_ifeq0 (n := 134) 143 rfl (by decide) ?_
      have hnf : ¬ fAt d x < d (10 + cl x) := fun q => hf0 ⟨hy, q⟩
      refine g_aload_n (n := 144) rfl rfl ?_
      refine g_getv (n := 147) (ci := 4) (j := 9) (v := 0) ((rK_g hR hg (w := 8) (by omega)).trans hb) rfl (by decide +kernel) rfl (by decide) (cf_gh hB (by omega)) ?_
      refine g_ifne0 (n := 150) 168 rfl (by decide) ?_
      refine g_iload_n (n := 151) rfl rfl ?_
      refine g_ifne (n := 154) 168 rfl (by decide) (fun h1 => ?_) (fun h1 => ?_)
      ·
        have hl : 1 < d (10 + cl (fO d g 6)) := bI_n (fun q => h1 (hlb.trans q))
        refine g_iconst (n := 169) (v := 0) rfl rfl ?_
        refine g_iret (n := 170) rfl (fun _ => by first | exact Or.inl rfl | exact Or.inr rfl | exact bI_01 | exact bP_01 | (rw [hb]; exact bP_01)) ?_
        rw [bP_f (fun q : chGo d g 0 x => q.2.elim hnf (fun q => q.2.1 hl)), fGo_l hy hnf hl]; exact ⟨rfl, hR, bF.rfl', rfl⟩
      ·
        have hl : ¬ 1 < d (10 + cl (fO d g 6)) := bI_0 (hlb.symm.trans h1)
        refine g_aload_n (n := 155) rfl rfl ?_
        refine g_aload_n (n := 156) rfl rfl ?_
        refine g_iload (n := 158) rfl rfl ?_
        refine g_cv2 (n := 161) (t := 22) (ci := 1) rfl (by decide +kernel) (by decide +kernel) (cf_hd hB) (cf_136 hB) (by decide +kernel) (by rfl) (c_meet hB hR (g := g) hw hg) (by omega) (g_RB fun I3 hR3 hF3 => ?_)
        by_cases hm : chM d g x
        ·
          rw [bP_t hm]
          refine g_ifeq1 (n := 164) 168 rfl (by decide) ?_
          refine g_iconst (n := 165) (v := 1) rfl rfl ?_
          refine g_goto 169 rfl (by decide) ?_
          refine g_iret (n := 170) rfl (fun _ => by first | exact Or.inl rfl | exact Or.inr rfl | exact bI_01 | exact bP_01 | (rw [hb]; exact bP_01)) ?_
          rw [bP_t (show chGo d g 0 x from ⟨hy, Or.inr ⟨rfl, hl, hm⟩⟩), fGo_m hy hnf hl]; exact ⟨rfl, hR3, hF3, rfl⟩
        ·
          rw [bP_f hm]
          refine g_ifeq0 (n := 164) 168 rfl (by decide) ?_
          refine g_iconst (n := 169) (v := 0) rfl rfl ?_
          refine g_iret (n := 170) rfl (fun _ => by first | exact Or.inl rfl | exact Or.inr rfl | exact bI_01 | exact bP_01 | (rw [hb]; exact bP_01)) ?_
          rw [bP_f (fun q : chGo d g 0 x => q.2.elim hnf (fun q => hm q.2.2)), fGo_m hy hnf hl]; exact ⟨rfl, hR3, hF3, rfl⟩
  ·
    refine g_ifne0 (n := 123) 125 rfl (by decide) ?_
    refine g_iconst (n := 124) (v := 0) rfl rfl ?_
    refine g_iret (n := 125) rfl (fun _ => by first | exact Or.inl rfl | exact Or.inr rfl | exact bI_01 | exact bP_01 | (rw [hb]; exact bP_01)) ?_
    rw [bP_f (fun q : chGo d g 0 x => hy q.1), fGo_n hy]; exact ⟨rfl, hR, bF.rfl', rfl⟩
theorem c_walkT1 {sc : List Value} {nm : Nat} {I : mg_I} {B : Nat} {d : Nat → Int32} {g dd : Nat} {x fog l : Int32} (hB : isCliff B) (hR : rK I B d) (hw : gW d) (hg : g < fN d) (hb : fO d g 8 = 1) (hlb : l = bI (1 < d (10 + cl (fO d g 6)))) (hd : 6 ≤ dd) : GG sc 1 false true mi_k18 dd 115 [.ref B, .ref (B + 3 + g), .int fog, .int l, .int x] [] I nm (qRB (bP (chGo d g 1 x)) (fGo d g 1 x) B I nm) := by
  have hN8 := (rK_N hR).2
  refine g_iload (n := 117) rfl rfl ?_
  refine g_cn1 (n := 120) (t := 131) (x := (387, 388, 71)) rfl (by decide +kernel) (by decide +kernel) (by decide +kernel) (by rfl) c_sYard (by omega) (g_E ?_)
  refine g_split (fun hy => ?_) (fun hy => ?_)
  ·
    refine g_ifne1 (n := 123) 125 rfl (by decide) ?_
    refine g_aload_n (n := 126) rfl rfl ?_
    refine g_iload (n := 128) rfl rfl ?_
    refine g_cv1 (n := 131) (t := 19) (ci := 1) rfl (by decide +kernel) (by decide +kernel) (cf_hd hB) (cf_136 hB) (by decide +kernel) (by rfl) (c_cFree hB hR) (by omega) (g_E ?_)
    refine g_split (fun hf1 => ?_) (fun hf0 => ?_)
    ·
      refine g_ifeq1 (n := 134) 143 rfl (by decide) ?_
      refine g_aload_n (n := 135) rfl rfl ?_
      refine g_aload_n (n := 136) rfl rfl ?_
      refine g_iload (n := 138) rfl rfl ?_
      obtain ⟨yy, hyy, ex, hcy⟩ := iR_nI (x := x) (n := 24) ⟨hy.1, by omega⟩
      have hst := c_step (sc := sc) (nm := nm) hB hR (g := g) (y := yy) hg hyy
      rw [← ex, show yy = cl x from hcy.symm] at hst
      refine g_cv2 (n := 141) (t := 20) (ci := 1) rfl (by decide +kernel) (by decide +kernel) (cf_hd hB) (cf_136 hB) (by decide +kernel) (by rfl) hst (by omega) (g_RN fun I3 hR3 hF3 => ?_)
      refine g_iconst (n := 142) (v := 1) rfl rfl ?_
      refine g_iret (n := 143) rfl (fun _ => by first | exact Or.inl rfl | exact Or.inr rfl | exact bI_01 | exact bP_01 | (rw [hb]; exact bP_01)) ?_
      rw [bP_t (show chGo d g 1 x from ⟨hy, Or.inl hf1.2⟩), fGo_c hy hf1.2]; exact ⟨rfl, hR3, hF3, rfl⟩
    ·
      refine g_ifeq0 (n := 134) 143 rfl (by decide) ?_
      have hnf : ¬ fAt d x < d (10 + cl x) := fun q => hf0 ⟨hy, q⟩
      refine g_aload_n (n := 144) rfl rfl ?_
      refine g_getv (n := 147) (ci := 4) (j := 9) (v := 1) ((rK_g hR hg (w := 8) (by omega)).trans hb) rfl (by decide +kernel) rfl (by decide) (cf_gh hB (by omega)) ?_
      refine g_ifne1 (n := 150) 168 rfl (by decide) ?_
      refine g_iconst (n := 169) (v := 0) rfl rfl ?_
      refine g_iret (n := 170) rfl (fun _ => by first | exact Or.inl rfl | exact Or.inr rfl | exact bI_01 | exact bP_01 | (rw [hb]; exact bP_01)) ?_
      rw [bP_f (fun q : chGo d g 1 x => q.2.elim hnf (fun q => absurd q.1 (by decide))), fGo_1 hy hnf (by decide)]; exact ⟨rfl, hR, bF.rfl', rfl⟩
  ·
    refine g_ifne0 (n := 123) 125 rfl (by decide) ?_
    refine g_iconst (n := 124) (v := 0) rfl rfl ?_
    refine g_iret (n := 125) rfl (fun _ => by first | exact Or.inl rfl | exact Or.inr rfl | exact bI_01 | exact bP_01 | (rw [hb]; exact bP_01)) ?_
    rw [bP_f (fun q : chGo d g 1 x => hy q.1), fGo_n hy]; exact ⟨rfl, hR, bF.rfl', rfl⟩
