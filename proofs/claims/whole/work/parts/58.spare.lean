/-! the class: how late a goer may be -/
theorem gV_s {d : Nat → Int32} {g w : Nat} {v : Int32} (h : gV d) (hw : w ≠ 1 ∧ w ≠ 7 ∧ w < 10) : gV (up d (34 + 10 * g + w) v) := fun k hk => by
  rw [fO_up (by omega), fO_up (by omega)]
  exact h k hk
theorem lim_eq : ∀ s, s < 1000 → (if 999 - nI s < 60 then 999 - nI s else 60) = nI (if 999 - s < 60 then 999 - s else 60) := by decide +kernel
theorem fSpr_end {d : Nat → Int32} {g L s : Nat} {bk : Int32} (es : fO d g 4 = nI s) (h1 : L ≤ 60) (h2 : s + L ≤ 999) (h3 : L = 60 ∨ s + L = 999) : fSpr d g bk (60 - L) L = nI L := by
  rcases h3 with rfl | h3
  · rfl
  · obtain ⟨f, hf⟩ : ∃ f, 60 - L = f := ⟨_, rfl⟩
    rw [hf]
    cases f with
    | zero => rfl
    | succ f =>
      rw [fSpr, if_pos]
      rw [es, nI_plus]
      exact (nI_leI (a := 999) (by omega) (by omega)).mpr (by omega)
theorem fSpr_go {d : Nat → Int32} {g L s k : Nat} {bk : Int32} (es : fO d g 4 = nI s) (h1 : L ≤ 60) (h2 : s + L ≤ 999) (hk : k < L) : fSpr d g bk (60 - k) k = if (fOB (up d (34 + 10 * g + 4) (nI (s + (k + 1))))).1 < 0 then nI k else if bk < (fOB (up d (34 + 10 * g + 4) (nI (s + (k + 1))))).2 then nI k else fSpr d g bk (60 - (k + 1)) (k + 1) := by
  obtain ⟨f, hf⟩ : ∃ f, 60 - (k + 1) = f := ⟨_, rfl⟩
  rw [hf, show 60 - k = f + 1 by omega, fSpr, if_neg]
  · rw [show fO d g 4 + nI k + 1 = nI (s + (k + 1)) from by rw [es, nI_plus]; exact nI_plus (s + k) 1]
  · rw [es, nI_plus]
    exact fun q => absurd ((nI_leI (a := 999) (by omega) (by omega)).mp q) (by omega)
theorem c_kSpare {sc : List Value} {nm : Nat} {I : mg_I} {d : Nat → Int32} (hC : RC I d) (hw : gW d) (hv : gV d) (hm1 : iR (d 1) 10000) (hS : ∀ g, g < 8 → iR (fO d g 4) 1000) {g : Int32} : SP sc 12 108 [.ref 5, .int g] I nm (qC I (oSpare d g) nm) := by
  refine SP.of (h := 11) (t := 108) (q := (yX11_spare, cX11_spare, 6, (some .int), 11, 867, mi_k108)) rfl (by decide) (show ¬ (6 : Nat) < 2 by decide) (fun dd hd => ?_)
  show GG sc 11 false false mi_k108 dd 0 [.ref 5, .int g, .null, .null, .null, .null] [] I nm (qC I (oSpare d g) nm)
  have hR := hC.1
  have hN8 := (rK_N hR).2
  have HH : ∀ gg, gg < fN d → ∀ sn, sn < 1000 → fO d gg 4 = nI sn → ∀ L, L ≤ 60 → sn + L ≤ 999 → (L = 60 ∨ sn + L = 999) → ∀ bk F, fSpr d gg bk 60 0 = F → ∀ J0, RC J0 d → cF I J0 → GG sc 11 false false mi_k108 dd 101 [.ref 5, .int (nI gg), .int bk, .int (nI sn), .int (nI L), .int 1] [] J0 nm (qC I (0, F, d) nm) := by
    intro gg hgg sn hsn es L hL1 hL2 hL3 bk F hF0 J0 hC0 hJ0
    have H : ∀ (m k : Nat) (J : mg_I), k + m = L → RC J d → cF I J → fSpr d gg bk (60 - k) k = F → GG sc 11 false false mi_k108 dd 101 [.ref 5, .int (nI gg), .int bk, .int (nI sn), .int (nI L), .int (nI (k + 1))] [] J nm (qC I (0, F, d) nm) := by
      intro m
      induction m with
      | zero =>
        intro k J hk hC2 hF hf
        refine g_iload (n := 103) rfl rfl ?_
        refine g_iload (n := 105) rfl rfl ?_
        refine g_icgt (n := 108) 167 rfl (by decide) (fun h1 => ?_) (fun h1 => ?_)
        ·
          refine g_iload (n := 169) rfl rfl ?_
          refine g_iret (n := 170) rfl (fun h => nomatch h) ?_
          have ek : k = L := by omega
          subst ek
          rw [fSpr_end es hL1 hL2 hL3] at hf
          rw [← hf]; exact qC_v hC2 hF
        ·
          exact absurd ((nI_ltI (a := L) (b := k + 1) (by omega) (by omega)).mpr (by omega)) h1
      | succ m ih =>
        intro k J hk hC2 hF hf
        refine g_iload (n := 103) rfl rfl ?_
        refine g_iload (n := 105) rfl rfl ?_
        refine g_icgt (n := 108) 167 rfl (by decide) (fun h1 => ?_) (fun h1 => ?_)
        ·
          exact absurd ((nI_ltI (a := L) (b := k + 1) (by omega) (by omega)).mp h1) (by omega)
        ·
          refine g_aload_n (n := 109) rfl rfl ?_
          refine g_getr (n := 112) (ci := 11) (j := 2) (b := (44)) rfl (by decide +kernel) (by decide) (by decide) (by decide +kernel) ?_
          refine g_aload_n (n := 113) rfl rfl ?_
          refine g_getr (n := 116) (ci := 11) (j := 1) (b := (14)) rfl (by decide +kernel) (by decide) (by decide) (by decide +kernel) ?_
          refine g_cv1 (n := 119) (t := 6) (ci := 1) rfl (by decide +kernel) (by decide +kernel) (cf_hd c44) (cf_136 c44) (by decide +kernel) (by rfl) (c_ccopy c44 c14 (by decide) hC2.2.2 hC2.1 hC2.2.1 hw) (by omega) (g_RC fun I1 hR1 hT1 hF1 => ?_)
          refine g_aload_n (n := 120) rfl rfl ?_
          refine g_getr (n := 123) (ci := 11) (j := 2) (b := (44)) rfl (by decide +kernel) (by decide) (by decide) (by decide +kernel) ?_
          refine g_getr (n := 126) (ci := 1) (j := 1) (b := ((44) + 2)) rfl (by decide +kernel) (cf_hd c44) (cf_lt c44 (by decide)) (cf_r1 c44) ?_
          refine g_iload_n (n := 127) rfl rfl ?_
          refine g_aald (n := 128) (b := ((44) + 3 + gg)) (gg) rfl (cf_2a c44) (cf_2h c44) rfl (cf_2x c44 (by omega)) (cf_2r c44 (by omega)) ?_
          refine g_iload_n (n := 129) rfl rfl ?_
          refine g_iload (n := 131) rfl rfl ?_
          refine g_iaddN (n := 132) (x := sn) (y := (k + 1)) rfl ?_
          refine g_puti (n := 135) (ci := 4) (j := 5) rfl (by decide +kernel) rfl (by decide) (cf_gh c44 (show gg < 8 by omega)) (by decide +kernel) rfl ?_
          have hR1s := rK_put (w := 4) (x := nI (sn + (k + 1))) hR1 hgg (by omega)
          refine g_aload_n (n := 136) rfl rfl ?_
          refine g_getr (n := 139) (ci := 11) (j := 2) (b := (44)) rfl (by decide +kernel) (by decide) (by decide) (by decide +kernel) ?_
          refine g_cv0 (n := 142) (t := 26) (ci := 1) rfl (by decide +kernel) (by decide +kernel) (cf_hd c44) (cf_136 c44) (by decide +kernel) (by rfl) (c_runOver c44 hR1s (gW_start hw (by omega) (by omega)) (gV_s hv (by omega)) (by rw [up_ne (by omega)]; exact hm1)) (by omega) (g_RO fun d2 I2 hR2 hF2 hp2 => ?_)
          have hB2 := (hF1.trans (show bH 44 I1 (mf_up I1 (44 + 3 + gg) (4 + 1) (nI (sn + (k + 1)))) from fun a j x => mf_ne (by omega))).trans (bF_h hF2)
          have hC3 := RC_a hC2 hB2 hR2
          have hF3 := hF.trans (cF_h hB2)
          refine g_iflt (n := 145) 156 rfl (by decide) (fun h2 => ?_) (fun h2 => ?_)
          ·
            have hf2 : nI k = F := by rw [fSpr_go (k := k) es hL1 hL2 (by omega), if_pos h2] at hf; exact hf
            refine g_iload (n := 158) rfl rfl ?_
            refine g_iconst (n := 159) (v := 1) rfl rfl ?_
            refine g_isub (n := 160) rfl ?_
            refine g_top (w := nI k) (nI_pred k) ?_
            refine g_iret (n := 161) rfl (fun h => nomatch h) ?_
            rw [← hf2]; exact qC_v hC3 hF3
          ·
            refine g_aload_n (n := 146) rfl rfl ?_
            refine g_getr (n := 149) (ci := 11) (j := 2) (b := (44)) rfl (by decide +kernel) (by decide) (by decide) (by decide +kernel) ?_
            refine g_getv (n := 152) (ci := 1) (j := 5) (v := (fOB (up d (34 + 10 * gg + 4) (nI (sn + (k + 1))))).2) ((rK_n hR2 (j := 3) (by omega)).trans (hp2 (Int32.not_lt.mp h2))) rfl (by decide +kernel) rfl (by decide) (cf_hd c44) ?_
            refine g_iload_n (n := 153) rfl rfl ?_
            refine g_icle (n := 156) 161 rfl (by decide) (fun h3 => ?_) (fun h3 => ?_)
            ·
              have hf2 : fSpr d gg bk (60 - (k + 1)) (k + 1) = F := by rw [fSpr_go (k := k) es hL1 hL2 (by omega), if_neg h2, if_neg (Int32.not_lt.mpr h3)] at hf; exact hf
              refine g_iinc5 (n := 164) rfl rfl (nI_inc _) ?_
              refine g_goto 101 rfl (by decide) ?_
              exact ih (k + 1) I2 (by omega) hC3 hF3 hf2
            ·
              have hf2 : nI k = F := by rw [fSpr_go (k := k) es hL1 hL2 (by omega), if_neg h2, if_pos (Int32.not_le.mp h3)] at hf; exact hf
              refine g_iload (n := 158) rfl rfl ?_
              refine g_iconst (n := 159) (v := 1) rfl rfl ?_
              refine g_isub (n := 160) rfl ?_
              refine g_top (w := nI k) (nI_pred k) ?_
              refine g_iret (n := 161) rfl (fun h => nomatch h) ?_
              rw [← hf2]; exact qC_v hC3 hF3
    exact H L 0 J0 (by omega) hC0 hJ0 hF0
  refine g_aload_n (n := 1) rfl rfl ?_
  refine g_iload_n (n := 2) rfl rfl ?_
  refine g_cv1 (n := 5) (t := 128) (ci := 11) rfl (by decide +kernel) (by decide +kernel) (by decide) (by decide) (by decide +kernel) (by rfl) (c_kGoer hR) (by omega) (g_E ?_)
  refine g_split (fun h1 => ?_) (fun h1 => ?_)
  ·
    refine g_ifne1 (n := 8) 15 rfl (by decide) ?_
    obtain ⟨gg, hgg, rfl, hcgg⟩ := iR_nI (x := g) (n := (fN d)) ⟨by omega, by omega⟩
    have hdgg : cl (nI gg) = gg := hcgg
    refine g_aload_n (n := 16) rfl rfl ?_
    refine g_getr (n := 19) (ci := 11) (j := 1) (b := (14)) rfl (by decide +kernel) (by decide) (by decide) (by decide +kernel) ?_
    refine g_getr (n := 22) (ci := 1) (j := 1) (b := ((14) + 2)) rfl (by decide +kernel) (cf_hd c14) (cf_lt c14 (by decide)) (cf_r1 c14) ?_
    refine g_iload_n (n := 23) rfl rfl ?_
    refine g_aald (n := 24) (b := ((14) + 3 + gg)) (gg) rfl (cf_2a c14) (cf_2h c14) rfl (cf_2x c14 (by omega)) (cf_2r c14 (by omega)) ?_
    refine g_getv (n := 27) (ci := 4) (j := 6) (v := fO d gg 5) (rK_g hR (show gg < fN d by omega) (w := 5) (by omega)) rfl (by decide +kernel) rfl (by decide) (cf_gh c14 (show gg < 8 by omega)) ?_
    refine g_ifeq (n := 30) 37 rfl (by decide) (fun h2 => ?_) (fun h2 => ?_)
    ·
      refine g_aload_n (n := 38) rfl rfl ?_
      refine g_getr (n := 41) (ci := 11) (j := 2) (b := (44)) rfl (by decide +kernel) (by decide) (by decide) (by decide +kernel) ?_
      refine g_aload_n (n := 42) rfl rfl ?_
      refine g_getr (n := 45) (ci := 11) (j := 1) (b := (14)) rfl (by decide +kernel) (by decide) (by decide) (by decide +kernel) ?_
      refine g_cv1 (n := 48) (t := 6) (ci := 1) rfl (by decide +kernel) (by decide +kernel) (cf_hd c44) (cf_136 c44) (by decide +kernel) (by rfl) (c_ccopy c44 c14 (by decide) hC.2.2 hC.1 hC.2.1 hw) (by omega) (g_RC fun I1 hR1 hT1 hF1 => ?_)
      refine g_aload_n (n := 49) rfl rfl ?_
      refine g_getr (n := 52) (ci := 11) (j := 2) (b := (44)) rfl (by decide +kernel) (by decide) (by decide) (by decide +kernel) ?_
      refine g_cv0 (n := 55) (t := 26) (ci := 1) rfl (by decide +kernel) (by decide +kernel) (cf_hd c44) (cf_136 c44) (by decide +kernel) (by rfl) (c_runOver c44 hR1 hw hv hm1) (by omega) (g_RO fun d2 I2 hR2 hF2 hp2 => ?_)
      have hB2 := hF1.trans (bF_h hF2)
      have hC2 := RC_a hC hB2 hR2
      have hF3 := cF_h hB2
      refine g_ifge (n := 58) 65 rfl (by decide) (fun h3 => ?_) (fun h3 => ?_)
      ·
        refine g_aload_n (n := 66) rfl rfl ?_
        refine g_getr (n := 69) (ci := 11) (j := 2) (b := (44)) rfl (by decide +kernel) (by decide) (by decide) (by decide +kernel) ?_
        refine g_getv (n := 72) (ci := 1) (j := 5) (v := (fOB d).2) ((rK_n hR2 (j := 3) (by omega)).trans (hp2 h3)) rfl (by decide +kernel) rfl (by decide) (cf_hd c44) ?_
        refine g_istore_n2 (n := 73) rfl rfl ?_
        refine g_aload_n (n := 74) rfl rfl ?_
        refine g_getr (n := 77) (ci := 11) (j := 1) (b := (14)) rfl (by decide +kernel) (by decide) (by decide) (by decide +kernel) ?_
        refine g_getr (n := 80) (ci := 1) (j := 1) (b := ((14) + 2)) rfl (by decide +kernel) (cf_hd c14) (cf_lt c14 (by decide)) (cf_r1 c14) ?_
        refine g_iload_n (n := 81) rfl rfl ?_
        refine g_aald (n := 82) (b := ((14) + 3 + gg)) (gg) rfl (cf_2a c14) (cf_2h c14) rfl (cf_2x c14 (by omega)) (cf_2r c14 (by omega)) ?_
        obtain ⟨sn, hsn, es, hcs⟩ := iR_nI (hS gg (by omega))
        refine g_getv (n := 85) (ci := 4) (j := 5) (v := nI sn) ((rK_g hC2.1 (show gg < fN d by omega) (w := 4) (by omega)).trans es) rfl (by decide +kernel) rfl (by decide) (cf_gh c14 (show gg < 8 by omega)) ?_
        refine g_istore_n3 (n := 86) rfl rfl ?_
        refine g_bipush (n := 88) (v := 60) rfl rfl ?_
        refine g_sipush (n := 91) (v := 999) rfl rfl ?_
        refine g_iload_n (n := 92) rfl rfl ?_
        refine g_isub (n := 93) rfl ?_
        refine g_min (n := 96) (pl := 863) rfl (by decide +kernel) rfl ?_
        refine g_top (w := nI (if 999 - sn < 60 then 999 - sn else 60)) (lim_eq sn hsn) ?_
        refine g_istore4 (n := 98) rfl rfl ?_
        refine g_iconst (n := 99) (v := 1) rfl rfl ?_
        refine g_istore5 (n := 101) rfl rfl ?_
        unfold oSpare
        rw [if_pos h1, hdgg, if_pos h2, if_pos h3]
        exact HH gg hgg sn hsn es (if 999 - sn < 60 then 999 - sn else 60) (by split <;> omega) (by split <;> omega) (by split <;> omega) (fOB d).2 _ rfl I2 hC2 hF3
      ·
        refine g_aload_n (n := 59) rfl rfl ?_
        refine g_ldc (n := 61) (v := -1000000002) (pl := 850) rfl (by decide +kernel) ?_
        refine g_top (w := -1000000000 - nI 2) (by decide) ?_
        refine g_cv1 (n := 64) (t := 126) (ci := 11) rfl (by decide +kernel) (by decide +kernel) (by decide) (by decide) (by decide +kernel) (by rfl) (c_fail (k := 2) (by omega)) (by omega) (g_E ?_)
        refine g_iret (n := 65) rfl (fun h => nomatch h) ?_
        unfold oSpare
        rw [if_pos h1, hdgg, if_pos h2, if_neg h3]
        exact qC_e (by omega) hC2 hF3
    ·
      refine g_aload_n (n := 31) rfl rfl ?_
      refine g_ldc (n := 33) (v := -1000000003) (pl := 586) rfl (by decide +kernel) ?_
      refine g_top (w := -1000000000 - nI 3) (by decide) ?_
      refine g_cv1 (n := 36) (t := 126) (ci := 11) rfl (by decide +kernel) (by decide +kernel) (by decide) (by decide) (by decide +kernel) (by rfl) (c_fail (k := 3) (by omega)) (by omega) (g_E ?_)
      refine g_iret (n := 37) rfl (fun h => nomatch h) ?_
      unfold oSpare
      rw [if_pos h1, hdgg, if_neg h2]
      exact qC_e (by omega) hC cF.rfl'
  ·
    refine g_ifne0 (n := 8) 15 rfl (by decide) ?_
    refine g_aload_n (n := 9) rfl rfl ?_
    refine g_ldc (n := 11) (v := -1000000001) (pl := 419) rfl (by decide +kernel) ?_
    refine g_top (w := -1000000000 - nI 1) (by decide) ?_
    refine g_cv1 (n := 14) (t := 126) (ci := 11) rfl (by decide +kernel) (by decide +kernel) (by decide) (by decide) (by decide +kernel) (by rfl) (c_fail (k := 1) (by omega)) (by omega) (g_E ?_)
    refine g_iret (n := 15) rfl (fun h => nomatch h) ?_
    unfold oSpare
    rw [if_neg h1]
    exact qC_e (by omega) hC cF.rfl'
