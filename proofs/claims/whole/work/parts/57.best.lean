/-! the class: a new ledge, how late, the best start -/
theorem b9 {d : Nat → Int32} (hL : nL d 24 ≤ 9) : fBefore d 24 < 9 ↔ ¬ fBefore d 24 = 9 := by
  rw [fBefore_N, Int32.lt_iff_toInt_lt, nI_toInt (by omega), show Int32.toInt 9 = 9 from rfl]
  constructor
  · intro h q
    have e := (nI_eq (b := 9) (by omega) (by omega)).mp q
    omega
  · intro h
    have e : ¬ nL d 24 = 9 := fun q => h (by rw [q]; rfl)
    omega
theorem c_kNew {sc : List Value} {nm : Nat} {I : mg_I} {d : Nat → Int32} (hC : RC I d) (hw : gW d) (hv : gV d) (hm1 : iR (d 1) 10000) (hL : nL d 24 ≤ 9) {w : Int32} : SP sc 12 110 [.ref 5, .int w] I nm (qC I (oNew d w) nm) := by
  refine SP.of (h := 11) (t := 110) (q := (yX11_newOne, cX11_newOne, 6, (some .int), 11, 879, mi_k110)) rfl (by decide) (show ¬ (6 : Nat) < 2 by decide) (fun dd hd => ?_)
  show GG sc 11 false false mi_k110 dd 0 [.ref 5, .int w, .null, .null, .null, .null] [] I nm (qC I (oNew d w) nm)
  have hR := hC.1
  have hN8 := (rK_N hR).2
  generalize hFe : fNew d 24 0 (-1) 0 = F
  have H : ∀ (m k : Nat) (b l : Int32) (J : mg_I) {x5 : Value}, k + m = 24 → RC J d → cF I J → fNew d m k b l = F → GG sc 11 false false mi_k110 dd 42 [.ref 5, .int w, .int b, .int l, .int (nI k), x5] [] J nm (qC I (if 0 ≤ F.1 then (0, if w = 0 then F.1 else F.2, d) else fE d 2) nm) := by
    intro m
    induction m with
    | zero =>
      intro k b l J x5 hk hC2 hF hf
      refine g_iload (n := 44) rfl rfl ?_
      refine g_bipush (n := 46) (v := 24) rfl rfl ?_
      refine g_icge (n := 49) 119 rfl (by decide) (fun h1 => ?_) (fun h1 => ?_)
      ·
        refine g_iload_n (n := 120) rfl rfl ?_
        refine g_ifge (n := 123) 130 rfl (by decide) (fun h2 => ?_) (fun h2 => ?_)
        ·
          refine g_iload_n (n := 131) rfl rfl ?_
          refine g_ifne (n := 134) 138 rfl (by decide) (fun h3 => ?_) (fun h3 => ?_)
          ·
            refine g_iload_n (n := 139) rfl rfl ?_
            refine g_iret (n := 140) rfl (fun h => nomatch h) ?_
            rw [show F = (b, l) from hf.symm]; rw [if_pos (c := 0 ≤ (b, l).1) h2, if_neg h3]; exact qC_v hC2 hF
          ·
            refine g_iload_n (n := 135) rfl rfl ?_
            refine g_goto 139 rfl (by decide) ?_
            refine g_iret (n := 140) rfl (fun h => nomatch h) ?_
            rw [show F = (b, l) from hf.symm]; rw [if_pos (c := 0 ≤ (b, l).1) h2, if_pos h3]; exact qC_v hC2 hF
        ·
          refine g_aload_n (n := 124) rfl rfl ?_
          refine g_ldc (n := 126) (v := -1000000002) (pl := 850) rfl (by decide +kernel) ?_
          refine g_top (w := -1000000000 - nI 2) (by decide) ?_
          refine g_cv1 (n := 129) (t := 126) (ci := 11) rfl (by decide +kernel) (by decide +kernel) (by decide) (by decide) (by decide +kernel) (by rfl) (c_fail (k := 2) (by omega)) (by omega) (g_E ?_)
          refine g_iret (n := 130) rfl (fun h => nomatch h) ?_
          rw [show F = (b, l) from hf.symm]; rw [if_neg (c := 0 ≤ (b, l).1) h2]; exact qC_e (by omega) hC2 hF
      ·
        exact absurd ((nI_leI (a := 24) (b := k) (by omega) (by omega)).mpr (by omega)) h1
    | succ m ih =>
      intro k b l J x5 hk hC2 hF hf
      refine g_iload (n := 44) rfl rfl ?_
      refine g_bipush (n := 46) (v := 24) rfl rfl ?_
      refine g_icge (n := 49) 119 rfl (by decide) (fun h1 => ?_) (fun h1 => ?_)
      ·
        exact absurd ((nI_leI (a := 24) (b := k) (by omega) (by omega)).mp h1) (by omega)
      ·
        refine g_aload_n (n := 50) rfl rfl ?_
        refine g_getr (n := 53) (ci := 11) (j := 1) (b := (14)) rfl (by decide +kernel) (by decide) (by decide) (by decide +kernel) ?_
        refine g_iload (n := 55) rfl rfl ?_
        refine g_cv1 (n := 58) (t := 7) (ci := 1) rfl (by decide +kernel) (by decide +kernel) (cf_hd c14) (cf_136 c14) (by decide +kernel) (by rfl) (c_cLedgeN c14 hC2.1 (y := k) (by omega)) (by omega) (g_E ?_)
        refine g_split (fun h2 => ?_) (fun h2 => ?_)
        ·
          refine g_ifne1 (n := 61) 113 rfl (by decide) ?_
          have hf2 : fNew d m (k + 1) b l = F := by rw [← hf, fNew, if_pos h2]
          refine g_iinc4 (n := 116) rfl rfl (nI_inc _) ?_
          refine g_goto 42 rfl (by decide) ?_
          exact ih (k + 1) b l J (by omega) hC2 hF hf2
        ·
          refine g_ifne0 (n := 61) 113 rfl (by decide) ?_
          refine g_aload_n (n := 62) rfl rfl ?_
          refine g_getr (n := 65) (ci := 11) (j := 2) (b := (44)) rfl (by decide +kernel) (by decide) (by decide) (by decide +kernel) ?_
          refine g_aload_n (n := 66) rfl rfl ?_
          refine g_getr (n := 69) (ci := 11) (j := 1) (b := (14)) rfl (by decide +kernel) (by decide) (by decide) (by decide +kernel) ?_
          refine g_cv1 (n := 72) (t := 6) (ci := 1) rfl (by decide +kernel) (by decide +kernel) (cf_hd c44) (cf_136 c44) (by decide +kernel) (by rfl) (c_ccopy c44 c14 (by decide) hC2.2.2 hC2.1 hC2.2.1 hw) (by omega) (g_RC fun I1 hR1 hT1 hF1 => ?_)
          refine g_aload_n (n := 73) rfl rfl ?_
          refine g_getr (n := 76) (ci := 11) (j := 2) (b := (44)) rfl (by decide +kernel) (by decide) (by decide) (by decide +kernel) ?_
          refine g_getr (n := 79) (ci := 1) (j := 0) (b := ((44) + 1)) rfl (by decide +kernel) (cf_hd c44) (cf_lt c44 (by decide)) (cf_r0 c44) ?_
          refine g_iload (n := 81) rfl rfl ?_
          refine g_iconst (n := 82) (v := 2) rfl rfl ?_
          refine g_iast (n := 83) (k) rfl (cf_1h c44) rfl (by rw [cf_1s c44]; omega) ?_
          have hR1s := rK_space (q := k) (x := 2) hR1 (by omega)
          refine g_aload_n (n := 84) rfl rfl ?_
          refine g_getr (n := 87) (ci := 11) (j := 2) (b := (44)) rfl (by decide +kernel) (by decide) (by decide) (by decide +kernel) ?_
          refine g_cv0 (n := 90) (t := 26) (ci := 1) rfl (by decide +kernel) (by decide +kernel) (cf_hd c44) (cf_136 c44) (by decide +kernel) (by rfl) (c_runOver c44 hR1s (gW_up hw (by omega)) (gV_up hv (by omega)) (by rw [up_ne (by omega)]; exact hm1)) (by omega) (g_RO fun d2 I2 hR2 hF2 hp2 => ?_)
          refine g_istore5 (n := 92) rfl rfl ?_
          refine g_iload (n := 94) rfl rfl ?_
          refine g_iflt (n := 97) 113 rfl (by decide) (fun h3 => ?_) (fun h3 => ?_)
          ·
            have hf2 : fNew d m (k + 1) b l = F := by rw [← hf, fNew, if_neg h2, if_neg (c := 0 ≤ (fOB (up d (10 + k) 2)).1 ∧ (b < 0 ∨ (fOB (up d (10 + k) 2)).1 < l)) (fun q => Int32.not_lt.mpr q.1 h3)]
            refine g_iinc4 (n := 116) rfl rfl (nI_inc _) ?_
            refine g_goto 42 rfl (by decide) ?_
            exact ih (k + 1) b l I2 (by omega) (RC_a hC2 ((hF1.trans (show bH 44 I1 (mf_up I1 (44 + 1) k 2) from fun a j x => mf_ne (by omega))).trans (bF_h hF2)) hR2) ((hF.trans (cF_h hF1)).trans ((cF_mf (I := I1) cF.rfl' (by omega)).trans (cF_44 hF2))) hf2
          ·
            refine g_iload_n (n := 98) rfl rfl ?_
            refine g_iflt (n := 101) 107 rfl (by decide) (fun h4 => ?_) (fun h4 => ?_)
            ·
              have hf2 : fNew d m (k + 1) (nI k) (fOB (up d (10 + k) 2)).1 = F := by rw [← hf, fNew, if_neg h2, if_pos (c := 0 ≤ (fOB (up d (10 + k) 2)).1 ∧ (b < 0 ∨ (fOB (up d (10 + k) 2)).1 < l)) ⟨Int32.not_lt.mp h3, Or.inl h4⟩]
              refine g_iload (n := 109) rfl rfl ?_
              refine g_istore_n2 (n := 110) rfl rfl ?_
              refine g_iload (n := 112) rfl rfl ?_
              refine g_istore_n3 (n := 113) rfl rfl ?_
              refine g_iinc4 (n := 116) rfl rfl (nI_inc _) ?_
              refine g_goto 42 rfl (by decide) ?_
              exact ih (k + 1) (nI k) (fOB (up d (10 + k) 2)).1 I2 (by omega) (RC_a hC2 ((hF1.trans (show bH 44 I1 (mf_up I1 (44 + 1) k 2) from fun a j x => mf_ne (by omega))).trans (bF_h hF2)) hR2) ((hF.trans (cF_h hF1)).trans ((cF_mf (I := I1) cF.rfl' (by omega)).trans (cF_44 hF2))) hf2
            ·
              refine g_iload (n := 103) rfl rfl ?_
              refine g_iload_n (n := 104) rfl rfl ?_
              refine g_icge (n := 107) 113 rfl (by decide) (fun h5 => ?_) (fun h5 => ?_)
              ·
                have hf2 : fNew d m (k + 1) b l = F := by rw [← hf, fNew, if_neg h2, if_neg (c := 0 ≤ (fOB (up d (10 + k) 2)).1 ∧ (b < 0 ∨ (fOB (up d (10 + k) 2)).1 < l)) (fun q => q.2.elim (fun z => h4 z) (fun z => Int32.not_lt.mpr h5 z))]
                refine g_iinc4 (n := 116) rfl rfl (nI_inc _) ?_
                refine g_goto 42 rfl (by decide) ?_
                exact ih (k + 1) b l I2 (by omega) (RC_a hC2 ((hF1.trans (show bH 44 I1 (mf_up I1 (44 + 1) k 2) from fun a j x => mf_ne (by omega))).trans (bF_h hF2)) hR2) ((hF.trans (cF_h hF1)).trans ((cF_mf (I := I1) cF.rfl' (by omega)).trans (cF_44 hF2))) hf2
              ·
                have hf2 : fNew d m (k + 1) (nI k) (fOB (up d (10 + k) 2)).1 = F := by rw [← hf, fNew, if_neg h2, if_pos (c := 0 ≤ (fOB (up d (10 + k) 2)).1 ∧ (b < 0 ∨ (fOB (up d (10 + k) 2)).1 < l)) ⟨Int32.not_lt.mp h3, Or.inr (Int32.not_le.mp h5)⟩]
                refine g_iload (n := 109) rfl rfl ?_
                refine g_istore_n2 (n := 110) rfl rfl ?_
                refine g_iload (n := 112) rfl rfl ?_
                refine g_istore_n3 (n := 113) rfl rfl ?_
                refine g_iinc4 (n := 116) rfl rfl (nI_inc _) ?_
                refine g_goto 42 rfl (by decide) ?_
                exact ih (k + 1) (nI k) (fOB (up d (10 + k) 2)).1 I2 (by omega) (RC_a hC2 ((hF1.trans (show bH 44 I1 (mf_up I1 (44 + 1) k 2) from fun a j x => mf_ne (by omega))).trans (bF_h hF2)) hR2) ((hF.trans (cF_h hF1)).trans ((cF_mf (I := I1) cF.rfl' (by omega)).trans (cF_44 hF2))) hf2
  refine g_iload_n (n := 1) rfl rfl ?_
  refine g_iflt (n := 4) 9 rfl (by decide) (fun h1 => ?_) (fun h1 => ?_)
  ·
    have h1i : Int32.toInt _ < 0 := Int32.lt_iff_toInt_lt.mp (h1)
    refine g_aload_n (n := 10) rfl rfl ?_
    refine g_ldc (n := 12) (v := -1000000001) (pl := 419) rfl (by decide +kernel) ?_
    refine g_top (w := -1000000000 - nI 1) (by decide) ?_
    refine g_cv1 (n := 15) (t := 126) (ci := 11) rfl (by decide +kernel) (by decide +kernel) (by decide) (by decide) (by decide +kernel) (by rfl) (c_fail (k := 1) (by omega)) (by omega) (g_E ?_)
    refine g_iret (n := 16) rfl (fun h => nomatch h) ?_
    unfold oNew
    repeat (first | rw [if_pos (by first | omega | assumption)] | rw [if_neg (by first | omega | assumption)])
    exact qC_e (by omega) hC cF.rfl'
  ·
    have h1i : 0 ≤ Int32.toInt _ := Int32.le_iff_toInt_le.mp (Int32.not_lt.mp h1)
    refine g_iload_n (n := 5) rfl rfl ?_
    refine g_iconst (n := 6) (v := 1) rfl rfl ?_
    refine g_icle (n := 9) 16 rfl (by decide) (fun h2 => ?_) (fun h2 => ?_)
    ·
      have h2i : Int32.toInt _ ≤ 1 := Int32.le_iff_toInt_le.mp (h2)
      refine g_aload_n (n := 17) rfl rfl ?_
      refine g_getr (n := 20) (ci := 11) (j := 1) (b := (14)) rfl (by decide +kernel) (by decide) (by decide) (by decide +kernel) ?_
      refine g_cv0 (n := 23) (t := 8) (ci := 1) rfl (by decide +kernel) (by decide +kernel) (cf_hd c14) (cf_136 c14) (by decide +kernel) (by rfl) (c_cMany c14 hR) (by omega) (g_E ?_)
      refine g_bipush (n := 25) (v := 9) rfl rfl ?_
      refine g_iclt (n := 28) 35 rfl (by decide) (fun h3 => ?_) (fun h3 => ?_)
      ·
        have hb9 := (b9 hL).mp h3
        refine g_iconst (n := 36) (v := -1) rfl rfl ?_
        refine g_istore_n2 (n := 37) rfl rfl ?_
        refine g_iconst (n := 38) (v := 0) rfl rfl ?_
        refine g_istore_n3 (n := 39) rfl rfl ?_
        refine g_iconst (n := 40) (v := 0) rfl rfl ?_
        refine g_istore4 (n := 42) rfl rfl ?_
        unfold oNew
        rw [if_pos (by omega), if_neg hb9, hFe]
        exact H 24 0 (-1) 0 I (by omega) hC cF.rfl' hFe
      ·
        have hb9 : fBefore d 24 = 9 := Classical.byContradiction (fun q => h3 ((b9 hL).mpr q))
        refine g_aload_n (n := 29) rfl rfl ?_
        refine g_ldc (n := 31) (v := -1000000004) (pl := 435) rfl (by decide +kernel) ?_
        refine g_top (w := -1000000000 - nI 4) (by decide) ?_
        refine g_cv1 (n := 34) (t := 126) (ci := 11) rfl (by decide +kernel) (by decide +kernel) (by decide) (by decide) (by decide +kernel) (by rfl) (c_fail (k := 4) (by omega)) (by omega) (g_E ?_)
        refine g_iret (n := 35) rfl (fun h => nomatch h) ?_
        unfold oNew
        repeat (first | rw [if_pos (by first | omega | assumption)] | rw [if_neg (by first | omega | assumption)])
        exact qC_e (by omega) hC cF.rfl'
    ·
      have h2i : 1 < Int32.toInt _ := Int32.lt_iff_toInt_lt.mp (Int32.not_le.mp h2)
      refine g_aload_n (n := 10) rfl rfl ?_
      refine g_ldc (n := 12) (v := -1000000001) (pl := 419) rfl (by decide +kernel) ?_
      refine g_top (w := -1000000000 - nI 1) (by decide) ?_
      refine g_cv1 (n := 15) (t := 126) (ci := 11) rfl (by decide +kernel) (by decide +kernel) (by decide) (by decide) (by decide +kernel) (by rfl) (c_fail (k := 1) (by omega)) (by omega) (g_E ?_)
      refine g_iret (n := 16) rfl (fun h => nomatch h) ?_
      unfold oNew
      repeat (first | rw [if_pos (by first | omega | assumption)] | rw [if_neg (by first | omega | assumption)])
      exact qC_e (by omega) hC cF.rfl'
