/-! the class: facts, minutes, what would be -/
theorem c_kOrNone0 : True := trivial
theorem c_kOrNone {sc : List Value} {nm : Nat} {I : mg_I} {z : Int32} : SP sc 2 127 [.ref 5, .int z] I nm (qE (if 0 ≤ z then z else -1000000000 - nI 2) (if 0 ≤ z then I else mf_up I 123 2 (I 123 2 + 1)) nm) := by
  refine SP.of (h := 1) (t := 127) (q := (yX11_orNone, cX11_orNone, 2, (some .int), 11, 849, mi_k127)) rfl (by decide) (show ¬ (2 : Nat) < 2 by decide) (fun dd hd => ?_)
  show GG sc 11 false false mi_k127 dd 0 [.ref 5, .int z] [] I nm (qE (if 0 ≤ z then z else -1000000000 - nI 2) (if 0 ≤ z then I else mf_up I 123 2 (I 123 2 + 1)) nm)
  refine g_iload_n (n := 1) rfl rfl ?_
  refine g_ifge (n := 4) 13 rfl (by decide) (fun h1 => ?_) (fun h1 => ?_)
  ·
    have h1i : 0 ≤ Int32.toInt _ := Int32.le_iff_toInt_le.mp (h1)
    refine g_iload_n (n := 14) rfl rfl ?_
    refine g_iret (n := 15) rfl (fun h => nomatch h) ?_
    rw [if_pos h1, if_pos h1]; exact ⟨rfl, rfl, rfl⟩
  ·
    have h1i : Int32.toInt _ < 0 := Int32.lt_iff_toInt_lt.mp (Int32.not_le.mp h1)
    refine g_aload_n (n := 5) rfl rfl ?_
    refine g_ldc (n := 7) (v := -1000000002) (pl := 850) rfl (by decide +kernel) ?_
    refine g_top (w := -1000000000 - nI 2) (by decide) ?_
    refine g_cv1 (n := 10) (t := 126) (ci := 11) rfl (by decide +kernel) (by decide +kernel) (by decide) (by decide) (by decide +kernel) (by rfl) (c_fail (k := 2) (by omega)) (by omega) (g_E ?_)
    refine g_goto 14 rfl (by decide) ?_
    refine g_iret (n := 15) rfl (fun h => nomatch h) ?_
    rw [if_neg h1, if_neg h1]; exact ⟨rfl, rfl, rfl⟩
theorem cF_v {I J : mg_I} {u : Nat} (hu : u < 2) (h : vF (14 + 16 + 7 * u + 3) I J) : cF I J := fun a j x => h a j (by omega) (by omega)
theorem RC_v {I J : mg_I} {u : Nat} {d : Nat → Int32} (hu : u < 2) (hC : RC I d) (h : vF (14 + 16 + 7 * u + 3) I J) : RC J d := ⟨rK_v hu hC.1 h, tW_of (fun a j h1 h2 => h a j (by omega) (by omega)) (fun _ _ => rfl) hC.2.1, aK_cg (fun a j h1 h2 => h a j (by omega) (by omega)) hC.2.2⟩
abbrev w15 (w : Int32) : Prop := w = 0 ∨ w = 1 ∨ w = 2 ∨ w = 3 ∨ w = 4 ∨ w = 5 ∨ w = 6 ∨ w = 7 ∨ w = 8 ∨ w = 9 ∨ w = 10 ∨ w = 11 ∨ w = 13 ∨ w = 14
theorem w15_of {w : Int32} (h : 0 ≤ w.toInt ∧ w.toInt ≤ 14) (h2 : ¬ w = 12) : w15 w := by
  obtain ⟨k, hk, rfl, _⟩ := iR_nI (x := w) (n := 15) ⟨h.1, by omega⟩
  exact (show ∀ k, k < 15 → ¬ nI k = 12 → w15 (nI k) by decide +kernel) k hk h2
theorem w9_of {w : Int32} (h : 5 ≤ w.toInt ∧ w.toInt ≤ 9) : w15 w ∧ (w = 5 ∨ w = 6 ∨ w = 7 ∨ w = 8 ∨ w = 9) := by
  obtain ⟨k, hk, rfl, _⟩ := iR_nI (x := w) (n := 15) ⟨by omega, by omega⟩
  rw [nI_toInt (by omega)] at h
  rcases (show k = 5 ∨ k = 6 ∨ k = 7 ∨ k = 8 ∨ k = 9 by omega) with rfl | rfl | rfl | rfl | rfl <;> decide
theorem fFact_w {d : Nat → Int32} {g : Nat} {w : Int32} (h : 5 ≤ w.toInt ∧ w.toInt ≤ 9) : fFact d g w = fO d g (cl w) := by
  rcases (w9_of h).2 with rfl | rfl | rfl | rfl | rfl
  · exact fFact_5
  · exact fFact_6
  · exact fFact_7
  · exact fFact_8
  · exact fFact_9
theorem c_gFact {sc : List Value} {nm : Nat} {I : mg_I} {B : Nat} {d : Nat → Int32} (hB : isCliff B) (hR : rK I B d) {g : Nat} (hg : g < fN d) {w : Int32} (hw : w15 w) (h8 : fO d g 8 = 0 ∨ fO d g 8 = 1) : SP sc 1 43 [.ref (B + 3 + g), .int w] I nm (qE (fFact d g w) I nm) := by
  refine SP.of (h := 0) (t := 43) (q := (yX4_fact, cX4_fact, 2, (some .int), 4, 567, mi_k43)) rfl (by decide) (show ¬ (2 : Nat) < 2 by decide) (fun dd hd => ?_)
  show GG sc 4 false false mi_k43 dd 0 [.ref (B + 3 + g), .int w] [] I nm (qE (fFact d g w) I nm)
  have hN8 := (rK_N hR).2
  refine g_iload_n (n := 1) rfl rfl ?_
  rcases hw with e | e | e | e | e | e | e | e | e | e | e | e | e | e
  ·
    refine g_top e ?_
    refine g_tab 72 rfl (by decide) (by decide) rfl (by decide) ?_
    refine g_aload_n (n := 73) rfl rfl ?_
    refine g_getv (n := 76) (ci := 4) (j := 1) (v := fO d g 0) (rK_g hR (show g < fN d by omega) (w := 0) (by omega)) rfl (by decide +kernel) rfl (by decide) (cf_gh hB (show g < 8 by omega)) ?_
    refine g_iret (n := 77) rfl (fun h => nomatch h) ?_
    rw [e, fFact_0]; exact ⟨rfl, rfl, rfl⟩
  ·
    refine g_top e ?_
    refine g_tab 77 rfl (by decide) (by decide) rfl (by decide) ?_
    refine g_aload_n (n := 78) rfl rfl ?_
    refine g_getv (n := 81) (ci := 4) (j := 2) (v := fO d g 1) (rK_g hR (show g < fN d by omega) (w := 1) (by omega)) rfl (by decide +kernel) rfl (by decide) (cf_gh hB (show g < 8 by omega)) ?_
    refine g_iret (n := 82) rfl (fun h => nomatch h) ?_
    rw [e, fFact_1]; exact ⟨rfl, rfl, rfl⟩
  ·
    refine g_top e ?_
    refine g_tab 82 rfl (by decide) (by decide) rfl (by decide) ?_
    refine g_aload_n (n := 83) rfl rfl ?_
    refine g_getv (n := 86) (ci := 4) (j := 3) (v := fO d g 2) (rK_g hR (show g < fN d by omega) (w := 2) (by omega)) rfl (by decide +kernel) rfl (by decide) (cf_gh hB (show g < 8 by omega)) ?_
    refine g_iret (n := 87) rfl (fun h => nomatch h) ?_
    rw [e, fFact_2]; exact ⟨rfl, rfl, rfl⟩
  ·
    refine g_top e ?_
    refine g_tab 87 rfl (by decide) (by decide) rfl (by decide) ?_
    refine g_aload_n (n := 88) rfl rfl ?_
    refine g_getv (n := 91) (ci := 4) (j := 4) (v := fO d g 3) (rK_g hR (show g < fN d by omega) (w := 3) (by omega)) rfl (by decide +kernel) rfl (by decide) (cf_gh hB (show g < 8 by omega)) ?_
    refine g_iret (n := 92) rfl (fun h => nomatch h) ?_
    rw [e, fFact_3]; exact ⟨rfl, rfl, rfl⟩
  ·
    refine g_top e ?_
    refine g_tab 92 rfl (by decide) (by decide) rfl (by decide) ?_
    refine g_aload_n (n := 93) rfl rfl ?_
    refine g_getv (n := 96) (ci := 4) (j := 5) (v := fO d g 4) (rK_g hR (show g < fN d by omega) (w := 4) (by omega)) rfl (by decide +kernel) rfl (by decide) (cf_gh hB (show g < 8 by omega)) ?_
    refine g_iret (n := 97) rfl (fun h => nomatch h) ?_
    rw [e, fFact_4]; exact ⟨rfl, rfl, rfl⟩
  ·
    refine g_top e ?_
    refine g_tab 97 rfl (by decide) (by decide) rfl (by decide) ?_
    refine g_aload_n (n := 98) rfl rfl ?_
    refine g_getv (n := 101) (ci := 4) (j := 6) (v := fO d g 5) (rK_g hR (show g < fN d by omega) (w := 5) (by omega)) rfl (by decide +kernel) rfl (by decide) (cf_gh hB (show g < 8 by omega)) ?_
    refine g_iret (n := 102) rfl (fun h => nomatch h) ?_
    rw [e, fFact_5]; exact ⟨rfl, rfl, rfl⟩
  ·
    refine g_top e ?_
    refine g_tab 102 rfl (by decide) (by decide) rfl (by decide) ?_
    refine g_aload_n (n := 103) rfl rfl ?_
    refine g_getv (n := 106) (ci := 4) (j := 7) (v := fO d g 6) (rK_g hR (show g < fN d by omega) (w := 6) (by omega)) rfl (by decide +kernel) rfl (by decide) (cf_gh hB (show g < 8 by omega)) ?_
    refine g_iret (n := 107) rfl (fun h => nomatch h) ?_
    rw [e, fFact_6]; exact ⟨rfl, rfl, rfl⟩
  ·
    refine g_top e ?_
    refine g_tab 107 rfl (by decide) (by decide) rfl (by decide) ?_
    refine g_aload_n (n := 108) rfl rfl ?_
    refine g_getv (n := 111) (ci := 4) (j := 8) (v := fO d g 7) (rK_g hR (show g < fN d by omega) (w := 7) (by omega)) rfl (by decide +kernel) rfl (by decide) (cf_gh hB (show g < 8 by omega)) ?_
    refine g_iret (n := 112) rfl (fun h => nomatch h) ?_
    rw [e, fFact_7]; exact ⟨rfl, rfl, rfl⟩
  ·
    refine g_top e ?_
    refine g_tab 112 rfl (by decide) (by decide) rfl (by decide) ?_
    refine g_aload_n (n := 113) rfl rfl ?_
    refine g_getv (n := 116) (ci := 4) (j := 9) (v := fO d g 8) (rK_g hR (show g < fN d by omega) (w := 8) (by omega)) rfl (by decide +kernel) rfl (by decide) (cf_gh hB (show g < 8 by omega)) ?_
    refine g_ifeq (n := 119) 123 rfl (by decide) (fun h1 => ?_) (fun h1 => ?_)
    ·
      refine g_iconst (n := 124) (v := 0) rfl rfl ?_
      refine g_iret (n := 125) rfl (fun h => nomatch h) ?_
      rw [e, fFact_8, h1]; exact ⟨rfl, rfl, rfl⟩
    ·
      refine g_iconst (n := 120) (v := 1) rfl rfl ?_
      refine g_goto 124 rfl (by decide) ?_
      refine g_iret (n := 125) rfl (fun h => nomatch h) ?_
      rw [e, fFact_8, n1 h8 h1]; exact ⟨rfl, rfl, rfl⟩
  ·
    refine g_top e ?_
    refine g_tab 125 rfl (by decide) (by decide) rfl (by decide) ?_
    refine g_aload_n (n := 126) rfl rfl ?_
    refine g_getv (n := 129) (ci := 4) (j := 10) (v := fO d g 9) (rK_g hR (show g < fN d by omega) (w := 9) (by omega)) rfl (by decide +kernel) rfl (by decide) (cf_gh hB (show g < 8 by omega)) ?_
    refine g_iret (n := 130) rfl (fun h => nomatch h) ?_
    rw [e, fFact_9]; exact ⟨rfl, rfl, rfl⟩
  ·
    refine g_top e ?_
    refine g_tab 130 rfl (by decide) (by decide) rfl (by decide) ?_
    refine g_aload_n (n := 131) rfl rfl ?_
    refine g_getv (n := 134) (ci := 4) (j := 12) (v := fPace (fO d g 0) (fO d g 1)) (rK_p12 hR (show g < fN d by omega)) rfl (by decide +kernel) rfl (by decide) (cf_gh hB (show g < 8 by omega)) ?_
    refine g_iret (n := 135) rfl (fun h => nomatch h) ?_
    rw [e, fFact_10]; exact ⟨rfl, rfl, rfl⟩
  ·
    refine g_top e ?_
    refine g_tab 135 rfl (by decide) (by decide) rfl (by decide) ?_
    refine g_aload_n (n := 136) rfl rfl ?_
    refine g_getv (n := 139) (ci := 4) (j := 13) (v := fLoad (fO d g 0) (fO d g 1)) (rK_p13 hR (show g < fN d by omega)) rfl (by decide +kernel) rfl (by decide) (cf_gh hB (show g < 8 by omega)) ?_
    refine g_iret (n := 140) rfl (fun h => nomatch h) ?_
    rw [e, fFact_11]; exact ⟨rfl, rfl, rfl⟩
  ·
    refine g_top e ?_
    refine g_tab 140 rfl (by decide) (by decide) rfl (by decide) ?_
    refine g_aload_n (n := 141) rfl rfl ?_
    refine g_getv (n := 144) (ci := 4) (j := 14) (v := fBack (fO d g 0) (fO d g 1)) (rK_p14 hR (show g < fN d by omega)) rfl (by decide +kernel) rfl (by decide) (cf_gh hB (show g < 8 by omega)) ?_
    refine g_ifeq (n := 147) 151 rfl (by decide) (fun h2 => ?_) (fun h2 => ?_)
    ·
      refine g_iconst (n := 152) (v := 0) rfl rfl ?_
      refine g_iret (n := 153) rfl (fun h => nomatch h) ?_
      rw [e, fFact_13, h2]; exact ⟨rfl, rfl, rfl⟩
    ·
      refine g_iconst (n := 148) (v := 1) rfl rfl ?_
      refine g_goto 152 rfl (by decide) ?_
      refine g_iret (n := 153) rfl (fun h => nomatch h) ?_
      rw [e, fFact_13, n1 fBack_01 h2]; exact ⟨rfl, rfl, rfl⟩
  ·
    refine g_top e ?_
    refine g_tabo 153 rfl (by decide) (by decide) ?_
    refine g_aload_n (n := 154) rfl rfl ?_
    refine g_getv (n := 157) (ci := 4) (j := 15) (v := fHears (fO d g 0)) (rK_p15 hR (show g < fN d by omega)) rfl (by decide +kernel) rfl (by decide) (cf_gh hB (show g < 8 by omega)) ?_
    refine g_ifeq (n := 160) 164 rfl (by decide) (fun h3 => ?_) (fun h3 => ?_)
    ·
      refine g_iconst (n := 165) (v := 0) rfl rfl ?_
      refine g_iret (n := 166) rfl (fun h => nomatch h) ?_
      rw [e, fFact_14, h3]; exact ⟨rfl, rfl, rfl⟩
    ·
      refine g_iconst (n := 161) (v := 1) rfl rfl ?_
      refine g_goto 165 rfl (by decide) ?_
      refine g_iret (n := 166) rfl (fun h => nomatch h) ?_
      rw [e, fFact_14, n1 fHears_01 h3]; exact ⟨rfl, rfl, rfl⟩
theorem c_kOfGoer {sc : List Value} {nm : Nat} {I : mg_I} {d : Nat → Int32} (hC : RC I d) (hw : gW d) {g w : Int32} : SP sc 6 94 [.ref 5, .int g, .int w] I nm (qC I (oOfGoer d g w) nm) := by
  refine SP.of (h := 5) (t := 94) (q := (yX11_ofGoer, cX11_ofGoer, 3, (some .int), 11, 528, mi_k94)) rfl (by decide) (show ¬ (3 : Nat) < 3 by decide) (fun dd hd => ?_)
  show GG sc 11 false false mi_k94 dd 0 [.ref 5, .int g, .int w] [] I nm (qC I (oOfGoer d g w) nm)
  have hR := hC.1
  have hN8 := (rK_N hR).2
  refine g_aload_n (n := 1) rfl rfl ?_
  refine g_iload_n (n := 2) rfl rfl ?_
  refine g_cv1 (n := 5) (t := 128) (ci := 11) rfl (by decide +kernel) (by decide +kernel) (by decide) (by decide) (by decide +kernel) (by rfl) (c_kGoer hR) (by omega) (g_E ?_)
  refine g_split (fun h1 => ?_) (fun h1 => ?_)
  ·
    refine g_ifeq1 (n := 8) 18 rfl (by decide) ?_
    refine g_iload_n (n := 9) rfl rfl ?_
    refine g_iflt (n := 12) 18 rfl (by decide) (fun h2 => ?_) (fun h2 => ?_)
    ·
      have h2i : Int32.toInt _ < 0 := Int32.lt_iff_toInt_lt.mp (h2)
      refine g_aload_n (n := 19) rfl rfl ?_
      refine g_ldc (n := 21) (v := -1000000001) (pl := 419) rfl (by decide +kernel) ?_
      refine g_top (w := -1000000000 - nI 1) (by decide) ?_
      refine g_cv1 (n := 24) (t := 126) (ci := 11) rfl (by decide +kernel) (by decide +kernel) (by decide) (by decide) (by decide +kernel) (by rfl) (c_fail (k := 1) (by omega)) (by omega) (g_E ?_)
      refine g_iret (n := 25) rfl (fun h => nomatch h) ?_
      unfold oOfGoer
      repeat (first | rw [if_pos (by first | omega | assumption)] | rw [if_neg (by first | omega | assumption)])
      exact qC_e (by omega) hC cF.rfl'
    ·
      have h2i : 0 ≤ Int32.toInt _ := Int32.le_iff_toInt_le.mp (Int32.not_lt.mp h2)
      refine g_iload_n (n := 13) rfl rfl ?_
      refine g_bipush (n := 15) (v := 14) rfl rfl ?_
      refine g_icle (n := 18) 25 rfl (by decide) (fun h3 => ?_) (fun h3 => ?_)
      ·
        have h3i : Int32.toInt _ ≤ 14 := Int32.le_iff_toInt_le.mp (h3)
        obtain ⟨gg, hgg, rfl, hcgg⟩ := iR_nI (x := g) (n := (fN d)) ⟨by omega, by omega⟩
        have hdgg : cl (nI gg) = gg := hcgg
        refine g_iload_n (n := 26) rfl rfl ?_
        refine g_bipush (n := 28) (v := 12) rfl rfl ?_
        refine g_icne (n := 31) 50 rfl (by decide) (fun h4 => ?_) (fun h4 => ?_)
        ·
          refine g_aload_n (n := 51) rfl rfl ?_
          refine g_getr (n := 54) (ci := 11) (j := 1) (b := (14)) rfl (by decide +kernel) (by decide) (by decide) (by decide +kernel) ?_
          refine g_getr (n := 57) (ci := 1) (j := 1) (b := ((14) + 2)) rfl (by decide +kernel) (cf_hd c14) (cf_lt c14 (by decide)) (cf_r1 c14) ?_
          refine g_iload_n (n := 58) rfl rfl ?_
          refine g_aald (n := 59) (b := ((14) + 3 + gg)) (gg) rfl (cf_2a c14) (cf_2h c14) rfl (cf_2x c14 (by omega)) (cf_2r c14 (by omega)) ?_
          refine g_iload_n (n := 60) rfl rfl ?_
          refine g_cv1 (n := 63) (t := 43) (ci := 4) rfl (by decide +kernel) (by decide +kernel) (cf_gh c14 (by omega)) (cf_g1 c14 (by omega)) (by decide +kernel) (by rfl) (c_gFact c14 hR (g := gg) (by omega) (w15_of ⟨by omega, by omega⟩ (by assumption)) (hw.2.1 gg (by omega))) (by omega) (g_E ?_)
          refine g_iret (n := 64) rfl (fun h => nomatch h) ?_
          unfold oOfGoer
          repeat (first | rw [if_pos (by first | omega | assumption)] | rw [if_neg (by first | omega | assumption)])
          rw [hdgg]; exact qC_v hC cF.rfl'
        ·
          refine g_aload_n (n := 32) rfl rfl ?_
          refine g_getr (n := 35) (ci := 11) (j := 1) (b := (14)) rfl (by decide +kernel) (by decide) (by decide) (by decide +kernel) ?_
          refine g_aload_n (n := 36) rfl rfl ?_
          refine g_getr (n := 39) (ci := 11) (j := 1) (b := (14)) rfl (by decide +kernel) (by decide) (by decide) (by decide +kernel) ?_
          refine g_getr (n := 42) (ci := 1) (j := 1) (b := ((14) + 2)) rfl (by decide +kernel) (cf_hd c14) (cf_lt c14 (by decide)) (cf_r1 c14) ?_
          refine g_iload_n (n := 43) rfl rfl ?_
          refine g_aald (n := 44) (b := ((14) + 3 + gg)) (gg) rfl (cf_2a c14) (cf_2h c14) rfl (cf_2x c14 (by omega)) (cf_2r c14 (by omega)) ?_
          refine g_cv1 (n := 47) (t := 15) (ci := 1) rfl (by decide +kernel) (by decide +kernel) (cf_hd c14) (cf_136 c14) (by decide +kernel) (by rfl) (c_cRank c14 hR (g := gg) hgg) (by omega) (g_VT fun I2 hv => ?_)
          refine g_goto 63 rfl (by decide) ?_
          refine g_iret (n := 64) rfl (fun h => nomatch h) ?_
          unfold oOfGoer
          repeat (first | rw [if_pos (by first | omega | assumption)] | rw [if_neg (by first | omega | assumption)])
          rw [hdgg, h4, fFact_12]; exact qC_v (RC_v (u := 0) (by omega) hC hv) (cF_v (u := 0) (by omega) hv)
      ·
        have h3i : 14 < Int32.toInt _ := Int32.lt_iff_toInt_lt.mp (Int32.not_le.mp h3)
        refine g_aload_n (n := 19) rfl rfl ?_
        refine g_ldc (n := 21) (v := -1000000001) (pl := 419) rfl (by decide +kernel) ?_
        refine g_top (w := -1000000000 - nI 1) (by decide) ?_
        refine g_cv1 (n := 24) (t := 126) (ci := 11) rfl (by decide +kernel) (by decide +kernel) (by decide) (by decide) (by decide +kernel) (by rfl) (c_fail (k := 1) (by omega)) (by omega) (g_E ?_)
        refine g_iret (n := 25) rfl (fun h => nomatch h) ?_
        unfold oOfGoer
        repeat (first | rw [if_pos (by first | omega | assumption)] | rw [if_neg (by first | omega | assumption)])
        exact qC_e (by omega) hC cF.rfl'
  ·
    refine g_ifeq0 (n := 8) 18 rfl (by decide) ?_
    refine g_aload_n (n := 19) rfl rfl ?_
    refine g_ldc (n := 21) (v := -1000000001) (pl := 419) rfl (by decide +kernel) ?_
    refine g_top (w := -1000000000 - nI 1) (by decide) ?_
    refine g_cv1 (n := 24) (t := 126) (ci := 11) rfl (by decide +kernel) (by decide +kernel) (by decide) (by decide) (by decide +kernel) (by rfl) (c_fail (k := 1) (by omega)) (by omega) (g_E ?_)
    refine g_iret (n := 25) rfl (fun h => nomatch h) ?_
    unfold oOfGoer
    repeat (first | rw [if_pos (by first | omega | assumption)] | rw [if_neg (by first | omega | assumption)])
    exact qC_e (by omega) hC cF.rfl'
theorem c_kLaw {sc : List Value} {nm : Nat} {I : mg_I} {d : Nat → Int32} (hC : RC I d) {u a b c : Int32} : SP sc 6 101 [.ref 5, .int u, .int a, .int b, .int c] I nm (qC I (oLaw d u a b c) nm) := by
  refine SP.of (h := 5) (t := 101) (q := (yX11_law, cX11_law, 5, (some .int), 11, 742, mi_k101)) rfl (by decide) (show ¬ (5 : Nat) < 5 by decide) (fun dd hd => ?_)
  show GG sc 11 false false mi_k101 dd 0 [.ref 5, .int u, .int a, .int b, .int c] [] I nm (qC I (oLaw d u a b c) nm)
  have hR := hC.1
  have hN8 := (rK_N hR).2
  refine g_iload_n (n := 1) rfl rfl ?_
  refine g_cs1 (n := 4) (t := 134) (x := (601, 602, 71)) rfl (by decide +kernel) (by decide +kernel) (by rfl) c_kUse (by omega) (g_E ?_)
  refine g_split (fun h1 => ?_) (fun h1 => ?_)
  ·
    refine g_ifeq1 (n := 7) 26 rfl (by decide) ?_
    obtain ⟨uu, huu, rfl, hcu⟩ := iR_nI (x := u) (n := 2) ⟨by omega, by omega⟩
    have hduu : cl (nI uu) = uu := hcu
    refine g_aload_n (n := 8) rfl rfl ?_
    refine g_getr (n := 11) (ci := 11) (j := 1) (b := (14)) rfl (by decide +kernel) (by decide) (by decide) (by decide +kernel) ?_
    refine g_getr (n := 14) (ci := 1) (j := 9) (b := ((14) + 15)) rfl (by decide +kernel) (cf_hd c14) (cf_lt c14 (by decide)) (cf_r9 c14) ?_
    refine g_iload_n (n := 15) rfl rfl ?_
    refine g_aald (n := 16) (b := ((14) + 16 + 7 * uu)) (uu) rfl (cf_15a c14) (cf_15h c14) rfl (cf_15x c14 (by omega)) (cf_15r c14 (by omega)) ?_
    refine g_iload_n (n := 17) rfl rfl ?_
    refine g_iload_n (n := 18) rfl rfl ?_
    refine g_iload (n := 20) rfl rfl ?_
    refine g_cv3 (n := 23) (t := 67) (ci := 8) rfl (by decide +kernel) (by decide +kernel) (tx_hd (cf_x c14 (u := uu) (by omega))) (tx_136 (cf_x c14 (u := uu) (by omega))) (by decide +kernel) (by rfl) (c_cText c14 hR (u := uu) (by omega)) (by omega) (g_VT fun I2 hv => ?_)
    refine g_goto 32 rfl (by decide) ?_
    refine g_iret (n := 33) rfl (fun h => nomatch h) ?_
    unfold oLaw
    repeat (first | rw [if_pos (by first | omega | assumption)] | rw [if_neg (by first | omega | assumption)])
    rw [hduu]; exact qC_v (RC_v (by omega) hC hv) (cF_v (by omega) hv)
  ·
    refine g_ifeq0 (n := 7) 26 rfl (by decide) ?_
    refine g_aload_n (n := 27) rfl rfl ?_
    refine g_ldc (n := 29) (v := -1000000001) (pl := 419) rfl (by decide +kernel) ?_
    refine g_top (w := -1000000000 - nI 1) (by decide) ?_
    refine g_cv1 (n := 32) (t := 126) (ci := 11) rfl (by decide +kernel) (by decide +kernel) (by decide) (by decide) (by decide +kernel) (by rfl) (c_fail (k := 1) (by omega)) (by omega) (g_E ?_)
    refine g_iret (n := 33) rfl (fun h => nomatch h) ?_
    unfold oLaw
    repeat (first | rw [if_pos (by first | omega | assumption)] | rw [if_neg (by first | omega | assumption)])
    exact qC_e (by omega) hC cF.rfl'
def eM (d : Nat → Int32) (n : Int32) : Nat := if 1 ≤ n.toInt ∧ n.toInt ≤ 300 then (if d 1 + n ≤ 9999 then 0 else 3) else 1
theorem eM_lt {d : Nat → Int32} {n : Int32} : eM d n < 6 := by
  unfold eM
  split
  · split <;> omega
  · omega
theorem eM_0 {d : Nat → Int32} {n : Int32} (h : eM d n = 0) : (1 ≤ n.toInt ∧ n.toInt ≤ 300) ∧ d 1 + n ≤ 9999 := by
  unfold eM at h
  split at h
  · split at h
    · exact ⟨by assumption, by assumption⟩
    · omega
  · omega
theorem oPass_e {d : Nat → Int32} {n dr : Int32} (h : ¬ eM d n = 0) : oPass d n dr = fE d (eM d n) := by
  unfold oPass eM at *
  by_cases h1 : 1 ≤ n.toInt ∧ n.toInt ≤ 300
  · rw [if_pos h1] at h ⊢
    rw [if_pos h1]
    by_cases h2 : d 1 + n ≤ 9999
    · rw [if_pos h2] at h; exact absurd rfl h
    · rw [if_neg h2, if_neg h2]
  · rw [if_neg h1, if_neg h1]
theorem oPass_v {d : Nat → Int32} {n dr : Int32} (h : eM d n = 0) : oPass d n dr = (0, fMany (fPs dr (cl n) d) 2, fPs dr (cl n) d) := by
  unfold oPass
  rw [if_pos (eM_0 h).1, if_pos (eM_0 h).2]
theorem c_kRefM {sc : List Value} {nm : Nat} {I : mg_I} {d : Nat → Int32} (hR : rK I 14 d) {n : Int32} : SP sc 1 129 [.ref 5, .int n] I nm (qE (vRef (eM d n)) I nm) := by
  refine SP.of (h := 0) (t := 129) (q := (yX11_refusesMinutes, cX11_refusesMinutes, 2, (some .int), 11, 751, mi_k129)) rfl (by decide) (show ¬ (2 : Nat) < 2 by decide) (fun dd hd => ?_)
  show GG sc 11 false false mi_k129 dd 0 [.ref 5, .int n] [] I nm (qE (vRef (eM d n)) I nm)
  refine g_iload_n (n := 1) rfl rfl ?_
  refine g_iconst (n := 2) (v := 1) rfl rfl ?_
  refine g_iclt (n := 5) 12 rfl (by decide) (fun h1 => ?_) (fun h1 => ?_)
  ·
    have h1i : Int32.toInt _ < 1 := Int32.lt_iff_toInt_lt.mp (h1)
    refine g_ldc (n := 14) (v := -1000000001) (pl := 419) rfl (by decide +kernel) ?_
    refine g_iret (n := 15) rfl (fun h => nomatch h) ?_
    unfold eM
    repeat (first | rw [if_pos (by first | omega | assumption)] | rw [if_neg (by first | omega | assumption)])
    rw [vRef_1]; exact ⟨rfl, rfl, rfl⟩
  ·
    have h1i : 1 ≤ Int32.toInt _ := Int32.le_iff_toInt_le.mp (Int32.not_lt.mp h1)
    refine g_iload_n (n := 6) rfl rfl ?_
    refine g_sipush (n := 9) (v := 300) rfl rfl ?_
    refine g_icle (n := 12) 15 rfl (by decide) (fun h2 => ?_) (fun h2 => ?_)
    ·
      have h2i : Int32.toInt _ ≤ 300 := Int32.le_iff_toInt_le.mp (h2)
      refine g_aload_n (n := 16) rfl rfl ?_
      refine g_getr (n := 19) (ci := 11) (j := 1) (b := (14)) rfl (by decide +kernel) (by decide) (by decide) (by decide +kernel) ?_
      refine g_getv (n := 22) (ci := 1) (j := 3) (v := d 1) (rK_n hR (j := 1) (by omega)) rfl (by decide +kernel) rfl (by decide) (cf_hd c14) ?_
      refine g_iload_n (n := 23) rfl rfl ?_
      refine g_iadd (n := 24) rfl ?_
      refine g_sipush (n := 27) (v := 9999) rfl rfl ?_
      refine g_icle (n := 30) 35 rfl (by decide) (fun h3 => ?_) (fun h3 => ?_)
      ·
        have h3i : Int32.toInt _ ≤ 9999 := Int32.le_iff_toInt_le.mp (h3)
        refine g_iconst (n := 36) (v := 0) rfl rfl ?_
        refine g_iret (n := 37) rfl (fun h => nomatch h) ?_
        unfold eM
        repeat (first | rw [if_pos (by first | omega | assumption)] | rw [if_neg (by first | omega | assumption)])
        exact ⟨rfl, rfl, rfl⟩
      ·
        have h3i : 9999 < Int32.toInt _ := Int32.lt_iff_toInt_lt.mp (Int32.not_le.mp h3)
        refine g_ldc (n := 32) (v := -1000000003) (pl := 586) rfl (by decide +kernel) ?_
        refine g_goto 36 rfl (by decide) ?_
        refine g_iret (n := 37) rfl (fun h => nomatch h) ?_
        unfold eM
        repeat (first | rw [if_pos (by first | omega | assumption)] | rw [if_neg (by first | omega | assumption)])
        rw [vRef_3]; exact ⟨rfl, rfl, rfl⟩
    ·
      have h2i : 300 < Int32.toInt _ := Int32.lt_iff_toInt_lt.mp (Int32.not_le.mp h2)
      refine g_ldc (n := 14) (v := -1000000001) (pl := 419) rfl (by decide +kernel) ?_
      refine g_iret (n := 15) rfl (fun h => nomatch h) ?_
      unfold eM
      repeat (first | rw [if_pos (by first | omega | assumption)] | rw [if_neg (by first | omega | assumption)])
      rw [vRef_1]; exact ⟨rfl, rfl, rfl⟩
theorem c_kMinutes {sc : List Value} {nm : Nat} {I : mg_I} {d : Nat → Int32} (hC : RC I d) (hw : gW d) (hv : gV d) {n : Int32} : SP sc 12 102 [.ref 5, .int n] I nm (qC I (oPass d n 0) nm) := by
  refine SP.of (h := 11) (t := 102) (q := (yX11_minutes, cX11_minutes, 4, (some .int), 11, 747, mi_k102)) rfl (by decide) (show ¬ (4 : Nat) < 2 by decide) (fun dd hd => ?_)
  show GG sc 11 false false mi_k102 dd 0 [.ref 5, .int n, .null, .null] [] I nm (qC I (oPass d n 0) nm)
  have hR := hC.1
  have hN8 := (rK_N hR).2
  have HH : ∀ nn, nn < 301 → ∀ x2 dF, fPs 0 nn d = dF → GG sc 11 false false mi_k102 dd 18 [.ref 5, .int (nI nn), .int x2, .int 0] [] I nm (qC I (0, fMany dF 2, dF) nm) := by
    intro nn hnn x2 dF hdF
    have H : ∀ (m k : Nat) (dk : Nat → Int32) (J : mg_I), k + m = nn → rK J 14 dk → gW dk → gV dk → bF 14 I J → fPs 0 m dk = dF → (∀ j, j = 6 ∨ j = 7 ∨ 116 ≤ j → dk j = d j) → GG sc 11 false false mi_k102 dd 18 [.ref 5, .int (nI nn), .int x2, .int (nI k)] [] J nm (qC I (0, fMany dF 2, dF) nm) := by
      intro m
      induction m with
      | zero =>
        intro k dk J hk hR hw hv hF hf hj
        refine g_iload_n (n := 19) rfl rfl ?_
        refine g_iload_n (n := 20) rfl rfl ?_
        refine g_icge (n := 23) 38 rfl (by decide) (fun h1 => ?_) (fun h1 => ?_)
        ·
          refine g_aload_n (n := 39) rfl rfl ?_
          refine g_getr (n := 42) (ci := 11) (j := 1) (b := (14)) rfl (by decide +kernel) (by decide) (by decide) (by decide +kernel) ?_
          refine g_iconst (n := 43) (v := 2) rfl rfl ?_
          refine g_cv1 (n := 46) (t := 13) (ci := 1) rfl (by decide +kernel) (by decide +kernel) (cf_hd c14) (cf_136 c14) (by decide +kernel) (by rfl) (c_cHow c14 hR) (by omega) (g_E ?_)
          refine g_iret (n := 47) rfl (fun h => nomatch h) ?_
          rw [show dk = dF from hf]; rw [show dk = dF from hf] at hR hj; exact qC_v (RC_n hC hR hF hj) (cF_14 hF)
        ·
          exact absurd (fN_nle rfl (by omega) (by omega) h1) (by omega)
      | succ m ih =>
        intro k dk J hk hR hw hv hF hf hj
        refine g_iload_n (n := 19) rfl rfl ?_
        refine g_iload_n (n := 20) rfl rfl ?_
        refine g_icge (n := 23) 38 rfl (by decide) (fun h1 => ?_) (fun h1 => ?_)
        ·
          exact absurd (fN_le rfl (by omega) (by omega) h1) (by omega)
        ·
          refine g_aload_n (n := 24) rfl rfl ?_
          refine g_getr (n := 27) (ci := 11) (j := 1) (b := (14)) rfl (by decide +kernel) (by decide) (by decide) (by decide +kernel) ?_
          refine g_iconst (n := 28) (v := 0) rfl rfl ?_
          refine g_cv1 (n := 31) (t := 17) (ci := 1) rfl (by decide +kernel) (by decide +kernel) (cf_hd c14) (cf_136 c14) (by decide +kernel) (by rfl) (c_pass c14 hR (fog := 0) hw hv) (by omega) (g_RB fun I2 hR2 hF2 => ?_)
          refine g_popi (n := 32) rfl ?_
          refine g_iinc3 (n := 35) rfl rfl (nI_inc _) ?_
          refine g_goto 18 rfl (by decide) ?_
          exact ih (k + 1) (fMin dk 0) I2 (by omega) hR2 (gW_min hw) (gV_min hw hv) (hF.trans hF2) (by rw [← hf, fPs, if_pos rfl]) (fun j hj2 => (fMin_hi hw (by omega)).trans (hj j hj2))
    exact H nn 0 d I (by omega) hR hw hv bF.rfl' hdF (fun _ _ => rfl)
  refine g_aload_n (n := 1) rfl rfl ?_
  refine g_iload_n (n := 2) rfl rfl ?_
  refine g_cv1 (n := 5) (t := 129) (ci := 11) rfl (by decide +kernel) (by decide +kernel) (by decide) (by decide) (by decide +kernel) (by rfl) (c_kRefM hR) (by omega) (g_E ?_)
  refine g_istore_n2 (n := 6) rfl rfl ?_
  refine g_iload_n (n := 7) rfl rfl ?_
  refine g_ifeq (n := 10) 16 rfl (by decide) (fun h1 => ?_) (fun h1 => ?_)
  ·
    have h0 : eM d n = 0 := vRef_00 eM_lt h1
    have h00 := eM_0 h0
    rw [oPass_v h0]
    generalize vRef (eM d n) = x2
    obtain ⟨nn, hnn, rfl, hcn⟩ := iR_nI (x := n) (n := 301) ⟨by omega, by omega⟩
    have hdnn : cl (nI nn) = nn := hcn
    rw [hdnn]
    refine g_iconst (n := 17) (v := 0) rfl rfl ?_
    refine g_istore_n3 (n := 18) rfl rfl ?_
    exact HH nn hnn x2 _ rfl
  ·
    have h0 : ¬ eM d n = 0 := fun q => h1 (by rw [q]; rfl)
    rw [oPass_e h0]
    refine g_aload_n (n := 11) rfl rfl ?_
    refine g_iload_n (n := 12) rfl rfl ?_
    refine g_top (w := -1000000000 - nI (eM d n)) (if_neg h0) ?_
    refine g_cv1 (n := 15) (t := 126) (ci := 11) rfl (by decide +kernel) (by decide +kernel) (by decide) (by decide) (by decide +kernel) (by rfl) (c_fail (k := eM d n) ⟨by omega, eM_lt⟩) (by omega) (g_E ?_)
    refine g_iret (n := 16) rfl (fun h => nomatch h) ?_
    exact qC_e (by omega) hC cF.rfl'
theorem c_kLoose {sc : List Value} {nm : Nat} {I : mg_I} {d : Nat → Int32} (hC : RC I d) (hw : gW d) (hv : gV d) {n : Int32} : SP sc 12 103 [.ref 5, .int n] I nm (qC I (oPass d n 1) nm) := by
  refine SP.of (h := 11) (t := 103) (q := (yX11_loose, cX11_loose, 4, (some .int), 11, 807, mi_k103)) rfl (by decide) (show ¬ (4 : Nat) < 2 by decide) (fun dd hd => ?_)
  show GG sc 11 false false mi_k103 dd 0 [.ref 5, .int n, .null, .null] [] I nm (qC I (oPass d n 1) nm)
  have hR := hC.1
  have hN8 := (rK_N hR).2
  have HH : ∀ nn, nn < 301 → ∀ x2 dF, fPs 1 nn d = dF → GG sc 11 false false mi_k103 dd 18 [.ref 5, .int (nI nn), .int x2, .int 0] [] I nm (qC I (0, fMany dF 2, dF) nm) := by
    intro nn hnn x2 dF hdF
    have H : ∀ (m k : Nat) (dk : Nat → Int32) (J : mg_I), k + m = nn → rK J 14 dk → gW dk → gV dk → bF 14 I J → fPs 1 m dk = dF → (∀ j, j = 6 ∨ j = 7 ∨ 116 ≤ j → dk j = d j) → GG sc 11 false false mi_k103 dd 18 [.ref 5, .int (nI nn), .int x2, .int (nI k)] [] J nm (qC I (0, fMany dF 2, dF) nm) := by
      intro m
      induction m with
      | zero =>
        intro k dk J hk hR hw hv hF hf hj
        refine g_iload_n (n := 19) rfl rfl ?_
        refine g_iload_n (n := 20) rfl rfl ?_
        refine g_icge (n := 23) 54 rfl (by decide) (fun h1 => ?_) (fun h1 => ?_)
        ·
          refine g_aload_n (n := 55) rfl rfl ?_
          refine g_getr (n := 58) (ci := 11) (j := 1) (b := (14)) rfl (by decide +kernel) (by decide) (by decide) (by decide +kernel) ?_
          refine g_iconst (n := 59) (v := 2) rfl rfl ?_
          refine g_cv1 (n := 62) (t := 13) (ci := 1) rfl (by decide +kernel) (by decide +kernel) (cf_hd c14) (cf_136 c14) (by decide +kernel) (by rfl) (c_cHow c14 hR) (by omega) (g_E ?_)
          refine g_iret (n := 63) rfl (fun h => nomatch h) ?_
          rw [show dk = dF from hf]; rw [show dk = dF from hf] at hR hj; exact qC_v (RC_n hC hR hF hj) (cF_14 hF)
        ·
          exact absurd (fN_nle rfl (by omega) (by omega) h1) (by omega)
      | succ m ih =>
        intro k dk J hk hR hw hv hF hf hj
        have hf : fPs 1 m (fMin (fDraw dk) (fFog (fDraw dk 4))) = dF := by rw [← hf, fPs, if_neg (by decide)]
        refine g_iload_n (n := 19) rfl rfl ?_
        refine g_iload_n (n := 20) rfl rfl ?_
        refine g_icge (n := 23) 54 rfl (by decide) (fun h1 => ?_) (fun h1 => ?_)
        ·
          exact absurd (fN_le rfl (by omega) (by omega) h1) (by omega)
        ·
          refine g_aload_n (n := 24) rfl rfl ?_
          refine g_getr (n := 27) (ci := 11) (j := 1) (b := (14)) rfl (by decide +kernel) (by decide) (by decide) (by decide +kernel) ?_
          refine g_aload_n (n := 28) rfl rfl ?_
          refine g_getr (n := 31) (ci := 11) (j := 1) (b := (14)) rfl (by decide +kernel) (by decide) (by decide) (by decide +kernel) ?_
          refine g_cv0 (n := 34) (t := 16) (ci := 1) rfl (by decide +kernel) (by decide +kernel) (cf_hd c14) (cf_136 c14) (by decide +kernel) (by rfl) (c_cDraw c14 hR) (by omega) (g_E ?_)
          have hR1 : rK (mf_up J 14 6 (dk 4 * 1103515245 + 12345)) 14 (fDraw dk) := rK_num (q := 4) hR (by omega)
          have hwd : gW (fDraw dk) := gW_up hw (by omega)
          have hvd : gV (fDraw dk) := gV_up hv (by omega)
          refine g_iconst (n := 35) (v := 4) rfl rfl ?_
          refine g_irem (n := 36) rfl (by first | decide | assumption) ?_
          refine g_ifne (n := 39) 43 rfl (by decide) (fun h2 => ?_) (fun h2 => ?_)
          ·
            have hfg : fFog (fDraw dk 4) = 0 := bI_f h2
            rw [hfg] at hf
            refine g_iconst (n := 44) (v := 0) rfl rfl ?_
            refine g_cv1 (n := 47) (t := 17) (ci := 1) rfl (by decide +kernel) (by decide +kernel) (cf_hd c14) (cf_136 c14) (by decide +kernel) (by rfl) (c_pass c14 hR1 (fog := 0) hwd hvd) (by omega) (g_RB fun I2 hR2 hF2 => ?_)
            refine g_popi (n := 48) rfl ?_
            refine g_iinc3 (n := 51) rfl rfl (nI_inc _) ?_
            refine g_goto 18 rfl (by decide) ?_
            exact ih (k + 1) (fMin (fDraw dk) 0) I2 (by omega) hR2 (gW_min hwd) (gV_min hwd hvd) ((bF_b hF).trans hF2) hf (fun j hj2 => (fMin_hi hwd (by omega)).trans ((up_ne (by omega)).trans (hj j hj2)))
          ·
            have hfg : fFog (fDraw dk 4) = 1 := bI_t h2
            rw [hfg] at hf
            refine g_iconst (n := 40) (v := 1) rfl rfl ?_
            refine g_goto 44 rfl (by decide) ?_
            refine g_cv1 (n := 47) (t := 17) (ci := 1) rfl (by decide +kernel) (by decide +kernel) (cf_hd c14) (cf_136 c14) (by decide +kernel) (by rfl) (c_pass c14 hR1 (fog := 1) hwd hvd) (by omega) (g_RB fun I2 hR2 hF2 => ?_)
            refine g_popi (n := 48) rfl ?_
            refine g_iinc3 (n := 51) rfl rfl (nI_inc _) ?_
            refine g_goto 18 rfl (by decide) ?_
            exact ih (k + 1) (fMin (fDraw dk) 1) I2 (by omega) hR2 (gW_min hwd) (gV_min hwd hvd) ((bF_b hF).trans hF2) hf (fun j hj2 => (fMin_hi hwd (by omega)).trans ((up_ne (by omega)).trans (hj j hj2)))
    exact H nn 0 d I (by omega) hR hw hv bF.rfl' hdF (fun _ _ => rfl)
  refine g_aload_n (n := 1) rfl rfl ?_
  refine g_iload_n (n := 2) rfl rfl ?_
  refine g_cv1 (n := 5) (t := 129) (ci := 11) rfl (by decide +kernel) (by decide +kernel) (by decide) (by decide) (by decide +kernel) (by rfl) (c_kRefM hR) (by omega) (g_E ?_)
  refine g_istore_n2 (n := 6) rfl rfl ?_
  refine g_iload_n (n := 7) rfl rfl ?_
  refine g_ifeq (n := 10) 16 rfl (by decide) (fun h1 => ?_) (fun h1 => ?_)
  ·
    have h0 : eM d n = 0 := vRef_00 eM_lt h1
    have h00 := eM_0 h0
    rw [oPass_v h0]
    generalize vRef (eM d n) = x2
    obtain ⟨nn, hnn, rfl, hcn⟩ := iR_nI (x := n) (n := 301) ⟨by omega, by omega⟩
    have hdnn : cl (nI nn) = nn := hcn
    rw [hdnn]
    refine g_iconst (n := 17) (v := 0) rfl rfl ?_
    refine g_istore_n3 (n := 18) rfl rfl ?_
    exact HH nn hnn x2 _ rfl
  ·
    have h0 : ¬ eM d n = 0 := fun q => h1 (by rw [q]; rfl)
    rw [oPass_e h0]
    refine g_aload_n (n := 11) rfl rfl ?_
    refine g_iload_n (n := 12) rfl rfl ?_
    refine g_top (w := -1000000000 - nI (eM d n)) (if_neg h0) ?_
    refine g_cv1 (n := 15) (t := 126) (ci := 11) rfl (by decide +kernel) (by decide +kernel) (by decide) (by decide) (by decide +kernel) (by rfl) (c_fail (k := eM d n) ⟨by omega, eM_lt⟩) (by omega) (g_E ?_)
    refine g_iret (n := 16) rfl (fun h => nomatch h) ?_
    exact qC_e (by omega) hC cF.rfl'
theorem c_kOverBy {sc : List Value} {nm : Nat} {I : mg_I} {d : Nat → Int32} (hC : RC I d) (hw : gW d) (hv : gV d) (hm1 : iR (d 1) 10000) : SP sc 12 105 [.ref 5] I nm (qC I (oOverBy d) nm) := by
  refine SP.of (h := 11) (t := 105) (q := (yX11_overBy, cX11_overBy, 1, (some .int), 11, 831, mi_k105)) rfl (by decide) (show ¬ (1 : Nat) < 1 by decide) (fun dd hd => ?_)
  show GG sc 11 false false mi_k105 dd 0 [.ref 5] [] I nm (qC I (oOverBy d) nm)
  have hR := hC.1
  have hN8 := (rK_N hR).2
  refine g_aload_n (n := 1) rfl rfl ?_
  refine g_getr (n := 4) (ci := 11) (j := 2) (b := (44)) rfl (by decide +kernel) (by decide) (by decide) (by decide +kernel) ?_
  refine g_aload_n (n := 5) rfl rfl ?_
  refine g_getr (n := 8) (ci := 11) (j := 1) (b := (14)) rfl (by decide +kernel) (by decide) (by decide) (by decide +kernel) ?_
  refine g_cv1 (n := 11) (t := 6) (ci := 1) rfl (by decide +kernel) (by decide +kernel) (cf_hd c44) (cf_136 c44) (by decide +kernel) (by rfl) (c_ccopy c44 c14 (by decide) hC.2.2 hR hC.2.1 hw) (by omega) (g_RC fun I1 hR1 hT1 hF1 => ?_)
  refine g_aload_n (n := 12) rfl rfl ?_
  refine g_aload_n (n := 13) rfl rfl ?_
  refine g_getr (n := 16) (ci := 11) (j := 2) (b := (44)) rfl (by decide +kernel) (by decide) (by decide) (by decide +kernel) ?_
  refine g_cv0 (n := 19) (t := 26) (ci := 1) rfl (by decide +kernel) (by decide +kernel) (cf_hd c44) (cf_136 c44) (by decide +kernel) (by rfl) (c_runOver c44 hR1 hw hv hm1) (by omega) (g_RO fun d2 I2 hR2 hF2 hp2 => ?_)
  refine g_cv1 (n := 22) (t := 127) (ci := 11) rfl (by decide +kernel) (by decide +kernel) (by decide) (by decide) (by decide +kernel) (by rfl) c_kOrNone (by omega) (g_E ?_)
  refine g_iret (n := 23) rfl (fun h => nomatch h) ?_
  unfold oOverBy
  have hF := hF1.trans (bF_h hF2)
  by_cases q : 0 ≤ (fOB d).1
  · rw [if_pos q, if_pos q, if_pos q]; exact qC_v (RC_a hC hF hR2) (cF_h hF)
  · rw [if_neg q, if_neg q, if_neg q]; exact qC_e (by omega) (RC_a hC hF hR2) (cF_h hF)
theorem c_kStuckBy {sc : List Value} {nm : Nat} {I : mg_I} {d : Nat → Int32} (hC : RC I d) (hw : gW d) (hv : gV d) : SP sc 12 106 [.ref 5] I nm (qC I (oStuck d) nm) := by
  refine SP.of (h := 11) (t := 106) (q := (yX11_stuckBy, cX11_stuckBy, 1, (some .int), 11, 854, mi_k106)) rfl (by decide) (show ¬ (1 : Nat) < 1 by decide) (fun dd hd => ?_)
  show GG sc 11 false false mi_k106 dd 0 [.ref 5] [] I nm (qC I (oStuck d) nm)
  have hR := hC.1
  have hN8 := (rK_N hR).2
  refine g_aload_n (n := 1) rfl rfl ?_
  refine g_getr (n := 4) (ci := 11) (j := 2) (b := (44)) rfl (by decide +kernel) (by decide) (by decide) (by decide +kernel) ?_
  refine g_aload_n (n := 5) rfl rfl ?_
  refine g_getr (n := 8) (ci := 11) (j := 1) (b := (14)) rfl (by decide +kernel) (by decide) (by decide) (by decide +kernel) ?_
  refine g_cv1 (n := 11) (t := 6) (ci := 1) rfl (by decide +kernel) (by decide +kernel) (cf_hd c44) (cf_136 c44) (by decide +kernel) (by rfl) (c_ccopy c44 c14 (by decide) hC.2.2 hR hC.2.1 hw) (by omega) (g_RC fun I1 hR1 hT1 hF1 => ?_)
  refine g_aload_n (n := 12) rfl rfl ?_
  refine g_aload_n (n := 13) rfl rfl ?_
  refine g_getr (n := 16) (ci := 11) (j := 2) (b := (44)) rfl (by decide +kernel) (by decide) (by decide) (by decide +kernel) ?_
  refine g_cv0 (n := 19) (t := 27) (ci := 1) rfl (by decide +kernel) (by decide +kernel) (cf_hd c44) (cf_136 c44) (by decide +kernel) (by rfl) (c_runStuck c44 hR1 hw hv) (by omega) (g_RO fun d2 I2 hR2 hF2 hp2 => ?_)
  refine g_cv1 (n := 22) (t := 127) (ci := 11) rfl (by decide +kernel) (by decide +kernel) (by decide) (by decide) (by decide +kernel) (by rfl) c_kOrNone (by omega) (g_E ?_)
  refine g_iret (n := 23) rfl (fun h => nomatch h) ?_
  unfold oStuck
  have hF := hF1.trans (bF_h hF2)
  by_cases q : 0 ≤ fStk 301 0 d
  · rw [if_pos q, if_pos q, if_pos q]; exact qC_v (RC_a hC hF hR2) (cF_h hF)
  · rw [if_neg q, if_neg q, if_neg q]; exact qC_e (by omega) (RC_a hC hF hR2) (cF_h hF)
theorem c_kWithout {sc : List Value} {nm : Nat} {I : mg_I} {d : Nat → Int32} (hC : RC I d) (hw : gW d) (hv : gV d) (hm1 : iR (d 1) 10000) {l : Int32} : SP sc 12 109 [.ref 5, .int l] I nm (qC I (oWithout d l) nm) := by
  refine SP.of (h := 11) (t := 109) (q := (yX11_without, cX11_without, 3, (some .int), 11, 871, mi_k109)) rfl (by decide) (show ¬ (3 : Nat) < 2 by decide) (fun dd hd => ?_)
  show GG sc 11 false false mi_k109 dd 0 [.ref 5, .int l, .null] [] I nm (qC I (oWithout d l) nm)
  have hR := hC.1
  have hN8 := (rK_N hR).2
  refine g_aload_n (n := 1) rfl rfl ?_
  refine g_getr (n := 4) (ci := 11) (j := 1) (b := (14)) rfl (by decide +kernel) (by decide) (by decide) (by decide +kernel) ?_
  refine g_iload_n (n := 5) rfl rfl ?_
  refine g_cv1 (n := 8) (t := 11) (ci := 1) rfl (by decide +kernel) (by decide +kernel) (cf_hd c14) (cf_136 c14) (by decide +kernel) (by rfl) (c_cYardOf c14 hR) (by omega) (g_E ?_)
  refine g_istore_n2 (n := 9) rfl rfl ?_
  refine g_iload_n (n := 10) rfl rfl ?_
  refine g_cs1 (n := 13) (t := 131) (x := (418, 388, 71)) rfl (by decide +kernel) (by decide +kernel) (by rfl) c_kYard (by omega) (g_E ?_)
  refine g_split (fun h1 => ?_) (fun h1 => ?_)
  ·
    refine g_ifne1 (n := 16) 23 rfl (by decide) ?_
    refine g_aload_n (n := 24) rfl rfl ?_
    refine g_getr (n := 27) (ci := 11) (j := 1) (b := (14)) rfl (by decide +kernel) (by decide) (by decide) (by decide +kernel) ?_
    refine g_iload_n (n := 28) rfl rfl ?_
    refine g_cv1 (n := 31) (t := 12) (ci := 1) rfl (by decide +kernel) (by decide +kernel) (cf_hd c14) (cf_136 c14) (by decide +kernel) (by rfl) (c_crowd c14 hR) (by omega) (g_E ?_)
    refine g_iconst (n := 32) (v := 1) rfl rfl ?_
    refine g_icle (n := 35) 42 rfl (by decide) (fun h2 => ?_) (fun h2 => ?_)
    ·
      have h2i : Int32.toInt _ ≤ 1 := Int32.le_iff_toInt_le.mp (h2)
      refine g_aload_n (n := 43) rfl rfl ?_
      refine g_getr (n := 46) (ci := 11) (j := 2) (b := (44)) rfl (by decide +kernel) (by decide) (by decide) (by decide +kernel) ?_
      refine g_aload_n (n := 47) rfl rfl ?_
      refine g_getr (n := 50) (ci := 11) (j := 1) (b := (14)) rfl (by decide +kernel) (by decide) (by decide) (by decide +kernel) ?_
      refine g_cv1 (n := 53) (t := 6) (ci := 1) rfl (by decide +kernel) (by decide +kernel) (cf_hd c44) (cf_136 c44) (by decide +kernel) (by rfl) (c_ccopy c44 c14 (by decide) hC.2.2 hR hC.2.1 hw) (by omega) (g_RC fun I1 hR1 hT1 hF1 => ?_)
      refine g_aload_n (n := 54) rfl rfl ?_
      refine g_getr (n := 57) (ci := 11) (j := 2) (b := (44)) rfl (by decide +kernel) (by decide) (by decide) (by decide +kernel) ?_
      refine g_getr (n := 60) (ci := 1) (j := 0) (b := ((44) + 1)) rfl (by decide +kernel) (cf_hd c44) (cf_lt c44 (by decide)) (cf_r0 c44) ?_
      refine g_iload_n (n := 61) rfl rfl ?_
      refine g_iconst (n := 62) (v := 1) rfl rfl ?_
      obtain ⟨yy, hyy, ey, hcy⟩ := iR_nI (x := fYard d l) (n := 24) ⟨by omega, by omega⟩
      have hdyy : cl (fYard d l) = yy := hcy
      refine g_iast (n := 63) (yy) rfl (cf_1h c44) ey (by rw [cf_1s c44]; omega) ?_
      have hR1s := rK_space (q := yy) (x := 1) hR1 (by omega)
      refine g_aload_n (n := 64) rfl rfl ?_
      refine g_aload_n (n := 65) rfl rfl ?_
      refine g_getr (n := 68) (ci := 11) (j := 2) (b := (44)) rfl (by decide +kernel) (by decide) (by decide) (by decide +kernel) ?_
      refine g_cv0 (n := 71) (t := 26) (ci := 1) rfl (by decide +kernel) (by decide +kernel) (cf_hd c44) (cf_136 c44) (by decide +kernel) (by rfl) (c_runOver c44 hR1s (gW_up hw (by omega)) (gV_up hv (by omega)) (by rw [up_ne (by omega)]; exact hm1)) (by omega) (g_RO fun d2 I2 hR2 hF2 hp2 => ?_)
      refine g_cv1 (n := 74) (t := 127) (ci := 11) rfl (by decide +kernel) (by decide +kernel) (by decide) (by decide) (by decide +kernel) (by rfl) c_kOrNone (by omega) (g_E ?_)
      refine g_iret (n := 75) rfl (fun h => nomatch h) ?_
      unfold oWithout
      rw [if_pos (by omega), if_pos (by assumption), hdyy]
      have hF := (hF1.trans (show bH 44 I1 (mf_up I1 (44 + 1) yy 1) from fun a j x => mf_ne (by omega))).trans (bF_h hF2)
      by_cases q : 0 ≤ (fOB (up d (10 + yy) 1)).1
      · rw [if_pos q, if_pos q, if_pos q]; exact qC_v (RC_a hC hF hR2) (cF_h hF)
      · rw [if_neg q, if_neg q, if_neg q]; exact qC_e (by omega) (RC_a hC hF hR2) (cF_h hF)
    ·
      have h2i : 1 < Int32.toInt _ := Int32.lt_iff_toInt_lt.mp (Int32.not_le.mp h2)
      refine g_aload_n (n := 36) rfl rfl ?_
      refine g_ldc (n := 38) (v := -1000000003) (pl := 586) rfl (by decide +kernel) ?_
      refine g_top (w := -1000000000 - nI 3) (by decide) ?_
      refine g_cv1 (n := 41) (t := 126) (ci := 11) rfl (by decide +kernel) (by decide +kernel) (by decide) (by decide) (by decide +kernel) (by rfl) (c_fail (k := 3) (by omega)) (by omega) (g_E ?_)
      refine g_iret (n := 42) rfl (fun h => nomatch h) ?_
      unfold oWithout
      repeat (first | rw [if_pos (by first | omega | assumption)] | rw [if_neg (by first | omega | assumption)])
      exact qC_e (by omega) hC cF.rfl'
  ·
    refine g_ifne0 (n := 16) 23 rfl (by decide) ?_
    refine g_aload_n (n := 17) rfl rfl ?_
    refine g_ldc (n := 19) (v := -1000000001) (pl := 419) rfl (by decide +kernel) ?_
    refine g_top (w := -1000000000 - nI 1) (by decide) ?_
    refine g_cv1 (n := 22) (t := 126) (ci := 11) rfl (by decide +kernel) (by decide +kernel) (by decide) (by decide) (by decide +kernel) (by rfl) (c_fail (k := 1) (by omega)) (by omega) (g_E ?_)
    refine g_iret (n := 23) rfl (fun h => nomatch h) ?_
    unfold oWithout
    repeat (first | rw [if_pos (by first | omega | assumption)] | rw [if_neg (by first | omega | assumption)])
    exact qC_e (by omega) hC cF.rfl'
theorem fMs_N {m : Nat} : ∀ {d : Nat → Int32}, fN (fMs m d) = fN d := by
  induction m with
  | zero => intro d; rfl
  | succ m ih => intro d; rw [fMs, ih, fMin_N]
theorem c_kThen {sc : List Value} {nm : Nat} {I : mg_I} {d : Nat → Int32} (hC : RC I d) (hw : gW d) (hv : gV d) {n g w : Int32} : SP sc 12 104 [.ref 5, .int n, .int g, .int w] I nm (qC I (oThen d n g w) nm) := by
  refine SP.of (h := 11) (t := 104) (q := (yX11_then, cX11_then, 5, (some .int), 11, 816, mi_k104)) rfl (by decide) (show ¬ (5 : Nat) < 4 by decide) (fun dd hd => ?_)
  show GG sc 11 false false mi_k104 dd 0 [.ref 5, .int n, .int g, .int w, .null] [] I nm (qC I (oThen d n g w) nm)
  have hR := hC.1
  have hN8 := (rK_N hR).2
  have HH : ∀ nn, nn < 301 → ∀ gg, gg < fN d → 5 ≤ w.toInt ∧ w.toInt ≤ 9 → ∀ dF, fMs nn d = dF → ∀ I1, rK I1 44 d → bH 44 I I1 → GG sc 11 false false mi_k104 dd 51 [.ref 5, .int (nI nn), .int (nI gg), .int w, .int 0] [] I1 nm (qC I (0, fO dF gg (cl w), d) nm) := by
    intro nn hnn gg hgg hw5 dF hdF I1 hR1 hF1
    have H : ∀ (m k : Nat) (dk : Nat → Int32) (J : mg_I), k + m = nn → rK J 44 dk → gW dk → gV dk → bH 44 I J → fMs m dk = dF → fN dk = fN d → GG sc 11 false false mi_k104 dd 51 [.ref 5, .int (nI nn), .int (nI gg), .int w, .int (nI k)] [] J nm (qC I (0, fO dF gg (cl w), d) nm) := by
      intro m
      induction m with
      | zero =>
        intro k dk J hk hR2 hwk hvk hF hf hn
        refine g_iload (n := 53) rfl rfl ?_
        refine g_iload_n (n := 54) rfl rfl ?_
        refine g_icge (n := 57) 72 rfl (by decide) (fun h1 => ?_) (fun h1 => ?_)
        ·
          refine g_aload_n (n := 73) rfl rfl ?_
          refine g_getr (n := 76) (ci := 11) (j := 2) (b := (44)) rfl (by decide +kernel) (by decide) (by decide) (by decide +kernel) ?_
          refine g_getr (n := 79) (ci := 1) (j := 1) (b := ((44) + 2)) rfl (by decide +kernel) (cf_hd c44) (cf_lt c44 (by decide)) (cf_r1 c44) ?_
          refine g_iload_n (n := 80) rfl rfl ?_
          refine g_aald (n := 81) (b := ((44) + 3 + gg)) (gg) rfl (cf_2a c44) (cf_2h c44) rfl (cf_2x c44 (by omega)) (cf_2r c44 (by omega)) ?_
          refine g_iload_n (n := 82) rfl rfl ?_
          refine g_cv1 (n := 85) (t := 43) (ci := 4) rfl (by decide +kernel) (by decide +kernel) (cf_gh c44 (by omega)) (cf_g1 c44 (by omega)) (by decide +kernel) (by rfl) (c_gFact c44 hR2 (g := gg) (by omega) (w9_of hw5).1 (hwk.2.1 gg (by omega))) (by omega) (g_E ?_)
          refine g_iret (n := 86) rfl (fun h => nomatch h) ?_
          rw [fFact_w hw5, show dk = dF from hf]; exact qC_v (RC_a hC hF hR2) (cF_h hF)
        ·
          exact absurd (fN_nle rfl (by omega) (by omega) h1) (by omega)
      | succ m ih =>
        intro k dk J hk hR2 hwk hvk hF hf hn
        refine g_iload (n := 53) rfl rfl ?_
        refine g_iload_n (n := 54) rfl rfl ?_
        refine g_icge (n := 57) 72 rfl (by decide) (fun h1 => ?_) (fun h1 => ?_)
        ·
          exact absurd (fN_le rfl (by omega) (by omega) h1) (by omega)
        ·
          refine g_aload_n (n := 58) rfl rfl ?_
          refine g_getr (n := 61) (ci := 11) (j := 2) (b := (44)) rfl (by decide +kernel) (by decide) (by decide) (by decide +kernel) ?_
          refine g_iconst (n := 62) (v := 0) rfl rfl ?_
          refine g_cv1 (n := 65) (t := 17) (ci := 1) rfl (by decide +kernel) (by decide +kernel) (cf_hd c44) (cf_136 c44) (by decide +kernel) (by rfl) (c_pass c44 hR2 (fog := 0) hwk hvk) (by omega) (g_RB fun I3 hR3 hF3 => ?_)
          refine g_popi (n := 66) rfl ?_
          refine g_iinc4 (n := 69) rfl rfl (nI_inc _) ?_
          refine g_goto 51 rfl (by decide) ?_
          exact ih (k + 1) (fMin dk 0) I3 (by omega) hR3 (gW_min hwk) (gV_min hwk hvk) (hF.trans (bF_h hF3)) hf (by rw [fMin_N]; exact hn)
    exact H nn 0 d I1 (by omega) hR1 hw hv hF1 hdF rfl
  refine g_iload_n (n := 1) rfl rfl ?_
  refine g_iflt (n := 4) 30 rfl (by decide) (fun h1 => ?_) (fun h1 => ?_)
  ·
    have h1i : Int32.toInt _ < 0 := Int32.lt_iff_toInt_lt.mp (h1)
    refine g_aload_n (n := 31) rfl rfl ?_
    refine g_ldc (n := 33) (v := -1000000001) (pl := 419) rfl (by decide +kernel) ?_
    refine g_top (w := -1000000000 - nI 1) (by decide) ?_
    refine g_cv1 (n := 36) (t := 126) (ci := 11) rfl (by decide +kernel) (by decide +kernel) (by decide) (by decide) (by decide +kernel) (by rfl) (c_fail (k := 1) (by omega)) (by omega) (g_E ?_)
    refine g_iret (n := 37) rfl (fun h => nomatch h) ?_
    unfold oThen
    repeat (first | rw [if_pos (by first | omega | assumption)] | rw [if_neg (by first | omega | assumption)])
    exact qC_e (by omega) hC cF.rfl'
  ·
    have h1i : 0 ≤ Int32.toInt _ := Int32.le_iff_toInt_le.mp (Int32.not_lt.mp h1)
    refine g_iload_n (n := 5) rfl rfl ?_
    refine g_sipush (n := 8) (v := 300) rfl rfl ?_
    refine g_icgt (n := 11) 30 rfl (by decide) (fun h2 => ?_) (fun h2 => ?_)
    ·
      have h2i : 300 < Int32.toInt _ := Int32.lt_iff_toInt_lt.mp (h2)
      refine g_aload_n (n := 31) rfl rfl ?_
      refine g_ldc (n := 33) (v := -1000000001) (pl := 419) rfl (by decide +kernel) ?_
      refine g_top (w := -1000000000 - nI 1) (by decide) ?_
      refine g_cv1 (n := 36) (t := 126) (ci := 11) rfl (by decide +kernel) (by decide +kernel) (by decide) (by decide) (by decide +kernel) (by rfl) (c_fail (k := 1) (by omega)) (by omega) (g_E ?_)
      refine g_iret (n := 37) rfl (fun h => nomatch h) ?_
      unfold oThen
      repeat (first | rw [if_pos (by first | omega | assumption)] | rw [if_neg (by first | omega | assumption)])
      exact qC_e (by omega) hC cF.rfl'
    ·
      have h2i : Int32.toInt _ ≤ 300 := Int32.le_iff_toInt_le.mp (Int32.not_lt.mp h2)
      refine g_aload_n (n := 12) rfl rfl ?_
      refine g_iload_n (n := 13) rfl rfl ?_
      refine g_cv1 (n := 16) (t := 128) (ci := 11) rfl (by decide +kernel) (by decide +kernel) (by decide) (by decide) (by decide +kernel) (by rfl) (c_kGoer hR) (by omega) (g_E ?_)
      refine g_split (fun h3 => ?_) (fun h3 => ?_)
      ·
        refine g_ifeq1 (n := 19) 30 rfl (by decide) ?_
        refine g_iload_n (n := 20) rfl rfl ?_
        refine g_iconst (n := 21) (v := 5) rfl rfl ?_
        refine g_iclt (n := 24) 30 rfl (by decide) (fun h4 => ?_) (fun h4 => ?_)
        ·
          have h4i : Int32.toInt _ < 5 := Int32.lt_iff_toInt_lt.mp (h4)
          refine g_aload_n (n := 31) rfl rfl ?_
          refine g_ldc (n := 33) (v := -1000000001) (pl := 419) rfl (by decide +kernel) ?_
          refine g_top (w := -1000000000 - nI 1) (by decide) ?_
          refine g_cv1 (n := 36) (t := 126) (ci := 11) rfl (by decide +kernel) (by decide +kernel) (by decide) (by decide) (by decide +kernel) (by rfl) (c_fail (k := 1) (by omega)) (by omega) (g_E ?_)
          refine g_iret (n := 37) rfl (fun h => nomatch h) ?_
          unfold oThen
          repeat (first | rw [if_pos (by first | omega | assumption)] | rw [if_neg (by first | omega | assumption)])
          exact qC_e (by omega) hC cF.rfl'
        ·
          have h4i : 5 ≤ Int32.toInt _ := Int32.le_iff_toInt_le.mp (Int32.not_lt.mp h4)
          refine g_iload_n (n := 25) rfl rfl ?_
          refine g_bipush (n := 27) (v := 9) rfl rfl ?_
          refine g_icle (n := 30) 37 rfl (by decide) (fun h5 => ?_) (fun h5 => ?_)
          ·
            have h5i : Int32.toInt _ ≤ 9 := Int32.le_iff_toInt_le.mp (h5)
            refine g_aload_n (n := 38) rfl rfl ?_
            refine g_getr (n := 41) (ci := 11) (j := 2) (b := (44)) rfl (by decide +kernel) (by decide) (by decide) (by decide +kernel) ?_
            refine g_aload_n (n := 42) rfl rfl ?_
            refine g_getr (n := 45) (ci := 11) (j := 1) (b := (14)) rfl (by decide +kernel) (by decide) (by decide) (by decide +kernel) ?_
            refine g_cv1 (n := 48) (t := 6) (ci := 1) rfl (by decide +kernel) (by decide +kernel) (cf_hd c44) (cf_136 c44) (by decide +kernel) (by rfl) (c_ccopy c44 c14 (by decide) hC.2.2 hR hC.2.1 hw) (by omega) (g_RC fun I1 hR1 hT1 hF1 => ?_)
            obtain ⟨nn, hnn, rfl, hcn⟩ := iR_nI (x := n) (n := 301) ⟨by omega, by omega⟩
            have hdnn : cl (nI nn) = nn := hcn
            obtain ⟨gg, hgg, rfl, hcg⟩ := iR_nI (x := g) (n := (fN d)) ⟨by omega, by omega⟩
            have hdgg : cl (nI gg) = gg := hcg
            refine g_iconst (n := 49) (v := 0) rfl rfl ?_
            refine g_istore4 (n := 51) rfl rfl ?_
            unfold oThen
            repeat (first | rw [if_pos (by first | omega | assumption)] | rw [if_neg (by first | omega | assumption)])
            rw [hdnn, hdgg]
            exact HH nn hnn gg hgg ⟨by omega, by omega⟩ _ rfl I1 hR1 hF1
          ·
            have h5i : 9 < Int32.toInt _ := Int32.lt_iff_toInt_lt.mp (Int32.not_le.mp h5)
            refine g_aload_n (n := 31) rfl rfl ?_
            refine g_ldc (n := 33) (v := -1000000001) (pl := 419) rfl (by decide +kernel) ?_
            refine g_top (w := -1000000000 - nI 1) (by decide) ?_
            refine g_cv1 (n := 36) (t := 126) (ci := 11) rfl (by decide +kernel) (by decide +kernel) (by decide) (by decide) (by decide +kernel) (by rfl) (c_fail (k := 1) (by omega)) (by omega) (g_E ?_)
            refine g_iret (n := 37) rfl (fun h => nomatch h) ?_
            unfold oThen
            repeat (first | rw [if_pos (by first | omega | assumption)] | rw [if_neg (by first | omega | assumption)])
            exact qC_e (by omega) hC cF.rfl'
      ·
        refine g_ifeq0 (n := 19) 30 rfl (by decide) ?_
        refine g_aload_n (n := 31) rfl rfl ?_
        refine g_ldc (n := 33) (v := -1000000001) (pl := 419) rfl (by decide +kernel) ?_
        refine g_top (w := -1000000000 - nI 1) (by decide) ?_
        refine g_cv1 (n := 36) (t := 126) (ci := 11) rfl (by decide +kernel) (by decide +kernel) (by decide) (by decide) (by decide +kernel) (by rfl) (c_fail (k := 1) (by omega)) (by omega) (g_E ?_)
        refine g_iret (n := 37) rfl (fun h => nomatch h) ?_
        unfold oThen
        repeat (first | rw [if_pos (by first | omega | assumption)] | rw [if_neg (by first | omega | assumption)])
        exact qC_e (by omega) hC cF.rfl'
