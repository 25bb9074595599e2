/-! the class: sheets -/
theorem r_sh {s : Nat} (hs : s < 4) : isRow (114 + 2 * s) 40 := by
  rcases (show s = 0 ∨ s = 1 ∨ s = 2 ∨ s = 3 by omega) with rfl | rfl | rfl | rfl <;> (unfold isRow; decide)
theorem sh_r : ∀ s, s < 4 → mf_rf 113 s = some (114 + 2 * s) := by decide +kernel
def eShC (I : mg_I) (s : Int32) : Nat := if 0 ≤ s.toInt ∧ s.toInt ≤ 3 then (if I 122 (cl s) = 0 then 2 else 0) else 1
theorem eShC_lt {I : mg_I} {s : Int32} : eShC I s < 6 := by
  unfold eShC
  split
  · split <;> omega
  · omega
theorem eShC_0 {I : mg_I} {s : Int32} (h : eShC I s = 0) : (0 ≤ s.toInt ∧ s.toInt ≤ 3) ∧ ¬ I 122 (cl s) = 0 := by
  unfold eShC at h
  by_cases h1 : 0 ≤ s.toInt ∧ s.toInt ≤ 3
  · rw [if_pos h1] at h
    by_cases h2 : I 122 (cl s) = 0
    · rw [if_pos h2] at h; exact absurd h (by decide)
    · exact ⟨h1, h2⟩
  · rw [if_neg h1] at h; exact absurd h (by decide)
theorem vRef_2 : vRef 2 = -1000000002 := by decide
theorem c_kLow {sc : List Value} {nm : Nat} {I : mg_I} {x b : Int32} : SP sc 1 138 [.int x, .int b] I nm (qE (fLow b x) I nm) := by
  refine SP.of (h := 0) (t := 138) (q := (yX11_lowest, cX11_lowest, 2, (some .int), 11, 1007, mi_k138)) rfl (by decide) (show ¬ (2 : Nat) < 2 by decide) (fun dd hd => ?_)
  show GG sc 11 false false mi_k138 dd 0 [.int x, .int b] [] I nm (qE (fLow b x) I nm)
  refine g_iload_n (n := 1) rfl rfl ?_
  refine g_bipush (n := 3) (v := 8) rfl rfl ?_
  refine g_icne (n := 6) 9 rfl (by decide) (fun h1 => ?_) (fun h1 => ?_)
  ·
    refine g_iload_n (n := 10) rfl rfl ?_
    refine g_bipush (n := 12) (v := 16) rfl rfl ?_
    refine g_icne (n := 15) 20 rfl (by decide) (fun h2 => ?_) (fun h2 => ?_)
    ·
      refine g_iload_n (n := 21) rfl rfl ?_
      refine g_iret (n := 22) rfl (fun h => nomatch h) ?_
      unfold fLow
      repeat (first | rw [if_pos (by first | omega | assumption)] | rw [if_neg (by first | omega | assumption)])
      exact ⟨rfl, rfl, rfl⟩
    ·
      refine g_iload_n (n := 16) rfl rfl ?_
      refine g_i2s (n := 17) rfl ?_
      refine g_goto 21 rfl (by decide) ?_
      refine g_iret (n := 22) rfl (fun h => nomatch h) ?_
      unfold fLow
      repeat (first | rw [if_pos (by first | omega | assumption)] | rw [if_neg (by first | omega | assumption)])
      exact ⟨rfl, rfl, rfl⟩
  ·
    refine g_iload_n (n := 7) rfl rfl ?_
    refine g_i2b (n := 8) rfl ?_
    refine g_iret (n := 9) rfl (fun h => nomatch h) ?_
    unfold fLow
    repeat (first | rw [if_pos (by first | omega | assumption)] | rw [if_neg (by first | omega | assumption)])
    exact ⟨rfl, rfl, rfl⟩
theorem c_kRefS {sc : List Value} {nm : Nat} {I : mg_I} {s : Int32} : SP sc 2 130 [.ref 5, .int s] I nm (qE (vRef (eShC I s)) I nm) := by
  refine SP.of (h := 1) (t := 130) (q := (yX11_refusesSheet, cX11_refusesSheet, 2, (some .int), 11, 1004, mi_k130)) rfl (by decide) (show ¬ (2 : Nat) < 2 by decide) (fun dd hd => ?_)
  show GG sc 11 false false mi_k130 dd 0 [.ref 5, .int s] [] I nm (qE (vRef (eShC I s)) I nm)
  refine g_iload_n (n := 1) rfl rfl ?_
  refine g_cs1 (n := 4) (t := 135) (x := (987, 988, 71)) rfl (by decide +kernel) (by decide +kernel) (by rfl) c_kSheet (by omega) (g_E ?_)
  refine g_split (fun h1 => ?_) (fun h1 => ?_)
  ·
    refine g_ifne1 (n := 7) 10 rfl (by decide) ?_
    obtain ⟨ss, hss, rfl, hcss⟩ := iR_nI (x := s) (n := 4) ⟨by omega, by omega⟩
    have hdss : cl (nI ss) = ss := hcss
    refine g_aload_n (n := 11) rfl rfl ?_
    refine g_getr (n := 14) (ci := 11) (j := 8) (b := 122) rfl (by decide +kernel) (by decide) (by decide) (by decide +kernel) ?_
    refine g_iload_n (n := 15) rfl rfl ?_
    refine g_iald (n := 16) (ss) rfl (by decide) rfl (by show _ < 4; omega) ?_
    refine g_ifne (n := 19) 24 rfl (by decide) (fun h2 => ?_) (fun h2 => ?_)
    ·
      refine g_iconst (n := 25) (v := 0) rfl rfl ?_
      refine g_iret (n := 26) rfl (fun h => nomatch h) ?_
      unfold eShC
      rw [if_pos h1, hdss, if_neg h2]; exact ⟨rfl, rfl, rfl⟩
    ·
      refine g_ldc (n := 21) (v := -1000000002) (pl := 850) rfl (by decide +kernel) ?_
      refine g_goto 25 rfl (by decide) ?_
      refine g_iret (n := 26) rfl (fun h => nomatch h) ?_
      unfold eShC
      rw [if_pos h1, hdss, if_pos h2, vRef_2]; exact ⟨rfl, rfl, rfl⟩
  ·
    refine g_ifne0 (n := 7) 10 rfl (by decide) ?_
    refine g_ldc (n := 9) (v := -1000000001) (pl := 419) rfl (by decide +kernel) ?_
    refine g_iret (n := 10) rfl (fun h => nomatch h) ?_
    unfold eShC
    rw [if_neg h1, vRef_1]; exact ⟨rfl, rfl, rfl⟩
def shC (I : mg_I) (s : Nat) (b : Int32) (n : Nat) : mg_I := zR (mf_up I 122 s b) (114 + 2 * s) n n
theorem eSheet_lt {s b n : Int32} : eSheet s b n < 6 := by
  unfold eSheet
  repeat' split
  all_goals omega
theorem c_kShS {sc : List Value} {nm : Nat} {I : mg_I} {s b n : Int32} : SP sc 3 115 [.ref 5, .int s, .int b, .int n] I nm (qE (vE (eSheet s b n) 1) (if eSheet s b n = 0 then shC I (cl s) b (if b = 0 then 0 else cl n) else mf_up I 123 (eSheet s b n) (I 123 (eSheet s b n) + 1)) nm) := by
  refine SP.of (h := 2) (t := 115) (q := (yX11_sheet, cX11_sheet, 4, (some .int), 11, 986, mi_k115)) rfl (by decide) (show ¬ (4 : Nat) < 4 by decide) (fun dd hd => ?_)
  show GG sc 11 false false mi_k115 dd 0 [.ref 5, .int s, .int b, .int n] [] I nm (qE (vE (eSheet s b n) 1) (if eSheet s b n = 0 then shC I (cl s) b (if b = 0 then 0 else cl n) else mf_up I 123 (eSheet s b n) (I 123 (eSheet s b n) + 1)) nm)
  refine g_iload_n (n := 1) rfl rfl ?_
  refine g_cs1 (n := 4) (t := 135) (x := (987, 988, 71)) rfl (by decide +kernel) (by decide +kernel) (by rfl) c_kSheet (by omega) (g_E ?_)
  refine g_split (fun h1 => ?_) (fun h1 => ?_)
  ·
    refine g_ifeq1 (n := 7) 14 rfl (by decide) ?_
    refine g_iload_n (n := 8) rfl rfl ?_
    refine g_cs1 (n := 11) (t := 136) (x := (990, 991, 71)) rfl (by decide +kernel) (by decide +kernel) (by rfl) c_kWidth (by omega) (g_E ?_)
    refine g_split (fun h2 => ?_) (fun h2 => ?_)
    ·
      refine g_ifne1 (n := 14) 21 rfl (by decide) ?_
      by_cases hb : b = 0
      ·
        refine g_iload_n (n := 22) rfl rfl ?_
        refine g_ifeq (n := 25) 36 rfl (by decide) (fun h3 => ?_) (fun h3 => ?_)
        ·
          refine g_iload_n (n := 37) rfl rfl ?_
          refine g_ifeq (n := 40) 53 rfl (by decide) (fun h4 => ?_) (fun h4 => ?_)
          ·
            obtain ⟨ss, hss, rfl, hcss⟩ := iR_nI (x := s) (n := 4) ⟨by omega, by omega⟩
            have hdss : cl (nI ss) = ss := hcss
            refine g_aload_n (n := 54) rfl rfl ?_
            refine g_getr (n := 57) (ci := 11) (j := 8) (b := 122) rfl (by decide +kernel) (by decide) (by decide) (by decide +kernel) ?_
            refine g_iload_n (n := 58) rfl rfl ?_
            refine g_iload_n (n := 59) rfl rfl ?_
            refine g_iast (n := 60) (ss) rfl (by decide) rfl (by show _ < 4; omega) ?_
            refine g_aload_n (n := 61) rfl rfl ?_
            refine g_getr (n := 64) (ci := 11) (j := 7) (b := 113) rfl (by decide +kernel) (by decide) (by decide) (by decide +kernel) ?_
            refine g_iload_n (n := 65) rfl rfl ?_
            refine g_aald (n := 66) (b := 114 + 2 * ss) (ss) rfl (by decide) (by decide) rfl ⟨by show _ < 4; omega, by decide⟩ (sh_r _ (by omega)) ?_
            refine g_iload_n (n := 67) rfl rfl ?_
            refine g_ifne (n := 70) 74 rfl (by decide) (fun h5 => ?_) (fun h5 => ?_)
            ·
              exact absurd hb h5
            ·
              refine g_iconst (n := 71) (v := 0) rfl rfl ?_
              refine g_goto 75 rfl (by decide) ?_
              refine g_cv1 (n := 78) (t := 58) (ci := 6) rfl (by decide +kernel) (by decide +kernel) (rw_hd (r_sh hss)) (rw_136 (r_sh hss)) (by decide +kernel) (by rfl) (c_rzeros (r_sh hss) (n := 0) (by omega)) (by omega) (g_Z ?_)
              refine g_iconst (n := 79) (v := 1) rfl rfl ?_
              refine g_iret (n := 80) rfl (fun h => nomatch h) ?_
              have he : eSheet (nI ss) b n = 0 := by
                unfold eSheet
                rw [if_pos h1, if_pos hb]
              rw [he, hdss, if_pos (c := b = 0) hb]; exact ⟨rfl, rfl, rfl⟩
          ·
            exact absurd hb h4
        ·
          exact absurd hb h3
      ·
        refine g_iload_n (n := 22) rfl rfl ?_
        refine g_ifeq (n := 25) 36 rfl (by decide) (fun h6 => ?_) (fun h6 => ?_)
        ·
          exact absurd h6 hb
        ·
          refine g_iload_n (n := 26) rfl rfl ?_
          refine g_ifge (n := 29) 36 rfl (by decide) (fun h7 => ?_) (fun h7 => ?_)
          ·
            have h7i : 0 ≤ Int32.toInt _ := Int32.le_iff_toInt_le.mp (h7)
            refine g_iload_n (n := 37) rfl rfl ?_
            refine g_ifeq (n := 40) 53 rfl (by decide) (fun h8 => ?_) (fun h8 => ?_)
            ·
              exact absurd h8 hb
            ·
              refine g_iload_n (n := 41) rfl rfl ?_
              refine g_bipush (n := 43) (v := 40) rfl rfl ?_
              refine g_icle (n := 46) 53 rfl (by decide) (fun h9 => ?_) (fun h9 => ?_)
              ·
                have h9i : Int32.toInt _ ≤ 40 := Int32.le_iff_toInt_le.mp (h9)
                obtain ⟨ss, hss, rfl, hcss⟩ := iR_nI (x := s) (n := 4) ⟨by omega, by omega⟩
                have hdss : cl (nI ss) = ss := hcss
                refine g_aload_n (n := 54) rfl rfl ?_
                refine g_getr (n := 57) (ci := 11) (j := 8) (b := 122) rfl (by decide +kernel) (by decide) (by decide) (by decide +kernel) ?_
                refine g_iload_n (n := 58) rfl rfl ?_
                refine g_iload_n (n := 59) rfl rfl ?_
                refine g_iast (n := 60) (ss) rfl (by decide) rfl (by show _ < 4; omega) ?_
                refine g_aload_n (n := 61) rfl rfl ?_
                refine g_getr (n := 64) (ci := 11) (j := 7) (b := 113) rfl (by decide +kernel) (by decide) (by decide) (by decide +kernel) ?_
                refine g_iload_n (n := 65) rfl rfl ?_
                refine g_aald (n := 66) (b := 114 + 2 * ss) (ss) rfl (by decide) (by decide) rfl ⟨by show _ < 4; omega, by decide⟩ (sh_r _ (by omega)) ?_
                refine g_iload_n (n := 67) rfl rfl ?_
                refine g_ifne (n := 70) 74 rfl (by decide) (fun h10 => ?_) (fun h10 => ?_)
                ·
                  obtain ⟨nn, hnn, rfl, hcn⟩ := iR_nI (x := n) (n := 41) ⟨by omega, by omega⟩
                  have hdnn : cl (nI nn) = nn := hcn
                  refine g_iload_n (n := 75) rfl rfl ?_
                  refine g_cv1 (n := 78) (t := 58) (ci := 6) rfl (by decide +kernel) (by decide +kernel) (rw_hd (r_sh hss)) (rw_136 (r_sh hss)) (by decide +kernel) (by rfl) (c_rzeros (r_sh hss) (n := nn) (by omega)) (by omega) (g_Z ?_)
                  refine g_iconst (n := 79) (v := 1) rfl rfl ?_
                  refine g_iret (n := 80) rfl (fun h => nomatch h) ?_
                  have he : eSheet (nI ss) b (nI nn) = 0 := by
                    unfold eSheet
                    rw [if_pos h1, if_neg hb, if_pos (h2.resolve_left hb), if_pos (by assumption), if_pos (by assumption)]
                  rw [he, hdss, hdnn, if_neg (c := b = 0) hb]; exact ⟨rfl, rfl, rfl⟩
                ·
                  exact absurd h10 hb
              ·
                have h9i : 40 < Int32.toInt _ := Int32.lt_iff_toInt_lt.mp (Int32.not_le.mp h9)
                refine g_aload_n (n := 47) rfl rfl ?_
                refine g_ldc (n := 49) (v := -1000000001) (pl := 419) rfl (by decide +kernel) ?_
                refine g_top (w := -1000000000 - nI 1) (by decide) ?_
                refine g_cv1 (n := 52) (t := 126) (ci := 11) rfl (by decide +kernel) (by decide +kernel) (by decide) (by decide) (by decide +kernel) (by rfl) (c_fail (k := 1) (by omega)) (by omega) (g_E ?_)
                refine g_iret (n := 53) rfl (fun h => nomatch h) ?_
                have he : eSheet s b n = 1 := by
                  unfold eSheet
                  first
                    | rw [if_neg h1]
                    | rw [if_pos h1, if_neg (fun q => h2 (Or.inl q)), if_neg (fun q => h2 (Or.inr q))]
                    | rw [if_pos h1, if_neg hb, if_pos (h2.resolve_left hb), if_neg (c := 0 ≤ n) (by assumption)]
                    | rw [if_pos h1, if_neg hb, if_pos (h2.resolve_left hb), if_pos (c := 0 ≤ n) (by assumption), if_neg (by assumption)]
                rw [he]; exact ⟨rfl, rfl, rfl⟩
          ·
            have h7i : Int32.toInt _ < 0 := Int32.lt_iff_toInt_lt.mp (Int32.not_le.mp h7)
            refine g_aload_n (n := 30) rfl rfl ?_
            refine g_ldc (n := 32) (v := -1000000003) (pl := 586) rfl (by decide +kernel) ?_
            refine g_top (w := -1000000000 - nI 3) (by decide) ?_
            refine g_cv1 (n := 35) (t := 126) (ci := 11) rfl (by decide +kernel) (by decide +kernel) (by decide) (by decide) (by decide +kernel) (by rfl) (c_fail (k := 3) (by omega)) (by omega) (g_E ?_)
            refine g_iret (n := 36) rfl (fun h => nomatch h) ?_
            have he : eSheet s b n = 3 := by
              unfold eSheet
              first
                | rw [if_neg h1]
                | rw [if_pos h1, if_neg (fun q => h2 (Or.inl q)), if_neg (fun q => h2 (Or.inr q))]
                | rw [if_pos h1, if_neg hb, if_pos (h2.resolve_left hb), if_neg (c := 0 ≤ n) (by assumption)]
                | rw [if_pos h1, if_neg hb, if_pos (h2.resolve_left hb), if_pos (c := 0 ≤ n) (by assumption), if_neg (by assumption)]
            rw [he]; exact ⟨rfl, rfl, rfl⟩
    ·
      refine g_ifne0 (n := 14) 21 rfl (by decide) ?_
      refine g_aload_n (n := 15) rfl rfl ?_
      refine g_ldc (n := 17) (v := -1000000001) (pl := 419) rfl (by decide +kernel) ?_
      refine g_top (w := -1000000000 - nI 1) (by decide) ?_
      refine g_cv1 (n := 20) (t := 126) (ci := 11) rfl (by decide +kernel) (by decide +kernel) (by decide) (by decide) (by decide +kernel) (by rfl) (c_fail (k := 1) (by omega)) (by omega) (g_E ?_)
      refine g_iret (n := 21) rfl (fun h => nomatch h) ?_
      have he : eSheet s b n = 1 := by
        unfold eSheet
        first
          | rw [if_neg h1]
          | rw [if_pos h1, if_neg (fun q => h2 (Or.inl q)), if_neg (fun q => h2 (Or.inr q))]
          | rw [if_pos h1, if_neg hb, if_pos (h2.resolve_left hb), if_neg (c := 0 ≤ n) (by assumption)]
          | rw [if_pos h1, if_neg hb, if_pos (h2.resolve_left hb), if_pos (c := 0 ≤ n) (by assumption), if_neg (by assumption)]
      rw [he]; exact ⟨rfl, rfl, rfl⟩
  ·
    refine g_ifeq0 (n := 7) 14 rfl (by decide) ?_
    refine g_aload_n (n := 15) rfl rfl ?_
    refine g_ldc (n := 17) (v := -1000000001) (pl := 419) rfl (by decide +kernel) ?_
    refine g_top (w := -1000000000 - nI 1) (by decide) ?_
    refine g_cv1 (n := 20) (t := 126) (ci := 11) rfl (by decide +kernel) (by decide +kernel) (by decide) (by decide) (by decide +kernel) (by rfl) (c_fail (k := 1) (by omega)) (by omega) (g_E ?_)
    refine g_iret (n := 21) rfl (fun h => nomatch h) ?_
    have he : eSheet s b n = 1 := by
      unfold eSheet
      first
        | rw [if_neg h1]
        | rw [if_pos h1, if_neg (fun q => h2 (Or.inl q)), if_neg (fun q => h2 (Or.inr q))]
        | rw [if_pos h1, if_neg hb, if_pos (h2.resolve_left hb), if_neg (c := 0 ≤ n) (by assumption)]
        | rw [if_pos h1, if_neg hb, if_pos (h2.resolve_left hb), if_pos (c := 0 ≤ n) (by assumption), if_neg (by assumption)]
    rw [he]; exact ⟨rfl, rfl, rfl⟩
