/-! the class: sheets moved -/
def eMoveC (I : mg_I) (s i o j n : Int32) : Nat :=
  if 0 ≤ s.toInt ∧ s.toInt ≤ 3 then (if 0 ≤ o.toInt ∧ o.toInt ≤ 3 then (if I 122 (cl s) = 0 then 2 else if I 122 (cl o) = 0 then 2 else if I 122 (cl s) = I 122 (cl o) then
    (if 0 ≤ i.toInt ∧ 0 ≤ n.toInt ∧ i.toInt + n.toInt ≤ (cl (I (114 + 2 * cl s) 1) : Int) then (if 0 ≤ j.toInt ∧ 0 ≤ n.toInt ∧ j.toInt + n.toInt ≤ (cl (I (114 + 2 * cl o) 1) : Int) then 0 else 1) else 1) else 5) else 1) else 1
theorem c_kMove {sc : List Value} {nm : Nat} {I : mg_I} (hS : wC I) {s i o j n : Int32} : SP sc 4 117 [.ref 5, .int s, .int i, .int o, .int j, .int n] I nm (qE (vE (eMoveC I s i o j n) n) (if eMoveC I s i o j n = 0 then pR I (114 + 2 * cl o) (114 + 2 * cl s) (cl j) (cl i) (cl n) else mf_up I 123 (eMoveC I s i o j n) (I 123 (eMoveC I s i o j n) + 1)) nm) := by
  refine SP.of (h := 3) (t := 117) (q := (yX11_move, cX11_move, 6, (some .int), 11, 1012, mi_k117)) rfl (by decide) (show ¬ (6 : Nat) < 6 by decide) (fun dd hd => ?_)
  show GG sc 11 false false mi_k117 dd 0 [.ref 5, .int s, .int i, .int o, .int j, .int n] [] I nm (qE (vE (eMoveC I s i o j n) n) (if eMoveC I s i o j n = 0 then pR I (114 + 2 * cl o) (114 + 2 * cl s) (cl j) (cl i) (cl n) else mf_up I 123 (eMoveC I s i o j n) (I 123 (eMoveC I s i o j n) + 1)) nm)
  refine g_iload_n (n := 1) rfl rfl ?_
  refine g_cs1 (n := 4) (t := 135) (x := (987, 988, 71)) rfl (by decide +kernel) (by decide +kernel) (by rfl) c_kSheet (by omega) (g_E ?_)
  refine g_split (fun h1 => ?_) (fun h1 => ?_)
  ·
    refine g_ifeq1 (n := 7) 14 rfl (by decide) ?_
    refine g_iload_n (n := 8) rfl rfl ?_
    refine g_cs1 (n := 11) (t := 135) (x := (987, 988, 71)) rfl (by decide +kernel) (by decide +kernel) (by rfl) c_kSheet (by omega) (g_E ?_)
    refine g_split (fun h2 => ?_) (fun h2 => ?_)
    ·
      refine g_ifne1 (n := 14) 21 rfl (by decide) ?_
      obtain ⟨ss, hss, rfl, hcs⟩ := iR_nI (x := s) (n := 4) ⟨by omega, by omega⟩
      have hdss : cl (nI ss) = ss := hcs
      obtain ⟨oo, hoo, rfl, hco⟩ := iR_nI (x := o) (n := 4) ⟨by omega, by omega⟩
      have hdoo : cl (nI oo) = oo := hco
      obtain ⟨nn, hnn, en, hcn⟩ := iR_nI (hS ss hss)
      have hdnn : cl (I (114 + 2 * ss) 1) = nn := hcn
      obtain ⟨no, hno, eo, hcno⟩ := iR_nI (hS oo hoo)
      have hdno : cl (I (114 + 2 * oo) 1) = no := hcno
      refine g_aload_n (n := 22) rfl rfl ?_
      refine g_getr (n := 25) (ci := 11) (j := 8) (b := 122) rfl (by decide +kernel) (by decide) (by decide) (by decide +kernel) ?_
      refine g_iload_n (n := 26) rfl rfl ?_
      refine g_iald (n := 27) (ss) rfl (by decide) rfl (by show _ < 4; omega) ?_
      refine g_ifeq (n := 30) 39 rfl (by decide) (fun h3 => ?_) (fun h3 => ?_)
      ·
        refine g_aload_n (n := 40) rfl rfl ?_
        refine g_ldc (n := 42) (v := -1000000002) (pl := 850) rfl (by decide +kernel) ?_
        refine g_top (w := -1000000000 - nI 2) (by decide) ?_
        refine g_cv1 (n := 45) (t := 126) (ci := 11) rfl (by decide +kernel) (by decide +kernel) (by decide) (by decide) (by decide +kernel) (by rfl) (c_fail (k := 2) (by omega)) (by omega) (g_E ?_)
        refine g_iret (n := 46) rfl (fun h => nomatch h) ?_
        have he : eMoveC I (nI ss) i (nI oo) j n = 2 := by
          unfold eMoveC
          rw [if_pos h1, if_pos h2, hdss, hdoo, if_pos h3]
        rw [he]; exact ⟨rfl, rfl, rfl⟩
      ·
        refine g_aload_n (n := 31) rfl rfl ?_
        refine g_getr (n := 34) (ci := 11) (j := 8) (b := 122) rfl (by decide +kernel) (by decide) (by decide) (by decide +kernel) ?_
        refine g_iload_n (n := 35) rfl rfl ?_
        refine g_iald (n := 36) (oo) rfl (by decide) rfl (by show _ < 4; omega) ?_
        refine g_ifne (n := 39) 46 rfl (by decide) (fun h4 => ?_) (fun h4 => ?_)
        ·
          refine g_aload_n (n := 47) rfl rfl ?_
          refine g_getr (n := 50) (ci := 11) (j := 8) (b := 122) rfl (by decide +kernel) (by decide) (by decide) (by decide +kernel) ?_
          refine g_iload_n (n := 51) rfl rfl ?_
          refine g_iald (n := 52) (ss) rfl (by decide) rfl (by show _ < 4; omega) ?_
          refine g_aload_n (n := 53) rfl rfl ?_
          refine g_getr (n := 56) (ci := 11) (j := 8) (b := 122) rfl (by decide +kernel) (by decide) (by decide) (by decide +kernel) ?_
          refine g_iload_n (n := 57) rfl rfl ?_
          refine g_iald (n := 58) (oo) rfl (by decide) rfl (by show _ < 4; omega) ?_
          refine g_iceq (n := 61) 68 rfl (by decide) (fun h5 => ?_) (fun h5 => ?_)
          ·
            refine g_aload_n (n := 69) rfl rfl ?_
            refine g_getr (n := 72) (ci := 11) (j := 7) (b := 113) rfl (by decide +kernel) (by decide) (by decide) (by decide +kernel) ?_
            refine g_iload_n (n := 73) rfl rfl ?_
            refine g_aald (n := 74) (b := 114 + 2 * ss) (ss) rfl (by decide) (by decide) rfl ⟨by show _ < 4; omega, by decide⟩ (sh_r _ (by omega)) ?_
            refine g_iload_n (n := 75) rfl rfl ?_
            refine g_iload (n := 77) rfl rfl ?_
            refine g_cv2 (n := 80) (t := 51) (ci := 6) rfl (by decide +kernel) (by decide +kernel) (rw_hd (r_sh hss)) (rw_136 (r_sh hss)) (by decide +kernel) (by rfl) (c_rrun (r_sh hss) en (by omega)) (by omega) (g_E ?_)
            refine g_split (fun hr1 => ?_) (fun hr1 => ?_)
            ·
              refine g_ifeq1 (n := 83) 99 rfl (by decide) ?_
              refine g_aload_n (n := 84) rfl rfl ?_
              refine g_getr (n := 87) (ci := 11) (j := 7) (b := 113) rfl (by decide +kernel) (by decide) (by decide) (by decide +kernel) ?_
              refine g_iload_n (n := 88) rfl rfl ?_
              refine g_aald (n := 89) (b := 114 + 2 * oo) (oo) rfl (by decide) (by decide) rfl ⟨by show _ < 4; omega, by decide⟩ (sh_r _ (by omega)) ?_
              refine g_iload (n := 91) rfl rfl ?_
              refine g_iload (n := 93) rfl rfl ?_
              refine g_cv2 (n := 96) (t := 51) (ci := 6) rfl (by decide +kernel) (by decide +kernel) (rw_hd (r_sh hoo)) (rw_136 (r_sh hoo)) (by decide +kernel) (by rfl) (c_rrun (r_sh hoo) eo (by omega)) (by omega) (g_E ?_)
              refine g_split (fun hr2 => ?_) (fun hr2 => ?_)
              ·
                refine g_ifne1 (n := 99) 106 rfl (by decide) ?_
                obtain ⟨kn, hkn, rfl, hckn⟩ := iR_nI (x := n) (n := 41) ⟨by omega, by omega⟩
                have hdkn : cl (nI kn) = kn := hckn
                obtain ⟨ii, hii, rfl, hcii⟩ := iR_nI (x := i) (n := 41) ⟨by omega, by omega⟩
                have hdii : cl (nI ii) = ii := hcii
                obtain ⟨jj, hjj, rfl, hcjj⟩ := iR_nI (x := j) (n := 41) ⟨by omega, by omega⟩
                have hdjj : cl (nI jj) = jj := hcjj
                refine g_aload_n (n := 107) rfl rfl ?_
                refine g_getr (n := 110) (ci := 11) (j := 7) (b := 113) rfl (by decide +kernel) (by decide) (by decide) (by decide +kernel) ?_
                refine g_iload_n (n := 111) rfl rfl ?_
                refine g_aald (n := 112) (b := 114 + 2 * oo) (oo) rfl (by decide) (by decide) rfl ⟨by show _ < 4; omega, by decide⟩ (sh_r _ (by omega)) ?_
                refine g_iload (n := 114) rfl rfl ?_
                refine g_aload_n (n := 115) rfl rfl ?_
                refine g_getr (n := 118) (ci := 11) (j := 7) (b := 113) rfl (by decide +kernel) (by decide) (by decide) (by decide +kernel) ?_
                refine g_iload_n (n := 119) rfl rfl ?_
                refine g_aald (n := 120) (b := 114 + 2 * ss) (ss) rfl (by decide) (by decide) rfl ⟨by show _ < 4; omega, by decide⟩ (sh_r _ (by omega)) ?_
                refine g_iload_n (n := 121) rfl rfl ?_
                refine g_iload (n := 123) rfl rfl ?_
                have q1 := hr1.2.2
                have q2 := hr2.2.2
                rw [nI_toInt (by omega), nI_toInt (by omega)] at q1 q2
                refine g_cv4 (n := 126) (t := 59) (ci := 6) rfl (by decide +kernel) (by decide +kernel) (rw_hd (r_sh hoo)) (rw_136 (r_sh hoo)) (by decide +kernel) (by rfl) (c_rpaste (r_sh hoo) eo (by omega) (r_sh hss) en (by omega) (j := jj) (i := ii) (k := kn) (by omega) (by omega)) (by omega) (g_Z ?_)
                refine g_iload (n := 128) rfl rfl ?_
                refine g_iret (n := 129) rfl (fun h => nomatch h) ?_
                have he : eMoveC I (nI ss) (nI ii) (nI oo) (nI jj) (nI kn) = 0 := by
                  unfold eMoveC
                  rw [if_pos h1, if_pos h2, hdss, hdoo, if_neg h3, if_neg h4, if_pos h5, hdnn, if_pos hr1, hdno, if_pos hr2]
                rw [he, hdss, hdoo, hdii, hdjj, hdkn]; exact ⟨rfl, rfl, rfl⟩
              ·
                refine g_ifne0 (n := 99) 106 rfl (by decide) ?_
                refine g_aload_n (n := 100) rfl rfl ?_
                refine g_ldc (n := 102) (v := -1000000001) (pl := 419) rfl (by decide +kernel) ?_
                refine g_top (w := -1000000000 - nI 1) (by decide) ?_
                refine g_cv1 (n := 105) (t := 126) (ci := 11) rfl (by decide +kernel) (by decide +kernel) (by decide) (by decide) (by decide +kernel) (by rfl) (c_fail (k := 1) (by omega)) (by omega) (g_E ?_)
                refine g_iret (n := 106) rfl (fun h => nomatch h) ?_
                have he : eMoveC I (nI ss) i (nI oo) j n = 1 := by
                  unfold eMoveC
                  first | rw [if_pos h1, if_pos h2, hdss, hdoo, if_neg h3, if_neg h4, if_pos h5, hdnn, if_neg hr1] | rw [if_pos h1, if_pos h2, hdss, hdoo, if_neg h3, if_neg h4, if_pos h5, hdnn, if_pos hr1, hdno, if_neg hr2]
                rw [he]; exact ⟨rfl, rfl, rfl⟩
            ·
              refine g_ifeq0 (n := 83) 99 rfl (by decide) ?_
              refine g_aload_n (n := 100) rfl rfl ?_
              refine g_ldc (n := 102) (v := -1000000001) (pl := 419) rfl (by decide +kernel) ?_
              refine g_top (w := -1000000000 - nI 1) (by decide) ?_
              refine g_cv1 (n := 105) (t := 126) (ci := 11) rfl (by decide +kernel) (by decide +kernel) (by decide) (by decide) (by decide +kernel) (by rfl) (c_fail (k := 1) (by omega)) (by omega) (g_E ?_)
              refine g_iret (n := 106) rfl (fun h => nomatch h) ?_
              have he : eMoveC I (nI ss) i (nI oo) j n = 1 := by
                unfold eMoveC
                first | rw [if_pos h1, if_pos h2, hdss, hdoo, if_neg h3, if_neg h4, if_pos h5, hdnn, if_neg hr1] | rw [if_pos h1, if_pos h2, hdss, hdoo, if_neg h3, if_neg h4, if_pos h5, hdnn, if_pos hr1, hdno, if_neg hr2]
              rw [he]; exact ⟨rfl, rfl, rfl⟩
          ·
            refine g_aload_n (n := 62) rfl rfl ?_
            refine g_ldc (n := 64) (v := -1000000005) (pl := 581) rfl (by decide +kernel) ?_
            refine g_top (w := -1000000000 - nI 5) (by decide) ?_
            refine g_cv1 (n := 67) (t := 126) (ci := 11) rfl (by decide +kernel) (by decide +kernel) (by decide) (by decide) (by decide +kernel) (by rfl) (c_fail (k := 5) (by omega)) (by omega) (g_E ?_)
            refine g_iret (n := 68) rfl (fun h => nomatch h) ?_
            have he : eMoveC I (nI ss) i (nI oo) j n = 5 := by
              unfold eMoveC
              rw [if_pos h1, if_pos h2, hdss, hdoo, if_neg h3, if_neg h4, if_neg h5]
            rw [he]; exact ⟨rfl, rfl, rfl⟩
        ·
          refine g_aload_n (n := 40) rfl rfl ?_
          refine g_ldc (n := 42) (v := -1000000002) (pl := 850) rfl (by decide +kernel) ?_
          refine g_top (w := -1000000000 - nI 2) (by decide) ?_
          refine g_cv1 (n := 45) (t := 126) (ci := 11) rfl (by decide +kernel) (by decide +kernel) (by decide) (by decide) (by decide +kernel) (by rfl) (c_fail (k := 2) (by omega)) (by omega) (g_E ?_)
          refine g_iret (n := 46) rfl (fun h => nomatch h) ?_
          have he : eMoveC I (nI ss) i (nI oo) j n = 2 := by
            unfold eMoveC
            rw [if_pos h1, if_pos h2, hdss, hdoo, if_neg h3, if_pos h4]
          rw [he]; exact ⟨rfl, rfl, rfl⟩
    ·
      refine g_ifne0 (n := 14) 21 rfl (by decide) ?_
      refine g_aload_n (n := 15) rfl rfl ?_
      refine g_ldc (n := 17) (v := -1000000001) (pl := 419) rfl (by decide +kernel) ?_
      refine g_top (w := -1000000000 - nI 1) (by decide) ?_
      refine g_cv1 (n := 20) (t := 126) (ci := 11) rfl (by decide +kernel) (by decide +kernel) (by decide) (by decide) (by decide +kernel) (by rfl) (c_fail (k := 1) (by omega)) (by omega) (g_E ?_)
      refine g_iret (n := 21) rfl (fun h => nomatch h) ?_
      have he : eMoveC I s i o j n = 1 := by
        unfold eMoveC
        first | rw [if_neg h1] | rw [if_pos h1, if_neg h2]
      rw [he]; exact ⟨rfl, rfl, rfl⟩
  ·
    refine g_ifeq0 (n := 7) 14 rfl (by decide) ?_
    refine g_aload_n (n := 15) rfl rfl ?_
    refine g_ldc (n := 17) (v := -1000000001) (pl := 419) rfl (by decide +kernel) ?_
    refine g_top (w := -1000000000 - nI 1) (by decide) ?_
    refine g_cv1 (n := 20) (t := 126) (ci := 11) rfl (by decide +kernel) (by decide +kernel) (by decide) (by decide) (by decide +kernel) (by rfl) (c_fail (k := 1) (by omega)) (by omega) (g_E ?_)
    refine g_iret (n := 21) rfl (fun h => nomatch h) ?_
    have he : eMoveC I s i o j n = 1 := by
      unfold eMoveC
      first | rw [if_neg h1] | rw [if_pos h1, if_neg h2]
    rw [he]; exact ⟨rfl, rfl, rfl⟩
