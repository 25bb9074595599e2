/-! the class: sheets, what is put, judged -/
def wC (I : mg_I) : Prop := ∀ s, s < 4 → iR (I (114 + 2 * s) 1) 41
def ePutC (I : mg_I) (s i : Int32) : Nat := if eShC I s = 0 then (if 0 ≤ i.toInt ∧ i.toInt < (cl (I (114 + 2 * cl s) 1) : Int) then 0 else 1) else eShC I s
theorem c_kPut {sc : List Value} {nm : Nat} {I : mg_I} (hS : wC I) {s i x : Int32} : SP sc 4 116 [.ref 5, .int s, .int i, .int x] I nm (qE (vE (ePutC I s i) 1) (if ePutC I s i = 0 then mf_up I (114 + 2 * cl s + 1) (cl i) (fLow (I 122 (cl s)) x) else mf_up I 123 (ePutC I s i) (I 123 (ePutC I s i) + 1)) nm) := by
  refine SP.of (h := 3) (t := 116) (q := (yX11_put, cX11_put, 5, (some .int), 11, 1000, mi_k116)) rfl (by decide) (show ¬ (5 : Nat) < 4 by decide) (fun dd hd => ?_)
  show GG sc 11 false false mi_k116 dd 0 [.ref 5, .int s, .int i, .int x, .null] [] I nm (qE (vE (ePutC I s i) 1) (if ePutC I s i = 0 then mf_up I (114 + 2 * cl s + 1) (cl i) (fLow (I 122 (cl s)) x) else mf_up I 123 (ePutC I s i) (I 123 (ePutC I s i) + 1)) nm)
  refine g_aload_n (n := 1) rfl rfl ?_
  refine g_iload_n (n := 2) rfl rfl ?_
  refine g_cv1 (n := 5) (t := 130) (ci := 11) rfl (by decide +kernel) (by decide +kernel) (by decide) (by decide) (by decide +kernel) (by rfl) c_kRefS (by omega) (g_E ?_)
  refine g_istore4 (n := 7) rfl rfl ?_
  refine g_iload (n := 9) rfl rfl ?_
  refine g_ifeq (n := 12) 19 rfl (by decide) (fun h1 => ?_) (fun h1 => ?_)
  ·
    have h0 : eShC I s = 0 := vRef_00 eShC_lt h1
    have hse := eShC_0 h0
    obtain ⟨ss, hss, rfl, hcss⟩ := iR_nI (x := s) (n := 4) ⟨by omega, by omega⟩
    have hdss : cl (nI ss) = ss := hcss
    obtain ⟨nn, hnn, en, hcn⟩ := iR_nI (hS ss hss)
    have hdnn : cl (I (114 + 2 * ss) 1) = nn := hcn
    refine g_aload_n (n := 20) rfl rfl ?_
    refine g_getr (n := 23) (ci := 11) (j := 7) (b := 113) rfl (by decide +kernel) (by decide) (by decide) (by decide +kernel) ?_
    refine g_iload_n (n := 24) rfl rfl ?_
    refine g_aald (n := 25) (b := 114 + 2 * ss) (ss) rfl (by decide) (by decide) rfl ⟨by show _ < 4; omega, by decide⟩ (sh_r _ (by omega)) ?_
    refine g_iload_n (n := 26) rfl rfl ?_
    refine g_cv1 (n := 29) (t := 50) (ci := 6) rfl (by decide +kernel) (by decide +kernel) (rw_hd (r_sh hss)) (rw_136 (r_sh hss)) (by decide +kernel) (by rfl) (c_rhas (r_sh hss) en (by omega)) (by omega) (g_E ?_)
    refine g_split (fun hh => ?_) (fun hh => ?_)
    ·
      refine g_ifne1 (n := 32) 39 rfl (by decide) ?_
      obtain ⟨ii, hii, rfl, hci⟩ := iR_nI (x := i) (n := nn) ⟨by omega, by omega⟩
      have hdii : cl (nI ii) = ii := hci
      refine g_aload_n (n := 40) rfl rfl ?_
      refine g_getr (n := 43) (ci := 11) (j := 7) (b := 113) rfl (by decide +kernel) (by decide) (by decide) (by decide +kernel) ?_
      refine g_iload_n (n := 44) rfl rfl ?_
      refine g_aald (n := 45) (b := 114 + 2 * ss) (ss) rfl (by decide) (by decide) rfl ⟨by show _ < 4; omega, by decide⟩ (sh_r _ (by omega)) ?_
      refine g_iload_n (n := 46) rfl rfl ?_
      refine g_iload_n (n := 47) rfl rfl ?_
      refine g_aload_n (n := 48) rfl rfl ?_
      refine g_getr (n := 51) (ci := 11) (j := 8) (b := 122) rfl (by decide +kernel) (by decide) (by decide) (by decide +kernel) ?_
      refine g_iload_n (n := 52) rfl rfl ?_
      refine g_iald (n := 53) (ss) rfl (by decide) rfl (by show _ < 4; omega) ?_
      refine g_cs2 (n := 56) (t := 138) (x := (1005, 1006, 71)) rfl (by decide +kernel) (by decide +kernel) (by rfl) c_kLow (by omega) (g_E ?_)
      refine g_cv2 (n := 59) (t := 53) (ci := 6) rfl (by decide +kernel) (by decide +kernel) (rw_hd (r_sh hss)) (rw_136 (r_sh hss)) (by decide +kernel) (by rfl) (c_rset (r_sh hss) en (k := ii) hii (by omega)) (by omega) (g_Z ?_)
      refine g_iconst (n := 60) (v := 1) rfl rfl ?_
      refine g_iret (n := 61) rfl (fun h => nomatch h) ?_
      have he : ePutC I (nI ss) (nI ii) = 0 := by
        unfold ePutC
        rw [if_pos h0, hdss, hdnn, if_pos hh]
      rw [he, hdss, hdii]; exact ⟨rfl, rfl, rfl⟩
    ·
      refine g_ifne0 (n := 32) 39 rfl (by decide) ?_
      refine g_aload_n (n := 33) rfl rfl ?_
      refine g_ldc (n := 35) (v := -1000000001) (pl := 419) rfl (by decide +kernel) ?_
      refine g_top (w := -1000000000 - nI 1) (by decide) ?_
      refine g_cv1 (n := 38) (t := 126) (ci := 11) rfl (by decide +kernel) (by decide +kernel) (by decide) (by decide) (by decide +kernel) (by rfl) (c_fail (k := 1) (by omega)) (by omega) (g_E ?_)
      refine g_iret (n := 39) rfl (fun h => nomatch h) ?_
      have he : ePutC I (nI ss) i = 1 := by
        unfold ePutC
        rw [if_pos h0, hdss, hdnn, if_neg hh]
      rw [he]; exact ⟨rfl, rfl, rfl⟩
  ·
    have h0 : ¬ eShC I s = 0 := fun q => h1 (by rw [q]; rfl)
    refine g_aload_n (n := 13) rfl rfl ?_
    refine g_iload (n := 15) rfl rfl ?_
    refine g_top (w := -1000000000 - nI (eShC I s)) (if_neg h0) ?_
    refine g_cv1 (n := 18) (t := 126) (ci := 11) rfl (by decide +kernel) (by decide +kernel) (by decide) (by decide) (by decide +kernel) (by rfl) (c_fail (k := eShC I s) ⟨by omega, eShC_lt⟩) (by omega) (g_E ?_)
    refine g_iret (n := 19) rfl (fun h => nomatch h) ?_
    have he : ePutC I s i = eShC I s := if_neg h0
    rw [he, if_neg h0]; exact ⟨congrArg (fun z => some (Value.int z)) (if_neg h0).symm, rfl, rfl⟩
