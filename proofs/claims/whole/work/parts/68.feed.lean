/-! the class: what is fed -/
theorem by_k {w : Int64} {k : Nat} (hk : k < 8) : ((w.toUInt64 >>> ((nI (8 * k)).toInt64.toUInt64 &&& Int64.toUInt64 63)).toInt64 &&& 255).toInt32 = fBy w k := by
  unfold fBy
  refine congrArg Int64.toInt32 ?_
  have key : ∀ m : Nat, m ≤ 56 → ((w.toBitVec >>> m) &&& 255#64) = ((w.toBitVec.sshiftRight m) &&& 255#64) := by
    intro m hm
    ext i hi
    simp only [BitVec.getElem_and, BitVec.getElem_ushiftRight, BitVec.getElem_sshiftRight]
    by_cases h : i < 8
    · rw [dif_pos (by omega)]; rfl
    · have e : (255#64)[i] = false := by
        have : (255#64).getLsbD i = false := by
          rw [BitVec.getLsbD_ofNat]
          simp only [Bool.and_eq_false_iff]
          right
          exact Nat.testBit_lt_two_pow (Nat.lt_of_lt_of_le (by decide : 255 < 2 ^ 8) (Nat.pow_le_pow_right (by omega) (by omega)))
        exact this
      rw [e, Bool.and_false, Bool.and_false]
  apply Int64.toBitVec_inj.mp
  rcases (show k = 0 ∨ k = 1 ∨ k = 2 ∨ k = 3 ∨ k = 4 ∨ k = 5 ∨ k = 6 ∨ k = 7 by omega) with rfl | rfl | rfl | rfl | rfl | rfl | rfl | rfl
  · exact key 0 (by omega)
  · exact key 8 (by omega)
  · exact key 16 (by omega)
  · exact key 24 (by omega)
  · exact key 32 (by omega)
  · exact key 40 (by omega)
  · exact key 48 (by omega)
  · exact key 56 (by omega)
theorem c_kFeed {sc : List Value} {nm : Nat} {I : mg_I} {d : Nat → Int32} (hC : RC I d) (hw : gW d) {w : Int64} {n : Int32} : SP sc 3 99 [.ref 5, .long w, .int n] I nm (qC I (oFeed d w n) nm) := by
  refine SP.of (h := 2) (t := 99) (q := (yX11_feed, cX11_feed, 5, (some .int), 11, 594, mi_k99)) rfl (by decide) (show ¬ (5 : Nat) < 4 by decide) (fun dd hd => ?_)
  show GG sc 11 false false mi_k99 dd 0 [.ref 5, .long w, .null, .int n, .null] [] I nm (qC I (oFeed d w n) nm)
  have hR := hC.1
  have hN8 := (rK_N hR).2
  have t6 : I (14 + 11) 1 = d 6 := by obtain ⟨n1, m1, hn1, hm1, e6, e7, t1, t2, t3, t4⟩ := hC.2.1; exact t1.trans e6.symm
  have HH : ∀ nn, nn ≤ 8 → ∀ t0, t0 + nn ≤ 50 → d 6 = nI t0 → ∀ dF, fFd w nn 0 t0 d = dF → GG sc 11 false false mi_k99 dd 45 [.ref 5, .long w, .null, .int (nI nn), .int 0] [] I nm (qC I (0, nI (t0 + nn), dF) nm) := by
    intro nn hn8n t0 ht0 h60 dF hf0
    have H : ∀ (m k : Nat) (dk : Nat → Int32) (J : mg_I), k + m = nn → RC J dk → cF I J → dk 6 = nI (t0 + k) → (iR (dk 114) 51 ∧ iR (dk 115) 51) → fFd w m k (t0 + k) dk = dF → GG sc 11 false false mi_k99 dd 45 [.ref 5, .long w, .null, .int (nI nn), .int (nI k)] [] J nm (qC I (0, nI (t0 + nn), dF) nm) := by
      intro m
      induction m with
      | zero =>
        intro k dk J hk hC2 hF h6 hs hf
        have t6 : J (14 + 11) 1 = nI (t0 + nn) := by obtain ⟨n1, m1, hn1, hm1, e6, e7, t1, t2, t3, t4⟩ := hC2.2.1; exact t1.trans (e6.symm.trans (h6.trans (congrArg nI (by omega))))
        refine g_iload (n := 47) rfl rfl ?_
        refine g_iload_n (n := 48) rfl rfl ?_
        refine g_icge (n := 51) 80 rfl (by decide) (fun h1 => ?_) (fun h1 => ?_)
        ·
          refine g_aload_n (n := 81) rfl rfl ?_
          refine g_getr (n := 84) (ci := 11) (j := 1) (b := (14)) rfl (by decide +kernel) (by decide) (by decide) (by decide +kernel) ?_
          refine g_getr (n := 87) (ci := 1) (j := 7) (b := ((14) + 11)) rfl (by decide +kernel) (cf_hd c14) (cf_lt c14 (by decide)) (cf_r7 c14) ?_
          refine g_getv (n := 90) (ci := 6) (j := 1) (v := nI (t0 + nn)) t6 rfl (by decide +kernel) rfl (by decide) (rw_hd (cf_t c14)) ?_
          refine g_iret (n := 91) rfl (fun h => nomatch h) ?_
          rw [show dF = dk from hf.symm]; exact qC_v hC2 hF
        ·
          exact absurd (fN_nle rfl (by omega) (by omega) h1) (by omega)
      | succ m ih =>
        intro k dk J hk hC2 hF h6 hs hf
        refine g_iload (n := 47) rfl rfl ?_
        refine g_iload_n (n := 48) rfl rfl ?_
        refine g_icge (n := 51) 80 rfl (by decide) (fun h1 => ?_) (fun h1 => ?_)
        ·
          exact absurd (fN_le rfl (by omega) (by omega) h1) (by omega)
        ·
          refine g_aload_n (n := 52) rfl rfl ?_
          refine g_getr (n := 55) (ci := 11) (j := 1) (b := (14)) rfl (by decide +kernel) (by decide) (by decide) (by decide +kernel) ?_
          refine g_getr (n := 58) (ci := 1) (j := 7) (b := ((14) + 11)) rfl (by decide +kernel) (cf_hd c14) (cf_lt c14 (by decide)) (cf_r7 c14) ?_
          refine g_lload_n (n := 59) rfl rfl ?_
          refine g_bipush (n := 61) (v := 8) rfl rfl ?_
          refine g_iload (n := 63) rfl rfl ?_
          refine g_imulN (n := 64) (x := 8) (y := k) rfl ?_
          refine g_lushr (n := 65) rfl ?_
          refine g_ldc2 (n := 68) (v := 255) (pl := 595) rfl (by decide +kernel) ?_
          refine g_land (n := 69) rfl ?_
          refine g_l2i (n := 70) rfl ?_
          refine g_top (w := fBy w k) (by_k (by omega)) ?_
          obtain ⟨n1, m1, hn1, hm1, e6, e7, t1, t2, t3, t4⟩ := hC2.2.1
          have en : n1 = t0 + k := (nI_eq (by omega) (by omega)).mp (e6.symm.trans h6)
          subst en
          refine g_cv1 (n := 73) (t := 54) (ci := 6) rfl (by decide +kernel) (by decide +kernel) (rw_hd (cf_t c14)) (rw_136 (cf_t c14)) (by decide +kernel) (by rfl) (c_radd (cf_t c14) t1 (by omega)) (by omega) (g_E ?_)
          refine g_popi (n := 74) rfl ?_
          refine g_iinc4 (n := 77) rfl rfl (nI_inc _) ?_
          refine g_goto 45 rfl (by decide) ?_
          exact ih (k + 1) (up (up dk (236 + (t0 + k)) (fBy w k)) 6 (nI (t0 + k + 1))) _ (by omega) (RC_row hs hC2 (by omega) (fun j a1 a2 a3 a4 => by rw [up_ne (by omega), up_ne (by omega)]) (tW_feed (by omega) hm1 e7 t2 t3 t4)) (cF_mf (cF_mf hF (by omega)) (by omega)) up_at (by rw [up_ne (by omega), up_ne (by omega), up_ne (by omega), up_ne (by omega)]; exact hs) hf
    exact H nn 0 d I (by omega) hC cF.rfl' h60 (gW_s hw) hf0
  refine g_iload_n (n := 1) rfl rfl ?_
  refine g_iconst (n := 2) (v := 1) rfl rfl ?_
  refine g_iclt (n := 5) 11 rfl (by decide) (fun h1 => ?_) (fun h1 => ?_)
  ·
    have h1i : Int32.toInt _ < 1 := Int32.lt_iff_toInt_lt.mp (h1)
    refine g_aload_n (n := 12) rfl rfl ?_
    refine g_ldc (n := 14) (v := -1000000001) (pl := 419) rfl (by decide +kernel) ?_
    refine g_top (w := -1000000000 - nI 1) (by decide) ?_
    refine g_cv1 (n := 17) (t := 126) (ci := 11) rfl (by decide +kernel) (by decide +kernel) (by decide) (by decide) (by decide +kernel) (by rfl) (c_fail (k := 1) (by omega)) (by omega) (g_E ?_)
    refine g_iret (n := 18) rfl (fun h => nomatch h) ?_
    unfold oFeed
    rw [if_neg (by omega)]
    exact qC_e (by omega) hC cF.rfl'
  ·
    have h1i : 1 ≤ Int32.toInt _ := Int32.le_iff_toInt_le.mp (Int32.not_lt.mp h1)
    refine g_iload_n (n := 6) rfl rfl ?_
    refine g_bipush (n := 8) (v := 8) rfl rfl ?_
    refine g_icle (n := 11) 18 rfl (by decide) (fun h2 => ?_) (fun h2 => ?_)
    ·
      have h2i : Int32.toInt _ ≤ 8 := Int32.le_iff_toInt_le.mp (h2)
      refine g_aload_n (n := 19) rfl rfl ?_
      refine g_getr (n := 22) (ci := 11) (j := 1) (b := (14)) rfl (by decide +kernel) (by decide) (by decide) (by decide +kernel) ?_
      refine g_getr (n := 25) (ci := 1) (j := 7) (b := ((14) + 11)) rfl (by decide +kernel) (cf_hd c14) (cf_lt c14 (by decide)) (cf_r7 c14) ?_
      refine g_getv (n := 28) (ci := 6) (j := 1) (v := d 6) t6 rfl (by decide +kernel) rfl (by decide) (rw_hd (cf_t c14)) ?_
      refine g_iload_n (n := 29) rfl rfl ?_
      refine g_iadd (n := 30) rfl ?_
      refine g_bipush (n := 32) (v := 50) rfl rfl ?_
      refine g_icle (n := 35) 42 rfl (by decide) (fun h3 => ?_) (fun h3 => ?_)
      ·
        have h3i : Int32.toInt _ ≤ 50 := Int32.le_iff_toInt_le.mp (h3)
        obtain ⟨nn, hnn, rfl, hcn⟩ := iR_nI (x := n) (n := 9) ⟨by omega, by omega⟩
        have hdnn : cl (nI nn) = nn := hcn
        refine g_iconst (n := 43) (v := 0) rfl rfl ?_
        refine g_istore4 (n := 45) rfl rfl ?_
        obtain ⟨t0, mm, hn1, hm1, e6, e7, t1, t2, t3, t4⟩ := hC.2.1
        have hle : d 6 + nI nn ≤ 50 := by assumption
        have hct : cl (d 6) = t0 := by rw [e6]; exact nI_clamp (by omega)
        unfold oFeed
        rw [if_pos (by omega), if_pos hle, hct, hdnn]
        rw [e6, nI_plus] at hle
        exact HH nn (by omega) t0 ((nI_leI (b := 50) (by omega) (by omega)).mp hle) e6 _ rfl
      ·
        have h3i : 50 < Int32.toInt _ := Int32.lt_iff_toInt_lt.mp (Int32.not_le.mp h3)
        refine g_aload_n (n := 36) rfl rfl ?_
        refine g_ldc (n := 38) (v := -1000000004) (pl := 435) rfl (by decide +kernel) ?_
        refine g_top (w := -1000000000 - nI 4) (by decide) ?_
        refine g_cv1 (n := 41) (t := 126) (ci := 11) rfl (by decide +kernel) (by decide +kernel) (by decide) (by decide) (by decide +kernel) (by rfl) (c_fail (k := 4) (by omega)) (by omega) (g_E ?_)
        refine g_iret (n := 42) rfl (fun h => nomatch h) ?_
        unfold oFeed
        rw [if_pos (by omega), if_neg (by assumption)]
        exact qC_e (by omega) hC cF.rfl'
    ·
      have h2i : 8 < Int32.toInt _ := Int32.lt_iff_toInt_lt.mp (Int32.not_le.mp h2)
      refine g_aload_n (n := 12) rfl rfl ?_
      refine g_ldc (n := 14) (v := -1000000001) (pl := 419) rfl (by decide +kernel) ?_
      refine g_top (w := -1000000000 - nI 1) (by decide) ?_
      refine g_cv1 (n := 17) (t := 126) (ci := 11) rfl (by decide +kernel) (by decide +kernel) (by decide) (by decide) (by decide +kernel) (by rfl) (c_fail (k := 1) (by omega)) (by omega) (g_E ?_)
      refine g_iret (n := 18) rfl (fun h => nomatch h) ?_
      unfold oFeed
      rw [if_neg (by omega)]
      exact qC_e (by omega) hC cF.rfl'
