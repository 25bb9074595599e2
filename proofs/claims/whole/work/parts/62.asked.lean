/-! the class: what is asked, kept, given back -/
def jK1 (I : mg_I) (e : Nat) : mg_I := mf_up I 123 e (I 123 e + 1)
theorem c_kTold {sc : List Value} {nm : Nat} {I : mg_I} {k : Int32} : SP sc 2 125 [.ref 5, .int k] I nm (qE (if 1 ≤ k.toInt ∧ k.toInt ≤ 5 then I 123 (cl k) else -1000000000 - nI 1) (if 1 ≤ k.toInt ∧ k.toInt ≤ 5 then I else jK1 I 1) nm) := by
  refine SP.of (h := 1) (t := 125) (q := (yX11_told, cX11_told, 2, (some .int), 11, 1053, mi_k125)) rfl (by decide) (show ¬ (2 : Nat) < 2 by decide) (fun dd hd => ?_)
  show GG sc 11 false false mi_k125 dd 0 [.ref 5, .int k] [] I nm (qE (if 1 ≤ k.toInt ∧ k.toInt ≤ 5 then I 123 (cl k) else -1000000000 - nI 1) (if 1 ≤ k.toInt ∧ k.toInt ≤ 5 then I else jK1 I 1) nm)
  refine g_iload_n (n := 1) rfl rfl ?_
  refine g_iconst (n := 2) (v := 1) rfl rfl ?_
  refine g_iclt (n := 5) 10 rfl (by decide) (fun h1 => ?_) (fun h1 => ?_)
  ·
    have h1i : Int32.toInt _ < 1 := Int32.lt_iff_toInt_lt.mp (h1)
    refine g_aload_n (n := 11) rfl rfl ?_
    refine g_ldc (n := 13) (v := -1000000001) (pl := 419) rfl (by decide +kernel) ?_
    refine g_top (w := -1000000000 - nI 1) (by decide) ?_
    refine g_cv1 (n := 16) (t := 126) (ci := 11) rfl (by decide +kernel) (by decide +kernel) (by decide) (by decide) (by decide +kernel) (by rfl) (c_fail (k := 1) (by omega)) (by omega) (g_E ?_)
    refine g_goto 25 rfl (by decide) ?_
    refine g_iret (n := 26) rfl (fun h => nomatch h) ?_
    have hq : ¬ (1 ≤ k.toInt ∧ k.toInt ≤ 5) := by omega
    rw [if_neg hq, if_neg hq]; exact ⟨rfl, rfl, rfl⟩
  ·
    have h1i : 1 ≤ Int32.toInt _ := Int32.le_iff_toInt_le.mp (Int32.not_lt.mp h1)
    refine g_iload_n (n := 6) rfl rfl ?_
    refine g_iconst (n := 7) (v := 5) rfl rfl ?_
    refine g_icle (n := 10) 19 rfl (by decide) (fun h2 => ?_) (fun h2 => ?_)
    ·
      have h2i : Int32.toInt _ ≤ 5 := Int32.le_iff_toInt_le.mp (h2)
      have hq : 1 ≤ k.toInt ∧ k.toInt ≤ 5 := ⟨by omega, by omega⟩
      rw [if_pos hq, if_pos hq]
      obtain ⟨kk, hkk, rfl, hck⟩ := iR_nI (x := k) (n := 6) ⟨by omega, by omega⟩
      rw [show cl (nI kk) = kk from hck]
      refine g_aload_n (n := 20) rfl rfl ?_
      refine g_getr (n := 23) (ci := 11) (j := 9) (b := 123) rfl (by decide +kernel) (by decide) (by decide) (by decide +kernel) ?_
      refine g_iload_n (n := 24) rfl rfl ?_
      refine g_iald (n := 25) (kk) rfl (by decide) rfl (by show _ < 6; omega) ?_
      refine g_iret (n := 26) rfl (fun h => nomatch h) ?_
      exact ⟨rfl, rfl, rfl⟩
    ·
      have h2i : 5 < Int32.toInt _ := Int32.lt_iff_toInt_lt.mp (Int32.not_le.mp h2)
      refine g_aload_n (n := 11) rfl rfl ?_
      refine g_ldc (n := 13) (v := -1000000001) (pl := 419) rfl (by decide +kernel) ?_
      refine g_top (w := -1000000000 - nI 1) (by decide) ?_
      refine g_cv1 (n := 16) (t := 126) (ci := 11) rfl (by decide +kernel) (by decide +kernel) (by decide) (by decide) (by decide +kernel) (by rfl) (c_fail (k := 1) (by omega)) (by omega) (g_E ?_)
      refine g_goto 25 rfl (by decide) ?_
      refine g_iret (n := 26) rfl (fun h => nomatch h) ?_
      have hq : ¬ (1 ≤ k.toInt ∧ k.toInt ≤ 5) := by omega
      rw [if_neg hq, if_neg hq]; exact ⟨rfl, rfl, rfl⟩
theorem r111 : isRow 111 40 := by unfold isRow; decide
def ctI (I : mg_I) (d : Nat → Int32) : mg_I := fun a j => if a = 125 then d j else if a = 124 ∧ j = 19 then I 111 1 else I a j
theorem c_kTrace {sc : List Value} {nm : Nat} {I : mg_I} {T : Nat} (hT : I 111 1 = nI T) (hT40 : T ≤ 40) {k : Int32} : SP sc 3 114 [.ref 5, .int k] I nm (qE (if 0 ≤ k.toInt ∧ k.toInt < (T : Int) then I 112 (cl k) else -1000000000 - nI 2) (if 0 ≤ k.toInt ∧ k.toInt < (T : Int) then I else jK1 I 2) nm) := by
  refine SP.of (h := 2) (t := 114) (q := (yX11_trace, cX11_trace, 2, (some .int), 11, 980, mi_k114)) rfl (by decide) (show ¬ (2 : Nat) < 2 by decide) (fun dd hd => ?_)
  show GG sc 11 false false mi_k114 dd 0 [.ref 5, .int k] [] I nm (qE (if 0 ≤ k.toInt ∧ k.toInt < (T : Int) then I 112 (cl k) else -1000000000 - nI 2) (if 0 ≤ k.toInt ∧ k.toInt < (T : Int) then I else jK1 I 2) nm)
  refine g_aload_n (n := 1) rfl rfl ?_
  refine g_getr (n := 4) (ci := 11) (j := 6) (b := 111) rfl (by decide +kernel) (by decide) (by decide) (by decide +kernel) ?_
  refine g_iload_n (n := 5) rfl rfl ?_
  refine g_cv1 (n := 8) (t := 50) (ci := 6) rfl (by decide +kernel) (by decide +kernel) (rw_hd r111) (rw_136 r111) (by decide +kernel) (by rfl) (c_rhas r111 hT (by omega)) (by omega) (g_E ?_)
  refine g_split (fun h1 => ?_) (fun h1 => ?_)
  ·
    refine g_ifeq1 (n := 11) 22 rfl (by decide) ?_
    rw [if_pos h1, if_pos h1]
    obtain ⟨kk, hkk, rfl, hck⟩ := iR_nI (x := k) (n := T) ⟨by omega, by omega⟩
    rw [show cl (nI kk) = kk from hck]
    refine g_aload_n (n := 12) rfl rfl ?_
    refine g_getr (n := 15) (ci := 11) (j := 6) (b := 111) rfl (by decide +kernel) (by decide) (by decide) (by decide +kernel) ?_
    refine g_iload_n (n := 16) rfl rfl ?_
    refine g_cv1 (n := 19) (t := 52) (ci := 6) rfl (by decide +kernel) (by decide +kernel) (rw_hd r111) (rw_136 r111) (by decide +kernel) (by rfl) (c_rat r111 hT (k := kk) hkk (by omega)) (by omega) (g_E ?_)
    refine g_goto 28 rfl (by decide) ?_
    refine g_iret (n := 29) rfl (fun h => nomatch h) ?_
    exact ⟨rfl, rfl, rfl⟩
  ·
    refine g_ifeq0 (n := 11) 22 rfl (by decide) ?_
    rw [if_neg h1, if_neg h1]
    refine g_aload_n (n := 23) rfl rfl ?_
    refine g_ldc (n := 25) (v := -1000000002) (pl := 850) rfl (by decide +kernel) ?_
    refine g_top (w := -1000000000 - nI 2) (by decide) ?_
    refine g_cv1 (n := 28) (t := 126) (ci := 11) rfl (by decide +kernel) (by decide +kernel) (by decide) (by decide) (by decide +kernel) (by rfl) (c_fail (k := 2) (by omega)) (by omega) (g_E ?_)
    refine g_iret (n := 29) rfl (fun h => nomatch h) ?_
    exact ⟨rfl, rfl, rfl⟩
theorem c_kCount {sc : List Value} {nm : Nat} {I : mg_I} {d : Nat → Int32} (hC : RC I d) {w : Int32} : SP sc 5 124 [.ref 5, .int w] I nm (qE (vCt (ctI I d) w) (if 0 ≤ w.toInt ∧ w.toInt ≤ 10 then I else jK1 I 1) nm) := by
  refine SP.of (h := 4) (t := 124) (q := (yX11_count, cX11_count, 2, (some .int), 11, 1049, mi_k124)) rfl (by decide) (show ¬ (2 : Nat) < 2 by decide) (fun dd hd => ?_)
  show GG sc 11 false false mi_k124 dd 0 [.ref 5, .int w] [] I nm (qE (vCt (ctI I d) w) (if 0 ≤ w.toInt ∧ w.toInt ≤ 10 then I else jK1 I 1) nm)
  have hR := hC.1
  have hN8 := (rK_N hR).2
  have t6 : I (14 + 11) 1 = d 6 := by obtain ⟨n, m, hn, hm, e6, e7, t1, t2, t3, t4⟩ := hC.2.1; exact t1.trans e6.symm
  have t7 : I (14 + 13) 1 = d 7 := by obtain ⟨n, m, hn, hm, e6, e7, t1, t2, t3, t4⟩ := hC.2.1; exact t2.trans e7.symm
  refine g_iload_n (n := 1) rfl rfl ?_
  by_cases h : 0 ≤ w.toInt ∧ w.toInt ≤ 10
  ·
    rw [if_pos h]
    rcases sw11 ⟨h.1, by omega⟩ with rfl | rfl | rfl | rfl | rfl | rfl | rfl | rfl | rfl | rfl | rfl
    · rw [vCt_0]
      refine g_tab 60 rfl (by decide) (by decide) rfl (by decide) ?_
      refine g_aload_n (n := 61) rfl rfl ?_
      refine g_getr (n := 64) (ci := 11) (j := 1) (b := (14)) rfl (by decide +kernel) (by decide) (by decide) (by decide +kernel) ?_
      refine g_getv (n := 67) (ci := 1) (j := 2) (v := d 0) (rK_n hR (j := 0) (by omega)) rfl (by decide +kernel) rfl (by decide) (cf_hd c14) ?_
      refine g_iret (n := 68) rfl (fun h => nomatch h) ?_
      exact ⟨rfl, rfl, rfl⟩
    · rw [vCt_1]
      refine g_tab 68 rfl (by decide) (by decide) rfl (by decide) ?_
      refine g_aload_n (n := 69) rfl rfl ?_
      refine g_getr (n := 72) (ci := 11) (j := 1) (b := (14)) rfl (by decide +kernel) (by decide) (by decide) (by decide +kernel) ?_
      refine g_cv0 (n := 75) (t := 8) (ci := 1) rfl (by decide +kernel) (by decide +kernel) (cf_hd c14) (cf_136 c14) (by decide +kernel) (by rfl) (c_cMany c14 hR) (by omega) (g_E ?_)
      refine g_iret (n := 76) rfl (fun h => nomatch h) ?_
      exact ⟨rfl, rfl, rfl⟩
    · rw [vCt_2]
      refine g_tab 76 rfl (by decide) (by decide) rfl (by decide) ?_
      refine g_aload_n (n := 77) rfl rfl ?_
      refine g_getr (n := 80) (ci := 11) (j := 1) (b := (14)) rfl (by decide +kernel) (by decide) (by decide) (by decide +kernel) ?_
      refine g_getv (n := 83) (ci := 1) (j := 3) (v := d 1) (rK_n hR (j := 1) (by omega)) rfl (by decide +kernel) rfl (by decide) (cf_hd c14) ?_
      refine g_iret (n := 84) rfl (fun h => nomatch h) ?_
      exact ⟨rfl, rfl, rfl⟩
    · rw [vCt_3]
      refine g_tab 84 rfl (by decide) (by decide) rfl (by decide) ?_
      refine g_aload_n (n := 85) rfl rfl ?_
      refine g_getr (n := 88) (ci := 11) (j := 1) (b := (14)) rfl (by decide +kernel) (by decide) (by decide) (by decide +kernel) ?_
      refine g_iconst (n := 89) (v := 1) rfl rfl ?_
      refine g_cv1 (n := 92) (t := 13) (ci := 1) rfl (by decide +kernel) (by decide +kernel) (cf_hd c14) (cf_136 c14) (by decide +kernel) (by rfl) (c_cHow c14 hR (how := 1)) (by omega) (g_E ?_)
      refine g_iret (n := 93) rfl (fun h => nomatch h) ?_
      exact ⟨rfl, rfl, rfl⟩
    · rw [vCt_4]
      refine g_tab 93 rfl (by decide) (by decide) rfl (by decide) ?_
      refine g_aload_n (n := 94) rfl rfl ?_
      refine g_getr (n := 97) (ci := 11) (j := 1) (b := (14)) rfl (by decide +kernel) (by decide) (by decide) (by decide +kernel) ?_
      refine g_iconst (n := 98) (v := 2) rfl rfl ?_
      refine g_cv1 (n := 101) (t := 13) (ci := 1) rfl (by decide +kernel) (by decide +kernel) (cf_hd c14) (cf_136 c14) (by decide +kernel) (by rfl) (c_cHow c14 hR (how := 2)) (by omega) (g_E ?_)
      refine g_iret (n := 102) rfl (fun h => nomatch h) ?_
      exact ⟨rfl, rfl, rfl⟩
    · rw [vCt_5]
      refine g_tab 102 rfl (by decide) (by decide) rfl (by decide) ?_
      refine g_aload_n (n := 103) rfl rfl ?_
      refine g_getr (n := 106) (ci := 11) (j := 1) (b := (14)) rfl (by decide +kernel) (by decide) (by decide) (by decide +kernel) ?_
      refine g_getv (n := 109) (ci := 1) (j := 4) (v := d 2) (rK_n hR (j := 2) (by omega)) rfl (by decide +kernel) rfl (by decide) (cf_hd c14) ?_
      refine g_iret (n := 110) rfl (fun h => nomatch h) ?_
      exact ⟨rfl, rfl, rfl⟩
    · rw [vCt_6]
      refine g_tab 110 rfl (by decide) (by decide) rfl (by decide) ?_
      refine g_aload_n (n := 111) rfl rfl ?_
      refine g_getr (n := 114) (ci := 11) (j := 1) (b := (14)) rfl (by decide +kernel) (by decide) (by decide) (by decide +kernel) ?_
      refine g_getv (n := 117) (ci := 1) (j := 5) (v := d 3) (rK_n hR (j := 3) (by omega)) rfl (by decide +kernel) rfl (by decide) (cf_hd c14) ?_
      refine g_iret (n := 118) rfl (fun h => nomatch h) ?_
      exact ⟨rfl, rfl, rfl⟩
    · rw [vCt_7]
      refine g_tab 118 rfl (by decide) (by decide) rfl (by decide) ?_
      refine g_aload_n (n := 119) rfl rfl ?_
      refine g_getr (n := 122) (ci := 11) (j := 1) (b := (14)) rfl (by decide +kernel) (by decide) (by decide) (by decide +kernel) ?_
      refine g_getr (n := 125) (ci := 1) (j := 7) (b := ((14) + 11)) rfl (by decide +kernel) (cf_hd c14) (cf_lt c14 (by decide)) (cf_r7 c14) ?_
      refine g_getv (n := 128) (ci := 6) (j := 1) (v := d 6) t6 rfl (by decide +kernel) rfl (by decide) (rw_hd (cf_t c14)) ?_
      refine g_iret (n := 129) rfl (fun h => nomatch h) ?_
      exact ⟨rfl, rfl, rfl⟩
    · rw [vCt_8]
      refine g_tab 129 rfl (by decide) (by decide) rfl (by decide) ?_
      refine g_aload_n (n := 130) rfl rfl ?_
      refine g_getr (n := 133) (ci := 11) (j := 1) (b := (14)) rfl (by decide +kernel) (by decide) (by decide) (by decide +kernel) ?_
      refine g_getr (n := 136) (ci := 1) (j := 8) (b := ((14) + 13)) rfl (by decide +kernel) (cf_hd c14) (cf_lt c14 (by decide)) (cf_r8 c14) ?_
      refine g_getv (n := 139) (ci := 6) (j := 1) (v := d 7) t7 rfl (by decide +kernel) rfl (by decide) (rw_hd (cf_w c14)) ?_
      refine g_iret (n := 140) rfl (fun h => nomatch h) ?_
      exact ⟨rfl, rfl, rfl⟩
    · rw [vCt_9]
      refine g_tab 140 rfl (by decide) (by decide) rfl (by decide) ?_
      refine g_aload_n (n := 141) rfl rfl ?_
      refine g_getr (n := 144) (ci := 11) (j := 6) (b := 111) rfl (by decide +kernel) (by decide) (by decide) (by decide +kernel) ?_
      refine g_geti (n := 147) (ci := 6) (j := 1) rfl (by decide +kernel) rfl (by decide) (by decide) ?_
      refine g_iret (n := 148) rfl (fun h => nomatch h) ?_
      exact ⟨rfl, rfl, rfl⟩
    · rw [vCt_10]
      refine g_tab 148 rfl (by decide) (by decide) rfl (by decide) ?_
      refine g_aload_n (n := 149) rfl rfl ?_
      refine g_getr (n := 152) (ci := 11) (j := 1) (b := (14)) rfl (by decide +kernel) (by decide) (by decide) (by decide +kernel) ?_
      refine g_getv (n := 155) (ci := 1) (j := 6) (v := d 4) (rK_n hR (j := 4) (by omega)) rfl (by decide +kernel) rfl (by decide) (cf_hd c14) ?_
      refine g_iret (n := 156) rfl (fun h => nomatch h) ?_
      exact ⟨rfl, rfl, rfl⟩
  ·
    rw [if_neg h, vCt_e h]
    refine g_tabo 156 rfl (by omega) (by decide) ?_
    refine g_aload_n (n := 157) rfl rfl ?_
    refine g_ldc (n := 159) (v := -1000000001) (pl := 419) rfl (by decide +kernel) ?_
    refine g_top (w := -1000000000 - nI 1) (by decide) ?_
    refine g_cv1 (n := 162) (t := 126) (ci := 11) rfl (by decide +kernel) (by decide +kernel) (by decide) (by decide) (by decide +kernel) (by rfl) (c_fail (k := 1) (by omega)) (by omega) (g_E ?_)
    refine g_iret (n := 163) rfl (fun h => nomatch h) ?_
    exact ⟨rfl, rfl, rfl⟩
def qIM (d : Nat → Int32) (I : mg_I) (nm : Nat) : Option Value → mg_I → Nat → Prop := fun r I' nm' => r = some (.int (I 5 4 + 1)) ∧ (rK I' 74 d ∧ tW I' 74 d ∧ I' 5 4 = I 5 4 + 1 ∧ ∀ a j, (a < 74 ∨ 104 ≤ a) → ¬ (a = 5 ∧ j = 4) → I' a j = I a j) ∧ nm' = nm
def qRS (d : Nat → Int32) (I : mg_I) (nm : Nat) : Option Value → mg_I → Nat → Prop := fun r I' nm' => r = some (.int (d 1)) ∧ (rK I' 14 d ∧ tW I' 14 d ∧ bH 14 I I') ∧ nm' = nm
theorem c_kImage {sc : List Value} {nm : Nat} {I : mg_I} {d : Nat → Int32} (hC : RC I d) (hw : gW d) (hA : aK I 74) : SP sc 5 120 [.ref 5] I nm (qIM d I nm) := by
  refine SP.of (h := 4) (t := 120) (q := (yX11_image, cX11_image, 1, (some .int), 11, 1033, mi_k120)) rfl (by decide) (show ¬ (1 : Nat) < 1 by decide) (fun dd hd => ?_)
  show GG sc 11 false false mi_k120 dd 0 [.ref 5] [] I nm (qIM d I nm)
  have hR := hC.1
  have hN8 := (rK_N hR).2
  refine g_aload_n (n := 1) rfl rfl ?_
  refine g_getr (n := 4) (ci := 11) (j := 3) (b := (74)) rfl (by decide +kernel) (by decide) (by decide) (by decide +kernel) ?_
  refine g_aload_n (n := 5) rfl rfl ?_
  refine g_getr (n := 8) (ci := 11) (j := 1) (b := (14)) rfl (by decide +kernel) (by decide) (by decide) (by decide +kernel) ?_
  refine g_cv1 (n := 11) (t := 6) (ci := 1) rfl (by decide +kernel) (by decide +kernel) (cf_hd c74) (cf_136 c74) (by decide +kernel) (by rfl) (c_ccopy c74 c14 (by decide) hA hR hC.2.1 hw) (by omega) (g_RC fun I1 hR1 hT1 hF1 => ?_)
  refine g_aload_n (n := 12) rfl rfl ?_
  refine g_dupa (n := 13) rfl ?_
  refine g_geti (n := 16) (ci := 11) (j := 4) rfl (by decide +kernel) rfl (by decide) (by decide) ?_
  refine g_iconst (n := 17) (v := 1) rfl rfl ?_
  refine g_iadd (n := 18) rfl ?_
  refine g_puti (n := 21) (ci := 11) (j := 4) rfl (by decide +kernel) rfl (by decide) (by decide) (by decide +kernel) rfl ?_
  refine g_aload_n (n := 22) rfl rfl ?_
  refine g_geti (n := 25) (ci := 11) (j := 4) rfl (by decide +kernel) rfl (by decide) (by decide) ?_
  refine g_iret (n := 26) rfl (fun h => nomatch h) ?_
  have e5 : I1 5 4 = I 5 4 := hF1 _ _ (by omega)
  refine ⟨congrArg (fun z => some (Value.int z)) (mf_at.trans (congrArg (fun z => z + 1) e5)), ⟨rK_cg (fun a j h1 h2 => mf_ne (by omega)) hR1, tW_of (fun a j h1 h2 => mf_ne (by omega)) (fun _ _ => rfl) hT1, mf_at.trans (congrArg (fun z => z + 1) e5), fun a j h1 h2 => (mf_ne (by omega)).trans (hF1 a j (by omega))⟩, rfl⟩
theorem c_kRestore0 {sc : List Value} {nm : Nat} {I : mg_I} (h0 : I 5 4 = 0) : SP sc 5 121 [.ref 5] I nm (qE (-1000000000 - nI 2) (jK1 I 2) nm) := by
  refine SP.of (h := 4) (t := 121) (q := (yX11_restore, cX11_restore, 1, (some .int), 11, 1037, mi_k121)) rfl (by decide) (show ¬ (1 : Nat) < 1 by decide) (fun dd hd => ?_)
  show GG sc 11 false false mi_k121 dd 0 [.ref 5] [] I nm (qE (-1000000000 - nI 2) (jK1 I 2) nm)
  refine g_aload_n (n := 1) rfl rfl ?_
  refine g_geti (n := 4) (ci := 11) (j := 4) rfl (by decide +kernel) rfl (by decide) (by decide) ?_
  refine g_ifne (n := 7) 14 rfl (by decide) (fun h1 => ?_) (fun h1 => ?_)
  ·
    exact absurd h0 h1
  ·
    refine g_aload_n (n := 8) rfl rfl ?_
    refine g_ldc (n := 10) (v := -1000000002) (pl := 850) rfl (by decide +kernel) ?_
    refine g_top (w := -1000000000 - nI 2) (by decide) ?_
    refine g_cv1 (n := 13) (t := 126) (ci := 11) rfl (by decide +kernel) (by decide +kernel) (by decide) (by decide) (by decide +kernel) (by rfl) (c_fail (k := 2) (by omega)) (by omega) (g_E ?_)
    refine g_iret (n := 14) rfl (fun h => nomatch h) ?_
    exact ⟨rfl, rfl, rfl⟩
theorem c_kRestore1 {sc : List Value} {nm : Nat} {I : mg_I} {d : Nat → Int32} (h0 : ¬ I 5 4 = 0) (hA : aK I 14) (hK : rK I 74 d) (hT : tW I 74 d) (hw : gW d) : SP sc 5 121 [.ref 5] I nm (qRS d I nm) := by
  refine SP.of (h := 4) (t := 121) (q := (yX11_restore, cX11_restore, 1, (some .int), 11, 1037, mi_k121)) rfl (by decide) (show ¬ (1 : Nat) < 1 by decide) (fun dd hd => ?_)
  show GG sc 11 false false mi_k121 dd 0 [.ref 5] [] I nm (qRS d I nm)
  refine g_aload_n (n := 1) rfl rfl ?_
  refine g_geti (n := 4) (ci := 11) (j := 4) rfl (by decide +kernel) rfl (by decide) (by decide) ?_
  refine g_ifne (n := 7) 14 rfl (by decide) (fun h1 => ?_) (fun h1 => ?_)
  ·
    refine g_aload_n (n := 15) rfl rfl ?_
    refine g_getr (n := 18) (ci := 11) (j := 1) (b := (14)) rfl (by decide +kernel) (by decide) (by decide) (by decide +kernel) ?_
    refine g_aload_n (n := 19) rfl rfl ?_
    refine g_getr (n := 22) (ci := 11) (j := 3) (b := (74)) rfl (by decide +kernel) (by decide) (by decide) (by decide +kernel) ?_
    refine g_cv1 (n := 25) (t := 6) (ci := 1) rfl (by decide +kernel) (by decide +kernel) (cf_hd c14) (cf_136 c14) (by decide +kernel) (by rfl) (c_ccopy c14 c74 (by decide) hA hK hT hw) (by omega) (g_RC fun I1 hR1 hT1 hF1 => ?_)
    refine g_aload_n (n := 26) rfl rfl ?_
    refine g_getr (n := 29) (ci := 11) (j := 1) (b := (14)) rfl (by decide +kernel) (by decide) (by decide) (by decide +kernel) ?_
    refine g_getv (n := 32) (ci := 1) (j := 3) (v := d 1) (rK_n hR1 (j := 1) (by omega)) rfl (by decide +kernel) rfl (by decide) (cf_hd c14) ?_
    refine g_iret (n := 33) rfl (fun h => nomatch h) ?_
    exact ⟨rfl, ⟨hR1, hT1, hF1⟩, rfl⟩
  ·
    exact absurd h1 h0
