/-! the class: who is at fault, what is told, what is fed, a new ledge -/
theorem rK_d {I : mg_I} {B : Nat} {d d' : Nat → Int32} (hs : iR (d 114) 51 ∧ iR (d 115) 51) (hd : ∀ j, j ≠ 6 → j ≠ 7 → ¬ (116 ≤ j ∧ j < 136) → j < 236 → d' j = d j) (h : rK I B d) : rK I B d' := by
  obtain ⟨h1, h2, h3, h4, h5, h10, h11⟩ := h
  have hN := (fN_eq h11).2
  have eN : fN d' = fN d := fN_c (hd 0 (by omega) (by omega) (by omega) (by omega))
  have eO : ∀ g w, g < 8 → w < 10 → fO d' g w = fO d g w := fun g w hg hw => hd _ (by omega) (by omega) (by omega) (by omega)
  refine ⟨fun j hj => ?_, fun y hy => ?_, fun k hk v hv => ?_, fun k hk => ?_, h5, fun u hu => ?_, ?_⟩
  · rw [hd _ (by omega) (by omega) (by omega) (by omega)]; exact h1 j hj
  · rw [hd _ (by omega) (by omega) (by omega) (by omega)]; exact h2 y hy
  · rw [eN] at hk; rw [eO _ _ (by omega) hv]; exact h3 k hk v hv
  · rw [eN] at hk; rw [fTb_c (d := d) (hd 5 (by omega) (by omega) (by omega) (by omega)), eO _ _ (by omega) (by omega), eO _ _ (by omega) (by omega)]; exact h4 k hk
  · obtain ⟨n, k1, k2, k3⟩ := h10 u hu
    refine ⟨n, k1, k2, fun a b c => ?_⟩
    rw [k3]
    refine (fGive_c (hd _ (by omega) (by omega) (by omega) (by omega)) (fun i hi => hd _ (by omega) (by omega) (by omega) ?_)).symm
    have hb : cl (d (114 + u)) < 51 := by
      rcases (show u = 0 ∨ u = 1 by omega) with rfl | rfl
      · exact cl_lt hs.1.1 hs.1.2
      · exact cl_lt hs.2.1 hs.2.2
    omega
  · rw [hd 0 (by omega) (by omega) (by omega) (by omega)]; exact h11
theorem gW_s {d : Nat → Int32} (hw : gW d) : iR (d 114) 51 ∧ iR (d 115) 51 := ⟨hw.1.2.1, hw.1.2.2.1⟩
theorem flt_or : ∀ f, f < 256 → ∀ k, k < 8 → f.testBit k = true → (nI (f % 2 ^ k) ||| fBit k) = nI (f % 2 ^ (k + 1)) := by decide +kernel
theorem flt_no : ∀ f, f < 256 → ∀ k, k < 8 → ¬ f.testBit k = true → f % 2 ^ k = f % 2 ^ (k + 1) := by decide +kernel
theorem fTb_t {d : Nat → Int32} {k : Nat} (h : ¬ fTb d k = 0) : (cl (d 5)).testBit k = true := bI_n h
theorem fTb_f {d : Nat → Int32} {k : Nat} (h : fTb d k = 0) : ¬ (cl (d 5)).testBit k = true := bI_0 h
theorem c_kFaults {sc : List Value} {nm : Nat} {I : mg_I} {d : Nat → Int32} (hC : RC I d) (h5 : iR (d 5) 256) (hfb : cl (d 5) < 2 ^ fN d) : SP sc 2 111 [.ref 5] I nm (qC I (oFaults d) nm) := by
  refine SP.of (h := 1) (t := 111) (q := (yX11_faults, cX11_faults, 3, (some .int), 11, 885, mi_k111)) rfl (by decide) (show ¬ (3 : Nat) < 1 by decide) (fun dd hd => ?_)
  show GG sc 11 false false mi_k111 dd 0 [.ref 5, .null, .null] [] I nm (qC I (oFaults d) nm)
  have hR := hC.1
  have hN8 := (rK_N hR).2
  have hf8 : cl (d 5) < 256 := cl_lt h5.1 h5.2
  have hf5 : nI (cl (d 5)) = d 5 := by obtain ⟨q, hq, e, hc⟩ := iR_nI h5; rw [show cl (d 5) = q from hc]; exact e.symm
  have H : ∀ (m k : Nat), k + m = fN d → GG sc 11 false false mi_k111 dd 4 [.ref 5, .int (nI (cl (d 5) % 2 ^ k)), .int (nI k)] [] I nm (qC I (oFaults d) nm) := by
    intro m
    induction m with
    | zero =>
      intro k hk
      refine g_iload_n (n := 5) rfl rfl ?_
      refine g_aload_n (n := 6) rfl rfl ?_
      refine g_getr (n := 9) (ci := 11) (j := 1) (b := (14)) rfl (by decide +kernel) (by decide) (by decide) (by decide +kernel) ?_
      refine g_getv (n := 12) (ci := 1) (j := 2) (v := nI (fN d)) ((rK_n hR (j := 0) (by omega)).trans (rK_N hR).1) rfl (by decide +kernel) rfl (by decide) (cf_hd c14) ?_
      refine g_icge (n := 15) 42 rfl (by decide) (fun h1 => ?_) (fun h1 => ?_)
      ·
        refine g_iload_n (n := 43) rfl rfl ?_
        refine g_iret (n := 44) rfl (fun h => nomatch h) ?_
        rw [show cl (d 5) % 2 ^ k = cl (d 5) from Nat.mod_eq_of_lt (by rw [show k = fN d by omega]; exact hfb), show nI (cl (d 5)) = d 5 from hf5]; exact qC_v hC cF.rfl'
      ·
        exact absurd (fN_nle rfl (by omega) (by omega) h1) (by omega)
    | succ m ih =>
      intro k hk
      refine g_iload_n (n := 5) rfl rfl ?_
      refine g_aload_n (n := 6) rfl rfl ?_
      refine g_getr (n := 9) (ci := 11) (j := 1) (b := (14)) rfl (by decide +kernel) (by decide) (by decide) (by decide +kernel) ?_
      refine g_getv (n := 12) (ci := 1) (j := 2) (v := nI (fN d)) ((rK_n hR (j := 0) (by omega)).trans (rK_N hR).1) rfl (by decide +kernel) rfl (by decide) (cf_hd c14) ?_
      refine g_icge (n := 15) 42 rfl (by decide) (fun h1 => ?_) (fun h1 => ?_)
      ·
        exact absurd (fN_le rfl (by omega) (by omega) h1) (by omega)
      ·
        refine g_aload_n (n := 16) rfl rfl ?_
        refine g_getr (n := 19) (ci := 11) (j := 1) (b := (14)) rfl (by decide +kernel) (by decide) (by decide) (by decide +kernel) ?_
        refine g_getr (n := 22) (ci := 1) (j := 1) (b := ((14) + 2)) rfl (by decide +kernel) (cf_hd c14) (cf_lt c14 (by decide)) (cf_r1 c14) ?_
        refine g_iload_n (n := 23) rfl rfl ?_
        refine g_aald (n := 24) (b := ((14) + 3 + k)) (k) rfl (cf_2a c14) (cf_2h c14) rfl (cf_2x c14 (by omega)) (cf_2r c14 (by omega)) ?_
        refine g_getv (n := 27) (ci := 4) (j := 11) (v := fTb d k) (rK_p11 hR (show k < fN d by omega)) rfl (by decide +kernel) rfl (by decide) (cf_gh c14 (show k < 8 by omega)) ?_
        refine g_ifeq (n := 30) 36 rfl (by decide) (fun h2 => ?_) (fun h2 => ?_)
        ·
          have hno := flt_no _ hf8 k (by omega) (fTb_f h2)
          refine g_iinc2 (n := 39) rfl rfl (nI_inc _) ?_
          refine g_goto 4 rfl (by decide) ?_
          rw [hno]
          exact ih (k + 1) (by omega)
        ·
          refine g_iload_n (n := 31) rfl rfl ?_
          refine g_iconst (n := 32) (v := 1) rfl rfl ?_
          refine g_iload_n (n := 33) rfl rfl ?_
          refine g_ishl (n := 34) rfl ?_
          refine g_ior (n := 35) rfl ?_
          refine g_top (w := nI (cl (d 5) % 2 ^ (k + 1))) (flt_or _ hf8 k (by omega) (fTb_t h2)) ?_
          refine g_istore_n1 (n := 36) rfl rfl ?_
          refine g_iinc2 (n := 39) rfl rfl (nI_inc _) ?_
          refine g_goto 4 rfl (by decide) ?_
          exact ih (k + 1) (by omega)
  refine g_iconst (n := 1) (v := 0) rfl rfl ?_
  refine g_istore_n1 (n := 2) rfl rfl ?_
  refine g_iconst (n := 3) (v := 0) rfl rfl ?_
  refine g_istore_n2 (n := 4) rfl rfl ?_
  have e0 : cl (d 5) % 2 ^ 0 = 0 := Nat.mod_one _
  have H0 := H (fN d) 0 (by omega)
  rw [e0] at H0
  exact H0
theorem tW_tell {I : mg_I} {d : Nat → Int32} {n m : Nat} {x : Int32} (hm : m < 20) (hn : n ≤ 50) (e6 : d 6 = nI n) (t1 : I (14 + 11) 1 = nI n) (t3 : ∀ k, k < n → I (14 + 12) k = d (236 + k)) (t4 : ∀ k, k < m → I (14 + 14) k = d (116 + k)) : tW (mf_up (mf_up I (14 + 13 + 1) m x) (14 + 13) 1 (nI (m + 1))) 14 (up (up d (116 + m) x) 7 (nI (m + 1))) := by
  refine ⟨n, m + 1, hn, by omega, by rw [up_ne (by omega), up_ne (by omega)]; exact e6, up_at, ?_, mf_at, fun k hk => ?_, fun k hk => ?_⟩
  · rw [mf_ne (by omega), mf_ne (by omega)]; exact t1
  · rw [mf_ne (by omega), mf_ne (by omega), up_ne (by omega), up_ne (by omega)]; exact t3 k hk
  · rw [mf_ne (by omega), up_ne (by omega)]
    by_cases e : k = m
    · subst e; rw [up_at]; exact mf_at
    · rw [mf_ne (by omega), up_ne (by omega)]; exact t4 k (by omega)
theorem tW_feed {I : mg_I} {d : Nat → Int32} {n m : Nat} {x : Int32} (hn : n < 50) (hm : m ≤ 20) (e7 : d 7 = nI m) (t2 : I (14 + 13) 1 = nI m) (t3 : ∀ k, k < n → I (14 + 12) k = d (236 + k)) (t4 : ∀ k, k < m → I (14 + 14) k = d (116 + k)) : tW (mf_up (mf_up I (14 + 11 + 1) n x) (14 + 11) 1 (nI (n + 1))) 14 (up (up d (236 + n) x) 6 (nI (n + 1))) := by
  refine ⟨n + 1, m, by omega, hm, up_at, by rw [up_ne (by omega), up_ne (by omega)]; exact e7, mf_at, ?_, fun k hk => ?_, fun k hk => ?_⟩
  · rw [mf_ne (by omega), mf_ne (by omega)]; exact t2
  · rw [mf_ne (by omega), up_ne (by omega)]
    by_cases e : k = n
    · subst e; rw [up_at]; exact mf_at
    · rw [mf_ne (by omega), up_ne (by omega)]; exact t3 k (by omega)
  · rw [mf_ne (by omega), mf_ne (by omega), up_ne (by omega), up_ne (by omega)]; exact t4 k hk
theorem RC_row {I : mg_I} {d d' : Nat → Int32} {n R : Nat} {x y : Int32} (hs : iR (d 114) 51 ∧ iR (d 115) 51) (hC : RC I d) (hR : 25 ≤ R ∧ R < 28) (hd : ∀ j, j ≠ 6 → j ≠ 7 → ¬ (116 ≤ j ∧ j < 136) → j < 236 → d' j = d j) (ht : tW (mf_up (mf_up I (R + 1) n x) R 1 y) 14 d') : RC (mf_up (mf_up I (R + 1) n x) R 1 y) d' := by
  have hR' : rK (mf_up (mf_up I (R + 1) n x) R 1 y) 14 d := by
    obtain ⟨h1, h2, h3, h4, ⟨h5, h6, h7, h8, h9⟩, h10, h11⟩ := hC.1
    have hN := (fN_eq h11).2
    refine ⟨fun j hj => ?_, fun y hy => ?_, fun k hk v hv => ?_, fun k hk => ?_, ⟨fun k hk => ?_, ?_, ?_, ?_, ?_⟩, fun u hu => ?_, h11⟩
    · rw [mf_ne (by omega), mf_ne (by omega)]; exact h1 j hj
    · rw [mf_ne (by omega), mf_ne (by omega)]; exact h2 y hy
    · rw [mf_ne (by omega), mf_ne (by omega)]; exact h3 k hk v hv
    · rw [mf_row (by omega), mf_row (by omega)]; exact h4 k hk
    · rw [mf_ne (by omega), mf_ne (by omega)]; exact h5 k hk
    · rw [mf_ne (by omega), mf_ne (by omega)]; exact h6
    · rw [mf_ne (by omega), mf_ne (by omega)]; exact h7
    · rw [mf_ne (by omega), mf_ne (by omega)]; exact h8
    · rw [mf_ne (by omega), mf_ne (by omega)]; exact h9
    · obtain ⟨n', k1, k2, k3⟩ := h10 u hu
      refine ⟨n', k1, by rw [mf_ne (by omega), mf_ne (by omega)]; exact k2, fun a b c => ?_⟩
      rw [mf_row (by omega), mf_row (by omega)]; exact k3 a b c
  exact ⟨rK_d hs hd hR', ht, aK_cg (fun a j h1 h2 => by rw [mf_ne (by omega), mf_ne (by omega)]) hC.2.2⟩
theorem c_kTell {sc : List Value} {nm : Nat} {I : mg_I} {d : Nat → Int32} (hC : RC I d) (hw : gW d) {x : Int32} : SP sc 3 122 [.ref 5, .int x] I nm (qC I (oTell d x) nm) := by
  refine SP.of (h := 2) (t := 122) (q := (yX11_tell, cX11_tell, 2, (some .int), 11, 1041, mi_k122)) rfl (by decide) (show ¬ (2 : Nat) < 2 by decide) (fun dd hd => ?_)
  show GG sc 11 false false mi_k122 dd 0 [.ref 5, .int x] [] I nm (qC I (oTell d x) nm)
  have hR := hC.1
  have hN8 := (rK_N hR).2
  refine g_aload_n (n := 1) rfl rfl ?_
  refine g_getr (n := 4) (ci := 11) (j := 1) (b := (14)) rfl (by decide +kernel) (by decide) (by decide) (by decide +kernel) ?_
  refine g_getr (n := 7) (ci := 1) (j := 8) (b := ((14) + 13)) rfl (by decide +kernel) (cf_hd c14) (cf_lt c14 (by decide)) (cf_r8 c14) ?_
  refine g_iload_n (n := 8) rfl rfl ?_
  obtain ⟨n, m, hn, hm, e6, e7, t1, t2, t3, t4⟩ := hC.2.1
  have hcm : cl (d 7) = m := by rw [e7]; exact nI_clamp (by omega)
  by_cases hm2 : m = 20
  ·
    refine g_cv1 (n := 11) (t := 54) (ci := 6) rfl (by decide +kernel) (by decide +kernel) (rw_hd (cf_w c14)) (rw_136 (cf_w c14)) (by decide +kernel) (by rfl) (c_raddF (cf_w c14) t2 hm2) (by omega) (g_E ?_)
    refine g_ifeq0 (n := 14) 27 rfl (by decide) ?_
    have h20 : d 7 = 20 := by rw [e7, hm2]; rfl
    refine g_aload_n (n := 28) rfl rfl ?_
    refine g_ldc (n := 30) (v := -1000000004) (pl := 435) rfl (by decide +kernel) ?_
    refine g_top (w := -1000000000 - nI 4) (by decide) ?_
    refine g_cv1 (n := 33) (t := 126) (ci := 11) rfl (by decide +kernel) (by decide +kernel) (by decide) (by decide) (by decide +kernel) (by rfl) (c_fail (k := 4) (by omega)) (by omega) (g_E ?_)
    refine g_iret (n := 34) rfl (fun h => nomatch h) ?_
    unfold oTell
    repeat (first | rw [if_pos (by first | omega | assumption)] | rw [if_neg (by first | omega | assumption)])
    exact qC_e (by omega) hC cF.rfl'
  ·
    refine g_cv1 (n := 11) (t := 54) (ci := 6) rfl (by decide +kernel) (by decide +kernel) (rw_hd (cf_w c14)) (rw_136 (cf_w c14)) (by decide +kernel) (by rfl) (c_radd (cf_w c14) t2 (by omega)) (by omega) (g_E ?_)
    refine g_ifeq1 (n := 14) 27 rfl (by decide) ?_
    have h20 : ¬ d 7 = 20 := fun q => hm2 ((nI_eq (b := 20) (by omega) (by omega)).mp (e7.symm.trans q))
    refine g_aload_n (n := 15) rfl rfl ?_
    refine g_getr (n := 18) (ci := 11) (j := 1) (b := (14)) rfl (by decide +kernel) (by decide) (by decide) (by decide +kernel) ?_
    refine g_getr (n := 21) (ci := 1) (j := 8) (b := ((14) + 13)) rfl (by decide +kernel) (cf_hd c14) (cf_lt c14 (by decide)) (cf_r8 c14) ?_
    refine g_getv (n := 24) (ci := 6) (j := 1) (v := nI (m + 1)) mf_at rfl (by decide +kernel) rfl (by decide) (rw_hd (cf_w c14)) ?_
    refine g_goto 33 rfl (by decide) ?_
    refine g_iret (n := 34) rfl (fun h => nomatch h) ?_
    unfold oTell
    repeat (first | rw [if_pos (by first | omega | assumption)] | rw [if_neg (by first | omega | assumption)])
    rw [hcm]; exact qC_v (RC_row (gW_s hw) hC (by omega) (fun j a1 a2 a3 a4 => by rw [up_ne (by omega), up_ne (by omega)]) (tW_tell (by omega) hn e6 t1 t3 t4)) (cF_mf (cF_mf cF.rfl' (by omega)) (by omega))
theorem tW_clr {I : mg_I} {d : Nat → Int32} (h : tW I 14 d) : tW (mf_up I (14 + 13) 1 0) 14 (up d 7 0) := by
  obtain ⟨n, m, hn, hm, e6, e7, t1, t2, t3, t4⟩ := h
  refine ⟨n, 0, hn, by omega, by rw [up_ne (by omega)]; exact e6, up_at, ?_, mf_at, fun k hk => ?_, fun k hk => absurd hk (by omega)⟩
  · rw [mf_ne (by omega)]; exact t1
  · rw [mf_ne (by omega), up_ne (by omega)]; exact t3 k hk
theorem RC_clr {I : mg_I} {d : Nat → Int32} (hs : iR (d 114) 51 ∧ iR (d 115) 51) (hC : RC I d) : RC (mf_up I (14 + 13) 1 0) (up d 7 0) := by
  refine ⟨rK_d hs (fun j a1 a2 a3 a4 => up_ne (by omega)) ?_, tW_clr hC.2.1, aK_cg (fun a j h1 h2 => mf_ne (by omega)) hC.2.2⟩
  obtain ⟨h1, h2, h3, h4, ⟨h5, h6, h7, h8, h9⟩, h10, h11⟩ := hC.1
  have hN := (fN_eq h11).2
  refine ⟨fun j hj => ?_, fun y hy => ?_, fun k hk v hv => ?_, fun k hk => ?_, ⟨fun k hk => ?_, ?_, ?_, ?_, ?_⟩, fun u hu => ?_, h11⟩
  · rw [mf_ne (by omega)]; exact h1 j hj
  · rw [mf_ne (by omega)]; exact h2 y hy
  · rw [mf_ne (by omega)]; exact h3 k hk v hv
  · rw [mf_row (by omega)]; exact h4 k hk
  · rw [mf_ne (by omega)]; exact h5 k hk
  · rw [mf_ne (by omega)]; exact h6
  · rw [mf_ne (by omega)]; exact h7
  · rw [mf_ne (by omega)]; exact h8
  · rw [mf_ne (by omega)]; exact h9
  · obtain ⟨n', k1, k2, k3⟩ := h10 u hu
    refine ⟨n', k1, by rw [mf_ne (by omega)]; exact k2, fun a b c => ?_⟩
    rw [mf_row (by omega)]; exact k3 a b c
theorem RC_44 {I J : mg_I} {d d2 : Nat → Int32} (hC : RC I d) (h : bF 44 I J) (hA : rK J 44 d2) : RC J d := RC_a hC (bF_h h) hA
theorem c_kCheck {sc : List Value} {nm : Nat} {I : mg_I} {d : Nat → Int32} (hC : RC I d) (hw : gW d) (hv : gV d) : SP sc 13 123 [.ref 5] I nm (qC I (oCheck d) nm) := by
  refine SP.of (h := 12) (t := 123) (q := (yX11_check, cX11_check, 3, (some .int), 11, 1045, mi_k123)) rfl (by decide) (show ¬ (3 : Nat) < 1 by decide) (fun dd hd => ?_)
  show GG sc 11 false false mi_k123 dd 0 [.ref 5, .null, .null] [] I nm (qC I (oCheck d) nm)
  have hR := hC.1
  have hN8 := (rK_N hR).2
  obtain ⟨tn, mm, hn, hm, e6, e7, t1, t2, t3, t4⟩ := hC.2.1
  have hcm : cl (d 7) = mm := by rw [e7]; exact nI_clamp (by omega)
  unfold oCheck
  rw [hcm]
  generalize hFe : fChk d mm 0 (up d 7 0) = F
  have X : ∀ (J : mg_I) (x : Int32) {x2 : Value}, RC J d → cF I J → GG sc 11 false false mi_k123 dd 74 [.ref 5, .int x, x2] [] J nm (qC I (0, x, up d 7 0) nm) := by
    intro J x x2 hC2 hF
    refine g_aload_n (n := 75) rfl rfl ?_
    refine g_getr (n := 78) (ci := 11) (j := 1) (b := (14)) rfl (by decide +kernel) (by decide) (by decide) (by decide +kernel) ?_
    refine g_getr (n := 81) (ci := 1) (j := 8) (b := ((14) + 13)) rfl (by decide +kernel) (cf_hd c14) (cf_lt c14 (by decide)) (cf_r8 c14) ?_
    refine g_cv0 (n := 84) (t := 57) (ci := 6) rfl (by decide +kernel) (by decide +kernel) (rw_hd (cf_w c14)) (rw_136 (cf_w c14)) (by decide +kernel) (by rfl) (c_rclear (cf_w c14)) (by omega) (g_Z ?_)
    refine g_iload_n (n := 85) rfl rfl ?_
    refine g_iret (n := 86) rfl (fun h => nomatch h) ?_
    exact qC_v (RC_clr (gW_s hw) hC2) (cF_mf hF (by omega))
  have H : ∀ (m k : Nat) (dk : Nat → Int32) (J : mg_I), k + m = mm → RC J d → rK J 44 dk → gW dk → gV dk → cF I J → fChk d m k dk = F → GG sc 11 false false mi_k123 dd 15 [.ref 5, .int 0, .int (nI k)] [] J nm (qC I (0, F, up d 7 0) nm) := by
    intro m
    induction m with
    | zero =>
      intro k dk J hk hC2 hR2 hwk hvk hF hf
      have t2 : J (14 + 13) 1 = nI mm := by obtain ⟨n', m', hn', hm', e6', e7', t1', t2', t3', t4'⟩ := hC2.2.1; exact t2'.trans (e7'.symm.trans e7)
      have t4 : ∀ k, k < mm → J (14 + 14) k = d (116 + k) := by obtain ⟨n', m', hn', hm', e6', e7', t1', t2', t3', t4'⟩ := hC2.2.1; have e : mm = m' := (nI_eq (by omega) (by omega)).mp (e7.symm.trans e7'); subst e; exact t4'
      refine g_iload_n (n := 16) rfl rfl ?_
      refine g_aload_n (n := 17) rfl rfl ?_
      refine g_getr (n := 20) (ci := 11) (j := 1) (b := (14)) rfl (by decide +kernel) (by decide) (by decide) (by decide +kernel) ?_
      refine g_getr (n := 23) (ci := 1) (j := 8) (b := ((14) + 13)) rfl (by decide +kernel) (cf_hd c14) (cf_lt c14 (by decide)) (cf_r8 c14) ?_
      refine g_getv (n := 26) (ci := 6) (j := 1) (v := nI mm) t2 rfl (by decide +kernel) rfl (by decide) (rw_hd (cf_w c14)) ?_
      refine g_icge (n := 29) 74 rfl (by decide) (fun h1 => ?_) (fun h1 => ?_)
      ·
        rw [show F = 0 from hf.symm]
        exact X J 0 hC2 hF
      ·
        exact absurd (fN_nle rfl (by omega) (by omega) h1) (by omega)
    | succ m ih =>
      intro k dk J hk hC2 hR2 hwk hvk hF hf
      have t2 : J (14 + 13) 1 = nI mm := by obtain ⟨n', m', hn', hm', e6', e7', t1', t2', t3', t4'⟩ := hC2.2.1; exact t2'.trans (e7'.symm.trans e7)
      have t4 : ∀ k, k < mm → J (14 + 14) k = d (116 + k) := by obtain ⟨n', m', hn', hm', e6', e7', t1', t2', t3', t4'⟩ := hC2.2.1; have e : mm = m' := (nI_eq (by omega) (by omega)).mp (e7.symm.trans e7'); subst e; exact t4'
      refine g_iload_n (n := 16) rfl rfl ?_
      refine g_aload_n (n := 17) rfl rfl ?_
      refine g_getr (n := 20) (ci := 11) (j := 1) (b := (14)) rfl (by decide +kernel) (by decide) (by decide) (by decide +kernel) ?_
      refine g_getr (n := 23) (ci := 1) (j := 8) (b := ((14) + 13)) rfl (by decide +kernel) (cf_hd c14) (cf_lt c14 (by decide)) (cf_r8 c14) ?_
      refine g_getv (n := 26) (ci := 6) (j := 1) (v := nI mm) t2 rfl (by decide +kernel) rfl (by decide) (rw_hd (cf_w c14)) ?_
      refine g_icge (n := 29) 74 rfl (by decide) (fun h1 => ?_) (fun h1 => ?_)
      ·
        exact absurd (fN_le rfl (by omega) (by omega) h1) (by omega)
      ·
        refine g_iload_n (n := 30) rfl rfl ?_
        refine g_ifne0 (n := 33) 74 rfl (by decide) ?_
        refine g_aload_n (n := 34) rfl rfl ?_
        refine g_getr (n := 37) (ci := 11) (j := 2) (b := (44)) rfl (by decide +kernel) (by decide) (by decide) (by decide +kernel) ?_
        refine g_iconst (n := 38) (v := 0) rfl rfl ?_
        refine g_cv1 (n := 41) (t := 17) (ci := 1) rfl (by decide +kernel) (by decide +kernel) (cf_hd c44) (cf_136 c44) (by decide +kernel) (by rfl) (c_pass c44 hR2 (fog := 0) hwk hvk) (by omega) (g_RB fun I3 hR3 hF2 => ?_)
        refine g_popi (n := 42) rfl ?_
        refine g_aload_n (n := 43) rfl rfl ?_
        refine g_getr (n := 46) (ci := 11) (j := 1) (b := (14)) rfl (by decide +kernel) (by decide) (by decide) (by decide +kernel) ?_
        refine g_getr (n := 49) (ci := 1) (j := 8) (b := ((14) + 13)) rfl (by decide +kernel) (cf_hd c14) (cf_lt c14 (by decide)) (cf_r8 c14) ?_
        refine g_iload_n (n := 50) rfl rfl ?_
        refine g_cv1 (n := 53) (t := 52) (ci := 6) rfl (by decide +kernel) (by decide +kernel) (rw_hd (cf_w c14)) (rw_136 (cf_w c14)) (by decide +kernel) (by rfl) (c_rat (cf_w c14) ((hF2 _ _ (by omega)).trans t2) (k := k) (by omega) (by omega)) (by omega) (g_E ?_)
        refine g_top (w := d (116 + k)) ((hF2 _ _ (by omega)).trans (t4 k (by omega))) ?_
        refine g_aload_n (n := 54) rfl rfl ?_
        refine g_getr (n := 57) (ci := 11) (j := 2) (b := (44)) rfl (by decide +kernel) (by decide) (by decide) (by decide +kernel) ?_
        refine g_iconst (n := 58) (v := 2) rfl rfl ?_
        refine g_cv1 (n := 61) (t := 13) (ci := 1) rfl (by decide +kernel) (by decide +kernel) (cf_hd c44) (cf_136 c44) (by decide +kernel) (by rfl) (c_cHow c44 hR3) (by omega) (g_E ?_)
        refine g_iceq (n := 64) 68 rfl (by decide) (fun h2 => ?_) (fun h2 => ?_)
        ·
          have hf2 : fChk d m (k + 1) (fMin dk 0) = F := by rw [← hf, fChk, if_pos h2.symm]
          refine g_iinc2 (n := 71) rfl rfl (nI_inc _) ?_
          refine g_goto 15 rfl (by decide) ?_
          exact ih (k + 1) (fMin dk 0) I3 (by omega) (RC_44 hC2 hF2 hR3) hR3 (gW_min hwk) (gV_min hwk hvk) (hF.trans (cF_44 hF2)) hf2
        ·
          have hf2 : nI (1 + k) = F := by rw [← hf, fChk, if_neg (fun q => h2 q.symm)]
          refine g_iconst (n := 65) (v := 1) rfl rfl ?_
          refine g_iload_n (n := 66) rfl rfl ?_
          refine g_iaddN (n := 67) (x := 1) (y := k) rfl ?_
          refine g_istore_n1 (n := 68) rfl rfl ?_
          refine g_iinc2 (n := 71) rfl rfl (nI_inc _) ?_
          refine g_goto 15 rfl (by decide) ?_
          rw [← hf2]
          refine g_iload_n (n := 16) rfl rfl ?_
          refine g_aload_n (n := 17) rfl rfl ?_
          refine g_getr (n := 20) (ci := 11) (j := 1) (b := (14)) rfl (by decide +kernel) (by decide) (by decide) (by decide +kernel) ?_
          refine g_getr (n := 23) (ci := 1) (j := 8) (b := ((14) + 13)) rfl (by decide +kernel) (cf_hd c14) (cf_lt c14 (by decide)) (cf_r8 c14) ?_
          refine g_getv (n := 26) (ci := 6) (j := 1) (v := nI mm) ((hF2 _ _ (by omega)).trans t2) rfl (by decide +kernel) rfl (by decide) (rw_hd (cf_w c14)) ?_
          refine g_icge (n := 29) 74 rfl (by decide) (fun h1 => ?_) (fun h1 => ?_)
          ·
            exact X I3 _ (RC_44 hC2 hF2 hR3) (hF.trans (cF_44 hF2))
          ·
            refine g_iload_n (n := 30) rfl rfl ?_
            refine g_ifne (n := 33) 74 rfl (by decide) (fun h2 => ?_) (fun h2 => ?_)
            ·
              exact X I3 _ (RC_44 hC2 hF2 hR3) (hF.trans (cF_44 hF2))
            ·
              exact absurd ((nI_eq (b := 0) (by omega) (by omega)).mp h2) (by omega)
  refine g_iconst (n := 1) (v := 0) rfl rfl ?_
  refine g_istore_n1 (n := 2) rfl rfl ?_
  refine g_aload_n (n := 3) rfl rfl ?_
  refine g_getr (n := 6) (ci := 11) (j := 2) (b := (44)) rfl (by decide +kernel) (by decide) (by decide) (by decide +kernel) ?_
  refine g_aload_n (n := 7) rfl rfl ?_
  refine g_getr (n := 10) (ci := 11) (j := 1) (b := (14)) rfl (by decide +kernel) (by decide) (by decide) (by decide +kernel) ?_
  refine g_cv1 (n := 13) (t := 6) (ci := 1) rfl (by decide +kernel) (by decide +kernel) (cf_hd c44) (cf_136 c44) (by decide +kernel) (by rfl) (c_ccopy c44 c14 (by decide) hC.2.2 hR hC.2.1 hw) (by omega) (g_RC fun I1 hR1 hT1 hF1 => ?_)
  refine g_iconst (n := 14) (v := 0) rfl rfl ?_
  refine g_istore_n2 (n := 15) rfl rfl ?_
  exact H mm 0 (up d 7 0) I1 (by omega) (RC_a hC hF1 hR1) (rK_d (gW_s hw) (fun j a1 a2 a3 a4 => up_ne (by omega)) hR1) (gW_up hw (by omega)) (gV_up hv (by omega)) (cF_h hF1) hFe
