/-! the class: run till over, run till stuck; copies -/
def qRO (v : Int32) (p : (Nat → Int32) → Prop) (B : Nat) (I : mg_I) (nm : Nat) : Option Value → mg_I → Nat → Prop := fun r I' nm' => r = some (.int v) ∧ (∃ d', rK I' B d' ∧ bF B I I' ∧ p d') ∧ nm' = nm
theorem g_RO {sc : List Value} {own : Nat} {ini rz : Bool} {code : List (Nat × Instr)} {dd n : Nat} {ls r : List Value} {I : mg_I} {nm0 B : Nat} {v : Int32} {p : (Nat → Int32) → Prop} {Q : Option Value → mg_I → Nat → Prop} (k : ∀ d' I', rK I' B d' → bF B I I' → p d' → GG sc own ini rz code dd n ls (.int v :: r) I' nm0 Q) : ∀ a I2 nm2, qRO v p B I nm0 a I2 nm2 → GG sc own ini rz code dd n ls (a.toList ++ r) I2 nm2 Q := by
  rintro a I2 nm2 ⟨rfl, ⟨d', h1, h2, h3⟩, rfl⟩
  exact k d' I2 h1 h2 h3
theorem lt_300 {k : Nat} (hk : k < 2 ^ 31) : (300 : Int32) < nI k ↔ 300 < k := by
  show nI 300 < nI k ↔ _
  rw [Int32.lt_iff_toInt_lt, nI_toInt (by omega), nI_toInt hk]
  omega
theorem iR_up {x : Int32} {n : Nat} (h : iR x n) (hn : n < 100000) : iR (x + 1) (n + 1) := by
  have t := i32_1 (x := x) ⟨h.1, by have := h.2; omega⟩
  exact ⟨by rw [t]; have := h.1; omega, by rw [t]; have := h.2; omega⟩
theorem c_runOver {sc : List Value} {nm : Nat} {I : mg_I} {B : Nat} {d : Nat → Int32} (hB : isCliff B) (hR : rK I B d) (hw : gW d) (hv : gV d) (h1 : iR (d 1) 10000) : SP sc 11 26 [.ref B] I nm (qRO (fOB d).1 (fun d' => 0 ≤ (fOB d).1 → d' 3 = (fOB d).2) B I nm) := by
  refine SP.of (h := 10) (t := 26) (q := (yX1_runTillOver, cX1_runTillOver, 2, (some .int), 1, 835, mi_k26)) rfl (by decide) (show ¬ (2 : Nat) < 1 by decide) (fun dd hd => ?_)
  show GG sc 1 false false mi_k26 dd 0 [.ref B, .null] [] I nm (qRO (fOB d).1 (fun d' => 0 ≤ (fOB d).1 → d' 3 = (fOB d).2) B I nm)
  have hN8 := (rK_N hR).2
  show GG _ _ _ _ _ _ _ _ _ _ _ _
  have hF0 : fOv 301 0 d = fOB d := rfl
  generalize fOB d = F at hF0 ⊢
  have H : ∀ (m k : Nat) (d : Nat → Int32) (I1 : mg_I), k + m = 301 → rK I1 B d → gW d → gV d → iR (d 1) (70000 + k) → bF B I I1 → fOv m k d = F → GG sc 1 false false mi_k26 dd 2 [.ref B, .int (nI k)] [] I1 nm (qRO F.1 (fun d' => 0 ≤ F.1 → d' 3 = F.2) B I nm) := by
    intro m
    induction m with
    | zero =>
      intro k d I1 hk hR hw hv hi1 hF hf
      have hN9 : iR (d 0) 9 := hR.2.2.2.2.2.2
      refine g_iload_n (n := 3) rfl rfl ?_
      refine g_sipush (n := 6) (v := 300) rfl rfl ?_
      refine g_icgt (n := 9) 41 rfl (by decide) (fun h1 => ?_) (fun h1 => ?_)
      ·
        refine g_iconst (n := 42) (v := -1) rfl rfl ?_
        refine g_iret (n := 43) rfl (fun h => nomatch h) ?_
        have hm1 : F.1 = -1 := (congrArg Prod.fst hf).symm.trans rfl
        rw [hm1]; exact ⟨rfl, ⟨d, hR, hF, fun q => absurd q (by decide)⟩, rfl⟩
      ·
        exact absurd ((lt_300 (by omega)).mpr (by omega)) h1
    | succ m ih =>
      intro k d I1 hk hR hw hv hi1 hF hf
      have hN9 : iR (d 0) 9 := hR.2.2.2.2.2.2
      refine g_iload_n (n := 3) rfl rfl ?_
      refine g_sipush (n := 6) (v := 300) rfl rfl ?_
      refine g_icgt (n := 9) 41 rfl (by decide) (fun h1 => ?_) (fun h1 => ?_)
      ·
        exact absurd ((lt_300 (by omega)).mp h1) (by omega)
      ·
        refine g_aload_n (n := 10) rfl rfl ?_
        refine g_cv0 (n := 13) (t := 24) (ci := 1) rfl (by decide +kernel) (by decide +kernel) (cf_hd hB) (cf_136 hB) (by decide +kernel) (by rfl) (c_cAll hB hR) (by omega) (g_E ?_)
        refine g_ifeq (n := 16) 18 rfl (by decide) (fun h2 => ?_) (fun h2 => ?_)
        ·
          have hno : ¬ d 0 ≤ fMany d 2 := fun q => bI_0 h2 ((many_lt hN9).mp q)
          have hf2 : fOv m (k + 1) (fMin d 0) = F := by rw [← hf, fOv, if_neg hno]
          refine g_aload_n (n := 19) rfl rfl ?_
          refine g_iconst (n := 20) (v := 0) rfl rfl ?_
          refine g_cv1 (n := 23) (t := 17) (ci := 1) rfl (by decide +kernel) (by decide +kernel) (cf_hd hB) (cf_136 hB) (by decide +kernel) (by rfl) (c_pass hB hR (fog := 0) hw hv) (by omega) (g_RB fun I2 hR2 hF2 => ?_)
          refine g_ifne (n := 26) 35 rfl (by decide) (fun h3 => ?_) (fun h3 => ?_)
          ·
            refine g_iinc1 (n := 38) rfl rfl (nI_inc _) ?_
            refine g_goto 2 rfl (by decide) ?_
            exact ih (k + 1) (fMin d 0) I2 (by omega) hR2 (gW_min hw) (gV_min hw hv) (by rw [fMin_1]; exact iR_up (n := 70000 + k) hi1 (by omega)) (hF.trans hF2) hf2
          ·
            refine g_aload_n (n := 27) rfl rfl ?_
            refine g_cv0 (n := 30) (t := 25) (ci := 1) rfl (by decide +kernel) (by decide +kernel) (cf_hd hB) (cf_136 hB) (by decide +kernel) (by rfl) (c_cLater hB hR2) (by omega) (g_E ?_)
            refine g_ifne (n := 33) 35 rfl (by decide) (fun h4 => ?_) (fun h4 => ?_)
            ·
              refine g_iinc1 (n := 38) rfl rfl (nI_inc _) ?_
              refine g_goto 2 rfl (by decide) ?_
              exact ih (k + 1) (fMin d 0) I2 (by omega) hR2 (gW_min hw) (gV_min hw hv) (by rw [fMin_1]; exact iR_up (n := 70000 + k) hi1 (by omega)) (hF.trans hF2) hf2
            ·
              have hs : pStl d := ⟨bP_0 h3, fun q => bP_0 h4 (by rw [fN_min]; exact q)⟩
              refine g_iconst (n := 34) (v := -1) rfl rfl ?_
              refine g_iret (n := 35) rfl (fun h => nomatch h) ?_
              have hm1 : F.1 = -1 := (congrArg Prod.fst hf2).symm.trans (fOv_still m (k + 1) d ⟨hi1.1, by have := hi1.2; omega⟩ (by omega) hno hs)
              rw [hm1]; exact ⟨rfl, ⟨fMin d 0, hR2, hF.trans hF2, fun q => absurd q (by decide)⟩, rfl⟩
        ·
          have hyes : d 0 ≤ fMany d 2 := (many_lt hN9).mpr (bI_n h2)
          have hf2 : (nI k, d 3) = F := by rw [← hf, fOv, if_pos hyes]
          refine g_iload_n (n := 17) rfl rfl ?_
          refine g_iret (n := 18) rfl (fun h => nomatch h) ?_
          rw [← hf2]; exact ⟨rfl, ⟨d, hR, hF, fun _ => rfl⟩, rfl⟩
  refine g_iconst (n := 1) (v := 0) rfl rfl ?_
  refine g_istore_n1 (n := 2) rfl rfl ?_
  exact H 301 0 d I rfl hR hw hv ⟨h1.1, by have := h1.2; omega⟩ bF.rfl' hF0
theorem c_runStuck {sc : List Value} {nm : Nat} {I : mg_I} {B : Nat} {d : Nat → Int32} (hB : isCliff B) (hR : rK I B d) (hw : gW d) (hv : gV d) : SP sc 11 27 [.ref B] I nm (qRO (fStk 301 0 d) (fun _ => True) B I nm) := by
  refine SP.of (h := 10) (t := 27) (q := (yX1_runTillStuck, cX1_runTillStuck, 3, (some .int), 1, 858, mi_k27)) rfl (by decide) (show ¬ (3 : Nat) < 1 by decide) (fun dd hd => ?_)
  show GG sc 1 false false mi_k27 dd 0 [.ref B, .null, .null] [] I nm (qRO (fStk 301 0 d) (fun _ => True) B I nm)
  have hN8 := (rK_N hR).2
  have hF0 : fStk 301 0 d = fStk 301 0 d := rfl
  generalize hFe : fStk 301 0 d = F at hF0 ⊢
  have H : ∀ (m k : Nat) (d : Nat → Int32) (I1 : mg_I) {x2 : Value}, k + m = 301 → rK I1 B d → gW d → gV d → bF B I I1 → fStk m k d = F → GG sc 1 false false mi_k27 dd 2 [.ref B, .int (nI k), x2] [] I1 nm (qRO F (fun _ => True) B I nm) := by
    intro m
    induction m with
    | zero =>
      intro k d I1 x2 hk hR hw hv hF hf
      have hN9 : iR (d 0) 9 := hR.2.2.2.2.2.2
      refine g_iload_n (n := 3) rfl rfl ?_
      refine g_sipush (n := 6) (v := 300) rfl rfl ?_
      refine g_icgt (n := 9) 49 rfl (by decide) (fun h1 => ?_) (fun h1 => ?_)
      ·
        refine g_iconst (n := 50) (v := -1) rfl rfl ?_
        refine g_iret (n := 51) rfl (fun h => nomatch h) ?_
        rw [← hf]; exact ⟨rfl, ⟨d, hR, hF, trivial⟩, rfl⟩
      ·
        exact absurd ((lt_300 (by omega)).mpr (by omega)) h1
    | succ m ih =>
      intro k d I1 x2 hk hR hw hv hF hf
      have hN9 : iR (d 0) 9 := hR.2.2.2.2.2.2
      refine g_iload_n (n := 3) rfl rfl ?_
      refine g_sipush (n := 6) (v := 300) rfl rfl ?_
      refine g_icgt (n := 9) 49 rfl (by decide) (fun h1 => ?_) (fun h1 => ?_)
      ·
        exact absurd ((lt_300 (by omega)).mp h1) (by omega)
      ·
        refine g_aload_n (n := 10) rfl rfl ?_
        refine g_cv0 (n := 13) (t := 24) (ci := 1) rfl (by decide +kernel) (by decide +kernel) (cf_hd hB) (cf_136 hB) (by decide +kernel) (by rfl) (c_cAll hB hR) (by omega) (g_E ?_)
        refine g_ifne (n := 16) 27 rfl (by decide) (fun h2 => ?_) (fun h2 => ?_)
        ·
          have hmay : ¬ pMay d (fN d) := fun q => ((may_iff hN9).mp q).1 (bI_n h2)
          refine g_iconst (n := 28) (v := 0) rfl rfl ?_
          refine g_istore_n2 (n := 29) rfl rfl ?_
          refine g_aload_n (n := 30) rfl rfl ?_
          refine g_iconst (n := 31) (v := 0) rfl rfl ?_
          refine g_cv1 (n := 34) (t := 17) (ci := 1) rfl (by decide +kernel) (by decide +kernel) (cf_hd hB) (cf_136 hB) (by decide +kernel) (by rfl) (c_pass hB hR (fog := 0) hw hv) (by omega) (g_RB fun I2 hR2 hF2 => ?_)
          refine g_ifne (n := 37) 43 rfl (by decide) (fun h3 => ?_) (fun h3 => ?_)
          ·
            refine g_iinc1 (n := 46) rfl rfl (nI_inc _) ?_
            refine g_goto 2 rfl (by decide) ?_
            exact ih (k + 1) (fMin d 0) I2 (by omega) hR2 (gW_min hw) (gV_min hw hv) (hF.trans hF2) ((fStk_f (fun q => (same_iff hN9).mp q.2 (bP_n h3))).symm.trans hf)
          ·
            refine g_iload_n (n := 38) rfl rfl ?_
            refine g_ifeq0 (n := 41) 43 rfl (by decide) ?_
            refine g_iinc1 (n := 46) rfl rfl (nI_inc _) ?_
            refine g_goto 2 rfl (by decide) ?_
            exact ih (k + 1) (fMin d 0) I2 (by omega) hR2 (gW_min hw) (gV_min hw hv) (hF.trans hF2) ((fStk_f (fun q => hmay q.1)).symm.trans hf)
        ·
          refine g_aload_n (n := 17) rfl rfl ?_
          refine g_cv0 (n := 20) (t := 25) (ci := 1) rfl (by decide +kernel) (by decide +kernel) (cf_hd hB) (cf_136 hB) (by decide +kernel) (by rfl) (c_cLater hB hR) (by omega) (g_E ?_)
          refine g_ifne (n := 23) 27 rfl (by decide) (fun h4 => ?_) (fun h4 => ?_)
          ·
            have hmay : ¬ pMay d (fN d) := fun q => ((may_iff hN9).mp q).2 (bP_n h4)
            refine g_iconst (n := 28) (v := 0) rfl rfl ?_
            refine g_istore_n2 (n := 29) rfl rfl ?_
            refine g_aload_n (n := 30) rfl rfl ?_
            refine g_iconst (n := 31) (v := 0) rfl rfl ?_
            refine g_cv1 (n := 34) (t := 17) (ci := 1) rfl (by decide +kernel) (by decide +kernel) (cf_hd hB) (cf_136 hB) (by decide +kernel) (by rfl) (c_pass hB hR (fog := 0) hw hv) (by omega) (g_RB fun I2 hR2 hF2 => ?_)
            refine g_ifne (n := 37) 43 rfl (by decide) (fun h5 => ?_) (fun h5 => ?_)
            ·
              refine g_iinc1 (n := 46) rfl rfl (nI_inc _) ?_
              refine g_goto 2 rfl (by decide) ?_
              exact ih (k + 1) (fMin d 0) I2 (by omega) hR2 (gW_min hw) (gV_min hw hv) (hF.trans hF2) ((fStk_f (fun q => (same_iff hN9).mp q.2 (bP_n h5))).symm.trans hf)
            ·
              refine g_iload_n (n := 38) rfl rfl ?_
              refine g_ifeq0 (n := 41) 43 rfl (by decide) ?_
              refine g_iinc1 (n := 46) rfl rfl (nI_inc _) ?_
              refine g_goto 2 rfl (by decide) ?_
              exact ih (k + 1) (fMin d 0) I2 (by omega) hR2 (gW_min hw) (gV_min hw hv) (hF.trans hF2) ((fStk_f (fun q => hmay q.1)).symm.trans hf)
          ·
            have hmay : pMay d (fN d) := (may_iff hN9).mpr ⟨bI_0 h2, bP_0 h4⟩
            refine g_iconst (n := 24) (v := 1) rfl rfl ?_
            refine g_goto 28 rfl (by decide) ?_
            refine g_istore_n2 (n := 29) rfl rfl ?_
            refine g_aload_n (n := 30) rfl rfl ?_
            refine g_iconst (n := 31) (v := 0) rfl rfl ?_
            refine g_cv1 (n := 34) (t := 17) (ci := 1) rfl (by decide +kernel) (by decide +kernel) (cf_hd hB) (cf_136 hB) (by decide +kernel) (by rfl) (c_pass hB hR (fog := 0) hw hv) (by omega) (g_RB fun I2 hR2 hF2 => ?_)
            refine g_ifne (n := 37) 43 rfl (by decide) (fun h6 => ?_) (fun h6 => ?_)
            ·
              refine g_iinc1 (n := 46) rfl rfl (nI_inc _) ?_
              refine g_goto 2 rfl (by decide) ?_
              exact ih (k + 1) (fMin d 0) I2 (by omega) hR2 (gW_min hw) (gV_min hw hv) (hF.trans hF2) ((fStk_f (fun q => (same_iff hN9).mp q.2 (bP_n h6))).symm.trans hf)
            ·
              refine g_iload_n (n := 38) rfl rfl ?_
              refine g_ifeq1 (n := 41) 43 rfl (by decide) ?_
              refine g_iload_n (n := 42) rfl rfl ?_
              refine g_iret (n := 43) rfl (fun h => nomatch h) ?_
              have hf2 : nI k = F := by rw [← hf]; exact (fStk_t ⟨hmay, (same_iff hN9).mpr (bP_0 h6)⟩).symm
              rw [← hf2]; exact ⟨rfl, ⟨fMin d 0, hR2, hF.trans hF2, trivial⟩, rfl⟩
  refine g_iconst (n := 1) (v := 0) rfl rfl ?_
  refine g_istore_n1 (n := 2) rfl rfl ?_
  exact H 301 0 d I rfl hR hw hv bF.rfl' hFe
theorem cEv_c {code code' nm3 : Nat → Int32} : ∀ n, (∀ k, k < n → code k = code' k) → cEv code nm3 n = cEv code' nm3 n := by
  intro n
  induction n with
  | zero => intro _; rfl
  | succ n ih =>
    intro h
    rw [cEv, cEv, ih (fun k hk => h k (by omega)), h n (by omega)]
theorem c_tcopy {sc : List Value} {nm : Nat} {I : mg_I} {T U n : Nat} (hT : isText T) (hU : isText U) (hn50 : n ≤ 50) (hn : I (U + 1) 1 = nI n) : SP sc 2 66 [.ref T, .ref U] I nm (qZ (cR I (T + 1) (U + 1) n) nm) := by
  refine SP.of (h := 1) (t := 66) (q := (yX8_copyFrom, cX8_copyFrom, 2, none, 8, 730, mi_k66)) rfl (by decide) (show ¬ (2 : Nat) < 2 by decide) (fun d hd => ?_)
  show GG sc 8 false false mi_k66 d 0 [.ref T, .ref U] [] I nm (qZ (cR I (T + 1) (U + 1) n) nm)
  refine g_aload_n (n := 1) rfl rfl ?_
  refine g_getr (n := 4) (ci := 8) (j := 2) (b := (T + 1)) rfl (by decide +kernel) (tx_hd hT) (tx_lt hT (by decide)) (tx_r2 hT) ?_
  refine g_aload_n (n := 5) rfl rfl ?_
  refine g_getr (n := 8) (ci := 8) (j := 2) (b := (U + 1)) rfl (by decide +kernel) (tx_hd hU) (tx_lt hU (by decide)) (tx_r2 hU) ?_
  refine g_cv1 (n := 11) (t := 60) (ci := 6) rfl (by decide +kernel) (by decide +kernel) (rw_hd (tx_c hT)) (rw_136 (tx_c hT)) (by decide +kernel) (by rfl) (c_rcopy (tx_c hT) hn50 (tx_c hU) hn hn50) (by omega) (g_Z ?_)
  refine g_vret (n := 12) rfl ?_
  exact ⟨rfl, rfl, rfl⟩
