/-! the class's fault of a text -/
def qFa (q : Int32 × List Int32) (I : mg_I) (a : Nat) : Option Value → mg_I → Nat → Prop := fun r I' nm' => r = some (.int q.1) ∧ (q.1 = -1 → ls I' 105 q.2) ∧ dF I I' ∧ nm' = a
theorem kR_init {I : mg_I} {cd P : List Int32} {o dg : Int32} {wt : Bool} (h : kR I (cd, P, o, dg, wt)) : True := trivial
theorem nI_nm1 {k : Nat} (hk : k < 2 ^ 31) : ¬ nI k = -1 := fun q => absurd (show ¬ (-1 : Int32) < 0 from q ▸ nI_pos hk) (by decide)
theorem ls_0 {I : mg_I} : ls (mf_up I 105 1 0) 105 [] := ⟨if_pos ⟨rfl, rfl⟩, fun i hi => absurd hi (Nat.not_lt_zero _)⟩
theorem c_faultOf {sc : List Value} {nm : Nat} {I0 : mg_I} {R n nm0 : Nat} {b : Nat → Int32} {t : Int32} (hR : isRow R 50) (hRx : ¬ (104 ≤ R ∧ R ≤ 110) ∧ ¬ (104 ≤ R + 1 ∧ R + 1 ≤ 110)) (hn : I0 R 1 = nI n) (hn50 : n ≤ 50) (hb : ∀ i, i < n → I0 (R + 1) i = b i) (hbb : ∀ i, i < n → iR (b i) 256) (hnm : (nm = 2 ∧ t = 0) ∨ (nm = 3 ∧ t = 1)) : SP sc 7 69 [.ref 104, .ref R, .ref nm] I0 nm0 (qFa (kRun b n t n 0 kC0) I0 nm) := by
  refine SP.of (h := 6) (t := 69) (q := (yX8_faultOf, cX8_faultOf, 5, (some .int), 8, 609, mi_k69)) rfl (by decide) (show ¬ (5 : Nat) < 3 by decide) (fun d hd => ?_)
  show GG sc 8 false false mi_k69 d 0 [.ref 104, .ref R, .ref nm, .null, .null] [] I0 nm0 (qFa (kRun b n t n 0 kC0) I0 nm)
  have H : ∀ (m k : Nat) (s : kC) (I1 : mg_I) {x4 : Value}, k + m = n → kR I1 s → kInv k s → dF I0 I1 → kRun b n t m k s = kRun b n t n 0 kC0 → GG sc 8 false false mi_k69 d 36 [.ref 104, .ref R, .ref nm, .int (nI k), x4] [] I1 nm (qFa (kRun b n t n 0 kC0) I0 nm) := by
    intro m
    induction m with
    | zero =>
      rintro k ⟨cd, P, o, dg, wt⟩ I1 x4 hkn hk hi hF hf
      have hl : cd.length + P.length ≤ k := hi.1
      refine g_iload_n (n := 37) rfl rfl ?_
      refine g_aload_n (n := 38) rfl rfl ?_
      refine g_getv (n := 41) (ci := 6) (j := 1) (v := nI n) ((hF R 1 hRx.1).trans hn) rfl (by decide +kernel) rfl (by decide) (rw_hd hR) ?_
      refine g_icge (n := 44) 87 rfl (by decide) (fun h1 => ?_) (fun h1 => ?_)
      ·
        cases wt with
        | true =>
          refine g_aload_n (n := 88) rfl rfl ?_
          refine g_getv (n := 91) (ci := 8) (j := 8) (v := 1) hk.2.2.2.2 rfl (by decide +kernel) rfl (by decide) (by decide) ?_
          refine g_ifeq1 (n := 94) 99 rfl (by decide) ?_
          refine g_aload_n (n := 95) rfl rfl ?_
          refine g_getv (n := 98) (ci := 6) (j := 1) (v := nI n) ((hF R 1 hRx.1).trans hn) rfl (by decide +kernel) rfl (by decide) (rw_hd hR) ?_
          refine g_iret (n := 99) rfl (fun h => nomatch h) ?_
          rw [show kRun b n t n 0 kC0 = (nI n, cd) from hf.symm]; exact ⟨rfl, fun q => absurd q (nI_nm1 (by omega)), hF, rfl⟩
        | false =>
          refine g_aload_n (n := 88) rfl rfl ?_
          refine g_getv (n := 91) (ci := 8) (j := 8) (v := 0) hk.2.2.2.2 rfl (by decide +kernel) rfl (by decide) (by decide) ?_
          refine g_ifeq0 (n := 94) 99 rfl (by decide) ?_
          refine g_aload_n (n := 100) rfl rfl ?_
          refine g_iconst (n := 101) (v := 1) rfl rfl ?_
          refine g_cv1 (n := 104) (t := 74) (ci := 8) rfl (by decide +kernel) (by decide +kernel) (by decide) (by decide) (by decide +kernel) (by rfl) (c_release (L := 1) (by omega) hk (by omega)) (by omega) (g_K fun I2 hk2 hF2 => ?_)
          refine g_aload_n (n := 105) rfl rfl ?_
          refine g_getr (n := 108) (ci := 8) (j := 4) (b := 109) rfl (by decide +kernel) (by decide) (by decide) (by decide +kernel) ?_
          refine g_getv (n := 111) (ci := 6) (j := 1) (v := nI (kRel 1 P cd o).2.1.length) hk2.2.1.1 rfl (by decide +kernel) rfl (by decide) (rw_hd r109) ?_
          have hlr := (kRel_len (L := 1) P cd o).1
          refine g_ifne (n := 114) 118 rfl (by decide) (fun h1 => ?_) (fun h1 => ?_)
          ·
            have h0 : ¬ (kRel 1 P cd o).2.1.length = 0 := fun q => h1 (by rw [q]; rfl)
            have e : kRun b n t n 0 kC0 = (nI n, cd) := hf.symm.trans (by show kFin n (cd, P, o, dg, false) = _; unfold kFin; rw [if_neg (show ¬ (false = true) by decide)]; exact if_neg h0)
            refine g_aload_n (n := 119) rfl rfl ?_
            refine g_getv (n := 122) (ci := 6) (j := 1) (v := nI n) (((hF.trans hF2) R 1 hRx.1).trans hn) rfl (by decide +kernel) rfl (by decide) (rw_hd hR) ?_
            refine g_iret (n := 123) rfl (fun h => nomatch h) ?_
            rw [e]; exact ⟨rfl, fun q => absurd q (nI_nm1 (by omega)), hF.trans hF2, rfl⟩
          ·
            have h0 : (kRel 1 P cd o).2.1.length = 0 := (nI_eq (b := 0) (by omega) (by omega)).mp h1
            have e : kRun b n t n 0 kC0 = (-1, (kRel 1 P cd o).1) := hf.symm.trans (by show kFin n (cd, P, o, dg, false) = _; unfold kFin; rw [if_neg (show ¬ (false = true) by decide)]; exact if_pos h0)
            refine g_iconst (n := 115) (v := -1) rfl rfl ?_
            refine g_goto 122 rfl (by decide) ?_
            refine g_iret (n := 123) rfl (fun h => nomatch h) ?_
            rw [e]; exact ⟨rfl, fun _ => hk2.1, hF.trans hF2, rfl⟩
      ·
        exact absurd (fN_nle (n := n) rfl (by omega) (by omega) h1) (by omega)
    | succ m ih =>
      rintro k ⟨cd, P, o, dg, wt⟩ I1 x4 hkn hk hi hF hf
      have hl : cd.length + P.length ≤ k := hi.1
      rw [kRun] at hf
      cases wt with
      | true =>
        refine g_iload_n (n := 37) rfl rfl ?_
        refine g_aload_n (n := 38) rfl rfl ?_
        refine g_getv (n := 41) (ci := 6) (j := 1) (v := nI n) ((hF R 1 hRx.1).trans hn) rfl (by decide +kernel) rfl (by decide) (rw_hd hR) ?_
        refine g_icge (n := 44) 87 rfl (by decide) (fun h1 => ?_) (fun h1 => ?_)
        ·
          exact absurd (fN_le (n := n) rfl (by omega) (by omega) h1) (by omega)
        ·
          refine g_aload_n (n := 45) rfl rfl ?_
          refine g_iload_n (n := 46) rfl rfl ?_
          refine g_cv1 (n := 49) (t := 52) (ci := 6) rfl (by decide +kernel) (by decide +kernel) (rw_hd hR) (rw_136 hR) (by decide +kernel) (by rfl) (c_rat (k := k) hR ((hF R 1 hRx.1).trans hn) (by omega) hn50) (by omega) (g_E ?_)
          refine g_top (w := b k) ((hF (R + 1) k hRx.2).trans (hb k (by omega))) ?_
          refine g_istore4 (n := 51) rfl rfl ?_
          refine g_aload_n (n := 52) rfl rfl ?_
          refine g_getv (n := 55) (ci := 8) (j := 8) (v := 1) hk.2.2.2.2 rfl (by decide +kernel) rfl (by decide) (by decide) ?_
          refine g_ifeq1 (n := 58) 70 rfl (by decide) ?_
          refine g_aload_n (n := 59) rfl rfl ?_
          refine g_iload (n := 61) rfl rfl ?_
          refine g_cv1 (n := 64) (t := 70) (ci := 8) rfl (by decide +kernel) (by decide +kernel) (by decide) (by decide) (by decide +kernel) (by rfl) (c_begins hk (by omega) (hbb k (by omega)) hnm) (by omega) (fun a I2 nm2 hq => ?_)
          obtain ⟨hq1, hF2, rfl⟩ := hq
          cases hs : kBeg t (b k) (cd, P, o, dg, true) with
          | none =>
            rw [hs] at hq1
            obtain rfl : a = some (.int 0) := hq1
            rw [show kSt t (b k) (cd, P, o, dg, true) = none from kSt_t.trans hs] at hf
            refine g_ifeq0 (n := 67) 79 rfl (by decide) ?_
            refine g_iload_n (n := 80) rfl rfl ?_
            refine g_iret (n := 81) rfl (fun h => nomatch h) ?_
            rw [show kRun b n t n 0 kC0 = (nI k, cd) from hf.symm]; exact ⟨rfl, fun q => absurd q (nI_nm1 (by omega)), hF.trans hF2, rfl⟩
          | some s2 =>
            rw [hs] at hq1
            obtain ⟨rfl, hk2⟩ : a = some (.int 1) ∧ kR I2 s2 := hq1
            have hst : kSt t (b k) (cd, P, o, dg, true) = some s2 := kSt_t.trans hs
            rw [hst] at hf
            refine g_ifeq1 (n := 67) 79 rfl (by decide) ?_
            refine g_goto 81 rfl (by decide) ?_
            refine g_iinc3 (n := 84) rfl rfl (nI_inc _) ?_
            refine g_goto 36 rfl (by decide) ?_
            exact ih (k + 1) s2 I2 (by omega) hk2 (kInv_s hst hi) (hF.trans hF2) hf
      | false =>
        refine g_iload_n (n := 37) rfl rfl ?_
        refine g_aload_n (n := 38) rfl rfl ?_
        refine g_getv (n := 41) (ci := 6) (j := 1) (v := nI n) ((hF R 1 hRx.1).trans hn) rfl (by decide +kernel) rfl (by decide) (rw_hd hR) ?_
        refine g_icge (n := 44) 87 rfl (by decide) (fun h1 => ?_) (fun h1 => ?_)
        ·
          exact absurd (fN_le (n := n) rfl (by omega) (by omega) h1) (by omega)
        ·
          refine g_aload_n (n := 45) rfl rfl ?_
          refine g_iload_n (n := 46) rfl rfl ?_
          refine g_cv1 (n := 49) (t := 52) (ci := 6) rfl (by decide +kernel) (by decide +kernel) (rw_hd hR) (rw_136 hR) (by decide +kernel) (by rfl) (c_rat (k := k) hR ((hF R 1 hRx.1).trans hn) (by omega) hn50) (by omega) (g_E ?_)
          refine g_top (w := b k) ((hF (R + 1) k hRx.2).trans (hb k (by omega))) ?_
          refine g_istore4 (n := 51) rfl rfl ?_
          refine g_aload_n (n := 52) rfl rfl ?_
          refine g_getv (n := 55) (ci := 8) (j := 8) (v := 0) hk.2.2.2.2 rfl (by decide +kernel) rfl (by decide) (by decide) ?_
          refine g_ifeq0 (n := 58) 70 rfl (by decide) ?_
          refine g_aload_n (n := 71) rfl rfl ?_
          refine g_iload (n := 73) rfl rfl ?_
          refine g_cv1 (n := 76) (t := 71) (ci := 8) rfl (by decide +kernel) (by decide +kernel) (by decide) (by decide) (by decide +kernel) (by rfl) (c_goesT hk (by omega) (by omega) hi.2) (by omega) (fun a I2 nm2 hq => ?_)
          obtain ⟨hq1, hF2, rfl⟩ := hq
          cases hs : kGn (b k) (cd, P, o, dg, false) with
          | none =>
            rw [hs] at hq1
            obtain rfl : a = some (.int 0) := hq1
            rw [show kSt t (b k) (cd, P, o, dg, false) = none from kSt_f.trans hs] at hf
            refine g_ifne0 (n := 79) 81 rfl (by decide) ?_
            refine g_iload_n (n := 80) rfl rfl ?_
            refine g_iret (n := 81) rfl (fun h => nomatch h) ?_
            rw [show kRun b n t n 0 kC0 = (nI k, cd) from hf.symm]; exact ⟨rfl, fun q => absurd q (nI_nm1 (by omega)), hF.trans hF2, rfl⟩
          | some s2 =>
            rw [hs] at hq1
            obtain ⟨rfl, hk2⟩ : a = some (.int 1) ∧ kR I2 s2 := hq1
            have hst : kSt t (b k) (cd, P, o, dg, false) = some s2 := kSt_f.trans hs
            rw [hst] at hf
            refine g_ifne1 (n := 79) 81 rfl (by decide) ?_
            refine g_iinc3 (n := 84) rfl rfl (nI_inc _) ?_
            refine g_goto 36 rfl (by decide) ?_
            exact ih (k + 1) s2 I2 (by omega) hk2 (kInv_s hst hi) (hF.trans hF2) hf
  refine g_aload_n (n := 1) rfl rfl ?_
  refine g_aload_n (n := 2) rfl rfl ?_
  refine g_putnm (n := 5) rfl (by decide +kernel) ?_
  refine g_aload_n (n := 6) rfl rfl ?_
  refine g_getr (n := 9) (ci := 8) (j := 2) (b := 105) rfl (by decide +kernel) (by decide) (by decide) (by decide +kernel) ?_
  refine g_cv0 (n := 12) (t := 57) (ci := 6) rfl (by decide +kernel) (by decide +kernel) (rw_hd r105) (rw_136 r105) (by decide +kernel) (by rfl) (c_rclear r105) (by omega) (g_Z ?_)
  refine g_aload_n (n := 13) rfl rfl ?_
  refine g_getr (n := 16) (ci := 8) (j := 4) (b := 109) rfl (by decide +kernel) (by decide) (by decide) (by decide +kernel) ?_
  refine g_cv0 (n := 19) (t := 57) (ci := 6) rfl (by decide +kernel) (by decide +kernel) (rw_hd r109) (rw_136 r109) (by decide +kernel) (by rfl) (c_rclear r109) (by omega) (g_Z ?_)
  refine g_aload_n (n := 20) rfl rfl ?_
  refine g_iconst (n := 21) (v := 0) rfl rfl ?_
  refine g_puti (n := 24) (ci := 8) (j := 6) rfl (by decide +kernel) rfl (by decide) (by decide) (by decide +kernel) rfl ?_
  refine g_aload_n (n := 25) rfl rfl ?_
  refine g_iconst (n := 26) (v := 0) rfl rfl ?_
  refine g_puti (n := 29) (ci := 8) (j := 7) rfl (by decide +kernel) rfl (by decide) (by decide) (by decide +kernel) rfl ?_
  refine g_aload_n (n := 30) rfl rfl ?_
  refine g_iconst (n := 31) (v := 1) rfl rfl ?_
  refine g_puti (n := 34) (ci := 8) (j := 8) rfl (by decide +kernel) rfl (by decide) (by decide) (by decide +kernel) (by first | rfl | exact bI_fit) ?_
  refine g_iconst (n := 35) (v := 0) rfl rfl ?_
  refine g_istore_n3 (n := 36) rfl rfl ?_
  exact H n 0 kC0 _ (by omega) ⟨⟨rfl, fun i hi => absurd hi (Nat.not_lt_zero _)⟩, ⟨rfl, fun i hi => absurd hi (Nat.not_lt_zero _)⟩, rfl, rfl, rfl⟩ ⟨Nat.le_refl _, fun q => absurd (show (1 : Int32) ≤ 0 from q) (by decide)⟩ (dF_up (dF_up (dF_up (dF_up (dF_up dF.rfl' (by decide)) (by decide)) (by decide)) (by decide)) (by decide)) rfl
