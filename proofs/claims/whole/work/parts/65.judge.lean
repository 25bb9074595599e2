/-! the class: a sheet judged; sheets moved -/
theorem mn_eq {a b : Nat} (ha : a < 2 ^ 31) (hb : b < 2 ^ 31) : (if nI b < nI a then nI b else nI a) = nI (if b < a then b else a) := by
  by_cases h : b < a
  · rw [if_pos h, if_pos ((nI_ltI hb ha).mpr h)]
  · rw [if_neg h, if_neg (fun q => h ((nI_ltI hb ha).mp q))]
def vJC (I : mg_I) (d : Nat → Int32) (s n : Nat) : Int32 := if nI (fJd (fun k => I (114 + 2 * s + 1) k) d n 0) = nI n then (if nI (fJd (fun k => I (114 + 2 * s + 1) k) d n 0) = d 0 then -1 else nI (fJd (fun k => I (114 + 2 * s + 1) k) d n 0)) else nI (fJd (fun k => I (114 + 2 * s + 1) k) d n 0)
theorem c_kJudge {sc : List Value} {nm : Nat} {I : mg_I} {d : Nat → Int32} (hC : RC I d) (hS : wC I) {s : Int32} : SP sc 4 119 [.ref 5, .int s] I nm (qE (if eShC I s = 0 then vJC I d (cl s) (cl (I (114 + 2 * cl s) 1)) else vE (eShC I s) 1) (if eShC I s = 0 then I else mf_up I 123 (eShC I s) (I 123 (eShC I s) + 1)) nm) := by
  refine SP.of (h := 3) (t := 119) (q := (yX11_judge, cX11_judge, 6, (some .int), 11, 1029, mi_k119)) rfl (by decide) (show ¬ (6 : Nat) < 2 by decide) (fun dd hd => ?_)
  show GG sc 11 false false mi_k119 dd 0 [.ref 5, .int s, .null, .null, .null, .null] [] I nm (qE (if eShC I s = 0 then vJC I d (cl s) (cl (I (114 + 2 * cl s) 1)) else vE (eShC I s) 1) (if eShC I s = 0 then I else mf_up I 123 (eShC I s) (I 123 (eShC I s) + 1)) nm)
  have hR := hC.1
  have hN8 := (rK_N hR).2
  have HH : ∀ ss, ss < 4 → ∀ nn, nn ≤ 40 → I (114 + 2 * ss) 1 = nI nn → ∀ L, L ≤ nn → L ≤ fN d → (L = nn ∨ L = fN d) → ∀ x2 r, fJd (fun k => I (114 + 2 * ss + 1) k) d nn 0 = r → GG sc 11 false false mi_k119 dd 42 [.ref 5, .int (nI ss), .int x2, .ref (114 + 2 * ss), .int (nI L), .int 0] [] I nm (qE (if nI r = nI nn then (if nI r = d 0 then -1 else nI r) else nI r) I nm) := by
    intro ss hss nn hn40 en L hL1 hL2 hL3 x2 r hr0
    have hd0 : d 0 = nI (fN d) := (rK_N hR).1
    have H : ∀ (m k : Nat), k + m = L → fJd (fun k => I (114 + 2 * ss + 1) k) d (nn - k) k = r → GG sc 11 false false mi_k119 dd 42 [.ref 5, .int (nI ss), .int x2, .ref (114 + 2 * ss), .int (nI L), .int (nI k)] [] I nm (qE (if nI r = nI nn then (if nI r = d 0 then -1 else nI r) else nI r) I nm) := by
      intro m
      induction m with
      | zero =>
        intro k hk hr
        refine g_iload (n := 44) rfl rfl ?_
        refine g_iload (n := 46) rfl rfl ?_
        refine g_icge (n := 49) 80 rfl (by decide) (fun h1 => ?_) (fun h1 => ?_)
        ·
          refine g_aload_n (n := 81) rfl rfl ?_
          refine g_getv (n := 84) (ci := 6) (j := 1) (v := nI nn) en rfl (by decide +kernel) rfl (by decide) (rw_hd (r_sh hss)) ?_
          refine g_aload_n (n := 85) rfl rfl ?_
          refine g_getr (n := 88) (ci := 11) (j := 1) (b := (14)) rfl (by decide +kernel) (by decide) (by decide) (by decide +kernel) ?_
          refine g_getv (n := 91) (ci := 1) (j := 2) (v := nI (fN d)) ((rK_n hR (j := 0) (by omega)).trans (rK_N hR).1) rfl (by decide +kernel) rfl (by decide) (cf_hd c14) ?_
          refine g_icne (n := 94) 98 rfl (by decide) (fun h2 => ?_) (fun h2 => ?_)
          ·
            refine g_iload (n := 100) rfl rfl ?_
            refine g_iret (n := 101) rfl (fun h => nomatch h) ?_
            have e1 : ¬ nn = fN d := fun q => h2 (by rw [q])
            have er : r = k := by
              rw [← hr]
              rcases hL3 with q | q
              · rw [show nn - k = 0 by omega]; rfl
              · obtain ⟨f, hf⟩ : ∃ f, nn - k = f + 1 := ⟨nn - k - 1, by omega⟩
                rw [hf, fJd, if_pos (by omega)]
            have ek : k = L := by omega
            rw [er, ek]
            have hne : ¬ nI L = d 0 ∨ ¬ nI L = nI nn := by
              rcases hL3 with q | q
              · exact Or.inl (fun z => e1 (by rw [← q]; exact (nI_eq (by omega) (by omega)).mp (z.trans hd0)))
              · exact Or.inr (fun z => e1 (by rw [← q]; exact ((nI_eq (by omega) (by omega)).mp z).symm))
            by_cases q1 : nI L = nI nn
            · rw [if_pos q1, if_neg (hne.resolve_right (fun z => z q1))]; exact ⟨rfl, rfl, rfl⟩
            · rw [if_neg q1]; exact ⟨rfl, rfl, rfl⟩
          ·
            refine g_iconst (n := 95) (v := -1) rfl rfl ?_
            refine g_goto 100 rfl (by decide) ?_
            refine g_iret (n := 101) rfl (fun h => nomatch h) ?_
            have e1 : nn = fN d := (nI_eq (by omega) (by omega)).mp h2
            have er : r = nn := by
              rw [← hr, show nn - k = 0 by omega]; show k = nn; omega
            rw [er, if_pos rfl, hd0, ← e1, if_pos rfl]; exact ⟨rfl, rfl, rfl⟩
        ·
          exact absurd (fN_nle rfl (by omega) (by omega) h1) (by omega)
      | succ m ih =>
        intro k hk hr
        refine g_iload (n := 44) rfl rfl ?_
        refine g_iload (n := 46) rfl rfl ?_
        refine g_icge (n := 49) 80 rfl (by decide) (fun h1 => ?_) (fun h1 => ?_)
        ·
          exact absurd (fN_le rfl (by omega) (by omega) h1) (by omega)
        ·
          refine g_aload_n (n := 50) rfl rfl ?_
          refine g_iload (n := 52) rfl rfl ?_
          refine g_cv1 (n := 55) (t := 52) (ci := 6) rfl (by decide +kernel) (by decide +kernel) (rw_hd (r_sh hss)) (rw_136 (r_sh hss)) (by decide +kernel) (by rfl) (c_rat (r_sh hss) en (k := k) (by omega) (by omega)) (by omega) (g_E ?_)
          refine g_aload_n (n := 56) rfl rfl ?_
          refine g_getr (n := 59) (ci := 11) (j := 1) (b := (14)) rfl (by decide +kernel) (by decide) (by decide) (by decide +kernel) ?_
          refine g_getr (n := 62) (ci := 1) (j := 1) (b := ((14) + 2)) rfl (by decide +kernel) (cf_hd c14) (cf_lt c14 (by decide)) (cf_r1 c14) ?_
          refine g_iload (n := 64) rfl rfl ?_
          refine g_aald (n := 65) (b := ((14) + 3 + k)) (k) rfl (cf_2a c14) (cf_2h c14) rfl (cf_2x c14 (by omega)) (cf_2r c14 (by omega)) ?_
          refine g_getv (n := 68) (ci := 4) (j := 7) (v := fO d k 6) (rK_g hR (show k < fN d by omega) (w := 6) (by omega)) rfl (by decide +kernel) rfl (by decide) (cf_gh c14 (show k < 8 by omega)) ?_
          refine g_iceq (n := 71) 74 rfl (by decide) (fun h2 => ?_) (fun h2 => ?_)
          ·
            have hr2 : fJd (fun k => I (114 + 2 * ss + 1) k) d (nn - (k + 1)) (k + 1) = r := by
              rw [show nn - k = (nn - (k + 1)) + 1 by omega, fJd, if_neg (by omega), if_pos h2] at hr; exact hr
            refine g_iinc5 (n := 77) rfl rfl (nI_inc _) ?_
            refine g_goto 42 rfl (by decide) ?_
            exact ih (k + 1) (by omega) hr2
          ·
            have er : r = k := by
              rw [show nn - k = (nn - (k + 1)) + 1 by omega, fJd, if_neg (by omega), if_neg h2] at hr; exact hr.symm
            refine g_iload (n := 73) rfl rfl ?_
            refine g_iret (n := 74) rfl (fun h => nomatch h) ?_
            rw [er, if_neg (fun q => absurd ((nI_eq (by omega) (by omega)).mp q) (by omega))]; exact ⟨rfl, rfl, rfl⟩
    exact H L 0 (by omega) hr0
  refine g_aload_n (n := 1) rfl rfl ?_
  refine g_iload_n (n := 2) rfl rfl ?_
  refine g_cv1 (n := 5) (t := 130) (ci := 11) rfl (by decide +kernel) (by decide +kernel) (by decide) (by decide) (by decide +kernel) (by rfl) c_kRefS (by omega) (g_E ?_)
  refine g_istore_n2 (n := 6) rfl rfl ?_
  refine g_iload_n (n := 7) rfl rfl ?_
  refine g_ifeq (n := 10) 16 rfl (by decide) (fun h1 => ?_) (fun h1 => ?_)
  ·
    have h0 : eShC I s = 0 := vRef_00 eShC_lt h1
    have hse := eShC_0 h0
    generalize vRef (eShC I s) = x2
    rw [if_pos h0, if_pos h0]
    obtain ⟨ss, hss, rfl, hcss⟩ := iR_nI (x := s) (n := 4) ⟨by omega, by omega⟩
    have hdss : cl (nI ss) = ss := hcss
    obtain ⟨nn, hnn, en, hcn⟩ := iR_nI (hS ss hss)
    have hdnn : cl (I (114 + 2 * ss) 1) = nn := hcn
    refine g_aload_n (n := 17) rfl rfl ?_
    refine g_getr (n := 20) (ci := 11) (j := 7) (b := 113) rfl (by decide +kernel) (by decide) (by decide) (by decide +kernel) ?_
    refine g_iload_n (n := 21) rfl rfl ?_
    refine g_aald (n := 22) (b := 114 + 2 * ss) (ss) rfl (by decide) (by decide) rfl ⟨by show _ < 4; omega, by decide⟩ (sh_r _ (by omega)) ?_
    refine g_astore_n3 (n := 23) rfl rfl ?_
    refine g_aload_n (n := 24) rfl rfl ?_
    refine g_getv (n := 27) (ci := 6) (j := 1) (v := nI nn) en rfl (by decide +kernel) rfl (by decide) (rw_hd (r_sh hss)) ?_
    refine g_aload_n (n := 28) rfl rfl ?_
    refine g_getr (n := 31) (ci := 11) (j := 1) (b := (14)) rfl (by decide +kernel) (by decide) (by decide) (by decide +kernel) ?_
    refine g_getv (n := 34) (ci := 1) (j := 2) (v := nI (fN d)) ((rK_n hR (j := 0) (by omega)).trans (rK_N hR).1) rfl (by decide +kernel) rfl (by decide) (cf_hd c14) ?_
    refine g_min (n := 37) (pl := 863) rfl (by decide +kernel) rfl ?_
    refine g_top (w := nI (if fN d < nn then fN d else nn)) (mn_eq (by omega) (by omega)) ?_
    refine g_istore4 (n := 39) rfl rfl ?_
    refine g_iconst (n := 40) (v := 0) rfl rfl ?_
    refine g_istore5 (n := 42) rfl rfl ?_
    rw [hdss, hdnn]
    exact HH ss hss nn (by omega) en (if fN d < nn then fN d else nn) (by split <;> omega) (by split <;> omega) (by split <;> omega) x2 _ rfl
  ·
    have h0 : ¬ eShC I s = 0 := fun q => h1 (by rw [q]; rfl)
    refine g_aload_n (n := 11) rfl rfl ?_
    refine g_iload_n (n := 12) rfl rfl ?_
    refine g_top (w := -1000000000 - nI (eShC I s)) (if_neg h0) ?_
    refine g_cv1 (n := 15) (t := 126) (ci := 11) rfl (by decide +kernel) (by decide +kernel) (by decide) (by decide) (by decide +kernel) (by rfl) (c_fail (k := eShC I s) ⟨by omega, eShC_lt⟩) (by omega) (g_E ?_)
    refine g_iret (n := 16) rfl (fun h => nomatch h) ?_
    rw [if_neg h0, if_neg h0]; exact ⟨congrArg (fun z => some (Value.int z)) (if_neg h0).symm, rfl, rfl⟩
