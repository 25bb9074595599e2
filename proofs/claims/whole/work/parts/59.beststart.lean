/-! the class: the best start -/
theorem lim2_eq {t : Nat} (ht : t < 10000) : (if 999 < nI t + 60 - 1 then (999 : Int32) else nI t + 60 - 1) = nI (if 999 < t + 59 then 999 else t + 59) := by
  have e : nI t + 60 - 1 = nI (t + 59) := by
    rw [show (60 : Int32) = nI 60 from rfl, nI_plus]; exact nI_pred (t + 59)
  rw [e]
  by_cases h : 999 < t + 59
  · rw [if_pos h, if_pos (show (999 : Int32) < nI (t + 59) from (nI_ltI (a := 999) (by omega) (by omega)).mpr h)]; rfl
  · rw [if_neg h, if_neg (fun q : (999 : Int32) < nI (t + 59) => h ((nI_ltI (a := 999) (by omega) (by omega)).mp q))]
theorem fBs_go {d : Nat → Int32} {g f : Nat} {s b1 b2 b3 : Int32} (h : ¬ 999 < s) : fBs d g (f + 1) s (b1, b2, b3) = if 0 ≤ (fOB (up d (34 + 10 * g + 4) s)).1 ∧ (b1 < 0 ∨ (fOB (up d (34 + 10 * g + 4) s)).1 < b2 ∨ ((fOB (up d (34 + 10 * g + 4) s)).1 = b2 ∧ (fOB (up d (34 + 10 * g + 4) s)).2 < b3)) then fBs d g f (s + 1) (s, (fOB (up d (34 + 10 * g + 4) s)).1, (fOB (up d (34 + 10 * g + 4) s)).2) else fBs d g f (s + 1) (b1, b2, b3) := by
  rw [fBs]; exact if_neg h
theorem fBs_st {d : Nat → Int32} {g t k c : Nat} {b1 b2 b3 : Int32} (hk : k < c) (hc : c ≤ 60) (ht : t + k ≤ 999) : fBs d g (60 - k) (nI (t + k)) (b1, b2, b3) = if 0 ≤ (fOB (up d (34 + 10 * g + 4) (nI (t + k)))).1 ∧ (b1 < 0 ∨ (fOB (up d (34 + 10 * g + 4) (nI (t + k)))).1 < b2 ∨ ((fOB (up d (34 + 10 * g + 4) (nI (t + k)))).1 = b2 ∧ (fOB (up d (34 + 10 * g + 4) (nI (t + k)))).2 < b3)) then fBs d g (60 - (k + 1)) (nI (t + (k + 1))) (nI (t + k), (fOB (up d (34 + 10 * g + 4) (nI (t + k)))).1, (fOB (up d (34 + 10 * g + 4) (nI (t + k)))).2) else fBs d g (60 - (k + 1)) (nI (t + (k + 1))) (b1, b2, b3) := by
  obtain ⟨f, hf⟩ : ∃ f, 60 - (k + 1) = f := ⟨_, rfl⟩
  rw [hf, show 60 - k = f + 1 by omega, fBs_go (fun q => absurd ((nI_ltI (a := 999) (by omega) (by omega)).mp q) (by omega)), show nI (t + k) + 1 = nI (t + (k + 1)) from nI_plus (t + k) 1]
theorem fBs_end {d : Nat → Int32} {g t c : Nat} {b : rB} (hc : c ≤ 60) (h : c = 60 ∨ 999 < t + c) (ht : t < 10000) : fBs d g (60 - c) (nI (t + c)) b = b := by
  rcases h with rfl | h
  · rfl
  · obtain ⟨f, hf⟩ : ∃ f, 60 - c = f := ⟨_, rfl⟩
    rw [hf]
    cases f with
    | zero => rfl
    | succ f => rw [fBs, if_pos (show (999 : Int32) < nI (t + c) from (nI_ltI (a := 999) (by omega) (by omega)).mpr h)]
theorem g_istore8 {sc : List Value} {own : Nat} {ini rz : Bool} {code : List (Nat × Instr)} {d pc n : Nat} {I : mg_I} {nm : Nat} {Q : Option Value → mg_I → Nat → Prop} {r : List Value} {v0 v1 v2 v3 v4 v5 v6 v7 z : Value} {t : List Value} {x : Int32} (h : mg_f code pc = some (.istore 8, n)) (hp : v7.category = 1) (k : GG sc own ini rz code d n (v0 :: v1 :: v2 :: v3 :: v4 :: v5 :: v6 :: v7 :: .int x :: t) r I nm Q) : GG sc own ini rz code d pc (v0 :: v1 :: v2 :: v3 :: v4 :: v5 :: v6 :: v7 :: z :: t) (.int x :: r) I nm Q := by
  obtain rfl := g_next h
  refine g_step h rfl (fun _ => ?_) k
  simp [mi_one, mi_A, mi_B, mi_L, mi_sti, mi_st1, hp]
theorem g_istore9 {sc : List Value} {own : Nat} {ini rz : Bool} {code : List (Nat × Instr)} {d pc n : Nat} {I : mg_I} {nm : Nat} {Q : Option Value → mg_I → Nat → Prop} {r : List Value} {v0 v1 v2 v3 v4 v5 v6 v7 v8 z : Value} {t : List Value} {x : Int32} (h : mg_f code pc = some (.istore 9, n)) (hp : v8.category = 1) (k : GG sc own ini rz code d n (v0 :: v1 :: v2 :: v3 :: v4 :: v5 :: v6 :: v7 :: v8 :: .int x :: t) r I nm Q) : GG sc own ini rz code d pc (v0 :: v1 :: v2 :: v3 :: v4 :: v5 :: v6 :: v7 :: v8 :: z :: t) (.int x :: r) I nm Q := by
  obtain rfl := g_next h
  refine g_step h rfl (fun _ => ?_) k
  simp [mi_one, mi_A, mi_B, mi_L, mi_sti, mi_st1, hp]
theorem c_kBest {sc : List Value} {nm : Nat} {I : mg_I} {d : Nat → Int32} (hC : RC I d) (hw : gW d) (hv : gV d) (hm1 : iR (d 1) 10000) {g w : Int32} : SP sc 12 107 [.ref 5, .int g, .int w] I nm (qC I (oBest d g w) nm) := by
  refine SP.of (h := 11) (t := 107) (q := (yX11_bestStart, cX11_bestStart, 10, (some .int), 11, 862, mi_k107)) rfl (by decide) (show ¬ (10 : Nat) < 3 by decide) (fun dd hd => ?_)
  show GG sc 11 false false mi_k107 dd 0 [.ref 5, .int g, .int w, .null, .null, .null, .null, .null, .null, .null] [] I nm (qC I (oBest d g w) nm)
  have hR := hC.1
  have hN8 := (rK_N hR).2
  obtain ⟨t, ht, et, hct⟩ := iR_nI hm1
  have HH : ∀ gg, gg < fN d → ∀ t, t < 10000 → ∀ lim c, lim ≤ 999 → lim < t + c → (c = 0 ∨ t + c = lim + 1) → c ≤ 60 → (c = 60 ∨ 999 < t + c) → ∀ F, fBs d gg 60 (nI t) (-1, 0, 0) = F → GG sc 11 false false mi_k107 dd 83 [.ref 5, .int (nI gg), .int w, .int (-1), .int 0, .int 0, .int (nI lim), .int (nI t), .null, .null] [] I nm (qC I (if 0 ≤ F.1 then (0, if w = 0 then F.1 else if w = 1 then F.2.1 else F.2.2, d) else fE d 2) nm) := by
    intro gg hgg t ht lim c hL1 hL2 hL3 hL4 hL5 F hF0
    have H : ∀ (m k : Nat) (b1 b2 b3 : Int32) (J : mg_I) {x8 x9 : Value}, x8.category = 1 → k + m = c → RC J d → cF I J → fBs d gg (60 - k) (nI (t + k)) (b1, b2, b3) = F → GG sc 11 false false mi_k107 dd 83 [.ref 5, .int (nI gg), .int w, .int b1, .int b2, .int b3, .int (nI lim), .int (nI (t + k)), x8, x9] [] J nm (qC I (if 0 ≤ F.1 then (0, if w = 0 then F.1 else if w = 1 then F.2.1 else F.2.2, d) else fE d 2) nm) := by
      intro m
      induction m with
      | zero =>
        intro k b1 b2 b3 J x8 x9 hx8 hk hC2 hF hf
        have ek : k = c := by omega
        rw [ek, fBs_end hL4 hL5 ht] at hf
        refine g_iload (n := 85) rfl rfl ?_
        refine g_iload (n := 87) rfl rfl ?_
        refine g_icgt (n := 90) 193 rfl (by decide) (fun h1 => ?_) (fun h1 => ?_)
        ·
          refine g_iload_n (n := 194) rfl rfl ?_
          refine g_ifge (n := 197) 204 rfl (by decide) (fun h2 => ?_) (fun h2 => ?_)
          ·
            refine g_iload_n (n := 205) rfl rfl ?_
            refine g_ifne (n := 208) 210 rfl (by decide) (fun h3 => ?_) (fun h3 => ?_)
            ·
              refine g_iload_n (n := 211) rfl rfl ?_
              refine g_iconst (n := 212) (v := 1) rfl rfl ?_
              refine g_icne (n := 215) 220 rfl (by decide) (fun h4 => ?_) (fun h4 => ?_)
              ·
                refine g_iload (n := 222) rfl rfl ?_
                refine g_iret (n := 223) rfl (fun h => nomatch h) ?_
                rw [show F = (b1, b2, b3) from hf.symm]; rw [if_pos (c := 0 ≤ (b1, b2, b3).1) h2, if_neg h3, if_neg h4]; exact qC_v hC2 hF
              ·
                refine g_iload (n := 217) rfl rfl ?_
                refine g_goto 222 rfl (by decide) ?_
                refine g_iret (n := 223) rfl (fun h => nomatch h) ?_
                rw [show F = (b1, b2, b3) from hf.symm]; rw [if_pos (c := 0 ≤ (b1, b2, b3).1) h2, if_neg h3, if_pos h4]; exact qC_v hC2 hF
            ·
              refine g_iload_n (n := 209) rfl rfl ?_
              refine g_iret (n := 210) rfl (fun h => nomatch h) ?_
              rw [show F = (b1, b2, b3) from hf.symm]; rw [if_pos (c := 0 ≤ (b1, b2, b3).1) h2, if_pos h3]; exact qC_v hC2 hF
          ·
            refine g_aload_n (n := 198) rfl rfl ?_
            refine g_ldc (n := 200) (v := -1000000002) (pl := 850) rfl (by decide +kernel) ?_
            refine g_top (w := -1000000000 - nI 2) (by decide) ?_
            refine g_cv1 (n := 203) (t := 126) (ci := 11) rfl (by decide +kernel) (by decide +kernel) (by decide) (by decide) (by decide +kernel) (by rfl) (c_fail (k := 2) (by omega)) (by omega) (g_E ?_)
            refine g_iret (n := 204) rfl (fun h => nomatch h) ?_
            rw [show F = (b1, b2, b3) from hf.symm]; rw [if_neg (c := 0 ≤ (b1, b2, b3).1) h2]; exact qC_e (by omega) hC2 hF
        ·
          exact absurd ((nI_ltI (a := lim) (b := t + k) (by omega) (by omega)).mpr (by omega)) h1
      | succ m ih =>
        intro k b1 b2 b3 J x8 x9 hx8 hk hC2 hF hf
        have hkc : k < c := by omega
        refine g_iload (n := 85) rfl rfl ?_
        refine g_iload (n := 87) rfl rfl ?_
        refine g_icgt (n := 90) 193 rfl (by decide) (fun h1 => ?_) (fun h1 => ?_)
        ·
          exact absurd ((nI_ltI (a := lim) (b := t + k) (by omega) (by omega)).mp h1) (by omega)
        ·
          refine g_aload_n (n := 91) rfl rfl ?_
          refine g_getr (n := 94) (ci := 11) (j := 2) (b := (44)) rfl (by decide +kernel) (by decide) (by decide) (by decide +kernel) ?_
          refine g_aload_n (n := 95) rfl rfl ?_
          refine g_getr (n := 98) (ci := 11) (j := 1) (b := (14)) rfl (by decide +kernel) (by decide) (by decide) (by decide +kernel) ?_
          refine g_cv1 (n := 101) (t := 6) (ci := 1) rfl (by decide +kernel) (by decide +kernel) (cf_hd c44) (cf_136 c44) (by decide +kernel) (by rfl) (c_ccopy c44 c14 (by decide) hC2.2.2 hC2.1 hC2.2.1 hw) (by omega) (g_RC fun I1 hR1 hT1 hF1 => ?_)
          refine g_aload_n (n := 102) rfl rfl ?_
          refine g_getr (n := 105) (ci := 11) (j := 2) (b := (44)) rfl (by decide +kernel) (by decide) (by decide) (by decide +kernel) ?_
          refine g_getr (n := 108) (ci := 1) (j := 1) (b := ((44) + 2)) rfl (by decide +kernel) (cf_hd c44) (cf_lt c44 (by decide)) (cf_r1 c44) ?_
          refine g_iload_n (n := 109) rfl rfl ?_
          refine g_aald (n := 110) (b := ((44) + 3 + gg)) (gg) rfl (cf_2a c44) (cf_2h c44) rfl (cf_2x c44 (by omega)) (cf_2r c44 (by omega)) ?_
          refine g_iload (n := 112) rfl rfl ?_
          refine g_puti (n := 115) (ci := 4) (j := 5) rfl (by decide +kernel) rfl (by decide) (cf_gh c44 (show gg < 8 by omega)) (by decide +kernel) rfl ?_
          have hR1s := rK_put (w := 4) (x := nI (t + k)) hR1 hgg (by omega)
          refine g_aload_n (n := 116) rfl rfl ?_
          refine g_getr (n := 119) (ci := 11) (j := 2) (b := (44)) rfl (by decide +kernel) (by decide) (by decide) (by decide +kernel) ?_
          refine g_cv0 (n := 122) (t := 26) (ci := 1) rfl (by decide +kernel) (by decide +kernel) (cf_hd c44) (cf_136 c44) (by decide +kernel) (by rfl) (c_runOver c44 hR1s (gW_start hw (by omega) (by omega)) (gV_s hv (by omega)) (by rw [up_ne (by omega)]; exact hm1)) (by omega) (g_RO fun d2 I2 hR2 hF2 hp2 => ?_)
          have hB2 := (hF1.trans (show bH 44 I1 (mf_up I1 (44 + 3 + gg) (4 + 1) (nI (t + k))) from fun a j x => mf_ne (by omega))).trans (bF_h hF2)
          have hC3 := RC_a hC2 hB2 hR2
          have hF3 := hF.trans (cF_h hB2)
          refine g_istore8 (n := 124) rfl rfl ?_
          refine g_iload (n := 126) rfl rfl ?_
          refine g_iload (n := 128) rfl rfl ?_
          refine g_icne (n := 131) 147 rfl (by decide) (fun h2 => ?_) (fun h2 => ?_)
          ·
            refine g_iconst (n := 148) (v := 0) rfl rfl ?_
            refine g_istore9 (n := 150) rfl rfl ?_
            refine g_iload (n := 152) rfl rfl ?_
            refine g_iflt (n := 155) 187 rfl (by decide) (fun h3 => ?_) (fun h3 => ?_)
            ·
              have hf2 : fBs d gg (60 - (k + 1)) (nI (t + (k + 1))) (b1, b2, b3) = F := by rw [fBs_st hkc hL4 (by omega), if_neg (c := 0 ≤ (fOB (up d (34 + 10 * gg + 4) (nI (t + k)))).1 ∧ (b1 < 0 ∨ (fOB (up d (34 + 10 * gg + 4) (nI (t + k)))).1 < b2 ∨ ((fOB (up d (34 + 10 * gg + 4) (nI (t + k)))).1 = b2 ∧ (fOB (up d (34 + 10 * gg + 4) (nI (t + k)))).2 < b3))) (fun q => Int32.not_lt.mpr q.1 h3)] at hf; exact hf
              refine g_iinc7 (n := 190) rfl rfl (nI_inc _) ?_
              refine g_goto 83 rfl (by decide) ?_
              exact ih (k + 1) b1 b2 b3 I2 rfl (by omega) hC3 hF3 hf2
            ·
              refine g_iload_n (n := 156) rfl rfl ?_
              refine g_iflt (n := 159) 171 rfl (by decide) (fun h4 => ?_) (fun h4 => ?_)
              ·
                have hf2 : fBs d gg (60 - (k + 1)) (nI (t + (k + 1))) (nI (t + k), (fOB (up d (34 + 10 * gg + 4) (nI (t + k)))).1, (fOB (up d (34 + 10 * gg + 4) (nI (t + k)))).2) = F := by rw [fBs_st hkc hL4 (by omega), if_pos (c := 0 ≤ (fOB (up d (34 + 10 * gg + 4) (nI (t + k)))).1 ∧ (b1 < 0 ∨ (fOB (up d (34 + 10 * gg + 4) (nI (t + k)))).1 < b2 ∨ ((fOB (up d (34 + 10 * gg + 4) (nI (t + k)))).1 = b2 ∧ (fOB (up d (34 + 10 * gg + 4) (nI (t + k)))).2 < b3))) (⟨(Int32.not_lt.mp h3), Or.inl h4⟩)] at hf; exact hf
                have hbk : d2 3 = (fOB (up d (34 + 10 * gg + 4) (nI (t + k)))).2 := hp2 (Int32.not_lt.mp h3)
                refine g_iload (n := 173) rfl rfl ?_
                refine g_istore_n3 (n := 174) rfl rfl ?_
                refine g_iload (n := 176) rfl rfl ?_
                refine g_istore4 (n := 178) rfl rfl ?_
                refine g_aload_n (n := 179) rfl rfl ?_
                refine g_getr (n := 182) (ci := 11) (j := 2) (b := (44)) rfl (by decide +kernel) (by decide) (by decide) (by decide +kernel) ?_
                refine g_getv (n := 185) (ci := 1) (j := 5) (v := d2 3) (rK_n hR2 (j := 3) (by omega)) rfl (by decide +kernel) rfl (by decide) (cf_hd c44) ?_
                refine g_top (w := (fOB (up d (34 + 10 * gg + 4) (nI (t + k)))).2) hbk ?_
                refine g_istore5 (n := 187) rfl rfl ?_
                refine g_iinc7 (n := 190) rfl rfl (nI_inc _) ?_
                refine g_goto 83 rfl (by decide) ?_
                exact ih (k + 1) (nI (t + k)) (fOB (up d (34 + 10 * gg + 4) (nI (t + k)))).1 (fOB (up d (34 + 10 * gg + 4) (nI (t + k)))).2 I2 rfl (by omega) hC3 hF3 hf2
              ·
                refine g_iload (n := 161) rfl rfl ?_
                refine g_iload (n := 163) rfl rfl ?_
                refine g_iclt (n := 166) 171 rfl (by decide) (fun h5 => ?_) (fun h5 => ?_)
                ·
                  have hf2 : fBs d gg (60 - (k + 1)) (nI (t + (k + 1))) (nI (t + k), (fOB (up d (34 + 10 * gg + 4) (nI (t + k)))).1, (fOB (up d (34 + 10 * gg + 4) (nI (t + k)))).2) = F := by rw [fBs_st hkc hL4 (by omega), if_pos (c := 0 ≤ (fOB (up d (34 + 10 * gg + 4) (nI (t + k)))).1 ∧ (b1 < 0 ∨ (fOB (up d (34 + 10 * gg + 4) (nI (t + k)))).1 < b2 ∨ ((fOB (up d (34 + 10 * gg + 4) (nI (t + k)))).1 = b2 ∧ (fOB (up d (34 + 10 * gg + 4) (nI (t + k)))).2 < b3))) (⟨(Int32.not_lt.mp h3), Or.inr (Or.inl h5)⟩)] at hf; exact hf
                  have hbk : d2 3 = (fOB (up d (34 + 10 * gg + 4) (nI (t + k)))).2 := hp2 (Int32.not_lt.mp h3)
                  refine g_iload (n := 173) rfl rfl ?_
                  refine g_istore_n3 (n := 174) rfl rfl ?_
                  refine g_iload (n := 176) rfl rfl ?_
                  refine g_istore4 (n := 178) rfl rfl ?_
                  refine g_aload_n (n := 179) rfl rfl ?_
                  refine g_getr (n := 182) (ci := 11) (j := 2) (b := (44)) rfl (by decide +kernel) (by decide) (by decide) (by decide +kernel) ?_
                  refine g_getv (n := 185) (ci := 1) (j := 5) (v := d2 3) (rK_n hR2 (j := 3) (by omega)) rfl (by decide +kernel) rfl (by decide) (cf_hd c44) ?_
                  refine g_top (w := (fOB (up d (34 + 10 * gg + 4) (nI (t + k)))).2) hbk ?_
                  refine g_istore5 (n := 187) rfl rfl ?_
                  refine g_iinc7 (n := 190) rfl rfl (nI_inc _) ?_
                  refine g_goto 83 rfl (by decide) ?_
                  exact ih (k + 1) (nI (t + k)) (fOB (up d (34 + 10 * gg + 4) (nI (t + k)))).1 (fOB (up d (34 + 10 * gg + 4) (nI (t + k)))).2 I2 rfl (by omega) hC3 hF3 hf2
                ·
                  refine g_iload (n := 168) rfl rfl ?_
                  refine g_ifeq0 (n := 171) 187 rfl (by decide) ?_
                  have hf2 : fBs d gg (60 - (k + 1)) (nI (t + (k + 1))) (b1, b2, b3) = F := by rw [fBs_st hkc hL4 (by omega), if_neg (c := 0 ≤ (fOB (up d (34 + 10 * gg + 4) (nI (t + k)))).1 ∧ (b1 < 0 ∨ (fOB (up d (34 + 10 * gg + 4) (nI (t + k)))).1 < b2 ∨ ((fOB (up d (34 + 10 * gg + 4) (nI (t + k)))).1 = b2 ∧ (fOB (up d (34 + 10 * gg + 4) (nI (t + k)))).2 < b3))) (fun q => q.2.elim (fun z => h4 z) (fun z => z.elim (fun z => h5 z) (fun z => h2 z.1)))] at hf; exact hf
                  refine g_iinc7 (n := 190) rfl rfl (nI_inc _) ?_
                  refine g_goto 83 rfl (by decide) ?_
                  exact ih (k + 1) b1 b2 b3 I2 rfl (by omega) hC3 hF3 hf2
          ·
            refine g_aload_n (n := 132) rfl rfl ?_
            refine g_getr (n := 135) (ci := 11) (j := 2) (b := (44)) rfl (by decide +kernel) (by decide) (by decide) (by decide +kernel) ?_
            refine g_getv (n := 138) (ci := 1) (j := 5) (v := d2 3) (rK_n hR2 (j := 3) (by omega)) rfl (by decide +kernel) rfl (by decide) (cf_hd c44) ?_
            refine g_iload (n := 140) rfl rfl ?_
            refine g_icge (n := 143) 147 rfl (by decide) (fun h6 => ?_) (fun h6 => ?_)
            ·
              refine g_iconst (n := 148) (v := 0) rfl rfl ?_
              refine g_istore9 (n := 150) rfl rfl ?_
              refine g_iload (n := 152) rfl rfl ?_
              refine g_iflt (n := 155) 187 rfl (by decide) (fun h7 => ?_) (fun h7 => ?_)
              ·
                have hf2 : fBs d gg (60 - (k + 1)) (nI (t + (k + 1))) (b1, b2, b3) = F := by rw [fBs_st hkc hL4 (by omega), if_neg (c := 0 ≤ (fOB (up d (34 + 10 * gg + 4) (nI (t + k)))).1 ∧ (b1 < 0 ∨ (fOB (up d (34 + 10 * gg + 4) (nI (t + k)))).1 < b2 ∨ ((fOB (up d (34 + 10 * gg + 4) (nI (t + k)))).1 = b2 ∧ (fOB (up d (34 + 10 * gg + 4) (nI (t + k)))).2 < b3))) (fun q => Int32.not_lt.mpr q.1 h7)] at hf; exact hf
                refine g_iinc7 (n := 190) rfl rfl (nI_inc _) ?_
                refine g_goto 83 rfl (by decide) ?_
                exact ih (k + 1) b1 b2 b3 I2 rfl (by omega) hC3 hF3 hf2
              ·
                refine g_iload_n (n := 156) rfl rfl ?_
                refine g_iflt (n := 159) 171 rfl (by decide) (fun h8 => ?_) (fun h8 => ?_)
                ·
                  have hf2 : fBs d gg (60 - (k + 1)) (nI (t + (k + 1))) (nI (t + k), (fOB (up d (34 + 10 * gg + 4) (nI (t + k)))).1, (fOB (up d (34 + 10 * gg + 4) (nI (t + k)))).2) = F := by rw [fBs_st hkc hL4 (by omega), if_pos (c := 0 ≤ (fOB (up d (34 + 10 * gg + 4) (nI (t + k)))).1 ∧ (b1 < 0 ∨ (fOB (up d (34 + 10 * gg + 4) (nI (t + k)))).1 < b2 ∨ ((fOB (up d (34 + 10 * gg + 4) (nI (t + k)))).1 = b2 ∧ (fOB (up d (34 + 10 * gg + 4) (nI (t + k)))).2 < b3))) (⟨(Int32.not_lt.mp h7), Or.inl h8⟩)] at hf; exact hf
                  have hbk : d2 3 = (fOB (up d (34 + 10 * gg + 4) (nI (t + k)))).2 := hp2 (Int32.not_lt.mp h7)
                  refine g_iload (n := 173) rfl rfl ?_
                  refine g_istore_n3 (n := 174) rfl rfl ?_
                  refine g_iload (n := 176) rfl rfl ?_
                  refine g_istore4 (n := 178) rfl rfl ?_
                  refine g_aload_n (n := 179) rfl rfl ?_
                  refine g_getr (n := 182) (ci := 11) (j := 2) (b := (44)) rfl (by decide +kernel) (by decide) (by decide) (by decide +kernel) ?_
                  refine g_getv (n := 185) (ci := 1) (j := 5) (v := d2 3) (rK_n hR2 (j := 3) (by omega)) rfl (by decide +kernel) rfl (by decide) (cf_hd c44) ?_
                  refine g_top (w := (fOB (up d (34 + 10 * gg + 4) (nI (t + k)))).2) hbk ?_
                  refine g_istore5 (n := 187) rfl rfl ?_
                  refine g_iinc7 (n := 190) rfl rfl (nI_inc _) ?_
                  refine g_goto 83 rfl (by decide) ?_
                  exact ih (k + 1) (nI (t + k)) (fOB (up d (34 + 10 * gg + 4) (nI (t + k)))).1 (fOB (up d (34 + 10 * gg + 4) (nI (t + k)))).2 I2 rfl (by omega) hC3 hF3 hf2
                ·
                  refine g_iload (n := 161) rfl rfl ?_
                  refine g_iload (n := 163) rfl rfl ?_
                  refine g_iclt (n := 166) 171 rfl (by decide) (fun h9 => ?_) (fun h9 => ?_)
                  ·
                    have hf2 : fBs d gg (60 - (k + 1)) (nI (t + (k + 1))) (nI (t + k), (fOB (up d (34 + 10 * gg + 4) (nI (t + k)))).1, (fOB (up d (34 + 10 * gg + 4) (nI (t + k)))).2) = F := by rw [fBs_st hkc hL4 (by omega), if_pos (c := 0 ≤ (fOB (up d (34 + 10 * gg + 4) (nI (t + k)))).1 ∧ (b1 < 0 ∨ (fOB (up d (34 + 10 * gg + 4) (nI (t + k)))).1 < b2 ∨ ((fOB (up d (34 + 10 * gg + 4) (nI (t + k)))).1 = b2 ∧ (fOB (up d (34 + 10 * gg + 4) (nI (t + k)))).2 < b3))) (⟨(Int32.not_lt.mp h7), Or.inr (Or.inl h9)⟩)] at hf; exact hf
                    have hbk : d2 3 = (fOB (up d (34 + 10 * gg + 4) (nI (t + k)))).2 := hp2 (Int32.not_lt.mp h7)
                    refine g_iload (n := 173) rfl rfl ?_
                    refine g_istore_n3 (n := 174) rfl rfl ?_
                    refine g_iload (n := 176) rfl rfl ?_
                    refine g_istore4 (n := 178) rfl rfl ?_
                    refine g_aload_n (n := 179) rfl rfl ?_
                    refine g_getr (n := 182) (ci := 11) (j := 2) (b := (44)) rfl (by decide +kernel) (by decide) (by decide) (by decide +kernel) ?_
                    refine g_getv (n := 185) (ci := 1) (j := 5) (v := d2 3) (rK_n hR2 (j := 3) (by omega)) rfl (by decide +kernel) rfl (by decide) (cf_hd c44) ?_
                    refine g_top (w := (fOB (up d (34 + 10 * gg + 4) (nI (t + k)))).2) hbk ?_
                    refine g_istore5 (n := 187) rfl rfl ?_
                    refine g_iinc7 (n := 190) rfl rfl (nI_inc _) ?_
                    refine g_goto 83 rfl (by decide) ?_
                    exact ih (k + 1) (nI (t + k)) (fOB (up d (34 + 10 * gg + 4) (nI (t + k)))).1 (fOB (up d (34 + 10 * gg + 4) (nI (t + k)))).2 I2 rfl (by omega) hC3 hF3 hf2
                  ·
                    refine g_iload (n := 168) rfl rfl ?_
                    refine g_ifeq0 (n := 171) 187 rfl (by decide) ?_
                    have hf2 : fBs d gg (60 - (k + 1)) (nI (t + (k + 1))) (b1, b2, b3) = F := by rw [fBs_st hkc hL4 (by omega), if_neg (c := 0 ≤ (fOB (up d (34 + 10 * gg + 4) (nI (t + k)))).1 ∧ (b1 < 0 ∨ (fOB (up d (34 + 10 * gg + 4) (nI (t + k)))).1 < b2 ∨ ((fOB (up d (34 + 10 * gg + 4) (nI (t + k)))).1 = b2 ∧ (fOB (up d (34 + 10 * gg + 4) (nI (t + k)))).2 < b3))) (fun q => q.2.elim (fun z => h8 z) (fun z => z.elim (fun z => h9 z) (fun z => Int32.not_lt.mpr ((hp2 (Int32.not_lt.mp h7)) ▸ h6) z.2)))] at hf; exact hf
                    refine g_iinc7 (n := 190) rfl rfl (nI_inc _) ?_
                    refine g_goto 83 rfl (by decide) ?_
                    exact ih (k + 1) b1 b2 b3 I2 rfl (by omega) hC3 hF3 hf2
            ·
              refine g_iconst (n := 144) (v := 1) rfl rfl ?_
              refine g_goto 148 rfl (by decide) ?_
              refine g_istore9 (n := 150) rfl rfl ?_
              refine g_iload (n := 152) rfl rfl ?_
              refine g_iflt (n := 155) 187 rfl (by decide) (fun h10 => ?_) (fun h10 => ?_)
              ·
                have hf2 : fBs d gg (60 - (k + 1)) (nI (t + (k + 1))) (b1, b2, b3) = F := by rw [fBs_st hkc hL4 (by omega), if_neg (c := 0 ≤ (fOB (up d (34 + 10 * gg + 4) (nI (t + k)))).1 ∧ (b1 < 0 ∨ (fOB (up d (34 + 10 * gg + 4) (nI (t + k)))).1 < b2 ∨ ((fOB (up d (34 + 10 * gg + 4) (nI (t + k)))).1 = b2 ∧ (fOB (up d (34 + 10 * gg + 4) (nI (t + k)))).2 < b3))) (fun q => Int32.not_lt.mpr q.1 h10)] at hf; exact hf
                refine g_iinc7 (n := 190) rfl rfl (nI_inc _) ?_
                refine g_goto 83 rfl (by decide) ?_
                exact ih (k + 1) b1 b2 b3 I2 rfl (by omega) hC3 hF3 hf2
              ·
                refine g_iload_n (n := 156) rfl rfl ?_
                refine g_iflt (n := 159) 171 rfl (by decide) (fun h11 => ?_) (fun h11 => ?_)
                ·
                  have hf2 : fBs d gg (60 - (k + 1)) (nI (t + (k + 1))) (nI (t + k), (fOB (up d (34 + 10 * gg + 4) (nI (t + k)))).1, (fOB (up d (34 + 10 * gg + 4) (nI (t + k)))).2) = F := by rw [fBs_st hkc hL4 (by omega), if_pos (c := 0 ≤ (fOB (up d (34 + 10 * gg + 4) (nI (t + k)))).1 ∧ (b1 < 0 ∨ (fOB (up d (34 + 10 * gg + 4) (nI (t + k)))).1 < b2 ∨ ((fOB (up d (34 + 10 * gg + 4) (nI (t + k)))).1 = b2 ∧ (fOB (up d (34 + 10 * gg + 4) (nI (t + k)))).2 < b3))) (⟨(Int32.not_lt.mp h10), Or.inl h11⟩)] at hf; exact hf
                  have hbk : d2 3 = (fOB (up d (34 + 10 * gg + 4) (nI (t + k)))).2 := hp2 (Int32.not_lt.mp h10)
                  refine g_iload (n := 173) rfl rfl ?_
                  refine g_istore_n3 (n := 174) rfl rfl ?_
                  refine g_iload (n := 176) rfl rfl ?_
                  refine g_istore4 (n := 178) rfl rfl ?_
                  refine g_aload_n (n := 179) rfl rfl ?_
                  refine g_getr (n := 182) (ci := 11) (j := 2) (b := (44)) rfl (by decide +kernel) (by decide) (by decide) (by decide +kernel) ?_
                  refine g_getv (n := 185) (ci := 1) (j := 5) (v := d2 3) (rK_n hR2 (j := 3) (by omega)) rfl (by decide +kernel) rfl (by decide) (cf_hd c44) ?_
                  refine g_top (w := (fOB (up d (34 + 10 * gg + 4) (nI (t + k)))).2) hbk ?_
                  refine g_istore5 (n := 187) rfl rfl ?_
                  refine g_iinc7 (n := 190) rfl rfl (nI_inc _) ?_
                  refine g_goto 83 rfl (by decide) ?_
                  exact ih (k + 1) (nI (t + k)) (fOB (up d (34 + 10 * gg + 4) (nI (t + k)))).1 (fOB (up d (34 + 10 * gg + 4) (nI (t + k)))).2 I2 rfl (by omega) hC3 hF3 hf2
                ·
                  refine g_iload (n := 161) rfl rfl ?_
                  refine g_iload (n := 163) rfl rfl ?_
                  refine g_iclt (n := 166) 171 rfl (by decide) (fun h12 => ?_) (fun h12 => ?_)
                  ·
                    have hf2 : fBs d gg (60 - (k + 1)) (nI (t + (k + 1))) (nI (t + k), (fOB (up d (34 + 10 * gg + 4) (nI (t + k)))).1, (fOB (up d (34 + 10 * gg + 4) (nI (t + k)))).2) = F := by rw [fBs_st hkc hL4 (by omega), if_pos (c := 0 ≤ (fOB (up d (34 + 10 * gg + 4) (nI (t + k)))).1 ∧ (b1 < 0 ∨ (fOB (up d (34 + 10 * gg + 4) (nI (t + k)))).1 < b2 ∨ ((fOB (up d (34 + 10 * gg + 4) (nI (t + k)))).1 = b2 ∧ (fOB (up d (34 + 10 * gg + 4) (nI (t + k)))).2 < b3))) (⟨(Int32.not_lt.mp h10), Or.inr (Or.inl h12)⟩)] at hf; exact hf
                    have hbk : d2 3 = (fOB (up d (34 + 10 * gg + 4) (nI (t + k)))).2 := hp2 (Int32.not_lt.mp h10)
                    refine g_iload (n := 173) rfl rfl ?_
                    refine g_istore_n3 (n := 174) rfl rfl ?_
                    refine g_iload (n := 176) rfl rfl ?_
                    refine g_istore4 (n := 178) rfl rfl ?_
                    refine g_aload_n (n := 179) rfl rfl ?_
                    refine g_getr (n := 182) (ci := 11) (j := 2) (b := (44)) rfl (by decide +kernel) (by decide) (by decide) (by decide +kernel) ?_
                    refine g_getv (n := 185) (ci := 1) (j := 5) (v := d2 3) (rK_n hR2 (j := 3) (by omega)) rfl (by decide +kernel) rfl (by decide) (cf_hd c44) ?_
                    refine g_top (w := (fOB (up d (34 + 10 * gg + 4) (nI (t + k)))).2) hbk ?_
                    refine g_istore5 (n := 187) rfl rfl ?_
                    refine g_iinc7 (n := 190) rfl rfl (nI_inc _) ?_
                    refine g_goto 83 rfl (by decide) ?_
                    exact ih (k + 1) (nI (t + k)) (fOB (up d (34 + 10 * gg + 4) (nI (t + k)))).1 (fOB (up d (34 + 10 * gg + 4) (nI (t + k)))).2 I2 rfl (by omega) hC3 hF3 hf2
                  ·
                    refine g_iload (n := 168) rfl rfl ?_
                    refine g_ifeq1 (n := 171) 187 rfl (by decide) ?_
                    have hf2 : fBs d gg (60 - (k + 1)) (nI (t + (k + 1))) (nI (t + k), (fOB (up d (34 + 10 * gg + 4) (nI (t + k)))).1, (fOB (up d (34 + 10 * gg + 4) (nI (t + k)))).2) = F := by rw [fBs_st hkc hL4 (by omega), if_pos (c := 0 ≤ (fOB (up d (34 + 10 * gg + 4) (nI (t + k)))).1 ∧ (b1 < 0 ∨ (fOB (up d (34 + 10 * gg + 4) (nI (t + k)))).1 < b2 ∨ ((fOB (up d (34 + 10 * gg + 4) (nI (t + k)))).1 = b2 ∧ (fOB (up d (34 + 10 * gg + 4) (nI (t + k)))).2 < b3))) (⟨(Int32.not_lt.mp h10), Or.inr (Or.inr ⟨h2, (hp2 (Int32.not_lt.mp h10)) ▸ (Int32.not_le.mp h6)⟩)⟩)] at hf; exact hf
                    have hbk : d2 3 = (fOB (up d (34 + 10 * gg + 4) (nI (t + k)))).2 := hp2 (Int32.not_lt.mp h10)
                    refine g_iload (n := 173) rfl rfl ?_
                    refine g_istore_n3 (n := 174) rfl rfl ?_
                    refine g_iload (n := 176) rfl rfl ?_
                    refine g_istore4 (n := 178) rfl rfl ?_
                    refine g_aload_n (n := 179) rfl rfl ?_
                    refine g_getr (n := 182) (ci := 11) (j := 2) (b := (44)) rfl (by decide +kernel) (by decide) (by decide) (by decide +kernel) ?_
                    refine g_getv (n := 185) (ci := 1) (j := 5) (v := d2 3) (rK_n hR2 (j := 3) (by omega)) rfl (by decide +kernel) rfl (by decide) (cf_hd c44) ?_
                    refine g_top (w := (fOB (up d (34 + 10 * gg + 4) (nI (t + k)))).2) hbk ?_
                    refine g_istore5 (n := 187) rfl rfl ?_
                    refine g_iinc7 (n := 190) rfl rfl (nI_inc _) ?_
                    refine g_goto 83 rfl (by decide) ?_
                    exact ih (k + 1) (nI (t + k)) (fOB (up d (34 + 10 * gg + 4) (nI (t + k)))).1 (fOB (up d (34 + 10 * gg + 4) (nI (t + k)))).2 I2 rfl (by omega) hC3 hF3 hf2
    exact H c 0 (-1) 0 0 I rfl (by omega) hC cF.rfl' hF0
  refine g_aload_n (n := 1) rfl rfl ?_
  refine g_iload_n (n := 2) rfl rfl ?_
  refine g_cv1 (n := 5) (t := 128) (ci := 11) rfl (by decide +kernel) (by decide +kernel) (by decide) (by decide) (by decide +kernel) (by rfl) (c_kGoer hR) (by omega) (g_E ?_)
  refine g_split (fun h1 => ?_) (fun h1 => ?_)
  ·
    refine g_ifeq1 (n := 8) 17 rfl (by decide) ?_
    refine g_iload_n (n := 9) rfl rfl ?_
    refine g_iflt (n := 12) 17 rfl (by decide) (fun h2 => ?_) (fun h2 => ?_)
    ·
      have h2i : Int32.toInt _ < 0 := Int32.lt_iff_toInt_lt.mp (h2)
      refine g_aload_n (n := 18) rfl rfl ?_
      refine g_ldc (n := 20) (v := -1000000001) (pl := 419) rfl (by decide +kernel) ?_
      refine g_top (w := -1000000000 - nI 1) (by decide) ?_
      refine g_cv1 (n := 23) (t := 126) (ci := 11) rfl (by decide +kernel) (by decide +kernel) (by decide) (by decide) (by decide +kernel) (by rfl) (c_fail (k := 1) (by omega)) (by omega) (g_E ?_)
      refine g_iret (n := 24) rfl (fun h => nomatch h) ?_
      unfold oBest
      first | rw [if_neg h1] | rw [if_pos h1, if_neg (c := 0 ≤ w.toInt ∧ w.toInt ≤ 2) (by omega)]
      exact qC_e (by omega) hC cF.rfl'
    ·
      have h2i : 0 ≤ Int32.toInt _ := Int32.le_iff_toInt_le.mp (Int32.not_lt.mp h2)
      refine g_iload_n (n := 13) rfl rfl ?_
      refine g_iconst (n := 14) (v := 2) rfl rfl ?_
      refine g_icle (n := 17) 24 rfl (by decide) (fun h3 => ?_) (fun h3 => ?_)
      ·
        have h3i : Int32.toInt _ ≤ 2 := Int32.le_iff_toInt_le.mp (h3)
        obtain ⟨gg, hgg, rfl, hcgg⟩ := iR_nI (x := g) (n := (fN d)) ⟨by omega, by omega⟩
        have hdgg : cl (nI gg) = gg := hcgg
        refine g_aload_n (n := 25) rfl rfl ?_
        refine g_getr (n := 28) (ci := 11) (j := 1) (b := (14)) rfl (by decide +kernel) (by decide) (by decide) (by decide +kernel) ?_
        refine g_getr (n := 31) (ci := 1) (j := 1) (b := ((14) + 2)) rfl (by decide +kernel) (cf_hd c14) (cf_lt c14 (by decide)) (cf_r1 c14) ?_
        refine g_iload_n (n := 32) rfl rfl ?_
        refine g_aald (n := 33) (b := ((14) + 3 + gg)) (gg) rfl (cf_2a c14) (cf_2h c14) rfl (cf_2x c14 (by omega)) (cf_2r c14 (by omega)) ?_
        refine g_getv (n := 36) (ci := 4) (j := 6) (v := fO d gg 5) (rK_g hR (show gg < fN d by omega) (w := 5) (by omega)) rfl (by decide +kernel) rfl (by decide) (cf_gh c14 (show gg < 8 by omega)) ?_
        refine g_ifeq (n := 39) 46 rfl (by decide) (fun h4 => ?_) (fun h4 => ?_)
        ·
          refine g_iconst (n := 47) (v := -1) rfl rfl ?_
          refine g_istore_n3 (n := 48) rfl rfl ?_
          refine g_iconst (n := 49) (v := 0) rfl rfl ?_
          refine g_istore4 (n := 51) rfl rfl ?_
          refine g_iconst (n := 52) (v := 0) rfl rfl ?_
          refine g_istore5 (n := 54) rfl rfl ?_
          refine g_aload_n (n := 55) rfl rfl ?_
          refine g_getr (n := 58) (ci := 11) (j := 1) (b := (14)) rfl (by decide +kernel) (by decide) (by decide) (by decide +kernel) ?_
          refine g_getv (n := 61) (ci := 1) (j := 3) (v := nI t) ((rK_n hR (j := 1) (by omega)).trans et) rfl (by decide +kernel) rfl (by decide) (cf_hd c14) ?_
          refine g_bipush (n := 63) (v := 60) rfl rfl ?_
          refine g_iadd (n := 64) rfl ?_
          refine g_iconst (n := 65) (v := 1) rfl rfl ?_
          refine g_isub (n := 66) rfl ?_
          refine g_sipush (n := 69) (v := 999) rfl rfl ?_
          refine g_min (n := 72) (pl := 863) rfl (by decide +kernel) rfl ?_
          refine g_top (w := nI (if 999 < t + 59 then 999 else t + 59)) (lim2_eq ht) ?_
          refine g_istore6 (n := 74) rfl rfl ?_
          refine g_aload_n (n := 75) rfl rfl ?_
          refine g_getr (n := 78) (ci := 11) (j := 1) (b := (14)) rfl (by decide +kernel) (by decide) (by decide) (by decide +kernel) ?_
          refine g_getv (n := 81) (ci := 1) (j := 3) (v := nI t) ((rK_n hR (j := 1) (by omega)).trans et) rfl (by decide +kernel) rfl (by decide) (cf_hd c14) ?_
          refine g_istore7 (n := 83) rfl rfl ?_
          unfold oBest
          rw [if_pos h1, if_pos (c := 0 ≤ w.toInt ∧ w.toInt ≤ 2) ⟨by omega, by omega⟩, hdgg, if_pos h4]
          unfold fBest
          rw [et]
          rcases (show 999 < t ∨ (¬ 999 < t ∧ 999 < t + 59) ∨ ¬ 999 < t + 59 by omega) with hh | ⟨hh, hh2⟩ | hh
          · rw [if_pos (c := 999 < t + 59) (by omega)]; exact HH gg hgg t ht 999 0 (by omega) (by omega) (by omega) (by omega) (by omega) _ rfl
          · rw [if_pos (c := 999 < t + 59) hh2]; exact HH gg hgg t ht 999 (1000 - t) (by omega) (by omega) (by omega) (by omega) (by omega) _ rfl
          · rw [if_neg (c := 999 < t + 59) hh]; exact HH gg hgg t ht (t + 59) 60 (by omega) (by omega) (by omega) (by omega) (by omega) _ rfl
        ·
          refine g_aload_n (n := 40) rfl rfl ?_
          refine g_ldc (n := 42) (v := -1000000003) (pl := 586) rfl (by decide +kernel) ?_
          refine g_top (w := -1000000000 - nI 3) (by decide) ?_
          refine g_cv1 (n := 45) (t := 126) (ci := 11) rfl (by decide +kernel) (by decide +kernel) (by decide) (by decide) (by decide +kernel) (by rfl) (c_fail (k := 3) (by omega)) (by omega) (g_E ?_)
          refine g_iret (n := 46) rfl (fun h => nomatch h) ?_
          unfold oBest
          rw [if_pos h1, if_pos (c := 0 ≤ w.toInt ∧ w.toInt ≤ 2) ⟨by omega, by omega⟩, hdgg, if_neg h4]
          exact qC_e (by omega) hC cF.rfl'
      ·
        have h3i : 2 < Int32.toInt _ := Int32.lt_iff_toInt_lt.mp (Int32.not_le.mp h3)
        refine g_aload_n (n := 18) rfl rfl ?_
        refine g_ldc (n := 20) (v := -1000000001) (pl := 419) rfl (by decide +kernel) ?_
        refine g_top (w := -1000000000 - nI 1) (by decide) ?_
        refine g_cv1 (n := 23) (t := 126) (ci := 11) rfl (by decide +kernel) (by decide +kernel) (by decide) (by decide) (by decide +kernel) (by rfl) (c_fail (k := 1) (by omega)) (by omega) (g_E ?_)
        refine g_iret (n := 24) rfl (fun h => nomatch h) ?_
        unfold oBest
        first | rw [if_neg h1] | rw [if_pos h1, if_neg (c := 0 ≤ w.toInt ∧ w.toInt ≤ 2) (by omega)]
        exact qC_e (by omega) hC cF.rfl'
  ·
    refine g_ifeq0 (n := 8) 17 rfl (by decide) ?_
    refine g_aload_n (n := 18) rfl rfl ?_
    refine g_ldc (n := 20) (v := -1000000001) (pl := 419) rfl (by decide +kernel) ?_
    refine g_top (w := -1000000000 - nI 1) (by decide) ?_
    refine g_cv1 (n := 23) (t := 126) (ci := 11) rfl (by decide +kernel) (by decide +kernel) (by decide) (by decide) (by decide +kernel) (by rfl) (c_fail (k := 1) (by omega)) (by omega) (g_E ?_)
    refine g_iret (n := 24) rfl (fun h => nomatch h) ?_
    unfold oBest
    first | rw [if_neg h1] | rw [if_pos h1, if_neg (c := 0 ≤ w.toInt ∧ w.toInt ≤ 2) (by omega)]
    exact qC_e (by omega) hC cF.rfl'
