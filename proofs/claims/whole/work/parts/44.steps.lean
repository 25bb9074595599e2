/-! the class reads a text: its steps, and the whole -/
def kInv (i : Nat) (s : kC) : Prop := s.1.length + s.2.1.length ≤ i ∧ (1 ≤ s.2.2.2.1 → s.1 ≠ [])
theorem ne_len {l : List Int32} (h : 0 < l.length) : l ≠ [] := fun q => by rw [q] at h; exact absurd h (Nat.lt_irrefl _)
theorem len_ne {l : List Int32} (h : l ≠ []) : 0 < l.length := List.length_pos_iff.mpr h
theorem kRel_ne {L : Nat} {P cd : List Int32} {o : Int32} (h : cd ≠ []) : (kRel L P cd o).1 ≠ [] := ne_len (Nat.lt_of_lt_of_le (len_ne h) (kRel_len (L := L) P cd o).2)
theorem kInv_s {t c : Int32} {i : Nat} {s s' : kC} (h : kSt t c s = some s') (hi : kInv i s) : kInv (i + 1) s' := by
  obtain ⟨cd, P, o, dg, wt⟩ := s
  obtain ⟨h1, h2⟩ := hi
  have h1' : cd.length + P.length ≤ i := h1
  have h2' : 1 ≤ dg → cd ≠ [] := h2
  cases wt with
  | true =>
    rw [kSt_t] at h
    unfold kBeg at h
    split at h
    · split at h
      · cases h
      · cases h
        exact ⟨by show cd.length + (c :: P).length ≤ i + 1; rw [List.length_cons]; omega, h2'⟩
    · split at h
      · cases h
        exact ⟨by show (cd ++ [c - 48]).length + P.length ≤ i + 1; rw [List.length_append]; show cd.length + 1 + P.length ≤ i + 1; omega, fun _ => by simp⟩
      · split at h
        · cases h
        · cases h
          exact ⟨by show (cd ++ [-1 - pName t c]).length + P.length ≤ i + 1; rw [List.length_append]; show cd.length + 1 + P.length ≤ i + 1; omega, fun q => absurd (show (1 : Int32) ≤ 0 from q) (by decide)⟩
  | false =>
    rw [kSt_f] at h
    unfold kGn at h
    split at h
    · split at h
      next hd =>
        cases h
        have h3 := len_ne (h2' hd.1)
        refine ⟨?_, fun _ => by unfold kAdd; simp⟩
        show (kAdd cd (c - 48)).length + P.length ≤ i + 1
        unfold kAdd
        rw [List.length_append, List.length_dropLast]
        show cd.length - 1 + 1 + P.length ≤ i + 1
        omega
      · cases h
    · split at h
      · split at h
        · cases h
          refine ⟨?_, fun q => absurd (show (1 : Int32) ≤ 0 from q) (by decide)⟩
          have h3 := (kRel_len (L := 1) P cd o).1
          show (kRel 1 P cd o).1.length + (kRel 1 P cd o).2.1.tail.length ≤ i + 1
          rw [List.length_tail]
          omega
        · cases h
      · split at h
        · cases h
        · split at h
          · split at h
            · cases h
            · cases h
              have h3 := (kRel_len (L := 4) P cd o).1
              refine ⟨?_, fun q => kRel_ne (h2' q)⟩
              show (kRel 4 P cd o).1.length + (c :: (kRel 4 P cd o).2.1).length ≤ i + 1
              rw [List.length_cons]
              omega
          · cases h
            have h3 := (kRel_len (L := lv c) P cd o).1
            refine ⟨?_, fun q => kRel_ne (h2' q)⟩
            show (kRel (lv c) P cd o).1.length + (c :: (kRel (lv c) P cd o).2.1).length ≤ i + 1
            rw [List.length_cons]
            omega
def kCl (s : kC) : Option kC := if (kRel 1 s.2.1 s.1 s.2.2.1).2.1.headD 0 = 40 then some ((kRel 1 s.2.1 s.1 s.2.2.1).1, (kRel 1 s.2.1 s.1 s.2.2.1).2.1.tail, (kRel 1 s.2.1 s.1 s.2.2.1).2.2 - 1, 0, false) else none
theorem kR_set {I : mg_I} {cd P : List Int32} {o dg y x : Int32} {wt : Bool} (h : kR I (cd ++ [y], P, o, dg, wt)) : kR (mf_up I 106 cd.length x) (cd ++ [x], P, o, dg, wt) := by
  obtain ⟨h1, h2, h3, h4, h5⟩ := h
  refine ⟨⟨?_, fun i hi => ?_⟩, vs_fr h2 (fun j => rfl) (fun j => rfl), h3, h4, h5⟩
  · have e := h1.1
    rw [List.length_append] at e ⊢
    exact e
  · rw [List.length_append] at hi
    have hi2 : i < cd.length + 1 := hi
    show (if 106 = 106 ∧ i = cd.length then x else I 106 i) = (cd ++ [x]).getD i 0
    rw [List.getD_eq_getElem?_getD]
    by_cases hc : i = cd.length
    · rw [if_pos ⟨rfl, hc⟩, hc, List.getElem?_append_right (Nat.le_refl _), Nat.sub_self]
      rfl
    · rw [if_neg (fun q => hc q.2), List.getElem?_append_left (by omega)]
      have e := h1.2 i (by rw [List.length_append]; exact hi2)
      rw [List.getD_eq_getElem?_getD, List.getElem?_append_left (by omega)] at e
      exact e
theorem kAdd_c {cd : List Int32} {y x : Int32} : kAdd (cd ++ [y]) x = cd ++ [y * 10 + x] := by
  unfold kAdd
  rw [List.dropLast_concat, List.getLastD_concat]
theorem c_closes {sc : List Value} {nm : Nat} {I : mg_I} {cd P : List Int32} {o dg : Int32} (hk : kR I (cd, P, o, dg, false)) (hl : cd.length + P.length ≤ 50) : SP sc 4 73 [.ref 104] I nm (qB2 (kCl (cd, P, o, dg, false)) I nm) := by
  refine SP.of (h := 3) (t := 73) (q := (yX8_closes, cX8_closes, 1, (some .boolean), 8, 718, mi_k73)) rfl (by decide) (show ¬ (1 : Nat) < 1 by decide) (fun d hd => ?_)
  show GG sc 8 false true mi_k73 d 0 [.ref 104] [] I nm (qB2 (kCl (cd, P, o, dg, false)) I nm)
  refine g_aload_n (n := 1) rfl rfl ?_
  refine g_iconst (n := 2) (v := 1) rfl rfl ?_
  refine g_cv1 (n := 5) (t := 74) (ci := 8) rfl (by decide +kernel) (by decide +kernel) (by decide) (by decide) (by decide +kernel) (by rfl) (c_release (L := 1) (by omega) hk hl) (by omega) (g_K fun I2 hk2 hF2 => ?_)
  have hlr := kRel_len (L := 1) P cd o
  generalize hrr : kRel 1 P cd o = rr at *
  obtain ⟨cd2, P2, o2⟩ := rr
  have hl2 : cd2.length + P2.length = cd.length + P.length := hlr.1
  refine g_aload_n (n := 6) rfl rfl ?_
  refine g_getr (n := 9) (ci := 8) (j := 4) (b := 109) rfl (by decide +kernel) (by decide) (by decide) (by decide +kernel) ?_
  refine g_cv0 (n := 12) (t := 55) (ci := 6) rfl (by decide +kernel) (by decide +kernel) (rw_hd r109) (rw_136 r109) (by decide +kernel) (by rfl) (c_vlast r109 hk2.2.1 (by show P2.length ≤ 50; omega)) (by omega) (g_E ?_)
  refine g_top (w := P2.headD 0) rfl ?_
  refine g_bipush (n := 14) (v := 40) rfl rfl ?_
  refine g_iceq (n := 17) 19 rfl (by decide) (fun h1 => ?_) (fun h1 => ?_)
  ·
    rw [show kCl (cd, P, o, dg, false) = some (cd2, P2.tail, o2 - 1, 0, false) by unfold kCl; rw [hrr]; exact if_pos h1]
    refine g_aload_n (n := 20) rfl rfl ?_
    refine g_getr (n := 23) (ci := 8) (j := 4) (b := 109) rfl (by decide +kernel) (by decide) (by decide) (by decide +kernel) ?_
    refine g_cv0 (n := 26) (t := 56) (ci := 6) rfl (by decide +kernel) (by decide +kernel) (rw_hd r109) (rw_136 r109) (by decide +kernel) (by rfl) (c_vpop r109 hk2.2.1 (by show P2.length ≤ 50; omega)) (by omega) (g_VS fun I3 hs3 hF3 => ?_)
    have hk3 := kR_v hk2 hs3 hF3
    have hG3 := hF2.trans (dF_v hF3)
    refine g_popi (n := 27) rfl ?_
    refine g_aload_n (n := 28) rfl rfl ?_
    refine g_dupa (n := 29) rfl ?_
    refine g_getv (n := 32) (ci := 8) (j := 6) (v := o2) hk3.2.2.1 rfl (by decide +kernel) rfl (by decide) (by decide) ?_
    refine g_iconst (n := 33) (v := 1) rfl rfl ?_
    refine g_isub (n := 34) rfl ?_
    refine g_puti (n := 37) (ci := 8) (j := 6) rfl (by decide +kernel) rfl (by decide) (by decide) (by decide +kernel) rfl ?_
    have hk4 := kR_open (o2 := o2 - 1) hk3
    have hF4 := dF_up (a := 104) (j := 6) (x := (o2 - 1)) hG3 (by decide)
    refine g_aload_n (n := 38) rfl rfl ?_
    refine g_iconst (n := 39) (v := 0) rfl rfl ?_
    refine g_puti (n := 42) (ci := 8) (j := 7) rfl (by decide +kernel) rfl (by decide) (by decide) (by decide +kernel) rfl ?_
    have hk5 := kR_dig (d2 := 0) hk4
    have hF5 := dF_up (a := 104) (j := 7) (x := 0) hF4 (by decide)
    refine g_iconst (n := 43) (v := 1) rfl rfl ?_
    refine g_iret (n := 44) rfl (fun _ => by first | exact Or.inl rfl | exact Or.inr rfl | exact bI_01 | (rw [hb]; exact bP_01)) ?_
    exact qB2_s hk5 hF5
  ·
    rw [show kCl (cd, P, o, dg, false) = none by unfold kCl; rw [hrr]; exact if_neg h1]
    refine g_iconst (n := 18) (v := 0) rfl rfl ?_
    refine g_iret (n := 19) rfl (fun _ => by first | exact Or.inl rfl | exact Or.inr rfl | exact bI_01 | (rw [hb]; exact bP_01)) ?_
    exact qB2_n hF2
theorem c_addsDigit {sc : List Value} {nm : Nat} {I : mg_I} {cd P : List Int32} {o dg x y : Int32} (hk : kR I (cd ++ [y], P, o, dg, false)) (hl : cd.length < 50) : SP sc 3 72 [.ref 104, .int x] I nm (qB2 (if 1 ≤ dg ∧ dg < 4 then some (kAdd (cd ++ [y]) x, P, o, dg + 1, false) else none) I nm) := by
  refine SP.of (h := 2) (t := 72) (q := (yX8_addsDigit, cX8_addsDigit, 2, (some .boolean), 8, 706, mi_k72)) rfl (by decide) (show ¬ (2 : Nat) < 2 by decide) (fun d hd => ?_)
  show GG sc 8 false true mi_k72 d 0 [.ref 104, .int x] [] I nm (qB2 (if 1 ≤ dg ∧ dg < 4 then some (kAdd (cd ++ [y]) x, P, o, dg + 1, false) else none) I nm)
  have hc1 : I 105 1 = nI (cd.length + 1) := by have e := hk.1.1; rw [List.length_append] at e; exact e
  have hc2 : I 106 cd.length = y := by
    have e := hk.1.2 cd.length (by rw [List.length_append]; show cd.length < cd.length + 1; omega)
    rw [List.getD_eq_getElem?_getD, List.getElem?_append_right (Nat.le_refl _), Nat.sub_self] at e
    exact e
  refine g_aload_n (n := 1) rfl rfl ?_
  refine g_getv (n := 4) (ci := 8) (j := 7) (v := dg) hk.2.2.2.1 rfl (by decide +kernel) rfl (by decide) (by decide) ?_
  refine g_iconst (n := 5) (v := 1) rfl rfl ?_
  refine g_iclt (n := 8) 16 rfl (by decide) (fun h1 => ?_) (fun h1 => ?_)
  ·
    rw [if_neg (fun q => Int32.not_lt.mpr q.1 h1)]
    refine g_iconst (n := 17) (v := 0) rfl rfl ?_
    refine g_iret (n := 18) rfl (fun _ => by first | exact Or.inl rfl | exact Or.inr rfl | exact bI_01 | (rw [hb]; exact bP_01)) ?_
    exact qB2_n dF.rfl'
  ·
    refine g_aload_n (n := 9) rfl rfl ?_
    refine g_getv (n := 12) (ci := 8) (j := 7) (v := dg) hk.2.2.2.1 rfl (by decide +kernel) rfl (by decide) (by decide) ?_
    refine g_iconst (n := 13) (v := 4) rfl rfl ?_
    refine g_iclt (n := 16) 18 rfl (by decide) (fun h2 => ?_) (fun h2 => ?_)
    ·
      rw [if_pos ⟨Int32.not_lt.mp h1, h2⟩, kAdd_c]
      refine g_aload_n (n := 19) rfl rfl ?_
      refine g_getr (n := 22) (ci := 8) (j := 2) (b := 105) rfl (by decide +kernel) (by decide) (by decide) (by decide +kernel) ?_
      refine g_aload_n (n := 23) rfl rfl ?_
      refine g_getr (n := 26) (ci := 8) (j := 2) (b := 105) rfl (by decide +kernel) (by decide) (by decide) (by decide +kernel) ?_
      refine g_getv (n := 29) (ci := 6) (j := 1) (v := nI (cd.length + 1)) hc1 rfl (by decide +kernel) rfl (by decide) (rw_hd r105) ?_
      refine g_iconst (n := 30) (v := 1) rfl rfl ?_
      refine g_isub (n := 31) rfl ?_
      refine g_top (w := nI cd.length) (nI_pred _) ?_
      refine g_aload_n (n := 32) rfl rfl ?_
      refine g_getr (n := 35) (ci := 8) (j := 2) (b := 105) rfl (by decide +kernel) (by decide) (by decide) (by decide +kernel) ?_
      refine g_cv0 (n := 38) (t := 55) (ci := 6) rfl (by decide +kernel) (by decide +kernel) (rw_hd r105) (rw_136 r105) (by decide +kernel) (by rfl) (c_rlast (n := cd.length) r105 hc1 (by omega)) (by omega) (g_E ?_)
      refine g_top (w := y) hc2 ?_
      refine g_bipush (n := 40) (v := 10) rfl rfl ?_
      refine g_imul (n := 41) rfl ?_
      refine g_iload_n (n := 42) rfl rfl ?_
      refine g_iadd (n := 43) rfl ?_
      refine g_cv2 (n := 46) (t := 53) (ci := 6) rfl (by decide +kernel) (by decide +kernel) (rw_hd r105) (rw_136 r105) (by decide +kernel) (by rfl) (c_rset (n := cd.length + 1) (k := cd.length) r105 hc1 (by omega) (by omega)) (by omega) (g_Z ?_)
      have hk2 := kR_set (x := y * 10 + x) hk
      have hF2 : dF I (mf_up I 106 cd.length (y * 10 + x)) := dF_up dF.rfl' (by decide)
      refine g_aload_n (n := 47) rfl rfl ?_
      refine g_dupa (n := 48) rfl ?_
      refine g_getv (n := 51) (ci := 8) (j := 7) (v := dg) hk2.2.2.2.1 rfl (by decide +kernel) rfl (by decide) (by decide) ?_
      refine g_iconst (n := 52) (v := 1) rfl rfl ?_
      refine g_iadd (n := 53) rfl ?_
      refine g_puti (n := 56) (ci := 8) (j := 7) rfl (by decide +kernel) rfl (by decide) (by decide) (by decide +kernel) rfl ?_
      have hk3 := kR_dig (d2 := dg + 1) hk2
      have hF3 := dF_up (a := 104) (j := 7) (x := (dg + 1)) hF2 (by decide)
      refine g_iconst (n := 57) (v := 1) rfl rfl ?_
      refine g_iret (n := 58) rfl (fun _ => by first | exact Or.inl rfl | exact Or.inr rfl | exact bI_01 | (rw [hb]; exact bP_01)) ?_
      exact qB2_s hk3 hF3
    ·
      rw [if_neg (fun q => h2 q.2)]
      refine g_iconst (n := 17) (v := 0) rfl rfl ?_
      refine g_iret (n := 18) rfl (fun _ => by first | exact Or.inl rfl | exact Or.inr rfl | exact bI_01 | (rw [hb]; exact bP_01)) ?_
      exact qB2_n dF.rfl'
theorem c_addsD0 {sc : List Value} {nm : Nat} {I : mg_I} {P : List Int32} {o dg x : Int32} (hk : kR I ([], P, o, dg, false)) (hdg : ¬ 1 ≤ dg) : SP sc 3 72 [.ref 104, .int x] I nm (qB2 (if 1 ≤ dg ∧ dg < 4 then some (kAdd [] x, P, o, dg + 1, false) else none) I nm) := by
  refine SP.of (h := 2) (t := 72) (q := (yX8_addsDigit, cX8_addsDigit, 2, (some .boolean), 8, 706, mi_k72)) rfl (by decide) (show ¬ (2 : Nat) < 2 by decide) (fun d hd => ?_)
  show GG sc 8 false true mi_k72 d 0 [.ref 104, .int x] [] I nm (qB2 (if 1 ≤ dg ∧ dg < 4 then some (kAdd [] x, P, o, dg + 1, false) else none) I nm)
  refine g_aload_n (n := 1) rfl rfl ?_
  refine g_getv (n := 4) (ci := 8) (j := 7) (v := dg) hk.2.2.2.1 rfl (by decide +kernel) rfl (by decide) (by decide) ?_
  refine g_iconst (n := 5) (v := 1) rfl rfl ?_
  refine g_iclt (n := 8) 16 rfl (by decide) (fun h1 => ?_) (fun h1 => ?_)
  ·
    rw [if_neg (fun q => hdg q.1)]
    refine g_iconst (n := 17) (v := 0) rfl rfl ?_
    refine g_iret (n := 18) rfl (fun _ => by first | exact Or.inl rfl | exact Or.inr rfl | exact bI_01 | (rw [hb]; exact bP_01)) ?_
    exact qB2_n dF.rfl'
  ·
    exact absurd (Int32.not_lt.mp h1) hdg
theorem c_adds {sc : List Value} {nm : Nat} {I : mg_I} {cd P : List Int32} {o dg x : Int32} (hk : kR I (cd, P, o, dg, false)) (hl : cd.length ≤ 50) (hne : 1 ≤ dg → cd ≠ []) : SP sc 3 72 [.ref 104, .int x] I nm (qB2 (if 1 ≤ dg ∧ dg < 4 then some (kAdd cd x, P, o, dg + 1, false) else none) I nm) := by
  rcases List.eq_nil_or_concat cd with rfl | ⟨L, y, rfl⟩
  · exact c_addsD0 hk (fun q => hne q rfl)
  · rw [List.concat_eq_append] at hk hl hne ⊢
    rw [List.length_append] at hl
    exact c_addsDigit hk (by have h : L.length + 1 ≤ 50 := hl; omega)
theorem lv_bounds {c : Int32} (h0 : ¬ (lv c = 0 ∨ lv c = 6)) : 1 ≤ lv c ∧ lv c ≤ 5 := by
  have := @lv_le c
  omega
theorem tail_B {sc : List Value} {own : Nat} {ini rz : Bool} {code : List (Nat × Instr)} {d pc n : Nat} {ls : List Value} {I I2 : mg_I} {nm nm2 : Nat} {o : Option kC} {a : Option Value} (h : mg_f code pc = some (.ireturn, n)) (hq : qB2 o I nm a I2 nm2) : GG sc own ini rz code d pc ls (a.toList ++ []) I2 nm2 (qB2 o I nm) := by
  cases o with
  | none =>
    have e : a = some (.int 0) := hq.1
    subst e
    exact g_iret h (fun _ => Or.inl rfl) hq
  | some s =>
    have e : a = some (.int 1) := hq.1.1
    subst e
    exact g_iret h (fun _ => Or.inr rfl) hq
theorem c_goesT {sc : List Value} {nm : Nat} {I : mg_I} {cd P : List Int32} {o dg c : Int32} (hk : kR I (cd, P, o, dg, false)) (hl : cd.length + P.length ≤ 50) (hl5 : cd.length + P.length < 50) (hne : 1 ≤ dg → cd ≠ []) : SP sc 5 71 [.ref 104, .int c] I nm (qB2 (kGn c (cd, P, o, dg, false)) I nm) := by
  refine SP.of (h := 4) (t := 71) (q := (yX8_goesOn, cX8_goesOn, 3, (some .boolean), 8, 702, mi_k71)) rfl (by decide) (show ¬ (3 : Nat) < 2 by decide) (fun d hd => ?_)
  show GG sc 8 false true mi_k71 d 0 [.ref 104, .int c, .null] [] I nm (qB2 (kGn c (cd, P, o, dg, false)) I nm)
  refine g_iload_n (n := 1) rfl rfl ?_
  refine g_cs1 (n := 4) (t := 75) (x := (696, 697, 83)) rfl (by decide +kernel) (by decide +kernel) (by rfl) c_isDigit (by omega) (g_E ?_)
  refine g_split (fun hdg => ?_) (fun hdg => ?_)
  ·
    refine g_ifeq1 (n := 7) 16 rfl (by decide) ?_
    unfold kGn
    rw [if_pos hdg]
    refine g_aload_n (n := 8) rfl rfl ?_
    refine g_iload_n (n := 9) rfl rfl ?_
    refine g_bipush (n := 11) (v := 48) rfl rfl ?_
    refine g_isub (n := 12) rfl ?_
    refine g_cv1 (n := 15) (t := 72) (ci := 8) rfl (by decide +kernel) (by decide +kernel) (by decide) (by decide) (by decide +kernel) (by rfl) (c_adds hk (by omega) hne) (by omega) (fun a I2 nm2 hq => ?_)
    exact tail_B (by rfl) hq
  ·
    refine g_ifeq0 (n := 7) 16 rfl (by decide) ?_
    unfold kGn
    rw [if_neg hdg]
    refine g_iload_n (n := 17) rfl rfl ?_
    refine g_bipush (n := 19) (v := 41) rfl rfl ?_
    refine g_icne (n := 22) 27 rfl (by decide) (fun h1 => ?_) (fun h1 => ?_)
    ·
      rw [if_neg h1]
      have hlv := @lv_le c
      refine g_iload_n (n := 28) rfl rfl ?_
      refine g_cs1 (n := 31) (t := 76) (x := (723, 724, 83)) rfl (by decide +kernel) (by decide +kernel) (by rfl) c_levelOf (by omega) (g_E ?_)
      refine g_istore_n2 (n := 32) rfl rfl ?_
      refine g_iload_n (n := 33) rfl rfl ?_
      refine g_iconst (n := 34) (v := 1) rfl rfl ?_
      refine g_iclt (n := 37) 42 rfl (by decide) (fun h2 => ?_) (fun h2 => ?_)
      ·
        have h0 : lv c = 0 := by have := (nI_ltI (b := 1) (by omega) (by omega)).mp h2; omega
        rw [if_pos (Or.inl h0)]
        refine g_iconst (n := 43) (v := 0) rfl rfl ?_
        refine g_iret (n := 44) rfl (fun _ => by first | exact Or.inl rfl | exact Or.inr rfl | exact bI_01 | (rw [hb]; exact bP_01)) ?_
        first | exact qB2_n hF2 | exact qB2_n dF.rfl'
      ·
        refine g_iload_n (n := 38) rfl rfl ?_
        refine g_iconst (n := 39) (v := 5) rfl rfl ?_
        refine g_icle (n := 42) 44 rfl (by decide) (fun h3 => ?_) (fun h3 => ?_)
        ·
          have h16 : ¬ (lv c = 0 ∨ lv c = 6) := by
            have e1 := (nI_leI (b := 5) (by omega) (by omega)).mp h3
            have e2 : ¬ lv c < 1 := fun q => h2 ((nI_ltI (b := 1) (by omega) (by omega)).mpr q)
            omega
          rw [if_neg h16]
          refine g_aload_n (n := 45) rfl rfl ?_
          refine g_iload_n (n := 46) rfl rfl ?_
          refine g_iconst (n := 47) (v := 3) rfl rfl ?_
          refine g_icne (n := 50) 56 rfl (by decide) (fun h4 => ?_) (fun h4 => ?_)
          ·
            have h3 : ¬ lv c = 3 := fun q => h4 (by rw [q]; rfl)
            rw [if_neg h3]
            refine g_iload_n (n := 57) rfl rfl ?_
            refine g_cv1 (n := 60) (t := 74) (ci := 8) rfl (by decide +kernel) (by decide +kernel) (by decide) (by decide) (by decide +kernel) (by rfl) (c_release (L := (lv c)) (lv_le) hk hl) (by omega) (g_K fun I2 hk2 hF2 => ?_)
            have hlr := kRel_len (L := (lv c)) P cd o
            generalize hrr : kRel (lv c) P cd o = rr at *
            obtain ⟨cd2, P2, o2⟩ := rr
            have hl2 : cd2.length + P2.length = cd.length + P.length := hlr.1
            refine g_iload_n (n := 61) rfl rfl ?_
            refine g_iconst (n := 62) (v := 3) rfl rfl ?_
            refine g_icne (n := 65) 81 rfl (by decide) (fun h5 => ?_) (fun h5 => ?_)
            ·
              refine g_aload_n (n := 82) rfl rfl ?_
              refine g_iconst (n := 83) (v := 1) rfl rfl ?_
              refine g_puti (n := 86) (ci := 8) (j := 8) rfl (by decide +kernel) rfl (by decide) (by decide) (by decide +kernel) rfl ?_
              have hk4 := kR_wt1 hk2
              have hF4 := dF_up (a := 104) (j := 8) (x := 1) hF2 (by decide)
              refine g_aload_n (n := 87) rfl rfl ?_
              refine g_getr (n := 90) (ci := 8) (j := 4) (b := 109) rfl (by decide +kernel) (by decide) (by decide) (by decide +kernel) ?_
              refine g_iload_n (n := 91) rfl rfl ?_
              refine g_cv1 (n := 94) (t := 54) (ci := 6) rfl (by decide +kernel) (by decide +kernel) (rw_hd r109) (rw_136 r109) (by decide +kernel) (by rfl) (c_vpush (x := c) r109 hk4.2.1 (by show P2.length < 50; omega)) (by omega) (g_VS fun I3 hs3 hF3 => ?_)
              have hk5 := kR_v hk4 hs3 hF3
              have hG5 := hF4.trans (dF_v hF3)
              refine g_iret (n := 95) rfl (fun _ => by first | exact Or.inl rfl | exact Or.inr rfl | exact bI_01 | (rw [hb]; exact bP_01)) ?_
              exact qB2_s hk5 hG5
            ·
              exact absurd ((nI_eq (b := 3) (by omega) (by omega)).mp h5) h3
          ·
            have h3 : lv c = 3 := (nI_eq (b := 3) (by omega) (by omega)).mp h4
            rw [if_pos h3]
            refine g_iload_n (n := 51) rfl rfl ?_
            refine g_iconst (n := 52) (v := 1) rfl rfl ?_
            refine g_iaddN (n := 53) (x := (lv c)) (y := 1) rfl ?_
            refine g_goto 57 rfl (by decide) ?_
            rw [show nI (lv c + 1) = nI 4 by rw [h3]]
            refine g_cv1 (n := 60) (t := 74) (ci := 8) rfl (by decide +kernel) (by decide +kernel) (by decide) (by decide) (by decide +kernel) (by rfl) (c_release (L := 4) (by omega) hk hl) (by omega) (g_K fun I2 hk2 hF2 => ?_)
            have hlr := kRel_len (L := 4) P cd o
            generalize hrr : kRel 4 P cd o = rr at *
            obtain ⟨cd2, P2, o2⟩ := rr
            have hl2 : cd2.length + P2.length = cd.length + P.length := hlr.1
            refine g_iload_n (n := 61) rfl rfl ?_
            refine g_iconst (n := 62) (v := 3) rfl rfl ?_
            refine g_icne (n := 65) 81 rfl (by decide) (fun h6 => ?_) (fun h6 => ?_)
            ·
              exact absurd (by rw [h3]; rfl) h6
            ·
              show GG _ _ _ _ _ _ _ _ _ _ _ (qB2 (if lv (P2.headD 0) = 3 then none else some (cd2, c :: P2, o2, dg, true)) I nm)
              have hl3 := @lv_le (P2.headD 0)
              refine g_aload_n (n := 66) rfl rfl ?_
              refine g_getr (n := 69) (ci := 8) (j := 4) (b := 109) rfl (by decide +kernel) (by decide) (by decide) (by decide +kernel) ?_
              refine g_cv0 (n := 72) (t := 55) (ci := 6) rfl (by decide +kernel) (by decide +kernel) (rw_hd r109) (rw_136 r109) (by decide +kernel) (by rfl) (c_vlast r109 hk2.2.1 (by show P2.length ≤ 50; omega)) (by omega) (g_E ?_)
              refine g_top (w := P2.headD 0) rfl ?_
              refine g_cs1 (n := 75) (t := 76) (x := (723, 724, 83)) rfl (by decide +kernel) (by decide +kernel) (by rfl) c_levelOf (by omega) (g_E ?_)
              refine g_iconst (n := 76) (v := 3) rfl rfl ?_
              refine g_icne (n := 79) 81 rfl (by decide) (fun h7 => ?_) (fun h7 => ?_)
              ·
                rw [if_neg (show ¬ lv (P2.headD 0) = 3 from fun q => h7 (by rw [q]; rfl))]
                refine g_aload_n (n := 82) rfl rfl ?_
                refine g_iconst (n := 83) (v := 1) rfl rfl ?_
                refine g_puti (n := 86) (ci := 8) (j := 8) rfl (by decide +kernel) rfl (by decide) (by decide) (by decide +kernel) rfl ?_
                have hk4 := kR_wt1 hk2
                have hF4 := dF_up (a := 104) (j := 8) (x := 1) hF2 (by decide)
                refine g_aload_n (n := 87) rfl rfl ?_
                refine g_getr (n := 90) (ci := 8) (j := 4) (b := 109) rfl (by decide +kernel) (by decide) (by decide) (by decide +kernel) ?_
                refine g_iload_n (n := 91) rfl rfl ?_
                refine g_cv1 (n := 94) (t := 54) (ci := 6) rfl (by decide +kernel) (by decide +kernel) (rw_hd r109) (rw_136 r109) (by decide +kernel) (by rfl) (c_vpush (x := c) r109 hk4.2.1 (by show P2.length < 50; omega)) (by omega) (g_VS fun I3 hs3 hF3 => ?_)
                have hk5 := kR_v hk4 hs3 hF3
                have hG5 := hF4.trans (dF_v hF3)
                refine g_iret (n := 95) rfl (fun _ => by first | exact Or.inl rfl | exact Or.inr rfl | exact bI_01 | (rw [hb]; exact bP_01)) ?_
                exact qB2_s hk5 hG5
              ·
                rw [if_pos (show lv (P2.headD 0) = 3 from (nI_eq (b := 3) (by omega) (by omega)).mp h7)]
                refine g_iconst (n := 80) (v := 0) rfl rfl ?_
                refine g_iret (n := 81) rfl (fun _ => by first | exact Or.inl rfl | exact Or.inr rfl | exact bI_01 | (rw [hb]; exact bP_01)) ?_
                first | exact qB2_n hF2 | exact qB2_n dF.rfl'
        ·
          have h6 : lv c = 6 := by have e1 : ¬ lv c ≤ 5 := fun q => h3 ((nI_leI (b := 5) (by omega) (by omega)).mpr q); omega
          rw [if_pos (Or.inr h6)]
          refine g_iconst (n := 43) (v := 0) rfl rfl ?_
          refine g_iret (n := 44) rfl (fun _ => by first | exact Or.inl rfl | exact Or.inr rfl | exact bI_01 | (rw [hb]; exact bP_01)) ?_
          first | exact qB2_n hF2 | exact qB2_n dF.rfl'
    ·
      rw [if_pos h1]
      refine g_aload_n (n := 23) rfl rfl ?_
      refine g_cv0 (n := 26) (t := 73) (ci := 8) rfl (by decide +kernel) (by decide +kernel) (by decide) (by decide) (by decide +kernel) (by rfl) (c_closes hk hl) (by omega) (fun a I2 nm2 hq => ?_)
      exact tail_B (by rfl) hq
theorem i2c_b {c : Int32} (h : iR c 256) : (c.toUInt32 % 65536).toInt32 = c := by
  obtain ⟨k, hk, rfl, _⟩ := iR_nI h
  exact (show ∀ k, k < 256 → ((nI k).toUInt32 % 65536).toInt32 = nI k by decide +kernel) k hk
theorem c_begins {sc : List Value} {nm : Nat} {I : mg_I} {cd P : List Int32} {o dg c t : Int32} (hk : kR I (cd, P, o, dg, true)) (hl5 : cd.length + P.length < 50) (hb : iR c 256) (hnm : (nm = 2 ∧ t = 0) ∨ (nm = 3 ∧ t = 1)) : SP sc 6 70 [.ref 104, .int c] I nm (qB2 (kBeg t c (cd, P, o, dg, true)) I nm) := by
  refine SP.of (h := 5) (t := 70) (q := (yX8_beginsOperand, cX8_beginsOperand, 3, (some .boolean), 8, 613, mi_k70)) rfl (by decide) (show ¬ (3 : Nat) < 2 by decide) (fun d hd => ?_)
  show GG sc 8 false true mi_k70 d 0 [.ref 104, .int c, .null] [] I nm (qB2 (kBeg t c (cd, P, o, dg, true)) I nm)
  refine g_iload_n (n := 1) rfl rfl ?_
  refine g_bipush (n := 3) (v := 33) rfl rfl ?_
  refine g_iceq (n := 6) 12 rfl (by decide) (fun h1 => ?_) (fun h1 => ?_)
  ·
    have hop : c = 33 ∨ c = 40 := Or.inl h1
    unfold kBeg
    rw [if_pos hop]
    refine g_aload_n (n := 13) rfl rfl ?_
    refine g_dupa (n := 14) rfl ?_
    refine g_getv (n := 17) (ci := 8) (j := 6) (v := o) hk.2.2.1 rfl (by decide +kernel) rfl (by decide) (by decide) ?_
    refine g_iconst (n := 18) (v := 1) rfl rfl ?_
    refine g_iadd (n := 19) rfl ?_
    refine g_puti (n := 22) (ci := 8) (j := 6) rfl (by decide +kernel) rfl (by decide) (by decide) (by decide +kernel) rfl ?_
    have hk2 := kR_open (o2 := o + 1) hk
    have hF2 := dF_up (a := 104) (j := 6) (x := o + 1) (dF.rfl' (I := I)) (by decide)
    refine g_aload_n (n := 23) rfl rfl ?_
    refine g_getv (n := 26) (ci := 8) (j := 6) (v := (o + 1)) hk2.2.2.1 rfl (by decide +kernel) rfl (by decide) (by decide) ?_
    refine g_iconst (n := 27) (v := 5) rfl rfl ?_
    refine g_icgt (n := 30) 45 rfl (by decide) (fun h2 => ?_) (fun h2 => ?_)
    ·
      rw [if_pos (show (5 : Int32) < o + 1 from h2)]
      refine g_iconst (n := 46) (v := 0) rfl rfl ?_
      refine g_iret (n := 47) rfl (fun _ => by first | exact Or.inl rfl | exact Or.inr rfl | exact bI_01 | (rw [hb]; exact bP_01)) ?_
      first | exact qB2_n hF2 | exact qB2_n dF.rfl'
    ·
      rw [if_neg (show ¬ (5 : Int32) < o + 1 from h2)]
      refine g_aload_n (n := 31) rfl rfl ?_
      refine g_getr (n := 34) (ci := 8) (j := 4) (b := 109) rfl (by decide +kernel) (by decide) (by decide) (by decide +kernel) ?_
      refine g_iload_n (n := 35) rfl rfl ?_
      refine g_cv1 (n := 38) (t := 54) (ci := 6) rfl (by decide +kernel) (by decide +kernel) (rw_hd r109) (rw_136 r109) (by decide +kernel) (by rfl) (c_vpush (x := c) r109 hk2.2.1 (by show P.length < 50; omega)) (by omega) (g_VS fun I3 hs3 hF3 => ?_)
      have hk3 := kR_v hk2 hs3 hF3
      have hG3 := hF2.trans (dF_v hF3)
      refine g_ifeq1 (n := 41) 45 rfl (by decide) ?_
      refine g_iconst (n := 42) (v := 1) rfl rfl ?_
      refine g_goto 46 rfl (by decide) ?_
      refine g_iret (n := 47) rfl (fun _ => by first | exact Or.inl rfl | exact Or.inr rfl | exact bI_01 | (rw [hb]; exact bP_01)) ?_
      first | exact qB2_s hk4 hF4 | exact qB2_s hk3 hG3
  ·
    refine g_iload_n (n := 7) rfl rfl ?_
    refine g_bipush (n := 9) (v := 40) rfl rfl ?_
    refine g_icne (n := 12) 47 rfl (by decide) (fun h3 => ?_) (fun h3 => ?_)
    ·
      have hop : ¬ (c = 33 ∨ c = 40) := fun q => q.elim h1 h3
      unfold kBeg
      rw [if_neg hop]
      refine g_aload_n (n := 48) rfl rfl ?_
      refine g_getnm (n := 51) rfl (by decide +kernel) ?_
      refine g_iload_n (n := 52) rfl rfl ?_
      refine g_i2c (n := 53) rfl ?_
      refine g_top (w := c) (i2c_b hb) ?_
      refine g_sio (n := 56) (pl := 614) (t := t) rfl (by decide +kernel) rfl (by omega) hnm ?_
      refine g_istore_n2 (n := 57) rfl rfl ?_
      refine g_iload_n (n := 58) rfl rfl ?_
      refine g_cs1 (n := 61) (t := 75) (x := (696, 697, 83)) rfl (by decide +kernel) (by decide +kernel) (by rfl) c_isDigit (by omega) (g_E ?_)
      refine g_split (fun hdg => ?_) (fun hdg => ?_)
      ·
        refine g_ifeq1 (n := 64) 84 rfl (by decide) ?_
        rw [if_pos hdg]
        refine g_aload_n (n := 65) rfl rfl ?_
        refine g_getr (n := 68) (ci := 8) (j := 2) (b := 105) rfl (by decide +kernel) (by decide) (by decide) (by decide +kernel) ?_
        refine g_iload_n (n := 69) rfl rfl ?_
        refine g_bipush (n := 71) (v := 48) rfl rfl ?_
        refine g_isub (n := 72) rfl ?_
        refine g_cv1 (n := 75) (t := 54) (ci := 6) rfl (by decide +kernel) (by decide +kernel) (rw_hd r105) (rw_136 r105) (by decide +kernel) (by rfl) (c_radd (n := cd.length) r105 hk.1.1 (by omega)) (by omega) (g_E ?_)
        have hk2 := kR_code (x := (c - 48)) hk
        have hF2 : dF I _ := dF_up (a := 105) (j := 1) (x := nI (cd.length + 1)) (dF_up (a := 106) (j := cd.length) (x := (c - 48)) (dF.rfl' (I := I)) (by decide)) (by decide)
        refine g_popi (n := 76) rfl ?_
        refine g_aload_n (n := 77) rfl rfl ?_
        refine g_iconst (n := 78) (v := 1) rfl rfl ?_
        refine g_puti (n := 81) (ci := 8) (j := 7) rfl (by decide +kernel) rfl (by decide) (by decide) (by decide +kernel) rfl ?_
        have hk3 := kR_dig (d2 := 1) hk2
        have hF3 := dF_up (a := 104) (j := 7) (x := 1) hF2 (by decide)
        refine g_goto 109 rfl (by decide) ?_
        refine g_aload_n (n := 110) rfl rfl ?_
        refine g_iconst (n := 111) (v := 0) rfl rfl ?_
        refine g_puti (n := 114) (ci := 8) (j := 8) rfl (by decide +kernel) rfl (by decide) (by decide) (by decide +kernel) rfl ?_
        have hk4 := kR_wt0 hk3
        have hF4 := dF_up (a := 104) (j := 8) (x := 0) hF3 (by decide)
        refine g_iconst (n := 115) (v := 1) rfl rfl ?_
        refine g_iret (n := 116) rfl (fun _ => by first | exact Or.inl rfl | exact Or.inr rfl | exact bI_01 | (rw [hb]; exact bP_01)) ?_
        first | exact qB2_s hk4 hF4 | exact qB2_s hk3 hG3
      ·
        refine g_ifeq0 (n := 64) 84 rfl (by decide) ?_
        rw [if_neg hdg]
        refine g_iload_n (n := 85) rfl rfl ?_
        refine g_iflt (n := 88) 107 rfl (by decide) (fun h4 => ?_) (fun h4 => ?_)
        ·
          rw [if_pos h4]
          refine g_iconst (n := 108) (v := 0) rfl rfl ?_
          refine g_iret (n := 109) rfl (fun _ => by first | exact Or.inl rfl | exact Or.inr rfl | exact bI_01 | (rw [hb]; exact bP_01)) ?_
          first | exact qB2_n hF2 | exact qB2_n dF.rfl'
        ·
          rw [if_neg h4]
          refine g_aload_n (n := 89) rfl rfl ?_
          refine g_getr (n := 92) (ci := 8) (j := 2) (b := 105) rfl (by decide +kernel) (by decide) (by decide) (by decide +kernel) ?_
          refine g_iconst (n := 93) (v := -1) rfl rfl ?_
          refine g_iload_n (n := 94) rfl rfl ?_
          refine g_isub (n := 95) rfl ?_
          refine g_cv1 (n := 98) (t := 54) (ci := 6) rfl (by decide +kernel) (by decide +kernel) (rw_hd r105) (rw_136 r105) (by decide +kernel) (by rfl) (c_radd (n := cd.length) r105 hk.1.1 (by omega)) (by omega) (g_E ?_)
          have hk2 := kR_code (x := (-1 - pName t c)) hk
          have hF2 : dF I _ := dF_up (a := 105) (j := 1) (x := nI (cd.length + 1)) (dF_up (a := 106) (j := cd.length) (x := (-1 - pName t c)) (dF.rfl' (I := I)) (by decide)) (by decide)
          refine g_popi (n := 99) rfl ?_
          refine g_aload_n (n := 100) rfl rfl ?_
          refine g_iconst (n := 101) (v := 0) rfl rfl ?_
          refine g_puti (n := 104) (ci := 8) (j := 7) rfl (by decide +kernel) rfl (by decide) (by decide) (by decide +kernel) rfl ?_
          have hk3 := kR_dig (d2 := 0) hk2
          have hF3 := dF_up (a := 104) (j := 7) (x := 0) hF2 (by decide)
          refine g_goto 109 rfl (by decide) ?_
          refine g_aload_n (n := 110) rfl rfl ?_
          refine g_iconst (n := 111) (v := 0) rfl rfl ?_
          refine g_puti (n := 114) (ci := 8) (j := 8) rfl (by decide +kernel) rfl (by decide) (by decide) (by decide +kernel) rfl ?_
          have hk4 := kR_wt0 hk3
          have hF4 := dF_up (a := 104) (j := 8) (x := 0) hF3 (by decide)
          refine g_iconst (n := 115) (v := 1) rfl rfl ?_
          refine g_iret (n := 116) rfl (fun _ => by first | exact Or.inl rfl | exact Or.inr rfl | exact bI_01 | (rw [hb]; exact bP_01)) ?_
          first | exact qB2_s hk4 hF4 | exact qB2_s hk3 hG3
    ·
      have hop : c = 33 ∨ c = 40 := Or.inr h3
      unfold kBeg
      rw [if_pos hop]
      refine g_aload_n (n := 13) rfl rfl ?_
      refine g_dupa (n := 14) rfl ?_
      refine g_getv (n := 17) (ci := 8) (j := 6) (v := o) hk.2.2.1 rfl (by decide +kernel) rfl (by decide) (by decide) ?_
      refine g_iconst (n := 18) (v := 1) rfl rfl ?_
      refine g_iadd (n := 19) rfl ?_
      refine g_puti (n := 22) (ci := 8) (j := 6) rfl (by decide +kernel) rfl (by decide) (by decide) (by decide +kernel) rfl ?_
      have hk2 := kR_open (o2 := o + 1) hk
      have hF2 := dF_up (a := 104) (j := 6) (x := o + 1) (dF.rfl' (I := I)) (by decide)
      refine g_aload_n (n := 23) rfl rfl ?_
      refine g_getv (n := 26) (ci := 8) (j := 6) (v := (o + 1)) hk2.2.2.1 rfl (by decide +kernel) rfl (by decide) (by decide) ?_
      refine g_iconst (n := 27) (v := 5) rfl rfl ?_
      refine g_icgt (n := 30) 45 rfl (by decide) (fun h5 => ?_) (fun h5 => ?_)
      ·
        rw [if_pos (show (5 : Int32) < o + 1 from h5)]
        refine g_iconst (n := 46) (v := 0) rfl rfl ?_
        refine g_iret (n := 47) rfl (fun _ => by first | exact Or.inl rfl | exact Or.inr rfl | exact bI_01 | (rw [hb]; exact bP_01)) ?_
        first | exact qB2_n hF2 | exact qB2_n dF.rfl'
      ·
        rw [if_neg (show ¬ (5 : Int32) < o + 1 from h5)]
        refine g_aload_n (n := 31) rfl rfl ?_
        refine g_getr (n := 34) (ci := 8) (j := 4) (b := 109) rfl (by decide +kernel) (by decide) (by decide) (by decide +kernel) ?_
        refine g_iload_n (n := 35) rfl rfl ?_
        refine g_cv1 (n := 38) (t := 54) (ci := 6) rfl (by decide +kernel) (by decide +kernel) (rw_hd r109) (rw_136 r109) (by decide +kernel) (by rfl) (c_vpush (x := c) r109 hk2.2.1 (by show P.length < 50; omega)) (by omega) (g_VS fun I3 hs3 hF3 => ?_)
        have hk3 := kR_v hk2 hs3 hF3
        have hG3 := hF2.trans (dF_v hF3)
        refine g_ifeq1 (n := 41) 45 rfl (by decide) ?_
        refine g_iconst (n := 42) (v := 1) rfl rfl ?_
        refine g_goto 46 rfl (by decide) ?_
        refine g_iret (n := 47) rfl (fun _ => by first | exact Or.inl rfl | exact Or.inr rfl | exact bI_01 | (rw [hb]; exact bP_01)) ?_
        first | exact qB2_s hk4 hF4 | exact qB2_s hk3 hG3
