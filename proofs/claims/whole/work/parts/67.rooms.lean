/-! the class: rooms from a sheet -/
theorem nL_z {d : Nat → Int32} : nL d 0 = 0 := by unfold nL cN; exact rfl
theorem nL_up {d : Nat → Int32} {y : Nat} {x : Int32} : ∀ m, nL (up d (10 + y) x) m ≤ nL d m + 1 ∧ (x ≤ 1 ∨ 1 < d (10 + y) → nL (up d (10 + y) x) m ≤ nL d m) ∧ (m ≤ y → nL (up d (10 + y) x) m = nL d m) := by
  intro m
  induction m with
  | zero =>
    rw [show nL (up d (10 + y) x) 0 = 0 from nL_z, show nL d 0 = 0 from nL_z]
    exact ⟨by omega, fun _ => by omega, fun _ => by omega⟩
  | succ m ih =>
    obtain ⟨i1, i2, i3⟩ := ih
    by_cases e : m = y
    · subst e
      have e3 := i3 (Nat.le_refl _)
      refine ⟨?_, fun h => ?_, fun h => absurd h (by omega)⟩
      · by_cases q : 1 < up d (10 + m) x (10 + m)
        · rw [nL_1 q]
          by_cases q2 : 1 < d (10 + m)
          · rw [nL_1 q2]; omega
          · rw [nL_0 q2]; omega
        · rw [nL_0 q]
          by_cases q2 : 1 < d (10 + m)
          · rw [nL_1 q2]; omega
          · rw [nL_0 q2]; omega
      · by_cases q2 : 1 < d (10 + m)
        · rw [nL_1 q2]
          by_cases q : 1 < up d (10 + m) x (10 + m)
          · rw [nL_1 q]; omega
          · rw [nL_0 q]; omega
        · rw [nL_0 q2]
          have hx := h.resolve_right q2
          have q3 : ¬ 1 < up d (10 + m) x (10 + m) := by rw [up_at]; exact Int32.not_lt.mpr hx
          rw [nL_0 q3]
          omega
    · have ev : up d (10 + y) x (10 + m) = d (10 + m) := up_ne (by omega)
      by_cases q2 : 1 < d (10 + m)
      · have q3 : 1 < up d (10 + y) x (10 + m) := by rw [ev]; exact q2
        rw [nL_1 q2, nL_1 q3]
        exact ⟨by omega, fun h => by have := i2 h; omega, fun h => by have := i3 (by omega); omega⟩
      · have q3 : ¬ 1 < up d (10 + y) x (10 + m) := by rw [ev]; exact q2
        rw [nL_0 q2, nL_0 q3]
        exact ⟨by omega, i2, fun h => i3 (by omega)⟩
theorem nL_rf {d : Nat → Int32} {y x : Int32} (hL : nL d 24 ≤ 9) (h : fRf d y x = 0) : nL (up d (10 + cl y) x) 24 ≤ 9 := by
  obtain ⟨i1, i2, -⟩ := @nL_up d (cl y) x 24
  unfold fRf at h
  have hy : 0 ≤ y.toInt ∧ y.toInt ≤ 23 := by
    by_cases q : 0 ≤ y.toInt ∧ y.toInt ≤ 23
    · exact q
    · rw [if_neg q] at h; exact absurd h (by decide)
  rw [if_pos hy] at h
  by_cases q1 : 1 ≤ x.toInt ∧ x.toInt ≤ 5
  · rw [if_pos q1] at h
    by_cases q2 : fAt d y ≤ x
    · rw [if_pos q2] at h
      by_cases q3 : x ≤ 1
      · exact Nat.le_trans (i2 (Or.inl q3)) hL
      · rw [if_neg q3] at h
        by_cases q4 : 1 < d (10 + cl y)
        · exact Nat.le_trans (i2 (Or.inr q4)) hL
        · rw [if_neg q4] at h
          by_cases q5 : fBefore d 24 = 9
          · rw [if_pos q5] at h; exact absurd h (by decide)
          · have : ¬ nL d 24 = 9 := fun q => q5 (by rw [fBefore_N, q]; rfl)
            omega
    · rw [if_neg q2] at h; exact absurd h (by decide)
  · rw [if_neg q1] at h; exact absurd h (by decide)
def qRm (I : mg_I) (p : Nat × (Nat → Int32)) (nm : Nat) : Option Value → mg_I → Nat → Prop := fun r I' nm' => r = some (.int (nI p.1)) ∧ (RC I' p.2 ∧ cF I I') ∧ nm' = nm
theorem c_kRooms0 {sc : List Value} {nm : Nat} {I : mg_I} {s : Int32} (h0 : ¬ eShC I s = 0) : SP sc 4 118 [.ref 5, .int s] I nm (qE (vE (eShC I s) 1) (mf_up I 123 (eShC I s) (I 123 (eShC I s) + 1)) nm) := by
  refine SP.of (h := 3) (t := 118) (q := (yX11_rooms, cX11_rooms, 6, (some .int), 11, 1025, mi_k118)) rfl (by decide) (show ¬ (6 : Nat) < 2 by decide) (fun dd hd => ?_)
  show GG sc 11 false false mi_k118 dd 0 [.ref 5, .int s, .null, .null, .null, .null] [] I nm (qE (vE (eShC I s) 1) (mf_up I 123 (eShC I s) (I 123 (eShC I s) + 1)) nm)
  refine g_aload_n (n := 1) rfl rfl ?_
  refine g_iload_n (n := 2) rfl rfl ?_
  refine g_cv1 (n := 5) (t := 130) (ci := 11) rfl (by decide +kernel) (by decide +kernel) (by decide) (by decide) (by decide +kernel) (by rfl) c_kRefS (by omega) (g_E ?_)
  refine g_istore_n2 (n := 6) rfl rfl ?_
  refine g_iload_n (n := 7) rfl rfl ?_
  refine g_ifeq (n := 10) 16 rfl (by decide) (fun h1 => ?_) (fun h1 => ?_)
  ·
    exact absurd (vRef_00 eShC_lt h1) h0
  ·
    refine g_aload_n (n := 11) rfl rfl ?_
    refine g_iload_n (n := 12) rfl rfl ?_
    refine g_top (w := -1000000000 - nI (eShC I s)) (if_neg h0) ?_
    refine g_cv1 (n := 15) (t := 126) (ci := 11) rfl (by decide +kernel) (by decide +kernel) (by decide) (by decide) (by decide +kernel) (by rfl) (c_fail (k := eShC I s) ⟨by omega, eShC_lt⟩) (by omega) (g_E ?_)
    refine g_iret (n := 16) rfl (fun h => nomatch h) ?_
    exact ⟨congrArg (fun z => some (Value.int z)) (if_neg h0).symm, rfl, rfl⟩
theorem c_kRooms1 {sc : List Value} {nm : Nat} {I : mg_I} {d : Nat → Int32} (hC : RC I d) (hL : nL d 24 ≤ 9) (hS : wC I) {s : Int32} (h0 : eShC I s = 0) : SP sc 6 118 [.ref 5, .int s] I nm (qRm I (fRm (fun k => I (114 + 2 * cl s + 1) k) (cl (I (114 + 2 * cl s) 1)) 0 d) nm) := by
  refine SP.of (h := 5) (t := 118) (q := (yX11_rooms, cX11_rooms, 6, (some .int), 11, 1025, mi_k118)) rfl (by decide) (show ¬ (6 : Nat) < 2 by decide) (fun dd hd => ?_)
  show GG sc 11 false false mi_k118 dd 0 [.ref 5, .int s, .null, .null, .null, .null] [] I nm (qRm I (fRm (fun k => I (114 + 2 * cl s + 1) k) (cl (I (114 + 2 * cl s) 1)) 0 d) nm)
  have hR := hC.1
  have hN8 := (rK_N hR).2
  have hse := eShC_0 h0
  have HH : ∀ ss, ss < 4 → ∀ nn, nn ≤ 40 → I (114 + 2 * ss) 1 = nI nn → ∀ x2 p, fRm (fun k => I (114 + 2 * ss + 1) k) nn 0 d = p → GG sc 11 false false mi_k118 dd 26 [.ref 5, .int (nI ss), .int x2, .ref (114 + 2 * ss), .int 0, .null] [] I nm (qRm I p nm) := by
    intro ss hss nn hn40 en x2 p hp0
    have H : ∀ (m k : Nat) (dk : Nat → Int32) (J : mg_I) {x5 : Value}, k + m = nn → RC J dk → cF I J → nL dk 24 ≤ 9 → fRm (fun k => I (114 + 2 * ss + 1) k) m k dk = p → GG sc 11 false false mi_k118 dd 26 [.ref 5, .int (nI ss), .int x2, .ref (114 + 2 * ss), .int (nI k), x5] [] J nm (qRm I p nm) := by
      intro m
      induction m with
      | zero =>
        intro k dk J x5 hk hC2 hF hLk hp
        refine g_iload (n := 28) rfl rfl ?_
        refine g_aload_n (n := 29) rfl rfl ?_
        refine g_getv (n := 32) (ci := 6) (j := 1) (v := nI nn) ((hF _ _ (by omega)).trans en) rfl (by decide +kernel) rfl (by decide) (rw_hd (r_sh hss)) ?_
        refine g_icge (n := 35) 78 rfl (by decide) (fun h1 => ?_) (fun h1 => ?_)
        ·
          refine g_aload_n (n := 79) rfl rfl ?_
          refine g_getv (n := 82) (ci := 6) (j := 1) (v := nI nn) ((hF _ _ (by omega)).trans en) rfl (by decide +kernel) rfl (by decide) (rw_hd (r_sh hss)) ?_
          refine g_iret (n := 83) rfl (fun h => nomatch h) ?_
          rw [show p = (k, dk) from hp.symm, show nn = k by omega]; exact ⟨rfl, ⟨hC2, hF⟩, rfl⟩
        ·
          exact absurd (fN_nle rfl (by omega) (by omega) h1) (by omega)
      | succ m ih =>
        intro k dk J x5 hk hC2 hF hLk hp
        refine g_iload (n := 28) rfl rfl ?_
        refine g_aload_n (n := 29) rfl rfl ?_
        refine g_getv (n := 32) (ci := 6) (j := 1) (v := nI nn) ((hF _ _ (by omega)).trans en) rfl (by decide +kernel) rfl (by decide) (rw_hd (r_sh hss)) ?_
        refine g_icge (n := 35) 78 rfl (by decide) (fun h1 => ?_) (fun h1 => ?_)
        ·
          exact absurd (fN_le rfl (by omega) (by omega) h1) (by omega)
        ·
          refine g_aload_n (n := 36) rfl rfl ?_
          refine g_iload (n := 38) rfl rfl ?_
          refine g_cv1 (n := 41) (t := 52) (ci := 6) rfl (by decide +kernel) (by decide +kernel) (rw_hd (r_sh hss)) (rw_136 (r_sh hss)) (by decide +kernel) (by rfl) (c_rat (r_sh hss) ((hF _ _ (by omega)).trans en) (k := k) (by omega) (by omega)) (by omega) (g_E ?_)
          refine g_top (w := I (114 + 2 * ss + 1) k) (hF _ _ (by omega)) ?_
          refine g_istore5 (n := 43) rfl rfl ?_
          refine g_aload_n (n := 44) rfl rfl ?_
          refine g_getr (n := 47) (ci := 11) (j := 1) (b := (14)) rfl (by decide +kernel) (by decide) (by decide) (by decide +kernel) ?_
          refine g_iload (n := 49) rfl rfl ?_
          refine g_iload (n := 51) rfl rfl ?_
          refine g_cv2 (n := 54) (t := 14) (ci := 1) rfl (by decide +kernel) (by decide +kernel) (cf_hd c14) (cf_136 c14) (by decide +kernel) (by rfl) (c_cRef c14 hC2.1 hLk) (by omega) (g_E ?_)
          refine g_ifeq (n := 57) 60 rfl (by decide) (fun h2 => ?_) (fun h2 => ?_)
          ·
            have h0 : fRf dk (nI k) (I (114 + 2 * ss + 1) k) = 0 := vRef_00 fRf_lt h2
            have hk24 : k < 24 := by have := fRf_0 h0; rw [nI_toInt (by omega)] at this; omega
            have hp2 : fRm (fun k => I (114 + 2 * ss + 1) k) m (k + 1) (up dk (10 + k) (I (114 + 2 * ss + 1) k)) = p := by
              rw [fRm, if_pos h0] at hp; exact hp
            refine g_aload_n (n := 61) rfl rfl ?_
            refine g_getr (n := 64) (ci := 11) (j := 1) (b := (14)) rfl (by decide +kernel) (by decide) (by decide) (by decide +kernel) ?_
            refine g_getr (n := 67) (ci := 1) (j := 0) (b := ((14) + 1)) rfl (by decide +kernel) (cf_hd c14) (cf_lt c14 (by decide)) (cf_r0 c14) ?_
            refine g_iload (n := 69) rfl rfl ?_
            refine g_iload (n := 71) rfl rfl ?_
            refine g_iast (n := 72) (k) rfl (cf_1h c14) rfl (by rw [cf_1s c14]; omega) ?_
            refine g_iinc4 (n := 75) rfl rfl (nI_inc _) ?_
            refine g_goto 26 rfl (by decide) ?_
            exact ih (k + 1) (up dk (10 + k) (I (114 + 2 * ss + 1) k)) _ (by omega) (RC_of (rK_space hC2.1 hk24) (fun a j ha => mf_ne (by omega)) (fun j hj => up_ne (by omega)) hC2) (cF_mf hF (by omega)) (by have := nL_rf hLk h0; rw [show cl (nI k) = k from nI_clamp (by omega)] at this; exact this) hp2
          ·
            have h0 : ¬ fRf dk (nI k) (I (114 + 2 * ss + 1) k) = 0 := fun q => h2 (by rw [q]; rfl)
            have hp2 : (k, dk) = p := by
              rw [fRm, if_neg h0] at hp; exact hp
            refine g_iload (n := 59) rfl rfl ?_
            refine g_iret (n := 60) rfl (fun h => nomatch h) ?_
            rw [← hp2]; exact ⟨rfl, ⟨hC2, hF⟩, rfl⟩
    exact H nn 0 d I (by omega) hC cF.rfl' hL hp0
  refine g_aload_n (n := 1) rfl rfl ?_
  refine g_iload_n (n := 2) rfl rfl ?_
  refine g_cv1 (n := 5) (t := 130) (ci := 11) rfl (by decide +kernel) (by decide +kernel) (by decide) (by decide) (by decide +kernel) (by rfl) c_kRefS (by omega) (g_E ?_)
  refine g_istore_n2 (n := 6) rfl rfl ?_
  refine g_iload_n (n := 7) rfl rfl ?_
  refine g_ifeq (n := 10) 16 rfl (by decide) (fun h1 => ?_) (fun h1 => ?_)
  ·
    generalize vRef (eShC I s) = x2
    obtain ⟨ss, hss, rfl, hcss⟩ := iR_nI (x := s) (n := 4) ⟨by omega, by omega⟩
    have hdss : cl (nI ss) = ss := hcss
    obtain ⟨nn, hnn, en, hcn⟩ := iR_nI (hS ss hss)
    have hdnn : cl (I (114 + 2 * ss) 1) = nn := hcn
    refine g_aload_n (n := 17) rfl rfl ?_
    refine g_getr (n := 20) (ci := 11) (j := 7) (b := 113) rfl (by decide +kernel) (by decide) (by decide) (by decide +kernel) ?_
    refine g_iload_n (n := 21) rfl rfl ?_
    refine g_aald (n := 22) (b := 114 + 2 * ss) (ss) rfl (by decide) (by decide) rfl ⟨by show _ < 4; omega, by decide⟩ (sh_r _ (by omega)) ?_
    refine g_astore_n3 (n := 23) rfl rfl ?_
    refine g_iconst (n := 24) (v := 0) rfl rfl ?_
    refine g_istore4 (n := 26) rfl rfl ?_
    rw [hdss, hdnn]
    exact HH ss hss nn (by omega) en x2 _ rfl
  ·
    exact absurd (by rw [h0]; rfl) h1
