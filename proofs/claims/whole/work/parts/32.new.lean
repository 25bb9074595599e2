/-! the model: a new ledge, what is checked, how late, the best start -/
def fNew (d : Nat → Int32) : Nat → Nat → Int32 → Int32 → Int32 × Int32
  | 0, _, b, l => (b, l)
  | f + 1, y, b, l =>
    if 1 < d (10 + y) then fNew d f (y + 1) b l
    else if 0 ≤ (fOB (up d (10 + y) 2)).1 ∧ (b < 0 ∨ (fOB (up d (10 + y) 2)).1 < l) then fNew d f (y + 1) (nI y) (fOB (up d (10 + y) 2)).1
    else fNew d f (y + 1) b l
def oNew (d : Nat → Int32) (w : Int32) : rD :=
  if 0 ≤ w.toInt ∧ w.toInt ≤ 1 then
    (if fBefore d 24 = 9 then fE d 4
    else if 0 ≤ (fNew d 24 0 (-1) 0).1 then (0, if w = 0 then (fNew d 24 0 (-1) 0).1 else (fNew d 24 0 (-1) 0).2, d) else fE d 2)
  else fE d 1
theorem c_newOne {sc : List Value} {nm : Nat} {I : mg_I} {d0 : Nat → Int32} {w : Int32} (hw : gW d0) : SP sc 49 208 [.ref 124, .int w] (mR I d0) nm (qD I (oNew d0 w) nm) := by
  refine SP.of (h := 48) (t := 208) (q := (yX12_newOne, cX12_newOne, 6, (some .int), 12, 1424, mi_k208)) rfl (by decide) (show ¬ (6 : Nat) < 2 by decide) (fun d hd => ?_)
  show GG sc 12 false false mi_k208 d 0 [.ref 124, .int w, .null, .null, .null, .null] [] (mR I d0) nm (qD I (oNew d0 w) nm)
  have hN := hw.1.1
  unfold oNew
  refine g_iload_n (n := 1) rfl rfl ?_
  refine g_i2l (n := 2) rfl ?_
  refine g_lconst (n := 3) (v := 0) rfl rfl ?_
  refine g_lconst (n := 4) (v := 1) rfl rfl ?_
  refine g_cs3 (n := 7) (t := 141) (x := (1141, 1142, 84)) rfl (by decide +kernel) (by decide +kernel) (by rfl) (c_inI (a := 0) (b := 1) rfl rfl) (by omega) (g_E ?_)
  try simp only [mR_125, mR_up, mR_w124, mR_r124, mR_w126, mR_r126, mR_w128, mR_r128, mR_w130, mR_r130, mR_w131, mR_r131, mR_w132, mR_r132, mR_w133, mR_r133, mR_w134, mR_r134, mR_w135, mR_r135]
  refine g_split (fun h1 => ?_) (fun h1 => ?_)
  ·
    refine g_ifne1 (n := 10) 16 rfl (by decide) ?_
    rw [if_pos h1]
    refine g_aload_n (n := 17) rfl rfl ?_
    refine g_bipush (n := 19) (v := 24) rfl rfl ?_
    refine g_cv1 (n := 22) (t := 166) (ci := 12) rfl (by decide +kernel) (by decide +kernel) (by decide) (by decide) (by decide +kernel) (by rfl) (c_ledgesBefore (y := 24) (by omega)) (by omega) (g_E ?_)
    try simp only [mR_125, mR_up, mR_w124, mR_r124, mR_w126, mR_r126, mR_w128, mR_r128, mR_w130, mR_r130, mR_w131, mR_r131, mR_w132, mR_r132, mR_w133, mR_r133, mR_w134, mR_r134, mR_w135, mR_r135]
    refine g_bipush (n := 24) (v := 9) rfl rfl ?_
    refine g_icne (n := 27) 33 rfl (by decide) (fun h2 => ?_) (fun h2 => ?_)
    ·
      rw [if_neg h2]
      refine g_iconst (n := 34) (v := -1) rfl rfl ?_
      refine g_istore_n2 (n := 35) rfl rfl ?_
      refine g_iconst (n := 36) (v := 0) rfl rfl ?_
      refine g_istore_n3 (n := 37) rfl rfl ?_
      refine g_iconst (n := 38) (v := 0) rfl rfl ?_
      refine g_istore4 (n := 40) rfl rfl ?_
      have H : ∀ (m k : Nat) (b l : Int32) (J : mg_I) {x5 : Value}, k + m = 24 → mF I J → fNew d0 m k b l = fNew d0 24 0 (-1) 0 → GG sc 12 false false mi_k208 d 40 [.ref 124, .int w, .int b, .int l, .int (nI k), x5] [] (mR J d0) nm (qD I (if 0 ≤ (fNew d0 24 0 (-1) 0).1 then (0, if w = 0 then (fNew d0 24 0 (-1) 0).1 else (fNew d0 24 0 (-1) 0).2, d0) else fE d0 2) nm) := by
        intro m
        induction m with
        | zero =>
          intro k b l J x5 hk hJ hf
          rw [← hf, fNew]
          refine g_iload (n := 42) rfl rfl ?_
          refine g_bipush (n := 44) (v := 24) rfl rfl ?_
          refine g_icge (n := 47) 96 rfl (by decide) (fun h1 => ?_) (fun h1 => ?_)
          ·
            refine g_iload_n (n := 97) rfl rfl ?_
            refine g_ifge (n := 100) 108 rfl (by decide) (fun h2 => ?_) (fun h2 => ?_)
            ·
              rw [if_pos h2]
              refine g_iload_n (n := 109) rfl rfl ?_
              refine g_ifne (n := 112) 116 rfl (by decide) (fun h3 => ?_) (fun h3 => ?_)
              ·
                rw [if_neg h3]
                refine g_iload_n (n := 117) rfl rfl ?_
                refine g_iret (n := 118) rfl (fun h => nomatch h) ?_
                first | exact qD_v hJ.x | exact qD_e (by decide) hJ.x
              ·
                rw [if_pos h3]
                refine g_iload_n (n := 113) rfl rfl ?_
                refine g_goto 117 rfl (by decide) ?_
                refine g_iret (n := 118) rfl (fun h => nomatch h) ?_
                first | exact qD_v hJ.x | exact qD_e (by decide) hJ.x
            ·
              rw [if_neg h2]
              refine g_aload_n (n := 101) rfl rfl ?_
              refine g_iconst (n := 102) (v := 2) rfl rfl ?_
              refine g_cv1 (n := 105) (t := 140) (ci := 12) rfl (by decide +kernel) (by decide +kernel) (by decide) (by decide) (by decide +kernel) (by rfl) (c_finds (k := 2) (by omega)) (by omega) (g_E ?_)
              try simp only [mR_125, mR_up, mR_w124, mR_r124, mR_w126, mR_r126, mR_w128, mR_r128, mR_w130, mR_r130, mR_w131, mR_r131, mR_w132, mR_r132, mR_w133, mR_r133, mR_w134, mR_r134, mR_w135, mR_r135]
              refine g_goto 117 rfl (by decide) ?_
              refine g_iret (n := 118) rfl (fun h => nomatch h) ?_
              first | exact qD_v hJ.x | exact qD_e (by decide) hJ.x
          ·
            exact absurd (fN_nle (n := 24) rfl (by omega) (by omega) h1) (by omega)
        | succ m ih =>
          intro k b l J x5 hk hJ hf
          refine g_iload (n := 42) rfl rfl ?_
          refine g_bipush (n := 44) (v := 24) rfl rfl ?_
          refine g_icge (n := 47) 96 rfl (by decide) (fun h1 => ?_) (fun h1 => ?_)
          ·
            exact absurd (fN_le (n := 24) rfl (by omega) (by omega) h1) (by omega)
          ·
            refine g_aload_n (n := 48) rfl rfl ?_
            refine g_iload (n := 50) rfl rfl ?_
            refine g_cv1 (n := 53) (t := 164) (ci := 12) rfl (by decide +kernel) (by decide +kernel) (by decide) (by decide) (by decide +kernel) (by rfl) (c_isLedge (y := k) (by omega)) (by omega) (g_E ?_)
            try simp only [mR_125, mR_up, mR_w124, mR_r124, mR_w126, mR_r126, mR_w128, mR_r128, mR_w130, mR_r130, mR_w131, mR_r131, mR_w132, mR_r132, mR_w133, mR_r133, mR_w134, mR_r134, mR_w135, mR_r135]
            refine g_split (fun h2 => ?_) (fun h2 => ?_)
            ·
              refine g_ifeq1 (n := 56) 60 rfl (by decide) ?_
              rw [fNew, if_pos h2] at hf
              refine g_iconst (n := 57) (v := -1) rfl rfl ?_
              refine g_goto 67 rfl (by decide) ?_
              refine g_istore5 (n := 69) rfl rfl ?_
              refine g_iload (n := 71) rfl rfl ?_
              refine g_iflt (n := 74) 90 rfl (by decide) (fun h3 => ?_) (fun h3 => ?_)
              ·
                refine g_iinc4 (n := 93) rfl rfl (nI_inc _) ?_
                refine g_goto 40 rfl (by decide) ?_
                exact ih (k + 1) _ _ J (by omega) hJ hf
              ·
                exact absurd (by decide : (-1 : Int32) < 0) h3
            ·
              refine g_ifeq0 (n := 56) 60 rfl (by decide) ?_
              rw [fNew, if_neg h2] at hf
              refine g_aload_n (n := 61) rfl rfl ?_
              refine g_iload (n := 63) rfl rfl ?_
              refine g_iconst (n := 64) (v := 2) rfl rfl ?_
              refine g_cv2 (n := 67) (t := 206) (ci := 12) rfl (by decide +kernel) (by decide +kernel) (by decide) (by decide) (by decide +kernel) (by rfl) (c_overWith (y := k) (v := 2) hw (by omega)) (by omega) (g_MF fun J1 hJ1 => ?_)
              refine g_istore5 (n := 69) rfl rfl ?_
              refine g_iload (n := 71) rfl rfl ?_
              refine g_iflt (n := 74) 90 rfl (by decide) (fun h4 => ?_) (fun h4 => ?_)
              ·
                rw [if_neg (fun q => absurd q.1 (Int32.not_le.mpr h4))] at hf
                refine g_iinc4 (n := 93) rfl rfl (nI_inc _) ?_
                refine g_goto 40 rfl (by decide) ?_
                exact ih (k + 1) _ _ J1 (by omega) (hJ.trans hJ1) hf
              ·
                refine g_iload_n (n := 75) rfl rfl ?_
                refine g_iflt (n := 78) 84 rfl (by decide) (fun h5 => ?_) (fun h5 => ?_)
                ·
                  rw [if_pos ⟨Int32.not_lt.mp h4, Or.inl h5⟩] at hf
                  refine g_iload (n := 86) rfl rfl ?_
                  refine g_istore_n2 (n := 87) rfl rfl ?_
                  refine g_iload (n := 89) rfl rfl ?_
                  refine g_istore_n3 (n := 90) rfl rfl ?_
                  refine g_iinc4 (n := 93) rfl rfl (nI_inc _) ?_
                  refine g_goto 40 rfl (by decide) ?_
                  exact ih (k + 1) _ _ J1 (by omega) (hJ.trans hJ1) hf
                ·
                  refine g_iload (n := 80) rfl rfl ?_
                  refine g_iload_n (n := 81) rfl rfl ?_
                  refine g_icge (n := 84) 90 rfl (by decide) (fun h6 => ?_) (fun h6 => ?_)
                  ·
                    rw [if_neg (fun q => q.2.elim h5 (Int32.not_lt.mpr h6))] at hf
                    refine g_iinc4 (n := 93) rfl rfl (nI_inc _) ?_
                    refine g_goto 40 rfl (by decide) ?_
                    exact ih (k + 1) _ _ J1 (by omega) (hJ.trans hJ1) hf
                  ·
                    rw [if_pos ⟨Int32.not_lt.mp h4, Or.inr (Int32.not_le.mp h6)⟩] at hf
                    refine g_iload (n := 86) rfl rfl ?_
                    refine g_istore_n2 (n := 87) rfl rfl ?_
                    refine g_iload (n := 89) rfl rfl ?_
                    refine g_istore_n3 (n := 90) rfl rfl ?_
                    refine g_iinc4 (n := 93) rfl rfl (nI_inc _) ?_
                    refine g_goto 40 rfl (by decide) ?_
                    exact ih (k + 1) _ _ J1 (by omega) (hJ.trans hJ1) hf
      exact H 24 0 _ _ I (by omega) mF.rfl' rfl
    ·
      rw [if_pos h2]
      refine g_aload_n (n := 28) rfl rfl ?_
      refine g_iconst (n := 29) (v := 4) rfl rfl ?_
      refine g_cv1 (n := 32) (t := 140) (ci := 12) rfl (by decide +kernel) (by decide +kernel) (by decide) (by decide) (by decide +kernel) (by rfl) (c_finds (k := 4) (by omega)) (by omega) (g_E ?_)
      try simp only [mR_125, mR_up, mR_w124, mR_r124, mR_w126, mR_r126, mR_w128, mR_r128, mR_w130, mR_r130, mR_w131, mR_r131, mR_w132, mR_r132, mR_w133, mR_r133, mR_w134, mR_r134, mR_w135, mR_r135]
      refine g_iret (n := 33) rfl (fun h => nomatch h) ?_
      exact qD_e (by decide) mX.rfl'
  ·
    refine g_ifne0 (n := 10) 16 rfl (by decide) ?_
    rw [if_neg h1]
    refine g_aload_n (n := 11) rfl rfl ?_
    refine g_iconst (n := 12) (v := 1) rfl rfl ?_
    refine g_cv1 (n := 15) (t := 140) (ci := 12) rfl (by decide +kernel) (by decide +kernel) (by decide) (by decide) (by decide +kernel) (by rfl) (c_finds (k := 1) (by omega)) (by omega) (g_E ?_)
    try simp only [mR_125, mR_up, mR_w124, mR_r124, mR_w126, mR_r126, mR_w128, mR_r128, mR_w130, mR_r130, mR_w131, mR_r131, mR_w132, mR_r132, mR_w133, mR_r133, mR_w134, mR_r134, mR_w135, mR_r135]
    refine g_iret (n := 16) rfl (fun h => nomatch h) ?_
    exact qD_e (by decide) mX.rfl'
def fChk (d0 : Nat → Int32) : Nat → Nat → (Nat → Int32) → Int32
  | 0, _, _ => 0
  | f + 1, k, d => if fMany (fMin d 0) 2 = d0 (116 + k) then fChk d0 f (k + 1) (fMin d 0) else nI (1 + k)
def oCheck (d : Nat → Int32) : rD := (0, fChk d (cl (d 7)) 0 (up d 7 0), up d 7 0)
theorem c_check {sc : List Value} {nm : Nat} {I : mg_I} {d0 : Nat → Int32} (hw : gW d0) (h7 : iR (d0 7) 21) : SP sc 49 228 [.ref 124] (mR I d0) nm (qD I (oCheck d0) nm) := by
  refine SP.of (h := 48) (t := 228) (q := (yX12_check, cX12_check, 4, (some .int), 12, 1504, mi_k228)) rfl (by decide) (show ¬ (4 : Nat) < 1 by decide) (fun d hd => ?_)
  show GG sc 12 false false mi_k228 d 0 [.ref 124, .null, .null, .null] [] (mR I d0) nm (qD I (oCheck d0) nm)
  have hN := hw.1.1
  obtain ⟨nn, hnn, hn7, hcn⟩ := iR_nI h7
  unfold oCheck
  rw [show cl (d0 7) = nn from hcn]
  refine g_aload_n (n := 1) rfl rfl ?_
  refine g_getr (n := 4) (ci := 12) (j := 0) (b := 125) rfl (by decide +kernel) (by decide) (by decide) (by decide +kernel) ?_
  refine g_bipush (n := 6) (v := 7) rfl rfl ?_
  refine g_iald (n := 7) (7) rfl (by decide) rfl (by show _ < 286; omega) ?_
  try simp only [mR_125, mR_up, mR_w124, mR_r124, mR_w126, mR_r126, mR_w128, mR_r128, mR_w130, mR_r130, mR_w131, mR_r131, mR_w132, mR_r132, mR_w133, mR_r133, mR_w134, mR_r134, mR_w135, mR_r135]
  refine g_top (w := nI nn) hn7 ?_
  refine g_istore_n1 (n := 8) rfl rfl ?_
  refine g_aload_n (n := 9) rfl rfl ?_
  refine g_getr (n := 12) (ci := 12) (j := 0) (b := 125) rfl (by decide +kernel) (by decide) (by decide) (by decide +kernel) ?_
  refine g_bipush (n := 14) (v := 7) rfl rfl ?_
  refine g_iconst (n := 15) (v := 0) rfl rfl ?_
  refine g_iast (n := 16) (7) rfl (by decide) rfl (by show _ < 286; omega) ?_
  try simp only [mR_125, mR_up, mR_w124, mR_r124, mR_w126, mR_r126, mR_w128, mR_r128, mR_w130, mR_r130, mR_w131, mR_r131, mR_w132, mR_r132, mR_w133, mR_r133, mR_w134, mR_r134, mR_w135, mR_r135]
  refine g_aload_n (n := 17) rfl rfl ?_
  refine g_cv0 (n := 20) (t := 147) (ci := 12) rfl (by decide +kernel) (by decide +kernel) (by decide) (by decide) (by decide +kernel) (by rfl) c_keep (by omega) (g_Z ?_)
  try simp only [mR_125, mR_up, mR_w124, mR_r124, mR_w126, mR_r126, mR_w128, mR_r128, mR_w130, mR_r130, mR_w131, mR_r131, mR_w132, mR_r132, mR_w133, mR_r133, mR_w134, mR_r134, mR_w135, mR_r135]
  refine g_iconst (n := 21) (v := 0) rfl rfl ?_
  refine g_istore_n2 (n := 22) rfl rfl ?_
  refine g_iconst (n := 23) (v := 1) rfl rfl ?_
  refine g_istore_n3 (n := 24) rfl rfl ?_
  have HE : ∀ (k : Nat) (b : Int32) (d1 : Nat → Int32) (J : mg_I), k ≤ nn → (k < nn → b = 0) → mF I J → kK J d1 (up d0 7 0) → fChk d0 nn 0 (up d0 7 0) = (if k = nn then 0 else nI (1 + k)) → GG sc 12 false false mi_k228 d 24 [.ref 124, .int (nI nn), .int (nI k), .int b] [] (mR J d1) nm (qD I (0, fChk d0 nn 0 (up d0 7 0), up d0 7 0) nm) := by
    intro k b d1 J hk hb hJ hk2 hf
    rw [hf]
    refine g_iload_n (n := 25) rfl rfl ?_
    refine g_iload_n (n := 26) rfl rfl ?_
    refine g_icge (n := 29) 76 rfl (by decide) (fun h1 => ?_) (fun h1 => ?_)
    ·
      have hkn : k = nn := by have := fN_le rfl (by omega) (by omega) h1; omega
      subst hkn
      rw [if_pos rfl]
      refine g_aload_n (n := 77) rfl rfl ?_
      refine g_cv0 (n := 80) (t := 148) (ci := 12) rfl (by decide +kernel) (by decide +kernel) (by decide) (by decide) (by decide +kernel) (by rfl) (c_back hk2) (by omega) (g_Z ?_)
      refine g_iload_n (n := 81) rfl rfl ?_
      refine g_iload_n (n := 82) rfl rfl ?_
      refine g_icne (n := 85) 89 rfl (by decide) (fun h2 => ?_) (fun h2 => ?_)
      ·
        exact absurd rfl h2
      ·
        refine g_iconst (n := 86) (v := 0) rfl rfl ?_
        refine g_goto 92 rfl (by decide) ?_
        refine g_iret (n := 93) rfl (fun h => nomatch h) ?_
        exact qD_v hJ.x
    ·
      have hkn := fN_nle rfl (by omega) (by omega) h1
      have hb0 := hb hkn
      subst hb0
      rw [if_neg (by omega)]
      refine g_iload_n (n := 30) rfl rfl ?_
      refine g_ifeq (n := 33) 76 rfl (by decide) (fun h3 => ?_) (fun h3 => ?_)
      ·
        refine g_aload_n (n := 77) rfl rfl ?_
        refine g_cv0 (n := 80) (t := 148) (ci := 12) rfl (by decide +kernel) (by decide +kernel) (by decide) (by decide) (by decide +kernel) (by rfl) (c_back hk2) (by omega) (g_Z ?_)
        refine g_iload_n (n := 81) rfl rfl ?_
        refine g_iload_n (n := 82) rfl rfl ?_
        refine g_icne (n := 85) 89 rfl (by decide) (fun h4 => ?_) (fun h4 => ?_)
        ·
          refine g_iconst (n := 90) (v := 1) rfl rfl ?_
          refine g_iload_n (n := 91) rfl rfl ?_
          refine g_iaddN (n := 92) (x := 1) (y := k) rfl ?_
          refine g_iret (n := 93) rfl (fun h => nomatch h) ?_
          exact qD_v hJ.x
        ·
          exact absurd ((nI_eq (by omega) (by omega)).mp h4) (by omega)
      ·
        exact absurd rfl h3
  have H : ∀ (m k : Nat) (d1 : Nat → Int32) (J : mg_I), k + m = nn → gW d1 → (∀ j, 114 ≤ j → d1 j = d0 j) → mF I J → kK J d1 (up d0 7 0) → fChk d0 m k d1 = fChk d0 nn 0 (up d0 7 0) → GG sc 12 false false mi_k228 d 24 [.ref 124, .int (nI nn), .int (nI k), .int 1] [] (mR J d1) nm (qD I (0, fChk d0 nn 0 (up d0 7 0), up d0 7 0) nm) := by
    intro m
    induction m with
    | zero =>
      intro k d1 J hk hw hd hJ hk2 hf
      exact HE k 1 d1 J (by omega) (by omega) hJ hk2 (hf.symm.trans (if_pos (show k = nn by omega)).symm)
    | succ m ih =>
      intro k d1 J hk hw hd hJ hk2 hf
      refine g_iload_n (n := 25) rfl rfl ?_
      refine g_iload_n (n := 26) rfl rfl ?_
      refine g_icge (n := 29) 76 rfl (by decide) (fun h1 => ?_) (fun h1 => ?_)
      ·
        exact absurd (fN_le rfl (by omega) (by omega) h1) (by omega)
      ·
        refine g_iload_n (n := 30) rfl rfl ?_
        refine g_ifeq1 (n := 33) 76 rfl (by decide) ?_
        refine g_aload_n (n := 34) rfl rfl ?_
        refine g_iconst (n := 35) (v := 0) rfl rfl ?_
        refine g_cv1 (n := 38) (t := 189) (ci := 12) rfl (by decide +kernel) (by decide +kernel) (by decide) (by decide) (by decide +kernel) (by rfl) (c_aMinute (d0 := d1) (fog := 0) hw) (by omega) (g_N fun I1 he => ?_)
        obtain ⟨J1, rfl, hJ1⟩ := mR_mE he
        clear he
        refine g_aload_n (n := 39) rfl rfl ?_
        refine g_iconst (n := 40) (v := 2) rfl rfl ?_
        refine g_cv1 (n := 43) (t := 190) (ci := 12) rfl (by decide +kernel) (by decide +kernel) (by decide) (by decide) (by decide +kernel) (by rfl) (c_howMany (I := mR J1 (fMin d1 0)) (gW_min hw).1.1) (by omega) (g_E ?_)
        try simp only [mR_125, mR_up, mR_w124, mR_r124, mR_w126, mR_r126, mR_w128, mR_r128, mR_w130, mR_r130, mR_w131, mR_r131, mR_w132, mR_r132, mR_w133, mR_r133, mR_w134, mR_r134, mR_w135, mR_r135]
        refine g_aload_n (n := 44) rfl rfl ?_
        refine g_getr (n := 47) (ci := 12) (j := 0) (b := 125) rfl (by decide +kernel) (by decide) (by decide) (by decide +kernel) ?_
        refine g_bipush (n := 49) (v := 116) rfl rfl ?_
        refine g_iload_n (n := 50) rfl rfl ?_
        refine g_iaddN (n := 51) (x := 116) (y := k) rfl ?_
        refine g_iald (n := 52) ((116 + k)) rfl (by decide) rfl (by show _ < 286; omega) ?_
        refine g_top (w := d0 (116 + k)) ((fMin_hi hw (by omega)).trans (hd (116 + k) (by omega))) ?_
        refine g_icne (n := 55) 59 rfl (by decide) (fun h2 => ?_) (fun h2 => ?_)
        ·
          rw [fChk, if_neg h2] at hf
          refine g_iconst (n := 60) (v := 0) rfl rfl ?_
          refine g_istore_n3 (n := 61) rfl rfl ?_
          refine g_iload_n (n := 62) rfl rfl ?_
          refine g_iload_n (n := 63) rfl rfl ?_
          refine g_ifeq0 (n := 66) 70 rfl (by decide) ?_
          refine g_iconst (n := 71) (v := 0) rfl rfl ?_
          refine g_iaddN (n := 72) (x := k) (y := 0) rfl ?_
          refine g_istore_n2 (n := 73) rfl rfl ?_
          refine g_goto 24 rfl (by decide) ?_
          exact HE (k + 0) 0 _ J1 (by omega) (fun _ => rfl) (hJ.trans hJ1.f) (kK_min hk2 hw hJ1) (hf.symm.trans (if_neg (show ¬ k + 0 = nn by omega)).symm)
        ·
          rw [fChk, if_pos h2] at hf
          refine g_iconst (n := 56) (v := 1) rfl rfl ?_
          refine g_goto 60 rfl (by decide) ?_
          refine g_istore_n3 (n := 61) rfl rfl ?_
          refine g_iload_n (n := 62) rfl rfl ?_
          refine g_iload_n (n := 63) rfl rfl ?_
          refine g_ifeq1 (n := 66) 70 rfl (by decide) ?_
          refine g_iconst (n := 67) (v := 1) rfl rfl ?_
          refine g_goto 71 rfl (by decide) ?_
          refine g_iaddN (n := 72) (x := k) (y := 1) rfl ?_
          refine g_istore_n2 (n := 73) rfl rfl ?_
          refine g_goto 24 rfl (by decide) ?_
          exact ih (k + 1) _ J1 (by omega) (gW_min hw) (fun j hj => (fMin_hi hw (by omega)).trans (hd j hj)) (hJ.trans hJ1.f) (kK_min hk2 hw hJ1) hf
  exact H nn 0 _ (kA I (up d0 7 0)) (by omega) (gW_up hw (by omega)) (fun j hj => up_ne (by omega)) kA_mF kK_A rfl
