/-! the model: how late a goer may be, the best start -/
abbrev sT (g : Nat) : Nat := 34 + 10 * g + 4
def fSpr (d : Nat → Int32) (g : Nat) (bk : Int32) : Nat → Nat → Int32
  | 0, n => nI n
  | f + 1, n =>
    if 999 ≤ fO d g 4 + nI n then nI n
    else if (fOB (up d (sT g) (fO d g 4 + nI n + 1))).1 < 0 then nI n
    else if bk < (fOB (up d (sT g) (fO d g 4 + nI n + 1))).2 then nI n
    else fSpr d g bk f (n + 1)
def oSpare (d : Nat → Int32) (g : Int32) : rD :=
  if 0 ≤ g.toInt ∧ g.toInt < (fN d : Int) then
    (if fO d (cl g) 5 = 0 then (if 0 ≤ (fOB d).1 then (0, fSpr d (cl g) (fOB d).2 60 0, d) else fE d 2) else fE d 3)
  else fE d 1
theorem up_fO {d : Nat → Int32} {g : Nat} {w : Int32} : up (up d (34 + 10 * g + 4) w) (34 + 10 * g + 4) (fO d g 4) = d := by
  rw [up_up]
  exact up_self
def qS (v : Int32) (I : mg_I) (nm : Nat) : Option Value → mg_I → Nat → Prop := fun r I' nm' => r = some (.int v) ∧ mX I I' ∧ nm' = nm
theorem mX_mRi {I I' : mg_I} {d : Nat → Int32} (h : mX (mR I d) I') : ∃ J, I' = mR J d ∧ mX I J := by
  refine ⟨fun a j => if a = 125 then I 125 j else I' a j, ?_, ?_⟩
  · funext a j
    unfold mR
    split
    next h1 => subst h1; exact h 125 j (by omega)
    next h1 => exact (if_neg h1).symm
  · intro a j hx
    show (if a = 125 then I 125 j else I' a j) = I a j
    split
    next h1 => subst h1; rfl
    next h1 => exact (h a j hx).trans (if_neg h1)
theorem c_spareOf {sc : List Value} {nm : Nat} {I : mg_I} {d0 : Nat → Int32} {g : Nat} {bk : Int32} (hw : gW d0) (hg : g < 8) : SP sc 49 204 [.ref 124, .int (nI g), .int bk] (mR I d0) nm (qMF (fSpr d0 g bk 60 0) (mR I d0) nm) := by
  refine SP.of (h := 48) (t := 204) (q := (yX12_spareOf, cX12_spareOf, 6, (some .int), 12, 1412, mi_k204)) rfl (by decide) (show ¬ (6 : Nat) < 3 by decide) (fun d hd => ?_)
  show GG sc 12 false false mi_k204 d 0 [.ref 124, .int (nI g), .int bk, .null, .null, .null] [] (mR I d0) nm (qMF (fSpr d0 g bk 60 0) (mR I d0) nm)
  refine g_aload_n (n := 1) rfl rfl ?_
  refine g_iload_n (n := 2) rfl rfl ?_
  refine g_iconst (n := 3) (v := 4) rfl rfl ?_
  refine g_cv2 (n := 6) (t := 145) (ci := 12) rfl (by decide +kernel) (by decide +kernel) (by decide) (by decide) (by decide +kernel) (by rfl) (c_of (g := g) (w := 4) (by omega) (by omega)) (by omega) (g_E ?_)
  try simp only [mR_125, mR_up, mR_w124, mR_r124, mR_w126, mR_r126, mR_w128, mR_r128, mR_w130, mR_r130, mR_w131, mR_r131, mR_w132, mR_r132, mR_w133, mR_r133, mR_w134, mR_r134, mR_w135, mR_r135]
  refine g_istore_n3 (n := 7) rfl rfl ?_
  refine g_iconst (n := 8) (v := 0) rfl rfl ?_
  refine g_istore4 (n := 10) rfl rfl ?_
  refine g_iconst (n := 11) (v := 1) rfl rfl ?_
  refine g_istore5 (n := 13) rfl rfl ?_
  have HE : ∀ (k : Nat) (b w : Int32) (J : mg_I), k ≤ 60 → (¬ b = 0 → k < 60 → 999 ≤ fO d0 g 4 + nI k) → mF I J → fSpr d0 g bk 60 0 = nI k → GG sc 12 false false mi_k204 d 13 [.ref 124, .int (nI g), .int bk, .int (fO d0 g 4), .int (nI k), .int b] [] (mR J (up d0 (34 + 10 * g + 4) w)) nm (qMF (fSpr d0 g bk 60 0) (mR I d0) nm) := by
    intro k b w J hk hb hJ hf
    rw [hf]
    refine g_iload (n := 15) rfl rfl ?_
    refine g_ifeq (n := 18) 91 rfl (by decide) (fun h1 => ?_) (fun h1 => ?_)
    ·
      refine g_aload_n (n := 92) rfl rfl ?_
      refine g_iload_n (n := 93) rfl rfl ?_
      refine g_iconst (n := 94) (v := 4) rfl rfl ?_
      refine g_iload_n (n := 95) rfl rfl ?_
      refine g_cv3 (n := 98) (t := 146) (ci := 12) rfl (by decide +kernel) (by decide +kernel) (by decide) (by decide) (by decide +kernel) (by rfl) (c_sets (g := g) (w := 4) (by omega) (by omega)) (by omega) (g_Z ?_)
      try simp only [mR_125, mR_up, mR_w124, mR_r124, mR_w126, mR_r126, mR_w128, mR_r128, mR_w130, mR_r130, mR_w131, mR_r131, mR_w132, mR_r132, mR_w133, mR_r133, mR_w134, mR_r134, mR_w135, mR_r135]
      rw [up_fO]
      refine g_iload (n := 100) rfl rfl ?_
      refine g_iret (n := 101) rfl (fun h => nomatch h) ?_
      exact ⟨rfl, mF_mR hJ, rfl⟩
    ·
      have hb0 := h1
      refine g_iload (n := 20) rfl rfl ?_
      refine g_bipush (n := 22) (v := 60) rfl rfl ?_
      refine g_icge (n := 25) 91 rfl (by decide) (fun h2 => ?_) (fun h2 => ?_)
      ·
        refine g_aload_n (n := 92) rfl rfl ?_
        refine g_iload_n (n := 93) rfl rfl ?_
        refine g_iconst (n := 94) (v := 4) rfl rfl ?_
        refine g_iload_n (n := 95) rfl rfl ?_
        refine g_cv3 (n := 98) (t := 146) (ci := 12) rfl (by decide +kernel) (by decide +kernel) (by decide) (by decide) (by decide +kernel) (by rfl) (c_sets (g := g) (w := 4) (by omega) (by omega)) (by omega) (g_Z ?_)
        try simp only [mR_125, mR_up, mR_w124, mR_r124, mR_w126, mR_r126, mR_w128, mR_r128, mR_w130, mR_r130, mR_w131, mR_r131, mR_w132, mR_r132, mR_w133, mR_r133, mR_w134, mR_r134, mR_w135, mR_r135]
        rw [up_fO]
        refine g_iload (n := 100) rfl rfl ?_
        refine g_iret (n := 101) rfl (fun h => nomatch h) ?_
        exact ⟨rfl, mF_mR hJ, rfl⟩
      ·
        have hk6 : k < 60 := (nI_ltI (a := k) (b := 60) (by omega) (by omega)).mp (Int32.not_le.mp h2)
        refine g_iload_n (n := 26) rfl rfl ?_
        refine g_iload (n := 28) rfl rfl ?_
        refine g_iadd (n := 29) rfl ?_
        refine g_sipush (n := 32) (v := 999) rfl rfl ?_
        refine g_icge (n := 35) 91 rfl (by decide) (fun h3 => ?_) (fun h3 => ?_)
        ·
          refine g_aload_n (n := 92) rfl rfl ?_
          refine g_iload_n (n := 93) rfl rfl ?_
          refine g_iconst (n := 94) (v := 4) rfl rfl ?_
          refine g_iload_n (n := 95) rfl rfl ?_
          refine g_cv3 (n := 98) (t := 146) (ci := 12) rfl (by decide +kernel) (by decide +kernel) (by decide) (by decide) (by decide +kernel) (by rfl) (c_sets (g := g) (w := 4) (by omega) (by omega)) (by omega) (g_Z ?_)
          try simp only [mR_125, mR_up, mR_w124, mR_r124, mR_w126, mR_r126, mR_w128, mR_r128, mR_w130, mR_r130, mR_w131, mR_r131, mR_w132, mR_r132, mR_w133, mR_r133, mR_w134, mR_r134, mR_w135, mR_r135]
          rw [up_fO]
          refine g_iload (n := 100) rfl rfl ?_
          refine g_iret (n := 101) rfl (fun h => nomatch h) ?_
          exact ⟨rfl, mF_mR hJ, rfl⟩
        ·
          exact absurd (hb hb0 hk6) h3
  have H : ∀ (m k : Nat) (w : Int32) (J : mg_I), k + m = 60 → mF I J → fSpr d0 g bk m k = fSpr d0 g bk 60 0 → GG sc 12 false false mi_k204 d 13 [.ref 124, .int (nI g), .int bk, .int (fO d0 g 4), .int (nI k), .int 1] [] (mR J (up d0 (34 + 10 * g + 4) w)) nm (qMF (fSpr d0 g bk 60 0) (mR I d0) nm) := by
    intro m
    induction m with
    | zero =>
      intro k w J hk hJ hf
      exact HE k 1 w J (by omega) (fun _ z => absurd z (by omega)) hJ hf.symm
    | succ m ih =>
      intro k w J hk hJ hf
      refine g_iload (n := 15) rfl rfl ?_
      refine g_ifeq1 (n := 18) 91 rfl (by decide) ?_
      refine g_iload (n := 20) rfl rfl ?_
      refine g_bipush (n := 22) (v := 60) rfl rfl ?_
      refine g_icge (n := 25) 91 rfl (by decide) (fun h1 => ?_) (fun h1 => ?_)
      ·
        exact absurd ((nI_leI (a := 60) (b := k) (by omega) (by omega)).mp h1) (by omega)
      ·
        refine g_iload_n (n := 26) rfl rfl ?_
        refine g_iload (n := 28) rfl rfl ?_
        refine g_iadd (n := 29) rfl ?_
        refine g_sipush (n := 32) (v := 999) rfl rfl ?_
        refine g_icge (n := 35) 91 rfl (by decide) (fun h2 => ?_) (fun h2 => ?_)
        ·
          rw [fSpr, if_pos h2] at hf
          have hf9 := h2
          refine g_aload_n (n := 92) rfl rfl ?_
          refine g_iload_n (n := 93) rfl rfl ?_
          refine g_iconst (n := 94) (v := 4) rfl rfl ?_
          refine g_iload_n (n := 95) rfl rfl ?_
          refine g_cv3 (n := 98) (t := 146) (ci := 12) rfl (by decide +kernel) (by decide +kernel) (by decide) (by decide) (by decide +kernel) (by rfl) (c_sets (g := g) (w := 4) (by omega) (by omega)) (by omega) (g_Z ?_)
          try simp only [mR_125, mR_up, mR_w124, mR_r124, mR_w126, mR_r126, mR_w128, mR_r128, mR_w130, mR_r130, mR_w131, mR_r131, mR_w132, mR_r132, mR_w133, mR_r133, mR_w134, mR_r134, mR_w135, mR_r135]
          rw [up_fO]
          refine g_iload (n := 100) rfl rfl ?_
          refine g_iret (n := 101) rfl (fun h => nomatch h) ?_
          rw [← hf]; exact ⟨rfl, mF_mR hJ, rfl⟩
        ·
          rw [fSpr, if_neg h2] at hf
          refine g_aload_n (n := 36) rfl rfl ?_
          refine g_iload_n (n := 37) rfl rfl ?_
          refine g_iconst (n := 38) (v := 4) rfl rfl ?_
          refine g_iload_n (n := 39) rfl rfl ?_
          refine g_iload (n := 41) rfl rfl ?_
          refine g_iadd (n := 42) rfl ?_
          refine g_iconst (n := 43) (v := 1) rfl rfl ?_
          refine g_iadd (n := 44) rfl ?_
          refine g_cv3 (n := 47) (t := 146) (ci := 12) rfl (by decide +kernel) (by decide +kernel) (by decide) (by decide) (by decide +kernel) (by rfl) (c_sets (g := g) (w := 4) (by omega) (by omega)) (by omega) (g_Z ?_)
          try simp only [mR_125, mR_up, mR_w124, mR_r124, mR_w126, mR_r126, mR_w128, mR_r128, mR_w130, mR_r130, mR_w131, mR_r131, mR_w132, mR_r132, mR_w133, mR_r133, mR_w134, mR_r134, mR_w135, mR_r135]
          rw [up_up]
          refine g_aload_n (n := 48) rfl rfl ?_
          refine g_cv0 (n := 51) (t := 196) (ci := 12) rfl (by decide +kernel) (by decide +kernel) (by decide) (by decide) (by decide +kernel) (by rfl) (c_findOver (d0 := up d0 (34 + 10 * g + 4) (fO d0 g 4 + nI k + 1)) (gW_start hw hg (by omega))) (by omega) (g_F fun J1 hJ1 h12 h13 => ?_)
          refine g_aload_n (n := 52) rfl rfl ?_
          refine g_getv (n := 55) (ci := 12) (j := 12) (v := (fOB (up d0 (34 + 10 * g + 4) (fO d0 g 4 + nI k + 1))).1) h12 rfl (by decide +kernel) rfl (by decide) (by decide) ?_
          refine g_iflt (n := 58) 70 rfl (by decide) (fun h3 => ?_) (fun h3 => ?_)
          ·
            rw [if_pos h3] at hf
            refine g_iconst (n := 71) (v := 0) rfl rfl ?_
            refine g_istore5 (n := 73) rfl rfl ?_
            refine g_iload (n := 75) rfl rfl ?_
            refine g_iload (n := 77) rfl rfl ?_
            refine g_ifeq0 (n := 80) 84 rfl (by decide) ?_
            refine g_iconst (n := 85) (v := 0) rfl rfl ?_
            refine g_iaddN (n := 86) (x := k) (y := 0) rfl ?_
            refine g_istore4 (n := 88) rfl rfl ?_
            refine g_goto 13 rfl (by decide) ?_
            exact HE (k + 0) 0 _ J1 (by omega) (fun q => absurd rfl q) (hJ.trans hJ1) hf.symm
          ·
            rw [if_neg h3] at hf
            refine g_aload_n (n := 59) rfl rfl ?_
            refine g_getv (n := 62) (ci := 12) (j := 13) (v := (fOB (up d0 (34 + 10 * g + 4) (fO d0 g 4 + nI k + 1))).2) h13 rfl (by decide +kernel) rfl (by decide) (by decide) ?_
            refine g_iload_n (n := 63) rfl rfl ?_
            refine g_icgt (n := 66) 70 rfl (by decide) (fun h4 => ?_) (fun h4 => ?_)
            ·
              rw [if_pos h4] at hf
              refine g_iconst (n := 71) (v := 0) rfl rfl ?_
              refine g_istore5 (n := 73) rfl rfl ?_
              refine g_iload (n := 75) rfl rfl ?_
              refine g_iload (n := 77) rfl rfl ?_
              refine g_ifeq0 (n := 80) 84 rfl (by decide) ?_
              refine g_iconst (n := 85) (v := 0) rfl rfl ?_
              refine g_iaddN (n := 86) (x := k) (y := 0) rfl ?_
              refine g_istore4 (n := 88) rfl rfl ?_
              refine g_goto 13 rfl (by decide) ?_
              exact HE (k + 0) 0 _ J1 (by omega) (fun q => absurd rfl q) (hJ.trans hJ1) hf.symm
            ·
              rw [if_neg h4] at hf
              refine g_iconst (n := 67) (v := 1) rfl rfl ?_
              refine g_goto 71 rfl (by decide) ?_
              refine g_istore5 (n := 73) rfl rfl ?_
              refine g_iload (n := 75) rfl rfl ?_
              refine g_iload (n := 77) rfl rfl ?_
              refine g_ifeq1 (n := 80) 84 rfl (by decide) ?_
              refine g_iconst (n := 81) (v := 1) rfl rfl ?_
              refine g_goto 85 rfl (by decide) ?_
              refine g_iaddN (n := 86) (x := k) (y := 1) rfl ?_
              refine g_istore4 (n := 88) rfl rfl ?_
              refine g_goto 13 rfl (by decide) ?_
              exact ih (k + 1) _ J1 (by omega) (hJ.trans hJ1) hf
  have hh := H 60 0 (fO d0 g 4) I (by omega) mF.rfl' rfl
  rw [show up d0 (34 + 10 * g + 4) (fO d0 g 4) = d0 from up_self] at hh
  exact hh
theorem c_spare {sc : List Value} {nm : Nat} {I : mg_I} {d0 : Nat → Int32} {g : Int32} (hw : gW d0) : SP sc 50 205 [.ref 124, .int g] (mR I d0) nm (qD I (oSpare d0 g) nm) := by
  refine SP.of (h := 49) (t := 205) (q := (yX12_spare, cX12_spare, 2, (some .int), 12, 1408, mi_k205)) rfl (by decide) (show ¬ (2 : Nat) < 2 by decide) (fun d hd => ?_)
  show GG sc 12 false false mi_k205 d 0 [.ref 124, .int g] [] (mR I d0) nm (qD I (oSpare d0 g) nm)
  have hN := hw.1.1
  unfold oSpare
  refine g_aload_n (n := 1) rfl rfl ?_
  refine g_iload_n (n := 2) rfl rfl ?_
  refine g_cv1 (n := 5) (t := 143) (ci := 12) rfl (by decide +kernel) (by decide +kernel) (by decide) (by decide) (by decide +kernel) (by rfl) (c_isGoer (by assumption)) (by omega) (g_E ?_)
  try simp only [mR_125, mR_up, mR_w124, mR_r124, mR_w126, mR_r126, mR_w128, mR_r128, mR_w130, mR_r130, mR_w131, mR_r131, mR_w132, mR_r132, mR_w133, mR_r133, mR_w134, mR_r134, mR_w135, mR_r135]
  refine g_split (fun h1 => ?_) (fun h1 => ?_)
  ·
    refine g_ifne1 (n := 8) 14 rfl (by decide) ?_
    obtain ⟨gg, hgg, rfl, hcg⟩ := iR_nI (x := g) (n := fN d0) ⟨by omega, by omega⟩
    have hg8 := (fN_eq hN).2
    rw [if_pos h1, show cl (nI gg) = gg from hcg]
    refine g_aload_n (n := 15) rfl rfl ?_
    refine g_iload_n (n := 16) rfl rfl ?_
    refine g_iconst (n := 17) (v := 5) rfl rfl ?_
    refine g_cv2 (n := 20) (t := 145) (ci := 12) rfl (by decide +kernel) (by decide +kernel) (by decide) (by decide) (by decide +kernel) (by rfl) (c_of (g := gg) (w := 5) (by omega) (by omega)) (by omega) (g_E ?_)
    try simp only [mR_125, mR_up, mR_w124, mR_r124, mR_w126, mR_r126, mR_w128, mR_r128, mR_w130, mR_r130, mR_w131, mR_r131, mR_w132, mR_r132, mR_w133, mR_r133, mR_w134, mR_r134, mR_w135, mR_r135]
    refine g_ifeq (n := 23) 29 rfl (by decide) (fun h2 => ?_) (fun h2 => ?_)
    ·
      rw [if_pos h2]
      refine g_aload_n (n := 30) rfl rfl ?_
      refine g_cv0 (n := 33) (t := 196) (ci := 12) rfl (by decide +kernel) (by decide +kernel) (by decide) (by decide) (by decide +kernel) (by rfl) (c_findOver (d0 := d0) hw) (by omega) (g_F fun J1 hJ1 h12 h13 => ?_)
      refine g_aload_n (n := 34) rfl rfl ?_
      refine g_getv (n := 37) (ci := 12) (j := 12) (v := (fOB d0).1) h12 rfl (by decide +kernel) rfl (by decide) (by decide) ?_
      refine g_ifge (n := 40) 48 rfl (by decide) (fun h3 => ?_) (fun h3 => ?_)
      ·
        rw [if_pos h3]
        refine g_aload_n (n := 49) rfl rfl ?_
        refine g_iload_n (n := 50) rfl rfl ?_
        refine g_aload_n (n := 51) rfl rfl ?_
        refine g_getv (n := 54) (ci := 12) (j := 13) (v := (fOB d0).2) h13 rfl (by decide +kernel) rfl (by decide) (by decide) ?_
        refine g_cv2 (n := 57) (t := 204) (ci := 12) rfl (by decide +kernel) (by decide +kernel) (by decide) (by decide) (by decide +kernel) (by rfl) (c_spareOf (g := gg) hw (by omega)) (by omega) (g_MF fun J2 hJ2 => ?_)
        refine g_iret (n := 58) rfl (fun h => nomatch h) ?_
        first | exact qD_v (hJ1.trans hJ2).x | exact qD_e (by decide) mX.rfl' | exact qD_e (by decide) hJ1.x
      ·
        rw [if_neg h3]
        refine g_aload_n (n := 41) rfl rfl ?_
        refine g_iconst (n := 42) (v := 2) rfl rfl ?_
        refine g_cv1 (n := 45) (t := 140) (ci := 12) rfl (by decide +kernel) (by decide +kernel) (by decide) (by decide) (by decide +kernel) (by rfl) (c_finds (k := 2) (by omega)) (by omega) (g_E ?_)
        try simp only [mR_125, mR_up, mR_w124, mR_r124, mR_w126, mR_r126, mR_w128, mR_r128, mR_w130, mR_r130, mR_w131, mR_r131, mR_w132, mR_r132, mR_w133, mR_r133, mR_w134, mR_r134, mR_w135, mR_r135]
        refine g_goto 57 rfl (by decide) ?_
        refine g_iret (n := 58) rfl (fun h => nomatch h) ?_
        first | exact qD_v (hJ1.trans hJ2).x | exact qD_e (by decide) mX.rfl' | exact qD_e (by decide) hJ1.x
    ·
      rw [if_neg h2]
      refine g_aload_n (n := 24) rfl rfl ?_
      refine g_iconst (n := 25) (v := 3) rfl rfl ?_
      refine g_cv1 (n := 28) (t := 140) (ci := 12) rfl (by decide +kernel) (by decide +kernel) (by decide) (by decide) (by decide +kernel) (by rfl) (c_finds (k := 3) (by omega)) (by omega) (g_E ?_)
      try simp only [mR_125, mR_up, mR_w124, mR_r124, mR_w126, mR_r126, mR_w128, mR_r128, mR_w130, mR_r130, mR_w131, mR_r131, mR_w132, mR_r132, mR_w133, mR_r133, mR_w134, mR_r134, mR_w135, mR_r135]
      refine g_iret (n := 29) rfl (fun h => nomatch h) ?_
      first | exact qD_v (hJ1.trans hJ2).x | exact qD_e (by decide) mX.rfl' | exact qD_e (by decide) hJ1.x
  ·
    refine g_ifne0 (n := 8) 14 rfl (by decide) ?_
    rw [if_neg h1]
    refine g_aload_n (n := 9) rfl rfl ?_
    refine g_iconst (n := 10) (v := 1) rfl rfl ?_
    refine g_cv1 (n := 13) (t := 140) (ci := 12) rfl (by decide +kernel) (by decide +kernel) (by decide) (by decide) (by decide +kernel) (by rfl) (c_finds (k := 1) (by omega)) (by omega) (g_E ?_)
    try simp only [mR_125, mR_up, mR_w124, mR_r124, mR_w126, mR_r126, mR_w128, mR_r128, mR_w130, mR_r130, mR_w131, mR_r131, mR_w132, mR_r132, mR_w133, mR_r133, mR_w134, mR_r134, mR_w135, mR_r135]
    refine g_iret (n := 14) rfl (fun h => nomatch h) ?_
    first | exact qD_v (hJ1.trans hJ2).x | exact qD_e (by decide) mX.rfl' | exact qD_e (by decide) hJ1.x
abbrev rB : Type := Int32 × Int32 × Int32
def kBs (r : Int32 × Int32) (b : rB) : Prop := 0 ≤ r.1 ∧ (b.1 < 0 ∨ r.1 < b.2.1 ∨ (r.1 = b.2.1 ∧ r.2 < b.2.2))
def fBs (d : Nat → Int32) (g : Nat) : Nat → Int32 → rB → rB
  | 0, _, b => b
  | f + 1, s, b =>
    if 999 < s then b
    else if 0 ≤ (fOB (up d (sT g) s)).1 ∧ (b.1 < 0 ∨ (fOB (up d (sT g) s)).1 < b.2.1 ∨ ((fOB (up d (sT g) s)).1 = b.2.1 ∧ (fOB (up d (sT g) s)).2 < b.2.2)) then fBs d g f (s + 1) (s, fOB (up d (sT g) s))
    else fBs d g f (s + 1) b
def fBest (d : Nat → Int32) (g : Nat) : rB := fBs d g 60 (d 1) (-1, 0, 0)
def oBest (d : Nat → Int32) (g w : Int32) : rD :=
  if 0 ≤ g.toInt ∧ g.toInt < (fN d : Int) then
    (if 0 ≤ w.toInt ∧ w.toInt ≤ 2 then
      (if fO d (cl g) 5 = 0 then
        (if 0 ≤ (fBest d (cl g)).1 then (0, if w = 0 then (fBest d (cl g)).1 else if w = 1 then (fBest d (cl g)).2.1 else (fBest d (cl g)).2.2, d) else fE d 2)
      else fE d 3)
    else fE d 1)
  else fE d 1
/-- what the model holds of the best start so far -/
def kB (J : mg_I) (b : rB) : Prop := J 124 15 = b.1 ∧ (0 ≤ b.1 → J 124 16 = b.2.1 ∧ J 124 17 = b.2.2)
theorem kB_mF {J K : mg_I} {b : rB} (h : kB J b) (hm : mF J K) : kB K b := ⟨(hm 124 15 (by omega)).trans h.1, fun z => ⟨(hm 124 16 (by omega)).trans (h.2 z).1, (hm 124 17 (by omega)).trans (h.2 z).2⟩⟩
theorem kB_set {J : mg_I} {s : Int32} {r : Int32 × Int32} : kB (mf_up (mf_up (mf_up J 124 15 s) 124 16 r.1) 124 17 r.2) (s, r) := by
  refine ⟨?_, fun _ => ⟨?_, ?_⟩⟩
  · exact (if_neg (by omega)).trans ((if_neg (by omega)).trans (if_pos ⟨rfl, rfl⟩))
  · exact (if_neg (by omega)).trans (if_pos ⟨rfl, rfl⟩)
  · exact if_pos ⟨rfl, rfl⟩
def qB (I : mg_I) (d : Nat → Int32) (b : rB) (nm : Nat) : Option Value → mg_I → Nat → Prop := fun r I' nm' => r = none ∧ (∃ J, I' = mR J d ∧ mX I J ∧ kB J b) ∧ nm' = nm
theorem g_B {sc : List Value} {own : Nat} {ini rz : Bool} {code : List (Nat × Instr)} {d n : Nat} {ls : List Value} {I : mg_I} {dd : Nat → Int32} {b : rB} {nm0 : Nat} {Q : Option Value → mg_I → Nat → Prop} {r : List Value} (k : ∀ J, mX I J → kB J b → GG sc own ini rz code d n ls r (mR J dd) nm0 Q) : ∀ a I2 nm2, qB I dd b nm0 a I2 nm2 → GG sc own ini rz code d n ls (a.toList ++ r) I2 nm2 Q := by
  rintro a I2 nm2 ⟨rfl, ⟨J, rfl, h1, h2⟩, rfl⟩
  exact k J h1 h2
theorem c_findBest {sc : List Value} {nm : Nat} {I : mg_I} {d0 : Nat → Int32} {g : Nat} (hw : gW d0) (hg : g < 8) (hm1 : iR (d0 1) 10000) : SP sc 49 202 [.ref 124, .int (nI g)] (mR I d0) nm (qB I d0 (fBest d0 g) nm) := by
  refine SP.of (h := 48) (t := 202) (q := (yX12_findBestStart, cX12_findBestStart, 5, none, 12, 1404, mi_k202)) rfl (by decide) (show ¬ (5 : Nat) < 2 by decide) (fun d hd => ?_)
  show GG sc 12 false false mi_k202 d 0 [.ref 124, .int (nI g), .null, .null, .null] [] (mR I d0) nm (qB I d0 (fBest d0 g) nm)
  obtain ⟨u, hu1, hu, _⟩ := iR_nI hm1
  refine g_aload_n (n := 1) rfl rfl ?_
  refine g_iload_n (n := 2) rfl rfl ?_
  refine g_iconst (n := 3) (v := 4) rfl rfl ?_
  refine g_cv2 (n := 6) (t := 145) (ci := 12) rfl (by decide +kernel) (by decide +kernel) (by decide) (by decide) (by decide +kernel) (by rfl) (c_of (g := g) (w := 4) (by omega) (by omega)) (by omega) (g_E ?_)
  try simp only [mR_125, mR_up, mR_w124, mR_r124, mR_w126, mR_r126, mR_w128, mR_r128, mR_w130, mR_r130, mR_w131, mR_r131, mR_w132, mR_r132, mR_w133, mR_r133, mR_w134, mR_r134, mR_w135, mR_r135]
  refine g_istore_n2 (n := 7) rfl rfl ?_
  refine g_aload_n (n := 8) rfl rfl ?_
  refine g_iconst (n := 9) (v := -1) rfl rfl ?_
  refine g_puti (n := 12) (ci := 12) (j := 15) rfl (by decide +kernel) rfl (by decide) (by decide) (by decide +kernel) rfl ?_
  try simp only [mR_125, mR_up, mR_w124, mR_r124, mR_w126, mR_r126, mR_w128, mR_r128, mR_w130, mR_r130, mR_w131, mR_r131, mR_w132, mR_r132, mR_w133, mR_r133, mR_w134, mR_r134, mR_w135, mR_r135]
  refine g_aload_n (n := 13) rfl rfl ?_
  refine g_getr (n := 16) (ci := 12) (j := 0) (b := 125) rfl (by decide +kernel) (by decide) (by decide) (by decide +kernel) ?_
  refine g_iconst (n := 17) (v := 1) rfl rfl ?_
  refine g_iald (n := 18) (1) rfl (by decide) rfl (by show _ < 286; omega) ?_
  refine g_top (w := nI (u + 0)) hu ?_
  refine g_istore_n3 (n := 19) rfl rfl ?_
  have H : ∀ (m k : Nat) (w : Int32) (b : rB) (J : mg_I) {x4 : Value}, k + m = 60 → mX I J → kB J b → fBs d0 g m (nI (u + k)) b = fBest d0 g → GG sc 12 false false mi_k202 d 19 [.ref 124, .int (nI g), .int (fO d0 g 4), .int (nI (u + k)), x4] [] (mR J (up d0 (34 + 10 * g + 4) w)) nm (qB I d0 (fBest d0 g) nm) := by
    intro m
    induction m with
    | zero =>
      intro k w b J x4 hk hJ hb hf
      refine g_iload_n (n := 20) rfl rfl ?_
      refine g_aload_n (n := 21) rfl rfl ?_
      refine g_getr (n := 24) (ci := 12) (j := 0) (b := 125) rfl (by decide +kernel) (by decide) (by decide) (by decide +kernel) ?_
      refine g_iconst (n := 25) (v := 1) rfl rfl ?_
      refine g_iald (n := 26) (1) rfl (by decide) rfl (by show _ < 286; omega) ?_
      refine g_top (w := nI u) (show up d0 (34 + 10 * g + 4) w 1 = nI u from (up_ne (by omega)).trans hu) ?_
      refine g_bipush (n := 28) (v := 60) rfl rfl ?_
      refine g_iaddN (n := 29) (x := u) (y := 60) rfl ?_
      refine g_icge (n := 32) 136 rfl (by decide) (fun h1 => ?_) (fun h1 => ?_)
      ·
        refine g_aload_n (n := 137) rfl rfl ?_
        refine g_iload_n (n := 138) rfl rfl ?_
        refine g_iconst (n := 139) (v := 4) rfl rfl ?_
        refine g_iload_n (n := 140) rfl rfl ?_
        refine g_cv3 (n := 143) (t := 146) (ci := 12) rfl (by decide +kernel) (by decide +kernel) (by decide) (by decide) (by decide +kernel) (by rfl) (c_sets (g := g) (w := 4) (by omega) (by omega)) (by omega) (g_Z ?_)
        try simp only [mR_125, mR_up, mR_w124, mR_r124, mR_w126, mR_r126, mR_w128, mR_r128, mR_w130, mR_r130, mR_w131, mR_r131, mR_w132, mR_r132, mR_w133, mR_r133, mR_w134, mR_r134, mR_w135, mR_r135]
        rw [up_fO]
        refine g_vret (n := 144) rfl ?_
        exact ⟨rfl, ⟨_, rfl, hJ, (show b = fBest d0 g from hf) ▸ hb⟩, rfl⟩
      ·
        exact absurd (fN_nle (n := u + 60) rfl (by omega) (by omega) h1) (by omega)
    | succ m ih =>
      intro k w b J x4 hk hJ hb hf
      refine g_iload_n (n := 20) rfl rfl ?_
      refine g_aload_n (n := 21) rfl rfl ?_
      refine g_getr (n := 24) (ci := 12) (j := 0) (b := 125) rfl (by decide +kernel) (by decide) (by decide) (by decide +kernel) ?_
      refine g_iconst (n := 25) (v := 1) rfl rfl ?_
      refine g_iald (n := 26) (1) rfl (by decide) rfl (by show _ < 286; omega) ?_
      refine g_top (w := nI u) (show up d0 (34 + 10 * g + 4) w 1 = nI u from (up_ne (by omega)).trans hu) ?_
      refine g_bipush (n := 28) (v := 60) rfl rfl ?_
      refine g_iaddN (n := 29) (x := u) (y := 60) rfl ?_
      refine g_icge (n := 32) 136 rfl (by decide) (fun h1 => ?_) (fun h1 => ?_)
      ·
        exact absurd (fN_le (n := u + 60) rfl (by omega) (by omega) h1) (by omega)
      ·
        refine g_iload_n (n := 33) rfl rfl ?_
        refine g_sipush (n := 36) (v := 999) rfl rfl ?_
        refine g_icgt (n := 39) 136 rfl (by decide) (fun h2 => ?_) (fun h2 => ?_)
        ·
          rw [fBs, if_pos h2] at hf
          refine g_aload_n (n := 137) rfl rfl ?_
          refine g_iload_n (n := 138) rfl rfl ?_
          refine g_iconst (n := 139) (v := 4) rfl rfl ?_
          refine g_iload_n (n := 140) rfl rfl ?_
          refine g_cv3 (n := 143) (t := 146) (ci := 12) rfl (by decide +kernel) (by decide +kernel) (by decide) (by decide) (by decide +kernel) (by rfl) (c_sets (g := g) (w := 4) (by omega) (by omega)) (by omega) (g_Z ?_)
          try simp only [mR_125, mR_up, mR_w124, mR_r124, mR_w126, mR_r126, mR_w128, mR_r128, mR_w130, mR_r130, mR_w131, mR_r131, mR_w132, mR_r132, mR_w133, mR_r133, mR_w134, mR_r134, mR_w135, mR_r135]
          rw [up_fO]
          refine g_vret (n := 144) rfl ?_
          exact ⟨rfl, ⟨_, rfl, hJ, (show b = fBest d0 g from hf) ▸ hb⟩, rfl⟩
        ·
          rw [fBs, if_neg h2] at hf
          refine g_aload_n (n := 40) rfl rfl ?_
          refine g_iload_n (n := 41) rfl rfl ?_
          refine g_iconst (n := 42) (v := 4) rfl rfl ?_
          refine g_iload_n (n := 43) rfl rfl ?_
          refine g_cv3 (n := 46) (t := 146) (ci := 12) rfl (by decide +kernel) (by decide +kernel) (by decide) (by decide) (by decide +kernel) (by rfl) (c_sets (g := g) (w := 4) (by omega) (by omega)) (by omega) (g_Z ?_)
          try simp only [mR_125, mR_up, mR_w124, mR_r124, mR_w126, mR_r126, mR_w128, mR_r128, mR_w130, mR_r130, mR_w131, mR_r131, mR_w132, mR_r132, mR_w133, mR_r133, mR_w134, mR_r134, mR_w135, mR_r135]
          rw [up_up]
          refine g_aload_n (n := 47) rfl rfl ?_
          refine g_cv0 (n := 50) (t := 196) (ci := 12) rfl (by decide +kernel) (by decide +kernel) (by decide) (by decide) (by decide +kernel) (by rfl) (c_findOver (d0 := up d0 (34 + 10 * g + 4) (nI (u + k))) (gW_start hw hg (by omega))) (by omega) (g_F fun J1 hJ1 h12 h13 => ?_)
          have hb2 := kB_mF hb hJ1
          refine g_aload_n (n := 51) rfl rfl ?_
          refine g_getv (n := 54) (ci := 12) (j := 15) (v := b.1) hb2.1 rfl (by decide +kernel) rfl (by decide) (by decide) ?_
          refine g_iflt (n := 57) 90 rfl (by decide) (fun h3 => ?_) (fun h3 => ?_)
          ·
            refine g_iconst (n := 91) (v := 1) rfl rfl ?_
            refine g_goto 95 rfl (by decide) ?_
            refine g_istore4 (n := 97) rfl rfl ?_
            refine g_aload_n (n := 98) rfl rfl ?_
            refine g_getv (n := 101) (ci := 12) (j := 12) (v := (fOB (up d0 (34 + 10 * g + 4) (nI (u + k)))).1) h12 rfl (by decide +kernel) rfl (by decide) (by decide) ?_
            refine g_iflt (n := 104) 130 rfl (by decide) (fun h4 => ?_) (fun h4 => ?_)
            ·
              rw [if_neg (fun q => absurd q.1 (Int32.not_le.mpr h4))] at hf
              refine g_iinc3 (n := 133) rfl rfl (nI_inc _) ?_
              refine g_goto 19 rfl (by decide) ?_
              exact ih (k + 1) _ b _ (by omega) (hJ.trans hJ1.x) hb2 (by rw [← hf, nI_1]; rfl)
            ·
              refine g_iload (n := 106) rfl rfl ?_
              rw [if_pos ⟨Int32.not_lt.mp h4, Or.inl h3⟩] at hf
              refine g_ifeq1 (n := 109) 130 rfl (by decide) ?_
              refine g_aload_n (n := 110) rfl rfl ?_
              refine g_iload_n (n := 111) rfl rfl ?_
              refine g_puti (n := 114) (ci := 12) (j := 15) rfl (by decide +kernel) rfl (by decide) (by decide) (by decide +kernel) rfl ?_
              try simp only [mR_125, mR_up, mR_w124, mR_r124, mR_w126, mR_r126, mR_w128, mR_r128, mR_w130, mR_r130, mR_w131, mR_r131, mR_w132, mR_r132, mR_w133, mR_r133, mR_w134, mR_r134, mR_w135, mR_r135]
              refine g_aload_n (n := 115) rfl rfl ?_
              refine g_aload_n (n := 116) rfl rfl ?_
              refine g_getv (n := 119) (ci := 12) (j := 12) (v := (fOB (up d0 (34 + 10 * g + 4) (nI (u + k)))).1) ((if_neg (by omega)).trans h12) rfl (by decide +kernel) rfl (by decide) (by decide) ?_
              refine g_puti (n := 122) (ci := 12) (j := 16) rfl (by decide +kernel) rfl (by decide) (by decide) (by decide +kernel) rfl ?_
              try simp only [mR_125, mR_up, mR_w124, mR_r124, mR_w126, mR_r126, mR_w128, mR_r128, mR_w130, mR_r130, mR_w131, mR_r131, mR_w132, mR_r132, mR_w133, mR_r133, mR_w134, mR_r134, mR_w135, mR_r135]
              refine g_aload_n (n := 123) rfl rfl ?_
              refine g_aload_n (n := 124) rfl rfl ?_
              refine g_getv (n := 127) (ci := 12) (j := 13) (v := (fOB (up d0 (34 + 10 * g + 4) (nI (u + k)))).2) ((if_neg (by omega)).trans ((if_neg (by omega)).trans h13)) rfl (by decide +kernel) rfl (by decide) (by decide) ?_
              refine g_puti (n := 130) (ci := 12) (j := 17) rfl (by decide +kernel) rfl (by decide) (by decide) (by decide +kernel) rfl ?_
              try simp only [mR_125, mR_up, mR_w124, mR_r124, mR_w126, mR_r126, mR_w128, mR_r128, mR_w130, mR_r130, mR_w131, mR_r131, mR_w132, mR_r132, mR_w133, mR_r133, mR_w134, mR_r134, mR_w135, mR_r135]
              refine g_iinc3 (n := 133) rfl rfl (nI_inc _) ?_
              refine g_goto 19 rfl (by decide) ?_
              exact ih (k + 1) _ (nI (u + k), fOB (up d0 (34 + 10 * g + 4) (nI (u + k)))) _ (by omega) (mX_124 (mX_124 (mX_124 (hJ.trans hJ1.x) (by decide)) (by decide)) (by decide)) kB_set (by rw [← hf, nI_1]; rfl)
          ·
            have hb16 := hb2.2 (Int32.not_lt.mp h3)
            refine g_aload_n (n := 58) rfl rfl ?_
            refine g_getv (n := 61) (ci := 12) (j := 12) (v := (fOB (up d0 (34 + 10 * g + 4) (nI (u + k)))).1) h12 rfl (by decide +kernel) rfl (by decide) (by decide) ?_
            refine g_aload_n (n := 62) rfl rfl ?_
            refine g_getv (n := 65) (ci := 12) (j := 16) (v := b.2.1) hb16.1 rfl (by decide +kernel) rfl (by decide) (by decide) ?_
            refine g_iclt (n := 68) 90 rfl (by decide) (fun h5 => ?_) (fun h5 => ?_)
            ·
              refine g_iconst (n := 91) (v := 1) rfl rfl ?_
              refine g_goto 95 rfl (by decide) ?_
              refine g_istore4 (n := 97) rfl rfl ?_
              refine g_aload_n (n := 98) rfl rfl ?_
              refine g_getv (n := 101) (ci := 12) (j := 12) (v := (fOB (up d0 (34 + 10 * g + 4) (nI (u + k)))).1) h12 rfl (by decide +kernel) rfl (by decide) (by decide) ?_
              refine g_iflt (n := 104) 130 rfl (by decide) (fun h6 => ?_) (fun h6 => ?_)
              ·
                rw [if_neg (fun q => absurd q.1 (Int32.not_le.mpr h6))] at hf
                refine g_iinc3 (n := 133) rfl rfl (nI_inc _) ?_
                refine g_goto 19 rfl (by decide) ?_
                exact ih (k + 1) _ b _ (by omega) (hJ.trans hJ1.x) hb2 (by rw [← hf, nI_1]; rfl)
              ·
                refine g_iload (n := 106) rfl rfl ?_
                rw [if_pos ⟨Int32.not_lt.mp h6, Or.inr (Or.inl h5)⟩] at hf
                refine g_ifeq1 (n := 109) 130 rfl (by decide) ?_
                refine g_aload_n (n := 110) rfl rfl ?_
                refine g_iload_n (n := 111) rfl rfl ?_
                refine g_puti (n := 114) (ci := 12) (j := 15) rfl (by decide +kernel) rfl (by decide) (by decide) (by decide +kernel) rfl ?_
                try simp only [mR_125, mR_up, mR_w124, mR_r124, mR_w126, mR_r126, mR_w128, mR_r128, mR_w130, mR_r130, mR_w131, mR_r131, mR_w132, mR_r132, mR_w133, mR_r133, mR_w134, mR_r134, mR_w135, mR_r135]
                refine g_aload_n (n := 115) rfl rfl ?_
                refine g_aload_n (n := 116) rfl rfl ?_
                refine g_getv (n := 119) (ci := 12) (j := 12) (v := (fOB (up d0 (34 + 10 * g + 4) (nI (u + k)))).1) ((if_neg (by omega)).trans h12) rfl (by decide +kernel) rfl (by decide) (by decide) ?_
                refine g_puti (n := 122) (ci := 12) (j := 16) rfl (by decide +kernel) rfl (by decide) (by decide) (by decide +kernel) rfl ?_
                try simp only [mR_125, mR_up, mR_w124, mR_r124, mR_w126, mR_r126, mR_w128, mR_r128, mR_w130, mR_r130, mR_w131, mR_r131, mR_w132, mR_r132, mR_w133, mR_r133, mR_w134, mR_r134, mR_w135, mR_r135]
                refine g_aload_n (n := 123) rfl rfl ?_
                refine g_aload_n (n := 124) rfl rfl ?_
                refine g_getv (n := 127) (ci := 12) (j := 13) (v := (fOB (up d0 (34 + 10 * g + 4) (nI (u + k)))).2) ((if_neg (by omega)).trans ((if_neg (by omega)).trans h13)) rfl (by decide +kernel) rfl (by decide) (by decide) ?_
                refine g_puti (n := 130) (ci := 12) (j := 17) rfl (by decide +kernel) rfl (by decide) (by decide) (by decide +kernel) rfl ?_
                try simp only [mR_125, mR_up, mR_w124, mR_r124, mR_w126, mR_r126, mR_w128, mR_r128, mR_w130, mR_r130, mR_w131, mR_r131, mR_w132, mR_r132, mR_w133, mR_r133, mR_w134, mR_r134, mR_w135, mR_r135]
                refine g_iinc3 (n := 133) rfl rfl (nI_inc _) ?_
                refine g_goto 19 rfl (by decide) ?_
                exact ih (k + 1) _ (nI (u + k), fOB (up d0 (34 + 10 * g + 4) (nI (u + k)))) _ (by omega) (mX_124 (mX_124 (mX_124 (hJ.trans hJ1.x) (by decide)) (by decide)) (by decide)) kB_set (by rw [← hf, nI_1]; rfl)
            ·
              refine g_aload_n (n := 69) rfl rfl ?_
              refine g_getv (n := 72) (ci := 12) (j := 12) (v := (fOB (up d0 (34 + 10 * g + 4) (nI (u + k)))).1) h12 rfl (by decide +kernel) rfl (by decide) (by decide) ?_
              refine g_aload_n (n := 73) rfl rfl ?_
              refine g_getv (n := 76) (ci := 12) (j := 16) (v := b.2.1) hb16.1 rfl (by decide +kernel) rfl (by decide) (by decide) ?_
              refine g_icne (n := 79) 94 rfl (by decide) (fun h7 => ?_) (fun h7 => ?_)
              ·
                refine g_iconst (n := 95) (v := 0) rfl rfl ?_
                refine g_istore4 (n := 97) rfl rfl ?_
                refine g_aload_n (n := 98) rfl rfl ?_
                refine g_getv (n := 101) (ci := 12) (j := 12) (v := (fOB (up d0 (34 + 10 * g + 4) (nI (u + k)))).1) h12 rfl (by decide +kernel) rfl (by decide) (by decide) ?_
                refine g_iflt (n := 104) 130 rfl (by decide) (fun h8 => ?_) (fun h8 => ?_)
                ·
                  rw [if_neg (fun q => absurd q.1 (Int32.not_le.mpr h8))] at hf
                  refine g_iinc3 (n := 133) rfl rfl (nI_inc _) ?_
                  refine g_goto 19 rfl (by decide) ?_
                  exact ih (k + 1) _ b _ (by omega) (hJ.trans hJ1.x) hb2 (by rw [← hf, nI_1]; rfl)
                ·
                  refine g_iload (n := 106) rfl rfl ?_
                  rw [if_neg (fun q => absurd q.2 (fun q => q.elim h3 (fun q => q.elim h5 (fun q => h7 q.1))))] at hf
                  refine g_ifeq0 (n := 109) 130 rfl (by decide) ?_
                  refine g_iinc3 (n := 133) rfl rfl (nI_inc _) ?_
                  refine g_goto 19 rfl (by decide) ?_
                  exact ih (k + 1) _ b _ (by omega) (hJ.trans hJ1.x) hb2 (by rw [← hf, nI_1]; rfl)
              ·
                refine g_aload_n (n := 80) rfl rfl ?_
                refine g_getv (n := 83) (ci := 12) (j := 13) (v := (fOB (up d0 (34 + 10 * g + 4) (nI (u + k)))).2) h13 rfl (by decide +kernel) rfl (by decide) (by decide) ?_
                refine g_aload_n (n := 84) rfl rfl ?_
                refine g_getv (n := 87) (ci := 12) (j := 17) (v := b.2.2) hb16.2 rfl (by decide +kernel) rfl (by decide) (by decide) ?_
                refine g_icge (n := 90) 94 rfl (by decide) (fun h9 => ?_) (fun h9 => ?_)
                ·
                  refine g_iconst (n := 95) (v := 0) rfl rfl ?_
                  refine g_istore4 (n := 97) rfl rfl ?_
                  refine g_aload_n (n := 98) rfl rfl ?_
                  refine g_getv (n := 101) (ci := 12) (j := 12) (v := (fOB (up d0 (34 + 10 * g + 4) (nI (u + k)))).1) h12 rfl (by decide +kernel) rfl (by decide) (by decide) ?_
                  refine g_iflt (n := 104) 130 rfl (by decide) (fun h10 => ?_) (fun h10 => ?_)
                  ·
                    rw [if_neg (fun q => absurd q.1 (Int32.not_le.mpr h10))] at hf
                    refine g_iinc3 (n := 133) rfl rfl (nI_inc _) ?_
                    refine g_goto 19 rfl (by decide) ?_
                    exact ih (k + 1) _ b _ (by omega) (hJ.trans hJ1.x) hb2 (by rw [← hf, nI_1]; rfl)
                  ·
                    refine g_iload (n := 106) rfl rfl ?_
                    rw [if_neg (fun q => absurd q.2 (fun q => q.elim h3 (fun q => q.elim h5 (fun q => Int32.not_lt.mpr h9 q.2))))] at hf
                    refine g_ifeq0 (n := 109) 130 rfl (by decide) ?_
                    refine g_iinc3 (n := 133) rfl rfl (nI_inc _) ?_
                    refine g_goto 19 rfl (by decide) ?_
                    exact ih (k + 1) _ b _ (by omega) (hJ.trans hJ1.x) hb2 (by rw [← hf, nI_1]; rfl)
                ·
                  refine g_iconst (n := 91) (v := 1) rfl rfl ?_
                  refine g_goto 95 rfl (by decide) ?_
                  refine g_istore4 (n := 97) rfl rfl ?_
                  refine g_aload_n (n := 98) rfl rfl ?_
                  refine g_getv (n := 101) (ci := 12) (j := 12) (v := (fOB (up d0 (34 + 10 * g + 4) (nI (u + k)))).1) h12 rfl (by decide +kernel) rfl (by decide) (by decide) ?_
                  refine g_iflt (n := 104) 130 rfl (by decide) (fun h11 => ?_) (fun h11 => ?_)
                  ·
                    rw [if_neg (fun q => absurd q.1 (Int32.not_le.mpr h11))] at hf
                    refine g_iinc3 (n := 133) rfl rfl (nI_inc _) ?_
                    refine g_goto 19 rfl (by decide) ?_
                    exact ih (k + 1) _ b _ (by omega) (hJ.trans hJ1.x) hb2 (by rw [← hf, nI_1]; rfl)
                  ·
                    refine g_iload (n := 106) rfl rfl ?_
                    rw [if_pos ⟨Int32.not_lt.mp h11, Or.inr (Or.inr ⟨h7, Int32.not_le.mp h9⟩)⟩] at hf
                    refine g_ifeq1 (n := 109) 130 rfl (by decide) ?_
                    refine g_aload_n (n := 110) rfl rfl ?_
                    refine g_iload_n (n := 111) rfl rfl ?_
                    refine g_puti (n := 114) (ci := 12) (j := 15) rfl (by decide +kernel) rfl (by decide) (by decide) (by decide +kernel) rfl ?_
                    try simp only [mR_125, mR_up, mR_w124, mR_r124, mR_w126, mR_r126, mR_w128, mR_r128, mR_w130, mR_r130, mR_w131, mR_r131, mR_w132, mR_r132, mR_w133, mR_r133, mR_w134, mR_r134, mR_w135, mR_r135]
                    refine g_aload_n (n := 115) rfl rfl ?_
                    refine g_aload_n (n := 116) rfl rfl ?_
                    refine g_getv (n := 119) (ci := 12) (j := 12) (v := (fOB (up d0 (34 + 10 * g + 4) (nI (u + k)))).1) ((if_neg (by omega)).trans h12) rfl (by decide +kernel) rfl (by decide) (by decide) ?_
                    refine g_puti (n := 122) (ci := 12) (j := 16) rfl (by decide +kernel) rfl (by decide) (by decide) (by decide +kernel) rfl ?_
                    try simp only [mR_125, mR_up, mR_w124, mR_r124, mR_w126, mR_r126, mR_w128, mR_r128, mR_w130, mR_r130, mR_w131, mR_r131, mR_w132, mR_r132, mR_w133, mR_r133, mR_w134, mR_r134, mR_w135, mR_r135]
                    refine g_aload_n (n := 123) rfl rfl ?_
                    refine g_aload_n (n := 124) rfl rfl ?_
                    refine g_getv (n := 127) (ci := 12) (j := 13) (v := (fOB (up d0 (34 + 10 * g + 4) (nI (u + k)))).2) ((if_neg (by omega)).trans ((if_neg (by omega)).trans h13)) rfl (by decide +kernel) rfl (by decide) (by decide) ?_
                    refine g_puti (n := 130) (ci := 12) (j := 17) rfl (by decide +kernel) rfl (by decide) (by decide) (by decide +kernel) rfl ?_
                    try simp only [mR_125, mR_up, mR_w124, mR_r124, mR_w126, mR_r126, mR_w128, mR_r128, mR_w130, mR_r130, mR_w131, mR_r131, mR_w132, mR_r132, mR_w133, mR_r133, mR_w134, mR_r134, mR_w135, mR_r135]
                    refine g_iinc3 (n := 133) rfl rfl (nI_inc _) ?_
                    refine g_goto 19 rfl (by decide) ?_
                    exact ih (k + 1) _ (nI (u + k), fOB (up d0 (34 + 10 * g + 4) (nI (u + k)))) _ (by omega) (mX_124 (mX_124 (mX_124 (hJ.trans hJ1.x) (by decide)) (by decide)) (by decide)) kB_set (by rw [← hf, nI_1]; rfl)
  have hh := H 60 0 (fO d0 g 4) (-1, 0, 0) (mf_up I 124 15 (-1)) (x4 := .null) (by omega) (mX_124 mX.rfl' (by decide)) ⟨if_pos ⟨rfl, rfl⟩, fun z => absurd z (by decide)⟩ (by unfold fBest; rw [hu]; rfl)
  rw [show up d0 (34 + 10 * g + 4) (fO d0 g 4) = d0 from up_self] at hh
  exact hh
theorem c_bestStart {sc : List Value} {nm : Nat} {I : mg_I} {d0 : Nat → Int32} {g w : Int32} (hw : gW d0) (hm1 : iR (d0 1) 10000) : SP sc 50 203 [.ref 124, .int g, .int w] (mR I d0) nm (qD I (oBest d0 g w) nm) := by
  refine SP.of (h := 49) (t := 203) (q := (yX12_bestStart, cX12_bestStart, 3, (some .int), 12, 1400, mi_k203)) rfl (by decide) (show ¬ (3 : Nat) < 3 by decide) (fun d hd => ?_)
  show GG sc 12 false false mi_k203 d 0 [.ref 124, .int g, .int w] [] (mR I d0) nm (qD I (oBest d0 g w) nm)
  have hN := hw.1.1
  unfold oBest
  refine g_aload_n (n := 1) rfl rfl ?_
  refine g_iload_n (n := 2) rfl rfl ?_
  refine g_cv1 (n := 5) (t := 143) (ci := 12) rfl (by decide +kernel) (by decide +kernel) (by decide) (by decide) (by decide +kernel) (by rfl) (c_isGoer (by assumption)) (by omega) (g_E ?_)
  try simp only [mR_125, mR_up, mR_w124, mR_r124, mR_w126, mR_r126, mR_w128, mR_r128, mR_w130, mR_r130, mR_w131, mR_r131, mR_w132, mR_r132, mR_w133, mR_r133, mR_w134, mR_r134, mR_w135, mR_r135]
  refine g_split (fun h1 => ?_) (fun h1 => ?_)
  ·
    refine g_ifeq1 (n := 8) 20 rfl (by decide) ?_
    rw [if_pos h1]
    refine g_iload_n (n := 9) rfl rfl ?_
    refine g_i2l (n := 10) rfl ?_
    refine g_lconst (n := 11) (v := 0) rfl rfl ?_
    refine g_ldc2 (n := 14) (v := 2) (pl := 1244) rfl (by decide +kernel) ?_
    refine g_cs3 (n := 17) (t := 141) (x := (1141, 1142, 84)) rfl (by decide +kernel) (by decide +kernel) (by rfl) (c_inI (a := 0) (b := 2) rfl rfl) (by omega) (g_E ?_)
    try simp only [mR_125, mR_up, mR_w124, mR_r124, mR_w126, mR_r126, mR_w128, mR_r128, mR_w130, mR_r130, mR_w131, mR_r131, mR_w132, mR_r132, mR_w133, mR_r133, mR_w134, mR_r134, mR_w135, mR_r135]
    refine g_split (fun h2 => ?_) (fun h2 => ?_)
    ·
      refine g_ifne1 (n := 20) 26 rfl (by decide) ?_
      rw [if_pos h2]
      obtain ⟨gg, hgg, rfl, hcg⟩ := iR_nI (x := g) (n := fN d0) ⟨by omega, by omega⟩
      have hg8 := (fN_eq hN).2
      rw [show cl (nI gg) = gg from hcg]
      refine g_aload_n (n := 27) rfl rfl ?_
      refine g_iload_n (n := 28) rfl rfl ?_
      refine g_iconst (n := 29) (v := 5) rfl rfl ?_
      refine g_cv2 (n := 32) (t := 145) (ci := 12) rfl (by decide +kernel) (by decide +kernel) (by decide) (by decide) (by decide +kernel) (by rfl) (c_of (g := gg) (w := 5) (by omega) (by omega)) (by omega) (g_E ?_)
      try simp only [mR_125, mR_up, mR_w124, mR_r124, mR_w126, mR_r126, mR_w128, mR_r128, mR_w130, mR_r130, mR_w131, mR_r131, mR_w132, mR_r132, mR_w133, mR_r133, mR_w134, mR_r134, mR_w135, mR_r135]
      refine g_ifeq (n := 35) 41 rfl (by decide) (fun h3 => ?_) (fun h3 => ?_)
      ·
        rw [if_pos h3]
        refine g_aload_n (n := 42) rfl rfl ?_
        refine g_iload_n (n := 43) rfl rfl ?_
        refine g_cv1 (n := 46) (t := 202) (ci := 12) rfl (by decide +kernel) (by decide +kernel) (by decide) (by decide) (by decide +kernel) (by rfl) (c_findBest (g := gg) hw (by omega) hm1) (by omega) (g_B fun J hJ hb => ?_)
        refine g_aload_n (n := 47) rfl rfl ?_
        refine g_getv (n := 50) (ci := 12) (j := 15) (v := (fBest d0 gg).1) hb.1 rfl (by decide +kernel) rfl (by decide) (by decide) ?_
        refine g_ifge (n := 53) 59 rfl (by decide) (fun h4 => ?_) (fun h4 => ?_)
        ·
          rw [if_pos h4]
          have hb16 := hb.2 h4
          refine g_iload_n (n := 60) rfl rfl ?_
          refine g_ifne (n := 63) 70 rfl (by decide) (fun h5 => ?_) (fun h5 => ?_)
          ·
            rw [if_neg h5]
            refine g_iload_n (n := 71) rfl rfl ?_
            refine g_iconst (n := 72) (v := 1) rfl rfl ?_
            refine g_icne (n := 75) 82 rfl (by decide) (fun h6 => ?_) (fun h6 => ?_)
            ·
              rw [if_neg h6]
              refine g_aload_n (n := 83) rfl rfl ?_
              refine g_getv (n := 86) (ci := 12) (j := 17) (v := (fBest d0 gg).2.2) hb16.2 rfl (by decide +kernel) rfl (by decide) (by decide) ?_
              refine g_iret (n := 87) rfl (fun h => nomatch h) ?_
              first | exact qD_v hJ | exact qD_e (by decide) mX.rfl' | exact qD_e (by decide) hJ
            ·
              rw [if_pos h6]
              refine g_aload_n (n := 76) rfl rfl ?_
              refine g_getv (n := 79) (ci := 12) (j := 16) (v := (fBest d0 gg).2.1) hb16.1 rfl (by decide +kernel) rfl (by decide) (by decide) ?_
              refine g_goto 86 rfl (by decide) ?_
              refine g_iret (n := 87) rfl (fun h => nomatch h) ?_
              first | exact qD_v hJ | exact qD_e (by decide) mX.rfl' | exact qD_e (by decide) hJ
          ·
            rw [if_pos h5]
            refine g_aload_n (n := 64) rfl rfl ?_
            refine g_getv (n := 67) (ci := 12) (j := 15) (v := (fBest d0 gg).1) hb.1 rfl (by decide +kernel) rfl (by decide) (by decide) ?_
            refine g_goto 86 rfl (by decide) ?_
            refine g_iret (n := 87) rfl (fun h => nomatch h) ?_
            first | exact qD_v hJ | exact qD_e (by decide) mX.rfl' | exact qD_e (by decide) hJ
        ·
          rw [if_neg h4]
          refine g_aload_n (n := 54) rfl rfl ?_
          refine g_iconst (n := 55) (v := 2) rfl rfl ?_
          refine g_cv1 (n := 58) (t := 140) (ci := 12) rfl (by decide +kernel) (by decide +kernel) (by decide) (by decide) (by decide +kernel) (by rfl) (c_finds (k := 2) (by omega)) (by omega) (g_E ?_)
          try simp only [mR_125, mR_up, mR_w124, mR_r124, mR_w126, mR_r126, mR_w128, mR_r128, mR_w130, mR_r130, mR_w131, mR_r131, mR_w132, mR_r132, mR_w133, mR_r133, mR_w134, mR_r134, mR_w135, mR_r135]
          refine g_iret (n := 59) rfl (fun h => nomatch h) ?_
          first | exact qD_v hJ | exact qD_e (by decide) mX.rfl' | exact qD_e (by decide) hJ
      ·
        rw [if_neg h3]
        refine g_aload_n (n := 36) rfl rfl ?_
        refine g_iconst (n := 37) (v := 3) rfl rfl ?_
        refine g_cv1 (n := 40) (t := 140) (ci := 12) rfl (by decide +kernel) (by decide +kernel) (by decide) (by decide) (by decide +kernel) (by rfl) (c_finds (k := 3) (by omega)) (by omega) (g_E ?_)
        try simp only [mR_125, mR_up, mR_w124, mR_r124, mR_w126, mR_r126, mR_w128, mR_r128, mR_w130, mR_r130, mR_w131, mR_r131, mR_w132, mR_r132, mR_w133, mR_r133, mR_w134, mR_r134, mR_w135, mR_r135]
        refine g_iret (n := 41) rfl (fun h => nomatch h) ?_
        first | exact qD_v hJ | exact qD_e (by decide) mX.rfl' | exact qD_e (by decide) hJ
    ·
      refine g_ifne0 (n := 20) 26 rfl (by decide) ?_
      rw [if_neg h2]
      refine g_aload_n (n := 21) rfl rfl ?_
      refine g_iconst (n := 22) (v := 1) rfl rfl ?_
      refine g_cv1 (n := 25) (t := 140) (ci := 12) rfl (by decide +kernel) (by decide +kernel) (by decide) (by decide) (by decide +kernel) (by rfl) (c_finds (k := 1) (by omega)) (by omega) (g_E ?_)
      try simp only [mR_125, mR_up, mR_w124, mR_r124, mR_w126, mR_r126, mR_w128, mR_r128, mR_w130, mR_r130, mR_w131, mR_r131, mR_w132, mR_r132, mR_w133, mR_r133, mR_w134, mR_r134, mR_w135, mR_r135]
      refine g_iret (n := 26) rfl (fun h => nomatch h) ?_
      first | exact qD_v hJ | exact qD_e (by decide) mX.rfl' | exact qD_e (by decide) hJ
  ·
    refine g_ifeq0 (n := 8) 20 rfl (by decide) ?_
    rw [if_neg h1]
    refine g_aload_n (n := 21) rfl rfl ?_
    refine g_iconst (n := 22) (v := 1) rfl rfl ?_
    refine g_cv1 (n := 25) (t := 140) (ci := 12) rfl (by decide +kernel) (by decide +kernel) (by decide) (by decide) (by decide +kernel) (by rfl) (c_finds (k := 1) (by omega)) (by omega) (g_E ?_)
    try simp only [mR_125, mR_up, mR_w124, mR_r124, mR_w126, mR_r126, mR_w128, mR_r128, mR_w130, mR_r130, mR_w131, mR_r131, mR_w132, mR_r132, mR_w133, mR_r133, mR_w134, mR_r134, mR_w135, mR_r135]
    refine g_iret (n := 26) rfl (fun h => nomatch h) ?_
    first | exact qD_v hJ | exact qD_e (by decide) mX.rfl' | exact qD_e (by decide) hJ
