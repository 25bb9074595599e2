/-! the model: what would be -/
theorem up_up {d : Nat → Int32} {j : Nat} {v w : Int32} : up (up d j v) j w = up d j w := by
  funext k
  unfold up
  split <;> rfl
theorem up_self {d : Nat → Int32} {j : Nat} : up d j (d j) = d := by
  funext k
  unfold up
  split
  next h => rw [h]
  · rfl
/-- an answer; the memory alike but for what findOver leaves -/
def qMF (v : Int32) (I : mg_I) (nm : Nat) : Option Value → mg_I → Nat → Prop := fun r I' nm' => r = some (.int v) ∧ mF I I' ∧ nm' = nm
theorem g_MF {sc : List Value} {own : Nat} {ini rz : Bool} {code : List (Nat × Instr)} {d n : Nat} {ls : List Value} {I : mg_I} {dd : Nat → Int32} {nm0 : Nat} {Q : Option Value → mg_I → Nat → Prop} {r : List Value} {v : Int32} (k : ∀ J, mF I J → GG sc own ini rz code d n ls (.int v :: r) (mR J dd) nm0 Q) : ∀ a I2 nm2, qMF v (mR I dd) nm0 a I2 nm2 → GG sc own ini rz code d n ls (a.toList ++ r) I2 nm2 Q := by
  rintro a I2 nm2 ⟨rfl, h2, rfl⟩
  obtain ⟨J, rfl, hJ⟩ := mF_mRi h2
  exact k J hJ
theorem c_overWith {sc : List Value} {nm : Nat} {I : mg_I} {d0 : Nat → Int32} {y : Nat} {v : Int32} (hw : gW d0) (hy : y < 24) : SP sc 48 206 [.ref 124, .int (nI y), .int v] (mR I d0) nm (qMF (fOB (up d0 (10 + y) v)).1 (mR I d0) nm) := by
  refine SP.of (h := 47) (t := 206) (q := (yX12_overWith, cX12_overWith, 4, (some .int), 12, 1420, mi_k206)) rfl (by decide) (show ¬ (4 : Nat) < 3 by decide) (fun d hd => ?_)
  show GG sc 12 false false mi_k206 d 0 [.ref 124, .int (nI y), .int v, .null] [] (mR I d0) nm (qMF (fOB (up d0 (10 + y) v)).1 (mR I d0) nm)
  refine g_aload_n (n := 1) rfl rfl ?_
  refine g_getr (n := 4) (ci := 12) (j := 0) (b := 125) rfl (by decide +kernel) (by decide) (by decide) (by decide +kernel) ?_
  refine g_bipush (n := 6) (v := 10) rfl rfl ?_
  refine g_iload_n (n := 7) rfl rfl ?_
  refine g_iaddN (n := 8) (x := 10) (y := y) rfl ?_
  refine g_iald (n := 9) ((10 + y)) rfl (by decide) rfl (by show _ < 286; omega) ?_
  try simp only [mR_125, mR_up, mR_w124, mR_r124, mR_w126, mR_r126, mR_w128, mR_r128, mR_w130, mR_r130, mR_w131, mR_r131, mR_w132, mR_r132, mR_w133, mR_r133, mR_w134, mR_r134, mR_w135, mR_r135]
  refine g_istore_n3 (n := 10) rfl rfl ?_
  refine g_aload_n (n := 11) rfl rfl ?_
  refine g_getr (n := 14) (ci := 12) (j := 0) (b := 125) rfl (by decide +kernel) (by decide) (by decide) (by decide +kernel) ?_
  refine g_bipush (n := 16) (v := 10) rfl rfl ?_
  refine g_iload_n (n := 17) rfl rfl ?_
  refine g_iaddN (n := 18) (x := 10) (y := y) rfl ?_
  refine g_iload_n (n := 19) rfl rfl ?_
  refine g_iast (n := 20) ((10 + y)) rfl (by decide) rfl (by show _ < 286; omega) ?_
  try simp only [mR_125, mR_up, mR_w124, mR_r124, mR_w126, mR_r126, mR_w128, mR_r128, mR_w130, mR_r130, mR_w131, mR_r131, mR_w132, mR_r132, mR_w133, mR_r133, mR_w134, mR_r134, mR_w135, mR_r135]
  refine g_aload_n (n := 21) rfl rfl ?_
  refine g_cv0 (n := 24) (t := 196) (ci := 12) rfl (by decide +kernel) (by decide +kernel) (by decide) (by decide) (by decide +kernel) (by rfl) (c_findOver (d0 := up d0 (10 + y) v) (gW_up hw (by omega))) (by omega) (g_F fun J1 hJ1 h12 h13 => ?_)
  refine g_aload_n (n := 25) rfl rfl ?_
  refine g_getr (n := 28) (ci := 12) (j := 0) (b := 125) rfl (by decide +kernel) (by decide) (by decide) (by decide +kernel) ?_
  refine g_bipush (n := 30) (v := 10) rfl rfl ?_
  refine g_iload_n (n := 31) rfl rfl ?_
  refine g_iaddN (n := 32) (x := 10) (y := y) rfl ?_
  refine g_iload_n (n := 33) rfl rfl ?_
  refine g_iast (n := 34) ((10 + y)) rfl (by decide) rfl (by show _ < 286; omega) ?_
  try simp only [mR_125, mR_up, mR_w124, mR_r124, mR_w126, mR_r126, mR_w128, mR_r128, mR_w130, mR_r130, mR_w131, mR_r131, mR_w132, mR_r132, mR_w133, mR_r133, mR_w134, mR_r134, mR_w135, mR_r135]
  rw [up_up, up_self]
  refine g_aload_n (n := 35) rfl rfl ?_
  refine g_getv (n := 38) (ci := 12) (j := 12) (v := (fOB (up d0 (10 + y) v)).1) h12 rfl (by decide +kernel) rfl (by decide) (by decide) ?_
  refine g_iret (n := 39) rfl (fun h => nomatch h) ?_
  exact ⟨rfl, mF_mR hJ1, rfl⟩
def fYd (d : Nat → Int32) (l : Int32) : Nat → Nat → Int32
  | 0, _ => -1
  | f + 1, y => if 1 < d (10 + y) ∧ fBefore d y = l then nI y else fYd d l f (y + 1)
def fYard (d : Nat → Int32) (l : Int32) : Int32 := fYd d l 24 0
def cN (p : Nat → Prop) [DecidablePred p] : Nat → Nat
  | 0 => 0
  | k + 1 => cN p k + (if p k then 1 else 0)
theorem cnt_N {p : Nat → Prop} [DecidablePred p] : ∀ k, cnt p k = nI (cN p k) ∧ cN p k ≤ k := by
  intro k
  induction k with
  | zero => exact ⟨rfl, Nat.le_refl 0⟩
  | succ k ih =>
    unfold cnt cN bI
    by_cases h : p k
    · rw [if_pos h, if_pos h, ih.1, nI_1]; exact ⟨rfl, by omega⟩
    · rw [if_neg h, if_neg h, ih.1]; exact ⟨by rw [show (0 : Int32) = nI 0 from rfl, nI_add], by omega⟩
theorem cN_mono {p : Nat → Prop} [DecidablePred p] {a b : Nat} (h : a ≤ b) : cN p a ≤ cN p b := by
  induction b with
  | zero => rw [show a = 0 by omega]; exact Nat.le_refl _
  | succ b ih =>
    by_cases e : a = b + 1
    · subst e; exact Nat.le_refl _
    · have := ih (by omega)
      rw [cN]
      omega
abbrev pL (d : Nat → Int32) (k : Nat) : Prop := 1 < d (10 + k)
def nL (d : Nat → Int32) (y : Nat) : Nat := cN (pL d) y
theorem fBefore_N {d : Nat → Int32} {y : Nat} : fBefore d y = nI (nL d y) := (cnt_N (p := pL d) y).1
theorem nL_le {d : Nat → Int32} {y : Nat} : nL d y ≤ y := (cnt_N (p := pL d) y).2
theorem nL_1 {d : Nat → Int32} {y : Nat} (h : 1 < d (10 + y)) : nL d (y + 1) = nL d y + 1 := by unfold nL; rw [cN, if_pos h]
theorem nL_0 {d : Nat → Int32} {y : Nat} (h : ¬ 1 < d (10 + y)) : nL d (y + 1) = nL d y := by unfold nL; rw [cN, if_neg h, Nat.add_zero]
theorem nL_mono {d : Nat → Int32} {a b : Nat} (h : a ≤ b) : nL d a ≤ nL d b := cN_mono h
theorem fYd_found {d : Nat → Int32} {l : Nat} (hl : l < nL d 24) : ∀ f y, y + f = 24 → nL d y ≤ l → ∃ z, z < 24 ∧ fYd d (nI l) f y = nI z ∧ 1 < d (10 + z) := by
  intro f
  induction f with
  | zero =>
    intro y hy h
    rw [show y = 24 by omega] at h
    omega
  | succ f ih =>
    intro y hy h
    rw [fYd]
    by_cases h1 : 1 < d (10 + y)
    · by_cases h2 : nL d y = l
      · rw [if_pos ⟨h1, by rw [fBefore_N, h2]⟩]; exact ⟨y, by omega, rfl, h1⟩
      · have e2 : ¬ fBefore d y = nI l := fun z => h2 ((nI_eq (by have := @nL_le d y; omega) (by have := @nL_le d 24; omega)).mp (fBefore_N.symm.trans z))
        rw [if_neg (fun z => e2 z.2)]
        exact ih (y + 1) (by omega) (by rw [nL_1 h1]; omega)
    · rw [if_neg (fun z => h1 z.1)]
      exact ih (y + 1) (by omega) (by rw [nL_0 h1]; omega)
theorem fYd_none {d : Nat → Int32} {l : Int32} (hl : ¬ (0 ≤ l.toInt ∧ l.toInt < (nL d 24 : Int))) : ∀ f y, y + f = 24 → fYd d l f y = -1 := by
  intro f
  induction f with
  | zero => intro y _; rfl
  | succ f ih =>
    intro y hy
    rw [fYd]
    rw [if_neg, ih (y + 1) (by omega)]
    rintro ⟨h1, h2⟩
    rw [fBefore_N] at h2
    have h3 := @nL_le d y
    have h4 := nL_1 h1
    have h5 : nL d (y + 1) ≤ nL d 24 := nL_mono (by omega)
    refine hl ?_
    rw [← h2, nI_toInt (by omega)]
    omega
def oWithout (d : Nat → Int32) (l : Int32) : rD :=
  if 0 ≤ (fYard d l).toInt ∧ (fYard d l).toInt ≤ 23 then
    (if fAt d (fYard d l) ≤ 1 then (if 0 ≤ (fOB (up d (10 + cl (fYard d l)) 1)).1 then (0, (fOB (up d (10 + cl (fYard d l)) 1)).1, d) else fE d 2) else fE d 3)
  else fE d 1
theorem c_without {sc : List Value} {nm : Nat} {I : mg_I} {d0 : Nat → Int32} {l : Int32} (hw : gW d0) : SP sc 49 207 [.ref 124, .int l] (mR I d0) nm (qD I (oWithout d0 l) nm) := by
  refine SP.of (h := 48) (t := 207) (q := (yX12_without, cX12_without, 4, (some .int), 12, 1416, mi_k207)) rfl (by decide) (show ¬ (4 : Nat) < 2 by decide) (fun d hd => ?_)
  show GG sc 12 false false mi_k207 d 0 [.ref 124, .int l, .null, .null] [] (mR I d0) nm (qD I (oWithout d0 l) nm)
  have hN := hw.1.1
  have hl24 : (fBefore d0 24 - 1).toInt = (nL d0 24 : Int) - 1 := by
    rw [fBefore_N]
    have h5 := @nL_le d0 24
    generalize nL d0 24 = q at h5
    rcases q with _ | q
    · decide
    · rw [nI_pred, nI_toInt (by omega)]; omega
  unfold oWithout
  refine g_iload_n (n := 1) rfl rfl ?_
  refine g_i2l (n := 2) rfl ?_
  refine g_lconst (n := 3) (v := 0) rfl rfl ?_
  refine g_aload_n (n := 4) rfl rfl ?_
  refine g_bipush (n := 6) (v := 24) rfl rfl ?_
  refine g_cv1 (n := 9) (t := 166) (ci := 12) rfl (by decide +kernel) (by decide +kernel) (by decide) (by decide) (by decide +kernel) (by rfl) (c_ledgesBefore (y := 24) (by omega)) (by omega) (g_E ?_)
  try simp only [mR_125, mR_up, mR_w124, mR_r124, mR_w126, mR_r126, mR_w128, mR_r128, mR_w130, mR_r130, mR_w131, mR_r131, mR_w132, mR_r132, mR_w133, mR_r133, mR_w134, mR_r134, mR_w135, mR_r135]
  refine g_iconst (n := 10) (v := 1) rfl rfl ?_
  refine g_isub (n := 11) rfl ?_
  refine g_i2l (n := 12) rfl ?_
  refine g_cs3 (n := 15) (t := 141) (x := (1141, 1142, 84)) rfl (by decide +kernel) (by decide +kernel) (by rfl) (c_inI (a := 0) (b := (nL d0 24 : Int) - 1) rfl (by rw [Int32.toInt_toInt64]; exact hl24)) (by omega) (g_E ?_)
  refine g_split (fun h1 => ?_) (fun h1 => ?_)
  ·
    refine g_ifne1 (n := 18) 24 rfl (by decide) ?_
    obtain ⟨ll, hll, rfl, _⟩ := iR_nI (x := l) (n := nL d0 24) ⟨by omega, by omega⟩
    obtain ⟨z, hz, hzf, hz1⟩ := fYd_found hll 24 0 (by omega) (by exact Nat.zero_le _)
    rw [show fYard d0 (nI ll) = nI z from hzf, if_pos ⟨by rw [nI_toInt (by omega)]; omega, by rw [nI_toInt (by omega)]; omega⟩, show cl (nI z) = z from nI_clamp (by omega)]
    refine g_iconst (n := 25) (v := 0) rfl rfl ?_
    refine g_istore_n2 (n := 26) rfl rfl ?_
    have H : ∀ (m k : Nat), k + m = 24 → nL d0 k ≤ ll → fYd d0 (nI ll) m k = nI z → GG sc 12 false false mi_k207 d 26 [.ref 124, .int (nI ll), .int (nI k), .null] [] (mR I d0) nm (qD I (if fAt d0 (nI z) ≤ 1 then if 0 ≤ (fOB (up d0 (10 + z) 1)).fst then (0, (fOB (up d0 (10 + z) 1)).fst, d0) else fE d0 2 else fE d0 3) nm) := by
      intro m
      induction m with
      | zero => intro k hk h1 hf; rw [show k = 24 by omega] at h1; omega
      | succ m ih =>
        intro k hk h1 hf
        have h4 := @nL_le d0 k
        have h5 := @nL_le d0 24
        refine g_aload_n (n := 27) rfl rfl ?_
        refine g_iload_n (n := 28) rfl rfl ?_
        refine g_cv1 (n := 31) (t := 164) (ci := 12) rfl (by decide +kernel) (by decide +kernel) (by decide) (by decide) (by decide +kernel) (by rfl) (c_isLedge (y := k) (by omega)) (by omega) (g_E ?_)
        try simp only [mR_125, mR_up, mR_w124, mR_r124, mR_w126, mR_r126, mR_w128, mR_r128, mR_w130, mR_r130, mR_w131, mR_r131, mR_w132, mR_r132, mR_w133, mR_r133, mR_w134, mR_r134, mR_w135, mR_r135]
        refine g_split (fun h1 => ?_) (fun h1 => ?_)
        ·
          refine g_ifeq1 (n := 34) 43 rfl (by decide) ?_
          have hnl := nL_1 h1
          have hl1 := h1
          refine g_aload_n (n := 35) rfl rfl ?_
          refine g_iload_n (n := 36) rfl rfl ?_
          refine g_cv1 (n := 39) (t := 166) (ci := 12) rfl (by decide +kernel) (by decide +kernel) (by decide) (by decide) (by decide +kernel) (by rfl) (c_ledgesBefore (y := k) (by omega)) (by omega) (g_E ?_)
          try simp only [mR_125, mR_up, mR_w124, mR_r124, mR_w126, mR_r126, mR_w128, mR_r128, mR_w130, mR_r130, mR_w131, mR_r131, mR_w132, mR_r132, mR_w133, mR_r133, mR_w134, mR_r134, mR_w135, mR_r135]
          refine g_iload_n (n := 40) rfl rfl ?_
          refine g_icge (n := 43) 49 rfl (by decide) (fun h2 => ?_) (fun h2 => ?_)
          ·
            rw [fBefore_N] at h2
            have hb := (nI_leI (by omega) (by omega)).mp h2
            rw [fYd, if_pos ⟨hl1, by rw [fBefore_N, show nL d0 k = ll by omega]⟩] at hf
            have hkz : k = z := (nI_eq (by omega) (by omega)).mp hf
            subst hkz
            refine g_aload_n (n := 50) rfl rfl ?_
            refine g_iload_n (n := 51) rfl rfl ?_
            refine g_cv1 (n := 54) (t := 165) (ci := 12) rfl (by decide +kernel) (by decide +kernel) (by decide) (by decide) (by decide +kernel) (by rfl) (c_atYard (by assumption)) (by omega) (g_E ?_)
            try simp only [mR_125, mR_up, mR_w124, mR_r124, mR_w126, mR_r126, mR_w128, mR_r128, mR_w130, mR_r130, mR_w131, mR_r131, mR_w132, mR_r132, mR_w133, mR_r133, mR_w134, mR_r134, mR_w135, mR_r135]
            refine g_iconst (n := 55) (v := 1) rfl rfl ?_
            refine g_icle (n := 58) 64 rfl (by decide) (fun h3 => ?_) (fun h3 => ?_)
            ·
              rw [if_pos h3]
              refine g_aload_n (n := 65) rfl rfl ?_
              refine g_iload_n (n := 66) rfl rfl ?_
              refine g_iconst (n := 67) (v := 1) rfl rfl ?_
              refine g_cv2 (n := 70) (t := 206) (ci := 12) rfl (by decide +kernel) (by decide +kernel) (by decide) (by decide) (by decide +kernel) (by rfl) (c_overWith (y := k) (v := 1) hw hz) (by omega) (g_MF fun J hJ => ?_)
              refine g_istore_n3 (n := 71) rfl rfl ?_
              refine g_iload_n (n := 72) rfl rfl ?_
              refine g_ifge (n := 75) 83 rfl (by decide) (fun h4 => ?_) (fun h4 => ?_)
              ·
                rw [if_pos h4]
                refine g_iload_n (n := 84) rfl rfl ?_
                refine g_iret (n := 85) rfl (fun h => nomatch h) ?_
                first | exact qD_v hJ.x | exact qD_e (by decide) mX.rfl' | exact qD_e (by decide) hJ.x
              ·
                rw [if_neg h4]
                refine g_aload_n (n := 76) rfl rfl ?_
                refine g_iconst (n := 77) (v := 2) rfl rfl ?_
                refine g_cv1 (n := 80) (t := 140) (ci := 12) rfl (by decide +kernel) (by decide +kernel) (by decide) (by decide) (by decide +kernel) (by rfl) (c_finds (k := 2) (by omega)) (by omega) (g_E ?_)
                try simp only [mR_125, mR_up, mR_w124, mR_r124, mR_w126, mR_r126, mR_w128, mR_r128, mR_w130, mR_r130, mR_w131, mR_r131, mR_w132, mR_r132, mR_w133, mR_r133, mR_w134, mR_r134, mR_w135, mR_r135]
                refine g_goto 84 rfl (by decide) ?_
                refine g_iret (n := 85) rfl (fun h => nomatch h) ?_
                first | exact qD_v hJ.x | exact qD_e (by decide) mX.rfl' | exact qD_e (by decide) hJ.x
            ·
              rw [if_neg h3]
              refine g_aload_n (n := 59) rfl rfl ?_
              refine g_iconst (n := 60) (v := 3) rfl rfl ?_
              refine g_cv1 (n := 63) (t := 140) (ci := 12) rfl (by decide +kernel) (by decide +kernel) (by decide) (by decide) (by decide +kernel) (by rfl) (c_finds (k := 3) (by omega)) (by omega) (g_E ?_)
              try simp only [mR_125, mR_up, mR_w124, mR_r124, mR_w126, mR_r126, mR_w128, mR_r128, mR_w130, mR_r130, mR_w131, mR_r131, mR_w132, mR_r132, mR_w133, mR_r133, mR_w134, mR_r134, mR_w135, mR_r135]
              refine g_iret (n := 64) rfl (fun h => nomatch h) ?_
              first | exact qD_v hJ.x | exact qD_e (by decide) mX.rfl' | exact qD_e (by decide) hJ.x
          ·
            rw [fBefore_N] at h2
            have hb : ¬ ll ≤ nL d0 k := fun q => h2 ((nI_leI (by omega) (by omega)).mpr q)
            rw [fYd, if_neg (fun q => hb (Nat.le_of_eq ((nI_eq (by omega) (by omega)).mp (q.2.symm.trans fBefore_N))))] at hf
            refine g_iinc2 (n := 46) rfl rfl (nI_inc _) ?_
            refine g_goto 26 rfl (by decide) ?_
            exact ih (k + 1) (by omega) (by omega) hf
        ·
          refine g_ifeq0 (n := 34) 43 rfl (by decide) ?_
          have hnl : nL d0 (k + 1) = nL d0 k := nL_0 h1
          rw [fYd, if_neg (fun q => h1 q.1)] at hf
          refine g_iinc2 (n := 46) rfl rfl (nI_inc _) ?_
          refine g_goto 26 rfl (by decide) ?_
          exact ih (k + 1) (by omega) (by omega) hf
    exact H 24 0 (by omega) (Nat.zero_le _) hzf
  ·
    refine g_ifne0 (n := 18) 24 rfl (by decide) ?_
    rw [if_neg (by rw [show fYard d0 l = -1 from fYd_none (by omega) 24 0 (by omega)]; decide)]
    refine g_aload_n (n := 19) rfl rfl ?_
    refine g_iconst (n := 20) (v := 1) rfl rfl ?_
    refine g_cv1 (n := 23) (t := 140) (ci := 12) rfl (by decide +kernel) (by decide +kernel) (by decide) (by decide) (by decide +kernel) (by rfl) (c_finds (k := 1) (by omega)) (by omega) (g_E ?_)
    try simp only [mR_125, mR_up, mR_w124, mR_r124, mR_w126, mR_r126, mR_w128, mR_r128, mR_w130, mR_r130, mR_w131, mR_r131, mR_w132, mR_r132, mR_w133, mR_r133, mR_w134, mR_r134, mR_w135, mR_r135]
    refine g_iret (n := 24) rfl (fun h => nomatch h) ?_
    exact qD_e (by decide) mX.rfl'
