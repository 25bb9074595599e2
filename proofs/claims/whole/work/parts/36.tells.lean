/-! the model: what is told, fed, kept -/
theorem pred_toInt {n : Nat} (h : n < 2 ^ 31) : (nI n - 1).toInt = (n : Int) - 1 := by
  rcases n with _ | n
  · decide
  · rw [nI_pred, nI_toInt (by omega)]; omega
theorem qS_e {I J : mg_I} {k nm : Nat} (h : mX (mf_up I 128 k (I 128 k + 1)) J) : qS (-1000000000 - nI k) (mf_up I 128 k (I 128 k + 1)) nm (some (.int (-1000000000 - nI k))) J nm := ⟨rfl, h, rfl⟩
def fBy (w : Int64) (k : Nat) : Int32 := ((w >>> ((nI (8 * k)).toInt64 &&& 63)) &&& 255).toInt32
def fFd (w : Int64) : Nat → Nat → Nat → (Nat → Int32) → Nat → Int32
  | 0, _, _, d => d
  | m + 1, k, s, d => fFd w m (k + 1) (s + 1) (up (up d (236 + s) (fBy w k)) 6 (nI (s + 1)))
def oFeed (d : Nat → Int32) (w : Int64) (n : Int32) : rD :=
  if 1 ≤ n.toInt ∧ n.toInt ≤ 8 then (if d 6 + n ≤ 50 then (0, nI (cl (d 6) + cl n), fFd w (cl n) 0 (cl (d 6)) d) else fE d 4) else fE d 1
theorem c_feed {sc : List Value} {nm : Nat} {I : mg_I} {d0 : Nat → Int32} {w : Int64} {n : Int32} (h6 : iR (d0 6) 51) : SP sc 2 160 [.ref 124, .long w, .int n] (mR I d0) nm (qD I (oFeed d0 w n) nm) := by
  refine SP.of (h := 1) (t := 160) (q := (yX12_feed, cX12_feed, 5, (some .int), 12, 1139, mi_k160)) rfl (by decide) (show ¬ (5 : Nat) < 4 by decide) (fun d hd => ?_)
  show GG sc 12 false false mi_k160 d 0 [.ref 124, .long w, .null, .int n, .null] [] (mR I d0) nm (qD I (oFeed d0 w n) nm)
  obtain ⟨u, hu1, hu, hcu⟩ := iR_nI h6
  unfold oFeed
  refine g_iload_n (n := 1) rfl rfl ?_
  refine g_i2l (n := 2) rfl ?_
  refine g_lconst (n := 3) (v := 1) rfl rfl ?_
  refine g_ldc2 (n := 6) (v := 8) (pl := 1140) rfl (by decide +kernel) ?_
  refine g_cs3 (n := 9) (t := 141) (x := (1141, 1142, 84)) rfl (by decide +kernel) (by decide +kernel) (by rfl) (c_inI (a := 1) (b := 8) rfl rfl) (by omega) (g_E ?_)
  try simp only [mR_125, mR_up, mR_w124, mR_r124, mR_w126, mR_r126, mR_w128, mR_r128, mR_w130, mR_r130, mR_w131, mR_r131, mR_w132, mR_r132, mR_w133, mR_r133, mR_w134, mR_r134, mR_w135, mR_r135]
  refine g_split (fun h1 => ?_) (fun h1 => ?_)
  ·
    refine g_ifne1 (n := 12) 18 rfl (by decide) ?_
    rw [if_pos h1]
    obtain ⟨nn, hnn, rfl, hcn⟩ := iR_nI (x := n) (n := 9) ⟨by omega, by omega⟩
    refine g_aload_n (n := 19) rfl rfl ?_
    refine g_getr (n := 22) (ci := 12) (j := 0) (b := 125) rfl (by decide +kernel) (by decide) (by decide) (by decide +kernel) ?_
    refine g_bipush (n := 24) (v := 6) rfl rfl ?_
    refine g_iald (n := 25) (6) rfl (by decide) rfl (by show _ < 286; omega) ?_
    try simp only [mR_125, mR_up, mR_w124, mR_r124, mR_w126, mR_r126, mR_w128, mR_r128, mR_w130, mR_r130, mR_w131, mR_r131, mR_w132, mR_r132, mR_w133, mR_r133, mR_w134, mR_r134, mR_w135, mR_r135]
    refine g_iload_n (n := 26) rfl rfl ?_
    refine g_iadd (n := 27) rfl ?_
    refine g_bipush (n := 29) (v := 50) rfl rfl ?_
    refine g_icle (n := 32) 38 rfl (by decide) (fun h2 => ?_) (fun h2 => ?_)
    ·
      rw [if_pos h2, show cl (nI nn) = nn from hcn, show cl (d0 6) = u from hcu]
      have hle : u + nn ≤ 50 := by rw [hu, nI_add] at h2; exact (nI_leI (b := 50) (by omega) (by omega)).mp h2
      refine g_iconst (n := 39) (v := 0) rfl rfl ?_
      refine g_istore4 (n := 41) rfl rfl ?_
      have H : ∀ (m k : Nat) (d1 : Nat → Int32), k + m = nn → d1 6 = nI (u + k) → fFd w m k (u + k) d1 = fFd w nn 0 u d0 → GG sc 12 false false mi_k160 d 41 [.ref 124, .long w, .null, .int (nI nn), .int (nI k)] [] (mR I d1) nm (qD I (0, nI (u + nn), fFd w nn 0 u d0) nm) := by
        intro m
        induction m with
        | zero =>
          intro k d1 hk h6 hf
          refine g_iload (n := 43) rfl rfl ?_
          refine g_iload_n (n := 44) rfl rfl ?_
          refine g_icge (n := 47) 92 rfl (by decide) (fun h1 => ?_) (fun h1 => ?_)
          ·
            refine g_aload_n (n := 93) rfl rfl ?_
            refine g_getr (n := 96) (ci := 12) (j := 0) (b := 125) rfl (by decide +kernel) (by decide) (by decide) (by decide +kernel) ?_
            refine g_bipush (n := 98) (v := 6) rfl rfl ?_
            refine g_iald (n := 99) (6) rfl (by decide) rfl (by show _ < 286; omega) ?_
            refine g_top (w := nI (u + k)) (by first | exact h6 | exact (up_ne (by omega)).trans h6) ?_
            refine g_iret (n := 100) rfl (fun h => nomatch h) ?_
            rw [show k = nn by omega, show d1 = fFd w nn 0 u d0 from hf]; exact qD_v mX.rfl'
          ·
            exact absurd (fN_nle (n := nn) rfl (by omega) (by omega) h1) (by omega)
        | succ m ih =>
          intro k d1 hk h6 hf
          refine g_iload (n := 43) rfl rfl ?_
          refine g_iload_n (n := 44) rfl rfl ?_
          refine g_icge (n := 47) 92 rfl (by decide) (fun h1 => ?_) (fun h1 => ?_)
          ·
            exact absurd (fN_le (n := nn) rfl (by omega) (by omega) h1) (by omega)
          ·
            refine g_aload_n (n := 48) rfl rfl ?_
            refine g_getr (n := 51) (ci := 12) (j := 0) (b := 125) rfl (by decide +kernel) (by decide) (by decide) (by decide +kernel) ?_
            refine g_sipush (n := 54) (v := 236) rfl rfl ?_
            refine g_aload_n (n := 55) rfl rfl ?_
            refine g_getr (n := 58) (ci := 12) (j := 0) (b := 125) rfl (by decide +kernel) (by decide) (by decide) (by decide +kernel) ?_
            refine g_bipush (n := 60) (v := 6) rfl rfl ?_
            refine g_iald (n := 61) (6) rfl (by decide) rfl (by show _ < 286; omega) ?_
            refine g_top (w := nI (u + k)) (by first | exact h6 | exact (up_ne (by omega)).trans h6) ?_
            refine g_iaddN (n := 62) (x := 236) (y := (u + k)) rfl ?_
            refine g_lload_n (n := 63) rfl rfl ?_
            refine g_bipush (n := 65) (v := 8) rfl rfl ?_
            refine g_iload (n := 67) rfl rfl ?_
            refine g_imulN (n := 68) (x := 8) (y := k) rfl ?_
            refine g_lshr (n := 69) rfl ?_
            refine g_ldc2 (n := 72) (v := 255) (pl := 1149) rfl (by decide +kernel) ?_
            refine g_land (n := 73) rfl ?_
            refine g_l2i (n := 74) rfl ?_
            refine g_iast (n := 75) ((236 + (u + k))) rfl (by decide) rfl (by show _ < 286; omega) ?_
            try simp only [mR_125, mR_up, mR_w124, mR_r124, mR_w126, mR_r126, mR_w128, mR_r128, mR_w130, mR_r130, mR_w131, mR_r131, mR_w132, mR_r132, mR_w133, mR_r133, mR_w134, mR_r134, mR_w135, mR_r135]
            refine g_aload_n (n := 76) rfl rfl ?_
            refine g_getr (n := 79) (ci := 12) (j := 0) (b := 125) rfl (by decide +kernel) (by decide) (by decide) (by decide +kernel) ?_
            refine g_bipush (n := 81) (v := 6) rfl rfl ?_
            refine g_dup2 (n := 82) rfl ?_
            refine g_iald (n := 83) (6) rfl (by decide) rfl (by show _ < 286; omega) ?_
            refine g_top (w := nI (u + k)) (by first | exact h6 | exact (up_ne (by omega)).trans h6) ?_
            refine g_iconst (n := 84) (v := 1) rfl rfl ?_
            refine g_iaddN (n := 85) (x := (u + k)) (y := 1) rfl ?_
            refine g_iast (n := 86) (6) rfl (by decide) rfl (by show _ < 286; omega) ?_
            try simp only [mR_125, mR_up, mR_w124, mR_r124, mR_w126, mR_r126, mR_w128, mR_r128, mR_w130, mR_r130, mR_w131, mR_r131, mR_w132, mR_r132, mR_w133, mR_r133, mR_w134, mR_r134, mR_w135, mR_r135]
            refine g_iinc4 (n := 89) rfl rfl (nI_inc _) ?_
            refine g_goto 41 rfl (by decide) ?_
            exact ih (k + 1) _ (by omega) up_at hf
      exact H nn 0 d0 (by omega) hu rfl
    ·
      rw [if_neg h2]
      refine g_aload_n (n := 33) rfl rfl ?_
      refine g_iconst (n := 34) (v := 4) rfl rfl ?_
      refine g_cv1 (n := 37) (t := 140) (ci := 12) rfl (by decide +kernel) (by decide +kernel) (by decide) (by decide) (by decide +kernel) (by rfl) (c_finds (k := 4) (by omega)) (by omega) (g_E ?_)
      try simp only [mR_125, mR_up, mR_w124, mR_r124, mR_w126, mR_r126, mR_w128, mR_r128, mR_w130, mR_r130, mR_w131, mR_r131, mR_w132, mR_r132, mR_w133, mR_r133, mR_w134, mR_r134, mR_w135, mR_r135]
      refine g_iret (n := 38) rfl (fun h => nomatch h) ?_
      exact qD_e (by decide) mX.rfl'
  ·
    refine g_ifne0 (n := 12) 18 rfl (by decide) ?_
    rw [if_neg h1]
    refine g_aload_n (n := 13) rfl rfl ?_
    refine g_iconst (n := 14) (v := 1) rfl rfl ?_
    refine g_cv1 (n := 17) (t := 140) (ci := 12) rfl (by decide +kernel) (by decide +kernel) (by decide) (by decide) (by decide +kernel) (by rfl) (c_finds (k := 1) (by omega)) (by omega) (g_E ?_)
    try simp only [mR_125, mR_up, mR_w124, mR_r124, mR_w126, mR_r126, mR_w128, mR_r128, mR_w130, mR_r130, mR_w131, mR_r131, mR_w132, mR_r132, mR_w133, mR_r133, mR_w134, mR_r134, mR_w135, mR_r135]
    refine g_iret (n := 18) rfl (fun h => nomatch h) ?_
    exact qD_e (by decide) mX.rfl'
def oLaw (d : Nat → Int32) (u a b c : Int32) : rD := if 0 ≤ u.toInt ∧ u.toInt ≤ 1 then (0, fText d (cl u) a b c, d) else fE d 1
def oFaults (d : Nat → Int32) : rD := (0, d 5, d)
def oSeed (d : Nat → Int32) (z : Int32) : rD := (0, d 4, up d 4 z)
def oTell (d : Nat → Int32) (x : Int32) : rD := if d 7 = 20 then fE d 4 else (0, nI (cl (d 7) + 1), up (up d (116 + cl (d 7)) x) 7 (nI (cl (d 7) + 1)))
theorem c_law {sc : List Value} {nm : Nat} {I : mg_I} {d0 : Nat → Int32} {u a b c : Int32} (hw : gW d0) : SP sc 43 163 [.ref 124, .int u, .int a, .int b, .int c] (mR I d0) nm (qD I (oLaw d0 u a b c) nm) := by
  refine SP.of (h := 42) (t := 163) (q := (yX12_law, cX12_law, 5, (some .int), 12, 1203, mi_k163)) rfl (by decide) (show ¬ (5 : Nat) < 5 by decide) (fun d hd => ?_)
  show GG sc 12 false false mi_k163 d 0 [.ref 124, .int u, .int a, .int b, .int c] [] (mR I d0) nm (qD I (oLaw d0 u a b c) nm)
  have hss : ∀ u, u < 2 → iR (d0 (114 + u)) 51 := by
    intro u hu
    obtain rfl | rfl : u = 0 ∨ u = 1 := by omega
    · exact hw.1.2.1
    · exact hw.1.2.2.1
  unfold oLaw
  refine g_iload_n (n := 1) rfl rfl ?_
  refine g_i2l (n := 2) rfl ?_
  refine g_lconst (n := 3) (v := 0) rfl rfl ?_
  refine g_lconst (n := 4) (v := 1) rfl rfl ?_
  refine g_cs3 (n := 7) (t := 141) (x := (1141, 1142, 84)) rfl (by decide +kernel) (by decide +kernel) (by rfl) (c_inI (a := 0) (b := 1) rfl rfl) (by omega) (g_E ?_)
  try simp only [mR_125, mR_up, mR_w124, mR_r124, mR_w126, mR_r126, mR_w128, mR_r128, mR_w130, mR_r130, mR_w131, mR_r131, mR_w132, mR_r132, mR_w133, mR_r133, mR_w134, mR_r134, mR_w135, mR_r135]
  refine g_split (fun h1 => ?_) (fun h1 => ?_)
  ·
    refine g_ifeq1 (n := 10) 22 rfl (by decide) ?_
    rw [if_pos h1]
    obtain ⟨uu, huu, rfl, hcu⟩ := iR_nI (x := u) (n := 2) ⟨by omega, by omega⟩
    rw [show cl (nI uu) = uu from hcu]
    refine g_aload_n (n := 11) rfl rfl ?_
    refine g_iload_n (n := 12) rfl rfl ?_
    refine g_iload_n (n := 13) rfl rfl ?_
    refine g_iload_n (n := 14) rfl rfl ?_
    refine g_iload (n := 16) rfl rfl ?_
    refine g_cv4 (n := 19) (t := 162) (ci := 12) rfl (by decide +kernel) (by decide +kernel) (by decide) (by decide) (by decide +kernel) (by rfl) (c_textGives (use := uu) (by omega) (by rw [mR_125]; exact hss uu huu)) (by omega) (g_M fun I1 he => ?_)
    obtain ⟨J1, rfl, hJ1⟩ := mR_mE he
    try simp only [mR_125, mR_up, mR_w124, mR_r124, mR_w126, mR_r126, mR_w128, mR_r128, mR_w130, mR_r130, mR_w131, mR_r131, mR_w132, mR_r132, mR_w133, mR_r133, mR_w134, mR_r134, mR_w135, mR_r135]
    refine g_goto 27 rfl (by decide) ?_
    refine g_iret (n := 28) rfl (fun h => nomatch h) ?_
    exact qD_v hJ1.x
  ·
    refine g_ifeq0 (n := 10) 22 rfl (by decide) ?_
    rw [if_neg h1]
    refine g_aload_n (n := 23) rfl rfl ?_
    refine g_iconst (n := 24) (v := 1) rfl rfl ?_
    refine g_cv1 (n := 27) (t := 140) (ci := 12) rfl (by decide +kernel) (by decide +kernel) (by decide) (by decide) (by decide +kernel) (by rfl) (c_finds (k := 1) (by omega)) (by omega) (g_E ?_)
    try simp only [mR_125, mR_up, mR_w124, mR_r124, mR_w126, mR_r126, mR_w128, mR_r128, mR_w130, mR_r130, mR_w131, mR_r131, mR_w132, mR_r132, mR_w133, mR_r133, mR_w134, mR_r134, mR_w135, mR_r135]
    refine g_iret (n := 28) rfl (fun h => nomatch h) ?_
    exact qD_e (by decide) mX.rfl'
theorem c_faults {sc : List Value} {nm : Nat} {I : mg_I} {d0 : Nat → Int32}  : SP sc 1 209 [.ref 124] (mR I d0) nm (qD I (oFaults d0) nm) := by
  refine SP.of (h := 0) (t := 209) (q := (yX12_faults, cX12_faults, 1, (some .int), 12, 1428, mi_k209)) rfl (by decide) (show ¬ (1 : Nat) < 1 by decide) (fun d hd => ?_)
  show GG sc 12 false false mi_k209 d 0 [.ref 124] [] (mR I d0) nm (qD I (oFaults d0) nm)
  refine g_aload_n (n := 1) rfl rfl ?_
  refine g_getr (n := 4) (ci := 12) (j := 0) (b := 125) rfl (by decide +kernel) (by decide) (by decide) (by decide +kernel) ?_
  refine g_iconst (n := 5) (v := 5) rfl rfl ?_
  refine g_iald (n := 6) (5) rfl (by decide) rfl (by show _ < 286; omega) ?_
  try simp only [mR_125, mR_up, mR_w124, mR_r124, mR_w126, mR_r126, mR_w128, mR_r128, mR_w130, mR_r130, mR_w131, mR_r131, mR_w132, mR_r132, mR_w133, mR_r133, mR_w134, mR_r134, mR_w135, mR_r135]
  refine g_iret (n := 7) rfl (fun h => nomatch h) ?_
  exact qD_v mX.rfl'
theorem c_seed {sc : List Value} {nm : Nat} {I : mg_I} {d0 : Nat → Int32} {z : Int32} : SP sc 1 210 [.ref 124, .int z] (mR I d0) nm (qD I (oSeed d0 z) nm) := by
  refine SP.of (h := 0) (t := 210) (q := (yX12_seed, cX12_seed, 3, (some .int), 12, 1432, mi_k210)) rfl (by decide) (show ¬ (3 : Nat) < 2 by decide) (fun d hd => ?_)
  show GG sc 12 false false mi_k210 d 0 [.ref 124, .int z, .null] [] (mR I d0) nm (qD I (oSeed d0 z) nm)
  refine g_aload_n (n := 1) rfl rfl ?_
  refine g_getr (n := 4) (ci := 12) (j := 0) (b := 125) rfl (by decide +kernel) (by decide) (by decide) (by decide +kernel) ?_
  refine g_iconst (n := 5) (v := 4) rfl rfl ?_
  refine g_iald (n := 6) (4) rfl (by decide) rfl (by show _ < 286; omega) ?_
  try simp only [mR_125, mR_up, mR_w124, mR_r124, mR_w126, mR_r126, mR_w128, mR_r128, mR_w130, mR_r130, mR_w131, mR_r131, mR_w132, mR_r132, mR_w133, mR_r133, mR_w134, mR_r134, mR_w135, mR_r135]
  refine g_istore_n2 (n := 7) rfl rfl ?_
  refine g_aload_n (n := 8) rfl rfl ?_
  refine g_getr (n := 11) (ci := 12) (j := 0) (b := 125) rfl (by decide +kernel) (by decide) (by decide) (by decide +kernel) ?_
  refine g_iconst (n := 12) (v := 4) rfl rfl ?_
  refine g_iload_n (n := 13) rfl rfl ?_
  refine g_iast (n := 14) (4) rfl (by decide) rfl (by show _ < 286; omega) ?_
  try simp only [mR_125, mR_up, mR_w124, mR_r124, mR_w126, mR_r126, mR_w128, mR_r128, mR_w130, mR_r130, mR_w131, mR_r131, mR_w132, mR_r132, mR_w133, mR_r133, mR_w134, mR_r134, mR_w135, mR_r135]
  refine g_iload_n (n := 15) rfl rfl ?_
  refine g_iret (n := 16) rfl (fun h => nomatch h) ?_
  exact qD_v mX.rfl'
theorem c_tell {sc : List Value} {nm : Nat} {I : mg_I} {d0 : Nat → Int32} {x : Int32} (h7 : iR (d0 7) 21) : SP sc 2 227 [.ref 124, .int x] (mR I d0) nm (qD I (oTell d0 x) nm) := by
  refine SP.of (h := 1) (t := 227) (q := (yX12_tell, cX12_tell, 2, (some .int), 12, 1500, mi_k227)) rfl (by decide) (show ¬ (2 : Nat) < 2 by decide) (fun d hd => ?_)
  show GG sc 12 false false mi_k227 d 0 [.ref 124, .int x] [] (mR I d0) nm (qD I (oTell d0 x) nm)
  obtain ⟨u, hu1, hu, hcu⟩ := iR_nI h7
  unfold oTell
  refine g_aload_n (n := 1) rfl rfl ?_
  refine g_getr (n := 4) (ci := 12) (j := 0) (b := 125) rfl (by decide +kernel) (by decide) (by decide) (by decide +kernel) ?_
  refine g_bipush (n := 6) (v := 7) rfl rfl ?_
  refine g_iald (n := 7) (7) rfl (by decide) rfl (by show _ < 286; omega) ?_
  try simp only [mR_125, mR_up, mR_w124, mR_r124, mR_w126, mR_r126, mR_w128, mR_r128, mR_w130, mR_r130, mR_w131, mR_r131, mR_w132, mR_r132, mR_w133, mR_r133, mR_w134, mR_r134, mR_w135, mR_r135]
  refine g_bipush (n := 9) (v := 20) rfl rfl ?_
  refine g_icne (n := 12) 18 rfl (by decide) (fun h1 => ?_) (fun h1 => ?_)
  ·
    rw [if_neg h1, show cl (d0 7) = u from hcu]
    have hu20 : u < 20 := Nat.lt_of_le_of_ne (by omega) (fun q => h1 (by rw [hu, q]; rfl))
    refine g_aload_n (n := 19) rfl rfl ?_
    refine g_getr (n := 22) (ci := 12) (j := 0) (b := 125) rfl (by decide +kernel) (by decide) (by decide) (by decide +kernel) ?_
    refine g_bipush (n := 24) (v := 116) rfl rfl ?_
    refine g_aload_n (n := 25) rfl rfl ?_
    refine g_getr (n := 28) (ci := 12) (j := 0) (b := 125) rfl (by decide +kernel) (by decide) (by decide) (by decide +kernel) ?_
    refine g_bipush (n := 30) (v := 7) rfl rfl ?_
    refine g_iald (n := 31) (7) rfl (by decide) rfl (by show _ < 286; omega) ?_
    refine g_top (w := nI u) (by first | exact hu | exact (up_ne (by omega)).trans hu) ?_
    refine g_iaddN (n := 32) (x := 116) (y := u) rfl ?_
    refine g_iload_n (n := 33) rfl rfl ?_
    refine g_iast (n := 34) ((116 + u)) rfl (by decide) rfl (by show _ < 286; omega) ?_
    try simp only [mR_125, mR_up, mR_w124, mR_r124, mR_w126, mR_r126, mR_w128, mR_r128, mR_w130, mR_r130, mR_w131, mR_r131, mR_w132, mR_r132, mR_w133, mR_r133, mR_w134, mR_r134, mR_w135, mR_r135]
    refine g_aload_n (n := 35) rfl rfl ?_
    refine g_getr (n := 38) (ci := 12) (j := 0) (b := 125) rfl (by decide +kernel) (by decide) (by decide) (by decide +kernel) ?_
    refine g_bipush (n := 40) (v := 7) rfl rfl ?_
    refine g_dup2 (n := 41) rfl ?_
    refine g_iald (n := 42) (7) rfl (by decide) rfl (by show _ < 286; omega) ?_
    refine g_top (w := nI u) (by first | exact hu | exact (up_ne (by omega)).trans hu) ?_
    refine g_iconst (n := 43) (v := 1) rfl rfl ?_
    refine g_iaddN (n := 44) (x := u) (y := 1) rfl ?_
    refine g_iast (n := 45) (7) rfl (by decide) rfl (by show _ < 286; omega) ?_
    try simp only [mR_125, mR_up, mR_w124, mR_r124, mR_w126, mR_r126, mR_w128, mR_r128, mR_w130, mR_r130, mR_w131, mR_r131, mR_w132, mR_r132, mR_w133, mR_r133, mR_w134, mR_r134, mR_w135, mR_r135]
    refine g_aload_n (n := 46) rfl rfl ?_
    refine g_getr (n := 49) (ci := 12) (j := 0) (b := 125) rfl (by decide +kernel) (by decide) (by decide) (by decide +kernel) ?_
    refine g_bipush (n := 51) (v := 7) rfl rfl ?_
    refine g_iald (n := 52) (7) rfl (by decide) rfl (by show _ < 286; omega) ?_
    try simp only [mR_125, mR_up, mR_w124, mR_r124, mR_w126, mR_r126, mR_w128, mR_r128, mR_w130, mR_r130, mR_w131, mR_r131, mR_w132, mR_r132, mR_w133, mR_r133, mR_w134, mR_r134, mR_w135, mR_r135]
    refine g_iret (n := 53) rfl (fun h => nomatch h) ?_
    exact qD_v mX.rfl'
  ·
    rw [if_pos h1]
    refine g_aload_n (n := 13) rfl rfl ?_
    refine g_iconst (n := 14) (v := 4) rfl rfl ?_
    refine g_cv1 (n := 17) (t := 140) (ci := 12) rfl (by decide +kernel) (by decide +kernel) (by decide) (by decide) (by decide +kernel) (by rfl) (c_finds (k := 4) (by omega)) (by omega) (g_E ?_)
    try simp only [mR_125, mR_up, mR_w124, mR_r124, mR_w126, mR_r126, mR_w128, mR_r128, mR_w130, mR_r130, mR_w131, mR_r131, mR_w132, mR_r132, mR_w133, mR_r133, mR_w134, mR_r134, mR_w135, mR_r135]
    refine g_iret (n := 18) rfl (fun h => nomatch h) ?_
    exact qD_e (by decide) mX.rfl'
def vTold (I : mg_I) (k : Int32) : Int32 := if 1 ≤ k.toInt ∧ k.toInt ≤ 5 then I 128 (cl k) else -1000000000 - nI 1
def jTold (I : mg_I) (k : Int32) : mg_I := if 1 ≤ k.toInt ∧ k.toInt ≤ 5 then I else mf_up I 128 1 (I 128 1 + 1)
def vTr (I : mg_I) (k : Int32) : Int32 := if 0 ≤ k.toInt ∧ k.toInt < (cl (I 124 19) : Int) then I 131 (cl k) else -1000000000 - nI 2
def jTr (I : mg_I) (k : Int32) : mg_I := if 0 ≤ k.toInt ∧ k.toInt < (cl (I 124 19) : Int) then I else mf_up I 128 2 (I 128 2 + 1)
theorem c_told {sc : List Value} {nm : Nat} {I : mg_I} {k : Int32} : SP sc 2 230 [.ref 124, .int k] I nm (qS (vTold I k) (jTold I k) nm) := by
  refine SP.of (h := 1) (t := 230) (q := (yX12_told, cX12_told, 2, (some .int), 12, 1512, mi_k230)) rfl (by decide) (show ¬ (2 : Nat) < 2 by decide) (fun d hd => ?_)
  show GG sc 12 false false mi_k230 d 0 [.ref 124, .int k] [] I nm (qS (vTold I k) (jTold I k) nm)
  unfold vTold jTold
  refine g_iload_n (n := 1) rfl rfl ?_
  refine g_i2l (n := 2) rfl ?_
  refine g_lconst (n := 3) (v := 1) rfl rfl ?_
  refine g_ldc2 (n := 6) (v := 5) (pl := 1223) rfl (by decide +kernel) ?_
  refine g_cs3 (n := 9) (t := 141) (x := (1141, 1142, 84)) rfl (by decide +kernel) (by decide +kernel) (by rfl) (c_inI (a := 1) (b := 5) rfl rfl) (by omega) (g_E ?_)
  refine g_split (fun h1 => ?_) (fun h1 => ?_)
  ·
    refine g_ifeq1 (n := 12) 21 rfl (by decide) ?_
    rw [if_pos h1, if_pos h1]
    obtain ⟨kk, hkk, rfl, hck⟩ := iR_nI (x := k) (n := 6) ⟨by omega, by omega⟩
    rw [show cl (nI kk) = kk from hck]
    refine g_aload_n (n := 13) rfl rfl ?_
    refine g_getr (n := 16) (ci := 12) (j := 4) (b := 128) rfl (by decide +kernel) (by decide) (by decide) (by decide +kernel) ?_
    refine g_iload_n (n := 17) rfl rfl ?_
    refine g_iald (n := 18) (kk) rfl (by decide) rfl (by show _ < 6; omega) ?_
    refine g_goto 26 rfl (by decide) ?_
    refine g_iret (n := 27) rfl (fun h => nomatch h) ?_
    exact ⟨rfl, mX.rfl', rfl⟩
  ·
    refine g_ifeq0 (n := 12) 21 rfl (by decide) ?_
    rw [if_neg h1, if_neg h1]
    refine g_aload_n (n := 22) rfl rfl ?_
    refine g_iconst (n := 23) (v := 1) rfl rfl ?_
    refine g_cv1 (n := 26) (t := 140) (ci := 12) rfl (by decide +kernel) (by decide +kernel) (by decide) (by decide) (by decide +kernel) (by rfl) (c_finds (k := 1) (by omega)) (by omega) (g_E ?_)
    refine g_iret (n := 27) rfl (fun h => nomatch h) ?_
    exact ⟨rfl, mX.rfl', rfl⟩
theorem c_trace {sc : List Value} {nm : Nat} {I : mg_I} {k : Int32} (h19 : iR (I 124 19) 41) : SP sc 2 218 [.ref 124, .int k] I nm (qS (vTr I k) (jTr I k) nm) := by
  refine SP.of (h := 1) (t := 218) (q := (yX12_trace, cX12_trace, 2, (some .int), 12, 1465, mi_k218)) rfl (by decide) (show ¬ (2 : Nat) < 2 by decide) (fun d hd => ?_)
  show GG sc 12 false false mi_k218 d 0 [.ref 124, .int k] [] I nm (qS (vTr I k) (jTr I k) nm)
  obtain ⟨u, hu1, hu, hcu⟩ := iR_nI h19
  unfold vTr jTr
  rw [show cl (I 124 19) = u from hcu]
  refine g_iload_n (n := 1) rfl rfl ?_
  refine g_i2l (n := 2) rfl ?_
  refine g_lconst (n := 3) (v := 0) rfl rfl ?_
  refine g_aload_n (n := 4) rfl rfl ?_
  refine g_geti (n := 7) (ci := 12) (j := 19) rfl (by decide +kernel) rfl (by decide) (by decide) ?_
  refine g_iconst (n := 8) (v := 1) rfl rfl ?_
  refine g_isub (n := 9) rfl ?_
  refine g_i2l (n := 10) rfl ?_
  refine g_cs3 (n := 13) (t := 141) (x := (1141, 1142, 84)) rfl (by decide +kernel) (by decide +kernel) (by rfl) (c_inI (a := 0) (b := (u : Int) - 1) rfl (by rw [Int32.toInt_toInt64, hu]; exact pred_toInt (by omega))) (by omega) (g_E ?_)
  refine g_split (fun h1 => ?_) (fun h1 => ?_)
  ·
    refine g_ifeq1 (n := 16) 25 rfl (by decide) ?_
    rw [if_pos (by omega), if_pos (by omega)]
    obtain ⟨kk, hkk, rfl, hck⟩ := iR_nI (x := k) (n := u) ⟨by omega, by omega⟩
    rw [show cl (nI kk) = kk from hck]
    refine g_aload_n (n := 17) rfl rfl ?_
    refine g_getr (n := 20) (ci := 12) (j := 18) (b := 131) rfl (by decide +kernel) (by decide) (by decide) (by decide +kernel) ?_
    refine g_iload_n (n := 21) rfl rfl ?_
    refine g_iald (n := 22) (kk) rfl (by decide) rfl (by show _ < 40; omega) ?_
    refine g_goto 30 rfl (by decide) ?_
    refine g_iret (n := 31) rfl (fun h => nomatch h) ?_
    exact ⟨rfl, mX.rfl', rfl⟩
  ·
    refine g_ifeq0 (n := 16) 25 rfl (by decide) ?_
    rw [if_neg (by omega), if_neg (by omega)]
    refine g_aload_n (n := 26) rfl rfl ?_
    refine g_iconst (n := 27) (v := 2) rfl rfl ?_
    refine g_cv1 (n := 30) (t := 140) (ci := 12) rfl (by decide +kernel) (by decide +kernel) (by decide) (by decide) (by decide +kernel) (by rfl) (c_finds (k := 2) (by omega)) (by omega) (g_E ?_)
    refine g_iret (n := 31) rfl (fun h => nomatch h) ?_
    exact ⟨rfl, mX.rfl', rfl⟩
theorem sw11 {x : Int32} (h : iR x 11) : x = 0 ∨ x = 1 ∨ x = 2 ∨ x = 3 ∨ x = 4 ∨ x = 5 ∨ x = 6 ∨ x = 7 ∨ x = 8 ∨ x = 9 ∨ x = 10 := by
  obtain ⟨k, hk, rfl, _⟩ := iR_nI h
  exact (show ∀ k, k < 11 → (nI k = 0 ∨ nI k = 1 ∨ nI k = 2 ∨ nI k = 3 ∨ nI k = 4 ∨ nI k = 5 ∨ nI k = 6 ∨ nI k = 7 ∨ nI k = 8 ∨ nI k = 9 ∨ nI k = 10) by decide +kernel) k hk
def vCt (I : mg_I) (w : Int32) : Int32 :=
  if w = 0 then I 125 0 else if w = 1 then fBefore (I 125) 24 else if w = 2 then I 125 1 else if w = 3 then fMany (I 125) 1 else if w = 4 then fMany (I 125) 2 else if w = 5 then I 125 2 else if w = 6 then I 125 3 else if w = 7 then I 125 6 else if w = 8 then I 125 7 else if w = 9 then I 124 19 else if w = 10 then I 125 4 else -1000000000 - nI 1
def jCt (I : mg_I) (w : Int32) : mg_I := if 0 ≤ w.toInt ∧ w.toInt ≤ 10 then I else mf_up I 128 1 (I 128 1 + 1)
theorem vCt_0 {I : mg_I} : vCt I 0 = I 125 0 := by unfold vCt; rw [if_pos rfl]
theorem vCt_1 {I : mg_I} : vCt I 1 = fBefore (I 125) 24 := by unfold vCt; rw [if_neg (by decide), if_pos rfl]
theorem vCt_2 {I : mg_I} : vCt I 2 = I 125 1 := by unfold vCt; rw [if_neg (by decide), if_neg (by decide), if_pos rfl]
theorem vCt_3 {I : mg_I} : vCt I 3 = fMany (I 125) 1 := by unfold vCt; rw [if_neg (by decide), if_neg (by decide), if_neg (by decide), if_pos rfl]
theorem vCt_4 {I : mg_I} : vCt I 4 = fMany (I 125) 2 := by unfold vCt; rw [if_neg (by decide), if_neg (by decide), if_neg (by decide), if_neg (by decide), if_pos rfl]
theorem vCt_5 {I : mg_I} : vCt I 5 = I 125 2 := by unfold vCt; rw [if_neg (by decide), if_neg (by decide), if_neg (by decide), if_neg (by decide), if_neg (by decide), if_pos rfl]
theorem vCt_6 {I : mg_I} : vCt I 6 = I 125 3 := by unfold vCt; rw [if_neg (by decide), if_neg (by decide), if_neg (by decide), if_neg (by decide), if_neg (by decide), if_neg (by decide), if_pos rfl]
theorem vCt_7 {I : mg_I} : vCt I 7 = I 125 6 := by unfold vCt; rw [if_neg (by decide), if_neg (by decide), if_neg (by decide), if_neg (by decide), if_neg (by decide), if_neg (by decide), if_neg (by decide), if_pos rfl]
theorem vCt_8 {I : mg_I} : vCt I 8 = I 125 7 := by unfold vCt; rw [if_neg (by decide), if_neg (by decide), if_neg (by decide), if_neg (by decide), if_neg (by decide), if_neg (by decide), if_neg (by decide), if_neg (by decide), if_pos rfl]
theorem vCt_9 {I : mg_I} : vCt I 9 = I 124 19 := by unfold vCt; rw [if_neg (by decide), if_neg (by decide), if_neg (by decide), if_neg (by decide), if_neg (by decide), if_neg (by decide), if_neg (by decide), if_neg (by decide), if_neg (by decide), if_pos rfl]
theorem vCt_10 {I : mg_I} : vCt I 10 = I 125 4 := by unfold vCt; rw [if_neg (by decide), if_neg (by decide), if_neg (by decide), if_neg (by decide), if_neg (by decide), if_neg (by decide), if_neg (by decide), if_neg (by decide), if_neg (by decide), if_neg (by decide), if_pos rfl]
theorem vCt_e {I : mg_I} {w : Int32} (h : ¬ (0 ≤ w.toInt ∧ w.toInt ≤ 10)) : vCt I w = -1000000000 - nI 1 := by
  unfold vCt
  rw [if_neg (fun q => h (by rw [q]; decide)), if_neg (fun q => h (by rw [q]; decide)), if_neg (fun q => h (by rw [q]; decide)), if_neg (fun q => h (by rw [q]; decide)), if_neg (fun q => h (by rw [q]; decide)), if_neg (fun q => h (by rw [q]; decide)), if_neg (fun q => h (by rw [q]; decide)), if_neg (fun q => h (by rw [q]; decide)), if_neg (fun q => h (by rw [q]; decide)), if_neg (fun q => h (by rw [q]; decide)), if_neg (fun q => h (by rw [q]; decide))]
theorem c_count {sc : List Value} {nm : Nat} {I : mg_I} {w : Int32} (hN : iR (I 125 0) 9) : SP sc 4 229 [.ref 124, .int w] I nm (qS (vCt I w) (jCt I w) nm) := by
  refine SP.of (h := 3) (t := 229) (q := (yX12_count, cX12_count, 2, (some .int), 12, 1508, mi_k229)) rfl (by decide) (show ¬ (2 : Nat) < 2 by decide) (fun d hd => ?_)
  show GG sc 12 false false mi_k229 d 0 [.ref 124, .int w] [] I nm (qS (vCt I w) (jCt I w) nm)
  by_cases h : 0 ≤ w.toInt ∧ w.toInt ≤ 10
  · unfold jCt
    rw [if_pos h]
    refine g_iload_n (n := 1) rfl rfl ?_
    rcases sw11 ⟨h.1, by omega⟩ with rfl | rfl | rfl | rfl | rfl | rfl | rfl | rfl | rfl | rfl | rfl
    · rw [vCt_0]
      refine g_tab 60 rfl (by decide) (by decide) rfl (by decide) ?_
      refine g_aload_n (n := 61) rfl rfl ?_
      refine g_getr (n := 64) (ci := 12) (j := 0) (b := 125) rfl (by decide +kernel) (by decide) (by decide) (by decide +kernel) ?_
      refine g_iconst (n := 65) (v := 0) rfl rfl ?_
      refine g_iald (n := 66) (0) rfl (by decide) rfl (by show _ < 286; omega) ?_
      refine g_iret (n := 67) rfl (fun h => nomatch h) ?_
      exact ⟨rfl, mX.rfl', rfl⟩
    · rw [vCt_1]
      refine g_tab 67 rfl (by decide) (by decide) rfl (by decide) ?_
      refine g_aload_n (n := 68) rfl rfl ?_
      refine g_bipush (n := 70) (v := 24) rfl rfl ?_
      refine g_cv1 (n := 73) (t := 166) (ci := 12) rfl (by decide +kernel) (by decide +kernel) (by decide) (by decide) (by decide +kernel) (by rfl) (c_ledgesBefore (y := 24) (by omega)) (by omega) (g_E ?_)
      refine g_iret (n := 74) rfl (fun h => nomatch h) ?_
      exact ⟨rfl, mX.rfl', rfl⟩
    · rw [vCt_2]
      refine g_tab 74 rfl (by decide) (by decide) rfl (by decide) ?_
      refine g_aload_n (n := 75) rfl rfl ?_
      refine g_getr (n := 78) (ci := 12) (j := 0) (b := 125) rfl (by decide +kernel) (by decide) (by decide) (by decide +kernel) ?_
      refine g_iconst (n := 79) (v := 1) rfl rfl ?_
      refine g_iald (n := 80) (1) rfl (by decide) rfl (by show _ < 286; omega) ?_
      refine g_iret (n := 81) rfl (fun h => nomatch h) ?_
      exact ⟨rfl, mX.rfl', rfl⟩
    · rw [vCt_3]
      refine g_tab 81 rfl (by decide) (by decide) rfl (by decide) ?_
      refine g_aload_n (n := 82) rfl rfl ?_
      refine g_iconst (n := 83) (v := 1) rfl rfl ?_
      refine g_cv1 (n := 86) (t := 190) (ci := 12) rfl (by decide +kernel) (by decide +kernel) (by decide) (by decide) (by decide +kernel) (by rfl) (c_howMany (by assumption)) (by omega) (g_E ?_)
      refine g_iret (n := 87) rfl (fun h => nomatch h) ?_
      exact ⟨rfl, mX.rfl', rfl⟩
    · rw [vCt_4]
      refine g_tab 87 rfl (by decide) (by decide) rfl (by decide) ?_
      refine g_aload_n (n := 88) rfl rfl ?_
      refine g_iconst (n := 89) (v := 2) rfl rfl ?_
      refine g_cv1 (n := 92) (t := 190) (ci := 12) rfl (by decide +kernel) (by decide +kernel) (by decide) (by decide) (by decide +kernel) (by rfl) (c_howMany (by assumption)) (by omega) (g_E ?_)
      refine g_iret (n := 93) rfl (fun h => nomatch h) ?_
      exact ⟨rfl, mX.rfl', rfl⟩
    · rw [vCt_5]
      refine g_tab 93 rfl (by decide) (by decide) rfl (by decide) ?_
      refine g_aload_n (n := 94) rfl rfl ?_
      refine g_getr (n := 97) (ci := 12) (j := 0) (b := 125) rfl (by decide +kernel) (by decide) (by decide) (by decide +kernel) ?_
      refine g_iconst (n := 98) (v := 2) rfl rfl ?_
      refine g_iald (n := 99) (2) rfl (by decide) rfl (by show _ < 286; omega) ?_
      refine g_iret (n := 100) rfl (fun h => nomatch h) ?_
      exact ⟨rfl, mX.rfl', rfl⟩
    · rw [vCt_6]
      refine g_tab 100 rfl (by decide) (by decide) rfl (by decide) ?_
      refine g_aload_n (n := 101) rfl rfl ?_
      refine g_getr (n := 104) (ci := 12) (j := 0) (b := 125) rfl (by decide +kernel) (by decide) (by decide) (by decide +kernel) ?_
      refine g_iconst (n := 105) (v := 3) rfl rfl ?_
      refine g_iald (n := 106) (3) rfl (by decide) rfl (by show _ < 286; omega) ?_
      refine g_iret (n := 107) rfl (fun h => nomatch h) ?_
      exact ⟨rfl, mX.rfl', rfl⟩
    · rw [vCt_7]
      refine g_tab 107 rfl (by decide) (by decide) rfl (by decide) ?_
      refine g_aload_n (n := 108) rfl rfl ?_
      refine g_getr (n := 111) (ci := 12) (j := 0) (b := 125) rfl (by decide +kernel) (by decide) (by decide) (by decide +kernel) ?_
      refine g_bipush (n := 113) (v := 6) rfl rfl ?_
      refine g_iald (n := 114) (6) rfl (by decide) rfl (by show _ < 286; omega) ?_
      refine g_iret (n := 115) rfl (fun h => nomatch h) ?_
      exact ⟨rfl, mX.rfl', rfl⟩
    · rw [vCt_8]
      refine g_tab 115 rfl (by decide) (by decide) rfl (by decide) ?_
      refine g_aload_n (n := 116) rfl rfl ?_
      refine g_getr (n := 119) (ci := 12) (j := 0) (b := 125) rfl (by decide +kernel) (by decide) (by decide) (by decide +kernel) ?_
      refine g_bipush (n := 121) (v := 7) rfl rfl ?_
      refine g_iald (n := 122) (7) rfl (by decide) rfl (by show _ < 286; omega) ?_
      refine g_iret (n := 123) rfl (fun h => nomatch h) ?_
      exact ⟨rfl, mX.rfl', rfl⟩
    · rw [vCt_9]
      refine g_tab 123 rfl (by decide) (by decide) rfl (by decide) ?_
      refine g_aload_n (n := 124) rfl rfl ?_
      refine g_geti (n := 127) (ci := 12) (j := 19) rfl (by decide +kernel) rfl (by decide) (by decide) ?_
      refine g_iret (n := 128) rfl (fun h => nomatch h) ?_
      exact ⟨rfl, mX.rfl', rfl⟩
    · rw [vCt_10]
      refine g_tab 128 rfl (by decide) (by decide) rfl (by decide) ?_
      refine g_aload_n (n := 129) rfl rfl ?_
      refine g_getr (n := 132) (ci := 12) (j := 0) (b := 125) rfl (by decide +kernel) (by decide) (by decide) (by decide +kernel) ?_
      refine g_iconst (n := 133) (v := 4) rfl rfl ?_
      refine g_iald (n := 134) (4) rfl (by decide) rfl (by show _ < 286; omega) ?_
      refine g_iret (n := 135) rfl (fun h => nomatch h) ?_
      exact ⟨rfl, mX.rfl', rfl⟩
  · unfold jCt
    rw [if_neg h, vCt_e h]
    refine g_iload_n (n := 1) rfl rfl ?_
    refine g_tabo 135 rfl (by omega) (by decide) ?_
    refine g_aload_n (n := 136) rfl rfl ?_
    refine g_iconst (n := 137) (v := 1) rfl rfl ?_
    refine g_cv1 (n := 140) (t := 140) (ci := 12) rfl (by decide +kernel) (by decide +kernel) (by decide) (by decide) (by decide +kernel) (by rfl) (c_finds (k := 1) (by omega)) (by omega) (g_E ?_)
    refine g_iret (n := 141) rfl (fun h => nomatch h) ?_
    exact ⟨rfl, mX.rfl', rfl⟩
/-- the same cells: what lies beyond a row doesn't matter -/
theorem mf_same {I J : mg_I} {nm : Nat} {sc : List Value} (h : ∀ a j, j < mf_sz a → I a j = J a j) : mf_M I nm sc = mf_M J nm sc := by
  unfold mf_M
  refine congrArg (mi_spec sc ++ ·) (List.map_congr_left fun k _ => ?_)
  unfold mf_c
  refine congrArg (fun l => (mf_hd (k + 5), l)) (List.map_congr_left fun j hj => ?_)
  unfold mf_v
  rw [h (k + 5) j (List.mem_range.mp hj)]
theorem g_mem {sc : List Value} {own : Nat} {ini rz : Bool} {code : List (Nat × Instr)} {d pc : Nat} {ls st : List Value} {I J : mg_I} {nm : Nat} {Q : Option Value → mg_I → Nat → Prop} (h : ∀ a j, j < mf_sz a → I a j = J a j) (k : GG sc own ini rz code d pc ls st J nm Q) : GG sc own ini rz code d pc ls st I nm Q := by
  unfold GG at k ⊢
  rw [mf_same h]
  exact k
def rP (I : mg_I) (a : Nat) (f : Nat → Int32) : mg_I := fun b j => if b = a then f j else I b j
theorem mcp_rP {I : mg_I} {a b n : Nat} (hn : mf_sz a = n) : ∀ x j, j < mf_sz x → mcp I a b n x j = rP I a (I b) x j := by
  intro x j hj
  unfold mcp rP
  by_cases h : x = a
  · subst h
    rw [if_pos ⟨rfl, by omega⟩, if_pos rfl]
  · rw [if_neg (fun q => h q.1), if_neg h]
def jIm (I : mg_I) : mg_I := mf_up (rP I 126 (I 125)) 124 3 (I 124 3 + 1)
def vRs (I : mg_I) : Int32 := if I 124 3 = 0 then -1000000000 - nI 2 else I 126 1
def jRs (I : mg_I) : mg_I := if I 124 3 = 0 then mf_up I 128 2 (I 128 2 + 1) else rP I 125 (I 126)
theorem c_image {sc : List Value} {nm : Nat} {I : mg_I} : SP sc 1 225 [.ref 124] I nm (qS (I 124 3 + 1) (jIm I) nm) := by
  refine SP.of (h := 0) (t := 225) (q := (yX12_image, cX12_image, 2, (some .int), 12, 1492, mi_k225)) rfl (by decide) (show ¬ (2 : Nat) < 1 by decide) (fun d hd => ?_)
  show GG sc 12 false false mi_k225 d 0 [.ref 124, .null] [] I nm (qS (I 124 3 + 1) (jIm I) nm)
  refine g_iconst (n := 1) (v := 0) rfl rfl ?_
  refine g_istore_n1 (n := 2) rfl rfl ?_
  have H : ∀ (m k : Nat), k + m = 286 → GG sc 12 false false mi_k225 d 2 [.ref 124, .int (nI k)] [] (mcp I 126 125 k) nm (qS (I 124 3 + 1) (jIm I) nm) := by
    intro m
    induction m with
    | zero =>
      intro k hk
      refine g_iload_n (n := 3) rfl rfl ?_
      refine g_sipush (n := 6) (v := 286) rfl rfl ?_
      refine g_icge (n := 9) 27 rfl (by decide) (fun h1 => ?_) (fun h1 => ?_)
      ·
        rw [show k = 286 by omega]
        refine g_mem (J := rP I 126 (I 125)) (mcp_rP rfl) ?_
        refine g_aload_n (n := 28) rfl rfl ?_
        refine g_dupa (n := 29) rfl ?_
        refine g_geti (n := 32) (ci := 12) (j := 3) rfl (by decide +kernel) rfl (by decide) (by decide) ?_
        refine g_iconst (n := 33) (v := 1) rfl rfl ?_
        refine g_iadd (n := 34) rfl ?_
        refine g_puti (n := 37) (ci := 12) (j := 3) rfl (by decide +kernel) rfl (by decide) (by decide) (by decide +kernel) rfl ?_
        refine g_aload_n (n := 38) rfl rfl ?_
        refine g_geti (n := 41) (ci := 12) (j := 3) rfl (by decide +kernel) rfl (by decide) (by decide) ?_
        refine g_iret (n := 42) rfl (fun h => nomatch h) ?_
        exact ⟨rfl, mX.rfl', rfl⟩
      ·
        exact absurd (fN_nle (n := 286) rfl (by omega) (by omega) h1) (by omega)
    | succ m ih =>
      intro k hk
      refine g_iload_n (n := 3) rfl rfl ?_
      refine g_sipush (n := 6) (v := 286) rfl rfl ?_
      refine g_icge (n := 9) 27 rfl (by decide) (fun h1 => ?_) (fun h1 => ?_)
      ·
        exact absurd (fN_le (n := 286) rfl (by omega) (by omega) h1) (by omega)
      ·
        refine g_aload_n (n := 10) rfl rfl ?_
        refine g_getr (n := 13) (ci := 12) (j := 1) (b := 126) rfl (by decide +kernel) (by decide) (by decide) (by decide +kernel) ?_
        refine g_iload_n (n := 14) rfl rfl ?_
        refine g_aload_n (n := 15) rfl rfl ?_
        refine g_getr (n := 18) (ci := 12) (j := 0) (b := 125) rfl (by decide +kernel) (by decide) (by decide) (by decide +kernel) ?_
        refine g_iload_n (n := 19) rfl rfl ?_
        refine g_iald (n := 20) (k) rfl (by decide) rfl (by show _ < 286; omega) ?_
        refine g_iast (n := 21) (k) rfl (by decide) rfl (by show _ < 286; omega) ?_
        refine g_iinc1 (n := 24) rfl rfl (nI_inc _) ?_
        refine g_goto 2 rfl (by decide) ?_
        rw [mcp_s (by decide)]
        exact ih (k + 1) (by omega)
  have hh := H 286 0 (by omega)
  rw [mcp_0] at hh
  exact hh
theorem c_restore {sc : List Value} {nm : Nat} {I : mg_I} : SP sc 2 226 [.ref 124] I nm (qS (vRs I) (jRs I) nm) := by
  refine SP.of (h := 1) (t := 226) (q := (yX12_restore, cX12_restore, 2, (some .int), 12, 1496, mi_k226)) rfl (by decide) (show ¬ (2 : Nat) < 1 by decide) (fun d hd => ?_)
  show GG sc 12 false false mi_k226 d 0 [.ref 124, .null] [] I nm (qS (vRs I) (jRs I) nm)
  unfold vRs jRs
  refine g_aload_n (n := 1) rfl rfl ?_
  refine g_geti (n := 4) (ci := 12) (j := 3) rfl (by decide +kernel) rfl (by decide) (by decide) ?_
  refine g_ifne (n := 7) 13 rfl (by decide) (fun h1 => ?_) (fun h1 => ?_)
  ·
    rw [if_neg h1, if_neg h1]
    refine g_iconst (n := 14) (v := 0) rfl rfl ?_
    refine g_istore_n1 (n := 15) rfl rfl ?_
    have H : ∀ (m k : Nat), k + m = 286 → GG sc 12 false false mi_k226 d 15 [.ref 124, .int (nI k)] [] (mcp I 125 126 k) nm (qS (I 126 1) (rP I 125 (I 126)) nm) := by
      intro m
      induction m with
      | zero =>
        intro k hk
        refine g_iload_n (n := 16) rfl rfl ?_
        refine g_sipush (n := 19) (v := 286) rfl rfl ?_
        refine g_icge (n := 22) 40 rfl (by decide) (fun h1 => ?_) (fun h1 => ?_)
        ·
          rw [show k = 286 by omega]
          refine g_mem (J := rP I 125 (I 126)) (mcp_rP rfl) ?_
          refine g_aload_n (n := 41) rfl rfl ?_
          refine g_getr (n := 44) (ci := 12) (j := 0) (b := 125) rfl (by decide +kernel) (by decide) (by decide) (by decide +kernel) ?_
          refine g_iconst (n := 45) (v := 1) rfl rfl ?_
          refine g_iald (n := 46) (1) rfl (by decide) rfl (by show _ < 286; omega) ?_
          refine g_iret (n := 47) rfl (fun h => nomatch h) ?_
          exact ⟨rfl, mX.rfl', rfl⟩
        ·
          exact absurd (fN_nle (n := 286) rfl (by omega) (by omega) h1) (by omega)
      | succ m ih =>
        intro k hk
        refine g_iload_n (n := 16) rfl rfl ?_
        refine g_sipush (n := 19) (v := 286) rfl rfl ?_
        refine g_icge (n := 22) 40 rfl (by decide) (fun h1 => ?_) (fun h1 => ?_)
        ·
          exact absurd (fN_le (n := 286) rfl (by omega) (by omega) h1) (by omega)
        ·
          refine g_aload_n (n := 23) rfl rfl ?_
          refine g_getr (n := 26) (ci := 12) (j := 0) (b := 125) rfl (by decide +kernel) (by decide) (by decide) (by decide +kernel) ?_
          refine g_iload_n (n := 27) rfl rfl ?_
          refine g_aload_n (n := 28) rfl rfl ?_
          refine g_getr (n := 31) (ci := 12) (j := 1) (b := 126) rfl (by decide +kernel) (by decide) (by decide) (by decide +kernel) ?_
          refine g_iload_n (n := 32) rfl rfl ?_
          refine g_iald (n := 33) (k) rfl (by decide) rfl (by show _ < 286; omega) ?_
          refine g_iast (n := 34) (k) rfl (by decide) rfl (by show _ < 286; omega) ?_
          refine g_iinc1 (n := 37) rfl rfl (nI_inc _) ?_
          refine g_goto 15 rfl (by decide) ?_
          rw [mcp_s (by decide)]
          exact ih (k + 1) (by omega)
    have hh := H 286 0 (by omega)
    rw [mcp_0] at hh
    exact hh
  ·
    rw [if_pos h1, if_pos h1]
    refine g_aload_n (n := 8) rfl rfl ?_
    refine g_iconst (n := 9) (v := 2) rfl rfl ?_
    refine g_cv1 (n := 12) (t := 140) (ci := 12) rfl (by decide +kernel) (by decide +kernel) (by decide) (by decide) (by decide +kernel) (by rfl) (c_finds (k := 2) (by omega)) (by omega) (g_E ?_)
    refine g_iret (n := 13) rfl (fun h => nomatch h) ?_
    exact ⟨rfl, mX.rfl', rfl⟩
