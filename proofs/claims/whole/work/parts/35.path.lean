/-! the model: the path, goers -/
def fRf (d : Nat → Int32) (y v : Int32) : Nat :=
  if 0 ≤ y.toInt ∧ y.toInt ≤ 23 then
    (if 1 ≤ v.toInt ∧ v.toInt ≤ 5 then
      (if fAt d y ≤ v then (if v ≤ 1 then 0 else if 1 < d (10 + cl y) then 0 else if fBefore d 24 = 9 then 4 else 0) else 3)
    else 1)
  else 1
theorem fRf_lt {d : Nat → Int32} {y v : Int32} : fRf d y v < 6 := by
  unfold fRf
  repeat' split
  all_goals omega
theorem fRf_0 {d : Nat → Int32} {y v : Int32} (h : fRf d y v = 0) : 0 ≤ y.toInt ∧ y.toInt ≤ 23 := by
  unfold fRf at h
  split at h
  · assumption
  · omega
def oRoom (d : Nat → Int32) (y v : Int32) : rD := if fRf d y v = 0 then (0, d (10 + cl y), up d (10 + cl y) v) else fE d (fRf d y v)
def oOfYard (d : Nat → Int32) (y w : Int32) : rD :=
  if 0 ≤ y.toInt ∧ y.toInt ≤ 23 then
    (if 0 ≤ w.toInt ∧ w.toInt ≤ 2 then
      (if w = 0 then (0, d (10 + cl y), d) else if w = 1 then (0, fAt d y, d) else if 1 < d (10 + cl y) then (0, fBefore d (cl y), d) else (0, -1, d))
    else fE d 1)
  else fE d 1
theorem c_roomFinds {sc : List Value} {nm : Nat} {I : mg_I} {d0 : Nat → Int32} {y v : Int32} (hN : iR (d0 0) 9) : SP sc 4 167 [.ref 124, .int y, .int v] (mR I d0) nm (qE (nI (fRf d0 y v)) (mR I d0) nm) := by
  refine SP.of (h := 3) (t := 167) (q := (yX12_roomFinds, cX12_roomFinds, 3, (some .int), 12, 1218, mi_k167)) rfl (by decide) (show ¬ (3 : Nat) < 3 by decide) (fun d hd => ?_)
  show GG sc 12 false false mi_k167 d 0 [.ref 124, .int y, .int v] [] (mR I d0) nm (qE (nI (fRf d0 y v)) (mR I d0) nm)
  unfold fRf
  refine g_iload_n (n := 1) rfl rfl ?_
  refine g_cs1 (n := 4) (t := 144) (x := (1219, 1220, 84)) rfl (by decide +kernel) (by decide +kernel) (by rfl) c_isYard (by omega) (g_E ?_)
  try simp only [mR_125, mR_up, mR_w124, mR_r124, mR_w126, mR_r126, mR_w128, mR_r128, mR_w130, mR_r130, mR_w131, mR_r131, mR_w132, mR_r132, mR_w133, mR_r133, mR_w134, mR_r134, mR_w135, mR_r135]
  refine g_split (fun h1 => ?_) (fun h1 => ?_)
  ·
    refine g_ifeq1 (n := 7) 19 rfl (by decide) ?_
    rw [if_pos h1]
    refine g_iload_n (n := 8) rfl rfl ?_
    refine g_i2l (n := 9) rfl ?_
    refine g_lconst (n := 10) (v := 1) rfl rfl ?_
    refine g_ldc2 (n := 13) (v := 5) (pl := 1223) rfl (by decide +kernel) ?_
    refine g_cs3 (n := 16) (t := 141) (x := (1141, 1142, 84)) rfl (by decide +kernel) (by decide +kernel) (by rfl) (c_inI (a := 1) (b := 5) rfl rfl) (by omega) (g_E ?_)
    try simp only [mR_125, mR_up, mR_w124, mR_r124, mR_w126, mR_r126, mR_w128, mR_r128, mR_w130, mR_r130, mR_w131, mR_r131, mR_w132, mR_r132, mR_w133, mR_r133, mR_w134, mR_r134, mR_w135, mR_r135]
    refine g_split (fun h2 => ?_) (fun h2 => ?_)
    ·
      refine g_ifne1 (n := 19) 21 rfl (by decide) ?_
      rw [if_pos h2]
      obtain ⟨yy, hyy, rfl, hcy⟩ := iR_nI (x := y) (n := 24) ⟨by omega, by omega⟩
      rw [show cl (nI yy) = yy from hcy]
      refine g_aload_n (n := 22) rfl rfl ?_
      refine g_iload_n (n := 23) rfl rfl ?_
      refine g_cv1 (n := 26) (t := 165) (ci := 12) rfl (by decide +kernel) (by decide +kernel) (by decide) (by decide) (by decide +kernel) (by rfl) (c_atYard (by assumption)) (by omega) (g_E ?_)
      try simp only [mR_125, mR_up, mR_w124, mR_r124, mR_w126, mR_r126, mR_w128, mR_r128, mR_w130, mR_r130, mR_w131, mR_r131, mR_w132, mR_r132, mR_w133, mR_r133, mR_w134, mR_r134, mR_w135, mR_r135]
      refine g_iload_n (n := 27) rfl rfl ?_
      refine g_icle (n := 30) 32 rfl (by decide) (fun h3 => ?_) (fun h3 => ?_)
      ·
        rw [if_pos h3]
        refine g_iload_n (n := 33) rfl rfl ?_
        refine g_iconst (n := 34) (v := 1) rfl rfl ?_
        refine g_icle (n := 37) 60 rfl (by decide) (fun h4 => ?_) (fun h4 => ?_)
        ·
          rw [if_pos h4]
          refine g_iconst (n := 61) (v := 0) rfl rfl ?_
          refine g_iret (n := 62) rfl (fun h => nomatch h) ?_
          exact ⟨rfl, rfl, rfl⟩
        ·
          rw [if_neg h4]
          refine g_aload_n (n := 38) rfl rfl ?_
          refine g_iload_n (n := 39) rfl rfl ?_
          refine g_cv1 (n := 42) (t := 164) (ci := 12) rfl (by decide +kernel) (by decide +kernel) (by decide) (by decide) (by decide +kernel) (by rfl) (c_isLedge (y := yy) (by omega)) (by omega) (g_E ?_)
          try simp only [mR_125, mR_up, mR_w124, mR_r124, mR_w126, mR_r126, mR_w128, mR_r128, mR_w130, mR_r130, mR_w131, mR_r131, mR_w132, mR_r132, mR_w133, mR_r133, mR_w134, mR_r134, mR_w135, mR_r135]
          refine g_split (fun h5 => ?_) (fun h5 => ?_)
          ·
            refine g_ifne1 (n := 45) 60 rfl (by decide) ?_
            rw [if_pos h5]
            refine g_iconst (n := 61) (v := 0) rfl rfl ?_
            refine g_iret (n := 62) rfl (fun h => nomatch h) ?_
            exact ⟨rfl, rfl, rfl⟩
          ·
            refine g_ifne0 (n := 45) 60 rfl (by decide) ?_
            rw [if_neg h5]
            refine g_aload_n (n := 46) rfl rfl ?_
            refine g_bipush (n := 48) (v := 24) rfl rfl ?_
            refine g_cv1 (n := 51) (t := 166) (ci := 12) rfl (by decide +kernel) (by decide +kernel) (by decide) (by decide) (by decide +kernel) (by rfl) (c_ledgesBefore (y := 24) (by omega)) (by omega) (g_E ?_)
            try simp only [mR_125, mR_up, mR_w124, mR_r124, mR_w126, mR_r126, mR_w128, mR_r128, mR_w130, mR_r130, mR_w131, mR_r131, mR_w132, mR_r132, mR_w133, mR_r133, mR_w134, mR_r134, mR_w135, mR_r135]
            refine g_bipush (n := 53) (v := 9) rfl rfl ?_
            refine g_icne (n := 56) 60 rfl (by decide) (fun h6 => ?_) (fun h6 => ?_)
            ·
              rw [if_neg h6]
              refine g_iconst (n := 61) (v := 0) rfl rfl ?_
              refine g_iret (n := 62) rfl (fun h => nomatch h) ?_
              exact ⟨rfl, rfl, rfl⟩
            ·
              rw [if_pos h6]
              refine g_iconst (n := 57) (v := 4) rfl rfl ?_
              refine g_goto 61 rfl (by decide) ?_
              refine g_iret (n := 62) rfl (fun h => nomatch h) ?_
              exact ⟨rfl, rfl, rfl⟩
      ·
        rw [if_neg h3]
        refine g_iconst (n := 31) (v := 3) rfl rfl ?_
        refine g_iret (n := 32) rfl (fun h => nomatch h) ?_
        exact ⟨rfl, rfl, rfl⟩
    ·
      refine g_ifne0 (n := 19) 21 rfl (by decide) ?_
      rw [if_neg h2]
      refine g_iconst (n := 20) (v := 1) rfl rfl ?_
      refine g_iret (n := 21) rfl (fun h => nomatch h) ?_
      exact ⟨rfl, rfl, rfl⟩
  ·
    refine g_ifeq0 (n := 7) 19 rfl (by decide) ?_
    rw [if_neg h1]
    refine g_iconst (n := 20) (v := 1) rfl rfl ?_
    refine g_iret (n := 21) rfl (fun h => nomatch h) ?_
    exact ⟨rfl, rfl, rfl⟩
theorem c_room {sc : List Value} {nm : Nat} {I : mg_I} {d0 : Nat → Int32} {y v : Int32} (hN : iR (d0 0) 9) : SP sc 5 168 [.ref 124, .int y, .int v] (mR I d0) nm (qD I (oRoom d0 y v) nm) := by
  refine SP.of (h := 4) (t := 168) (q := (yX12_room, cX12_room, 5, (some .int), 12, 1214, mi_k168)) rfl (by decide) (show ¬ (5 : Nat) < 3 by decide) (fun d hd => ?_)
  show GG sc 12 false false mi_k168 d 0 [.ref 124, .int y, .int v, .null, .null] [] (mR I d0) nm (qD I (oRoom d0 y v) nm)
  unfold oRoom
  refine g_aload_n (n := 1) rfl rfl ?_
  refine g_iload_n (n := 2) rfl rfl ?_
  refine g_iload_n (n := 3) rfl rfl ?_
  refine g_cv2 (n := 6) (t := 167) (ci := 12) rfl (by decide +kernel) (by decide +kernel) (by decide) (by decide) (by decide +kernel) (by rfl) (c_roomFinds hN) (by omega) (g_E ?_)
  refine g_istore_n3 (n := 7) rfl rfl ?_
  refine g_iload_n (n := 8) rfl rfl ?_
  refine g_ifle (n := 11) 17 rfl (by decide) (fun h1 => ?_) (fun h1 => ?_)
  ·
    have h0 : fRf d0 y v = 0 := by have := (nI_leI (b := 0) (by have := @fRf_lt d0 y v; omega) (by omega)).mp h1; omega
    rw [if_pos h0]
    have hyr := fRf_0 h0
    obtain ⟨yy, hyy, rfl, hcy⟩ := iR_nI (x := y) (n := 24) ⟨by omega, by omega⟩
    rw [show cl (nI yy) = yy from hcy]
    refine g_aload_n (n := 18) rfl rfl ?_
    refine g_getr (n := 21) (ci := 12) (j := 0) (b := 125) rfl (by decide +kernel) (by decide) (by decide) (by decide +kernel) ?_
    refine g_bipush (n := 23) (v := 10) rfl rfl ?_
    refine g_iload_n (n := 24) rfl rfl ?_
    refine g_iaddN (n := 25) (x := 10) (y := yy) rfl ?_
    refine g_iald (n := 26) ((10 + yy)) rfl (by decide) rfl (by show _ < 286; omega) ?_
    try simp only [mR_125, mR_up, mR_w124, mR_r124, mR_w126, mR_r126, mR_w128, mR_r128, mR_w130, mR_r130, mR_w131, mR_r131, mR_w132, mR_r132, mR_w133, mR_r133, mR_w134, mR_r134, mR_w135, mR_r135]
    refine g_istore4 (n := 28) rfl rfl ?_
    refine g_aload_n (n := 29) rfl rfl ?_
    refine g_getr (n := 32) (ci := 12) (j := 0) (b := 125) rfl (by decide +kernel) (by decide) (by decide) (by decide +kernel) ?_
    refine g_bipush (n := 34) (v := 10) rfl rfl ?_
    refine g_iload_n (n := 35) rfl rfl ?_
    refine g_iaddN (n := 36) (x := 10) (y := yy) rfl ?_
    refine g_iload_n (n := 37) rfl rfl ?_
    refine g_iast (n := 38) ((10 + yy)) rfl (by decide) rfl (by show _ < 286; omega) ?_
    try simp only [mR_125, mR_up, mR_w124, mR_r124, mR_w126, mR_r126, mR_w128, mR_r128, mR_w130, mR_r130, mR_w131, mR_r131, mR_w132, mR_r132, mR_w133, mR_r133, mR_w134, mR_r134, mR_w135, mR_r135]
    refine g_iload (n := 40) rfl rfl ?_
    refine g_iret (n := 41) rfl (fun h => nomatch h) ?_
    exact qD_v mX.rfl'
  ·
    have h0 : ¬ fRf d0 y v = 0 := fun q => h1 (by rw [q]; decide)
    rw [if_neg h0]
    refine g_aload_n (n := 12) rfl rfl ?_
    refine g_iload_n (n := 13) rfl rfl ?_
    refine g_cv1 (n := 16) (t := 140) (ci := 12) rfl (by decide +kernel) (by decide +kernel) (by decide) (by decide) (by decide +kernel) (by rfl) (c_finds (k := fRf d0 y v) fRf_lt) (by omega) (g_E ?_)
    try simp only [mR_125, mR_up, mR_w124, mR_r124, mR_w126, mR_r126, mR_w128, mR_r128, mR_w130, mR_r130, mR_w131, mR_r131, mR_w132, mR_r132, mR_w133, mR_r133, mR_w134, mR_r134, mR_w135, mR_r135]
    refine g_iret (n := 17) rfl (fun h => nomatch h) ?_
    exact qD_e (by omega) mX.rfl'
theorem c_ofYard {sc : List Value} {nm : Nat} {I : mg_I} {d0 : Nat → Int32} {y w : Int32} (hN : iR (d0 0) 9) : SP sc 4 169 [.ref 124, .int y, .int w] (mR I d0) nm (qD I (oOfYard d0 y w) nm) := by
  refine SP.of (h := 3) (t := 169) (q := (yX12_ofYard, cX12_ofYard, 3, (some .int), 12, 1243, mi_k169)) rfl (by decide) (show ¬ (3 : Nat) < 3 by decide) (fun d hd => ?_)
  show GG sc 12 false false mi_k169 d 0 [.ref 124, .int y, .int w] [] (mR I d0) nm (qD I (oOfYard d0 y w) nm)
  unfold oOfYard
  refine g_iload_n (n := 1) rfl rfl ?_
  refine g_cs1 (n := 4) (t := 144) (x := (1219, 1220, 84)) rfl (by decide +kernel) (by decide +kernel) (by rfl) c_isYard (by omega) (g_E ?_)
  try simp only [mR_125, mR_up, mR_w124, mR_r124, mR_w126, mR_r126, mR_w128, mR_r128, mR_w130, mR_r130, mR_w131, mR_r131, mR_w132, mR_r132, mR_w133, mR_r133, mR_w134, mR_r134, mR_w135, mR_r135]
  refine g_split (fun h1 => ?_) (fun h1 => ?_)
  ·
    refine g_ifeq1 (n := 7) 19 rfl (by decide) ?_
    rw [if_pos h1]
    refine g_iload_n (n := 8) rfl rfl ?_
    refine g_i2l (n := 9) rfl ?_
    refine g_lconst (n := 10) (v := 0) rfl rfl ?_
    refine g_ldc2 (n := 13) (v := 2) (pl := 1244) rfl (by decide +kernel) ?_
    refine g_cs3 (n := 16) (t := 141) (x := (1141, 1142, 84)) rfl (by decide +kernel) (by decide +kernel) (by rfl) (c_inI (a := 0) (b := 2) rfl rfl) (by omega) (g_E ?_)
    try simp only [mR_125, mR_up, mR_w124, mR_r124, mR_w126, mR_r126, mR_w128, mR_r128, mR_w130, mR_r130, mR_w131, mR_r131, mR_w132, mR_r132, mR_w133, mR_r133, mR_w134, mR_r134, mR_w135, mR_r135]
    refine g_split (fun h2 => ?_) (fun h2 => ?_)
    ·
      refine g_ifne1 (n := 19) 25 rfl (by decide) ?_
      rw [if_pos h2]
      obtain ⟨yy, hyy, rfl, hcy⟩ := iR_nI (x := y) (n := 24) ⟨by omega, by omega⟩
      rw [show cl (nI yy) = yy from hcy]
      refine g_iload_n (n := 26) rfl rfl ?_
      refine g_ifne (n := 29) 41 rfl (by decide) (fun h3 => ?_) (fun h3 => ?_)
      ·
        rw [if_neg h3]
        refine g_iload_n (n := 42) rfl rfl ?_
        refine g_iconst (n := 43) (v := 1) rfl rfl ?_
        refine g_icne (n := 46) 54 rfl (by decide) (fun h4 => ?_) (fun h4 => ?_)
        ·
          rw [if_neg h4]
          refine g_aload_n (n := 55) rfl rfl ?_
          refine g_iload_n (n := 56) rfl rfl ?_
          refine g_cv1 (n := 59) (t := 164) (ci := 12) rfl (by decide +kernel) (by decide +kernel) (by decide) (by decide) (by decide +kernel) (by rfl) (c_isLedge (y := yy) (by omega)) (by omega) (g_E ?_)
          try simp only [mR_125, mR_up, mR_w124, mR_r124, mR_w126, mR_r126, mR_w128, mR_r128, mR_w130, mR_r130, mR_w131, mR_r131, mR_w132, mR_r132, mR_w133, mR_r133, mR_w134, mR_r134, mR_w135, mR_r135]
          refine g_split (fun h5 => ?_) (fun h5 => ?_)
          ·
            refine g_ifeq1 (n := 62) 70 rfl (by decide) ?_
            rw [if_pos h5]
            refine g_aload_n (n := 63) rfl rfl ?_
            refine g_iload_n (n := 64) rfl rfl ?_
            refine g_cv1 (n := 67) (t := 166) (ci := 12) rfl (by decide +kernel) (by decide +kernel) (by decide) (by decide) (by decide +kernel) (by rfl) (c_ledgesBefore (y := yy) (by omega)) (by omega) (g_E ?_)
            try simp only [mR_125, mR_up, mR_w124, mR_r124, mR_w126, mR_r126, mR_w128, mR_r128, mR_w130, mR_r130, mR_w131, mR_r131, mR_w132, mR_r132, mR_w133, mR_r133, mR_w134, mR_r134, mR_w135, mR_r135]
            refine g_goto 71 rfl (by decide) ?_
            refine g_iret (n := 72) rfl (fun h => nomatch h) ?_
            exact qD_v mX.rfl'
          ·
            refine g_ifeq0 (n := 62) 70 rfl (by decide) ?_
            rw [if_neg h5]
            refine g_iconst (n := 71) (v := -1) rfl rfl ?_
            refine g_iret (n := 72) rfl (fun h => nomatch h) ?_
            exact qD_v mX.rfl'
        ·
          rw [if_pos h4]
          refine g_aload_n (n := 47) rfl rfl ?_
          refine g_iload_n (n := 48) rfl rfl ?_
          refine g_cv1 (n := 51) (t := 165) (ci := 12) rfl (by decide +kernel) (by decide +kernel) (by decide) (by decide) (by decide +kernel) (by rfl) (c_atYard (by assumption)) (by omega) (g_E ?_)
          try simp only [mR_125, mR_up, mR_w124, mR_r124, mR_w126, mR_r126, mR_w128, mR_r128, mR_w130, mR_r130, mR_w131, mR_r131, mR_w132, mR_r132, mR_w133, mR_r133, mR_w134, mR_r134, mR_w135, mR_r135]
          refine g_goto 71 rfl (by decide) ?_
          refine g_iret (n := 72) rfl (fun h => nomatch h) ?_
          exact qD_v mX.rfl'
      ·
        rw [if_pos h3]
        refine g_aload_n (n := 30) rfl rfl ?_
        refine g_getr (n := 33) (ci := 12) (j := 0) (b := 125) rfl (by decide +kernel) (by decide) (by decide) (by decide +kernel) ?_
        refine g_bipush (n := 35) (v := 10) rfl rfl ?_
        refine g_iload_n (n := 36) rfl rfl ?_
        refine g_iaddN (n := 37) (x := 10) (y := yy) rfl ?_
        refine g_iald (n := 38) ((10 + yy)) rfl (by decide) rfl (by show _ < 286; omega) ?_
        try simp only [mR_125, mR_up, mR_w124, mR_r124, mR_w126, mR_r126, mR_w128, mR_r128, mR_w130, mR_r130, mR_w131, mR_r131, mR_w132, mR_r132, mR_w133, mR_r133, mR_w134, mR_r134, mR_w135, mR_r135]
        refine g_goto 71 rfl (by decide) ?_
        refine g_iret (n := 72) rfl (fun h => nomatch h) ?_
        exact qD_v mX.rfl'
    ·
      refine g_ifne0 (n := 19) 25 rfl (by decide) ?_
      rw [if_neg h2]
      refine g_aload_n (n := 20) rfl rfl ?_
      refine g_iconst (n := 21) (v := 1) rfl rfl ?_
      refine g_cv1 (n := 24) (t := 140) (ci := 12) rfl (by decide +kernel) (by decide +kernel) (by decide) (by decide) (by decide +kernel) (by rfl) (c_finds (k := 1) (by omega)) (by omega) (g_E ?_)
      try simp only [mR_125, mR_up, mR_w124, mR_r124, mR_w126, mR_r126, mR_w128, mR_r128, mR_w130, mR_r130, mR_w131, mR_r131, mR_w132, mR_r132, mR_w133, mR_r133, mR_w134, mR_r134, mR_w135, mR_r135]
      refine g_iret (n := 25) rfl (fun h => nomatch h) ?_
      exact qD_e (by decide) mX.rfl'
  ·
    refine g_ifeq0 (n := 7) 19 rfl (by decide) ?_
    rw [if_neg h1]
    refine g_aload_n (n := 20) rfl rfl ?_
    refine g_iconst (n := 21) (v := 1) rfl rfl ?_
    refine g_cv1 (n := 24) (t := 140) (ci := 12) rfl (by decide +kernel) (by decide +kernel) (by decide) (by decide) (by decide +kernel) (by rfl) (c_finds (k := 1) (by omega)) (by omega) (g_E ?_)
    try simp only [mR_125, mR_up, mR_w124, mR_r124, mR_w126, mR_r126, mR_w128, mR_r128, mR_w130, mR_r130, mR_w131, mR_r131, mR_w132, mR_r132, mR_w133, mR_r133, mR_w134, mR_r134, mR_w135, mR_r135]
    refine g_iret (n := 25) rfl (fun h => nomatch h) ?_
    exact qD_e (by decide) mX.rfl'
def sKm (d : Nat → Int32) (g : Nat) (km : Int32) : Nat → Int32 := up (up d (34 + 10 * g + 0) (km / 10)) (34 + 10 * g + 1) (km - km / 10 * 10)
def sNew (d : Nat → Int32) (g : Nat) (km a b s : Int32) : Nat → Int32 := fHome (up (up (up (sKm (up d 0 (nI (g + 1))) g km) (34 + 10 * g + 2) a) (34 + 10 * g + 3) b) (34 + 10 * g + 4) s) g
def oGoer (d : Nat → Int32) (km a b s : Int32) : rD :=
  if 0 ≤ km.toInt ∧ km.toInt ≤ 69 then
    (if 0 ≤ a.toInt ∧ a.toInt ≤ 23 then
      (if 0 ≤ b.toInt ∧ b.toInt ≤ 23 then
        (if a = b then fE d 1
        else if 0 ≤ s.toInt ∧ s.toInt ≤ 999 then (if d 0 = 8 then fE d 4 else (0, nI (fN d), sNew d (fN d) km a b s)) else fE d 1)
      else fE d 1)
    else fE d 1)
  else fE d 1
theorem c_goer {sc : List Value} {nm : Nat} {I : mg_I} {d0 : Nat → Int32} {km a b s : Int32} (hN : iR (d0 0) 9) : SP sc 4 176 [.ref 124, .int km, .int a, .int b, .int s] (mR I d0) nm (qD I (oGoer d0 km a b s) nm) := by
  refine SP.of (h := 3) (t := 176) (q := (yX12_goer, cX12_goer, 6, (some .int), 12, 1248, mi_k176)) rfl (by decide) (show ¬ (6 : Nat) < 5 by decide) (fun d hd => ?_)
  show GG sc 12 false false mi_k176 d 0 [.ref 124, .int km, .int a, .int b, .int s, .null] [] (mR I d0) nm (qD I (oGoer d0 km a b s) nm)
  unfold oGoer
  refine g_iload_n (n := 1) rfl rfl ?_
  refine g_i2l (n := 2) rfl ?_
  refine g_lconst (n := 3) (v := 0) rfl rfl ?_
  refine g_ldc2 (n := 6) (v := 69) (pl := 1249) rfl (by decide +kernel) ?_
  refine g_cs3 (n := 9) (t := 141) (x := (1141, 1142, 84)) rfl (by decide +kernel) (by decide +kernel) (by rfl) (c_inI (a := 0) (b := 69) rfl rfl) (by omega) (g_E ?_)
  try simp only [mR_125, mR_up, mR_w124, mR_r124, mR_w126, mR_r126, mR_w128, mR_r128, mR_w130, mR_r130, mR_w131, mR_r131, mR_w132, mR_r132, mR_w133, mR_r133, mR_w134, mR_r134, mR_w135, mR_r135]
  refine g_split (fun h1 => ?_) (fun h1 => ?_)
  ·
    refine g_ifeq1 (n := 12) 44 rfl (by decide) ?_
    rw [if_pos h1]
    refine g_iload_n (n := 13) rfl rfl ?_
    refine g_cs1 (n := 16) (t := 144) (x := (1219, 1220, 84)) rfl (by decide +kernel) (by decide +kernel) (by rfl) c_isYard (by omega) (g_E ?_)
    try simp only [mR_125, mR_up, mR_w124, mR_r124, mR_w126, mR_r126, mR_w128, mR_r128, mR_w130, mR_r130, mR_w131, mR_r131, mR_w132, mR_r132, mR_w133, mR_r133, mR_w134, mR_r134, mR_w135, mR_r135]
    refine g_split (fun h2 => ?_) (fun h2 => ?_)
    ·
      refine g_ifeq1 (n := 19) 44 rfl (by decide) ?_
      rw [if_pos h2]
      refine g_iload_n (n := 20) rfl rfl ?_
      refine g_cs1 (n := 23) (t := 144) (x := (1219, 1220, 84)) rfl (by decide +kernel) (by decide +kernel) (by rfl) c_isYard (by omega) (g_E ?_)
      try simp only [mR_125, mR_up, mR_w124, mR_r124, mR_w126, mR_r126, mR_w128, mR_r128, mR_w130, mR_r130, mR_w131, mR_r131, mR_w132, mR_r132, mR_w133, mR_r133, mR_w134, mR_r134, mR_w135, mR_r135]
      refine g_split (fun h3 => ?_) (fun h3 => ?_)
      ·
        refine g_ifeq1 (n := 26) 44 rfl (by decide) ?_
        rw [if_pos h3]
        refine g_iload_n (n := 27) rfl rfl ?_
        refine g_iload_n (n := 28) rfl rfl ?_
        refine g_iceq (n := 31) 44 rfl (by decide) (fun h4 => ?_) (fun h4 => ?_)
        ·
          rw [if_pos h4]
          refine g_aload_n (n := 45) rfl rfl ?_
          refine g_iconst (n := 46) (v := 1) rfl rfl ?_
          refine g_cv1 (n := 49) (t := 140) (ci := 12) rfl (by decide +kernel) (by decide +kernel) (by decide) (by decide) (by decide +kernel) (by rfl) (c_finds (k := 1) (by omega)) (by omega) (g_E ?_)
          try simp only [mR_125, mR_up, mR_w124, mR_r124, mR_w126, mR_r126, mR_w128, mR_r128, mR_w130, mR_r130, mR_w131, mR_r131, mR_w132, mR_r132, mR_w133, mR_r133, mR_w134, mR_r134, mR_w135, mR_r135]
          refine g_iret (n := 50) rfl (fun h => nomatch h) ?_
          exact qD_e (by decide) mX.rfl'
        ·
          rw [if_neg h4]
          refine g_iload (n := 33) rfl rfl ?_
          refine g_i2l (n := 34) rfl ?_
          refine g_lconst (n := 35) (v := 0) rfl rfl ?_
          refine g_ldc2 (n := 38) (v := 999) (pl := 1250) rfl (by decide +kernel) ?_
          refine g_cs3 (n := 41) (t := 141) (x := (1141, 1142, 84)) rfl (by decide +kernel) (by decide +kernel) (by rfl) (c_inI (a := 0) (b := 999) rfl rfl) (by omega) (g_E ?_)
          try simp only [mR_125, mR_up, mR_w124, mR_r124, mR_w126, mR_r126, mR_w128, mR_r128, mR_w130, mR_r130, mR_w131, mR_r131, mR_w132, mR_r132, mR_w133, mR_r133, mR_w134, mR_r134, mR_w135, mR_r135]
          refine g_split (fun h5 => ?_) (fun h5 => ?_)
          ·
            refine g_ifne1 (n := 44) 50 rfl (by decide) ?_
            rw [if_pos h5]
            refine g_aload_n (n := 51) rfl rfl ?_
            refine g_getr (n := 54) (ci := 12) (j := 0) (b := 125) rfl (by decide +kernel) (by decide) (by decide) (by decide +kernel) ?_
            refine g_iconst (n := 55) (v := 0) rfl rfl ?_
            refine g_iald (n := 56) (0) rfl (by decide) rfl (by show _ < 286; omega) ?_
            try simp only [mR_125, mR_up, mR_w124, mR_r124, mR_w126, mR_r126, mR_w128, mR_r128, mR_w130, mR_r130, mR_w131, mR_r131, mR_w132, mR_r132, mR_w133, mR_r133, mR_w134, mR_r134, mR_w135, mR_r135]
            refine g_bipush (n := 58) (v := 8) rfl rfl ?_
            refine g_icne (n := 61) 67 rfl (by decide) (fun h6 => ?_) (fun h6 => ?_)
            ·
              rw [if_neg h6]
              have hg : fN d0 < 8 := Nat.lt_of_le_of_ne (fN_eq hN).2 (fun q => h6 (by rw [(fN_eq hN).1, q]; rfl))
              refine g_aload_n (n := 68) rfl rfl ?_
              refine g_getr (n := 71) (ci := 12) (j := 0) (b := 125) rfl (by decide +kernel) (by decide) (by decide) (by decide +kernel) ?_
              refine g_iconst (n := 72) (v := 0) rfl rfl ?_
              refine g_iald (n := 73) (0) rfl (by decide) rfl (by show _ < 286; omega) ?_
              refine g_top (w := nI (fN d0)) (fN_eq hN).1 ?_
              refine g_istore5 (n := 75) rfl rfl ?_
              refine g_aload_n (n := 76) rfl rfl ?_
              refine g_getr (n := 79) (ci := 12) (j := 0) (b := 125) rfl (by decide +kernel) (by decide) (by decide) (by decide +kernel) ?_
              refine g_iconst (n := 80) (v := 0) rfl rfl ?_
              refine g_dup2 (n := 81) rfl ?_
              refine g_iald (n := 82) (0) rfl (by decide) rfl (by show _ < 286; omega) ?_
              refine g_top (w := nI (fN d0)) (fN_eq hN).1 ?_
              refine g_iconst (n := 83) (v := 1) rfl rfl ?_
              refine g_iaddN (n := 84) (x := (fN d0)) (y := 1) rfl ?_
              refine g_iast (n := 85) (0) rfl (by decide) rfl (by show _ < 286; omega) ?_
              try simp only [mR_125, mR_up, mR_w124, mR_r124, mR_w126, mR_r126, mR_w128, mR_r128, mR_w130, mR_r130, mR_w131, mR_r131, mR_w132, mR_r132, mR_w133, mR_r133, mR_w134, mR_r134, mR_w135, mR_r135]
              refine g_aload_n (n := 86) rfl rfl ?_
              refine g_iload (n := 88) rfl rfl ?_
              refine g_iconst (n := 89) (v := 0) rfl rfl ?_
              refine g_iload_n (n := 90) rfl rfl ?_
              refine g_bipush (n := 92) (v := 10) rfl rfl ?_
              refine g_idiv (n := 93) rfl (by first | decide | assumption) ?_
              refine g_cv3 (n := 96) (t := 146) (ci := 12) rfl (by decide +kernel) (by decide +kernel) (by decide) (by decide) (by decide +kernel) (by rfl) (c_sets (g := (fN d0)) (w := 0) (by omega) (by omega)) (by omega) (g_Z ?_)
              try simp only [mR_125, mR_up, mR_w124, mR_r124, mR_w126, mR_r126, mR_w128, mR_r128, mR_w130, mR_r130, mR_w131, mR_r131, mR_w132, mR_r132, mR_w133, mR_r133, mR_w134, mR_r134, mR_w135, mR_r135]
              refine g_aload_n (n := 97) rfl rfl ?_
              refine g_iload (n := 99) rfl rfl ?_
              refine g_iconst (n := 100) (v := 1) rfl rfl ?_
              refine g_iload_n (n := 101) rfl rfl ?_
              refine g_bipush (n := 103) (v := 10) rfl rfl ?_
              refine g_irem (n := 104) rfl (by first | decide | assumption) ?_
              refine g_cv3 (n := 107) (t := 146) (ci := 12) rfl (by decide +kernel) (by decide +kernel) (by decide) (by decide) (by decide +kernel) (by rfl) (c_sets (g := (fN d0)) (w := 1) (by omega) (by omega)) (by omega) (g_Z ?_)
              try simp only [mR_125, mR_up, mR_w124, mR_r124, mR_w126, mR_r126, mR_w128, mR_r128, mR_w130, mR_r130, mR_w131, mR_r131, mR_w132, mR_r132, mR_w133, mR_r133, mR_w134, mR_r134, mR_w135, mR_r135]
              refine g_aload_n (n := 108) rfl rfl ?_
              refine g_iload (n := 110) rfl rfl ?_
              refine g_iconst (n := 111) (v := 2) rfl rfl ?_
              refine g_iload_n (n := 112) rfl rfl ?_
              refine g_cv3 (n := 115) (t := 146) (ci := 12) rfl (by decide +kernel) (by decide +kernel) (by decide) (by decide) (by decide +kernel) (by rfl) (c_sets (g := (fN d0)) (w := 2) (by omega) (by omega)) (by omega) (g_Z ?_)
              try simp only [mR_125, mR_up, mR_w124, mR_r124, mR_w126, mR_r126, mR_w128, mR_r128, mR_w130, mR_r130, mR_w131, mR_r131, mR_w132, mR_r132, mR_w133, mR_r133, mR_w134, mR_r134, mR_w135, mR_r135]
              refine g_aload_n (n := 116) rfl rfl ?_
              refine g_iload (n := 118) rfl rfl ?_
              refine g_iconst (n := 119) (v := 3) rfl rfl ?_
              refine g_iload_n (n := 120) rfl rfl ?_
              refine g_cv3 (n := 123) (t := 146) (ci := 12) rfl (by decide +kernel) (by decide +kernel) (by decide) (by decide) (by decide +kernel) (by rfl) (c_sets (g := (fN d0)) (w := 3) (by omega) (by omega)) (by omega) (g_Z ?_)
              try simp only [mR_125, mR_up, mR_w124, mR_r124, mR_w126, mR_r126, mR_w128, mR_r128, mR_w130, mR_r130, mR_w131, mR_r131, mR_w132, mR_r132, mR_w133, mR_r133, mR_w134, mR_r134, mR_w135, mR_r135]
              refine g_aload_n (n := 124) rfl rfl ?_
              refine g_iload (n := 126) rfl rfl ?_
              refine g_iconst (n := 127) (v := 4) rfl rfl ?_
              refine g_iload (n := 129) rfl rfl ?_
              refine g_cv3 (n := 132) (t := 146) (ci := 12) rfl (by decide +kernel) (by decide +kernel) (by decide) (by decide) (by decide +kernel) (by rfl) (c_sets (g := (fN d0)) (w := 4) (by omega) (by omega)) (by omega) (g_Z ?_)
              try simp only [mR_125, mR_up, mR_w124, mR_r124, mR_w126, mR_r126, mR_w128, mR_r128, mR_w130, mR_r130, mR_w131, mR_r131, mR_w132, mR_r132, mR_w133, mR_r133, mR_w134, mR_r134, mR_w135, mR_r135]
              refine g_aload_n (n := 133) rfl rfl ?_
              refine g_iload (n := 135) rfl rfl ?_
              refine g_cv1 (n := 138) (t := 175) (ci := 12) rfl (by decide +kernel) (by decide +kernel) (by decide) (by decide) (by decide +kernel) (by rfl) (c_sendHome (g := fN d0) hg) (by omega) (g_Z ?_)
              refine g_iload (n := 140) rfl rfl ?_
              refine g_iret (n := 141) rfl (fun h => nomatch h) ?_
              exact qD_v mX.rfl'
            ·
              rw [if_pos h6]
              refine g_aload_n (n := 62) rfl rfl ?_
              refine g_iconst (n := 63) (v := 4) rfl rfl ?_
              refine g_cv1 (n := 66) (t := 140) (ci := 12) rfl (by decide +kernel) (by decide +kernel) (by decide) (by decide) (by decide +kernel) (by rfl) (c_finds (k := 4) (by omega)) (by omega) (g_E ?_)
              try simp only [mR_125, mR_up, mR_w124, mR_r124, mR_w126, mR_r126, mR_w128, mR_r128, mR_w130, mR_r130, mR_w131, mR_r131, mR_w132, mR_r132, mR_w133, mR_r133, mR_w134, mR_r134, mR_w135, mR_r135]
              refine g_iret (n := 67) rfl (fun h => nomatch h) ?_
              exact qD_e (by decide) mX.rfl'
          ·
            refine g_ifne0 (n := 44) 50 rfl (by decide) ?_
            rw [if_neg h5]
            refine g_aload_n (n := 45) rfl rfl ?_
            refine g_iconst (n := 46) (v := 1) rfl rfl ?_
            refine g_cv1 (n := 49) (t := 140) (ci := 12) rfl (by decide +kernel) (by decide +kernel) (by decide) (by decide) (by decide +kernel) (by rfl) (c_finds (k := 1) (by omega)) (by omega) (g_E ?_)
            try simp only [mR_125, mR_up, mR_w124, mR_r124, mR_w126, mR_r126, mR_w128, mR_r128, mR_w130, mR_r130, mR_w131, mR_r131, mR_w132, mR_r132, mR_w133, mR_r133, mR_w134, mR_r134, mR_w135, mR_r135]
            refine g_iret (n := 50) rfl (fun h => nomatch h) ?_
            exact qD_e (by decide) mX.rfl'
      ·
        refine g_ifeq0 (n := 26) 44 rfl (by decide) ?_
        rw [if_neg h3]
        refine g_aload_n (n := 45) rfl rfl ?_
        refine g_iconst (n := 46) (v := 1) rfl rfl ?_
        refine g_cv1 (n := 49) (t := 140) (ci := 12) rfl (by decide +kernel) (by decide +kernel) (by decide) (by decide) (by decide +kernel) (by rfl) (c_finds (k := 1) (by omega)) (by omega) (g_E ?_)
        try simp only [mR_125, mR_up, mR_w124, mR_r124, mR_w126, mR_r126, mR_w128, mR_r128, mR_w130, mR_r130, mR_w131, mR_r131, mR_w132, mR_r132, mR_w133, mR_r133, mR_w134, mR_r134, mR_w135, mR_r135]
        refine g_iret (n := 50) rfl (fun h => nomatch h) ?_
        exact qD_e (by decide) mX.rfl'
    ·
      refine g_ifeq0 (n := 19) 44 rfl (by decide) ?_
      rw [if_neg h2]
      refine g_aload_n (n := 45) rfl rfl ?_
      refine g_iconst (n := 46) (v := 1) rfl rfl ?_
      refine g_cv1 (n := 49) (t := 140) (ci := 12) rfl (by decide +kernel) (by decide +kernel) (by decide) (by decide) (by decide +kernel) (by rfl) (c_finds (k := 1) (by omega)) (by omega) (g_E ?_)
      try simp only [mR_125, mR_up, mR_w124, mR_r124, mR_w126, mR_r126, mR_w128, mR_r128, mR_w130, mR_r130, mR_w131, mR_r131, mR_w132, mR_r132, mR_w133, mR_r133, mR_w134, mR_r134, mR_w135, mR_r135]
      refine g_iret (n := 50) rfl (fun h => nomatch h) ?_
      exact qD_e (by decide) mX.rfl'
  ·
    refine g_ifeq0 (n := 12) 44 rfl (by decide) ?_
    rw [if_neg h1]
    refine g_aload_n (n := 45) rfl rfl ?_
    refine g_iconst (n := 46) (v := 1) rfl rfl ?_
    refine g_cv1 (n := 49) (t := 140) (ci := 12) rfl (by decide +kernel) (by decide +kernel) (by decide) (by decide) (by decide +kernel) (by rfl) (c_finds (k := 1) (by omega)) (by omega) (g_E ?_)
    try simp only [mR_125, mR_up, mR_w124, mR_r124, mR_w126, mR_r126, mR_w128, mR_r128, mR_w130, mR_r130, mR_w131, mR_r131, mR_w132, mR_r132, mR_w133, mR_r133, mR_w134, mR_r134, mR_w135, mR_r135]
    refine g_iret (n := 50) rfl (fun h => nomatch h) ?_
    exact qD_e (by decide) mX.rfl'
theorem sw15 {x : Int32} (h : iR x 15) : x = 0 ∨ x = 1 ∨ x = 2 ∨ x = 3 ∨ x = 4 ∨ x = 5 ∨ x = 6 ∨ x = 7 ∨ x = 8 ∨ x = 9 ∨ x = 10 ∨ x = 11 ∨ x = 12 ∨ x = 13 ∨ x = 14 := by
  obtain ⟨k, hk, rfl, _⟩ := iR_nI h
  exact (show ∀ k, k < 15 → (nI k = 0 ∨ nI k = 1 ∨ nI k = 2 ∨ nI k = 3 ∨ nI k = 4 ∨ nI k = 5 ∨ nI k = 6 ∨ nI k = 7 ∨ nI k = 8 ∨ nI k = 9 ∨ nI k = 10 ∨ nI k = 11 ∨ nI k = 12 ∨ nI k = 13 ∨ nI k = 14) by decide +kernel) k hk
def fFact (d : Nat → Int32) (g : Nat) (w : Int32) : Int32 :=
  if w = 10 then fPace (fO d g 0) (fO d g 1) else if w = 11 then fLoad (fO d g 0) (fO d g 1) else if w = 12 then fRank d g else if w = 13 then fBack (fO d g 0) (fO d g 1) else if w = 14 then fHears (fO d g 0) else fO d g (cl w)
theorem fFact_0 {d : Nat → Int32} {g : Nat} : fFact d g 0 = fO d g 0 := by unfold fFact; rw [if_neg (by decide), if_neg (by decide), if_neg (by decide), if_neg (by decide), if_neg (by decide)]; rfl
theorem fFact_1 {d : Nat → Int32} {g : Nat} : fFact d g 1 = fO d g 1 := by unfold fFact; rw [if_neg (by decide), if_neg (by decide), if_neg (by decide), if_neg (by decide), if_neg (by decide)]; rfl
theorem fFact_2 {d : Nat → Int32} {g : Nat} : fFact d g 2 = fO d g 2 := by unfold fFact; rw [if_neg (by decide), if_neg (by decide), if_neg (by decide), if_neg (by decide), if_neg (by decide)]; rfl
theorem fFact_3 {d : Nat → Int32} {g : Nat} : fFact d g 3 = fO d g 3 := by unfold fFact; rw [if_neg (by decide), if_neg (by decide), if_neg (by decide), if_neg (by decide), if_neg (by decide)]; rfl
theorem fFact_4 {d : Nat → Int32} {g : Nat} : fFact d g 4 = fO d g 4 := by unfold fFact; rw [if_neg (by decide), if_neg (by decide), if_neg (by decide), if_neg (by decide), if_neg (by decide)]; rfl
theorem fFact_5 {d : Nat → Int32} {g : Nat} : fFact d g 5 = fO d g 5 := by unfold fFact; rw [if_neg (by decide), if_neg (by decide), if_neg (by decide), if_neg (by decide), if_neg (by decide)]; rfl
theorem fFact_6 {d : Nat → Int32} {g : Nat} : fFact d g 6 = fO d g 6 := by unfold fFact; rw [if_neg (by decide), if_neg (by decide), if_neg (by decide), if_neg (by decide), if_neg (by decide)]; rfl
theorem fFact_7 {d : Nat → Int32} {g : Nat} : fFact d g 7 = fO d g 7 := by unfold fFact; rw [if_neg (by decide), if_neg (by decide), if_neg (by decide), if_neg (by decide), if_neg (by decide)]; rfl
theorem fFact_8 {d : Nat → Int32} {g : Nat} : fFact d g 8 = fO d g 8 := by unfold fFact; rw [if_neg (by decide), if_neg (by decide), if_neg (by decide), if_neg (by decide), if_neg (by decide)]; rfl
theorem fFact_9 {d : Nat → Int32} {g : Nat} : fFact d g 9 = fO d g 9 := by unfold fFact; rw [if_neg (by decide), if_neg (by decide), if_neg (by decide), if_neg (by decide), if_neg (by decide)]; rfl
theorem fFact_10 {d : Nat → Int32} {g : Nat} : fFact d g 10 = fPace (fO d g 0) (fO d g 1) := by unfold fFact; rw [if_pos rfl]
theorem fFact_11 {d : Nat → Int32} {g : Nat} : fFact d g 11 = fLoad (fO d g 0) (fO d g 1) := by unfold fFact; rw [if_neg (by decide), if_pos rfl]
theorem fFact_12 {d : Nat → Int32} {g : Nat} : fFact d g 12 = fRank d g := by unfold fFact; rw [if_neg (by decide), if_neg (by decide), if_pos rfl]
theorem fFact_13 {d : Nat → Int32} {g : Nat} : fFact d g 13 = fBack (fO d g 0) (fO d g 1) := by unfold fFact; rw [if_neg (by decide), if_neg (by decide), if_neg (by decide), if_pos rfl]
theorem fFact_14 {d : Nat → Int32} {g : Nat} : fFact d g 14 = fHears (fO d g 0) := by unfold fFact; rw [if_neg (by decide), if_neg (by decide), if_neg (by decide), if_neg (by decide), if_pos rfl]
def oOfGoer (d : Nat → Int32) (g w : Int32) : rD :=
  if 0 ≤ g.toInt ∧ g.toInt < (fN d : Int) then (if 0 ≤ w.toInt ∧ w.toInt ≤ 14 then (0, fFact d (cl g) w, d) else fE d 1) else fE d 1
theorem fBack_01 {k m : Int32} : fBack k m = 0 ∨ fBack k m = 1 := by
  unfold fBack
  split <;> exact bI_01
theorem n1 {x : Int32} (h : x = 0 ∨ x = 1) (h2 : ¬ x = 0) : x = 1 := h.resolve_left h2
theorem c_ofGoer {sc : List Value} {nm : Nat} {I : mg_I} {d0 : Nat → Int32} {g w : Int32} (hw : gW d0) : SP sc 45 177 [.ref 124, .int g, .int w] (mR I d0) nm (qD I (oOfGoer d0 g w) nm) := by
  refine SP.of (h := 44) (t := 177) (q := (yX12_ofGoer, cX12_ofGoer, 3, (some .int), 12, 1262, mi_k177)) rfl (by decide) (show ¬ (3 : Nat) < 3 by decide) (fun d hd => ?_)
  show GG sc 12 false false mi_k177 d 0 [.ref 124, .int g, .int w] [] (mR I d0) nm (qD I (oOfGoer d0 g w) nm)
  have hN := hw.1.1
  have hs := hw.1.2.1
  have hK : ∀ g, g < 8 → fK (fO d0 g 0) := fun g hg => (hw.1.2.2.2 g hg).1
  unfold oOfGoer
  refine g_aload_n (n := 1) rfl rfl ?_
  refine g_iload_n (n := 2) rfl rfl ?_
  refine g_cv1 (n := 5) (t := 143) (ci := 12) rfl (by decide +kernel) (by decide +kernel) (by decide) (by decide) (by decide +kernel) (by rfl) (c_isGoer (by assumption)) (by omega) (g_E ?_)
  try simp only [mR_125, mR_up, mR_w124, mR_r124, mR_w126, mR_r126, mR_w128, mR_r128, mR_w130, mR_r130, mR_w131, mR_r131, mR_w132, mR_r132, mR_w133, mR_r133, mR_w134, mR_r134, mR_w135, mR_r135]
  refine g_split (fun h1 => ?_) (fun h1 => ?_)
  ·
    refine g_ifeq1 (n := 8) 20 rfl (by decide) ?_
    rw [if_pos h1]
    refine g_iload_n (n := 9) rfl rfl ?_
    refine g_i2l (n := 10) rfl ?_
    refine g_lconst (n := 11) (v := 0) rfl rfl ?_
    refine g_ldc2 (n := 14) (v := 14) (pl := 1267) rfl (by decide +kernel) ?_
    refine g_cs3 (n := 17) (t := 141) (x := (1141, 1142, 84)) rfl (by decide +kernel) (by decide +kernel) (by rfl) (c_inI (a := 0) (b := 14) rfl rfl) (by omega) (g_E ?_)
    try simp only [mR_125, mR_up, mR_w124, mR_r124, mR_w126, mR_r126, mR_w128, mR_r128, mR_w130, mR_r130, mR_w131, mR_r131, mR_w132, mR_r132, mR_w133, mR_r133, mR_w134, mR_r134, mR_w135, mR_r135]
    refine g_split (fun h2 => ?_) (fun h2 => ?_)
    ·
      refine g_ifne1 (n := 20) 26 rfl (by decide) ?_
      rw [if_pos h2]
      obtain ⟨gg, hgg, rfl, hcg⟩ := iR_nI (x := g) (n := fN d0) ⟨by omega, by omega⟩
      have hg8 := (fN_eq hN).2
      rw [show cl (nI gg) = gg from hcg]
      have hw15 := sw15 ⟨h2.1, by omega⟩
      refine g_iload_n (n := 27) rfl rfl ?_
      rcases hw15 with rfl | rfl | rfl | rfl | rfl | rfl | rfl | rfl | rfl | rfl | rfl | rfl | rfl | rfl | rfl
      ·
        rw [fFact_0]
        refine g_tabo 106 rfl (by decide) (by decide) ?_
        refine g_aload_n (n := 107) rfl rfl ?_
        refine g_iload_n (n := 108) rfl rfl ?_
        refine g_iload_n (n := 109) rfl rfl ?_
        refine g_cv2 (n := 112) (t := 145) (ci := 12) rfl (by decide +kernel) (by decide +kernel) (by decide) (by decide) (by decide +kernel) (by rfl) (c_of (g := gg) (w := 0) (by omega) (by omega)) (by omega) (g_E ?_)
        try simp only [mR_125, mR_up, mR_w124, mR_r124, mR_w126, mR_r126, mR_w128, mR_r128, mR_w130, mR_r130, mR_w131, mR_r131, mR_w132, mR_r132, mR_w133, mR_r133, mR_w134, mR_r134, mR_w135, mR_r135]
        refine g_iret (n := 113) rfl (fun h => nomatch h) ?_
        first | exact qD_v mX.rfl' | exact qD_v hJ1.x
      ·
        rw [fFact_1]
        refine g_tabo 106 rfl (by decide) (by decide) ?_
        refine g_aload_n (n := 107) rfl rfl ?_
        refine g_iload_n (n := 108) rfl rfl ?_
        refine g_iload_n (n := 109) rfl rfl ?_
        refine g_cv2 (n := 112) (t := 145) (ci := 12) rfl (by decide +kernel) (by decide +kernel) (by decide) (by decide) (by decide +kernel) (by rfl) (c_of (g := gg) (w := 1) (by omega) (by omega)) (by omega) (g_E ?_)
        try simp only [mR_125, mR_up, mR_w124, mR_r124, mR_w126, mR_r126, mR_w128, mR_r128, mR_w130, mR_r130, mR_w131, mR_r131, mR_w132, mR_r132, mR_w133, mR_r133, mR_w134, mR_r134, mR_w135, mR_r135]
        refine g_iret (n := 113) rfl (fun h => nomatch h) ?_
        first | exact qD_v mX.rfl' | exact qD_v hJ1.x
      ·
        rw [fFact_2]
        refine g_tabo 106 rfl (by decide) (by decide) ?_
        refine g_aload_n (n := 107) rfl rfl ?_
        refine g_iload_n (n := 108) rfl rfl ?_
        refine g_iload_n (n := 109) rfl rfl ?_
        refine g_cv2 (n := 112) (t := 145) (ci := 12) rfl (by decide +kernel) (by decide +kernel) (by decide) (by decide) (by decide +kernel) (by rfl) (c_of (g := gg) (w := 2) (by omega) (by omega)) (by omega) (g_E ?_)
        try simp only [mR_125, mR_up, mR_w124, mR_r124, mR_w126, mR_r126, mR_w128, mR_r128, mR_w130, mR_r130, mR_w131, mR_r131, mR_w132, mR_r132, mR_w133, mR_r133, mR_w134, mR_r134, mR_w135, mR_r135]
        refine g_iret (n := 113) rfl (fun h => nomatch h) ?_
        first | exact qD_v mX.rfl' | exact qD_v hJ1.x
      ·
        rw [fFact_3]
        refine g_tabo 106 rfl (by decide) (by decide) ?_
        refine g_aload_n (n := 107) rfl rfl ?_
        refine g_iload_n (n := 108) rfl rfl ?_
        refine g_iload_n (n := 109) rfl rfl ?_
        refine g_cv2 (n := 112) (t := 145) (ci := 12) rfl (by decide +kernel) (by decide +kernel) (by decide) (by decide) (by decide +kernel) (by rfl) (c_of (g := gg) (w := 3) (by omega) (by omega)) (by omega) (g_E ?_)
        try simp only [mR_125, mR_up, mR_w124, mR_r124, mR_w126, mR_r126, mR_w128, mR_r128, mR_w130, mR_r130, mR_w131, mR_r131, mR_w132, mR_r132, mR_w133, mR_r133, mR_w134, mR_r134, mR_w135, mR_r135]
        refine g_iret (n := 113) rfl (fun h => nomatch h) ?_
        first | exact qD_v mX.rfl' | exact qD_v hJ1.x
      ·
        rw [fFact_4]
        refine g_tabo 106 rfl (by decide) (by decide) ?_
        refine g_aload_n (n := 107) rfl rfl ?_
        refine g_iload_n (n := 108) rfl rfl ?_
        refine g_iload_n (n := 109) rfl rfl ?_
        refine g_cv2 (n := 112) (t := 145) (ci := 12) rfl (by decide +kernel) (by decide +kernel) (by decide) (by decide) (by decide +kernel) (by rfl) (c_of (g := gg) (w := 4) (by omega) (by omega)) (by omega) (g_E ?_)
        try simp only [mR_125, mR_up, mR_w124, mR_r124, mR_w126, mR_r126, mR_w128, mR_r128, mR_w130, mR_r130, mR_w131, mR_r131, mR_w132, mR_r132, mR_w133, mR_r133, mR_w134, mR_r134, mR_w135, mR_r135]
        refine g_iret (n := 113) rfl (fun h => nomatch h) ?_
        first | exact qD_v mX.rfl' | exact qD_v hJ1.x
      ·
        rw [fFact_5]
        refine g_tabo 106 rfl (by decide) (by decide) ?_
        refine g_aload_n (n := 107) rfl rfl ?_
        refine g_iload_n (n := 108) rfl rfl ?_
        refine g_iload_n (n := 109) rfl rfl ?_
        refine g_cv2 (n := 112) (t := 145) (ci := 12) rfl (by decide +kernel) (by decide +kernel) (by decide) (by decide) (by decide +kernel) (by rfl) (c_of (g := gg) (w := 5) (by omega) (by omega)) (by omega) (g_E ?_)
        try simp only [mR_125, mR_up, mR_w124, mR_r124, mR_w126, mR_r126, mR_w128, mR_r128, mR_w130, mR_r130, mR_w131, mR_r131, mR_w132, mR_r132, mR_w133, mR_r133, mR_w134, mR_r134, mR_w135, mR_r135]
        refine g_iret (n := 113) rfl (fun h => nomatch h) ?_
        first | exact qD_v mX.rfl' | exact qD_v hJ1.x
      ·
        rw [fFact_6]
        refine g_tabo 106 rfl (by decide) (by decide) ?_
        refine g_aload_n (n := 107) rfl rfl ?_
        refine g_iload_n (n := 108) rfl rfl ?_
        refine g_iload_n (n := 109) rfl rfl ?_
        refine g_cv2 (n := 112) (t := 145) (ci := 12) rfl (by decide +kernel) (by decide +kernel) (by decide) (by decide) (by decide +kernel) (by rfl) (c_of (g := gg) (w := 6) (by omega) (by omega)) (by omega) (g_E ?_)
        try simp only [mR_125, mR_up, mR_w124, mR_r124, mR_w126, mR_r126, mR_w128, mR_r128, mR_w130, mR_r130, mR_w131, mR_r131, mR_w132, mR_r132, mR_w133, mR_r133, mR_w134, mR_r134, mR_w135, mR_r135]
        refine g_iret (n := 113) rfl (fun h => nomatch h) ?_
        first | exact qD_v mX.rfl' | exact qD_v hJ1.x
      ·
        rw [fFact_7]
        refine g_tabo 106 rfl (by decide) (by decide) ?_
        refine g_aload_n (n := 107) rfl rfl ?_
        refine g_iload_n (n := 108) rfl rfl ?_
        refine g_iload_n (n := 109) rfl rfl ?_
        refine g_cv2 (n := 112) (t := 145) (ci := 12) rfl (by decide +kernel) (by decide +kernel) (by decide) (by decide) (by decide +kernel) (by rfl) (c_of (g := gg) (w := 7) (by omega) (by omega)) (by omega) (g_E ?_)
        try simp only [mR_125, mR_up, mR_w124, mR_r124, mR_w126, mR_r126, mR_w128, mR_r128, mR_w130, mR_r130, mR_w131, mR_r131, mR_w132, mR_r132, mR_w133, mR_r133, mR_w134, mR_r134, mR_w135, mR_r135]
        refine g_iret (n := 113) rfl (fun h => nomatch h) ?_
        first | exact qD_v mX.rfl' | exact qD_v hJ1.x
      ·
        rw [fFact_8]
        refine g_tabo 106 rfl (by decide) (by decide) ?_
        refine g_aload_n (n := 107) rfl rfl ?_
        refine g_iload_n (n := 108) rfl rfl ?_
        refine g_iload_n (n := 109) rfl rfl ?_
        refine g_cv2 (n := 112) (t := 145) (ci := 12) rfl (by decide +kernel) (by decide +kernel) (by decide) (by decide) (by decide +kernel) (by rfl) (c_of (g := gg) (w := 8) (by omega) (by omega)) (by omega) (g_E ?_)
        try simp only [mR_125, mR_up, mR_w124, mR_r124, mR_w126, mR_r126, mR_w128, mR_r128, mR_w130, mR_r130, mR_w131, mR_r131, mR_w132, mR_r132, mR_w133, mR_r133, mR_w134, mR_r134, mR_w135, mR_r135]
        refine g_iret (n := 113) rfl (fun h => nomatch h) ?_
        first | exact qD_v mX.rfl' | exact qD_v hJ1.x
      ·
        rw [fFact_9]
        refine g_tabo 106 rfl (by decide) (by decide) ?_
        refine g_aload_n (n := 107) rfl rfl ?_
        refine g_iload_n (n := 108) rfl rfl ?_
        refine g_iload_n (n := 109) rfl rfl ?_
        refine g_cv2 (n := 112) (t := 145) (ci := 12) rfl (by decide +kernel) (by decide +kernel) (by decide) (by decide) (by decide +kernel) (by rfl) (c_of (g := gg) (w := 9) (by omega) (by omega)) (by omega) (g_E ?_)
        try simp only [mR_125, mR_up, mR_w124, mR_r124, mR_w126, mR_r126, mR_w128, mR_r128, mR_w130, mR_r130, mR_w131, mR_r131, mR_w132, mR_r132, mR_w133, mR_r133, mR_w134, mR_r134, mR_w135, mR_r135]
        refine g_iret (n := 113) rfl (fun h => nomatch h) ?_
        first | exact qD_v mX.rfl' | exact qD_v hJ1.x
      ·
        rw [fFact_10]
        refine g_tab 60 rfl (by decide) (by decide) rfl (by decide) ?_
        refine g_aload_n (n := 61) rfl rfl ?_
        refine g_iload_n (n := 62) rfl rfl ?_
        refine g_cv1 (n := 65) (t := 170) (ci := 12) rfl (by decide +kernel) (by decide +kernel) (by decide) (by decide) (by decide +kernel) (by rfl) (c_paceOf (g := gg) (by omega) (hK gg (by omega))) (by omega) (g_E ?_)
        refine g_iret (n := 66) rfl (fun h => nomatch h) ?_
        first | exact qD_v mX.rfl' | exact qD_v hJ1.x
      ·
        rw [fFact_11]
        refine g_tab 66 rfl (by decide) (by decide) rfl (by decide) ?_
        refine g_aload_n (n := 67) rfl rfl ?_
        refine g_iload_n (n := 68) rfl rfl ?_
        refine g_cv1 (n := 71) (t := 171) (ci := 12) rfl (by decide +kernel) (by decide +kernel) (by decide) (by decide) (by decide +kernel) (by rfl) (c_loadOf (g := gg) (by omega) (hK gg (by omega))) (by omega) (g_E ?_)
        refine g_iret (n := 72) rfl (fun h => nomatch h) ?_
        first | exact qD_v mX.rfl' | exact qD_v hJ1.x
      ·
        rw [fFact_12]
        refine g_tab 72 rfl (by decide) (by decide) rfl (by decide) ?_
        refine g_aload_n (n := 73) rfl rfl ?_
        refine g_iload_n (n := 74) rfl rfl ?_
        refine g_cv1 (n := 77) (t := 174) (ci := 12) rfl (by decide +kernel) (by decide +kernel) (by decide) (by decide) (by decide +kernel) (by rfl) (c_rankOf (g := gg) (by omega) (hK gg (by omega)) hs) (by omega) (g_M fun I1 he => ?_)
        obtain ⟨J1, rfl, hJ1⟩ := mR_mE he
        refine g_iret (n := 78) rfl (fun h => nomatch h) ?_
        first | exact qD_v mX.rfl' | exact qD_v hJ1.x
      ·
        rw [fFact_13]
        refine g_tab 78 rfl (by decide) (by decide) rfl (by decide) ?_
        refine g_aload_n (n := 79) rfl rfl ?_
        refine g_iload_n (n := 80) rfl rfl ?_
        refine g_cv1 (n := 83) (t := 172) (ci := 12) rfl (by decide +kernel) (by decide +kernel) (by decide) (by decide) (by decide +kernel) (by rfl) (c_canBack (g := gg) (by omega)) (by omega) (g_E ?_)
        try simp only [mR_125]
        refine g_ifeq (n := 86) 90 rfl (by decide) (fun h3 => ?_) (fun h3 => ?_)
        ·
          rw [h3]
          refine g_iconst (n := 91) (v := 0) rfl rfl ?_
          refine g_iret (n := 92) rfl (fun h => nomatch h) ?_
          first | exact qD_v mX.rfl' | exact qD_v hJ1.x
        ·
          rw [n1 fBack_01 h3]
          refine g_iconst (n := 87) (v := 1) rfl rfl ?_
          refine g_goto 91 rfl (by decide) ?_
          refine g_iret (n := 92) rfl (fun h => nomatch h) ?_
          first | exact qD_v mX.rfl' | exact qD_v hJ1.x
      ·
        rw [fFact_14]
        refine g_tab 92 rfl (by decide) (by decide) rfl (by decide) ?_
        refine g_aload_n (n := 93) rfl rfl ?_
        refine g_iload_n (n := 94) rfl rfl ?_
        refine g_cv1 (n := 97) (t := 173) (ci := 12) rfl (by decide +kernel) (by decide +kernel) (by decide) (by decide) (by decide +kernel) (by rfl) (c_hears (g := gg) (by omega)) (by omega) (g_E ?_)
        try simp only [mR_125]
        refine g_ifeq (n := 100) 104 rfl (by decide) (fun h4 => ?_) (fun h4 => ?_)
        ·
          rw [h4]
          refine g_iconst (n := 105) (v := 0) rfl rfl ?_
          refine g_iret (n := 106) rfl (fun h => nomatch h) ?_
          first | exact qD_v mX.rfl' | exact qD_v hJ1.x
        ·
          rw [n1 (show fHears (fO d0 gg 0) = 0 ∨ fHears (fO d0 gg 0) = 1 from bI_01) h4]
          refine g_iconst (n := 101) (v := 1) rfl rfl ?_
          refine g_goto 105 rfl (by decide) ?_
          refine g_iret (n := 106) rfl (fun h => nomatch h) ?_
          first | exact qD_v mX.rfl' | exact qD_v hJ1.x
    ·
      refine g_ifne0 (n := 20) 26 rfl (by decide) ?_
      rw [if_neg h2]
      refine g_aload_n (n := 21) rfl rfl ?_
      refine g_iconst (n := 22) (v := 1) rfl rfl ?_
      refine g_cv1 (n := 25) (t := 140) (ci := 12) rfl (by decide +kernel) (by decide +kernel) (by decide) (by decide) (by decide +kernel) (by rfl) (c_finds (k := 1) (by omega)) (by omega) (g_E ?_)
      try simp only [mR_125, mR_up, mR_w124, mR_r124, mR_w126, mR_r126, mR_w128, mR_r128, mR_w130, mR_r130, mR_w131, mR_r131, mR_w132, mR_r132, mR_w133, mR_r133, mR_w134, mR_r134, mR_w135, mR_r135]
      refine g_iret (n := 26) rfl (fun h => nomatch h) ?_
      exact qD_e (by decide) mX.rfl'
  ·
    refine g_ifeq0 (n := 8) 20 rfl (by decide) ?_
    rw [if_neg h1]
    refine g_aload_n (n := 21) rfl rfl ?_
    refine g_iconst (n := 22) (v := 1) rfl rfl ?_
    refine g_cv1 (n := 25) (t := 140) (ci := 12) rfl (by decide +kernel) (by decide +kernel) (by decide) (by decide) (by decide +kernel) (by rfl) (c_finds (k := 1) (by omega)) (by omega) (g_E ?_)
    try simp only [mR_125, mR_up, mR_w124, mR_r124, mR_w126, mR_r126, mR_w128, mR_r128, mR_w130, mR_r130, mR_w131, mR_r131, mR_w132, mR_r132, mR_w133, mR_r133, mR_w134, mR_r134, mR_w135, mR_r135]
    refine g_iret (n := 26) rfl (fun h => nomatch h) ?_
    exact qD_e (by decide) mX.rfl'
def oBecome (d : Nat → Int32) (g km : Int32) : rD :=
  if 0 ≤ g.toInt ∧ g.toInt < (fN d : Int) then (if 0 ≤ km.toInt ∧ km.toInt ≤ 69 then (0, fO d (cl g) 0, sKm d (cl g) km) else fE d 1) else fE d 1
def oAs (d : Nat → Int32) (g k : Int32) : rD :=
  if 0 ≤ g.toInt ∧ g.toInt < (fN d : Int) then (if 0 ≤ k.toInt ∧ k.toInt ≤ 6 then
    (if k = 0 then (0, fO d (cl g) 1, d) else if k = fO d (cl g) 0 then (0, fO d (cl g) 1, d) else if k = fAbove (fO d (cl g) 0) then (0, fO d (cl g) 1, d) else fE d 5) else fE d 1) else fE d 1
def oStart (d : Nat → Int32) (g s : Int32) : rD :=
  if 0 ≤ g.toInt ∧ g.toInt < (fN d : Int) then (if 0 ≤ s.toInt ∧ s.toInt ≤ 999 then (if fO d (cl g) 5 = 0 then (0, fO d (cl g) 4, up d (34 + 10 * cl g + 4) s) else fE d 3) else fE d 1) else fE d 1
def oHome (d : Nat → Int32) (g : Int32) : rD :=
  if 0 ≤ g.toInt ∧ g.toInt < (fN d : Int) then (0, fO d (cl g) 5, fHome d (cl g)) else fE d 1
theorem c_become {sc : List Value} {nm : Nat} {I : mg_I} {d0 : Nat → Int32} {g km : Int32} (hN : iR (d0 0) 9) : SP sc 4 178 [.ref 124, .int g, .int km] (mR I d0) nm (qD I (oBecome d0 g km) nm) := by
  refine SP.of (h := 3) (t := 178) (q := (yX12_become, cX12_become, 4, (some .int), 12, 1291, mi_k178)) rfl (by decide) (show ¬ (4 : Nat) < 3 by decide) (fun d hd => ?_)
  show GG sc 12 false false mi_k178 d 0 [.ref 124, .int g, .int km, .null] [] (mR I d0) nm (qD I (oBecome d0 g km) nm)
  unfold oBecome
  refine g_aload_n (n := 1) rfl rfl ?_
  refine g_iload_n (n := 2) rfl rfl ?_
  refine g_cv1 (n := 5) (t := 143) (ci := 12) rfl (by decide +kernel) (by decide +kernel) (by decide) (by decide) (by decide +kernel) (by rfl) (c_isGoer (by assumption)) (by omega) (g_E ?_)
  try simp only [mR_125, mR_up, mR_w124, mR_r124, mR_w126, mR_r126, mR_w128, mR_r128, mR_w130, mR_r130, mR_w131, mR_r131, mR_w132, mR_r132, mR_w133, mR_r133, mR_w134, mR_r134, mR_w135, mR_r135]
  refine g_split (fun h1 => ?_) (fun h1 => ?_)
  ·
    refine g_ifeq1 (n := 8) 20 rfl (by decide) ?_
    rw [if_pos h1]
    refine g_iload_n (n := 9) rfl rfl ?_
    refine g_i2l (n := 10) rfl ?_
    refine g_lconst (n := 11) (v := 0) rfl rfl ?_
    refine g_ldc2 (n := 14) (v := 69) (pl := 1249) rfl (by decide +kernel) ?_
    refine g_cs3 (n := 17) (t := 141) (x := (1141, 1142, 84)) rfl (by decide +kernel) (by decide +kernel) (by rfl) (c_inI (a := 0) (b := 69) rfl rfl) (by omega) (g_E ?_)
    try simp only [mR_125, mR_up, mR_w124, mR_r124, mR_w126, mR_r126, mR_w128, mR_r128, mR_w130, mR_r130, mR_w131, mR_r131, mR_w132, mR_r132, mR_w133, mR_r133, mR_w134, mR_r134, mR_w135, mR_r135]
    refine g_split (fun h2 => ?_) (fun h2 => ?_)
    ·
      refine g_ifne1 (n := 20) 26 rfl (by decide) ?_
      rw [if_pos h2]
      obtain ⟨gg, hgg, rfl, hcg⟩ := iR_nI (x := g) (n := fN d0) ⟨by omega, by omega⟩
      have hg8 := (fN_eq hN).2
      rw [show cl (nI gg) = gg from hcg]
      refine g_aload_n (n := 27) rfl rfl ?_
      refine g_iload_n (n := 28) rfl rfl ?_
      refine g_iconst (n := 29) (v := 0) rfl rfl ?_
      refine g_cv2 (n := 32) (t := 145) (ci := 12) rfl (by decide +kernel) (by decide +kernel) (by decide) (by decide) (by decide +kernel) (by rfl) (c_of (g := gg) (w := 0) (by omega) (by omega)) (by omega) (g_E ?_)
      try simp only [mR_125, mR_up, mR_w124, mR_r124, mR_w126, mR_r126, mR_w128, mR_r128, mR_w130, mR_r130, mR_w131, mR_r131, mR_w132, mR_r132, mR_w133, mR_r133, mR_w134, mR_r134, mR_w135, mR_r135]
      refine g_istore_n3 (n := 33) rfl rfl ?_
      refine g_aload_n (n := 34) rfl rfl ?_
      refine g_iload_n (n := 35) rfl rfl ?_
      refine g_iconst (n := 36) (v := 0) rfl rfl ?_
      refine g_iload_n (n := 37) rfl rfl ?_
      refine g_bipush (n := 39) (v := 10) rfl rfl ?_
      refine g_idiv (n := 40) rfl (by first | decide | assumption) ?_
      refine g_cv3 (n := 43) (t := 146) (ci := 12) rfl (by decide +kernel) (by decide +kernel) (by decide) (by decide) (by decide +kernel) (by rfl) (c_sets (g := gg) (w := 0) (by omega) (by omega)) (by omega) (g_Z ?_)
      try simp only [mR_125, mR_up, mR_w124, mR_r124, mR_w126, mR_r126, mR_w128, mR_r128, mR_w130, mR_r130, mR_w131, mR_r131, mR_w132, mR_r132, mR_w133, mR_r133, mR_w134, mR_r134, mR_w135, mR_r135]
      refine g_aload_n (n := 44) rfl rfl ?_
      refine g_iload_n (n := 45) rfl rfl ?_
      refine g_iconst (n := 46) (v := 1) rfl rfl ?_
      refine g_iload_n (n := 47) rfl rfl ?_
      refine g_bipush (n := 49) (v := 10) rfl rfl ?_
      refine g_irem (n := 50) rfl (by first | decide | assumption) ?_
      refine g_cv3 (n := 53) (t := 146) (ci := 12) rfl (by decide +kernel) (by decide +kernel) (by decide) (by decide) (by decide +kernel) (by rfl) (c_sets (g := gg) (w := 1) (by omega) (by omega)) (by omega) (g_Z ?_)
      try simp only [mR_125, mR_up, mR_w124, mR_r124, mR_w126, mR_r126, mR_w128, mR_r128, mR_w130, mR_r130, mR_w131, mR_r131, mR_w132, mR_r132, mR_w133, mR_r133, mR_w134, mR_r134, mR_w135, mR_r135]
      refine g_iload_n (n := 54) rfl rfl ?_
      refine g_iret (n := 55) rfl (fun h => nomatch h) ?_
      exact qD_v mX.rfl'
    ·
      refine g_ifne0 (n := 20) 26 rfl (by decide) ?_
      rw [if_neg h2]
      refine g_aload_n (n := 21) rfl rfl ?_
      refine g_iconst (n := 22) (v := 1) rfl rfl ?_
      refine g_cv1 (n := 25) (t := 140) (ci := 12) rfl (by decide +kernel) (by decide +kernel) (by decide) (by decide) (by decide +kernel) (by rfl) (c_finds (k := 1) (by omega)) (by omega) (g_E ?_)
      try simp only [mR_125, mR_up, mR_w124, mR_r124, mR_w126, mR_r126, mR_w128, mR_r128, mR_w130, mR_r130, mR_w131, mR_r131, mR_w132, mR_r132, mR_w133, mR_r133, mR_w134, mR_r134, mR_w135, mR_r135]
      refine g_iret (n := 26) rfl (fun h => nomatch h) ?_
      exact qD_e (by decide) mX.rfl'
  ·
    refine g_ifeq0 (n := 8) 20 rfl (by decide) ?_
    rw [if_neg h1]
    refine g_aload_n (n := 21) rfl rfl ?_
    refine g_iconst (n := 22) (v := 1) rfl rfl ?_
    refine g_cv1 (n := 25) (t := 140) (ci := 12) rfl (by decide +kernel) (by decide +kernel) (by decide) (by decide) (by decide +kernel) (by rfl) (c_finds (k := 1) (by omega)) (by omega) (g_E ?_)
    try simp only [mR_125, mR_up, mR_w124, mR_r124, mR_w126, mR_r126, mR_w128, mR_r128, mR_w130, mR_r130, mR_w131, mR_r131, mR_w132, mR_r132, mR_w133, mR_r133, mR_w134, mR_r134, mR_w135, mR_r135]
    refine g_iret (n := 26) rfl (fun h => nomatch h) ?_
    exact qD_e (by decide) mX.rfl'
theorem c_as {sc : List Value} {nm : Nat} {I : mg_I} {d0 : Nat → Int32} {g k : Int32} (hN : iR (d0 0) 9) : SP sc 4 180 [.ref 124, .int g, .int k] (mR I d0) nm (qD I (oAs d0 g k) nm) := by
  refine SP.of (h := 3) (t := 180) (q := (yX12_as, cX12_as, 4, (some .int), 12, 1295, mi_k180)) rfl (by decide) (show ¬ (4 : Nat) < 3 by decide) (fun d hd => ?_)
  show GG sc 12 false false mi_k180 d 0 [.ref 124, .int g, .int k, .null] [] (mR I d0) nm (qD I (oAs d0 g k) nm)
  unfold oAs
  refine g_aload_n (n := 1) rfl rfl ?_
  refine g_iload_n (n := 2) rfl rfl ?_
  refine g_cv1 (n := 5) (t := 143) (ci := 12) rfl (by decide +kernel) (by decide +kernel) (by decide) (by decide) (by decide +kernel) (by rfl) (c_isGoer (by assumption)) (by omega) (g_E ?_)
  try simp only [mR_125, mR_up, mR_w124, mR_r124, mR_w126, mR_r126, mR_w128, mR_r128, mR_w130, mR_r130, mR_w131, mR_r131, mR_w132, mR_r132, mR_w133, mR_r133, mR_w134, mR_r134, mR_w135, mR_r135]
  refine g_split (fun h1 => ?_) (fun h1 => ?_)
  ·
    refine g_ifeq1 (n := 8) 20 rfl (by decide) ?_
    rw [if_pos h1]
    refine g_iload_n (n := 9) rfl rfl ?_
    refine g_i2l (n := 10) rfl ?_
    refine g_lconst (n := 11) (v := 0) rfl rfl ?_
    refine g_ldc2 (n := 14) (v := 6) (pl := 1296) rfl (by decide +kernel) ?_
    refine g_cs3 (n := 17) (t := 141) (x := (1141, 1142, 84)) rfl (by decide +kernel) (by decide +kernel) (by rfl) (c_inI (a := 0) (b := 6) rfl rfl) (by omega) (g_E ?_)
    try simp only [mR_125, mR_up, mR_w124, mR_r124, mR_w126, mR_r126, mR_w128, mR_r128, mR_w130, mR_r130, mR_w131, mR_r131, mR_w132, mR_r132, mR_w133, mR_r133, mR_w134, mR_r134, mR_w135, mR_r135]
    refine g_split (fun h2 => ?_) (fun h2 => ?_)
    ·
      refine g_ifne1 (n := 20) 26 rfl (by decide) ?_
      rw [if_pos h2]
      obtain ⟨gg, hgg, rfl, hcg⟩ := iR_nI (x := g) (n := fN d0) ⟨by omega, by omega⟩
      have hg8 := (fN_eq hN).2
      rw [show cl (nI gg) = gg from hcg]
      refine g_aload_n (n := 27) rfl rfl ?_
      refine g_iload_n (n := 28) rfl rfl ?_
      refine g_iconst (n := 29) (v := 0) rfl rfl ?_
      refine g_cv2 (n := 32) (t := 145) (ci := 12) rfl (by decide +kernel) (by decide +kernel) (by decide) (by decide) (by decide +kernel) (by rfl) (c_of (g := gg) (w := 0) (by omega) (by omega)) (by omega) (g_E ?_)
      try simp only [mR_125, mR_up, mR_w124, mR_r124, mR_w126, mR_r126, mR_w128, mR_r128, mR_w130, mR_r130, mR_w131, mR_r131, mR_w132, mR_r132, mR_w133, mR_r133, mR_w134, mR_r134, mR_w135, mR_r135]
      refine g_istore_n3 (n := 33) rfl rfl ?_
      refine g_iload_n (n := 34) rfl rfl ?_
      refine g_ifeq (n := 37) 50 rfl (by decide) (fun h3 => ?_) (fun h3 => ?_)
      ·
        rw [if_pos h3]
        refine g_aload_n (n := 51) rfl rfl ?_
        refine g_iload_n (n := 52) rfl rfl ?_
        refine g_iconst (n := 53) (v := 1) rfl rfl ?_
        refine g_cv2 (n := 56) (t := 145) (ci := 12) rfl (by decide +kernel) (by decide +kernel) (by decide) (by decide) (by decide +kernel) (by rfl) (c_of (g := gg) (w := 1) (by omega) (by omega)) (by omega) (g_E ?_)
        try simp only [mR_125, mR_up, mR_w124, mR_r124, mR_w126, mR_r126, mR_w128, mR_r128, mR_w130, mR_r130, mR_w131, mR_r131, mR_w132, mR_r132, mR_w133, mR_r133, mR_w134, mR_r134, mR_w135, mR_r135]
        refine g_goto 64 rfl (by decide) ?_
        refine g_iret (n := 65) rfl (fun h => nomatch h) ?_
        exact qD_v mX.rfl'
      ·
        rw [if_neg h3]
        refine g_iload_n (n := 38) rfl rfl ?_
        refine g_iload_n (n := 39) rfl rfl ?_
        refine g_iceq (n := 42) 50 rfl (by decide) (fun h4 => ?_) (fun h4 => ?_)
        ·
          rw [if_pos h4]
          refine g_aload_n (n := 51) rfl rfl ?_
          refine g_iload_n (n := 52) rfl rfl ?_
          refine g_iconst (n := 53) (v := 1) rfl rfl ?_
          refine g_cv2 (n := 56) (t := 145) (ci := 12) rfl (by decide +kernel) (by decide +kernel) (by decide) (by decide) (by decide +kernel) (by rfl) (c_of (g := gg) (w := 1) (by omega) (by omega)) (by omega) (g_E ?_)
          try simp only [mR_125, mR_up, mR_w124, mR_r124, mR_w126, mR_r126, mR_w128, mR_r128, mR_w130, mR_r130, mR_w131, mR_r131, mR_w132, mR_r132, mR_w133, mR_r133, mR_w134, mR_r134, mR_w135, mR_r135]
          refine g_goto 64 rfl (by decide) ?_
          refine g_iret (n := 65) rfl (fun h => nomatch h) ?_
          exact qD_v mX.rfl'
        ·
          rw [if_neg h4]
          refine g_iload_n (n := 43) rfl rfl ?_
          refine g_iload_n (n := 44) rfl rfl ?_
          refine g_cs1 (n := 47) (t := 179) (x := (1297, 1298, 84)) rfl (by decide +kernel) (by decide +kernel) (by rfl) c_above (by omega) (g_E ?_)
          try simp only [mR_125, mR_up, mR_w124, mR_r124, mR_w126, mR_r126, mR_w128, mR_r128, mR_w130, mR_r130, mR_w131, mR_r131, mR_w132, mR_r132, mR_w133, mR_r133, mR_w134, mR_r134, mR_w135, mR_r135]
          refine g_icne (n := 50) 59 rfl (by decide) (fun h5 => ?_) (fun h5 => ?_)
          ·
            rw [if_neg h5]
            refine g_aload_n (n := 60) rfl rfl ?_
            refine g_iconst (n := 61) (v := 5) rfl rfl ?_
            refine g_cv1 (n := 64) (t := 140) (ci := 12) rfl (by decide +kernel) (by decide +kernel) (by decide) (by decide) (by decide +kernel) (by rfl) (c_finds (k := 5) (by omega)) (by omega) (g_E ?_)
            try simp only [mR_125, mR_up, mR_w124, mR_r124, mR_w126, mR_r126, mR_w128, mR_r128, mR_w130, mR_r130, mR_w131, mR_r131, mR_w132, mR_r132, mR_w133, mR_r133, mR_w134, mR_r134, mR_w135, mR_r135]
            refine g_iret (n := 65) rfl (fun h => nomatch h) ?_
            exact qD_e (by decide) mX.rfl'
          ·
            rw [if_pos h5]
            refine g_aload_n (n := 51) rfl rfl ?_
            refine g_iload_n (n := 52) rfl rfl ?_
            refine g_iconst (n := 53) (v := 1) rfl rfl ?_
            refine g_cv2 (n := 56) (t := 145) (ci := 12) rfl (by decide +kernel) (by decide +kernel) (by decide) (by decide) (by decide +kernel) (by rfl) (c_of (g := gg) (w := 1) (by omega) (by omega)) (by omega) (g_E ?_)
            try simp only [mR_125, mR_up, mR_w124, mR_r124, mR_w126, mR_r126, mR_w128, mR_r128, mR_w130, mR_r130, mR_w131, mR_r131, mR_w132, mR_r132, mR_w133, mR_r133, mR_w134, mR_r134, mR_w135, mR_r135]
            refine g_goto 64 rfl (by decide) ?_
            refine g_iret (n := 65) rfl (fun h => nomatch h) ?_
            exact qD_v mX.rfl'
    ·
      refine g_ifne0 (n := 20) 26 rfl (by decide) ?_
      rw [if_neg h2]
      refine g_aload_n (n := 21) rfl rfl ?_
      refine g_iconst (n := 22) (v := 1) rfl rfl ?_
      refine g_cv1 (n := 25) (t := 140) (ci := 12) rfl (by decide +kernel) (by decide +kernel) (by decide) (by decide) (by decide +kernel) (by rfl) (c_finds (k := 1) (by omega)) (by omega) (g_E ?_)
      try simp only [mR_125, mR_up, mR_w124, mR_r124, mR_w126, mR_r126, mR_w128, mR_r128, mR_w130, mR_r130, mR_w131, mR_r131, mR_w132, mR_r132, mR_w133, mR_r133, mR_w134, mR_r134, mR_w135, mR_r135]
      refine g_iret (n := 26) rfl (fun h => nomatch h) ?_
      exact qD_e (by decide) mX.rfl'
  ·
    refine g_ifeq0 (n := 8) 20 rfl (by decide) ?_
    rw [if_neg h1]
    refine g_aload_n (n := 21) rfl rfl ?_
    refine g_iconst (n := 22) (v := 1) rfl rfl ?_
    refine g_cv1 (n := 25) (t := 140) (ci := 12) rfl (by decide +kernel) (by decide +kernel) (by decide) (by decide) (by decide +kernel) (by rfl) (c_finds (k := 1) (by omega)) (by omega) (g_E ?_)
    try simp only [mR_125, mR_up, mR_w124, mR_r124, mR_w126, mR_r126, mR_w128, mR_r128, mR_w130, mR_r130, mR_w131, mR_r131, mR_w132, mR_r132, mR_w133, mR_r133, mR_w134, mR_r134, mR_w135, mR_r135]
    refine g_iret (n := 26) rfl (fun h => nomatch h) ?_
    exact qD_e (by decide) mX.rfl'
theorem c_start {sc : List Value} {nm : Nat} {I : mg_I} {d0 : Nat → Int32} {g s : Int32} (hN : iR (d0 0) 9) : SP sc 4 181 [.ref 124, .int g, .int s] (mR I d0) nm (qD I (oStart d0 g s) nm) := by
  refine SP.of (h := 3) (t := 181) (q := (yX12_start, cX12_start, 4, (some .int), 12, 1303, mi_k181)) rfl (by decide) (show ¬ (4 : Nat) < 3 by decide) (fun d hd => ?_)
  show GG sc 12 false false mi_k181 d 0 [.ref 124, .int g, .int s, .null] [] (mR I d0) nm (qD I (oStart d0 g s) nm)
  unfold oStart
  refine g_aload_n (n := 1) rfl rfl ?_
  refine g_iload_n (n := 2) rfl rfl ?_
  refine g_cv1 (n := 5) (t := 143) (ci := 12) rfl (by decide +kernel) (by decide +kernel) (by decide) (by decide) (by decide +kernel) (by rfl) (c_isGoer (by assumption)) (by omega) (g_E ?_)
  try simp only [mR_125, mR_up, mR_w124, mR_r124, mR_w126, mR_r126, mR_w128, mR_r128, mR_w130, mR_r130, mR_w131, mR_r131, mR_w132, mR_r132, mR_w133, mR_r133, mR_w134, mR_r134, mR_w135, mR_r135]
  refine g_split (fun h1 => ?_) (fun h1 => ?_)
  ·
    refine g_ifeq1 (n := 8) 20 rfl (by decide) ?_
    rw [if_pos h1]
    refine g_iload_n (n := 9) rfl rfl ?_
    refine g_i2l (n := 10) rfl ?_
    refine g_lconst (n := 11) (v := 0) rfl rfl ?_
    refine g_ldc2 (n := 14) (v := 999) (pl := 1250) rfl (by decide +kernel) ?_
    refine g_cs3 (n := 17) (t := 141) (x := (1141, 1142, 84)) rfl (by decide +kernel) (by decide +kernel) (by rfl) (c_inI (a := 0) (b := 999) rfl rfl) (by omega) (g_E ?_)
    try simp only [mR_125, mR_up, mR_w124, mR_r124, mR_w126, mR_r126, mR_w128, mR_r128, mR_w130, mR_r130, mR_w131, mR_r131, mR_w132, mR_r132, mR_w133, mR_r133, mR_w134, mR_r134, mR_w135, mR_r135]
    refine g_split (fun h2 => ?_) (fun h2 => ?_)
    ·
      refine g_ifne1 (n := 20) 26 rfl (by decide) ?_
      rw [if_pos h2]
      obtain ⟨gg, hgg, rfl, hcg⟩ := iR_nI (x := g) (n := fN d0) ⟨by omega, by omega⟩
      have hg8 := (fN_eq hN).2
      rw [show cl (nI gg) = gg from hcg]
      refine g_aload_n (n := 27) rfl rfl ?_
      refine g_iload_n (n := 28) rfl rfl ?_
      refine g_iconst (n := 29) (v := 5) rfl rfl ?_
      refine g_cv2 (n := 32) (t := 145) (ci := 12) rfl (by decide +kernel) (by decide +kernel) (by decide) (by decide) (by decide +kernel) (by rfl) (c_of (g := gg) (w := 5) (by omega) (by omega)) (by omega) (g_E ?_)
      try simp only [mR_125, mR_up, mR_w124, mR_r124, mR_w126, mR_r126, mR_w128, mR_r128, mR_w130, mR_r130, mR_w131, mR_r131, mR_w132, mR_r132, mR_w133, mR_r133, mR_w134, mR_r134, mR_w135, mR_r135]
      refine g_ifeq (n := 35) 41 rfl (by decide) (fun h3 => ?_) (fun h3 => ?_)
      ·
        rw [if_pos h3]
        refine g_aload_n (n := 42) rfl rfl ?_
        refine g_iload_n (n := 43) rfl rfl ?_
        refine g_iconst (n := 44) (v := 4) rfl rfl ?_
        refine g_cv2 (n := 47) (t := 145) (ci := 12) rfl (by decide +kernel) (by decide +kernel) (by decide) (by decide) (by decide +kernel) (by rfl) (c_of (g := gg) (w := 4) (by omega) (by omega)) (by omega) (g_E ?_)
        try simp only [mR_125, mR_up, mR_w124, mR_r124, mR_w126, mR_r126, mR_w128, mR_r128, mR_w130, mR_r130, mR_w131, mR_r131, mR_w132, mR_r132, mR_w133, mR_r133, mR_w134, mR_r134, mR_w135, mR_r135]
        refine g_istore_n3 (n := 48) rfl rfl ?_
        refine g_aload_n (n := 49) rfl rfl ?_
        refine g_iload_n (n := 50) rfl rfl ?_
        refine g_iconst (n := 51) (v := 4) rfl rfl ?_
        refine g_iload_n (n := 52) rfl rfl ?_
        refine g_cv3 (n := 55) (t := 146) (ci := 12) rfl (by decide +kernel) (by decide +kernel) (by decide) (by decide) (by decide +kernel) (by rfl) (c_sets (g := gg) (w := 4) (by omega) (by omega)) (by omega) (g_Z ?_)
        try simp only [mR_125, mR_up, mR_w124, mR_r124, mR_w126, mR_r126, mR_w128, mR_r128, mR_w130, mR_r130, mR_w131, mR_r131, mR_w132, mR_r132, mR_w133, mR_r133, mR_w134, mR_r134, mR_w135, mR_r135]
        refine g_iload_n (n := 56) rfl rfl ?_
        refine g_iret (n := 57) rfl (fun h => nomatch h) ?_
        exact qD_v mX.rfl'
      ·
        rw [if_neg h3]
        refine g_aload_n (n := 36) rfl rfl ?_
        refine g_iconst (n := 37) (v := 3) rfl rfl ?_
        refine g_cv1 (n := 40) (t := 140) (ci := 12) rfl (by decide +kernel) (by decide +kernel) (by decide) (by decide) (by decide +kernel) (by rfl) (c_finds (k := 3) (by omega)) (by omega) (g_E ?_)
        try simp only [mR_125, mR_up, mR_w124, mR_r124, mR_w126, mR_r126, mR_w128, mR_r128, mR_w130, mR_r130, mR_w131, mR_r131, mR_w132, mR_r132, mR_w133, mR_r133, mR_w134, mR_r134, mR_w135, mR_r135]
        refine g_iret (n := 41) rfl (fun h => nomatch h) ?_
        exact qD_e (by decide) mX.rfl'
    ·
      refine g_ifne0 (n := 20) 26 rfl (by decide) ?_
      rw [if_neg h2]
      refine g_aload_n (n := 21) rfl rfl ?_
      refine g_iconst (n := 22) (v := 1) rfl rfl ?_
      refine g_cv1 (n := 25) (t := 140) (ci := 12) rfl (by decide +kernel) (by decide +kernel) (by decide) (by decide) (by decide +kernel) (by rfl) (c_finds (k := 1) (by omega)) (by omega) (g_E ?_)
      try simp only [mR_125, mR_up, mR_w124, mR_r124, mR_w126, mR_r126, mR_w128, mR_r128, mR_w130, mR_r130, mR_w131, mR_r131, mR_w132, mR_r132, mR_w133, mR_r133, mR_w134, mR_r134, mR_w135, mR_r135]
      refine g_iret (n := 26) rfl (fun h => nomatch h) ?_
      exact qD_e (by decide) mX.rfl'
  ·
    refine g_ifeq0 (n := 8) 20 rfl (by decide) ?_
    rw [if_neg h1]
    refine g_aload_n (n := 21) rfl rfl ?_
    refine g_iconst (n := 22) (v := 1) rfl rfl ?_
    refine g_cv1 (n := 25) (t := 140) (ci := 12) rfl (by decide +kernel) (by decide +kernel) (by decide) (by decide) (by decide +kernel) (by rfl) (c_finds (k := 1) (by omega)) (by omega) (g_E ?_)
    try simp only [mR_125, mR_up, mR_w124, mR_r124, mR_w126, mR_r126, mR_w128, mR_r128, mR_w130, mR_r130, mR_w131, mR_r131, mR_w132, mR_r132, mR_w133, mR_r133, mR_w134, mR_r134, mR_w135, mR_r135]
    refine g_iret (n := 26) rfl (fun h => nomatch h) ?_
    exact qD_e (by decide) mX.rfl'
theorem c_home {sc : List Value} {nm : Nat} {I : mg_I} {d0 : Nat → Int32} {g : Int32} (hN : iR (d0 0) 9) : SP sc 4 182 [.ref 124, .int g] (mR I d0) nm (qD I (oHome d0 g) nm) := by
  refine SP.of (h := 3) (t := 182) (q := (yX12_home, cX12_home, 3, (some .int), 12, 1307, mi_k182)) rfl (by decide) (show ¬ (3 : Nat) < 2 by decide) (fun d hd => ?_)
  show GG sc 12 false false mi_k182 d 0 [.ref 124, .int g, .null] [] (mR I d0) nm (qD I (oHome d0 g) nm)
  unfold oHome
  refine g_aload_n (n := 1) rfl rfl ?_
  refine g_iload_n (n := 2) rfl rfl ?_
  refine g_cv1 (n := 5) (t := 143) (ci := 12) rfl (by decide +kernel) (by decide +kernel) (by decide) (by decide) (by decide +kernel) (by rfl) (c_isGoer (by assumption)) (by omega) (g_E ?_)
  try simp only [mR_125, mR_up, mR_w124, mR_r124, mR_w126, mR_r126, mR_w128, mR_r128, mR_w130, mR_r130, mR_w131, mR_r131, mR_w132, mR_r132, mR_w133, mR_r133, mR_w134, mR_r134, mR_w135, mR_r135]
  refine g_split (fun h1 => ?_) (fun h1 => ?_)
  ·
    refine g_ifne1 (n := 8) 14 rfl (by decide) ?_
    rw [if_pos h1]
    obtain ⟨gg, hgg, rfl, hcg⟩ := iR_nI (x := g) (n := fN d0) ⟨by omega, by omega⟩
    have hg8 := (fN_eq hN).2
    rw [show cl (nI gg) = gg from hcg]
    refine g_aload_n (n := 15) rfl rfl ?_
    refine g_iload_n (n := 16) rfl rfl ?_
    refine g_iconst (n := 17) (v := 5) rfl rfl ?_
    refine g_cv2 (n := 20) (t := 145) (ci := 12) rfl (by decide +kernel) (by decide +kernel) (by decide) (by decide) (by decide +kernel) (by rfl) (c_of (g := gg) (w := 5) (by omega) (by omega)) (by omega) (g_E ?_)
    try simp only [mR_125, mR_up, mR_w124, mR_r124, mR_w126, mR_r126, mR_w128, mR_r128, mR_w130, mR_r130, mR_w131, mR_r131, mR_w132, mR_r132, mR_w133, mR_r133, mR_w134, mR_r134, mR_w135, mR_r135]
    refine g_istore_n2 (n := 21) rfl rfl ?_
    refine g_aload_n (n := 22) rfl rfl ?_
    refine g_iload_n (n := 23) rfl rfl ?_
    refine g_cv1 (n := 26) (t := 175) (ci := 12) rfl (by decide +kernel) (by decide +kernel) (by decide) (by decide) (by decide +kernel) (by rfl) (c_sendHome (g := gg) (by omega)) (by omega) (g_Z ?_)
    try simp only [mR_125, mR_up, mR_w124, mR_r124, mR_w126, mR_r126, mR_w128, mR_r128, mR_w130, mR_r130, mR_w131, mR_r131, mR_w132, mR_r132, mR_w133, mR_r133, mR_w134, mR_r134, mR_w135, mR_r135]
    refine g_iload_n (n := 27) rfl rfl ?_
    refine g_iret (n := 28) rfl (fun h => nomatch h) ?_
    exact qD_v mX.rfl'
  ·
    refine g_ifne0 (n := 8) 14 rfl (by decide) ?_
    rw [if_neg h1]
    refine g_aload_n (n := 9) rfl rfl ?_
    refine g_iconst (n := 10) (v := 1) rfl rfl ?_
    refine g_cv1 (n := 13) (t := 140) (ci := 12) rfl (by decide +kernel) (by decide +kernel) (by decide) (by decide) (by decide +kernel) (by rfl) (c_finds (k := 1) (by omega)) (by omega) (g_E ?_)
    try simp only [mR_125, mR_up, mR_w124, mR_r124, mR_w126, mR_r126, mR_w128, mR_r128, mR_w130, mR_r130, mR_w131, mR_r131, mR_w132, mR_r132, mR_w133, mR_r133, mR_w134, mR_r134, mR_w135, mR_r135]
    refine g_iret (n := 14) rfl (fun h => nomatch h) ?_
    exact qD_e (by decide) mX.rfl'
