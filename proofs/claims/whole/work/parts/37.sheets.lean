/-! the model: sheets -/
theorem sub_toInt {a b : Nat} (ha : a < 2 ^ 31) (hb : b < 2 ^ 31) : (nI a - nI b).toInt = (a : Int) - (b : Int) := by
  rw [Int32.toInt_sub, nI_toInt ha, nI_toInt hb]
  exact Int.bmod_eq_of_le (by omega) (by omega)
def wSh (J : mg_I) : Prop := ∀ s, s < 4 → iR (J 133 s) 41
def vE (e : Nat) (v : Int32) : Int32 := if e = 0 then v else -1000000000 - nI e
def jE (I : mg_I) (e : Nat) (J : mg_I) : mg_I := if e = 0 then J else mf_up I 128 e (I 128 e + 1)
theorem qS_0 {I J : mg_I} {v : Int32} {nm : Nat} : qS (vE 0 v) (jE I 0 J) nm (some (.int v)) J nm := ⟨rfl, mX.rfl', rfl⟩
theorem qS_x {I J K : mg_I} {v : Int32} {nm : Nat} (h : mX J K) : qS (vE 0 v) (jE I 0 J) nm (some (.int v)) K nm := ⟨rfl, h, rfl⟩
theorem qS_k {I J : mg_I} {v : Int32} {e nm : Nat} (he : 0 < e) : qS (vE e v) (jE I e J) nm (some (.int (-1000000000 - nI e))) (mf_up I 128 e (I 128 e + 1)) nm := by
  unfold vE jE
  rw [if_neg (by omega), if_neg (by omega)]
  exact ⟨rfl, mX.rfl', rfl⟩
def eSheet (s b n : Int32) : Nat :=
  if 0 ≤ s.toInt ∧ s.toInt ≤ 3 then
    (if b = 0 then 0 else if b = 8 ∨ b = 16 ∨ b = 32 then (if 0 ≤ n then (if n ≤ 40 then 0 else 1) else 3) else 1)
  else 1
def zS (I : mg_I) (s : Nat) (b n : Int32) (c : Nat) : mg_I := fun a j => if a = 134 ∧ 40 * s ≤ j ∧ j < 40 * s + c then 0 else if a = 133 ∧ j = s then n else if a = 132 ∧ j = s then b else I a j
theorem zS_0 {I : mg_I} {s : Nat} {b n : Int32} : mf_up (mf_up I 132 s b) 133 s n = zS I s b n 0 := by
  funext a j
  unfold mf_up zS
  rw [if_neg (c := a = 134 ∧ _) (by omega)]
theorem zS_s {I : mg_I} {s c : Nat} {b n : Int32} : mf_up (zS I s b n c) 134 (40 * s + c) 0 = zS I s b n (c + 1) := by
  funext a j
  unfold mf_up zS
  by_cases h1 : a = 134 ∧ j = 40 * s + c
  · rw [if_pos h1, if_pos (by omega)]
  · rw [if_neg h1]
    by_cases h2 : a = 134 ∧ 40 * s ≤ j ∧ j < 40 * s + c
    · rw [if_pos h2, if_pos (by omega)]
    · rw [if_neg h2, if_neg (c := a = 134 ∧ 40 * s ≤ j ∧ j < 40 * s + (c + 1)) (by omega)]
def jSheet (I : mg_I) (s : Nat) (b n : Int32) : mg_I := zS I s b (if b = 0 then 0 else n) 40
theorem c_isSheet {sc : List Value} {nm : Nat} {I : mg_I} {s : Int32} : SP sc 2 219 [.int s] I nm (qE (bI (0 ≤ s.toInt ∧ s.toInt ≤ 3)) I nm) := by
  refine SP.of (h := 1) (t := 219) (q := (yX12_isSheet, cX12_isSheet, 1, (some .boolean), 12, 1472, mi_k219)) rfl (by decide) (show ¬ (1 : Nat) < 1 by decide) (fun d hd => ?_)
  show GG sc 12 false true mi_k219 d 0 [.int s] [] I nm (qE (bI (0 ≤ s.toInt ∧ s.toInt ≤ 3)) I nm)
  refine g_iload_n (n := 1) rfl rfl ?_
  refine g_i2l (n := 2) rfl ?_
  refine g_lconst (n := 3) (v := 0) rfl rfl ?_
  refine g_ldc2 (n := 6) (v := 3) (pl := 1437) rfl (by decide +kernel) ?_
  refine g_cs3 (n := 9) (t := 141) (x := (1141, 1142, 84)) rfl (by decide +kernel) (by decide +kernel) (by rfl) (c_inI (a := 0) (b := 3) rfl rfl) (by omega) (g_E ?_)
  refine g_iret (n := 10) rfl (fun _ => by first | exact Or.inl rfl | exact Or.inr rfl | exact bI_01 | (rw [hb]; exact bP_01)) ?_
  exact ⟨rfl, rfl, rfl⟩
theorem c_sheetT {sc : List Value} {nm : Nat} {I : mg_I} {ss d : Nat} {b n nn : Int32} (hss : ss < 4) (hn : nn = if b = 0 then 0 else n) : GG sc 12 false false mi_k220 d 65 [.ref 124, .int (nI ss), .int b, .int n, .null] [] I nm (qS (vE 0 1) (jE I 0 (zS I ss b nn 40)) nm) := by
  have H : ∀ (m k : Nat), k + m = 40 → GG sc 12 false false mi_k220 d 90 [.ref 124, .int (nI ss), .int b, .int n, .int (nI k)] [] (zS I ss b nn k) nm (qS (vE 0 1) (jE I 0 (zS I ss b nn 40)) nm) := by
    intro m
    induction m with
    | zero =>
      intro k hk
      refine g_iload (n := 92) rfl rfl ?_
      refine g_bipush (n := 94) (v := 40) rfl rfl ?_
      refine g_icge (n := 97) 116 rfl (by decide) (fun h1 => ?_) (fun h1 => ?_)
      ·
        refine g_iconst (n := 117) (v := 1) rfl rfl ?_
        refine g_iret (n := 118) rfl (fun h => nomatch h) ?_
        rw [show k = 40 by omega]; exact qS_0
      ·
        exact absurd (fN_nle (n := 40) rfl (by omega) (by omega) h1) (by omega)
    | succ m ih =>
      intro k hk
      refine g_iload (n := 92) rfl rfl ?_
      refine g_bipush (n := 94) (v := 40) rfl rfl ?_
      refine g_icge (n := 97) 116 rfl (by decide) (fun h1 => ?_) (fun h1 => ?_)
      ·
        exact absurd (fN_le (n := 40) rfl (by omega) (by omega) h1) (by omega)
      ·
        refine g_aload_n (n := 98) rfl rfl ?_
        refine g_getr (n := 101) (ci := 12) (j := 23) (b := 134) rfl (by decide +kernel) (by decide) (by decide) (by decide +kernel) ?_
        refine g_bipush (n := 103) (v := 40) rfl rfl ?_
        refine g_iload_n (n := 104) rfl rfl ?_
        refine g_imulN (n := 105) (x := 40) (y := ss) rfl ?_
        refine g_iload (n := 107) rfl rfl ?_
        refine g_iaddN (n := 108) (x := (40 * ss)) (y := k) rfl ?_
        refine g_iconst (n := 109) (v := 0) rfl rfl ?_
        refine g_iast (n := 110) (((40 * ss) + k)) rfl (by decide) rfl (by show _ < 160; omega) ?_
        refine g_iinc4 (n := 113) rfl rfl (nI_inc _) ?_
        refine g_goto 90 rfl (by decide) ?_
        rw [zS_s]
        exact ih (k + 1) (by omega)
  refine g_aload_n (n := 66) rfl rfl ?_
  refine g_getr (n := 69) (ci := 12) (j := 21) (b := 132) rfl (by decide +kernel) (by decide) (by decide) (by decide +kernel) ?_
  refine g_iload_n (n := 70) rfl rfl ?_
  refine g_iload_n (n := 71) rfl rfl ?_
  refine g_iast (n := 72) (ss) rfl (by decide) rfl (by show _ < 4; omega) ?_
  refine g_aload_n (n := 73) rfl rfl ?_
  refine g_getr (n := 76) (ci := 12) (j := 22) (b := 133) rfl (by decide +kernel) (by decide) (by decide) (by decide +kernel) ?_
  refine g_iload_n (n := 77) rfl rfl ?_
  refine g_iload_n (n := 78) rfl rfl ?_
  refine g_ifne (n := 81) 85 rfl (by decide) (fun h1 => ?_) (fun h1 => ?_)
  ·
    rw [if_neg h1] at hn
    subst hn
    refine g_iload_n (n := 86) rfl rfl ?_
    refine g_iast (n := 87) (ss) rfl (by decide) rfl (by show _ < 4; omega) ?_
    refine g_iconst (n := 88) (v := 0) rfl rfl ?_
    refine g_istore4 (n := 90) rfl rfl ?_
    rw [zS_0]
    exact H 40 0 (by omega)
  ·
    rw [if_pos h1] at hn
    subst hn
    refine g_iconst (n := 82) (v := 0) rfl rfl ?_
    refine g_goto 86 rfl (by decide) ?_
    refine g_iast (n := 87) (ss) rfl (by decide) rfl (by show _ < 4; omega) ?_
    refine g_iconst (n := 88) (v := 0) rfl rfl ?_
    refine g_istore4 (n := 90) rfl rfl ?_
    rw [zS_0]
    exact H 40 0 (by omega)
theorem c_sheet {sc : List Value} {nm : Nat} {I : mg_I} {s b n : Int32} : SP sc 4 220 [.ref 124, .int s, .int b, .int n] I nm (qS (vE (eSheet s b n) 1) (jE I (eSheet s b n) (jSheet I (cl s) b n)) nm) := by
  refine SP.of (h := 3) (t := 220) (q := (yX12_sheet, cX12_sheet, 5, (some .int), 12, 1469, mi_k220)) rfl (by decide) (show ¬ (5 : Nat) < 4 by decide) (fun d hd => ?_)
  show GG sc 12 false false mi_k220 d 0 [.ref 124, .int s, .int b, .int n, .null] [] I nm (qS (vE (eSheet s b n) 1) (jE I (eSheet s b n) (jSheet I (cl s) b n)) nm)
  unfold eSheet jSheet
  refine g_iload_n (n := 1) rfl rfl ?_
  refine g_cs1 (n := 4) (t := 219) (x := (1470, 1471, 84)) rfl (by decide +kernel) (by decide +kernel) (by rfl) c_isSheet (by omega) (g_E ?_)
  refine g_split (fun h1 => ?_) (fun h1 => ?_)
  ·
    refine g_ifeq1 (n := 7) 29 rfl (by decide) ?_
    rw [if_pos h1]
    obtain ⟨ss, hss, rfl, hcs⟩ := iR_nI (x := s) (n := 4) ⟨by omega, by omega⟩
    rw [show cl (nI ss) = ss from hcs]
    by_cases hb0 : b = 0
    · subst hb0
      rw [if_pos rfl]
      refine g_iload_n (n := 8) rfl rfl ?_
      refine g_ifeq0 (n := 11) 35 rfl (by decide) ?_
      refine g_iload_n (n := 36) rfl rfl ?_
      refine g_ifeq0 (n := 39) 49 rfl (by decide) ?_
      refine g_iload_n (n := 50) rfl rfl ?_
      refine g_ifeq0 (n := 53) 65 rfl (by decide) ?_
      exact c_sheetT hss rfl
    by_cases hb8 : b = 8
    · subst hb8
      rw [if_neg (by decide), if_pos (by decide)]
      refine g_iload_n (n := 8) rfl rfl ?_
      refine g_ifeq (n := 11) 35 rfl (by decide) (fun h => absurd h (by decide)) (fun _ => ?_)
      refine g_iload_n (n := 12) rfl rfl ?_
      refine g_bipush (n := 14) (v := 8) rfl rfl ?_
      refine g_iceq (n := 17) 35 rfl (by decide) (fun _ => ?_) (fun h => absurd (by decide) h)
      refine g_iload_n (n := 36) rfl rfl ?_
      refine g_ifeq (n := 39) 49 rfl (by decide) (fun h => absurd h (by decide)) (fun _ => ?_)
      refine g_iload_n (n := 40) rfl rfl ?_
      refine g_ifge (n := 43) 49 rfl (by decide) (fun h2 => ?_) (fun h2 => ?_)
      ·
        rw [if_pos h2]
        refine g_iload_n (n := 50) rfl rfl ?_
        refine g_ifeq (n := 53) 65 rfl (by decide) (fun h => absurd h (by decide)) (fun _ => ?_)
        refine g_iload_n (n := 54) rfl rfl ?_
        refine g_bipush (n := 56) (v := 40) rfl rfl ?_
        refine g_icle (n := 59) 65 rfl (by decide) (fun h3 => ?_) (fun h3 => ?_)
        ·
          rw [if_pos h3]
          exact c_sheetT hss rfl
        ·
          rw [if_neg h3]
          refine g_aload_n (n := 60) rfl rfl ?_
          refine g_iconst (n := 61) (v := 1) rfl rfl ?_
          refine g_cv1 (n := 64) (t := 140) (ci := 12) rfl (by decide +kernel) (by decide +kernel) (by decide) (by decide) (by decide +kernel) (by rfl) (c_finds (k := 1) (by omega)) (by omega) (g_E ?_)
          refine g_iret (n := 65) rfl (fun h => nomatch h) ?_
          exact qS_k (by decide)
      ·
        rw [if_neg h2]
        refine g_aload_n (n := 44) rfl rfl ?_
        refine g_iconst (n := 45) (v := 3) rfl rfl ?_
        refine g_cv1 (n := 48) (t := 140) (ci := 12) rfl (by decide +kernel) (by decide +kernel) (by decide) (by decide) (by decide +kernel) (by rfl) (c_finds (k := 3) (by omega)) (by omega) (g_E ?_)
        refine g_iret (n := 49) rfl (fun h => nomatch h) ?_
        exact qS_k (by decide)
    by_cases hb16 : b = 16
    · subst hb16
      rw [if_neg (by decide), if_pos (by decide)]
      refine g_iload_n (n := 8) rfl rfl ?_
      refine g_ifeq (n := 11) 35 rfl (by decide) (fun h => absurd h (by decide)) (fun _ => ?_)
      refine g_iload_n (n := 12) rfl rfl ?_
      refine g_bipush (n := 14) (v := 8) rfl rfl ?_
      refine g_iceq (n := 17) 35 rfl (by decide) (fun h => absurd h (by decide)) (fun _ => ?_)
      refine g_iload_n (n := 18) rfl rfl ?_
      refine g_bipush (n := 20) (v := 16) rfl rfl ?_
      refine g_iceq (n := 23) 35 rfl (by decide) (fun _ => ?_) (fun h => absurd (by decide) h)
      refine g_iload_n (n := 36) rfl rfl ?_
      refine g_ifeq (n := 39) 49 rfl (by decide) (fun h => absurd h (by decide)) (fun _ => ?_)
      refine g_iload_n (n := 40) rfl rfl ?_
      refine g_ifge (n := 43) 49 rfl (by decide) (fun h4 => ?_) (fun h4 => ?_)
      ·
        rw [if_pos h4]
        refine g_iload_n (n := 50) rfl rfl ?_
        refine g_ifeq (n := 53) 65 rfl (by decide) (fun h => absurd h (by decide)) (fun _ => ?_)
        refine g_iload_n (n := 54) rfl rfl ?_
        refine g_bipush (n := 56) (v := 40) rfl rfl ?_
        refine g_icle (n := 59) 65 rfl (by decide) (fun h5 => ?_) (fun h5 => ?_)
        ·
          rw [if_pos h5]
          exact c_sheetT hss rfl
        ·
          rw [if_neg h5]
          refine g_aload_n (n := 60) rfl rfl ?_
          refine g_iconst (n := 61) (v := 1) rfl rfl ?_
          refine g_cv1 (n := 64) (t := 140) (ci := 12) rfl (by decide +kernel) (by decide +kernel) (by decide) (by decide) (by decide +kernel) (by rfl) (c_finds (k := 1) (by omega)) (by omega) (g_E ?_)
          refine g_iret (n := 65) rfl (fun h => nomatch h) ?_
          exact qS_k (by decide)
      ·
        rw [if_neg h4]
        refine g_aload_n (n := 44) rfl rfl ?_
        refine g_iconst (n := 45) (v := 3) rfl rfl ?_
        refine g_cv1 (n := 48) (t := 140) (ci := 12) rfl (by decide +kernel) (by decide +kernel) (by decide) (by decide) (by decide +kernel) (by rfl) (c_finds (k := 3) (by omega)) (by omega) (g_E ?_)
        refine g_iret (n := 49) rfl (fun h => nomatch h) ?_
        exact qS_k (by decide)
    by_cases hb32 : b = 32
    · subst hb32
      rw [if_neg (by decide), if_pos (by decide)]
      refine g_iload_n (n := 8) rfl rfl ?_
      refine g_ifeq (n := 11) 35 rfl (by decide) (fun h => absurd h (by decide)) (fun _ => ?_)
      refine g_iload_n (n := 12) rfl rfl ?_
      refine g_bipush (n := 14) (v := 8) rfl rfl ?_
      refine g_iceq (n := 17) 35 rfl (by decide) (fun h => absurd h (by decide)) (fun _ => ?_)
      refine g_iload_n (n := 18) rfl rfl ?_
      refine g_bipush (n := 20) (v := 16) rfl rfl ?_
      refine g_iceq (n := 23) 35 rfl (by decide) (fun h => absurd h (by decide)) (fun _ => ?_)
      refine g_iload_n (n := 24) rfl rfl ?_
      refine g_bipush (n := 26) (v := 32) rfl rfl ?_
      refine g_iceq (n := 29) 35 rfl (by decide) (fun _ => ?_) (fun h => absurd (by decide) h)
      refine g_iload_n (n := 36) rfl rfl ?_
      refine g_ifeq (n := 39) 49 rfl (by decide) (fun h => absurd h (by decide)) (fun _ => ?_)
      refine g_iload_n (n := 40) rfl rfl ?_
      refine g_ifge (n := 43) 49 rfl (by decide) (fun h6 => ?_) (fun h6 => ?_)
      ·
        rw [if_pos h6]
        refine g_iload_n (n := 50) rfl rfl ?_
        refine g_ifeq (n := 53) 65 rfl (by decide) (fun h => absurd h (by decide)) (fun _ => ?_)
        refine g_iload_n (n := 54) rfl rfl ?_
        refine g_bipush (n := 56) (v := 40) rfl rfl ?_
        refine g_icle (n := 59) 65 rfl (by decide) (fun h7 => ?_) (fun h7 => ?_)
        ·
          rw [if_pos h7]
          exact c_sheetT hss rfl
        ·
          rw [if_neg h7]
          refine g_aload_n (n := 60) rfl rfl ?_
          refine g_iconst (n := 61) (v := 1) rfl rfl ?_
          refine g_cv1 (n := 64) (t := 140) (ci := 12) rfl (by decide +kernel) (by decide +kernel) (by decide) (by decide) (by decide +kernel) (by rfl) (c_finds (k := 1) (by omega)) (by omega) (g_E ?_)
          refine g_iret (n := 65) rfl (fun h => nomatch h) ?_
          exact qS_k (by decide)
      ·
        rw [if_neg h6]
        refine g_aload_n (n := 44) rfl rfl ?_
        refine g_iconst (n := 45) (v := 3) rfl rfl ?_
        refine g_cv1 (n := 48) (t := 140) (ci := 12) rfl (by decide +kernel) (by decide +kernel) (by decide) (by decide) (by decide +kernel) (by rfl) (c_finds (k := 3) (by omega)) (by omega) (g_E ?_)
        refine g_iret (n := 49) rfl (fun h => nomatch h) ?_
        exact qS_k (by decide)
    rw [if_neg hb0, if_neg (fun q => q.elim hb8 (fun q => q.elim hb16 hb32))]
    refine g_iload_n (n := 8) rfl rfl ?_
    refine g_ifeq (n := 11) 35 rfl (by decide) (fun h8 => ?_) (fun h8 => ?_)
    ·
      exact absurd h8 hb0
    ·
      refine g_iload_n (n := 12) rfl rfl ?_
      refine g_bipush (n := 14) (v := 8) rfl rfl ?_
      refine g_iceq (n := 17) 35 rfl (by decide) (fun h9 => ?_) (fun h9 => ?_)
      ·
        exact absurd h9 hb8
      ·
        refine g_iload_n (n := 18) rfl rfl ?_
        refine g_bipush (n := 20) (v := 16) rfl rfl ?_
        refine g_iceq (n := 23) 35 rfl (by decide) (fun h10 => ?_) (fun h10 => ?_)
        ·
          exact absurd h10 hb16
        ·
          refine g_iload_n (n := 24) rfl rfl ?_
          refine g_bipush (n := 26) (v := 32) rfl rfl ?_
          refine g_iceq (n := 29) 35 rfl (by decide) (fun h11 => ?_) (fun h11 => ?_)
          ·
            exact absurd h11 hb32
          ·
            refine g_aload_n (n := 30) rfl rfl ?_
            refine g_iconst (n := 31) (v := 1) rfl rfl ?_
            refine g_cv1 (n := 34) (t := 140) (ci := 12) rfl (by decide +kernel) (by decide +kernel) (by decide) (by decide) (by decide +kernel) (by rfl) (c_finds (k := 1) (by omega)) (by omega) (g_E ?_)
            refine g_iret (n := 35) rfl (fun h => nomatch h) ?_
            exact qS_k (by decide)
  ·
    refine g_ifeq0 (n := 7) 29 rfl (by decide) ?_
    rw [if_neg h1]
    refine g_aload_n (n := 30) rfl rfl ?_
    refine g_iconst (n := 31) (v := 1) rfl rfl ?_
    refine g_cv1 (n := 34) (t := 140) (ci := 12) rfl (by decide +kernel) (by decide +kernel) (by decide) (by decide) (by decide +kernel) (by rfl) (c_finds (k := 1) (by omega)) (by omega) (g_E ?_)
    refine g_iret (n := 35) rfl (fun h => nomatch h) ?_
    exact qS_k (by decide)
def fLow (b x : Int32) : Int32 := if b = 8 then x.toInt8.toInt32 else if b = 16 then x.toInt16.toInt32 else x
def ePut (I : mg_I) (s i : Int32) : Nat :=
  if 0 ≤ s.toInt ∧ s.toInt ≤ 3 then (if I 132 (cl s) = 0 then 2 else if 0 ≤ i.toInt ∧ i.toInt < (cl (I 133 (cl s)) : Int) then 0 else 1) else 1
def jPut (I : mg_I) (s i x : Int32) : mg_I := mf_up I 134 (40 * cl s + cl i) (fLow (I 132 (cl s)) x)
theorem c_put {sc : List Value} {nm : Nat} {I : mg_I} {s i x : Int32} (hw : wSh I) : SP sc 4 221 [.ref 124, .int s, .int i, .int x] I nm (qS (vE (ePut I s i) 1) (jE I (ePut I s i) (jPut I s i x)) nm) := by
  refine SP.of (h := 3) (t := 221) (q := (yX12_put, cX12_put, 4, (some .int), 12, 1476, mi_k221)) rfl (by decide) (show ¬ (4 : Nat) < 4 by decide) (fun d hd => ?_)
  show GG sc 12 false false mi_k221 d 0 [.ref 124, .int s, .int i, .int x] [] I nm (qS (vE (ePut I s i) 1) (jE I (ePut I s i) (jPut I s i x)) nm)
  unfold ePut
  refine g_iload_n (n := 1) rfl rfl ?_
  refine g_cs1 (n := 4) (t := 219) (x := (1470, 1471, 84)) rfl (by decide +kernel) (by decide +kernel) (by rfl) c_isSheet (by omega) (g_E ?_)
  refine g_split (fun h1 => ?_) (fun h1 => ?_)
  ·
    refine g_ifne1 (n := 7) 13 rfl (by decide) ?_
    rw [if_pos h1]
    obtain ⟨ss, hss, rfl, hcs⟩ := iR_nI (x := s) (n := 4) ⟨by omega, by omega⟩
    rw [show cl (nI ss) = ss from hcs]
    obtain ⟨u, hu1, hu, hcu⟩ := iR_nI (hw ss hss)
    rw [show cl (I 133 ss) = u from hcu]
    refine g_aload_n (n := 14) rfl rfl ?_
    refine g_getr (n := 17) (ci := 12) (j := 21) (b := 132) rfl (by decide +kernel) (by decide) (by decide) (by decide +kernel) ?_
    refine g_iload_n (n := 18) rfl rfl ?_
    refine g_iald (n := 19) (ss) rfl (by decide) rfl (by show _ < 4; omega) ?_
    refine g_ifne (n := 22) 28 rfl (by decide) (fun h2 => ?_) (fun h2 => ?_)
    ·
      rw [if_neg h2]
      refine g_iload_n (n := 29) rfl rfl ?_
      refine g_i2l (n := 30) rfl ?_
      refine g_lconst (n := 31) (v := 0) rfl rfl ?_
      refine g_aload_n (n := 32) rfl rfl ?_
      refine g_getr (n := 35) (ci := 12) (j := 22) (b := 133) rfl (by decide +kernel) (by decide) (by decide) (by decide +kernel) ?_
      refine g_iload_n (n := 36) rfl rfl ?_
      refine g_iald (n := 37) (ss) rfl (by decide) rfl (by show _ < 4; omega) ?_
      refine g_iconst (n := 38) (v := 1) rfl rfl ?_
      refine g_isub (n := 39) rfl ?_
      refine g_i2l (n := 40) rfl ?_
      refine g_cs3 (n := 43) (t := 141) (x := (1141, 1142, 84)) rfl (by decide +kernel) (by decide +kernel) (by rfl) (c_inI (a := 0) (b := (u : Int) - 1) rfl (by rw [Int32.toInt_toInt64, hu]; exact pred_toInt (by omega))) (by omega) (g_E ?_)
      refine g_split (fun h1 => ?_) (fun h1 => ?_)
      ·
        refine g_ifne1 (n := 46) 52 rfl (by decide) ?_
        rw [if_pos (by omega)]
        obtain ⟨ii, hii, rfl, hci⟩ := iR_nI (x := i) (n := u) ⟨by omega, by omega⟩
        unfold jPut
        rw [show cl (nI ii) = ii from hci, show cl (nI ss) = ss from hcs]
        unfold fLow
        refine g_aload_n (n := 53) rfl rfl ?_
        refine g_getr (n := 56) (ci := 12) (j := 23) (b := 134) rfl (by decide +kernel) (by decide) (by decide) (by decide +kernel) ?_
        refine g_bipush (n := 58) (v := 40) rfl rfl ?_
        refine g_iload_n (n := 59) rfl rfl ?_
        refine g_imulN (n := 60) (x := 40) (y := ss) rfl ?_
        refine g_iload_n (n := 61) rfl rfl ?_
        refine g_iaddN (n := 62) (x := (40 * ss)) (y := ii) rfl ?_
        refine g_aload_n (n := 63) rfl rfl ?_
        refine g_getr (n := 66) (ci := 12) (j := 21) (b := 132) rfl (by decide +kernel) (by decide) (by decide) (by decide +kernel) ?_
        refine g_iload_n (n := 67) rfl rfl ?_
        refine g_iald (n := 68) (ss) rfl (by decide) rfl (by show _ < 4; omega) ?_
        refine g_bipush (n := 70) (v := 8) rfl rfl ?_
        refine g_icne (n := 73) 78 rfl (by decide) (fun h3 => ?_) (fun h3 => ?_)
        ·
          rw [if_neg h3]
          refine g_aload_n (n := 79) rfl rfl ?_
          refine g_getr (n := 82) (ci := 12) (j := 21) (b := 132) rfl (by decide +kernel) (by decide) (by decide) (by decide +kernel) ?_
          refine g_iload_n (n := 83) rfl rfl ?_
          refine g_iald (n := 84) (ss) rfl (by decide) rfl (by show _ < 4; omega) ?_
          refine g_bipush (n := 86) (v := 16) rfl rfl ?_
          refine g_icne (n := 89) 94 rfl (by decide) (fun h4 => ?_) (fun h4 => ?_)
          ·
            rw [if_neg h4]
            refine g_iload_n (n := 95) rfl rfl ?_
            refine g_iast (n := 96) (((40 * ss) + ii)) rfl (by decide) rfl (by show _ < 160; omega) ?_
            refine g_iconst (n := 97) (v := 1) rfl rfl ?_
            refine g_iret (n := 98) rfl (fun h => nomatch h) ?_
            exact qS_0
          ·
            rw [if_pos h4]
            refine g_iload_n (n := 90) rfl rfl ?_
            refine g_i2s (n := 91) rfl ?_
            refine g_goto 95 rfl (by decide) ?_
            refine g_iast (n := 96) (((40 * ss) + ii)) rfl (by decide) rfl (by show _ < 160; omega) ?_
            refine g_iconst (n := 97) (v := 1) rfl rfl ?_
            refine g_iret (n := 98) rfl (fun h => nomatch h) ?_
            exact qS_0
        ·
          rw [if_pos h3]
          refine g_iload_n (n := 74) rfl rfl ?_
          refine g_i2b (n := 75) rfl ?_
          refine g_goto 95 rfl (by decide) ?_
          refine g_iast (n := 96) (((40 * ss) + ii)) rfl (by decide) rfl (by show _ < 160; omega) ?_
          refine g_iconst (n := 97) (v := 1) rfl rfl ?_
          refine g_iret (n := 98) rfl (fun h => nomatch h) ?_
          exact qS_0
      ·
        refine g_ifne0 (n := 46) 52 rfl (by decide) ?_
        rw [if_neg (by omega)]
        refine g_aload_n (n := 47) rfl rfl ?_
        refine g_iconst (n := 48) (v := 1) rfl rfl ?_
        refine g_cv1 (n := 51) (t := 140) (ci := 12) rfl (by decide +kernel) (by decide +kernel) (by decide) (by decide) (by decide +kernel) (by rfl) (c_finds (k := 1) (by omega)) (by omega) (g_E ?_)
        refine g_iret (n := 52) rfl (fun h => nomatch h) ?_
        exact qS_k (by decide)
    ·
      rw [if_pos h2]
      refine g_aload_n (n := 23) rfl rfl ?_
      refine g_iconst (n := 24) (v := 2) rfl rfl ?_
      refine g_cv1 (n := 27) (t := 140) (ci := 12) rfl (by decide +kernel) (by decide +kernel) (by decide) (by decide) (by decide +kernel) (by rfl) (c_finds (k := 2) (by omega)) (by omega) (g_E ?_)
      refine g_iret (n := 28) rfl (fun h => nomatch h) ?_
      exact qS_k (by decide)
  ·
    refine g_ifne0 (n := 7) 13 rfl (by decide) ?_
    rw [if_neg h1]
    refine g_aload_n (n := 8) rfl rfl ?_
    refine g_iconst (n := 9) (v := 1) rfl rfl ?_
    refine g_cv1 (n := 12) (t := 140) (ci := 12) rfl (by decide +kernel) (by decide +kernel) (by decide) (by decide) (by decide +kernel) (by rfl) (c_finds (k := 1) (by omega)) (by omega) (g_E ?_)
    refine g_iret (n := 13) rfl (fun h => nomatch h) ?_
    exact qS_k (by decide)
def eMove (I : mg_I) (s i o j n : Int32) : Nat :=
  if 0 ≤ s.toInt ∧ s.toInt ≤ 3 then
    (if 0 ≤ o.toInt ∧ o.toInt ≤ 3 then
      (if I 132 (cl s) = 0 then 2 else if I 132 (cl o) = 0 then 2 else if I 132 (cl s) = I 132 (cl o) then
        (if n < 0 then 1 else if i < 0 then 1 else if j < 0 then 1 else if I 133 (cl s) - i < n then 1 else if n ≤ I 133 (cl o) - j then 0 else 1)
      else 5)
    else 1)
  else 1
def mvL (I : mg_I) (p c : Nat) : mg_I := fun a k => if a = 135 ∧ k < c then I 134 (p + k) else I a k
def mvN (I : mg_I) (p q n c : Nat) : mg_I := fun a k => if a = 134 ∧ q ≤ k ∧ k < q + c then I 134 (p + (k - q)) else if a = 135 ∧ k < n then I 134 (p + k) else I a k
def jMove (I : mg_I) (s i o j n : Nat) : mg_I := fun a k => if a = 134 ∧ 40 * o + j ≤ k ∧ k < 40 * o + j + n then I 134 (40 * s + i + (k - (40 * o + j))) else I a k
theorem mvL_0 {I : mg_I} {p : Nat} : mvL I p 0 = I := by
  funext a k
  unfold mvL
  rw [if_neg (by omega)]
theorem mvL_s {I : mg_I} {p c : Nat} {v : Int32} (h : v = I 134 (p + c)) : mf_up (mvL I p c) 135 c v = mvL I p (c + 1) := by
  funext a k
  unfold mf_up mvL
  by_cases h1 : a = 135 ∧ k = c
  · rw [if_pos h1, if_pos (by omega), h1.2, h]
  · rw [if_neg h1]
    by_cases h2 : a = 135 ∧ k < c
    · rw [if_pos h2, if_pos (by omega)]
    · rw [if_neg h2, if_neg (by omega)]
theorem mvN_0 {I : mg_I} {p q n : Nat} : mvL I p n = mvN I p q n 0 := by
  funext a k
  unfold mvL mvN
  rw [if_neg (c := a = 134 ∧ _) (by omega)]
theorem mvN_s {I : mg_I} {p q n c : Nat} {v : Int32} (h : v = I 134 (p + c)) : mf_up (mvN I p q n c) 134 (q + c) v = mvN I p q n (c + 1) := by
  funext a k
  unfold mf_up mvN
  by_cases h1 : a = 134 ∧ k = q + c
  · rw [if_pos h1, if_pos (by omega), h1.2, h, show q + c - q = c by omega]
  · rw [if_neg h1]
    by_cases h2 : a = 134 ∧ q ≤ k ∧ k < q + c
    · rw [if_pos h2, if_pos (by omega)]
    · rw [if_neg h2, if_neg (c := a = 134 ∧ q ≤ k ∧ k < q + (c + 1)) (by omega)]
theorem mvN_x {I : mg_I} {s i o j n : Nat} : mX (jMove I s i o j n) (mvN I (40 * s + i) (40 * o + j) n n) := by
  intro a k hx
  unfold mvN jMove
  by_cases h2 : a = 134 ∧ 40 * o + j ≤ k ∧ k < 40 * o + j + n
  · rw [if_pos h2, if_pos h2]
  · rw [if_neg h2, if_neg h2, if_neg (by omega)]
theorem nI_of0 {x : Int32} (h : ¬ x < 0) : ∃ k, k < 2 ^ 31 ∧ x = nI k ∧ cl x = k := by
  obtain ⟨k, hk, e⟩ := nI_of h
  exact ⟨k, hk, e, by rw [e]; exact nI_clamp hk⟩
theorem c_move {sc : List Value} {nm : Nat} {I : mg_I} {s i o j n : Int32} (hw : wSh I) : SP sc 4 222 [.ref 124, .int s, .int i, .int o, .int j, .int n] I nm (qS (vE (eMove I s i o j n) n) (jE I (eMove I s i o j n) (jMove I (cl s) (cl i) (cl o) (cl j) (cl n))) nm) := by
  refine SP.of (h := 3) (t := 222) (q := (yX12_move, cX12_move, 7, (some .int), 12, 1480, mi_k222)) rfl (by decide) (show ¬ (7 : Nat) < 6 by decide) (fun d hd => ?_)
  show GG sc 12 false false mi_k222 d 0 [.ref 124, .int s, .int i, .int o, .int j, .int n, .null] [] I nm (qS (vE (eMove I s i o j n) n) (jE I (eMove I s i o j n) (jMove I (cl s) (cl i) (cl o) (cl j) (cl n))) nm)
  unfold eMove
  refine g_iload_n (n := 1) rfl rfl ?_
  refine g_cs1 (n := 4) (t := 219) (x := (1470, 1471, 84)) rfl (by decide +kernel) (by decide +kernel) (by rfl) c_isSheet (by omega) (g_E ?_)
  refine g_split (fun h1 => ?_) (fun h1 => ?_)
  ·
    refine g_ifeq1 (n := 7) 14 rfl (by decide) ?_
    rw [if_pos h1]
    obtain ⟨ss, hss, rfl, hcs⟩ := iR_nI (x := s) (n := 4) ⟨by omega, by omega⟩
    refine g_iload_n (n := 8) rfl rfl ?_
    refine g_cs1 (n := 11) (t := 219) (x := (1470, 1471, 84)) rfl (by decide +kernel) (by decide +kernel) (by rfl) c_isSheet (by omega) (g_E ?_)
    refine g_split (fun h2 => ?_) (fun h2 => ?_)
    ·
      refine g_ifne1 (n := 14) 20 rfl (by decide) ?_
      rw [if_pos h2]
      obtain ⟨oo, hoo, rfl, hco⟩ := iR_nI (x := o) (n := 4) ⟨by omega, by omega⟩
      rw [show cl (nI ss) = ss from hcs, show cl (nI oo) = oo from hco]
      refine g_aload_n (n := 21) rfl rfl ?_
      refine g_getr (n := 24) (ci := 12) (j := 21) (b := 132) rfl (by decide +kernel) (by decide) (by decide) (by decide +kernel) ?_
      refine g_iload_n (n := 25) rfl rfl ?_
      refine g_iald (n := 26) (ss) rfl (by decide) rfl (by show _ < 4; omega) ?_
      refine g_ifeq (n := 29) 38 rfl (by decide) (fun h3 => ?_) (fun h3 => ?_)
      ·
        rw [if_pos h3]
        refine g_aload_n (n := 39) rfl rfl ?_
        refine g_iconst (n := 40) (v := 2) rfl rfl ?_
        refine g_cv1 (n := 43) (t := 140) (ci := 12) rfl (by decide +kernel) (by decide +kernel) (by decide) (by decide) (by decide +kernel) (by rfl) (c_finds (k := 2) (by omega)) (by omega) (g_E ?_)
        refine g_iret (n := 44) rfl (fun h => nomatch h) ?_
        exact qS_k (by decide)
      ·
        rw [if_neg h3]
        refine g_aload_n (n := 30) rfl rfl ?_
        refine g_getr (n := 33) (ci := 12) (j := 21) (b := 132) rfl (by decide +kernel) (by decide) (by decide) (by decide +kernel) ?_
        refine g_iload_n (n := 34) rfl rfl ?_
        refine g_iald (n := 35) (oo) rfl (by decide) rfl (by show _ < 4; omega) ?_
        refine g_ifne (n := 38) 44 rfl (by decide) (fun h4 => ?_) (fun h4 => ?_)
        ·
          rw [if_neg h4]
          refine g_aload_n (n := 45) rfl rfl ?_
          refine g_getr (n := 48) (ci := 12) (j := 21) (b := 132) rfl (by decide +kernel) (by decide) (by decide) (by decide +kernel) ?_
          refine g_iload_n (n := 49) rfl rfl ?_
          refine g_iald (n := 50) (ss) rfl (by decide) rfl (by show _ < 4; omega) ?_
          refine g_aload_n (n := 51) rfl rfl ?_
          refine g_getr (n := 54) (ci := 12) (j := 21) (b := 132) rfl (by decide +kernel) (by decide) (by decide) (by decide +kernel) ?_
          refine g_iload_n (n := 55) rfl rfl ?_
          refine g_iald (n := 56) (oo) rfl (by decide) rfl (by show _ < 4; omega) ?_
          refine g_iceq (n := 59) 65 rfl (by decide) (fun h5 => ?_) (fun h5 => ?_)
          ·
            rw [if_pos h5]
            refine g_iload (n := 67) rfl rfl ?_
            refine g_iflt (n := 70) 106 rfl (by decide) (fun h6 => ?_) (fun h6 => ?_)
            ·
              rw [if_pos h6]
              refine g_aload_n (n := 107) rfl rfl ?_
              refine g_iconst (n := 108) (v := 1) rfl rfl ?_
              refine g_cv1 (n := 111) (t := 140) (ci := 12) rfl (by decide +kernel) (by decide +kernel) (by decide) (by decide) (by decide +kernel) (by rfl) (c_finds (k := 1) (by omega)) (by omega) (g_E ?_)
              refine g_iret (n := 112) rfl (fun h => nomatch h) ?_
              exact qS_k (by decide)
            ·
              rw [if_neg h6]
              obtain ⟨nn, hnn, rfl, hcn⟩ := nI_of0 h6
              refine g_iload_n (n := 71) rfl rfl ?_
              refine g_iflt (n := 74) 106 rfl (by decide) (fun h7 => ?_) (fun h7 => ?_)
              ·
                rw [if_pos h7]
                refine g_aload_n (n := 107) rfl rfl ?_
                refine g_iconst (n := 108) (v := 1) rfl rfl ?_
                refine g_cv1 (n := 111) (t := 140) (ci := 12) rfl (by decide +kernel) (by decide +kernel) (by decide) (by decide) (by decide +kernel) (by rfl) (c_finds (k := 1) (by omega)) (by omega) (g_E ?_)
                refine g_iret (n := 112) rfl (fun h => nomatch h) ?_
                exact qS_k (by decide)
              ·
                rw [if_neg h7]
                obtain ⟨ii, hii, rfl, hci⟩ := nI_of0 h7
                refine g_iload (n := 76) rfl rfl ?_
                refine g_iflt (n := 79) 106 rfl (by decide) (fun h8 => ?_) (fun h8 => ?_)
                ·
                  rw [if_pos h8]
                  refine g_aload_n (n := 107) rfl rfl ?_
                  refine g_iconst (n := 108) (v := 1) rfl rfl ?_
                  refine g_cv1 (n := 111) (t := 140) (ci := 12) rfl (by decide +kernel) (by decide +kernel) (by decide) (by decide) (by decide +kernel) (by rfl) (c_finds (k := 1) (by omega)) (by omega) (g_E ?_)
                  refine g_iret (n := 112) rfl (fun h => nomatch h) ?_
                  exact qS_k (by decide)
                ·
                  rw [if_neg h8]
                  obtain ⟨jj, hjj, rfl, hcj⟩ := nI_of0 h8
                  refine g_iload (n := 81) rfl rfl ?_
                  refine g_aload_n (n := 82) rfl rfl ?_
                  refine g_getr (n := 85) (ci := 12) (j := 22) (b := 133) rfl (by decide +kernel) (by decide) (by decide) (by decide +kernel) ?_
                  refine g_iload_n (n := 86) rfl rfl ?_
                  refine g_iald (n := 87) (ss) rfl (by decide) rfl (by show _ < 4; omega) ?_
                  refine g_iload_n (n := 88) rfl rfl ?_
                  refine g_isub (n := 89) rfl ?_
                  refine g_icgt (n := 92) 106 rfl (by decide) (fun h9 => ?_) (fun h9 => ?_)
                  ·
                    rw [if_pos h9]
                    refine g_aload_n (n := 107) rfl rfl ?_
                    refine g_iconst (n := 108) (v := 1) rfl rfl ?_
                    refine g_cv1 (n := 111) (t := 140) (ci := 12) rfl (by decide +kernel) (by decide +kernel) (by decide) (by decide) (by decide +kernel) (by rfl) (c_finds (k := 1) (by omega)) (by omega) (g_E ?_)
                    refine g_iret (n := 112) rfl (fun h => nomatch h) ?_
                    exact qS_k (by decide)
                  ·
                    rw [if_neg h9]
                    have hq1 := h9
                    refine g_iload (n := 94) rfl rfl ?_
                    refine g_aload_n (n := 95) rfl rfl ?_
                    refine g_getr (n := 98) (ci := 12) (j := 22) (b := 133) rfl (by decide +kernel) (by decide) (by decide) (by decide +kernel) ?_
                    refine g_iload_n (n := 99) rfl rfl ?_
                    refine g_iald (n := 100) (oo) rfl (by decide) rfl (by show _ < 4; omega) ?_
                    refine g_iload (n := 102) rfl rfl ?_
                    refine g_isub (n := 103) rfl ?_
                    refine g_icle (n := 106) 112 rfl (by decide) (fun h10 => ?_) (fun h10 => ?_)
                    ·
                      rw [if_pos h10]
                      have hq2 := h10
                      obtain ⟨u1, hu1, hu2, hu3⟩ := iR_nI (hw ss hss)
                      obtain ⟨w1, hw1, hw2, hw3⟩ := iR_nI (hw oo hoo)
                      rw [hu2, Int32.lt_iff_toInt_lt, sub_toInt (by omega) hii, nI_toInt hnn] at hq1
                      rw [hw2, Int32.le_iff_toInt_le, sub_toInt (by omega) hjj, nI_toInt hnn] at hq2
                      rw [hcn, hci, hcj]
                      refine g_iconst (n := 113) (v := 0) rfl rfl ?_
                      refine g_istore6 (n := 115) rfl rfl ?_
                      have HB : ∀ (m k : Nat), k + m = nn → GG sc 12 false false mi_k222 d 152 [.ref 124, .int (nI ss), .int (nI ii), .int (nI oo), .int (nI jj), .int (nI nn), .int (nI k)] [] (mvN I (40 * ss + ii) (40 * oo + jj) nn k) nm (qS (vE 0 (nI nn)) (jE I 0 (jMove I ss ii oo jj nn)) nm) := by
                        intro m
                        induction m with
                        | zero =>
                          intro k hk
                          refine g_iload (n := 154) rfl rfl ?_
                          refine g_iload (n := 156) rfl rfl ?_
                          refine g_icge (n := 159) 187 rfl (by decide) (fun h1 => ?_) (fun h1 => ?_)
                          ·
                            refine g_iload (n := 189) rfl rfl ?_
                            refine g_iret (n := 190) rfl (fun h => nomatch h) ?_
                            rw [show k = nn by omega]; exact qS_x mvN_x
                          ·
                            exact absurd (fN_nle (n := nn) rfl (by omega) (by omega) h1) (by omega)
                        | succ m ih =>
                          intro k hk
                          refine g_iload (n := 154) rfl rfl ?_
                          refine g_iload (n := 156) rfl rfl ?_
                          refine g_icge (n := 159) 187 rfl (by decide) (fun h1 => ?_) (fun h1 => ?_)
                          ·
                            exact absurd (fN_le (n := nn) rfl (by omega) (by omega) h1) (by omega)
                          ·
                            refine g_aload_n (n := 160) rfl rfl ?_
                            refine g_getr (n := 163) (ci := 12) (j := 23) (b := 134) rfl (by decide +kernel) (by decide) (by decide) (by decide +kernel) ?_
                            refine g_bipush (n := 165) (v := 40) rfl rfl ?_
                            refine g_iload_n (n := 166) rfl rfl ?_
                            refine g_imulN (n := 167) (x := 40) (y := oo) rfl ?_
                            refine g_iload (n := 169) rfl rfl ?_
                            refine g_iaddN (n := 170) (x := (40 * oo)) (y := jj) rfl ?_
                            refine g_iload (n := 172) rfl rfl ?_
                            refine g_iaddN (n := 173) (x := ((40 * oo) + jj)) (y := k) rfl ?_
                            refine g_aload_n (n := 174) rfl rfl ?_
                            refine g_getr (n := 177) (ci := 12) (j := 24) (b := 135) rfl (by decide +kernel) (by decide) (by decide) (by decide +kernel) ?_
                            refine g_iload (n := 179) rfl rfl ?_
                            refine g_iald (n := 180) (k) rfl (by decide) rfl (by show _ < 40; omega) ?_
                            refine g_top (w := I 134 (40 * ss + ii + k)) ((if_neg (by omega)).trans (if_pos ⟨rfl, by omega⟩)) ?_
                            refine g_iast (n := 181) (40 * oo + jj + k) rfl (by decide) rfl (by show _ < 160; omega) ?_
                            rw [mvN_s rfl]
                            refine g_iinc6 (n := 184) rfl rfl (nI_inc _) ?_
                            refine g_goto 152 rfl (by decide) ?_
                            exact ih (k + 1) (by omega)
                      have HA : ∀ (m k : Nat), k + m = nn → GG sc 12 false false mi_k222 d 115 [.ref 124, .int (nI ss), .int (nI ii), .int (nI oo), .int (nI jj), .int (nI nn), .int (nI k)] [] (mvL I (40 * ss + ii) k) nm (qS (vE 0 (nI nn)) (jE I 0 (jMove I ss ii oo jj nn)) nm) := by
                        intro m
                        induction m with
                        | zero =>
                          intro k hk
                          refine g_iload (n := 117) rfl rfl ?_
                          refine g_iload (n := 119) rfl rfl ?_
                          refine g_icge (n := 122) 149 rfl (by decide) (fun h1 => ?_) (fun h1 => ?_)
                          ·
                            refine g_iconst (n := 150) (v := 0) rfl rfl ?_
                            refine g_istore6 (n := 152) rfl rfl ?_
                            rw [show k = nn by omega, mvN_0 (q := 40 * oo + jj)]
                            exact HB nn 0 (by omega)
                          ·
                            exact absurd (fN_nle (n := nn) rfl (by omega) (by omega) h1) (by omega)
                        | succ m ih =>
                          intro k hk
                          refine g_iload (n := 117) rfl rfl ?_
                          refine g_iload (n := 119) rfl rfl ?_
                          refine g_icge (n := 122) 149 rfl (by decide) (fun h1 => ?_) (fun h1 => ?_)
                          ·
                            exact absurd (fN_le (n := nn) rfl (by omega) (by omega) h1) (by omega)
                          ·
                            refine g_aload_n (n := 123) rfl rfl ?_
                            refine g_getr (n := 126) (ci := 12) (j := 24) (b := 135) rfl (by decide +kernel) (by decide) (by decide) (by decide +kernel) ?_
                            refine g_iload (n := 128) rfl rfl ?_
                            refine g_aload_n (n := 129) rfl rfl ?_
                            refine g_getr (n := 132) (ci := 12) (j := 23) (b := 134) rfl (by decide +kernel) (by decide) (by decide) (by decide +kernel) ?_
                            refine g_bipush (n := 134) (v := 40) rfl rfl ?_
                            refine g_iload_n (n := 135) rfl rfl ?_
                            refine g_imulN (n := 136) (x := 40) (y := ss) rfl ?_
                            refine g_iload_n (n := 137) rfl rfl ?_
                            refine g_iaddN (n := 138) (x := (40 * ss)) (y := ii) rfl ?_
                            refine g_iload (n := 140) rfl rfl ?_
                            refine g_iaddN (n := 141) (x := ((40 * ss) + ii)) (y := k) rfl ?_
                            refine g_iald (n := 142) (40 * ss + ii + k) rfl (by decide) rfl (by show _ < 160; omega) ?_
                            refine g_top (w := I 134 (40 * ss + ii + k)) (if_neg (by omega)) ?_
                            refine g_iast (n := 143) (k) rfl (by decide) rfl (by show _ < 40; omega) ?_
                            rw [mvL_s rfl]
                            refine g_iinc6 (n := 146) rfl rfl (nI_inc _) ?_
                            refine g_goto 115 rfl (by decide) ?_
                            exact ih (k + 1) (by omega)
                      have hh := HA nn 0 (by omega)
                      rw [mvL_0] at hh
                      exact hh
                    ·
                      rw [if_neg h10]
                      refine g_aload_n (n := 107) rfl rfl ?_
                      refine g_iconst (n := 108) (v := 1) rfl rfl ?_
                      refine g_cv1 (n := 111) (t := 140) (ci := 12) rfl (by decide +kernel) (by decide +kernel) (by decide) (by decide) (by decide +kernel) (by rfl) (c_finds (k := 1) (by omega)) (by omega) (g_E ?_)
                      refine g_iret (n := 112) rfl (fun h => nomatch h) ?_
                      exact qS_k (by decide)
          ·
            rw [if_neg h5]
            refine g_aload_n (n := 60) rfl rfl ?_
            refine g_iconst (n := 61) (v := 5) rfl rfl ?_
            refine g_cv1 (n := 64) (t := 140) (ci := 12) rfl (by decide +kernel) (by decide +kernel) (by decide) (by decide) (by decide +kernel) (by rfl) (c_finds (k := 5) (by omega)) (by omega) (g_E ?_)
            refine g_iret (n := 65) rfl (fun h => nomatch h) ?_
            exact qS_k (by decide)
        ·
          rw [if_pos h4]
          refine g_aload_n (n := 39) rfl rfl ?_
          refine g_iconst (n := 40) (v := 2) rfl rfl ?_
          refine g_cv1 (n := 43) (t := 140) (ci := 12) rfl (by decide +kernel) (by decide +kernel) (by decide) (by decide) (by decide +kernel) (by rfl) (c_finds (k := 2) (by omega)) (by omega) (g_E ?_)
          refine g_iret (n := 44) rfl (fun h => nomatch h) ?_
          exact qS_k (by decide)
    ·
      refine g_ifne0 (n := 14) 20 rfl (by decide) ?_
      rw [if_neg h2]
      refine g_aload_n (n := 15) rfl rfl ?_
      refine g_iconst (n := 16) (v := 1) rfl rfl ?_
      refine g_cv1 (n := 19) (t := 140) (ci := 12) rfl (by decide +kernel) (by decide +kernel) (by decide) (by decide) (by decide +kernel) (by rfl) (c_finds (k := 1) (by omega)) (by omega) (g_E ?_)
      refine g_iret (n := 20) rfl (fun h => nomatch h) ?_
      exact qS_k (by decide)
  ·
    refine g_ifeq0 (n := 7) 14 rfl (by decide) ?_
    rw [if_neg h1]
    refine g_aload_n (n := 15) rfl rfl ?_
    refine g_iconst (n := 16) (v := 1) rfl rfl ?_
    refine g_cv1 (n := 19) (t := 140) (ci := 12) rfl (by decide +kernel) (by decide +kernel) (by decide) (by decide) (by decide +kernel) (by rfl) (c_finds (k := 1) (by omega)) (by omega) (g_E ?_)
    refine g_iret (n := 20) rfl (fun h => nomatch h) ?_
    exact qS_k (by decide)
def eSh (I : mg_I) (s : Int32) : Nat := if 0 ≤ s.toInt ∧ s.toInt ≤ 3 then (if I 132 (cl s) = 0 then 2 else 0) else 1
def fRm (f : Nat → Int32) : Nat → Nat → (Nat → Int32) → Nat × (Nat → Int32)
  | 0, k, d => (k, d)
  | m + 1, k, d => if fRf d (nI k) (f k) = 0 then fRm f m (k + 1) (up d (10 + k) (f k)) else (k, d)
def rRooms (I : mg_I) (s : Nat) : Nat × (Nat → Int32) := fRm (fun k => I 134 (40 * s + k)) (cl (I 133 s)) 0 (I 125)
def fJd (f : Nat → Int32) (d : Nat → Int32) : Nat → Nat → Nat
  | 0, k => k
  | m + 1, k => if fN d ≤ k then k else if f k = fO d k 6 then fJd f d m (k + 1) else k
def rJudge (I : mg_I) (s : Nat) : Nat := fJd (fun k => I 134 (40 * s + k)) (I 125) (cl (I 133 s)) 0
def vJudge (I : mg_I) (s : Nat) : Int32 := if nI (rJudge I s) = I 133 s then (if nI (rJudge I s) = I 125 0 then -1 else nI (rJudge I s)) else nI (rJudge I s)
theorem rP_self {I : mg_I} {a : Nat} : rP I a (I a) = I := by
  funext b j
  unfold rP
  split
  next h => rw [h]
  · rfl
theorem rP_up {I : mg_I} {d : Nat → Int32} {j : Nat} {v : Int32} : mf_up (rP I 125 d) 125 j v = rP I 125 (up d j v) := by
  funext a k
  unfold mf_up rP up
  by_cases h1 : a = 125 <;> by_cases h2 : k = j <;> simp [h1, h2]
theorem rP_mR {I : mg_I} {d : Nat → Int32} : mR I d = rP I 125 d := rfl
theorem c_rooms {sc : List Value} {nm : Nat} {I : mg_I} {s : Int32} (hw : wSh I) (hN : iR (I 125 0) 9) : SP sc 5 223 [.ref 124, .int s] I nm (qS (vE (eSh I s) (nI (rRooms I (cl s)).1)) (jE I (eSh I s) (mR I (rRooms I (cl s)).2)) nm) := by
  refine SP.of (h := 4) (t := 223) (q := (yX12_rooms, cX12_rooms, 3, (some .int), 12, 1484, mi_k223)) rfl (by decide) (show ¬ (3 : Nat) < 2 by decide) (fun d hd => ?_)
  show GG sc 12 false false mi_k223 d 0 [.ref 124, .int s, .null] [] I nm (qS (vE (eSh I s) (nI (rRooms I (cl s)).1)) (jE I (eSh I s) (mR I (rRooms I (cl s)).2)) nm)
  unfold eSh
  refine g_iload_n (n := 1) rfl rfl ?_
  refine g_cs1 (n := 4) (t := 219) (x := (1470, 1471, 84)) rfl (by decide +kernel) (by decide +kernel) (by rfl) c_isSheet (by omega) (g_E ?_)
  refine g_split (fun h1 => ?_) (fun h1 => ?_)
  ·
    refine g_ifne1 (n := 7) 13 rfl (by decide) ?_
    rw [if_pos h1]
    obtain ⟨ss, hss, rfl, hcs⟩ := iR_nI (x := s) (n := 4) ⟨by omega, by omega⟩
    rw [show cl (nI ss) = ss from hcs]
    obtain ⟨u, hu1, hu, hcu⟩ := iR_nI (hw ss hss)
    refine g_aload_n (n := 14) rfl rfl ?_
    refine g_getr (n := 17) (ci := 12) (j := 21) (b := 132) rfl (by decide +kernel) (by decide) (by decide) (by decide +kernel) ?_
    refine g_iload_n (n := 18) rfl rfl ?_
    refine g_iald (n := 19) (ss) rfl (by decide) rfl (by show _ < 4; omega) ?_
    refine g_ifne (n := 22) 28 rfl (by decide) (fun h2 => ?_) (fun h2 => ?_)
    ·
      rw [if_neg h2]
      refine g_iconst (n := 29) (v := 0) rfl rfl ?_
      refine g_istore_n2 (n := 30) rfl rfl ?_
      have H : ∀ (m k : Nat) (d1 : Nat → Int32), k + m = u → iR (d1 0) 9 → fRm (fun k => I 134 (40 * ss + k)) m k d1 = rRooms I ss → GG sc 12 false false mi_k223 d 30 [.ref 124, .int (nI ss), .int (nI k)] [] (mR I d1) nm (qS (vE 0 (nI (rRooms I ss).1)) (jE I 0 (mR I (rRooms I ss).2)) nm) := by
        intro m
        induction m with
        | zero =>
          intro k d1 hk hN hf
          refine g_iload_n (n := 31) rfl rfl ?_
          refine g_aload_n (n := 32) rfl rfl ?_
          refine g_getr (n := 35) (ci := 12) (j := 22) (b := 133) rfl (by decide +kernel) (by decide) (by decide) (by decide +kernel) ?_
          refine g_iload_n (n := 36) rfl rfl ?_
          refine g_iald (n := 37) (ss) rfl (by decide) rfl (by show _ < 4; omega) ?_
          refine g_top (w := nI u) hu ?_
          refine g_icge (n := 40) 85 rfl (by decide) (fun h1 => ?_) (fun h1 => ?_)
          ·
            refine g_iload_n (n := 86) rfl rfl ?_
            refine g_iret (n := 87) rfl (fun h => nomatch h) ?_
            rw [show rRooms I ss = (k, d1) from hf.symm]; exact qS_0
          ·
            exact absurd (fN_nle (n := u) rfl (by omega) (by omega) h1) (by omega)
        | succ m ih =>
          intro k d1 hk hN hf
          rw [fRm] at hf
          refine g_iload_n (n := 31) rfl rfl ?_
          refine g_aload_n (n := 32) rfl rfl ?_
          refine g_getr (n := 35) (ci := 12) (j := 22) (b := 133) rfl (by decide +kernel) (by decide) (by decide) (by decide +kernel) ?_
          refine g_iload_n (n := 36) rfl rfl ?_
          refine g_iald (n := 37) (ss) rfl (by decide) rfl (by show _ < 4; omega) ?_
          refine g_top (w := nI u) hu ?_
          refine g_icge (n := 40) 85 rfl (by decide) (fun h1 => ?_) (fun h1 => ?_)
          ·
            exact absurd (fN_le (n := u) rfl (by omega) (by omega) h1) (by omega)
          ·
            refine g_aload_n (n := 41) rfl rfl ?_
            refine g_iload_n (n := 42) rfl rfl ?_
            refine g_aload_n (n := 43) rfl rfl ?_
            refine g_getr (n := 46) (ci := 12) (j := 23) (b := 134) rfl (by decide +kernel) (by decide) (by decide) (by decide +kernel) ?_
            refine g_bipush (n := 48) (v := 40) rfl rfl ?_
            refine g_iload_n (n := 49) rfl rfl ?_
            refine g_imulN (n := 50) (x := 40) (y := ss) rfl ?_
            refine g_iload_n (n := 51) rfl rfl ?_
            refine g_iaddN (n := 52) (x := (40 * ss)) (y := k) rfl ?_
            refine g_iald (n := 53) (40 * ss + k) rfl (by decide) rfl (by show _ < 160; omega) ?_
            try simp only [mR_125, mR_up, mR_w124, mR_r124, mR_w126, mR_r126, mR_w128, mR_r128, mR_w130, mR_r130, mR_w131, mR_r131, mR_w132, mR_r132, mR_w133, mR_r133, mR_w134, mR_r134, mR_w135, mR_r135]
            refine g_cv2 (n := 56) (t := 167) (ci := 12) rfl (by decide +kernel) (by decide +kernel) (by decide) (by decide) (by decide +kernel) (by rfl) (c_roomFinds hN) (by omega) (g_E ?_)
            refine g_ifne (n := 59) 85 rfl (by decide) (fun h2 => ?_) (fun h2 => ?_)
            ·
              have h0 : ¬ fRf d1 (nI k) (I 134 (40 * ss + k)) = 0 := fun q => h2 (by rw [q]; rfl)
              rw [if_neg h0] at hf
              refine g_iload_n (n := 86) rfl rfl ?_
              refine g_iret (n := 87) rfl (fun h => nomatch h) ?_
              rw [show rRooms I ss = (k, d1) from hf.symm]; exact qS_0
            ·
              have h0 : fRf d1 (nI k) (I 134 (40 * ss + k)) = 0 := (nI_eq (b := 0) (by have := @fRf_lt d1 (nI k) (I 134 (40 * ss + k)); omega) (by omega)).mp h2
              rw [if_pos h0] at hf
              have hk24 : k < 24 := by have := fRf_0 h0; rw [nI_toInt (by omega)] at this; omega
              refine g_aload_n (n := 60) rfl rfl ?_
              refine g_getr (n := 63) (ci := 12) (j := 0) (b := 125) rfl (by decide +kernel) (by decide) (by decide) (by decide +kernel) ?_
              refine g_bipush (n := 65) (v := 10) rfl rfl ?_
              refine g_iload_n (n := 66) rfl rfl ?_
              refine g_iaddN (n := 67) (x := 10) (y := k) rfl ?_
              refine g_aload_n (n := 68) rfl rfl ?_
              refine g_getr (n := 71) (ci := 12) (j := 23) (b := 134) rfl (by decide +kernel) (by decide) (by decide) (by decide +kernel) ?_
              refine g_bipush (n := 73) (v := 40) rfl rfl ?_
              refine g_iload_n (n := 74) rfl rfl ?_
              refine g_imulN (n := 75) (x := 40) (y := ss) rfl ?_
              refine g_iload_n (n := 76) rfl rfl ?_
              refine g_iaddN (n := 77) (x := (40 * ss)) (y := k) rfl ?_
              refine g_iald (n := 78) (40 * ss + k) rfl (by decide) rfl (by show _ < 160; omega) ?_
              try simp only [mR_125, mR_up, mR_w124, mR_r124, mR_w126, mR_r126, mR_w128, mR_r128, mR_w130, mR_r130, mR_w131, mR_r131, mR_w132, mR_r132, mR_w133, mR_r133, mR_w134, mR_r134, mR_w135, mR_r135]
              refine g_iast (n := 79) ((10 + k)) rfl (by decide) rfl (by show _ < 286; omega) ?_
              try simp only [mR_125, mR_up, mR_w124, mR_r124, mR_w126, mR_r126, mR_w128, mR_r128, mR_w130, mR_r130, mR_w131, mR_r131, mR_w132, mR_r132, mR_w133, mR_r133, mR_w134, mR_r134, mR_w135, mR_r135]
              refine g_iinc2 (n := 82) rfl rfl (nI_inc _) ?_
              refine g_goto 30 rfl (by decide) ?_
              exact ih (k + 1) _ (by omega) (by rw [up_ne (by omega)]; exact hN) hf
      have hh := H u 0 (I 125) (by omega) hN (by unfold rRooms; rw [show cl (I 133 ss) = u from hcu])
      rw [mR_self] at hh
      exact hh
    ·
      rw [if_pos h2]
      refine g_aload_n (n := 23) rfl rfl ?_
      refine g_iconst (n := 24) (v := 2) rfl rfl ?_
      refine g_cv1 (n := 27) (t := 140) (ci := 12) rfl (by decide +kernel) (by decide +kernel) (by decide) (by decide) (by decide +kernel) (by rfl) (c_finds (k := 2) (by omega)) (by omega) (g_E ?_)
      refine g_iret (n := 28) rfl (fun h => nomatch h) ?_
      exact qS_k (by decide)
  ·
    refine g_ifne0 (n := 7) 13 rfl (by decide) ?_
    rw [if_neg h1]
    refine g_aload_n (n := 8) rfl rfl ?_
    refine g_iconst (n := 9) (v := 1) rfl rfl ?_
    refine g_cv1 (n := 12) (t := 140) (ci := 12) rfl (by decide +kernel) (by decide +kernel) (by decide) (by decide) (by decide +kernel) (by rfl) (c_finds (k := 1) (by omega)) (by omega) (g_E ?_)
    refine g_iret (n := 13) rfl (fun h => nomatch h) ?_
    exact qS_k (by decide)
theorem c_judge {sc : List Value} {nm : Nat} {I : mg_I} {s : Int32} (hw : wSh I) (hN : iR (I 125 0) 9) : SP sc 4 224 [.ref 124, .int s] I nm (qS (vE (eSh I s) (vJudge I (cl s))) (jE I (eSh I s) I) nm) := by
  refine SP.of (h := 3) (t := 224) (q := (yX12_judge, cX12_judge, 3, (some .int), 12, 1488, mi_k224)) rfl (by decide) (show ¬ (3 : Nat) < 2 by decide) (fun d hd => ?_)
  show GG sc 12 false false mi_k224 d 0 [.ref 124, .int s, .null] [] I nm (qS (vE (eSh I s) (vJudge I (cl s))) (jE I (eSh I s) I) nm)
  unfold eSh
  refine g_iload_n (n := 1) rfl rfl ?_
  refine g_cs1 (n := 4) (t := 219) (x := (1470, 1471, 84)) rfl (by decide +kernel) (by decide +kernel) (by rfl) c_isSheet (by omega) (g_E ?_)
  refine g_split (fun h1 => ?_) (fun h1 => ?_)
  ·
    refine g_ifne1 (n := 7) 13 rfl (by decide) ?_
    rw [if_pos h1]
    obtain ⟨ss, hss, rfl, hcs⟩ := iR_nI (x := s) (n := 4) ⟨by omega, by omega⟩
    rw [show cl (nI ss) = ss from hcs]
    obtain ⟨u, hu1, hu, hcu⟩ := iR_nI (hw ss hss)
    refine g_aload_n (n := 14) rfl rfl ?_
    refine g_getr (n := 17) (ci := 12) (j := 21) (b := 132) rfl (by decide +kernel) (by decide) (by decide) (by decide +kernel) ?_
    refine g_iload_n (n := 18) rfl rfl ?_
    refine g_iald (n := 19) (ss) rfl (by decide) rfl (by show _ < 4; omega) ?_
    refine g_ifne (n := 22) 28 rfl (by decide) (fun h2 => ?_) (fun h2 => ?_)
    ·
      rw [if_neg h2]
      refine g_iconst (n := 29) (v := 0) rfl rfl ?_
      refine g_istore_n2 (n := 30) rfl rfl ?_
      have hn8 := (fN_eq hN).2
      have HE : ∀ k : Nat, k ≤ u → rJudge I ss = k → GG sc 12 false false mi_k224 d 77 [.ref 124, .int (nI ss), .int (nI k)] [] I nm (qS (vE 0 (vJudge I ss)) (jE I 0 I) nm) := by
        intro k hk hf
        unfold vJudge
        rw [hf]
        refine g_iload_n (n := 78) rfl rfl ?_
        refine g_aload_n (n := 79) rfl rfl ?_
        refine g_getr (n := 82) (ci := 12) (j := 22) (b := 133) rfl (by decide +kernel) (by decide) (by decide) (by decide +kernel) ?_
        refine g_iload_n (n := 83) rfl rfl ?_
        refine g_iald (n := 84) (ss) rfl (by decide) rfl (by show _ < 4; omega) ?_
        refine g_icne (n := 87) 101 rfl (by decide) (fun h1 => ?_) (fun h1 => ?_)
        ·
          rw [if_neg h1]
          refine g_iload_n (n := 102) rfl rfl ?_
          refine g_iret (n := 103) rfl (fun h => nomatch h) ?_
          exact qS_0
        ·
          rw [if_pos h1]
          refine g_iload_n (n := 88) rfl rfl ?_
          refine g_aload_n (n := 89) rfl rfl ?_
          refine g_getr (n := 92) (ci := 12) (j := 0) (b := 125) rfl (by decide +kernel) (by decide) (by decide) (by decide +kernel) ?_
          refine g_iconst (n := 93) (v := 0) rfl rfl ?_
          refine g_iald (n := 94) (0) rfl (by decide) rfl (by show _ < 286; omega) ?_
          refine g_icne (n := 97) 101 rfl (by decide) (fun h2 => ?_) (fun h2 => ?_)
          ·
            rw [if_neg h2]
            refine g_iload_n (n := 102) rfl rfl ?_
            refine g_iret (n := 103) rfl (fun h => nomatch h) ?_
            exact qS_0
          ·
            rw [if_pos h2]
            refine g_iconst (n := 98) (v := -1) rfl rfl ?_
            refine g_goto 102 rfl (by decide) ?_
            refine g_iret (n := 103) rfl (fun h => nomatch h) ?_
            exact qS_0
      have H : ∀ (m k : Nat), k + m = u → fJd (fun k => I 134 (40 * ss + k)) (I 125) m k = rJudge I ss → GG sc 12 false false mi_k224 d 30 [.ref 124, .int (nI ss), .int (nI k)] [] I nm (qS (vE 0 (vJudge I ss)) (jE I 0 I) nm) := by
        intro m
        induction m with
        | zero =>
          intro k hk hf
          refine g_iload_n (n := 31) rfl rfl ?_
          refine g_aload_n (n := 32) rfl rfl ?_
          refine g_getr (n := 35) (ci := 12) (j := 22) (b := 133) rfl (by decide +kernel) (by decide) (by decide) (by decide +kernel) ?_
          refine g_iload_n (n := 36) rfl rfl ?_
          refine g_iald (n := 37) (ss) rfl (by decide) rfl (by show _ < 4; omega) ?_
          refine g_top (w := nI u) hu ?_
          refine g_icge (n := 40) 77 rfl (by decide) (fun h1 => ?_) (fun h1 => ?_)
          ·
            exact HE k (by omega) hf.symm
          ·
            exact absurd (fN_nle (n := u) rfl (by omega) (by omega) h1) (by omega)
        | succ m ih =>
          intro k hk hf
          rw [fJd] at hf
          refine g_iload_n (n := 31) rfl rfl ?_
          refine g_aload_n (n := 32) rfl rfl ?_
          refine g_getr (n := 35) (ci := 12) (j := 22) (b := 133) rfl (by decide +kernel) (by decide) (by decide) (by decide +kernel) ?_
          refine g_iload_n (n := 36) rfl rfl ?_
          refine g_iald (n := 37) (ss) rfl (by decide) rfl (by show _ < 4; omega) ?_
          refine g_top (w := nI u) hu ?_
          refine g_icge (n := 40) 77 rfl (by decide) (fun h1 => ?_) (fun h1 => ?_)
          ·
            exact absurd (fN_le (n := u) rfl (by omega) (by omega) h1) (by omega)
          ·
            refine g_iload_n (n := 41) rfl rfl ?_
            refine g_aload_n (n := 42) rfl rfl ?_
            refine g_getr (n := 45) (ci := 12) (j := 0) (b := 125) rfl (by decide +kernel) (by decide) (by decide) (by decide +kernel) ?_
            refine g_iconst (n := 46) (v := 0) rfl rfl ?_
            refine g_iald (n := 47) (0) rfl (by decide) rfl (by show _ < 286; omega) ?_
            refine g_icge (n := 50) 77 rfl (by decide) (fun h2 => ?_) (fun h2 => ?_)
            ·
              rw [if_pos (fN_le (fN_eq hN).1 (by omega) (by omega) h2)] at hf
              exact HE k (by omega) hf.symm
            ·
              have hkN := fN_nle (fN_eq hN).1 (by omega) (by omega) h2
              have hn8 := (fN_eq hN).2
              rw [if_neg (by omega)] at hf
              refine g_aload_n (n := 51) rfl rfl ?_
              refine g_getr (n := 54) (ci := 12) (j := 23) (b := 134) rfl (by decide +kernel) (by decide) (by decide) (by decide +kernel) ?_
              refine g_bipush (n := 56) (v := 40) rfl rfl ?_
              refine g_iload_n (n := 57) rfl rfl ?_
              refine g_imulN (n := 58) (x := 40) (y := ss) rfl ?_
              refine g_iload_n (n := 59) rfl rfl ?_
              refine g_iaddN (n := 60) (x := (40 * ss)) (y := k) rfl ?_
              refine g_iald (n := 61) (((40 * ss) + k)) rfl (by decide) rfl (by show _ < 160; omega) ?_
              refine g_aload_n (n := 62) rfl rfl ?_
              refine g_iload_n (n := 63) rfl rfl ?_
              refine g_bipush (n := 65) (v := 6) rfl rfl ?_
              refine g_cv2 (n := 68) (t := 145) (ci := 12) rfl (by decide +kernel) (by decide +kernel) (by decide) (by decide) (by decide +kernel) (by rfl) (c_of (g := k) (w := 6) (by omega) (by omega)) (by omega) (g_E ?_)
              refine g_icne (n := 71) 77 rfl (by decide) (fun h3 => ?_) (fun h3 => ?_)
              ·
                rw [if_neg h3] at hf
                exact HE k (by omega) hf.symm
              ·
                rw [if_pos h3] at hf
                refine g_iinc2 (n := 74) rfl rfl (nI_inc _) ?_
                refine g_goto 30 rfl (by decide) ?_
                exact ih (k + 1) (by omega) hf
      exact H u 0 (by omega) (by unfold rJudge; rw [show cl (I 133 ss) = u from hcu])
    ·
      rw [if_pos h2]
      refine g_aload_n (n := 23) rfl rfl ?_
      refine g_iconst (n := 24) (v := 2) rfl rfl ?_
      refine g_cv1 (n := 27) (t := 140) (ci := 12) rfl (by decide +kernel) (by decide +kernel) (by decide) (by decide) (by decide +kernel) (by rfl) (c_finds (k := 2) (by omega)) (by omega) (g_E ?_)
      refine g_iret (n := 28) rfl (fun h => nomatch h) ?_
      exact qS_k (by decide)
  ·
    refine g_ifne0 (n := 7) 13 rfl (by decide) ?_
    rw [if_neg h1]
    refine g_aload_n (n := 8) rfl rfl ?_
    refine g_iconst (n := 9) (v := 1) rfl rfl ?_
    refine g_cv1 (n := 12) (t := 140) (ci := 12) rfl (by decide +kernel) (by decide +kernel) (by decide) (by decide) (by decide +kernel) (by rfl) (c_finds (k := 1) (by omega)) (by omega) (g_E ?_)
    refine g_iret (n := 13) rfl (fun h => nomatch h) ?_
    exact qS_k (by decide)
