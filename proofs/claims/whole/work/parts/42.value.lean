/-! texts: the model's act; the class's value -/
theorem kRun_congr {b b' : Nat → Int32} {n : Nat} {t : Int32} (h : ∀ i, i < n → b i = b' i) : ∀ m i s, i + m = n → kRun b n t m i s = kRun b' n t m i s := by
  intro m
  induction m with
  | zero => intro i s _; rfl
  | succ m ih =>
    intro i s hi
    rw [kRun, kRun, h i (by omega)]
    cases kSt t (b' i) s with
    | none => rfl
    | some s' => exact ih (i + 1) s' (by omega)
theorem kFin_in {n : Nat} {s : kC} : (kFin n s).1 = -1 ∨ (kFin n s).1 = nI n := by
  unfold kFin
  split
  · exact Or.inr rfl
  · split
    · exact Or.inl rfl
    · exact Or.inr rfl
theorem kRun_in {b : Nat → Int32} {n : Nat} {t : Int32} : ∀ m i s, i + m = n → (kRun b n t m i s).1 = -1 ∨ ∃ f, f ≤ n ∧ (kRun b n t m i s).1 = nI f := by
  intro m
  induction m with
  | zero =>
    intro i s hi
    rcases @kFin_in n s with h | h
    · exact Or.inl h
    · exact Or.inr ⟨n, Nat.le_refl _, h⟩
  | succ m ih =>
    intro i s hi
    rw [kRun]
    cases kSt t (b i) s with
    | none => exact Or.inr ⟨i, by omega, rfl⟩
    | some s' => exact ih (i + 1) s' (by omega)
noncomputable def kTx (d : Nat → Int32) (u : Nat) : Int32 × List Int32 := kRun (fun i => d (236 + i)) (cl (d 6)) (nI u) (cl (d 6)) 0 kC0
def dTx (d : Nat → Int32) (u n : Nat) (c : Nat) : Nat → Int32 := fun k => if 136 + 50 * u ≤ k ∧ k < 136 + 50 * u + c then d (236 + (k - (136 + 50 * u))) else if k = 114 + u then nI n else if k = 6 then 0 else d k
noncomputable def oText (d : Nat → Int32) (u : Int32) : rD :=
  if 0 ≤ u.toInt ∧ u.toInt ≤ 1 then (if (kTx d (cl u)).1 < 0 then (0, 1, dTx d (cl u) (cl (d 6)) (cl (d 6))) else (0, -10 - (kTx d (cl u)).1, up d 6 0)) else fE d 1
theorem dTx_0 {d : Nat → Int32} {u n : Nat} : up (up d 6 0) (114 + u) (nI n) = dTx d u n 0 := by
  funext k
  unfold up dTx
  rw [if_neg (c := 136 + 50 * u ≤ k ∧ _) (by omega)]
theorem dTx_s {d : Nat → Int32} {u n c : Nat} (hu : u < 2) (hc : c < 50) : up (dTx d u n c) (136 + 50 * u + c) (dTx d u n c (236 + c)) = dTx d u n (c + 1) := by
  have e : dTx d u n c (236 + c) = d (236 + c) := by
    unfold dTx
    rw [if_neg (by omega), if_neg (by omega), if_neg (by omega)]
  rw [e]
  funext k
  unfold up dTx
  by_cases h1 : k = 136 + 50 * u + c
  · rw [if_pos h1, if_pos (by omega), show k - (136 + 50 * u) = c by omega]
  · rw [if_neg h1]
    by_cases h2 : 136 + 50 * u ≤ k ∧ k < 136 + 50 * u + c
    · rw [if_pos h2, if_pos (by omega)]
    · rw [if_neg h2, if_neg (c := 136 + 50 * u ≤ k ∧ k < 136 + 50 * u + (c + 1)) (by omega)]
theorem c_textT {sc : List Value} {nm : Nat} {I J1 : mg_I} {d0 : Nat → Int32} {uu q d : Nat} {x3 : Int32} (huu : uu < 2) (hq : q < 51) (hJ1 : mE I J1) : GG sc 12 false false mi_k161 d 57 [.ref 124, .int (nI uu), .int (nI q), .int x3, .null] [] (mR J1 (up d0 6 0)) nm (qD I (0, 1, dTx d0 uu q q) nm) := by
  have H : ∀ (m k : Nat), k + m = q → GG sc 12 false false mi_k161 d 70 [.ref 124, .int (nI uu), .int (nI q), .int x3, .int (nI k)] [] (mR J1 (dTx d0 uu q k)) nm (qD I (0, 1, dTx d0 uu q q) nm) := by
    intro m
    induction m with
    | zero =>
      intro k hk
      refine g_iload (n := 72) rfl rfl ?_
      refine g_iload_n (n := 73) rfl rfl ?_
      refine g_icge (n := 76) 109 rfl (by decide) (fun h1 => ?_) (fun h1 => ?_)
      ·
        refine g_iconst (n := 110) (v := 1) rfl rfl ?_
        refine g_iret (n := 111) rfl (fun h => nomatch h) ?_
        rw [show k = q by omega]; exact qD_v hJ1.x
      ·
        exact absurd (fN_nle (n := q) rfl (by omega) (by omega) h1) (by omega)
    | succ m ih =>
      intro k hk
      refine g_iload (n := 72) rfl rfl ?_
      refine g_iload_n (n := 73) rfl rfl ?_
      refine g_icge (n := 76) 109 rfl (by decide) (fun h1 => ?_) (fun h1 => ?_)
      ·
        exact absurd (fN_le (n := q) rfl (by omega) (by omega) h1) (by omega)
      ·
        refine g_aload_n (n := 77) rfl rfl ?_
        refine g_getr (n := 80) (ci := 12) (j := 0) (b := 125) rfl (by decide +kernel) (by decide) (by decide) (by decide +kernel) ?_
        refine g_sipush (n := 83) (v := 136) rfl rfl ?_
        refine g_bipush (n := 85) (v := 50) rfl rfl ?_
        refine g_iload_n (n := 86) rfl rfl ?_
        refine g_imulN (n := 87) (x := 50) (y := uu) rfl ?_
        refine g_iaddN (n := 88) (x := 136) (y := (50 * uu)) rfl ?_
        refine g_iload (n := 90) rfl rfl ?_
        refine g_iaddN (n := 91) (x := (136 + (50 * uu))) (y := k) rfl ?_
        refine g_aload_n (n := 92) rfl rfl ?_
        refine g_getr (n := 95) (ci := 12) (j := 0) (b := 125) rfl (by decide +kernel) (by decide) (by decide) (by decide +kernel) ?_
        refine g_sipush (n := 98) (v := 236) rfl rfl ?_
        refine g_iload (n := 100) rfl rfl ?_
        refine g_iaddN (n := 101) (x := 236) (y := k) rfl ?_
        refine g_iald (n := 102) ((236 + k)) rfl (by decide) rfl (by show _ < 286; omega) ?_
        try simp only [mR_125, mR_up, mR_w124, mR_r124, mR_w126, mR_r126, mR_w128, mR_r128, mR_w130, mR_r130, mR_w131, mR_r131, mR_w132, mR_r132, mR_w133, mR_r133, mR_w134, mR_r134, mR_w135, mR_r135]
        refine g_iast (n := 103) (((136 + (50 * uu)) + k)) rfl (by decide) rfl (by show _ < 286; omega) ?_
        try simp only [mR_125, mR_up, mR_w124, mR_r124, mR_w126, mR_r126, mR_w128, mR_r128, mR_w130, mR_r130, mR_w131, mR_r131, mR_w132, mR_r132, mR_w133, mR_r133, mR_w134, mR_r134, mR_w135, mR_r135]
        refine g_iinc4 (n := 106) rfl rfl (nI_inc _) ?_
        refine g_goto 70 rfl (by decide) ?_
        rw [dTx_s huu (by omega)]
        exact ih (k + 1) (by omega)
  refine g_aload_n (n := 58) rfl rfl ?_
  refine g_getr (n := 61) (ci := 12) (j := 0) (b := 125) rfl (by decide +kernel) (by decide) (by decide) (by decide +kernel) ?_
  refine g_bipush (n := 63) (v := 114) rfl rfl ?_
  refine g_iload_n (n := 64) rfl rfl ?_
  refine g_iaddN (n := 65) (x := 114) (y := uu) rfl ?_
  refine g_iload_n (n := 66) rfl rfl ?_
  refine g_iast (n := 67) ((114 + uu)) rfl (by decide) rfl (by show _ < 286; omega) ?_
  try simp only [mR_125, mR_up, mR_w124, mR_r124, mR_w126, mR_r126, mR_w128, mR_r128, mR_w130, mR_r130, mR_w131, mR_r131, mR_w132, mR_r132, mR_w133, mR_r133, mR_w134, mR_r134, mR_w135, mR_r135]
  refine g_iconst (n := 68) (v := 0) rfl rfl ?_
  refine g_istore4 (n := 70) rfl rfl ?_
  rw [dTx_0]
  exact H q 0 (by omega)
theorem c_text {sc : List Value} {nm : Nat} {I : mg_I} {d0 : Nat → Int32} {u : Int32} (h6 : iR (d0 6) 51) : SP sc 42 161 [.ref 124, .int u] (mR I d0) nm (qD I (oText d0 u) nm) := by
  refine SP.of (h := 41) (t := 161) (q := (yX12_text, cX12_text, 5, (some .int), 12, 1153, mi_k161)) rfl (by decide) (show ¬ (5 : Nat) < 2 by decide) (fun d hd => ?_)
  show GG sc 12 false false mi_k161 d 0 [.ref 124, .int u, .null, .null, .null] [] (mR I d0) nm (qD I (oText d0 u) nm)
  obtain ⟨q, hqq, hq, hcq⟩ := iR_nI h6
  unfold oText
  refine g_iload_n (n := 1) rfl rfl ?_
  refine g_i2l (n := 2) rfl ?_
  refine g_lconst (n := 3) (v := 0) rfl rfl ?_
  refine g_lconst (n := 4) (v := 1) rfl rfl ?_
  refine g_cs3 (n := 7) (t := 141) (x := (1141, 1142, 84)) rfl (by decide +kernel) (by decide +kernel) (by rfl) (c_inI (a := 0) (b := 1) rfl rfl) (by omega) (g_E ?_)
  try simp only [mR_125, mR_up, mR_w124, mR_r124, mR_w126, mR_r126, mR_w128, mR_r128, mR_w130, mR_r130, mR_w131, mR_r131, mR_w132, mR_r132, mR_w133, mR_r133, mR_w134, mR_r134, mR_w135, mR_r135]
  refine g_split (fun h1 => ?_) (fun h1 => ?_)
  ·
    refine g_ifne1 (n := 10) 16 rfl (by decide) ?_
    rw [if_pos h1]
    obtain ⟨uu, huu, rfl, hcu⟩ := iR_nI (x := u) (n := 2) ⟨by omega, by omega⟩
    rw [show cl (nI uu) = uu from hcu, show cl (d0 6) = q from hcq]
    unfold kTx
    rw [show cl (d0 6) = q from hcq]
    refine g_aload_n (n := 17) rfl rfl ?_
    refine g_getr (n := 20) (ci := 12) (j := 0) (b := 125) rfl (by decide +kernel) (by decide) (by decide) (by decide +kernel) ?_
    refine g_bipush (n := 22) (v := 6) rfl rfl ?_
    refine g_iald (n := 23) (6) rfl (by decide) rfl (by show _ < 286; omega) ?_
    refine g_top (w := nI q) hq ?_
    refine g_istore_n2 (n := 24) rfl rfl ?_
    refine g_aload_n (n := 25) rfl rfl ?_
    refine g_getr (n := 28) (ci := 12) (j := 0) (b := 125) rfl (by decide +kernel) (by decide) (by decide) (by decide +kernel) ?_
    refine g_bipush (n := 30) (v := 6) rfl rfl ?_
    refine g_iconst (n := 31) (v := 0) rfl rfl ?_
    refine g_iast (n := 32) (6) rfl (by decide) rfl (by show _ < 286; omega) ?_
    try simp only [mR_125, mR_up, mR_w124, mR_r124, mR_w126, mR_r126, mR_w128, mR_r128, mR_w130, mR_r130, mR_w131, mR_r131, mR_w132, mR_r132, mR_w133, mR_r133, mR_w134, mR_r134, mR_w135, mR_r135]
    refine g_aload_n (n := 33) rfl rfl ?_
    refine g_sipush (n := 36) (v := 236) rfl rfl ?_
    refine g_iload_n (n := 37) rfl rfl ?_
    refine g_iload_n (n := 38) rfl rfl ?_
    refine g_cv3 (n := 41) (t := 159) (ci := 12) rfl (by decide +kernel) (by decide +kernel) (by decide) (by decide) (by decide +kernel) (by rfl) (c_worked (base := 236) (n := q) (use := uu) (by omega) (by omega) huu) (by omega) (g_W fun I1 hfl he => ?_)
    have hkx := hfl.trans ((kText (b := pb (mR I (up d0 6 0)) 236) (n := q) (t := nI uu) (nm3 := mR I (up d0 6 0) 129) (by omega)).1.trans (congrArg Prod.fst (kRun_congr (b' := fun i => d0 (236 + i)) (fun i hi => (show up d0 6 0 (236 + i) = d0 (236 + i) from up_ne (by omega))) q 0 kC0 (by omega))))
    obtain ⟨J1, rfl, hJ1⟩ := mR_mE he
    have hk2 : J1 124 8 = (kRun (fun i => d0 (236 + i)) q (nI uu) q 0 kC0).1 := hkx
    refine g_istore_n3 (n := 42) rfl rfl ?_
    refine g_aload_n (n := 43) rfl rfl ?_
    refine g_getv (n := 46) (ci := 12) (j := 8) (v := (kRun (fun i => d0 (236 + i)) q (nI uu) q 0 kC0).1) hk2 rfl (by decide +kernel) rfl (by decide) (by decide) ?_
    refine g_iflt (n := 49) 57 rfl (by decide) (fun h2 => ?_) (fun h2 => ?_)
    ·
      rw [if_pos h2]
      exact c_textT huu hqq hJ1
    ·
      rw [if_neg h2]
      refine g_bipush (n := 51) (v := -10) rfl rfl ?_
      refine g_aload_n (n := 52) rfl rfl ?_
      refine g_getv (n := 55) (ci := 12) (j := 8) (v := (kRun (fun i => d0 (236 + i)) q (nI uu) q 0 kC0).1) hk2 rfl (by decide +kernel) rfl (by decide) (by decide) ?_
      refine g_isub (n := 56) rfl ?_
      refine g_iret (n := 57) rfl (fun h => nomatch h) ?_
      exact qD_v hJ1.x
  ·
    refine g_ifne0 (n := 10) 16 rfl (by decide) ?_
    rw [if_neg h1]
    refine g_aload_n (n := 11) rfl rfl ?_
    refine g_iconst (n := 12) (v := 1) rfl rfl ?_
    refine g_cv1 (n := 15) (t := 140) (ci := 12) rfl (by decide +kernel) (by decide +kernel) (by decide) (by decide) (by decide +kernel) (by rfl) (c_finds (k := 1) (by omega)) (by omega) (g_E ?_)
    try simp only [mR_125, mR_up, mR_w124, mR_r124, mR_w126, mR_r126, mR_w128, mR_r128, mR_w130, mR_r130, mR_w131, mR_r131, mR_w132, mR_r132, mR_w133, mR_r133, mR_w134, mR_r134, mR_w135, mR_r135]
    refine g_iret (n := 16) rfl (fun h => nomatch h) ?_
    exact qD_e (by decide) mX.rfl'
theorem off_d {l : List (Int × Int)} {x : Int32} {df : Int} (h : l.all (fun q => decide (¬ q.1 = x.toInt)) = true) : Op.lookupswitch.offset l df x.toInt = df := by
  induction l with
  | nil => rfl
  | cons a l ih =>
    rw [List.all_cons, Bool.and_eq_true] at h
    obtain ⟨k, o⟩ := a
    rw [Op.lookupswitch.offset_cons, if_neg (of_decide_eq_true h.1)]
    exact ih h.2
theorem tI_ne {x c : Int32} {k : Int} (hk : c.toInt = k) (h : ¬ x = c) : ¬ k = x.toInt := fun q => h (Int32.toInt_inj.mp (q.symm.trans hk.symm))
theorem c_result {sc : List Value} {nm : Nat} {I : mg_I} {op l r : Int32} : SP sc 1 68 [.int op, .int l, .int r] I nm (qE (cRes op l r) I nm) := by
  refine SP.of (h := 0) (t := 68) (q := (yX8_result, cX8_result, 3, (some .int), 8, 555, mi_k68)) rfl (by decide) (show ¬ (3 : Nat) < 3 by decide) (fun d hd => ?_)
  show GG sc 8 false false mi_k68 d 0 [.int op, .int l, .int r] [] I nm (qE (cRes op l r) I nm)
  unfold cRes
  refine g_iload_n (n := 1) rfl rfl ?_
  by_cases h124 : op = 124
  · subst h124
    rw [if_pos rfl]
    refine g_look (off := 91) 92 rfl (by decide +kernel) (by decide +kernel) (by decide) ?_
    refine g_iload_n (n := 93) rfl rfl ?_
    refine g_ifne (n := 96) 100 rfl (by decide) (fun h1 => ?_) (fun h1 => ?_)
    ·
      refine g_iconst (n := 101) (v := 1) rfl rfl ?_
      refine g_goto 105 rfl (by decide) ?_
      refine g_iret (n := 106) rfl (fun h => nomatch h) ?_
      exact ⟨congrArg (fun z => some (Value.int z)) (by first | rfl | exact (bI_t (by first | assumption | exact Or.inl (by assumption) | exact Or.inr (by assumption) | exact ⟨by assumption, by assumption⟩)).symm | exact (bI_f (fun q => by first | exact absurd q (by assumption) | (rcases q with q | q <;> contradiction) | exact absurd (by assumption) q.1 | exact absurd (by assumption) q.2 | (exact absurd q (Int32.not_lt.mpr (by assumption))))).symm | exact (bI_t (Int32.not_le.mp (by assumption))).symm | exact (if_pos (by assumption)).symm | exact (if_neg (by assumption)).symm), rfl, rfl⟩
    ·
      refine g_iload_n (n := 97) rfl rfl ?_
      refine g_ifeq (n := 100) 104 rfl (by decide) (fun h2 => ?_) (fun h2 => ?_)
      ·
        refine g_iconst (n := 105) (v := 0) rfl rfl ?_
        refine g_iret (n := 106) rfl (fun h => nomatch h) ?_
        exact ⟨congrArg (fun z => some (Value.int z)) (by first | rfl | exact (bI_t (by first | assumption | exact Or.inl (by assumption) | exact Or.inr (by assumption) | exact ⟨by assumption, by assumption⟩)).symm | exact (bI_f (fun q => by first | exact absurd q (by assumption) | (rcases q with q | q <;> contradiction) | exact absurd (by assumption) q.1 | exact absurd (by assumption) q.2 | (exact absurd q (Int32.not_lt.mpr (by assumption))))).symm | exact (bI_t (Int32.not_le.mp (by assumption))).symm | exact (if_pos (by assumption)).symm | exact (if_neg (by assumption)).symm), rfl, rfl⟩
      ·
        refine g_iconst (n := 101) (v := 1) rfl rfl ?_
        refine g_goto 105 rfl (by decide) ?_
        refine g_iret (n := 106) rfl (fun h => nomatch h) ?_
        exact ⟨congrArg (fun z => some (Value.int z)) (by first | rfl | exact (bI_t (by first | assumption | exact Or.inl (by assumption) | exact Or.inr (by assumption) | exact ⟨by assumption, by assumption⟩)).symm | exact (bI_f (fun q => by first | exact absurd q (by assumption) | (rcases q with q | q <;> contradiction) | exact absurd (by assumption) q.1 | exact absurd (by assumption) q.2 | (exact absurd q (Int32.not_lt.mpr (by assumption))))).symm | exact (bI_t (Int32.not_le.mp (by assumption))).symm | exact (if_pos (by assumption)).symm | exact (if_neg (by assumption)).symm), rfl, rfl⟩
  by_cases h38 : op = 38
  · subst h38
    rw [if_neg (by decide), if_pos rfl]
    refine g_look (off := 105) 106 rfl (by decide +kernel) (by decide +kernel) (by decide) ?_
    refine g_iload_n (n := 107) rfl rfl ?_
    refine g_ifeq (n := 110) 118 rfl (by decide) (fun h1 => ?_) (fun h1 => ?_)
    ·
      refine g_iconst (n := 119) (v := 0) rfl rfl ?_
      refine g_iret (n := 120) rfl (fun h => nomatch h) ?_
      exact ⟨congrArg (fun z => some (Value.int z)) (by first | rfl | exact (bI_t (by first | assumption | exact Or.inl (by assumption) | exact Or.inr (by assumption) | exact ⟨by assumption, by assumption⟩)).symm | exact (bI_f (fun q => by first | exact absurd q (by assumption) | (rcases q with q | q <;> contradiction) | exact absurd (by assumption) q.1 | exact absurd (by assumption) q.2 | (exact absurd q (Int32.not_lt.mpr (by assumption))))).symm | exact (bI_t (Int32.not_le.mp (by assumption))).symm | exact (if_pos (by assumption)).symm | exact (if_neg (by assumption)).symm), rfl, rfl⟩
    ·
      refine g_iload_n (n := 111) rfl rfl ?_
      refine g_ifeq (n := 114) 118 rfl (by decide) (fun h2 => ?_) (fun h2 => ?_)
      ·
        refine g_iconst (n := 119) (v := 0) rfl rfl ?_
        refine g_iret (n := 120) rfl (fun h => nomatch h) ?_
        exact ⟨congrArg (fun z => some (Value.int z)) (by first | rfl | exact (bI_t (by first | assumption | exact Or.inl (by assumption) | exact Or.inr (by assumption) | exact ⟨by assumption, by assumption⟩)).symm | exact (bI_f (fun q => by first | exact absurd q (by assumption) | (rcases q with q | q <;> contradiction) | exact absurd (by assumption) q.1 | exact absurd (by assumption) q.2 | (exact absurd q (Int32.not_lt.mpr (by assumption))))).symm | exact (bI_t (Int32.not_le.mp (by assumption))).symm | exact (if_pos (by assumption)).symm | exact (if_neg (by assumption)).symm), rfl, rfl⟩
      ·
        refine g_iconst (n := 115) (v := 1) rfl rfl ?_
        refine g_goto 119 rfl (by decide) ?_
        refine g_iret (n := 120) rfl (fun h => nomatch h) ?_
        exact ⟨congrArg (fun z => some (Value.int z)) (by first | rfl | exact (bI_t (by first | assumption | exact Or.inl (by assumption) | exact Or.inr (by assumption) | exact ⟨by assumption, by assumption⟩)).symm | exact (bI_f (fun q => by first | exact absurd q (by assumption) | (rcases q with q | q <;> contradiction) | exact absurd (by assumption) q.1 | exact absurd (by assumption) q.2 | (exact absurd q (Int32.not_lt.mpr (by assumption))))).symm | exact (bI_t (Int32.not_le.mp (by assumption))).symm | exact (if_pos (by assumption)).symm | exact (if_neg (by assumption)).symm), rfl, rfl⟩
  by_cases h60 : op = 60
  · subst h60
    rw [if_neg (by decide), if_neg (by decide), if_pos rfl]
    refine g_look (off := 119) 120 rfl (by decide +kernel) (by decide +kernel) (by decide) ?_
    refine g_iload_n (n := 121) rfl rfl ?_
    refine g_iload_n (n := 122) rfl rfl ?_
    refine g_icge (n := 125) 129 rfl (by decide) (fun h1 => ?_) (fun h1 => ?_)
    ·
      refine g_iconst (n := 130) (v := 0) rfl rfl ?_
      refine g_iret (n := 131) rfl (fun h => nomatch h) ?_
      exact ⟨congrArg (fun z => some (Value.int z)) (by first | rfl | exact (bI_t (by first | assumption | exact Or.inl (by assumption) | exact Or.inr (by assumption) | exact ⟨by assumption, by assumption⟩)).symm | exact (bI_f (fun q => by first | exact absurd q (by assumption) | (rcases q with q | q <;> contradiction) | exact absurd (by assumption) q.1 | exact absurd (by assumption) q.2 | (exact absurd q (Int32.not_lt.mpr (by assumption))))).symm | exact (bI_t (Int32.not_le.mp (by assumption))).symm | exact (if_pos (by assumption)).symm | exact (if_neg (by assumption)).symm), rfl, rfl⟩
    ·
      refine g_iconst (n := 126) (v := 1) rfl rfl ?_
      refine g_goto 130 rfl (by decide) ?_
      refine g_iret (n := 131) rfl (fun h => nomatch h) ?_
      exact ⟨congrArg (fun z => some (Value.int z)) (by first | rfl | exact (bI_t (by first | assumption | exact Or.inl (by assumption) | exact Or.inr (by assumption) | exact ⟨by assumption, by assumption⟩)).symm | exact (bI_f (fun q => by first | exact absurd q (by assumption) | (rcases q with q | q <;> contradiction) | exact absurd (by assumption) q.1 | exact absurd (by assumption) q.2 | (exact absurd q (Int32.not_lt.mpr (by assumption))))).symm | exact (bI_t (Int32.not_le.mp (by assumption))).symm | exact (if_pos (by assumption)).symm | exact (if_neg (by assumption)).symm), rfl, rfl⟩
  by_cases h61 : op = 61
  · subst h61
    rw [if_neg (by decide), if_neg (by decide), if_neg (by decide), if_pos rfl]
    refine g_look (off := 130) 131 rfl (by decide +kernel) (by decide +kernel) (by decide) ?_
    refine g_iload_n (n := 132) rfl rfl ?_
    refine g_iload_n (n := 133) rfl rfl ?_
    refine g_icne (n := 136) 140 rfl (by decide) (fun h1 => ?_) (fun h1 => ?_)
    ·
      refine g_iconst (n := 141) (v := 0) rfl rfl ?_
      refine g_iret (n := 142) rfl (fun h => nomatch h) ?_
      exact ⟨congrArg (fun z => some (Value.int z)) (by first | rfl | exact (bI_t (by first | assumption | exact Or.inl (by assumption) | exact Or.inr (by assumption) | exact ⟨by assumption, by assumption⟩)).symm | exact (bI_f (fun q => by first | exact absurd q (by assumption) | (rcases q with q | q <;> contradiction) | exact absurd (by assumption) q.1 | exact absurd (by assumption) q.2 | (exact absurd q (Int32.not_lt.mpr (by assumption))))).symm | exact (bI_t (Int32.not_le.mp (by assumption))).symm | exact (if_pos (by assumption)).symm | exact (if_neg (by assumption)).symm), rfl, rfl⟩
    ·
      refine g_iconst (n := 137) (v := 1) rfl rfl ?_
      refine g_goto 141 rfl (by decide) ?_
      refine g_iret (n := 142) rfl (fun h => nomatch h) ?_
      exact ⟨congrArg (fun z => some (Value.int z)) (by first | rfl | exact (bI_t (by first | assumption | exact Or.inl (by assumption) | exact Or.inr (by assumption) | exact ⟨by assumption, by assumption⟩)).symm | exact (bI_f (fun q => by first | exact absurd q (by assumption) | (rcases q with q | q <;> contradiction) | exact absurd (by assumption) q.1 | exact absurd (by assumption) q.2 | (exact absurd q (Int32.not_lt.mpr (by assumption))))).symm | exact (bI_t (Int32.not_le.mp (by assumption))).symm | exact (if_pos (by assumption)).symm | exact (if_neg (by assumption)).symm), rfl, rfl⟩
  by_cases h62 : op = 62
  · subst h62
    rw [if_neg (by decide), if_neg (by decide), if_neg (by decide), if_neg (by decide), if_pos rfl]
    refine g_look (off := 141) 142 rfl (by decide +kernel) (by decide +kernel) (by decide) ?_
    refine g_iload_n (n := 143) rfl rfl ?_
    refine g_iload_n (n := 144) rfl rfl ?_
    refine g_icle (n := 147) 151 rfl (by decide) (fun h1 => ?_) (fun h1 => ?_)
    ·
      refine g_iconst (n := 152) (v := 0) rfl rfl ?_
      refine g_iret (n := 153) rfl (fun h => nomatch h) ?_
      exact ⟨congrArg (fun z => some (Value.int z)) (by first | rfl | exact (bI_t (by first | assumption | exact Or.inl (by assumption) | exact Or.inr (by assumption) | exact ⟨by assumption, by assumption⟩)).symm | exact (bI_f (fun q => by first | exact absurd q (by assumption) | (rcases q with q | q <;> contradiction) | exact absurd (by assumption) q.1 | exact absurd (by assumption) q.2 | (exact absurd q (Int32.not_lt.mpr (by assumption))))).symm | exact (bI_t (Int32.not_le.mp (by assumption))).symm | exact (if_pos (by assumption)).symm | exact (if_neg (by assumption)).symm), rfl, rfl⟩
    ·
      refine g_iconst (n := 148) (v := 1) rfl rfl ?_
      refine g_goto 152 rfl (by decide) ?_
      refine g_iret (n := 153) rfl (fun h => nomatch h) ?_
      exact ⟨congrArg (fun z => some (Value.int z)) (by first | rfl | exact (bI_t (by first | assumption | exact Or.inl (by assumption) | exact Or.inr (by assumption) | exact ⟨by assumption, by assumption⟩)).symm | exact (bI_f (fun q => by first | exact absurd q (by assumption) | (rcases q with q | q <;> contradiction) | exact absurd (by assumption) q.1 | exact absurd (by assumption) q.2 | (exact absurd q (Int32.not_lt.mpr (by assumption))))).symm | exact (bI_t (Int32.not_le.mp (by assumption))).symm | exact (if_pos (by assumption)).symm | exact (if_neg (by assumption)).symm), rfl, rfl⟩
  by_cases h43 : op = 43
  · subst h43
    rw [if_neg (by decide), if_neg (by decide), if_neg (by decide), if_neg (by decide), if_neg (by decide), if_pos rfl]
    refine g_look (off := 152) 153 rfl (by decide +kernel) (by decide +kernel) (by decide) ?_
    refine g_iload_n (n := 154) rfl rfl ?_
    refine g_iload_n (n := 155) rfl rfl ?_
    refine g_iadd (n := 156) rfl ?_
    refine g_iret (n := 157) rfl (fun h => nomatch h) ?_
    exact ⟨congrArg (fun z => some (Value.int z)) (by first | rfl | exact (bI_t (by first | assumption | exact Or.inl (by assumption) | exact Or.inr (by assumption) | exact ⟨by assumption, by assumption⟩)).symm | exact (bI_f (fun q => by first | exact absurd q (by assumption) | (rcases q with q | q <;> contradiction) | exact absurd (by assumption) q.1 | exact absurd (by assumption) q.2 | (exact absurd q (Int32.not_lt.mpr (by assumption))))).symm | exact (bI_t (Int32.not_le.mp (by assumption))).symm | exact (if_pos (by assumption)).symm | exact (if_neg (by assumption)).symm), rfl, rfl⟩
  by_cases h45 : op = 45
  · subst h45
    rw [if_neg (by decide), if_neg (by decide), if_neg (by decide), if_neg (by decide), if_neg (by decide), if_neg (by decide), if_pos rfl]
    refine g_look (off := 156) 157 rfl (by decide +kernel) (by decide +kernel) (by decide) ?_
    refine g_iload_n (n := 158) rfl rfl ?_
    refine g_iload_n (n := 159) rfl rfl ?_
    refine g_isub (n := 160) rfl ?_
    refine g_iret (n := 161) rfl (fun h => nomatch h) ?_
    exact ⟨congrArg (fun z => some (Value.int z)) (by first | rfl | exact (bI_t (by first | assumption | exact Or.inl (by assumption) | exact Or.inr (by assumption) | exact ⟨by assumption, by assumption⟩)).symm | exact (bI_f (fun q => by first | exact absurd q (by assumption) | (rcases q with q | q <;> contradiction) | exact absurd (by assumption) q.1 | exact absurd (by assumption) q.2 | (exact absurd q (Int32.not_lt.mpr (by assumption))))).symm | exact (bI_t (Int32.not_le.mp (by assumption))).symm | exact (if_pos (by assumption)).symm | exact (if_neg (by assumption)).symm), rfl, rfl⟩
  by_cases h42 : op = 42
  · subst h42
    rw [if_neg (by decide), if_neg (by decide), if_neg (by decide), if_neg (by decide), if_neg (by decide), if_neg (by decide), if_neg (by decide), if_pos rfl]
    refine g_look (off := 160) 161 rfl (by decide +kernel) (by decide +kernel) (by decide) ?_
    refine g_iload_n (n := 162) rfl rfl ?_
    refine g_iload_n (n := 163) rfl rfl ?_
    refine g_imul (n := 164) rfl ?_
    refine g_iret (n := 165) rfl (fun h => nomatch h) ?_
    exact ⟨congrArg (fun z => some (Value.int z)) (by first | rfl | exact (bI_t (by first | assumption | exact Or.inl (by assumption) | exact Or.inr (by assumption) | exact ⟨by assumption, by assumption⟩)).symm | exact (bI_f (fun q => by first | exact absurd q (by assumption) | (rcases q with q | q <;> contradiction) | exact absurd (by assumption) q.1 | exact absurd (by assumption) q.2 | (exact absurd q (Int32.not_lt.mpr (by assumption))))).symm | exact (bI_t (Int32.not_le.mp (by assumption))).symm | exact (if_pos (by assumption)).symm | exact (if_neg (by assumption)).symm), rfl, rfl⟩
  by_cases h47 : op = 47
  · subst h47
    rw [if_neg (by decide), if_neg (by decide), if_neg (by decide), if_neg (by decide), if_neg (by decide), if_neg (by decide), if_neg (by decide), if_neg (by decide), if_pos rfl]
    refine g_look (off := 164) 165 rfl (by decide +kernel) (by decide +kernel) (by decide) ?_
    refine g_iload_n (n := 166) rfl rfl ?_
    refine g_ifne (n := 169) 173 rfl (by decide) (fun h1 => ?_) (fun h1 => ?_)
    ·
      refine g_iload_n (n := 174) rfl rfl ?_
      refine g_iload_n (n := 175) rfl rfl ?_
      refine g_idiv (n := 176) rfl (by first | decide | assumption) ?_
      refine g_iret (n := 177) rfl (fun h => nomatch h) ?_
      exact ⟨congrArg (fun z => some (Value.int z)) (by first | rfl | exact (bI_t (by first | assumption | exact Or.inl (by assumption) | exact Or.inr (by assumption) | exact ⟨by assumption, by assumption⟩)).symm | exact (bI_f (fun q => by first | exact absurd q (by assumption) | (rcases q with q | q <;> contradiction) | exact absurd (by assumption) q.1 | exact absurd (by assumption) q.2 | (exact absurd q (Int32.not_lt.mpr (by assumption))))).symm | exact (bI_t (Int32.not_le.mp (by assumption))).symm | exact (if_pos (by assumption)).symm | exact (if_neg (by assumption)).symm), rfl, rfl⟩
    ·
      refine g_iconst (n := 170) (v := 0) rfl rfl ?_
      refine g_goto 176 rfl (by decide) ?_
      refine g_iret (n := 177) rfl (fun h => nomatch h) ?_
      exact ⟨congrArg (fun z => some (Value.int z)) (by first | rfl | exact (bI_t (by first | assumption | exact Or.inl (by assumption) | exact Or.inr (by assumption) | exact ⟨by assumption, by assumption⟩)).symm | exact (bI_f (fun q => by first | exact absurd q (by assumption) | (rcases q with q | q <;> contradiction) | exact absurd (by assumption) q.1 | exact absurd (by assumption) q.2 | (exact absurd q (Int32.not_lt.mpr (by assumption))))).symm | exact (bI_t (Int32.not_le.mp (by assumption))).symm | exact (if_pos (by assumption)).symm | exact (if_neg (by assumption)).symm), rfl, rfl⟩
  by_cases h37 : op = 37
  · subst h37
    rw [if_neg (by decide), if_neg (by decide), if_neg (by decide), if_neg (by decide), if_neg (by decide), if_neg (by decide), if_neg (by decide), if_neg (by decide), if_neg (by decide), if_pos rfl]
    refine g_look (off := 176) 177 rfl (by decide +kernel) (by decide +kernel) (by decide) ?_
    refine g_iload_n (n := 178) rfl rfl ?_
    refine g_ifne (n := 181) 185 rfl (by decide) (fun h1 => ?_) (fun h1 => ?_)
    ·
      refine g_iload_n (n := 186) rfl rfl ?_
      refine g_iload_n (n := 187) rfl rfl ?_
      refine g_irem (n := 188) rfl (by first | decide | assumption) ?_
      refine g_iret (n := 189) rfl (fun h => nomatch h) ?_
      exact ⟨congrArg (fun z => some (Value.int z)) (by first | rfl | exact (bI_t (by first | assumption | exact Or.inl (by assumption) | exact Or.inr (by assumption) | exact ⟨by assumption, by assumption⟩)).symm | exact (bI_f (fun q => by first | exact absurd q (by assumption) | (rcases q with q | q <;> contradiction) | exact absurd (by assumption) q.1 | exact absurd (by assumption) q.2 | (exact absurd q (Int32.not_lt.mpr (by assumption))))).symm | exact (bI_t (Int32.not_le.mp (by assumption))).symm | exact (if_pos (by assumption)).symm | exact (if_neg (by assumption)).symm), rfl, rfl⟩
    ·
      refine g_iconst (n := 182) (v := 0) rfl rfl ?_
      refine g_goto 188 rfl (by decide) ?_
      refine g_iret (n := 189) rfl (fun h => nomatch h) ?_
      exact ⟨congrArg (fun z => some (Value.int z)) (by first | rfl | exact (bI_t (by first | assumption | exact Or.inl (by assumption) | exact Or.inr (by assumption) | exact ⟨by assumption, by assumption⟩)).symm | exact (bI_f (fun q => by first | exact absurd q (by assumption) | (rcases q with q | q <;> contradiction) | exact absurd (by assumption) q.1 | exact absurd (by assumption) q.2 | (exact absurd q (Int32.not_lt.mpr (by assumption))))).symm | exact (bI_t (Int32.not_le.mp (by assumption))).symm | exact (if_pos (by assumption)).symm | exact (if_neg (by assumption)).symm), rfl, rfl⟩
  rw [if_neg h124, if_neg h38, if_neg h60, if_neg h61, if_neg h62, if_neg h43, if_neg h45, if_neg h42, if_neg h47, if_neg h37]
  refine g_look (off := 188) 189 rfl (by decide +kernel) (off_d (by simp only [List.all_cons, List.all_nil, Bool.and_true, Bool.and_eq_true, decide_eq_true_eq]; exact ⟨tI_ne rfl h37, tI_ne rfl h38, tI_ne rfl h42, tI_ne rfl h43, tI_ne rfl h45, tI_ne rfl h47, tI_ne rfl h60, tI_ne rfl h61, tI_ne rfl h62, tI_ne rfl h124⟩)) (by decide) ?_
  refine g_iconst (n := 190) (v := 0) rfl rfl ?_
  refine g_iret (n := 191) rfl (fun h => nomatch h) ?_
  exact ⟨rfl, rfl, rfl⟩
/-- a row as a stack (its last the head), as a list -/
def vs (I : mg_I) (R : Nat) (st : List Int32) : Prop := I R 1 = nI st.length ∧ ∀ i, i < st.length → I (R + 1) (st.length - 1 - i) = st.getD i 0
def vF (R : Nat) (I I' : mg_I) : Prop := ∀ a j, a ≠ R → a ≠ R + 1 → I' a j = I a j
theorem vF.rfl' {R : Nat} {I : mg_I} : vF R I I := fun _ _ _ _ => rfl
theorem vF.trans {R : Nat} {I J K : mg_I} (h : vF R I J) (h2 : vF R J K) : vF R I K := fun a j x y => (h2 a j x y).trans (h a j x y)
theorem vF_up {R : Nat} {I J : mg_I} (h : vF R I J) {a j : Nat} {x : Int32} (ha : a = R ∨ a = R + 1) : vF R I (mf_up J a j x) := by
  intro b k h1 h2
  unfold mf_up
  rw [if_neg (by omega)]
  exact h b k h1 h2
theorem vs_0 {I : mg_I} {R : Nat} {st : List Int32} (h : vs I R st) : vs (mf_up I R 1 0) R [] := ⟨if_pos ⟨rfl, rfl⟩, fun i hi => absurd hi (Nat.not_lt_zero _)⟩
theorem vs_push {I : mg_I} {R : Nat} {st : List Int32} {x : Int32} (h : vs I R st) : vs (mf_up (mf_up I (R + 1) st.length x) R 1 (nI (st.length + 1))) R (x :: st) := by
  refine ⟨if_pos ⟨rfl, rfl⟩, fun i hi => ?_⟩
  rw [List.length_cons] at hi ⊢
  unfold mf_up
  rw [if_neg (by omega)]
  rcases i with _ | i
  · rw [if_pos ⟨rfl, by omega⟩]; rfl
  · rw [if_neg (by omega), show st.length + 1 - 1 - (i + 1) = st.length - 1 - i by omega, h.2 i (by omega)]
    rfl
theorem vs_pop {I : mg_I} {R : Nat} {st : List Int32} {x : Int32} (h : vs I R (x :: st)) : vs (mf_up I R 1 (nI st.length)) R st := by
  refine ⟨if_pos ⟨rfl, rfl⟩, fun i hi => ?_⟩
  unfold mf_up
  rw [if_neg (by omega)]
  have h2 := h.2 (i + 1) (by rw [List.length_cons]; omega)
  rw [List.length_cons, show st.length + 1 - 1 - (i + 1) = st.length - 1 - i by omega] at h2
  exact h2
theorem vs_top {I : mg_I} {R : Nat} {st : List Int32} {x : Int32} (h : vs I R (x :: st)) : I (R + 1) st.length = x := by
  have h2 := h.2 0 (by rw [List.length_cons]; omega)
  rw [List.length_cons, show st.length + 1 - 1 - 0 = st.length by omega] at h2
  exact h2
def qVS (v : Int32) (R : Nat) (st : List Int32) (I : mg_I) (nm : Nat) : Option Value → mg_I → Nat → Prop := fun r I' nm' => r = some (.int v) ∧ vs I' R st ∧ vF R I I' ∧ nm' = nm
theorem g_VS {sc : List Value} {own : Nat} {ini rz : Bool} {code : List (Nat × Instr)} {d n : Nat} {ls : List Value} {I : mg_I} {nm0 : Nat} {Q : Option Value → mg_I → Nat → Prop} {r : List Value} {v : Int32} {R : Nat} {st : List Int32} (k : ∀ I', vs I' R st → vF R I I' → GG sc own ini rz code d n ls (.int v :: r) I' nm0 Q) : ∀ a I2 nm2, qVS v R st I nm0 a I2 nm2 → GG sc own ini rz code d n ls (a.toList ++ r) I2 nm2 Q := by
  rintro a I2 nm2 ⟨rfl, h1, h2, rfl⟩
  exact k I2 h1 h2
theorem c_vpush {sc : List Value} {nm : Nat} {I : mg_I} {R : Nat} {st : List Int32} {x : Int32} (hR : isRow R 50) (h : vs I R st) (hl : st.length < 50) : SP sc 1 54 [.ref R, .int x] I nm (qVS 1 R (x :: st) I nm) :=
  (c_radd hR h.1 hl).mono fun r I' nm' hq => ⟨hq.1, by rw [hq.2.1]; exact vs_push h, by rw [hq.2.1]; exact vF_up (vF_up vF.rfl' (Or.inr rfl)) (Or.inl rfl), hq.2.2⟩
theorem c_vpop {sc : List Value} {nm : Nat} {I : mg_I} {R : Nat} {st : List Int32} (hR : isRow R 50) (h : vs I R st) (hl : st.length ≤ 50) : SP sc 1 56 [.ref R] I nm (qVS (st.headD 0) R st.tail I nm) := by
  cases st with
  | nil => exact (c_rrem0 hR h.1).mono fun r I' nm' hq => ⟨hq.1, by rw [hq.2.1]; exact h, by rw [hq.2.1]; exact vF.rfl', hq.2.2⟩
  | cons x st =>
    refine (c_rrem (n := st.length) hR h.1 hl).mono fun r I' nm' hq => ⟨?_, ?_, ?_, hq.2.2⟩
    · rw [hq.1, vs_top h]; rfl
    · rw [hq.2.1]; exact vs_pop h
    · rw [hq.2.1]; exact vF_up vF.rfl' (Or.inl rfl)
theorem c_vlast {sc : List Value} {nm : Nat} {I : mg_I} {R : Nat} {st : List Int32} (hR : isRow R 50) (h : vs I R st) (hl : st.length ≤ 50) : SP sc 1 55 [.ref R] I nm (qE (st.headD 0) I nm) := by
  cases st with
  | nil => exact c_rlast0 hR h.1
  | cons x st =>
    refine (c_rlast (n := st.length) hR h.1 hl).mono fun r I' nm' hq => ⟨?_, hq.2.1, hq.2.2⟩
    rw [hq.1, vs_top h]; rfl
def isText (T : Nat) : Prop := T = 30 ∨ T = 37 ∨ T = 60 ∨ T = 67 ∨ T = 90 ∨ T = 97 ∨ T = 104
theorem tx_hd {T : Nat} (h : isText T) : 5 ≤ T ∧ mf_hd T = 8 := by rcases h with rfl | rfl | rfl | rfl | rfl | rfl | rfl <;> decide
theorem tx_136 {T : Nat} (h : isText T) : T < 136 := by rcases h with rfl | rfl | rfl | rfl | rfl | rfl | rfl <;> decide
theorem tx_sz {T : Nat} (h : isText T) : mf_sz T = 9 := by rcases h with rfl | rfl | rfl | rfl | rfl | rfl | rfl <;> decide
theorem tx_lt {T j : Nat} (h : isText T) (hj : j < 9) : T < 136 ∧ j < mf_sz T := ⟨tx_136 h, by rw [tx_sz h]; exact hj⟩
theorem tx_r2 {T : Nat} (h : isText T) : mf_rf T 2 = some (T + 1) := by rcases h with rfl | rfl | rfl | rfl | rfl | rfl | rfl <;> decide
theorem tx_r3 {T : Nat} (h : isText T) : mf_rf T 3 = some (T + 3) := by rcases h with rfl | rfl | rfl | rfl | rfl | rfl | rfl <;> decide
theorem tx_r4 {T : Nat} (h : isText T) : mf_rf T 4 = some (T + 5) := by rcases h with rfl | rfl | rfl | rfl | rfl | rfl | rfl <;> decide
theorem tx_c {T : Nat} (h : isText T) : isRow (T + 1) 50 := by unfold isRow; rcases h with rfl | rfl | rfl | rfl | rfl | rfl | rfl <;> decide
theorem tx_v {T : Nat} (h : isText T) : isRow (T + 3) 50 := by unfold isRow; rcases h with rfl | rfl | rfl | rfl | rfl | rfl | rfl <;> decide
theorem tx_p {T : Nat} (h : isText T) : isRow (T + 5) 50 := by unfold isRow; rcases h with rfl | rfl | rfl | rfl | rfl | rfl | rfl <;> decide
/-- the values behind the first k of a code -/
def cEv (code nm3 : Nat → Int32) : Nat → List Int32
  | 0 => []
  | k + 1 => eS nm3 (cEv code nm3 k) (code k)
theorem eS_len {nm3 : Nat → Int32} {st : List Int32} {op : Int32} : (eS nm3 st op).length ≤ st.length + 1 := by
  unfold eS
  repeat' split
  all_goals simp only [List.length_cons, List.length_tail]
  all_goals omega
theorem cEv_len {code nm3 : Nat → Int32} : ∀ k, (cEv code nm3 k).length ≤ k := by
  intro k
  induction k with
  | zero => exact Nat.le_refl _
  | succ k ih => have := @eS_len nm3 (cEv code nm3 k) (code k); rw [cEv]; omega
theorem cEv_eE {code nm3 : Nat → Int32} {cd : List Int32} (h : ∀ i, i < cd.length → code i = cd.getD i 0) : cEv code nm3 cd.length = eE nm3 cd := by
  have h2 : ∀ k, k ≤ cd.length → cEv code nm3 k = eE nm3 (cd.take k) := by
    intro k
    induction k with
    | zero => intro _; rfl
    | succ k ih =>
      intro hk
      rw [cEv, ih (by omega), h k (by omega), List.take_succ, List.getD_eq_getElem?_getD, List.getElem?_eq_getElem (by omega)]
      exact eE_1.symm
  rw [h2 _ (Nat.le_refl _), List.take_length]
def cMM (lo hi x : Int32) : Int32 := if lo < (if x < hi then x else hi) then (if x < hi then x else hi) else lo
def qVT (v : Int32) (T : Nat) (I : mg_I) (nm : Nat) : Option Value → mg_I → Nat → Prop := fun r I' nm' => r = some (.int v) ∧ vF (T + 3) I I' ∧ nm' = nm
theorem c_value {sc : List Value} {nm : Nat} {I0 : mg_I} {T n : Nat} {a b c : Int32} (hT : isText T) (hn : I0 (T + 1) 1 = nI n) (hn50 : n ≤ 50) : SP sc 3 67 [.ref T, .int a, .int b, .int c] I0 nm (qVT (cMM (I0 T 0) (I0 T 1) ((cEv (I0 (T + 2)) (n3 a b c) n).headD 0)) T I0 nm) := by
  refine SP.of (h := 2) (t := 67) (q := (yX8_value, cX8_value, 8, (some .int), 8, 540, mi_k67)) rfl (by decide) (show ¬ (8 : Nat) < 4 by decide) (fun d hd => ?_)
  show GG sc 8 false false mi_k67 d 0 [.ref T, .int a, .int b, .int c, .null, .null, .null, .null] [] I0 nm (qVT (cMM (I0 T 0) (I0 T 1) ((cEv (I0 (T + 2)) (n3 a b c) n).headD 0)) T I0 nm)
  have H : ∀ (m k : Nat) (I1 : mg_I) {x5 x6 x7 : Value}, x5.category = 1 → x6.category = 1 → k + m = n → vs I1 (T + 3) (cEv (I0 (T + 2)) (n3 a b c) k) → vF (T + 3) I0 I1 → GG sc 8 false false mi_k67 d 10 [.ref T, .int a, .int b, .int c, .int (nI k), x5, x6, x7] [] I1 nm (qVT (cMM (I0 T 0) (I0 T 1) ((cEv (I0 (T + 2)) (n3 a b c) n).headD 0)) T I0 nm) := by
    intro m
    induction m with
    | zero =>
      intro k I1 x5 x6 x7 hx5 hx6 hk hs hF
      have hcl := cEv_len (code := I0 (T + 2)) (nm3 := n3 a b c) k
      refine g_iload (n := 12) rfl rfl ?_
      refine g_aload_n (n := 13) rfl rfl ?_
      refine g_getr (n := 16) (ci := 8) (j := 2) (b := (T + 1)) rfl (by decide +kernel) (tx_hd hT) (tx_lt hT (by decide)) (tx_r2 hT) ?_
      refine g_getv (n := 19) (ci := 6) (j := 1) (v := nI n) ((hF (T + 1) 1 (by omega) (by omega)).trans hn) rfl (by decide +kernel) rfl (by decide) (rw_hd (tx_c hT)) ?_
      refine g_icge (n := 22) 166 rfl (by decide) (fun h1 => ?_) (fun h1 => ?_)
      ·
        refine g_aload_n (n := 167) rfl rfl ?_
        refine g_getv (n := 170) (ci := 8) (j := 0) (v := I0 T 0) (hF T 0 (by omega) (by omega)) rfl (by decide +kernel) rfl (by decide) (tx_hd hT) ?_
        refine g_aload_n (n := 171) rfl rfl ?_
        refine g_getv (n := 174) (ci := 8) (j := 1) (v := I0 T 1) (hF T 1 (by omega) (by omega)) rfl (by decide +kernel) rfl (by decide) (tx_hd hT) ?_
        refine g_aload_n (n := 175) rfl rfl ?_
        refine g_getr (n := 178) (ci := 8) (j := 3) (b := (T + 3)) rfl (by decide +kernel) (tx_hd hT) (tx_lt hT (by decide)) (tx_r3 hT) ?_
        refine g_cv0 (n := 181) (t := 55) (ci := 6) rfl (by decide +kernel) (by decide +kernel) (rw_hd (tx_v hT)) (rw_136 (tx_v hT)) (by decide +kernel) (by rfl) (c_vlast (tx_v hT) hs (by omega)) (by omega) (g_E ?_)
        refine g_min (n := 184) (pl := 560) rfl (by decide +kernel) rfl ?_
        refine g_max (n := 187) (pl := 563) rfl (by decide +kernel) rfl ?_
        refine g_iret (n := 188) rfl (fun h => nomatch h) ?_
        exact ⟨by unfold cMM; rw [show k = n by omega], hF, rfl⟩
      ·
        exact absurd (fN_nle (n := n) rfl (by omega) (by omega) h1) (by omega)
    | succ m ih =>
      intro k I1 x5 x6 x7 hx5 hx6 hk hs hF
      have hcl := cEv_len (code := I0 (T + 2)) (nm3 := n3 a b c) k
      refine g_iload (n := 12) rfl rfl ?_
      refine g_aload_n (n := 13) rfl rfl ?_
      refine g_getr (n := 16) (ci := 8) (j := 2) (b := (T + 1)) rfl (by decide +kernel) (tx_hd hT) (tx_lt hT (by decide)) (tx_r2 hT) ?_
      refine g_getv (n := 19) (ci := 6) (j := 1) (v := nI n) ((hF (T + 1) 1 (by omega) (by omega)).trans hn) rfl (by decide +kernel) rfl (by decide) (rw_hd (tx_c hT)) ?_
      refine g_icge (n := 22) 166 rfl (by decide) (fun h1 => ?_) (fun h1 => ?_)
      ·
        exact absurd (fN_le (n := n) rfl (by omega) (by omega) h1) (by omega)
      ·
        refine g_aload_n (n := 23) rfl rfl ?_
        refine g_getr (n := 26) (ci := 8) (j := 2) (b := (T + 1)) rfl (by decide +kernel) (tx_hd hT) (tx_lt hT (by decide)) (tx_r2 hT) ?_
        refine g_iload (n := 28) rfl rfl ?_
        refine g_cv1 (n := 31) (t := 52) (ci := 6) rfl (by decide +kernel) (by decide +kernel) (rw_hd (tx_c hT)) (rw_136 (tx_c hT)) (by decide +kernel) (by rfl) (c_rat (k := k) (tx_c hT) ((hF (T + 1) 1 (by omega) (by omega)).trans hn) (by omega) hn50) (by omega) (g_E ?_)
        refine g_top (w := I0 (T + 2) k) (hF (T + 2) k (by omega) (by omega)) ?_
        refine g_istore5 (n := 33) rfl rfl ?_
        refine g_iload (n := 35) rfl rfl ?_
        refine g_iflt (n := 38) 51 rfl (by decide) (fun h2 => ?_) (fun h2 => ?_)
        ·
          refine g_iload (n := 53) rfl rfl ?_
          refine g_bipush (n := 55) (v := -3) rfl rfl ?_
          refine g_iclt (n := 58) 91 rfl (by decide) (fun h3 => ?_) (fun h3 => ?_)
          ·
            refine g_iload (n := 93) rfl rfl ?_
            refine g_bipush (n := 95) (v := -33) rfl rfl ?_
            refine g_icne (n := 98) 124 rfl (by decide) (fun h4 => ?_) (fun h4 => ?_)
            ·
              refine g_aload_n (n := 125) rfl rfl ?_
              refine g_getr (n := 128) (ci := 8) (j := 3) (b := (T + 3)) rfl (by decide +kernel) (tx_hd hT) (tx_lt hT (by decide)) (tx_r3 hT) ?_
              refine g_cv0 (n := 131) (t := 56) (ci := 6) rfl (by decide +kernel) (by decide +kernel) (rw_hd (tx_v hT)) (rw_136 (tx_v hT)) (by decide +kernel) (by rfl) (c_vpop (tx_v hT) hs (by omega)) (by omega) (g_VS fun J1 hsJ1 hFJ1 => ?_)
              refine g_istore6 (n := 133) rfl rfl ?_
              refine g_aload_n (n := 134) rfl rfl ?_
              refine g_getr (n := 137) (ci := 8) (j := 3) (b := (T + 3)) rfl (by decide +kernel) (tx_hd hT) (tx_lt hT (by decide)) (tx_r3 hT) ?_
              refine g_cv0 (n := 140) (t := 56) (ci := 6) rfl (by decide +kernel) (by decide +kernel) (rw_hd (tx_v hT)) (rw_136 (tx_v hT)) (by decide +kernel) (by rfl) (c_vpop (tx_v hT) hsJ1 (by simp only [List.length_tail]; omega)) (by omega) (g_VS fun J2 hsJ2 hFJ2 => ?_)
              refine g_istore7 (n := 142) rfl rfl ?_
              refine g_aload_n (n := 143) rfl rfl ?_
              refine g_getr (n := 146) (ci := 8) (j := 3) (b := (T + 3)) rfl (by decide +kernel) (tx_hd hT) (tx_lt hT (by decide)) (tx_r3 hT) ?_
              refine g_iload (n := 148) rfl rfl ?_
              refine g_ineg (n := 149) rfl ?_
              refine g_iload (n := 151) rfl rfl ?_
              refine g_iload (n := 153) rfl rfl ?_
              refine g_cs3 (n := 156) (t := 68) (x := (553, 554, 83)) rfl (by decide +kernel) (by decide +kernel) (by rfl) c_result (by omega) (g_E ?_)
              refine g_cv1 (n := 159) (t := 54) (ci := 6) rfl (by decide +kernel) (by decide +kernel) (rw_hd (tx_v hT)) (rw_136 (tx_v hT)) (by decide +kernel) (by rfl) (c_vpush (tx_v hT) hsJ2 (by simp only [List.length_tail]; omega)) (by omega) (g_VS fun J3 hsJ3 hFJ3 => ?_)
              refine g_popi (n := 160) rfl ?_
              refine g_iinc4 (n := 163) rfl rfl (nI_inc _) ?_
              refine g_goto 10 rfl (by decide) ?_
              exact ih (k + 1) J3 (by first | rfl | assumption) (by first | rfl | assumption) (by omega) (by rw [cEv]; unfold eS; rw [if_neg (Int32.not_le.mpr h2), if_neg (Int32.not_le.mpr h3), if_neg h4]; exact hsJ3) (((hF.trans hFJ1).trans hFJ2).trans hFJ3)
            ·
              refine g_aload_n (n := 99) rfl rfl ?_
              refine g_getr (n := 102) (ci := 8) (j := 3) (b := (T + 3)) rfl (by decide +kernel) (tx_hd hT) (tx_lt hT (by decide)) (tx_r3 hT) ?_
              refine g_aload_n (n := 103) rfl rfl ?_
              refine g_getr (n := 106) (ci := 8) (j := 3) (b := (T + 3)) rfl (by decide +kernel) (tx_hd hT) (tx_lt hT (by decide)) (tx_r3 hT) ?_
              refine g_cv0 (n := 109) (t := 56) (ci := 6) rfl (by decide +kernel) (by decide +kernel) (rw_hd (tx_v hT)) (rw_136 (tx_v hT)) (by decide +kernel) (by rfl) (c_vpop (tx_v hT) hs (by omega)) (by omega) (g_VS fun J1 hsJ1 hFJ1 => ?_)
              refine g_ifne (n := 112) 116 rfl (by decide) (fun h5 => ?_) (fun h5 => ?_)
              ·
                refine g_iconst (n := 117) (v := 0) rfl rfl ?_
                refine g_cv1 (n := 120) (t := 54) (ci := 6) rfl (by decide +kernel) (by decide +kernel) (rw_hd (tx_v hT)) (rw_136 (tx_v hT)) (by decide +kernel) (by rfl) (c_vpush (tx_v hT) hsJ1 (by simp only [List.length_tail]; omega)) (by omega) (g_VS fun J2 hsJ2 hFJ2 => ?_)
                refine g_popi (n := 121) rfl ?_
                refine g_goto 160 rfl (by decide) ?_
                refine g_iinc4 (n := 163) rfl rfl (nI_inc _) ?_
                refine g_goto 10 rfl (by decide) ?_
                exact ih (k + 1) J2 (by first | rfl | assumption) (by first | rfl | assumption) (by omega) (by rw [cEv]; unfold eS; rw [if_neg (Int32.not_le.mpr h2), if_neg (Int32.not_le.mpr h3), if_pos h4, bI_f h5]; exact hsJ2) ((hF.trans hFJ1).trans hFJ2)
              ·
                refine g_iconst (n := 113) (v := 1) rfl rfl ?_
                refine g_goto 117 rfl (by decide) ?_
                refine g_cv1 (n := 120) (t := 54) (ci := 6) rfl (by decide +kernel) (by decide +kernel) (rw_hd (tx_v hT)) (rw_136 (tx_v hT)) (by decide +kernel) (by rfl) (c_vpush (tx_v hT) hsJ1 (by simp only [List.length_tail]; omega)) (by omega) (g_VS fun J2 hsJ2 hFJ2 => ?_)
                refine g_popi (n := 121) rfl ?_
                refine g_goto 160 rfl (by decide) ?_
                refine g_iinc4 (n := 163) rfl rfl (nI_inc _) ?_
                refine g_goto 10 rfl (by decide) ?_
                exact ih (k + 1) J2 (by first | rfl | assumption) (by first | rfl | assumption) (by omega) (by rw [cEv]; unfold eS; rw [if_neg (Int32.not_le.mpr h2), if_neg (Int32.not_le.mpr h3), if_pos h4, bI_t h5]; exact hsJ2) ((hF.trans hFJ1).trans hFJ2)
          ·
            refine g_aload_n (n := 59) rfl rfl ?_
            refine g_getr (n := 62) (ci := 8) (j := 3) (b := (T + 3)) rfl (by decide +kernel) (tx_hd hT) (tx_lt hT (by decide)) (tx_r3 hT) ?_
            refine g_iload (n := 64) rfl rfl ?_
            refine g_iconst (n := 65) (v := -1) rfl rfl ?_
            refine g_icne (n := 68) 72 rfl (by decide) (fun h6 => ?_) (fun h6 => ?_)
            ·
              refine g_iload (n := 74) rfl rfl ?_
              refine g_bipush (n := 76) (v := -3) rfl rfl ?_
              refine g_icne (n := 79) 83 rfl (by decide) (fun h7 => ?_) (fun h7 => ?_)
              ·
                refine g_iload_n (n := 84) rfl rfl ?_
                refine g_cv1 (n := 87) (t := 54) (ci := 6) rfl (by decide +kernel) (by decide +kernel) (rw_hd (tx_v hT)) (rw_136 (tx_v hT)) (by decide +kernel) (by rfl) (c_vpush (tx_v hT) hs (by omega)) (by omega) (g_VS fun J1 hsJ1 hFJ1 => ?_)
                refine g_popi (n := 88) rfl ?_
                refine g_goto 160 rfl (by decide) ?_
                refine g_iinc4 (n := 163) rfl rfl (nI_inc _) ?_
                refine g_goto 10 rfl (by decide) ?_
                exact ih (k + 1) J1 (by first | rfl | assumption) (by first | rfl | assumption) (by omega) (by rw [cEv]; unfold eS; rw [if_neg (Int32.not_le.mpr h2), if_pos (Int32.not_lt.mp h3), if_neg h6, if_neg h7]; exact hsJ1) (hF.trans hFJ1)
              ·
                refine g_iload_n (n := 80) rfl rfl ?_
                refine g_goto 84 rfl (by decide) ?_
                refine g_cv1 (n := 87) (t := 54) (ci := 6) rfl (by decide +kernel) (by decide +kernel) (rw_hd (tx_v hT)) (rw_136 (tx_v hT)) (by decide +kernel) (by rfl) (c_vpush (tx_v hT) hs (by omega)) (by omega) (g_VS fun J1 hsJ1 hFJ1 => ?_)
                refine g_popi (n := 88) rfl ?_
                refine g_goto 160 rfl (by decide) ?_
                refine g_iinc4 (n := 163) rfl rfl (nI_inc _) ?_
                refine g_goto 10 rfl (by decide) ?_
                exact ih (k + 1) J1 (by first | rfl | assumption) (by first | rfl | assumption) (by omega) (by rw [cEv]; unfold eS; rw [if_neg (Int32.not_le.mpr h2), if_pos (Int32.not_lt.mp h3), if_neg h6, if_pos h7]; exact hsJ1) (hF.trans hFJ1)
            ·
              refine g_iload_n (n := 69) rfl rfl ?_
              refine g_goto 84 rfl (by decide) ?_
              refine g_cv1 (n := 87) (t := 54) (ci := 6) rfl (by decide +kernel) (by decide +kernel) (rw_hd (tx_v hT)) (rw_136 (tx_v hT)) (by decide +kernel) (by rfl) (c_vpush (tx_v hT) hs (by omega)) (by omega) (g_VS fun J1 hsJ1 hFJ1 => ?_)
              refine g_popi (n := 88) rfl ?_
              refine g_goto 160 rfl (by decide) ?_
              refine g_iinc4 (n := 163) rfl rfl (nI_inc _) ?_
              refine g_goto 10 rfl (by decide) ?_
              exact ih (k + 1) J1 (by first | rfl | assumption) (by first | rfl | assumption) (by omega) (by rw [cEv]; unfold eS; rw [if_neg (Int32.not_le.mpr h2), if_pos (Int32.not_lt.mp h3), if_pos h6]; exact hsJ1) (hF.trans hFJ1)
        ·
          refine g_aload_n (n := 39) rfl rfl ?_
          refine g_getr (n := 42) (ci := 8) (j := 3) (b := (T + 3)) rfl (by decide +kernel) (tx_hd hT) (tx_lt hT (by decide)) (tx_r3 hT) ?_
          refine g_iload (n := 44) rfl rfl ?_
          refine g_cv1 (n := 47) (t := 54) (ci := 6) rfl (by decide +kernel) (by decide +kernel) (rw_hd (tx_v hT)) (rw_136 (tx_v hT)) (by decide +kernel) (by rfl) (c_vpush (tx_v hT) hs (by omega)) (by omega) (g_VS fun J1 hsJ1 hFJ1 => ?_)
          refine g_popi (n := 48) rfl ?_
          refine g_goto 160 rfl (by decide) ?_
          refine g_iinc4 (n := 163) rfl rfl (nI_inc _) ?_
          refine g_goto 10 rfl (by decide) ?_
          exact ih (k + 1) J1 (by first | rfl | assumption) (by first | rfl | assumption) (by omega) (by rw [cEv]; unfold eS; rw [if_pos (Int32.not_lt.mp h2)]; exact hsJ1) (hF.trans hFJ1)
  refine g_aload_n (n := 1) rfl rfl ?_
  refine g_getr (n := 4) (ci := 8) (j := 3) (b := (T + 3)) rfl (by decide +kernel) (tx_hd hT) (tx_lt hT (by decide)) (tx_r3 hT) ?_
  refine g_cv0 (n := 7) (t := 57) (ci := 6) rfl (by decide +kernel) (by decide +kernel) (rw_hd (tx_v hT)) (rw_136 (tx_v hT)) (by decide +kernel) (by rfl) (c_rclear (tx_v hT)) (by omega) (g_Z ?_)
  refine g_iconst (n := 8) (v := 0) rfl rfl ?_
  refine g_istore4 (n := 10) rfl rfl ?_
  exact H n 0 _ rfl rfl (by omega) ⟨if_pos ⟨rfl, rfl⟩, fun i hi => absurd hi (Nat.not_lt_zero _)⟩ (vF_up vF.rfl' (Or.inl rfl))
