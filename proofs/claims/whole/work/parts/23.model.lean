/-! what the model works out of its row of numbers, and the methods that do it -/
def cnt (p : Nat → Prop) [DecidablePred p] : Nat → Int32
  | 0 => 0
  | k + 1 => cnt p k + bI (p k)
theorem cnt_1 {p : Nat → Prop} [DecidablePred p] {k : Nat} (h : p k) : cnt p (k + 1) = cnt p k + 1 := by rw [cnt, bI_t h]
theorem cnt_0 {p : Nat → Prop} [DecidablePred p] {k : Nat} (h : ¬ p k) : cnt p (k + 1) = cnt p k + 0 := by rw [cnt, bI_f h]
def fN (d : Nat → Int32) : Nat := (d 0).toNatClampNeg
theorem fN_eq {d : Nat → Int32} (h : iR (d 0) 9) : d 0 = nI (fN d) ∧ fN d ≤ 8 := by
  have := iR_clamp h
  exact ⟨this.2.1, by have := this.1; show (d 0).toNatClampNeg ≤ 8; omega⟩
theorem fN_le {x : Int32} {n k : Nat} (e : x = nI n) (hn : n < 2 ^ 31) (hk : k < 2 ^ 31) (h : x ≤ nI k) : n ≤ k := by
  rw [e] at h
  exact (nI_leI hn hk).mp h
theorem fN_nle {x : Int32} {n k : Nat} (e : x = nI n) (hn : n < 2 ^ 31) (hk : k < 2 ^ 31) (h : ¬ x ≤ nI k) : k < n := by
  rw [e] at h
  exact Nat.lt_of_not_le (fun z => h ((nI_leI hn hk).mpr z))
theorem fN_pred {d : Nat → Int32} (h : iR (d 0) 9) : (d 0 - 1).toInt = (fN d : Int) - 1 := by
  obtain ⟨e, hn⟩ := fN_eq h
  generalize fN d = n at e hn
  rw [e]
  obtain rfl | hp := Nat.eq_zero_or_pos n
  · decide
  · obtain ⟨j, rfl⟩ : ∃ j, n = j + 1 := ⟨n - 1, by omega⟩
    rw [nI_pred, nI_toInt (by omega)]
    omega
def fLedge (d : Nat → Int32) (y : Nat) : Prop := 1 < d (10 + y)
def fPace (k m : Int32) : Int32 := if k = 1 then 2 else if k = 4 then 3 else if k = 5 then 1 + (m - m / 3 * 3) else 1
def fGoat (m : Int32) : Int32 := if m < 3 then 0 else m - 3
def fLoad (k m : Int32) : Int32 := if k = 1 ∨ k = 4 then 20 else if k = 2 then fGoat m else if k = 5 then 2 * fGoat m else if k = 3 then m + 9 else if k = 6 then 9 else m
def fBack (k m : Int32) : Int32 := if k = 3 ∨ k = 6 then bI (m - m / 2 * 2 = 1) else bI (¬ k = 1 ∧ ¬ k = 4)
def fHears (k : Int32) : Int32 := bI (¬ k = 4 ∧ ¬ k = 6)
def fK (k : Int32) : Prop := k = 0 ∨ k = 1 ∨ k = 2 ∨ k = 3 ∨ k = 4 ∨ k = 5 ∨ k = 6
def fFaces (d : Nat → Int32) (g : Nat) : Int32 := if fO d g 2 < fO d g 3 then 1 else -1
def fAt (d : Nat → Int32) (y : Int32) : Int32 := cnt (fun g => fO d g 5 = 1 ∧ fO d g 6 = y) (fN d)
def fBefore (d : Nat → Int32) (y : Nat) : Int32 := cnt (fun k => 1 < d (10 + k)) y
def fMany (d : Nat → Int32) (how : Int32) : Int32 := cnt (fun g => fO d g 5 = how) (fN d)
theorem Int32_0le {x : Int32} : (0 : Int64).toInt ≤ x.toInt ↔ 0 ≤ x.toInt := Iff.rfl

theorem c_inI {sc : List Value} {nm : Nat} {I : mg_I} {x : Int32} {lo hi : Int64} {a b : Int} (ha : lo.toInt = a) (hb : hi.toInt = b) : SP sc 1 141 [.long x.toInt64, .long lo, .long hi] I nm (qE (bI (a ≤ x.toInt ∧ x.toInt ≤ b)) I nm) := by
  have := c_in (sc := sc) (nm := nm) (I := I) (x := x.toInt64) (lo := lo) (hi := hi)
  refine this.mono fun r I' nm' h => ?_
  obtain ⟨h1, h2, h3⟩ := h
  refine ⟨h1.trans (congrArg (fun z => some (Value.int z)) (bI_eq ?_)), h2, h3⟩
  rw [Int64.le_iff_toInt_le, Int64.le_iff_toInt_le, Int32.toInt_toInt64, ha, hb]
theorem c_isYard {sc : List Value} {nm : Nat} {I : mg_I} {y : Int32} : SP sc 2 144 [.int y] I nm (qE (bI (0 ≤ y.toInt ∧ y.toInt ≤ 23)) I nm) := by
  refine SP.of (h := 1) (t := 144) (q := (yX12_isYard, cX12_isYard, 1, (some .boolean), 12, 1221, mi_k144)) rfl (by decide) (show ¬ (1 : Nat) < 1 by decide) (fun d hd => ?_)
  show GG sc 12 false true mi_k144 d 0 [.int y] [] I nm (qE (bI (0 ≤ y.toInt ∧ y.toInt ≤ 23)) I nm)
  refine g_iload_n (n := 1) rfl rfl ?_
  refine g_i2l (n := 2) rfl ?_
  refine g_lconst (n := 3) (v := 0) rfl rfl ?_
  refine g_ldc2 (n := 6) (v := 23) (pl := 1222) rfl (by decide +kernel) ?_
  refine g_cs3 (n := 9) (t := 141) (x := (1141, 1142, 84)) rfl (by decide +kernel) (by decide +kernel) (by rfl) (c_inI (a := 0) (b := 23) rfl rfl) (by omega) (g_E ?_)
  refine g_iret (n := 10) rfl (fun _ => by first | exact Or.inl rfl | exact Or.inr rfl | exact bI_01) ?_
  exact ⟨rfl, rfl, rfl⟩
theorem c_isGoer {sc : List Value} {nm : Nat} {I : mg_I} {g : Int32} (hN : iR (I 125 0) 9) : SP sc 2 143 [.ref 124, .int g] I nm (qE (bI (0 ≤ g.toInt ∧ g.toInt < (fN (I 125) : Int))) I nm) := by
  refine SP.of (h := 1) (t := 143) (q := (yX12_isGoer, cX12_isGoer, 2, (some .boolean), 12, 1266, mi_k143)) rfl (by decide) (show ¬ (2 : Nat) < 2 by decide) (fun d hd => ?_)
  show GG sc 12 false true mi_k143 d 0 [.ref 124, .int g] [] I nm (qE (bI (0 ≤ g.toInt ∧ g.toInt < (fN (I 125) : Int))) I nm)
  refine g_iload_n (n := 1) rfl rfl ?_
  refine g_i2l (n := 2) rfl ?_
  refine g_lconst (n := 3) (v := 0) rfl rfl ?_
  refine g_aload_n (n := 4) rfl rfl ?_
  refine g_getr (n := 7) (ci := 12) (j := 0) (b := 125) rfl (by decide +kernel) (by decide) (by decide) (by decide +kernel) ?_
  refine g_iconst (n := 8) (v := 0) rfl rfl ?_
  refine g_iald (n := 9) (0) rfl (by decide) rfl (by show _ < 286; omega) ?_
  refine g_iconst (n := 10) (v := 1) rfl rfl ?_
  refine g_isub (n := 11) rfl ?_
  refine g_i2l (n := 12) rfl ?_
  refine g_cs3 (n := 15) (t := 141) (x := (1141, 1142, 84)) rfl (by decide +kernel) (by decide +kernel) (by rfl) (c_inI (a := 0) rfl (Int32.toInt_toInt64 _)) (by omega) (g_E ?_)
  refine g_iret (n := 16) rfl (fun _ => by first | exact Or.inl rfl | exact Or.inr rfl | exact bI_01) ?_
  exact ⟨congrArg (fun z => some (Value.int z)) (bI_eq (by rw [fN_pred hN]; omega)), rfl, rfl⟩
theorem c_paceOf {sc : List Value} {nm : Nat}  {I : mg_I} {g : Nat} (hg : g < 8) (hk : fK (fO (I 125) g 0)) : SP sc 2 170 [.ref 124, .int (nI g)] I nm (qE (fPace (fO (I 125) g 0) (fO (I 125) g 1)) I nm) := by
  refine SP.of (h := 1) (t := 170) (q := (yX12_paceOf, cX12_paceOf, 2, (some .int), 12, 1271, mi_k170)) rfl (by decide) (show ¬ (2 : Nat) < 2 by decide) (fun d hd => ?_)
  show GG sc 12 false false mi_k170 d 0 [.ref 124, .int (nI g)] [] I nm (qE (fPace (fO (I 125) g 0) (fO (I 125) g 1)) I nm)
  refine g_aload_n (n := 1) rfl rfl ?_
  refine g_iload_n (n := 2) rfl rfl ?_
  refine g_iconst (n := 3) (v := 0) rfl rfl ?_
  refine g_cv2 (n := 6) (t := 145) (ci := 12) rfl (by decide +kernel) (by decide +kernel) (by decide) (by decide) (by decide +kernel) (by rfl) (c_of (g := g) (w := 0) (by omega) (by omega)) (by omega) (g_E ?_)
  rcases hk with e | e | e | e | e | e | e
  ·
    refine g_top e ?_
    refine g_tabo 55 rfl (by decide) (by decide) ?_
    refine g_iconst (n := 56) (v := 1) rfl rfl ?_
    refine g_iret (n := 57) rfl (fun h => nomatch h) ?_
    exact ⟨congrArg (fun z => some (Value.int z)) (by rw [fPace, e]; rfl), rfl, rfl⟩
  ·
    refine g_top e ?_
    refine g_tab 40 rfl (by decide) (by decide) rfl (by decide) ?_
    refine g_iconst (n := 41) (v := 2) rfl rfl ?_
    refine g_iret (n := 42) rfl (fun h => nomatch h) ?_
    exact ⟨congrArg (fun z => some (Value.int z)) (by rw [fPace, e]; rfl), rfl, rfl⟩
  ·
    refine g_top e ?_
    refine g_tab 55 rfl (by decide) (by decide) rfl (by decide) ?_
    refine g_iconst (n := 56) (v := 1) rfl rfl ?_
    refine g_iret (n := 57) rfl (fun h => nomatch h) ?_
    exact ⟨congrArg (fun z => some (Value.int z)) (by rw [fPace, e]; rfl), rfl, rfl⟩
  ·
    refine g_top e ?_
    refine g_tab 55 rfl (by decide) (by decide) rfl (by decide) ?_
    refine g_iconst (n := 56) (v := 1) rfl rfl ?_
    refine g_iret (n := 57) rfl (fun h => nomatch h) ?_
    exact ⟨congrArg (fun z => some (Value.int z)) (by rw [fPace, e]; rfl), rfl, rfl⟩
  ·
    refine g_top e ?_
    refine g_tab 42 rfl (by decide) (by decide) rfl (by decide) ?_
    refine g_iconst (n := 43) (v := 3) rfl rfl ?_
    refine g_iret (n := 44) rfl (fun h => nomatch h) ?_
    exact ⟨congrArg (fun z => some (Value.int z)) (by rw [fPace, e]; rfl), rfl, rfl⟩
  ·
    refine g_top e ?_
    refine g_tab 44 rfl (by decide) (by decide) rfl (by decide) ?_
    refine g_iconst (n := 45) (v := 1) rfl rfl ?_
    refine g_aload_n (n := 46) rfl rfl ?_
    refine g_iload_n (n := 47) rfl rfl ?_
    refine g_iconst (n := 48) (v := 1) rfl rfl ?_
    refine g_cv2 (n := 51) (t := 145) (ci := 12) rfl (by decide +kernel) (by decide +kernel) (by decide) (by decide) (by decide +kernel) (by rfl) (c_of (g := g) (w := 1) (by omega) (by omega)) (by omega) (g_E ?_)
    refine g_iconst (n := 52) (v := 3) rfl rfl ?_
    refine g_irem (n := 53) rfl (by decide) ?_
    refine g_iadd (n := 54) rfl ?_
    refine g_iret (n := 55) rfl (fun h => nomatch h) ?_
    exact ⟨congrArg (fun z => some (Value.int z)) (by rw [fPace, e]; rfl), rfl, rfl⟩
  ·
    refine g_top e ?_
    refine g_tabo 55 rfl (by decide) (by decide) ?_
    refine g_iconst (n := 56) (v := 1) rfl rfl ?_
    refine g_iret (n := 57) rfl (fun h => nomatch h) ?_
    exact ⟨congrArg (fun z => some (Value.int z)) (by rw [fPace, e]; rfl), rfl, rfl⟩
theorem c_loadOf {sc : List Value} {nm : Nat}  {I : mg_I} {g : Nat} (hg : g < 8) (hk : fK (fO (I 125) g 0)) : SP sc 2 171 [.ref 124, .int (nI g)] I nm (qE (fLoad (fO (I 125) g 0) (fO (I 125) g 1)) I nm) := by
  refine SP.of (h := 1) (t := 171) (q := (yX12_loadOf, cX12_loadOf, 4, (some .int), 12, 1275, mi_k171)) rfl (by decide) (show ¬ (4 : Nat) < 2 by decide) (fun d hd => ?_)
  show GG sc 12 false false mi_k171 d 0 [.ref 124, .int (nI g), .null, .null] [] I nm (qE (fLoad (fO (I 125) g 0) (fO (I 125) g 1)) I nm)
  refine g_aload_n (n := 1) rfl rfl ?_
  refine g_iload_n (n := 2) rfl rfl ?_
  refine g_iconst (n := 3) (v := 1) rfl rfl ?_
  refine g_cv2 (n := 6) (t := 145) (ci := 12) rfl (by decide +kernel) (by decide +kernel) (by decide) (by decide) (by decide +kernel) (by rfl) (c_of (g := g) (w := 1) (by omega) (by omega)) (by omega) (g_E ?_)
  refine g_istore_n2 (n := 7) rfl rfl ?_
  refine g_iload_n (n := 8) rfl rfl ?_
  refine g_iconst (n := 9) (v := 3) rfl rfl ?_
  refine g_icge (n := 12) 16 rfl (by decide) (fun h1 => ?_) (fun h1 => ?_)
  ·
    refine g_iload_n (n := 17) rfl rfl ?_
    refine g_iconst (n := 18) (v := 3) rfl rfl ?_
    refine g_isub (n := 19) rfl ?_
    refine g_istore_n3 (n := 20) rfl rfl ?_
    refine g_aload_n (n := 21) rfl rfl ?_
    refine g_iload_n (n := 22) rfl rfl ?_
    refine g_iconst (n := 23) (v := 0) rfl rfl ?_
    refine g_cv2 (n := 26) (t := 145) (ci := 12) rfl (by decide +kernel) (by decide +kernel) (by decide) (by decide) (by decide +kernel) (by rfl) (c_of (g := g) (w := 0) (by omega) (by omega)) (by omega) (g_E ?_)
    rcases hk with e | e | e | e | e | e | e
    ·
      refine g_top e ?_
      refine g_tabo 81 rfl (by decide) (by decide) ?_
      refine g_iload_n (n := 82) rfl rfl ?_
      refine g_iret (n := 83) rfl (fun h => nomatch h) ?_
      exact ⟨congrArg (fun z => some (Value.int z)) (by rw [e]; first | rfl | (show _ = fGoat _; unfold fGoat; first | exact (if_pos (by simp only [Int32.lt_iff_toInt_lt, Int32.le_iff_toInt_le] at *; omega)).symm | exact (if_neg (by simp only [Int32.lt_iff_toInt_lt, Int32.le_iff_toInt_le] at *; omega)).symm) | (show _ = 2 * fGoat _; unfold fGoat; first | rw [if_neg (by simp only [Int32.lt_iff_toInt_lt, Int32.le_iff_toInt_le] at *; omega)] | (rw [if_pos (by simp only [Int32.lt_iff_toInt_lt, Int32.le_iff_toInt_le] at *; omega)]; rfl))), rfl, rfl⟩
    ·
      refine g_top e ?_
      refine g_tab 64 rfl (by decide) (by decide) rfl (by decide) ?_
      refine g_bipush (n := 66) (v := 20) rfl rfl ?_
      refine g_iret (n := 67) rfl (fun h => nomatch h) ?_
      exact ⟨congrArg (fun z => some (Value.int z)) (by rw [e]; first | rfl | (show _ = fGoat _; unfold fGoat; first | exact (if_pos (by simp only [Int32.lt_iff_toInt_lt, Int32.le_iff_toInt_le] at *; omega)).symm | exact (if_neg (by simp only [Int32.lt_iff_toInt_lt, Int32.le_iff_toInt_le] at *; omega)).symm) | (show _ = 2 * fGoat _; unfold fGoat; first | rw [if_neg (by simp only [Int32.lt_iff_toInt_lt, Int32.le_iff_toInt_le] at *; omega)] | (rw [if_pos (by simp only [Int32.lt_iff_toInt_lt, Int32.le_iff_toInt_le] at *; omega)]; rfl))), rfl, rfl⟩
    ·
      refine g_top e ?_
      refine g_tab 67 rfl (by decide) (by decide) rfl (by decide) ?_
      refine g_iload_n (n := 68) rfl rfl ?_
      refine g_iret (n := 69) rfl (fun h => nomatch h) ?_
      exact ⟨congrArg (fun z => some (Value.int z)) (by rw [e]; first | rfl | (show _ = fGoat _; unfold fGoat; first | exact (if_pos (by simp only [Int32.lt_iff_toInt_lt, Int32.le_iff_toInt_le] at *; omega)).symm | exact (if_neg (by simp only [Int32.lt_iff_toInt_lt, Int32.le_iff_toInt_le] at *; omega)).symm) | (show _ = 2 * fGoat _; unfold fGoat; first | rw [if_neg (by simp only [Int32.lt_iff_toInt_lt, Int32.le_iff_toInt_le] at *; omega)] | (rw [if_pos (by simp only [Int32.lt_iff_toInt_lt, Int32.le_iff_toInt_le] at *; omega)]; rfl))), rfl, rfl⟩
    ·
      refine g_top e ?_
      refine g_tab 73 rfl (by decide) (by decide) rfl (by decide) ?_
      refine g_iload_n (n := 74) rfl rfl ?_
      refine g_bipush (n := 76) (v := 9) rfl rfl ?_
      refine g_iadd (n := 77) rfl ?_
      refine g_iret (n := 78) rfl (fun h => nomatch h) ?_
      exact ⟨congrArg (fun z => some (Value.int z)) (by rw [e]; first | rfl | (show _ = fGoat _; unfold fGoat; first | exact (if_pos (by simp only [Int32.lt_iff_toInt_lt, Int32.le_iff_toInt_le] at *; omega)).symm | exact (if_neg (by simp only [Int32.lt_iff_toInt_lt, Int32.le_iff_toInt_le] at *; omega)).symm) | (show _ = 2 * fGoat _; unfold fGoat; first | rw [if_neg (by simp only [Int32.lt_iff_toInt_lt, Int32.le_iff_toInt_le] at *; omega)] | (rw [if_pos (by simp only [Int32.lt_iff_toInt_lt, Int32.le_iff_toInt_le] at *; omega)]; rfl))), rfl, rfl⟩
    ·
      refine g_top e ?_
      refine g_tab 64 rfl (by decide) (by decide) rfl (by decide) ?_
      refine g_bipush (n := 66) (v := 20) rfl rfl ?_
      refine g_iret (n := 67) rfl (fun h => nomatch h) ?_
      exact ⟨congrArg (fun z => some (Value.int z)) (by rw [e]; first | rfl | (show _ = fGoat _; unfold fGoat; first | exact (if_pos (by simp only [Int32.lt_iff_toInt_lt, Int32.le_iff_toInt_le] at *; omega)).symm | exact (if_neg (by simp only [Int32.lt_iff_toInt_lt, Int32.le_iff_toInt_le] at *; omega)).symm) | (show _ = 2 * fGoat _; unfold fGoat; first | rw [if_neg (by simp only [Int32.lt_iff_toInt_lt, Int32.le_iff_toInt_le] at *; omega)] | (rw [if_pos (by simp only [Int32.lt_iff_toInt_lt, Int32.le_iff_toInt_le] at *; omega)]; rfl))), rfl, rfl⟩
    ·
      refine g_top e ?_
      refine g_tab 69 rfl (by decide) (by decide) rfl (by decide) ?_
      refine g_iconst (n := 70) (v := 2) rfl rfl ?_
      refine g_iload_n (n := 71) rfl rfl ?_
      refine g_imul (n := 72) rfl ?_
      refine g_iret (n := 73) rfl (fun h => nomatch h) ?_
      exact ⟨congrArg (fun z => some (Value.int z)) (by rw [e]; first | rfl | (show _ = fGoat _; unfold fGoat; first | exact (if_pos (by simp only [Int32.lt_iff_toInt_lt, Int32.le_iff_toInt_le] at *; omega)).symm | exact (if_neg (by simp only [Int32.lt_iff_toInt_lt, Int32.le_iff_toInt_le] at *; omega)).symm) | (show _ = 2 * fGoat _; unfold fGoat; first | rw [if_neg (by simp only [Int32.lt_iff_toInt_lt, Int32.le_iff_toInt_le] at *; omega)] | (rw [if_pos (by simp only [Int32.lt_iff_toInt_lt, Int32.le_iff_toInt_le] at *; omega)]; rfl))), rfl, rfl⟩
    ·
      refine g_top e ?_
      refine g_tab 78 rfl (by decide) (by decide) rfl (by decide) ?_
      refine g_bipush (n := 80) (v := 9) rfl rfl ?_
      refine g_iret (n := 81) rfl (fun h => nomatch h) ?_
      exact ⟨congrArg (fun z => some (Value.int z)) (by rw [e]; first | rfl | (show _ = fGoat _; unfold fGoat; first | exact (if_pos (by simp only [Int32.lt_iff_toInt_lt, Int32.le_iff_toInt_le] at *; omega)).symm | exact (if_neg (by simp only [Int32.lt_iff_toInt_lt, Int32.le_iff_toInt_le] at *; omega)).symm) | (show _ = 2 * fGoat _; unfold fGoat; first | rw [if_neg (by simp only [Int32.lt_iff_toInt_lt, Int32.le_iff_toInt_le] at *; omega)] | (rw [if_pos (by simp only [Int32.lt_iff_toInt_lt, Int32.le_iff_toInt_le] at *; omega)]; rfl))), rfl, rfl⟩
  ·
    refine g_iconst (n := 13) (v := 0) rfl rfl ?_
    refine g_goto 19 rfl (by decide) ?_
    refine g_istore_n3 (n := 20) rfl rfl ?_
    refine g_aload_n (n := 21) rfl rfl ?_
    refine g_iload_n (n := 22) rfl rfl ?_
    refine g_iconst (n := 23) (v := 0) rfl rfl ?_
    refine g_cv2 (n := 26) (t := 145) (ci := 12) rfl (by decide +kernel) (by decide +kernel) (by decide) (by decide) (by decide +kernel) (by rfl) (c_of (g := g) (w := 0) (by omega) (by omega)) (by omega) (g_E ?_)
    rcases hk with e | e | e | e | e | e | e
    ·
      refine g_top e ?_
      refine g_tabo 81 rfl (by decide) (by decide) ?_
      refine g_iload_n (n := 82) rfl rfl ?_
      refine g_iret (n := 83) rfl (fun h => nomatch h) ?_
      exact ⟨congrArg (fun z => some (Value.int z)) (by rw [e]; first | rfl | (show _ = fGoat _; unfold fGoat; first | exact (if_pos (by simp only [Int32.lt_iff_toInt_lt, Int32.le_iff_toInt_le] at *; omega)).symm | exact (if_neg (by simp only [Int32.lt_iff_toInt_lt, Int32.le_iff_toInt_le] at *; omega)).symm) | (show _ = 2 * fGoat _; unfold fGoat; first | rw [if_neg (by simp only [Int32.lt_iff_toInt_lt, Int32.le_iff_toInt_le] at *; omega)] | (rw [if_pos (by simp only [Int32.lt_iff_toInt_lt, Int32.le_iff_toInt_le] at *; omega)]; rfl))), rfl, rfl⟩
    ·
      refine g_top e ?_
      refine g_tab 64 rfl (by decide) (by decide) rfl (by decide) ?_
      refine g_bipush (n := 66) (v := 20) rfl rfl ?_
      refine g_iret (n := 67) rfl (fun h => nomatch h) ?_
      exact ⟨congrArg (fun z => some (Value.int z)) (by rw [e]; first | rfl | (show _ = fGoat _; unfold fGoat; first | exact (if_pos (by simp only [Int32.lt_iff_toInt_lt, Int32.le_iff_toInt_le] at *; omega)).symm | exact (if_neg (by simp only [Int32.lt_iff_toInt_lt, Int32.le_iff_toInt_le] at *; omega)).symm) | (show _ = 2 * fGoat _; unfold fGoat; first | rw [if_neg (by simp only [Int32.lt_iff_toInt_lt, Int32.le_iff_toInt_le] at *; omega)] | (rw [if_pos (by simp only [Int32.lt_iff_toInt_lt, Int32.le_iff_toInt_le] at *; omega)]; rfl))), rfl, rfl⟩
    ·
      refine g_top e ?_
      refine g_tab 67 rfl (by decide) (by decide) rfl (by decide) ?_
      refine g_iload_n (n := 68) rfl rfl ?_
      refine g_iret (n := 69) rfl (fun h => nomatch h) ?_
      exact ⟨congrArg (fun z => some (Value.int z)) (by rw [e]; first | rfl | (show _ = fGoat _; unfold fGoat; first | exact (if_pos (by simp only [Int32.lt_iff_toInt_lt, Int32.le_iff_toInt_le] at *; omega)).symm | exact (if_neg (by simp only [Int32.lt_iff_toInt_lt, Int32.le_iff_toInt_le] at *; omega)).symm) | (show _ = 2 * fGoat _; unfold fGoat; first | rw [if_neg (by simp only [Int32.lt_iff_toInt_lt, Int32.le_iff_toInt_le] at *; omega)] | (rw [if_pos (by simp only [Int32.lt_iff_toInt_lt, Int32.le_iff_toInt_le] at *; omega)]; rfl))), rfl, rfl⟩
    ·
      refine g_top e ?_
      refine g_tab 73 rfl (by decide) (by decide) rfl (by decide) ?_
      refine g_iload_n (n := 74) rfl rfl ?_
      refine g_bipush (n := 76) (v := 9) rfl rfl ?_
      refine g_iadd (n := 77) rfl ?_
      refine g_iret (n := 78) rfl (fun h => nomatch h) ?_
      exact ⟨congrArg (fun z => some (Value.int z)) (by rw [e]; first | rfl | (show _ = fGoat _; unfold fGoat; first | exact (if_pos (by simp only [Int32.lt_iff_toInt_lt, Int32.le_iff_toInt_le] at *; omega)).symm | exact (if_neg (by simp only [Int32.lt_iff_toInt_lt, Int32.le_iff_toInt_le] at *; omega)).symm) | (show _ = 2 * fGoat _; unfold fGoat; first | rw [if_neg (by simp only [Int32.lt_iff_toInt_lt, Int32.le_iff_toInt_le] at *; omega)] | (rw [if_pos (by simp only [Int32.lt_iff_toInt_lt, Int32.le_iff_toInt_le] at *; omega)]; rfl))), rfl, rfl⟩
    ·
      refine g_top e ?_
      refine g_tab 64 rfl (by decide) (by decide) rfl (by decide) ?_
      refine g_bipush (n := 66) (v := 20) rfl rfl ?_
      refine g_iret (n := 67) rfl (fun h => nomatch h) ?_
      exact ⟨congrArg (fun z => some (Value.int z)) (by rw [e]; first | rfl | (show _ = fGoat _; unfold fGoat; first | exact (if_pos (by simp only [Int32.lt_iff_toInt_lt, Int32.le_iff_toInt_le] at *; omega)).symm | exact (if_neg (by simp only [Int32.lt_iff_toInt_lt, Int32.le_iff_toInt_le] at *; omega)).symm) | (show _ = 2 * fGoat _; unfold fGoat; first | rw [if_neg (by simp only [Int32.lt_iff_toInt_lt, Int32.le_iff_toInt_le] at *; omega)] | (rw [if_pos (by simp only [Int32.lt_iff_toInt_lt, Int32.le_iff_toInt_le] at *; omega)]; rfl))), rfl, rfl⟩
    ·
      refine g_top e ?_
      refine g_tab 69 rfl (by decide) (by decide) rfl (by decide) ?_
      refine g_iconst (n := 70) (v := 2) rfl rfl ?_
      refine g_iload_n (n := 71) rfl rfl ?_
      refine g_imulN (n := 72) (x := 2) (y := 0) rfl ?_
      refine g_iret (n := 73) rfl (fun h => nomatch h) ?_
      exact ⟨congrArg (fun z => some (Value.int z)) (by rw [e]; first | rfl | (show _ = fGoat _; unfold fGoat; first | exact (if_pos (by simp only [Int32.lt_iff_toInt_lt, Int32.le_iff_toInt_le] at *; omega)).symm | exact (if_neg (by simp only [Int32.lt_iff_toInt_lt, Int32.le_iff_toInt_le] at *; omega)).symm) | (show _ = 2 * fGoat _; unfold fGoat; first | rw [if_neg (by simp only [Int32.lt_iff_toInt_lt, Int32.le_iff_toInt_le] at *; omega)] | (rw [if_pos (by simp only [Int32.lt_iff_toInt_lt, Int32.le_iff_toInt_le] at *; omega)]; rfl))), rfl, rfl⟩
    ·
      refine g_top e ?_
      refine g_tab 78 rfl (by decide) (by decide) rfl (by decide) ?_
      refine g_bipush (n := 80) (v := 9) rfl rfl ?_
      refine g_iret (n := 81) rfl (fun h => nomatch h) ?_
      exact ⟨congrArg (fun z => some (Value.int z)) (by rw [e]; first | rfl | (show _ = fGoat _; unfold fGoat; first | exact (if_pos (by simp only [Int32.lt_iff_toInt_lt, Int32.le_iff_toInt_le] at *; omega)).symm | exact (if_neg (by simp only [Int32.lt_iff_toInt_lt, Int32.le_iff_toInt_le] at *; omega)).symm) | (show _ = 2 * fGoat _; unfold fGoat; first | rw [if_neg (by simp only [Int32.lt_iff_toInt_lt, Int32.le_iff_toInt_le] at *; omega)] | (rw [if_pos (by simp only [Int32.lt_iff_toInt_lt, Int32.le_iff_toInt_le] at *; omega)]; rfl))), rfl, rfl⟩
theorem c_canBack {sc : List Value} {nm : Nat}  {I : mg_I} {g : Nat} (hg : g < 8) : SP sc 2 172 [.ref 124, .int (nI g)] I nm (qE (fBack (fO (I 125) g 0) (fO (I 125) g 1)) I nm) := by
  refine SP.of (h := 1) (t := 172) (q := (yX12_canBack, cX12_canBack, 4, (some .boolean), 12, 1283, mi_k172)) rfl (by decide) (show ¬ (4 : Nat) < 2 by decide) (fun d hd => ?_)
  show GG sc 12 false true mi_k172 d 0 [.ref 124, .int (nI g), .null, .null] [] I nm (qE (fBack (fO (I 125) g 0) (fO (I 125) g 1)) I nm)
  refine g_aload_n (n := 1) rfl rfl ?_
  refine g_iload_n (n := 2) rfl rfl ?_
  refine g_iconst (n := 3) (v := 0) rfl rfl ?_
  refine g_cv2 (n := 6) (t := 145) (ci := 12) rfl (by decide +kernel) (by decide +kernel) (by decide) (by decide) (by decide +kernel) (by rfl) (c_of (g := g) (w := 0) (by omega) (by omega)) (by omega) (g_E ?_)
  refine g_istore_n2 (n := 7) rfl rfl ?_
  refine g_iload_n (n := 8) rfl rfl ?_
  refine g_iconst (n := 9) (v := 3) rfl rfl ?_
  refine g_iceq (n := 12) 18 rfl (by decide) (fun h1 => ?_) (fun h1 => ?_)
  ·
    refine g_iconst (n := 19) (v := 1) rfl rfl ?_
    refine g_goto 23 rfl (by decide) ?_
    refine g_istore_n3 (n := 24) rfl rfl ?_
    refine g_iload_n (n := 25) rfl rfl ?_
    refine g_ifeq1 (n := 28) 48 rfl (by decide) ?_
    refine g_aload_n (n := 29) rfl rfl ?_
    refine g_iload_n (n := 30) rfl rfl ?_
    refine g_iconst (n := 31) (v := 1) rfl rfl ?_
    refine g_cv2 (n := 34) (t := 145) (ci := 12) rfl (by decide +kernel) (by decide +kernel) (by decide) (by decide) (by decide +kernel) (by rfl) (c_of (g := g) (w := 1) (by omega) (by omega)) (by omega) (g_E ?_)
    refine g_iconst (n := 35) (v := 2) rfl rfl ?_
    refine g_irem (n := 36) rfl (by decide) ?_
    refine g_iconst (n := 37) (v := 1) rfl rfl ?_
    refine g_icne (n := 40) 44 rfl (by decide) (fun h2 => ?_) (fun h2 => ?_)
    ·
      refine g_iconst (n := 45) (v := 0) rfl rfl ?_
      refine g_goto 63 rfl (by decide) ?_
      refine g_iret (n := 64) rfl (fun _ => by first | exact Or.inl rfl | exact Or.inr rfl | exact bI_01) ?_
      exact ⟨congrArg (fun z => some (Value.int z)) (by unfold fBack; split <;> first | exact (bI_t (by simp_all)).symm | exact (bI_f (by simp_all)).symm | (exfalso; simp_all)), rfl, rfl⟩
    ·
      refine g_iconst (n := 41) (v := 1) rfl rfl ?_
      refine g_goto 63 rfl (by decide) ?_
      refine g_iret (n := 64) rfl (fun _ => by first | exact Or.inl rfl | exact Or.inr rfl | exact bI_01) ?_
      exact ⟨congrArg (fun z => some (Value.int z)) (by unfold fBack; split <;> first | exact (bI_t (by simp_all)).symm | exact (bI_f (by simp_all)).symm | (exfalso; simp_all)), rfl, rfl⟩
  ·
    refine g_iload_n (n := 13) rfl rfl ?_
    refine g_bipush (n := 15) (v := 6) rfl rfl ?_
    refine g_icne (n := 18) 22 rfl (by decide) (fun h3 => ?_) (fun h3 => ?_)
    ·
      refine g_iconst (n := 23) (v := 0) rfl rfl ?_
      refine g_istore_n3 (n := 24) rfl rfl ?_
      refine g_iload_n (n := 25) rfl rfl ?_
      refine g_ifeq0 (n := 28) 48 rfl (by decide) ?_
      refine g_iload_n (n := 49) rfl rfl ?_
      refine g_iconst (n := 50) (v := 1) rfl rfl ?_
      refine g_iceq (n := 53) 62 rfl (by decide) (fun h4 => ?_) (fun h4 => ?_)
      ·
        refine g_iconst (n := 63) (v := 0) rfl rfl ?_
        refine g_iret (n := 64) rfl (fun _ => by first | exact Or.inl rfl | exact Or.inr rfl | exact bI_01) ?_
        exact ⟨congrArg (fun z => some (Value.int z)) (by unfold fBack; split <;> first | exact (bI_t (by simp_all)).symm | exact (bI_f (by simp_all)).symm | (exfalso; simp_all)), rfl, rfl⟩
      ·
        refine g_iload_n (n := 54) rfl rfl ?_
        refine g_iconst (n := 55) (v := 4) rfl rfl ?_
        refine g_iceq (n := 58) 62 rfl (by decide) (fun h5 => ?_) (fun h5 => ?_)
        ·
          refine g_iconst (n := 63) (v := 0) rfl rfl ?_
          refine g_iret (n := 64) rfl (fun _ => by first | exact Or.inl rfl | exact Or.inr rfl | exact bI_01) ?_
          exact ⟨congrArg (fun z => some (Value.int z)) (by unfold fBack; split <;> first | exact (bI_t (by simp_all)).symm | exact (bI_f (by simp_all)).symm | (exfalso; simp_all)), rfl, rfl⟩
        ·
          refine g_iconst (n := 59) (v := 1) rfl rfl ?_
          refine g_goto 63 rfl (by decide) ?_
          refine g_iret (n := 64) rfl (fun _ => by first | exact Or.inl rfl | exact Or.inr rfl | exact bI_01) ?_
          exact ⟨congrArg (fun z => some (Value.int z)) (by unfold fBack; split <;> first | exact (bI_t (by simp_all)).symm | exact (bI_f (by simp_all)).symm | (exfalso; simp_all)), rfl, rfl⟩
    ·
      refine g_iconst (n := 19) (v := 1) rfl rfl ?_
      refine g_goto 23 rfl (by decide) ?_
      refine g_istore_n3 (n := 24) rfl rfl ?_
      refine g_iload_n (n := 25) rfl rfl ?_
      refine g_ifeq1 (n := 28) 48 rfl (by decide) ?_
      refine g_aload_n (n := 29) rfl rfl ?_
      refine g_iload_n (n := 30) rfl rfl ?_
      refine g_iconst (n := 31) (v := 1) rfl rfl ?_
      refine g_cv2 (n := 34) (t := 145) (ci := 12) rfl (by decide +kernel) (by decide +kernel) (by decide) (by decide) (by decide +kernel) (by rfl) (c_of (g := g) (w := 1) (by omega) (by omega)) (by omega) (g_E ?_)
      refine g_iconst (n := 35) (v := 2) rfl rfl ?_
      refine g_irem (n := 36) rfl (by decide) ?_
      refine g_iconst (n := 37) (v := 1) rfl rfl ?_
      refine g_icne (n := 40) 44 rfl (by decide) (fun h6 => ?_) (fun h6 => ?_)
      ·
        refine g_iconst (n := 45) (v := 0) rfl rfl ?_
        refine g_goto 63 rfl (by decide) ?_
        refine g_iret (n := 64) rfl (fun _ => by first | exact Or.inl rfl | exact Or.inr rfl | exact bI_01) ?_
        exact ⟨congrArg (fun z => some (Value.int z)) (by unfold fBack; split <;> first | exact (bI_t (by simp_all)).symm | exact (bI_f (by simp_all)).symm | (exfalso; simp_all)), rfl, rfl⟩
      ·
        refine g_iconst (n := 41) (v := 1) rfl rfl ?_
        refine g_goto 63 rfl (by decide) ?_
        refine g_iret (n := 64) rfl (fun _ => by first | exact Or.inl rfl | exact Or.inr rfl | exact bI_01) ?_
        exact ⟨congrArg (fun z => some (Value.int z)) (by unfold fBack; split <;> first | exact (bI_t (by simp_all)).symm | exact (bI_f (by simp_all)).symm | (exfalso; simp_all)), rfl, rfl⟩
theorem c_hears {sc : List Value} {nm : Nat}  {I : mg_I} {g : Nat} (hg : g < 8) : SP sc 2 173 [.ref 124, .int (nI g)] I nm (qE (fHears (fO (I 125) g 0)) I nm) := by
  refine SP.of (h := 1) (t := 173) (q := (yX12_hears, cX12_hears, 2, (some .boolean), 12, 1287, mi_k173)) rfl (by decide) (show ¬ (2 : Nat) < 2 by decide) (fun d hd => ?_)
  show GG sc 12 false true mi_k173 d 0 [.ref 124, .int (nI g)] [] I nm (qE (fHears (fO (I 125) g 0)) I nm)
  refine g_aload_n (n := 1) rfl rfl ?_
  refine g_iload_n (n := 2) rfl rfl ?_
  refine g_iconst (n := 3) (v := 0) rfl rfl ?_
  refine g_cv2 (n := 6) (t := 145) (ci := 12) rfl (by decide +kernel) (by decide +kernel) (by decide) (by decide) (by decide +kernel) (by rfl) (c_of (g := g) (w := 0) (by omega) (by omega)) (by omega) (g_E ?_)
  refine g_iconst (n := 7) (v := 4) rfl rfl ?_
  refine g_iceq (n := 10) 25 rfl (by decide) (fun h1 => ?_) (fun h1 => ?_)
  ·
    refine g_iconst (n := 26) (v := 0) rfl rfl ?_
    refine g_iret (n := 27) rfl (fun _ => by first | exact Or.inl rfl | exact Or.inr rfl | exact bI_01) ?_
    exact ⟨congrArg (fun z => some (Value.int z)) (by unfold fHears; first | exact (bI_t (by simp_all)).symm | exact (bI_f (by simp_all)).symm), rfl, rfl⟩
  ·
    refine g_aload_n (n := 11) rfl rfl ?_
    refine g_iload_n (n := 12) rfl rfl ?_
    refine g_iconst (n := 13) (v := 0) rfl rfl ?_
    refine g_cv2 (n := 16) (t := 145) (ci := 12) rfl (by decide +kernel) (by decide +kernel) (by decide) (by decide) (by decide +kernel) (by rfl) (c_of (g := g) (w := 0) (by omega) (by omega)) (by omega) (g_E ?_)
    refine g_bipush (n := 18) (v := 6) rfl rfl ?_
    refine g_iceq (n := 21) 25 rfl (by decide) (fun h2 => ?_) (fun h2 => ?_)
    ·
      refine g_iconst (n := 26) (v := 0) rfl rfl ?_
      refine g_iret (n := 27) rfl (fun _ => by first | exact Or.inl rfl | exact Or.inr rfl | exact bI_01) ?_
      exact ⟨congrArg (fun z => some (Value.int z)) (by unfold fHears; first | exact (bI_t (by simp_all)).symm | exact (bI_f (by simp_all)).symm), rfl, rfl⟩
    ·
      refine g_iconst (n := 22) (v := 1) rfl rfl ?_
      refine g_goto 26 rfl (by decide) ?_
      refine g_iret (n := 27) rfl (fun _ => by first | exact Or.inl rfl | exact Or.inr rfl | exact bI_01) ?_
      exact ⟨congrArg (fun z => some (Value.int z)) (by unfold fHears; first | exact (bI_t (by simp_all)).symm | exact (bI_f (by simp_all)).symm), rfl, rfl⟩
theorem c_faces {sc : List Value} {nm : Nat}  {I : mg_I} {g : Nat} (hg : g < 8) : SP sc 2 183 [.ref 124, .int (nI g)] I nm (qE (fFaces (I 125) g) I nm) := by
  refine SP.of (h := 1) (t := 183) (q := (yX12_faces, cX12_faces, 2, (some .int), 12, 1337, mi_k183)) rfl (by decide) (show ¬ (2 : Nat) < 2 by decide) (fun d hd => ?_)
  show GG sc 12 false false mi_k183 d 0 [.ref 124, .int (nI g)] [] I nm (qE (fFaces (I 125) g) I nm)
  refine g_aload_n (n := 1) rfl rfl ?_
  refine g_iload_n (n := 2) rfl rfl ?_
  refine g_iconst (n := 3) (v := 3) rfl rfl ?_
  refine g_cv2 (n := 6) (t := 145) (ci := 12) rfl (by decide +kernel) (by decide +kernel) (by decide) (by decide) (by decide +kernel) (by rfl) (c_of (g := g) (w := 3) (by omega) (by omega)) (by omega) (g_E ?_)
  refine g_aload_n (n := 7) rfl rfl ?_
  refine g_iload_n (n := 8) rfl rfl ?_
  refine g_iconst (n := 9) (v := 2) rfl rfl ?_
  refine g_cv2 (n := 12) (t := 145) (ci := 12) rfl (by decide +kernel) (by decide +kernel) (by decide) (by decide) (by decide +kernel) (by rfl) (c_of (g := g) (w := 2) (by omega) (by omega)) (by omega) (g_E ?_)
  refine g_icle (n := 15) 19 rfl (by decide) (fun h1 => ?_) (fun h1 => ?_)
  ·
    refine g_iconst (n := 20) (v := -1) rfl rfl ?_
    refine g_iret (n := 21) rfl (fun h => nomatch h) ?_
    exact ⟨congrArg (fun z => some (Value.int z)) (by unfold fFaces; first | exact (if_pos (by simp only [Int32.lt_iff_toInt_lt, Int32.le_iff_toInt_le] at *; omega)).symm | exact (if_neg (by simp only [Int32.lt_iff_toInt_lt, Int32.le_iff_toInt_le] at *; omega)).symm), rfl, rfl⟩
  ·
    refine g_iconst (n := 16) (v := 1) rfl rfl ?_
    refine g_goto 20 rfl (by decide) ?_
    refine g_iret (n := 21) rfl (fun h => nomatch h) ?_
    exact ⟨congrArg (fun z => some (Value.int z)) (by unfold fFaces; first | exact (if_pos (by simp only [Int32.lt_iff_toInt_lt, Int32.le_iff_toInt_le] at *; omega)).symm | exact (if_neg (by simp only [Int32.lt_iff_toInt_lt, Int32.le_iff_toInt_le] at *; omega)).symm), rfl, rfl⟩
theorem c_atYard {sc : List Value} {nm : Nat} {I : mg_I} (hN : iR (I 125 0) 9) {y : Int32} : SP sc 2 165 [.ref 124, .int y] I nm (qE (fAt (I 125) y) I nm) := by
  refine SP.of (h := 1) (t := 165) (q := (yX12_atYard, cX12_atYard, 4, (some .int), 12, 1227, mi_k165)) rfl (by decide) (show ¬ (4 : Nat) < 2 by decide) (fun d hd => ?_)
  show GG sc 12 false false mi_k165 d 0 [.ref 124, .int y, .null, .null] [] I nm (qE (fAt (I 125) y) I nm)
  have hn := (fN_eq hN).2
  have H : ∀ (m k : Nat), k ≤ fN (I 125) → fN (I 125) < m + k → GG sc 12 false false mi_k165 d 4 [.ref 124, .int y, .int (cnt (fun g => fO (I 125) g 5 = 1 ∧ fO (I 125) g 6 = y) k), .int (nI k)] [] I nm (qE (fAt (I 125) y) I nm) := by
    intro m
    induction m with
    | zero => intro k hk hm; omega
    | succ m ih =>
      intro k hk hm
      refine g_iload_n (n := 5) rfl rfl ?_
      refine g_aload_n (n := 6) rfl rfl ?_
      refine g_getr (n := 9) (ci := 12) (j := 0) (b := 125) rfl (by decide +kernel) (by decide) (by decide) (by decide +kernel) ?_
      refine g_iconst (n := 10) (v := 0) rfl rfl ?_
      refine g_iald (n := 11) (0) rfl (by decide) rfl (by show _ < 286; omega) ?_
      refine g_icge (n := 14) 49 rfl (by decide) (fun h1 => ?_) (fun h1 => ?_)
      ·
        have hk2 : fN (I 125) ≤ k := fN_le (fN_eq hN).1 (by omega) (by omega) h1
        refine g_iload_n (n := 50) rfl rfl ?_
        refine g_iret (n := 51) rfl (fun h => nomatch h) ?_
        obtain rfl : k = fN (I 125) := by omega
        exact ⟨rfl, rfl, rfl⟩
      ·
        have hk2 : k < fN (I 125) := fN_nle (fN_eq hN).1 (by omega) (by omega) h1
        refine g_iload_n (n := 15) rfl rfl ?_
        refine g_aload_n (n := 16) rfl rfl ?_
        refine g_iload_n (n := 17) rfl rfl ?_
        refine g_iconst (n := 18) (v := 5) rfl rfl ?_
        refine g_cv2 (n := 21) (t := 145) (ci := 12) rfl (by decide +kernel) (by decide +kernel) (by decide) (by decide) (by decide +kernel) (by rfl) (c_of (g := k) (w := 5) (by omega) (by omega)) (by omega) (g_E ?_)
        refine g_iconst (n := 22) (v := 1) rfl rfl ?_
        refine g_icne (n := 25) 40 rfl (by decide) (fun h2 => ?_) (fun h2 => ?_)
        ·
          refine g_iconst (n := 41) (v := 0) rfl rfl ?_
          refine g_iadd (n := 42) rfl ?_
          refine g_istore_n2 (n := 43) rfl rfl ?_
          refine g_iinc3 (n := 46) rfl rfl (nI_inc _) ?_
          refine g_goto 4 rfl (by decide) ?_
          have hh := ih (k + 1) (by omega) (by omega)
          first | (rw [cnt_1 (p := (fun g => fO (I 125) g 5 = 1 ∧ fO (I 125) g 6 = y)) (k := k) (by first | assumption | exact ⟨by assumption, by assumption⟩)] at hh; exact hh) | (rw [cnt_0 (p := (fun g => fO (I 125) g 5 = 1 ∧ fO (I 125) g 6 = y)) (k := k) (by simp_all)] at hh; exact hh)
        ·
          refine g_aload_n (n := 26) rfl rfl ?_
          refine g_iload_n (n := 27) rfl rfl ?_
          refine g_bipush (n := 29) (v := 6) rfl rfl ?_
          refine g_cv2 (n := 32) (t := 145) (ci := 12) rfl (by decide +kernel) (by decide +kernel) (by decide) (by decide) (by decide +kernel) (by rfl) (c_of (g := k) (w := 6) (by omega) (by omega)) (by omega) (g_E ?_)
          refine g_iload_n (n := 33) rfl rfl ?_
          refine g_icne (n := 36) 40 rfl (by decide) (fun h3 => ?_) (fun h3 => ?_)
          ·
            refine g_iconst (n := 41) (v := 0) rfl rfl ?_
            refine g_iadd (n := 42) rfl ?_
            refine g_istore_n2 (n := 43) rfl rfl ?_
            refine g_iinc3 (n := 46) rfl rfl (nI_inc _) ?_
            refine g_goto 4 rfl (by decide) ?_
            have hh := ih (k + 1) (by omega) (by omega)
            first | (rw [cnt_1 (p := (fun g => fO (I 125) g 5 = 1 ∧ fO (I 125) g 6 = y)) (k := k) (by first | assumption | exact ⟨by assumption, by assumption⟩)] at hh; exact hh) | (rw [cnt_0 (p := (fun g => fO (I 125) g 5 = 1 ∧ fO (I 125) g 6 = y)) (k := k) (by simp_all)] at hh; exact hh)
          ·
            refine g_iconst (n := 37) (v := 1) rfl rfl ?_
            refine g_goto 41 rfl (by decide) ?_
            refine g_iadd (n := 42) rfl ?_
            refine g_istore_n2 (n := 43) rfl rfl ?_
            refine g_iinc3 (n := 46) rfl rfl (nI_inc _) ?_
            refine g_goto 4 rfl (by decide) ?_
            have hh := ih (k + 1) (by omega) (by omega)
            first | (rw [cnt_1 (p := (fun g => fO (I 125) g 5 = 1 ∧ fO (I 125) g 6 = y)) (k := k) (by first | assumption | exact ⟨by assumption, by assumption⟩)] at hh; exact hh) | (rw [cnt_0 (p := (fun g => fO (I 125) g 5 = 1 ∧ fO (I 125) g 6 = y)) (k := k) (by simp_all)] at hh; exact hh)
  refine g_iconst (n := 1) (v := 0) rfl rfl ?_
  refine g_istore_n2 (n := 2) rfl rfl ?_
  refine g_iconst (n := 3) (v := 0) rfl rfl ?_
  refine g_istore_n3 (n := 4) rfl rfl ?_
  exact H (fN (I 125) + 1) 0 (by omega) (by omega)
theorem c_ledgesBefore {sc : List Value} {nm : Nat} {I : mg_I} {y : Nat} (hy : y ≤ 24) : SP sc 2 166 [.ref 124, .int (nI y)] I nm (qE (fBefore (I 125) y) I nm) := by
  refine SP.of (h := 1) (t := 166) (q := (yX12_ledgesBefore, cX12_ledgesBefore, 4, (some .int), 12, 1239, mi_k166)) rfl (by decide) (show ¬ (4 : Nat) < 2 by decide) (fun d hd => ?_)
  show GG sc 12 false false mi_k166 d 0 [.ref 124, .int (nI y), .null, .null] [] I nm (qE (fBefore (I 125) y) I nm)
  have H : ∀ (m k : Nat), k ≤ y → y < m + k → GG sc 12 false false mi_k166 d 4 [.ref 124, .int (nI y), .int (cnt (fun k => 1 < I 125 (10 + k)) k), .int (nI k)] [] I nm (qE (fBefore (I 125) y) I nm) := by
    intro m
    induction m with
    | zero => intro k hk hm; omega
    | succ m ih =>
      intro k hk hm
      refine g_iload_n (n := 5) rfl rfl ?_
      refine g_iload_n (n := 6) rfl rfl ?_
      refine g_icge (n := 9) 31 rfl (by decide) (fun h1 => ?_) (fun h1 => ?_)
      ·
        have hk2 : y ≤ k := fN_le rfl (by omega) (by omega) h1
        refine g_iload_n (n := 32) rfl rfl ?_
        refine g_iret (n := 33) rfl (fun h => nomatch h) ?_
        obtain rfl : k = y := by omega
        exact ⟨rfl, rfl, rfl⟩
      ·
        have hk2 : k < y := fN_nle rfl (by omega) (by omega) h1
        refine g_iload_n (n := 10) rfl rfl ?_
        refine g_aload_n (n := 11) rfl rfl ?_
        refine g_iload_n (n := 12) rfl rfl ?_
        refine g_cv1 (n := 15) (t := 164) (ci := 12) rfl (by decide +kernel) (by decide +kernel) (by decide) (by decide) (by decide +kernel) (by rfl) (c_isLedge (y := k) (by omega)) (by omega) (g_E ?_)
        refine g_split (fun h2 => ?_) (fun h2 => ?_)
        ·
          refine g_ifeq1 (n := 18) 22 rfl (by decide) ?_
          refine g_iconst (n := 19) (v := 1) rfl rfl ?_
          refine g_goto 23 rfl (by decide) ?_
          refine g_iadd (n := 24) rfl ?_
          refine g_istore_n2 (n := 25) rfl rfl ?_
          refine g_iinc3 (n := 28) rfl rfl (nI_inc _) ?_
          refine g_goto 4 rfl (by decide) ?_
          have hh := ih (k + 1) (by omega) (by omega)
          first | (rw [cnt_1 (p := (fun k => 1 < I 125 (10 + k))) (k := k) (by first | assumption | exact ⟨by assumption, by assumption⟩)] at hh; exact hh) | (rw [cnt_0 (p := (fun k => 1 < I 125 (10 + k))) (k := k) (by simp_all)] at hh; exact hh)
        ·
          refine g_ifeq0 (n := 18) 22 rfl (by decide) ?_
          refine g_iconst (n := 23) (v := 0) rfl rfl ?_
          refine g_iadd (n := 24) rfl ?_
          refine g_istore_n2 (n := 25) rfl rfl ?_
          refine g_iinc3 (n := 28) rfl rfl (nI_inc _) ?_
          refine g_goto 4 rfl (by decide) ?_
          have hh := ih (k + 1) (by omega) (by omega)
          first | (rw [cnt_1 (p := (fun k => 1 < I 125 (10 + k))) (k := k) (by first | assumption | exact ⟨by assumption, by assumption⟩)] at hh; exact hh) | (rw [cnt_0 (p := (fun k => 1 < I 125 (10 + k))) (k := k) (by simp_all)] at hh; exact hh)
  refine g_iconst (n := 1) (v := 0) rfl rfl ?_
  refine g_istore_n2 (n := 2) rfl rfl ?_
  refine g_iconst (n := 3) (v := 0) rfl rfl ?_
  refine g_istore_n3 (n := 4) rfl rfl ?_
  exact H (y + 1) 0 (by omega) (by omega)
theorem c_howMany {sc : List Value} {nm : Nat} {I : mg_I} (hN : iR (I 125 0) 9) {how : Int32} : SP sc 2 190 [.ref 124, .int how] I nm (qE (fMany (I 125) how) I nm) := by
  refine SP.of (h := 1) (t := 190) (q := (yX12_howMany, cX12_howMany, 4, (some .int), 12, 1355, mi_k190)) rfl (by decide) (show ¬ (4 : Nat) < 2 by decide) (fun d hd => ?_)
  show GG sc 12 false false mi_k190 d 0 [.ref 124, .int how, .null, .null] [] I nm (qE (fMany (I 125) how) I nm)
  have hn := (fN_eq hN).2
  have H : ∀ (m k : Nat), k ≤ fN (I 125) → fN (I 125) < m + k → GG sc 12 false false mi_k190 d 4 [.ref 124, .int how, .int (cnt (fun g => fO (I 125) g 5 = how) k), .int (nI k)] [] I nm (qE (fMany (I 125) how) I nm) := by
    intro m
    induction m with
    | zero => intro k hk hm; omega
    | succ m ih =>
      intro k hk hm
      refine g_iload_n (n := 5) rfl rfl ?_
      refine g_aload_n (n := 6) rfl rfl ?_
      refine g_getr (n := 9) (ci := 12) (j := 0) (b := 125) rfl (by decide +kernel) (by decide) (by decide) (by decide +kernel) ?_
      refine g_iconst (n := 10) (v := 0) rfl rfl ?_
      refine g_iald (n := 11) (0) rfl (by decide) rfl (by show _ < 286; omega) ?_
      refine g_icge (n := 14) 38 rfl (by decide) (fun h1 => ?_) (fun h1 => ?_)
      ·
        have hk2 : fN (I 125) ≤ k := fN_le (fN_eq hN).1 (by omega) (by omega) h1
        refine g_iload_n (n := 39) rfl rfl ?_
        refine g_iret (n := 40) rfl (fun h => nomatch h) ?_
        obtain rfl : k = fN (I 125) := by omega
        exact ⟨rfl, rfl, rfl⟩
      ·
        have hk2 : k < fN (I 125) := fN_nle (fN_eq hN).1 (by omega) (by omega) h1
        refine g_iload_n (n := 15) rfl rfl ?_
        refine g_aload_n (n := 16) rfl rfl ?_
        refine g_iload_n (n := 17) rfl rfl ?_
        refine g_iconst (n := 18) (v := 5) rfl rfl ?_
        refine g_cv2 (n := 21) (t := 145) (ci := 12) rfl (by decide +kernel) (by decide +kernel) (by decide) (by decide) (by decide +kernel) (by rfl) (c_of (g := k) (w := 5) (by omega) (by omega)) (by omega) (g_E ?_)
        refine g_iload_n (n := 22) rfl rfl ?_
        refine g_icne (n := 25) 29 rfl (by decide) (fun h2 => ?_) (fun h2 => ?_)
        ·
          refine g_iconst (n := 30) (v := 0) rfl rfl ?_
          refine g_iadd (n := 31) rfl ?_
          refine g_istore_n2 (n := 32) rfl rfl ?_
          refine g_iinc3 (n := 35) rfl rfl (nI_inc _) ?_
          refine g_goto 4 rfl (by decide) ?_
          have hh := ih (k + 1) (by omega) (by omega)
          first | (rw [cnt_1 (p := (fun g => fO (I 125) g 5 = how)) (k := k) (by first | assumption | exact ⟨by assumption, by assumption⟩)] at hh; exact hh) | (rw [cnt_0 (p := (fun g => fO (I 125) g 5 = how)) (k := k) (by simp_all)] at hh; exact hh)
        ·
          refine g_iconst (n := 26) (v := 1) rfl rfl ?_
          refine g_goto 30 rfl (by decide) ?_
          refine g_iadd (n := 31) rfl ?_
          refine g_istore_n2 (n := 32) rfl rfl ?_
          refine g_iinc3 (n := 35) rfl rfl (nI_inc _) ?_
          refine g_goto 4 rfl (by decide) ?_
          have hh := ih (k + 1) (by omega) (by omega)
          first | (rw [cnt_1 (p := (fun g => fO (I 125) g 5 = how)) (k := k) (by first | assumption | exact ⟨by assumption, by assumption⟩)] at hh; exact hh) | (rw [cnt_0 (p := (fun g => fO (I 125) g 5 = how)) (k := k) (by simp_all)] at hh; exact hh)
  refine g_iconst (n := 1) (v := 0) rfl rfl ?_
  refine g_istore_n2 (n := 2) rfl rfl ?_
  refine g_iconst (n := 3) (v := 0) rfl rfl ?_
  refine g_istore_n3 (n := 4) rfl rfl ?_
  exact H (fN (I 125) + 1) 0 (by omega) (by omega)
/-- the first k numbers of row b put over those of row a -/
def mcp (I : mg_I) (a b k : Nat) : mg_I := fun x j => if x = a ∧ j < k then I b j else I x j
theorem mcp_0 {I : mg_I} {a b : Nat} : mcp I a b 0 = I := by
  funext x j
  unfold mcp
  rw [if_neg (by omega)]
theorem mcp_s {I : mg_I} {a b k : Nat} (h : a ≠ b) : mf_up (mcp I a b k) a k (mcp I a b k b k) = mcp I a b (k + 1) := by
  funext x j
  unfold mf_up mcp
  by_cases h1 : x = a ∧ j = k
  · obtain ⟨rfl, rfl⟩ := h1
    rw [if_pos ⟨rfl, rfl⟩, if_neg (fun z => h z.1.symm), if_pos ⟨rfl, by omega⟩]
  · rw [if_neg h1]
    by_cases h2 : x = a ∧ j < k
    · rw [if_pos h2, if_pos ⟨h2.1, by omega⟩]
    · rw [if_neg h2, if_neg (by omega)]
/-- the first of those below n with p from k on; -1: none -/
def fFirst (p : Nat → Prop) [DecidablePred p] (n : Nat) : Nat → Nat → Int32
  | 0, _ => -1
  | f + 1, k => if n ≤ k then -1 else if p k then nI k else fFirst p n f (k + 1)
def fFace (d : Nat → Int32) (g : Nat) (y : Int32) (h : Nat) : Prop := fO d h 5 = 1 ∧ fO d h 6 = y ∧ fO d h 8 = 0 ∧ ¬ fFaces d h = fFaces d g
theorem c_keepAside {sc : List Value} {nm : Nat} {I : mg_I} : SP sc 1 147 [.ref 124] I nm (qZ (mcp I 127 125 114) nm) := by
  refine SP.of (h := 0) (t := 147) (q := (yX12_keepAside, cX12_keepAside, 2, none, 12, 1368, mi_k147)) rfl (by decide) (show ¬ (2 : Nat) < 1 by decide) (fun d hd => ?_)
  show GG sc 12 false false mi_k147 d 0 [.ref 124, .null] [] I nm (qZ (mcp I 127 125 114) nm)
  have H : ∀ (m k : Nat), k ≤ 114 → 114 < m + k → GG sc 12 false false mi_k147 d 2 [.ref 124, .int (nI k)] [] (mcp I 127 125 k) nm (qZ (mcp I 127 125 114) nm) := by
    intro m
    induction m with
    | zero => intro k hk hm; omega
    | succ m ih =>
      intro k hk hm
      refine g_iload_n (n := 3) rfl rfl ?_
      refine g_bipush (n := 5) (v := 114) rfl rfl ?_
      refine g_icge (n := 8) 26 rfl (by decide) (fun h1 => ?_) (fun h1 => ?_)
      ·
        have hk2 : 114 ≤ k := fN_le (n := 114) rfl (by omega) (by omega) h1
        refine g_vret (n := 27) rfl ?_
        obtain rfl : k = 114 := by omega
        exact ⟨rfl, rfl, rfl⟩
      ·
        have hk2 : k < 114 := fN_nle (n := 114) rfl (by omega) (by omega) h1
        refine g_aload_n (n := 9) rfl rfl ?_
        refine g_getr (n := 12) (ci := 12) (j := 2) (b := 127) rfl (by decide +kernel) (by decide) (by decide) (by decide +kernel) ?_
        refine g_iload_n (n := 13) rfl rfl ?_
        refine g_aload_n (n := 14) rfl rfl ?_
        refine g_getr (n := 17) (ci := 12) (j := 0) (b := 125) rfl (by decide +kernel) (by decide) (by decide) (by decide +kernel) ?_
        refine g_iload_n (n := 18) rfl rfl ?_
        refine g_iald (n := 19) (k) rfl (by decide) rfl (by show _ < 286; omega) ?_
        refine g_iast (n := 20) (k) rfl (by decide) rfl (by show _ < 114; omega) ?_
        refine g_iinc1 (n := 23) rfl rfl (nI_inc _) ?_
        refine g_goto 2 rfl (by decide) ?_
        rw [mcp_s (by decide)]
        exact ih (k + 1) (by omega) (by omega)
  refine g_iconst (n := 1) (v := 0) rfl rfl ?_
  refine g_istore_n1 (n := 2) rfl rfl ?_
  have hh := H 115 0 (by omega) (by omega)
  rw [mcp_0] at hh
  exact hh
theorem c_putBack {sc : List Value} {nm : Nat} {I : mg_I} : SP sc 1 148 [.ref 124] I nm (qZ (mcp I 125 127 114) nm) := by
  refine SP.of (h := 0) (t := 148) (q := (yX12_putBack, cX12_putBack, 2, none, 12, 1372, mi_k148)) rfl (by decide) (show ¬ (2 : Nat) < 1 by decide) (fun d hd => ?_)
  show GG sc 12 false false mi_k148 d 0 [.ref 124, .null] [] I nm (qZ (mcp I 125 127 114) nm)
  have H : ∀ (m k : Nat), k ≤ 114 → 114 < m + k → GG sc 12 false false mi_k148 d 2 [.ref 124, .int (nI k)] [] (mcp I 125 127 k) nm (qZ (mcp I 125 127 114) nm) := by
    intro m
    induction m with
    | zero => intro k hk hm; omega
    | succ m ih =>
      intro k hk hm
      refine g_iload_n (n := 3) rfl rfl ?_
      refine g_bipush (n := 5) (v := 114) rfl rfl ?_
      refine g_icge (n := 8) 26 rfl (by decide) (fun h1 => ?_) (fun h1 => ?_)
      ·
        have hk2 : 114 ≤ k := fN_le (n := 114) rfl (by omega) (by omega) h1
        refine g_vret (n := 27) rfl ?_
        obtain rfl : k = 114 := by omega
        exact ⟨rfl, rfl, rfl⟩
      ·
        have hk2 : k < 114 := fN_nle (n := 114) rfl (by omega) (by omega) h1
        refine g_aload_n (n := 9) rfl rfl ?_
        refine g_getr (n := 12) (ci := 12) (j := 0) (b := 125) rfl (by decide +kernel) (by decide) (by decide) (by decide +kernel) ?_
        refine g_iload_n (n := 13) rfl rfl ?_
        refine g_aload_n (n := 14) rfl rfl ?_
        refine g_getr (n := 17) (ci := 12) (j := 2) (b := 127) rfl (by decide +kernel) (by decide) (by decide) (by decide +kernel) ?_
        refine g_iload_n (n := 18) rfl rfl ?_
        refine g_iald (n := 19) (k) rfl (by decide) rfl (by show _ < 114; omega) ?_
        refine g_iast (n := 20) (k) rfl (by decide) rfl (by show _ < 286; omega) ?_
        refine g_iinc1 (n := 23) rfl rfl (nI_inc _) ?_
        refine g_goto 2 rfl (by decide) ?_
        rw [mcp_s (by decide)]
        exact ih (k + 1) (by omega) (by omega)
  refine g_iconst (n := 1) (v := 0) rfl rfl ?_
  refine g_istore_n1 (n := 2) rfl rfl ?_
  have hh := H 115 0 (by omega) (by omega)
  rw [mcp_0] at hh
  exact hh
