/-! the model's minute: its steps -/
def up (d : Nat → Int32) (j : Nat) (v : Int32) : Nat → Int32 := fun k => if k = j then v else d k
def mR (I : mg_I) (d : Nat → Int32) : mg_I := fun a j => if a = 125 then d j else I a j
theorem mR_125 {I : mg_I} {d : Nat → Int32} : mR I d 125 = d := rfl
theorem mR_self {I : mg_I} : mR I (I 125) = I := by
  funext a j
  unfold mR
  split
  next h => subst h; rfl
  · rfl
theorem mR_up {I : mg_I} {d : Nat → Int32} {j : Nat} {v : Int32} : mf_up (mR I d) 125 j v = mR I (up d j v) := by
  funext a k
  unfold mf_up mR up
  by_cases h1 : a = 125 <;> by_cases h2 : k = j <;> simp [h1, h2]
theorem mR_mE {I I' : mg_I} {d : Nat → Int32} (h : mE (mR I d) I') : ∃ J, I' = mR J d ∧ mE I J := by
  refine ⟨fun a j => if a = 125 then I 125 j else I' a j, ?_, ?_⟩
  · funext a j
    unfold mR
    split
    next h1 => subst h1; exact h 125 j (by omega)
    next h1 => exact (if_neg h1).symm
  · intro a j hx
    show (if a = 125 then I 125 j else I' a j) = I a j
    split
    next h1 => subst h1; rfl
    next h1 => exact (h a j hx).trans (if_neg h1)
theorem mE_mR {I J : mg_I} (h : mE I J) {d : Nat → Int32} : mE (mR I d) (mR J d) := by
  intro a j hx
  unfold mR
  split
  · rfl
  · exact h a j hx
abbrev gFace (d : Nat → Int32) (g : Nat) (y : Int32) (h : Nat) : Prop := fO d h 5 = 1 ∧ fO d h 6 = y ∧ fO d h 8 = 0 ∧ ¬ fFaces d h = fFaces d g
def fBit (g : Nat) : Int32 := 1 <<< (nI g &&& 31)
def fHome (d : Nat → Int32) (g : Nat) : Nat → Int32 :=
  up (up (up (up (up (up d (34 + 10 * g + 5) 0) (34 + 10 * g + 6) (-1)) (34 + 10 * g + 7) 0) (34 + 10 * g + 8) 0) (34 + 10 * g + 9) 0) 5 (up (up (up (up (up d (34 + 10 * g + 5) 0) (34 + 10 * g + 6) (-1)) (34 + 10 * g + 7) 0) (34 + 10 * g + 8) 0) (34 + 10 * g + 9) 0 5 &&& (fBit g ^^^ -1))
def fAbove (k : Int32) : Int32 := if 4 ≤ k then k - 3 else 0
def fAgainst (d : Nat → Int32) (g : Nat) (y : Int32) : Int32 := fFirst (gFace d g y) (fN d) 9 0
theorem c_sendHome {sc : List Value} {nm : Nat} {I : mg_I} {d0 : Nat → Int32} {g : Nat} (hg : g < 8) : SP sc 2 175 [.ref 124, .int (nI g)] (mR I d0) nm (qZ (mR I (fHome d0 g)) nm) := by
  refine SP.of (h := 1) (t := 175) (q := (yX12_sendHome, cX12_sendHome, 2, none, 12, 1258, mi_k175)) rfl (by decide) (show ¬ (2 : Nat) < 2 by decide) (fun d hd => ?_)
  show GG sc 12 false false mi_k175 d 0 [.ref 124, .int (nI g)] [] (mR I d0) nm (qZ (mR I (fHome d0 g)) nm)
  refine g_aload_n (n := 1) rfl rfl ?_
  refine g_iload_n (n := 2) rfl rfl ?_
  refine g_iconst (n := 3) (v := 5) rfl rfl ?_
  refine g_iconst (n := 4) (v := 0) rfl rfl ?_
  refine g_cv3 (n := 7) (t := 146) (ci := 12) rfl (by decide +kernel) (by decide +kernel) (by decide) (by decide) (by decide +kernel) (by rfl) (c_sets (g := g) (w := 5) (by omega) (by omega)) (by omega) (g_Z ?_)
  try simp only [mR_125, mR_up]
  refine g_aload_n (n := 8) rfl rfl ?_
  refine g_iload_n (n := 9) rfl rfl ?_
  refine g_bipush (n := 11) (v := 6) rfl rfl ?_
  refine g_iconst (n := 12) (v := -1) rfl rfl ?_
  refine g_cv3 (n := 15) (t := 146) (ci := 12) rfl (by decide +kernel) (by decide +kernel) (by decide) (by decide) (by decide +kernel) (by rfl) (c_sets (g := g) (w := 6) (by omega) (by omega)) (by omega) (g_Z ?_)
  try simp only [mR_125, mR_up]
  refine g_aload_n (n := 16) rfl rfl ?_
  refine g_iload_n (n := 17) rfl rfl ?_
  refine g_bipush (n := 19) (v := 7) rfl rfl ?_
  refine g_iconst (n := 20) (v := 0) rfl rfl ?_
  refine g_cv3 (n := 23) (t := 146) (ci := 12) rfl (by decide +kernel) (by decide +kernel) (by decide) (by decide) (by decide +kernel) (by rfl) (c_sets (g := g) (w := 7) (by omega) (by omega)) (by omega) (g_Z ?_)
  try simp only [mR_125, mR_up]
  refine g_aload_n (n := 24) rfl rfl ?_
  refine g_iload_n (n := 25) rfl rfl ?_
  refine g_bipush (n := 27) (v := 8) rfl rfl ?_
  refine g_iconst (n := 28) (v := 0) rfl rfl ?_
  refine g_cv3 (n := 31) (t := 146) (ci := 12) rfl (by decide +kernel) (by decide +kernel) (by decide) (by decide) (by decide +kernel) (by rfl) (c_sets (g := g) (w := 8) (by omega) (by omega)) (by omega) (g_Z ?_)
  try simp only [mR_125, mR_up]
  refine g_aload_n (n := 32) rfl rfl ?_
  refine g_iload_n (n := 33) rfl rfl ?_
  refine g_bipush (n := 35) (v := 9) rfl rfl ?_
  refine g_iconst (n := 36) (v := 0) rfl rfl ?_
  refine g_cv3 (n := 39) (t := 146) (ci := 12) rfl (by decide +kernel) (by decide +kernel) (by decide) (by decide) (by decide +kernel) (by rfl) (c_sets (g := g) (w := 9) (by omega) (by omega)) (by omega) (g_Z ?_)
  try simp only [mR_125, mR_up]
  refine g_aload_n (n := 40) rfl rfl ?_
  refine g_getr (n := 43) (ci := 12) (j := 0) (b := 125) rfl (by decide +kernel) (by decide) (by decide) (by decide +kernel) ?_
  refine g_iconst (n := 44) (v := 5) rfl rfl ?_
  refine g_dup2 (n := 45) rfl ?_
  refine g_iald (n := 46) (5) rfl (by decide) rfl (by show _ < 286; omega) ?_
  try simp only [mR_125, mR_up]
  refine g_iconst (n := 47) (v := 1) rfl rfl ?_
  refine g_iload_n (n := 48) rfl rfl ?_
  refine g_ishl (n := 49) rfl ?_
  refine g_iconst (n := 50) (v := -1) rfl rfl ?_
  refine g_ixor (n := 51) rfl ?_
  refine g_iand (n := 52) rfl ?_
  refine g_iast (n := 53) (5) rfl (by decide) rfl (by show _ < 286; omega) ?_
  try simp only [mR_125, mR_up]
  refine g_vret (n := 54) rfl ?_
  exact ⟨rfl, rfl, rfl⟩
theorem c_above {sc : List Value} {nm : Nat} {I : mg_I} {d0 : Nat → Int32} {k : Int32} : SP sc 1 179 [.int k] (mR I d0) nm (qE (fAbove k) (mR I d0) nm) := by
  refine SP.of (h := 0) (t := 179) (q := (yX12_above, cX12_above, 1, (some .int), 12, 1299, mi_k179)) rfl (by decide) (show ¬ (1 : Nat) < 1 by decide) (fun d hd => ?_)
  show GG sc 12 false false mi_k179 d 0 [.int k] [] (mR I d0) nm (qE (fAbove k) (mR I d0) nm)
  refine g_iload_n (n := 1) rfl rfl ?_
  refine g_iconst (n := 2) (v := 4) rfl rfl ?_
  refine g_icge (n := 5) 9 rfl (by decide) (fun h1 => ?_) (fun h1 => ?_)
  ·
    refine g_iload_n (n := 10) rfl rfl ?_
    refine g_iconst (n := 11) (v := 3) rfl rfl ?_
    refine g_isub (n := 12) rfl ?_
    refine g_iret (n := 13) rfl (fun h => nomatch h) ?_
    unfold fAbove; first | exact ⟨congrArg (fun z => some (Value.int z)) (if_pos h1).symm, rfl, rfl⟩ | exact ⟨congrArg (fun z => some (Value.int z)) (if_neg h1).symm, rfl, rfl⟩
  ·
    refine g_iconst (n := 6) (v := 0) rfl rfl ?_
    refine g_goto 12 rfl (by decide) ?_
    refine g_iret (n := 13) rfl (fun h => nomatch h) ?_
    unfold fAbove; first | exact ⟨congrArg (fun z => some (Value.int z)) (if_pos h1).symm, rfl, rfl⟩ | exact ⟨congrArg (fun z => some (Value.int z)) (if_neg h1).symm, rfl, rfl⟩
theorem c_against {sc : List Value} {nm : Nat} {I : mg_I} {d0 : Nat → Int32} {g : Nat} {y : Int32} (hg : g < 8) (hN : iR (d0 0) 9) : SP sc 3 184 [.ref 124, .int (nI g), .int y] (mR I d0) nm (qE (fAgainst d0 g y) (mR I d0) nm) := by
  refine SP.of (h := 2) (t := 184) (q := (yX12_against, cX12_against, 4, (some .int), 12, 1341, mi_k184)) rfl (by decide) (show ¬ (4 : Nat) < 3 by decide) (fun d hd => ?_)
  show GG sc 12 false false mi_k184 d 0 [.ref 124, .int (nI g), .int y, .null] [] (mR I d0) nm (qE (fAgainst d0 g y) (mR I d0) nm)
  have hn := (fN_eq hN).2
  have H : ∀ (m k : Nat), k ≤ fN d0 → fN d0 < m + k → GG sc 12 false false mi_k184 d 2 [.ref 124, .int (nI g), .int y, .int (nI k)] [] (mR I d0) nm (qE (fFirst (gFace d0 g y) (fN d0) m k) (mR I d0) nm) := by
    intro m
    induction m with
    | zero => intro k hk hm; omega
    | succ m ih =>
      intro k hk hm
      rw [fFirst]
      refine g_iload_n (n := 3) rfl rfl ?_
      refine g_aload_n (n := 4) rfl rfl ?_
      refine g_getr (n := 7) (ci := 12) (j := 0) (b := 125) rfl (by decide +kernel) (by decide) (by decide) (by decide +kernel) ?_
      refine g_iconst (n := 8) (v := 0) rfl rfl ?_
      refine g_iald (n := 9) (0) rfl (by decide) rfl (by show _ < 286; omega) ?_
      try simp only [mR_125, mR_up]
      refine g_icge (n := 12) 64 rfl (by decide) (fun h1 => ?_) (fun h1 => ?_)
      ·
        have hk2 : fN d0 ≤ k := fN_le (fN_eq hN).1 (by omega) (by omega) h1
        refine g_iconst (n := 65) (v := -1) rfl rfl ?_
        refine g_iret (n := 66) rfl (fun h => nomatch h) ?_
        rw [if_pos hk2]; exact ⟨rfl, rfl, rfl⟩
      ·
        have hk2 : k < fN d0 := fN_nle (fN_eq hN).1 (by omega) (by omega) h1
        rw [if_neg (by omega)]
        refine g_aload_n (n := 13) rfl rfl ?_
        refine g_iload_n (n := 14) rfl rfl ?_
        refine g_iconst (n := 15) (v := 5) rfl rfl ?_
        refine g_cv2 (n := 18) (t := 145) (ci := 12) rfl (by decide +kernel) (by decide +kernel) (by decide) (by decide) (by decide +kernel) (by rfl) (c_of (g := k) (w := 5) (by omega) (by omega)) (by omega) (g_E ?_)
        try simp only [mR_125, mR_up]
        refine g_iconst (n := 19) (v := 1) rfl rfl ?_
        refine g_icne (n := 22) 58 rfl (by decide) (fun h2 => ?_) (fun h2 => ?_)
        ·
          refine g_iinc3 (n := 61) rfl rfl (nI_inc _) ?_
          refine g_goto 2 rfl (by decide) ?_
          rw [if_neg (show ¬ gFace d0 g y k from fun z => by first | exact absurd z.1 (by assumption) | exact absurd z.2.1 (by assumption) | exact absurd z.2.2.1 (by assumption) | exact absurd (by assumption) z.2.2.2)]
          exact ih (k + 1) (by omega) (by omega)
        ·
          refine g_aload_n (n := 23) rfl rfl ?_
          refine g_iload_n (n := 24) rfl rfl ?_
          refine g_bipush (n := 26) (v := 6) rfl rfl ?_
          refine g_cv2 (n := 29) (t := 145) (ci := 12) rfl (by decide +kernel) (by decide +kernel) (by decide) (by decide) (by decide +kernel) (by rfl) (c_of (g := k) (w := 6) (by omega) (by omega)) (by omega) (g_E ?_)
          try simp only [mR_125, mR_up]
          refine g_iload_n (n := 30) rfl rfl ?_
          refine g_icne (n := 33) 58 rfl (by decide) (fun h3 => ?_) (fun h3 => ?_)
          ·
            refine g_iinc3 (n := 61) rfl rfl (nI_inc _) ?_
            refine g_goto 2 rfl (by decide) ?_
            rw [if_neg (show ¬ gFace d0 g y k from fun z => by first | exact absurd z.1 (by assumption) | exact absurd z.2.1 (by assumption) | exact absurd z.2.2.1 (by assumption) | exact absurd (by assumption) z.2.2.2)]
            exact ih (k + 1) (by omega) (by omega)
          ·
            refine g_aload_n (n := 34) rfl rfl ?_
            refine g_iload_n (n := 35) rfl rfl ?_
            refine g_bipush (n := 37) (v := 8) rfl rfl ?_
            refine g_cv2 (n := 40) (t := 145) (ci := 12) rfl (by decide +kernel) (by decide +kernel) (by decide) (by decide) (by decide +kernel) (by rfl) (c_of (g := k) (w := 8) (by omega) (by omega)) (by omega) (g_E ?_)
            try simp only [mR_125, mR_up]
            refine g_ifne (n := 43) 58 rfl (by decide) (fun h4 => ?_) (fun h4 => ?_)
            ·
              refine g_iinc3 (n := 61) rfl rfl (nI_inc _) ?_
              refine g_goto 2 rfl (by decide) ?_
              rw [if_neg (show ¬ gFace d0 g y k from fun z => by first | exact absurd z.1 (by assumption) | exact absurd z.2.1 (by assumption) | exact absurd z.2.2.1 (by assumption) | exact absurd (by assumption) z.2.2.2)]
              exact ih (k + 1) (by omega) (by omega)
            ·
              refine g_aload_n (n := 44) rfl rfl ?_
              refine g_iload_n (n := 45) rfl rfl ?_
              refine g_cv1 (n := 48) (t := 183) (ci := 12) rfl (by decide +kernel) (by decide +kernel) (by decide) (by decide) (by decide +kernel) (by rfl) (c_faces (g := k) (by omega)) (by omega) (g_E ?_)
              try simp only [mR_125, mR_up]
              refine g_aload_n (n := 49) rfl rfl ?_
              refine g_iload_n (n := 50) rfl rfl ?_
              refine g_cv1 (n := 53) (t := 183) (ci := 12) rfl (by decide +kernel) (by decide +kernel) (by decide) (by decide) (by decide +kernel) (by rfl) (c_faces (g := g) (by omega)) (by omega) (g_E ?_)
              try simp only [mR_125, mR_up]
              refine g_iceq (n := 56) 58 rfl (by decide) (fun h5 => ?_) (fun h5 => ?_)
              ·
                refine g_iinc3 (n := 61) rfl rfl (nI_inc _) ?_
                refine g_goto 2 rfl (by decide) ?_
                rw [if_neg (show ¬ gFace d0 g y k from fun z => by first | exact absurd z.1 (by assumption) | exact absurd z.2.1 (by assumption) | exact absurd z.2.2.1 (by assumption) | exact absurd (by assumption) z.2.2.2)]
                exact ih (k + 1) (by omega) (by omega)
              ·
                refine g_iload_n (n := 57) rfl rfl ?_
                refine g_iret (n := 58) rfl (fun h => nomatch h) ?_
                rw [if_pos (show gFace d0 g y k from ⟨by assumption, by assumption, by assumption, by assumption⟩)]; exact ⟨rfl, rfl, rfl⟩
  refine g_iconst (n := 1) (v := 0) rfl rfl ?_
  refine g_istore_n3 (n := 2) rfl rfl ?_
  exact H 9 0 (by omega) (by omega)
/-- no answer; the memory but for what texts leave behind -/
def qN (I : mg_I) (nm : Nat) : Option Value → mg_I → Nat → Prop := fun r I' nm' => r = none ∧ mE I I' ∧ nm' = nm
theorem g_N {sc : List Value} {own : Nat} {ini rz : Bool} {code : List (Nat × Instr)} {d n : Nat} {ls : List Value} {I : mg_I} {nm0 : Nat} {Q : Option Value → mg_I → Nat → Prop} {r : List Value} (k : ∀ I', mE I I' → GG sc own ini rz code d n ls r I' nm0 Q) : ∀ a I2 nm2, qN I nm0 a I2 nm2 → GG sc own ini rz code d n ls (a.toList ++ r) I2 nm2 Q := by
  rintro a I2 nm2 ⟨rfl, h2, rfl⟩
  exact k I2 h2
def fMeets (d : Nat → Int32) (g h : Nat) : Nat → Int32 :=
  if fRank d h < fRank d g ∨ (fRank d g = fRank d h ∧ g < h) then d
  else if fBack (fO d g 0) (fO d g 1) = 0 then up d 5 (d 5 ||| fBit g)
  else up (up (up d (34 + 10 * g + 8) 1) (34 + 10 * g + 9) (fO (up d (34 + 10 * g + 8) 1) g 9 + 1)) 3 (fHeld (up (up d (34 + 10 * g + 8) 1) (34 + 10 * g + 9) (fO (up d (34 + 10 * g + 8) 1) g 9 + 1) 3 + 1) 0 9999)
theorem c_meets {sc : List Value} {nm : Nat} {I : mg_I} {d0 : Nat → Int32} {g h : Nat} (hg : g < 8) (hh : h < 8) (hkg : fK (fO d0 g 0)) (hkh : fK (fO d0 h 0)) (hs : iR (d0 114) 51) : SP sc 44 186 [.ref 124, .int (nI g), .int (nI h)] (mR I d0) nm (qN (mR I (fMeets d0 g h)) nm) := by
  refine SP.of (h := 43) (t := 186) (q := (yX12_meets, cX12_meets, 5, none, 12, 1351, mi_k186)) rfl (by decide) (show ¬ (5 : Nat) < 3 by decide) (fun d hd => ?_)
  show GG sc 12 false false mi_k186 d 0 [.ref 124, .int (nI g), .int (nI h), .null, .null] [] (mR I d0) nm (qN (mR I (fMeets d0 g h)) nm)
  refine g_aload_n (n := 1) rfl rfl ?_
  refine g_iload_n (n := 2) rfl rfl ?_
  refine g_cv1 (n := 5) (t := 174) (ci := 12) rfl (by decide +kernel) (by decide +kernel) (by decide) (by decide) (by decide +kernel) (by rfl) (c_rankOf (g := g) (by omega) hkg hs) (by omega) (g_M fun I1 he => ?_)
  obtain ⟨J1, rfl, hJ1⟩ := mR_mE he
  clear he
  simp only [mR_125]
  refine g_istore_n3 (n := 6) rfl rfl ?_
  refine g_aload_n (n := 7) rfl rfl ?_
  refine g_iload_n (n := 8) rfl rfl ?_
  refine g_cv1 (n := 11) (t := 174) (ci := 12) rfl (by decide +kernel) (by decide +kernel) (by decide) (by decide) (by decide +kernel) (by rfl) (c_rankOf (g := h) (by omega) hkh hs) (by omega) (g_M fun I1 he => ?_)
  obtain ⟨J2, rfl, hJ2⟩ := mR_mE he
  clear he
  simp only [mR_125]
  refine g_istore4 (n := 13) rfl rfl ?_
  refine g_iload_n (n := 14) rfl rfl ?_
  refine g_iload (n := 16) rfl rfl ?_
  refine g_icgt (n := 19) 30 rfl (by decide) (fun h1 => ?_) (fun h1 => ?_)
  ·
    have hv : fMeets d0 g h = d0 := if_pos (Or.inl h1)
    refine g_vret (n := 31) rfl ?_
    rw [hv]; exact ⟨rfl, mE_mR (hJ1.trans hJ2), rfl⟩
  ·
    refine g_iload_n (n := 20) rfl rfl ?_
    refine g_iload (n := 22) rfl rfl ?_
    refine g_icne (n := 25) 31 rfl (by decide) (fun h2 => ?_) (fun h2 => ?_)
    ·
      have hc : ¬ (fRank d0 h < fRank d0 g ∨ (fRank d0 g = fRank d0 h ∧ g < h)) := fun z => z.elim h1 (fun y => h2 y.1)
      refine g_aload_n (n := 32) rfl rfl ?_
      refine g_iload_n (n := 33) rfl rfl ?_
      refine g_cv1 (n := 36) (t := 172) (ci := 12) rfl (by decide +kernel) (by decide +kernel) (by decide) (by decide) (by decide +kernel) (by rfl) (c_canBack (g := g) (by omega)) (by omega) (g_E ?_)
      try simp only [mR_125, mR_up]
      refine g_ifne (n := 39) 52 rfl (by decide) (fun h3 => ?_) (fun h3 => ?_)
      ·
        have hb := h3
        refine g_aload_n (n := 53) rfl rfl ?_
        refine g_iload_n (n := 54) rfl rfl ?_
        refine g_bipush (n := 56) (v := 8) rfl rfl ?_
        refine g_iconst (n := 57) (v := 1) rfl rfl ?_
        refine g_cv3 (n := 60) (t := 146) (ci := 12) rfl (by decide +kernel) (by decide +kernel) (by decide) (by decide) (by decide +kernel) (by rfl) (c_sets (g := g) (w := 8) (by omega) (by omega)) (by omega) (g_Z ?_)
        try simp only [mR_125, mR_up]
        refine g_aload_n (n := 61) rfl rfl ?_
        refine g_iload_n (n := 62) rfl rfl ?_
        refine g_bipush (n := 64) (v := 9) rfl rfl ?_
        refine g_aload_n (n := 65) rfl rfl ?_
        refine g_iload_n (n := 66) rfl rfl ?_
        refine g_bipush (n := 68) (v := 9) rfl rfl ?_
        refine g_cv2 (n := 71) (t := 145) (ci := 12) rfl (by decide +kernel) (by decide +kernel) (by decide) (by decide) (by decide +kernel) (by rfl) (c_of (g := g) (w := 9) (by omega) (by omega)) (by omega) (g_E ?_)
        try simp only [mR_125, mR_up]
        refine g_iconst (n := 72) (v := 1) rfl rfl ?_
        refine g_iadd (n := 73) rfl ?_
        refine g_cv3 (n := 76) (t := 146) (ci := 12) rfl (by decide +kernel) (by decide +kernel) (by decide) (by decide) (by decide +kernel) (by rfl) (c_sets (g := g) (w := 9) (by omega) (by omega)) (by omega) (g_Z ?_)
        try simp only [mR_125, mR_up]
        refine g_aload_n (n := 77) rfl rfl ?_
        refine g_getr (n := 80) (ci := 12) (j := 0) (b := 125) rfl (by decide +kernel) (by decide) (by decide) (by decide +kernel) ?_
        refine g_iconst (n := 81) (v := 3) rfl rfl ?_
        refine g_aload_n (n := 82) rfl rfl ?_
        refine g_getr (n := 85) (ci := 12) (j := 0) (b := 125) rfl (by decide +kernel) (by decide) (by decide) (by decide +kernel) ?_
        refine g_iconst (n := 86) (v := 3) rfl rfl ?_
        refine g_iald (n := 87) (3) rfl (by decide) rfl (by show _ < 286; omega) ?_
        try simp only [mR_125, mR_up]
        refine g_iconst (n := 88) (v := 1) rfl rfl ?_
        refine g_iadd (n := 89) rfl ?_
        refine g_iconst (n := 90) (v := 0) rfl rfl ?_
        refine g_sipush (n := 93) (v := 9999) rfl rfl ?_
        refine g_cs3 (n := 96) (t := 142) (x := (1208, 1209, 84)) rfl (by decide +kernel) (by decide +kernel) (by rfl) c_heldF (by omega) (g_E ?_)
        try simp only [mR_125, mR_up]
        refine g_iast (n := 97) (3) rfl (by decide) rfl (by show _ < 286; omega) ?_
        try simp only [mR_125, mR_up]
        refine g_vret (n := 98) rfl ?_
        refine ⟨rfl, ?_, rfl⟩; unfold fMeets; rw [if_neg hc, if_neg hb]; exact mE_mR (hJ1.trans hJ2)
      ·
        have hb := h3
        refine g_aload_n (n := 40) rfl rfl ?_
        refine g_getr (n := 43) (ci := 12) (j := 0) (b := 125) rfl (by decide +kernel) (by decide) (by decide) (by decide +kernel) ?_
        refine g_iconst (n := 44) (v := 5) rfl rfl ?_
        refine g_dup2 (n := 45) rfl ?_
        refine g_iald (n := 46) (5) rfl (by decide) rfl (by show _ < 286; omega) ?_
        try simp only [mR_125, mR_up]
        refine g_iconst (n := 47) (v := 1) rfl rfl ?_
        refine g_iload_n (n := 48) rfl rfl ?_
        refine g_ishl (n := 49) rfl ?_
        refine g_ior (n := 50) rfl ?_
        refine g_iast (n := 51) (5) rfl (by decide) rfl (by show _ < 286; omega) ?_
        try simp only [mR_125, mR_up]
        refine g_vret (n := 52) rfl ?_
        refine ⟨rfl, ?_, rfl⟩; unfold fMeets; rw [if_neg hc, if_pos hb]; exact mE_mR (hJ1.trans hJ2)
    ·
      refine g_iload_n (n := 26) rfl rfl ?_
      refine g_iload_n (n := 27) rfl rfl ?_
      refine g_icge (n := 30) 31 rfl (by decide) (fun h4 => ?_) (fun h4 => ?_)
      ·
        have hc : ¬ (fRank d0 h < fRank d0 g ∨ (fRank d0 g = fRank d0 h ∧ g < h)) := fun z => z.elim h1 (fun y => absurd (fN_le rfl (by omega) (by omega) h4) (by omega))
        refine g_aload_n (n := 32) rfl rfl ?_
        refine g_iload_n (n := 33) rfl rfl ?_
        refine g_cv1 (n := 36) (t := 172) (ci := 12) rfl (by decide +kernel) (by decide +kernel) (by decide) (by decide) (by decide +kernel) (by rfl) (c_canBack (g := g) (by omega)) (by omega) (g_E ?_)
        try simp only [mR_125, mR_up]
        refine g_ifne (n := 39) 52 rfl (by decide) (fun h5 => ?_) (fun h5 => ?_)
        ·
          have hb := h5
          refine g_aload_n (n := 53) rfl rfl ?_
          refine g_iload_n (n := 54) rfl rfl ?_
          refine g_bipush (n := 56) (v := 8) rfl rfl ?_
          refine g_iconst (n := 57) (v := 1) rfl rfl ?_
          refine g_cv3 (n := 60) (t := 146) (ci := 12) rfl (by decide +kernel) (by decide +kernel) (by decide) (by decide) (by decide +kernel) (by rfl) (c_sets (g := g) (w := 8) (by omega) (by omega)) (by omega) (g_Z ?_)
          try simp only [mR_125, mR_up]
          refine g_aload_n (n := 61) rfl rfl ?_
          refine g_iload_n (n := 62) rfl rfl ?_
          refine g_bipush (n := 64) (v := 9) rfl rfl ?_
          refine g_aload_n (n := 65) rfl rfl ?_
          refine g_iload_n (n := 66) rfl rfl ?_
          refine g_bipush (n := 68) (v := 9) rfl rfl ?_
          refine g_cv2 (n := 71) (t := 145) (ci := 12) rfl (by decide +kernel) (by decide +kernel) (by decide) (by decide) (by decide +kernel) (by rfl) (c_of (g := g) (w := 9) (by omega) (by omega)) (by omega) (g_E ?_)
          try simp only [mR_125, mR_up]
          refine g_iconst (n := 72) (v := 1) rfl rfl ?_
          refine g_iadd (n := 73) rfl ?_
          refine g_cv3 (n := 76) (t := 146) (ci := 12) rfl (by decide +kernel) (by decide +kernel) (by decide) (by decide) (by decide +kernel) (by rfl) (c_sets (g := g) (w := 9) (by omega) (by omega)) (by omega) (g_Z ?_)
          try simp only [mR_125, mR_up]
          refine g_aload_n (n := 77) rfl rfl ?_
          refine g_getr (n := 80) (ci := 12) (j := 0) (b := 125) rfl (by decide +kernel) (by decide) (by decide) (by decide +kernel) ?_
          refine g_iconst (n := 81) (v := 3) rfl rfl ?_
          refine g_aload_n (n := 82) rfl rfl ?_
          refine g_getr (n := 85) (ci := 12) (j := 0) (b := 125) rfl (by decide +kernel) (by decide) (by decide) (by decide +kernel) ?_
          refine g_iconst (n := 86) (v := 3) rfl rfl ?_
          refine g_iald (n := 87) (3) rfl (by decide) rfl (by show _ < 286; omega) ?_
          try simp only [mR_125, mR_up]
          refine g_iconst (n := 88) (v := 1) rfl rfl ?_
          refine g_iadd (n := 89) rfl ?_
          refine g_iconst (n := 90) (v := 0) rfl rfl ?_
          refine g_sipush (n := 93) (v := 9999) rfl rfl ?_
          refine g_cs3 (n := 96) (t := 142) (x := (1208, 1209, 84)) rfl (by decide +kernel) (by decide +kernel) (by rfl) c_heldF (by omega) (g_E ?_)
          try simp only [mR_125, mR_up]
          refine g_iast (n := 97) (3) rfl (by decide) rfl (by show _ < 286; omega) ?_
          try simp only [mR_125, mR_up]
          refine g_vret (n := 98) rfl ?_
          refine ⟨rfl, ?_, rfl⟩; unfold fMeets; rw [if_neg hc, if_neg hb]; exact mE_mR (hJ1.trans hJ2)
        ·
          have hb := h5
          refine g_aload_n (n := 40) rfl rfl ?_
          refine g_getr (n := 43) (ci := 12) (j := 0) (b := 125) rfl (by decide +kernel) (by decide) (by decide) (by decide +kernel) ?_
          refine g_iconst (n := 44) (v := 5) rfl rfl ?_
          refine g_dup2 (n := 45) rfl ?_
          refine g_iald (n := 46) (5) rfl (by decide) rfl (by show _ < 286; omega) ?_
          try simp only [mR_125, mR_up]
          refine g_iconst (n := 47) (v := 1) rfl rfl ?_
          refine g_iload_n (n := 48) rfl rfl ?_
          refine g_ishl (n := 49) rfl ?_
          refine g_ior (n := 50) rfl ?_
          refine g_iast (n := 51) (5) rfl (by decide) rfl (by show _ < 286; omega) ?_
          try simp only [mR_125, mR_up]
          refine g_vret (n := 52) rfl ?_
          refine ⟨rfl, ?_, rfl⟩; unfold fMeets; rw [if_neg hc, if_pos hb]; exact mE_mR (hJ1.trans hJ2)
      ·
        have hv : fMeets d0 g h = d0 := if_pos (Or.inr ⟨h2, fN_nle rfl (by omega) (by omega) h4⟩)
        refine g_vret (n := 31) rfl ?_
        rw [hv]; exact ⟨rfl, mE_mR (hJ1.trans hJ2), rfl⟩
theorem fO_up {d : Nat → Int32} {g w j : Nat} {v : Int32} (h : 34 + 10 * g + w ≠ j) : fO (up d j v) g w = fO d g w := if_neg h
theorem up_ne {d : Nat → Int32} {k j : Nat} {v : Int32} (h : k ≠ j) : up d j v k = d k := if_neg h
theorem up_at {d : Nat → Int32} {j : Nat} {v : Int32} : up d j v j = v := if_pos rfl
def fC1 (d : Nat → Int32) (g y : Nat) : Nat → Int32 := up (up d (34 + 10 * g + 6) (nI y)) (34 + 10 * g + 7) (fPace (fO d g 0) (fO d g 1) - 1)
def fC2 (d : Nat → Int32) (g y : Nat) : Nat → Int32 := up (fC1 d g y) (34 + 10 * g + 8) 0
def fComes (d : Nat → Int32) (g y : Nat) : Nat → Int32 := if 1 < fC1 d g y (10 + y) then up (fC2 d g y) 2 (fHeld (fC2 d g y 2 + fText (fC2 d g y) 1 (fLoad (fO (fC2 d g y) g 0) (fO (fC2 d g y) g 1)) (fBefore (fC2 d g y) y) (fC2 d g y 1)) (-99999) 99999) else fC1 d g y
theorem fC2_fO {d : Nat → Int32} {g y w : Nat} (h : w < 6) : fO (fC2 d g y) g w = fO d g w := by
  unfold fC2 fC1
  rw [fO_up (by omega), fO_up (by omega), fO_up (by omega)]
theorem fC2_hi {d : Nat → Int32} {g y k : Nat} (hg : g < 8) (h : 114 ≤ k) : fC2 d g y k = d k := by
  unfold fC2 fC1
  rw [up_ne (by omega), up_ne (by omega), up_ne (by omega)]
theorem c_comes {sc : List Value} {nm : Nat} {I : mg_I} {d0 : Nat → Int32} {g y : Nat} (hg : g < 8) (hy : y < 24) (hk : fK (fO d0 g 0)) (hs : iR (d0 115) 51) : SP sc 43 187 [.ref 124, .int (nI g), .int (nI y)] (mR I d0) nm (qN (mR I (fComes d0 g y)) nm) := by
  refine SP.of (h := 42) (t := 187) (q := (yX12_comes, cX12_comes, 3, none, 12, 1345, mi_k187)) rfl (by decide) (show ¬ (3 : Nat) < 3 by decide) (fun d hd => ?_)
  show GG sc 12 false false mi_k187 d 0 [.ref 124, .int (nI g), .int (nI y)] [] (mR I d0) nm (qN (mR I (fComes d0 g y)) nm)
  refine g_aload_n (n := 1) rfl rfl ?_
  refine g_iload_n (n := 2) rfl rfl ?_
  refine g_bipush (n := 4) (v := 6) rfl rfl ?_
  refine g_iload_n (n := 5) rfl rfl ?_
  refine g_cv3 (n := 8) (t := 146) (ci := 12) rfl (by decide +kernel) (by decide +kernel) (by decide) (by decide) (by decide +kernel) (by rfl) (c_sets (g := g) (w := 6) (by omega) (by omega)) (by omega) (g_Z ?_)
  try simp only [mR_125, mR_up]
  refine g_aload_n (n := 9) rfl rfl ?_
  refine g_iload_n (n := 10) rfl rfl ?_
  refine g_bipush (n := 12) (v := 7) rfl rfl ?_
  refine g_aload_n (n := 13) rfl rfl ?_
  refine g_iload_n (n := 14) rfl rfl ?_
  refine g_cv1 (n := 17) (t := 170) (ci := 12) rfl (by decide +kernel) (by decide +kernel) (by decide) (by decide) (by decide +kernel) (by rfl) (c_paceOf (g := g) (by omega) (by rw [mR_125, fO_up (by omega)]; exact hk)) (by omega) (g_E ?_)
  refine g_top (w := fPace (fO d0 g 0) (fO d0 g 1)) (by rw [mR_125, fO_up (by omega), fO_up (by omega)]) ?_
  refine g_iconst (n := 18) (v := 1) rfl rfl ?_
  refine g_isub (n := 19) rfl ?_
  refine g_cv3 (n := 22) (t := 146) (ci := 12) rfl (by decide +kernel) (by decide +kernel) (by decide) (by decide) (by decide +kernel) (by rfl) (c_sets (g := g) (w := 7) (by omega) (by omega)) (by omega) (g_Z ?_)
  try simp only [mR_125, mR_up]
  rw [show up (up d0 (34 + 10 * g + 6) (nI y)) (34 + 10 * g + 7) (fPace (fO d0 g 0) (fO d0 g 1) - 1) = fC1 d0 g y from rfl]
  refine g_aload_n (n := 23) rfl rfl ?_
  refine g_iload_n (n := 24) rfl rfl ?_
  refine g_cv1 (n := 27) (t := 164) (ci := 12) rfl (by decide +kernel) (by decide +kernel) (by decide) (by decide) (by decide +kernel) (by rfl) (c_isLedge (y := y) (by omega)) (by omega) (g_E ?_)
  try simp only [mR_125, mR_up]
  refine g_split (fun h1 => ?_) (fun h1 => ?_)
  ·
    refine g_ifeq1 (n := 30) 79 rfl (by decide) ?_
    have hb := h1
    refine g_aload_n (n := 31) rfl rfl ?_
    refine g_iload_n (n := 32) rfl rfl ?_
    refine g_bipush (n := 34) (v := 8) rfl rfl ?_
    refine g_iconst (n := 35) (v := 0) rfl rfl ?_
    refine g_cv3 (n := 38) (t := 146) (ci := 12) rfl (by decide +kernel) (by decide +kernel) (by decide) (by decide) (by decide +kernel) (by rfl) (c_sets (g := g) (w := 8) (by omega) (by omega)) (by omega) (g_Z ?_)
    try simp only [mR_125, mR_up]
    rw [show up (fC1 d0 g y) (34 + 10 * g + 8) 0 = fC2 d0 g y from rfl]
    refine g_aload_n (n := 39) rfl rfl ?_
    refine g_getr (n := 42) (ci := 12) (j := 0) (b := 125) rfl (by decide +kernel) (by decide) (by decide) (by decide +kernel) ?_
    refine g_iconst (n := 43) (v := 2) rfl rfl ?_
    refine g_aload_n (n := 44) rfl rfl ?_
    refine g_getr (n := 47) (ci := 12) (j := 0) (b := 125) rfl (by decide +kernel) (by decide) (by decide) (by decide +kernel) ?_
    refine g_iconst (n := 48) (v := 2) rfl rfl ?_
    refine g_iald (n := 49) (2) rfl (by decide) rfl (by show _ < 286; omega) ?_
    try simp only [mR_125, mR_up]
    refine g_aload_n (n := 50) rfl rfl ?_
    refine g_iconst (n := 51) (v := 1) rfl rfl ?_
    refine g_aload_n (n := 52) rfl rfl ?_
    refine g_iload_n (n := 53) rfl rfl ?_
    refine g_cv1 (n := 56) (t := 171) (ci := 12) rfl (by decide +kernel) (by decide +kernel) (by decide) (by decide) (by decide +kernel) (by rfl) (c_loadOf (g := g) (by omega) (by rw [mR_125, fC2_fO (by omega)]; exact hk)) (by omega) (g_E ?_)
    try simp only [mR_125, mR_up]
    refine g_aload_n (n := 57) rfl rfl ?_
    refine g_iload_n (n := 58) rfl rfl ?_
    refine g_cv1 (n := 61) (t := 166) (ci := 12) rfl (by decide +kernel) (by decide +kernel) (by decide) (by decide) (by decide +kernel) (by rfl) (c_ledgesBefore (y := y) (by omega)) (by omega) (g_E ?_)
    try simp only [mR_125, mR_up]
    refine g_aload_n (n := 62) rfl rfl ?_
    refine g_getr (n := 65) (ci := 12) (j := 0) (b := 125) rfl (by decide +kernel) (by decide) (by decide) (by decide +kernel) ?_
    refine g_iconst (n := 66) (v := 1) rfl rfl ?_
    refine g_iald (n := 67) (1) rfl (by decide) rfl (by show _ < 286; omega) ?_
    try simp only [mR_125, mR_up]
    refine g_cv4 (n := 70) (t := 162) (ci := 12) rfl (by decide +kernel) (by decide +kernel) (by decide) (by decide) (by decide +kernel) (by rfl) (c_textGives (use := 1) (by omega) (by rw [mR_125, fC2_hi hg (by omega)]; exact hs)) (by omega) (g_M fun I1 he => ?_)
    obtain ⟨J1, rfl, hJ1⟩ := mR_mE he
    clear he
    simp only [mR_125]
    refine g_iadd (n := 71) rfl ?_
    refine g_ldc (n := 73) (v := -99999) (pl := 1346) rfl (by decide +kernel) ?_
    refine g_ldc (n := 75) (v := 99999) (pl := 1347) rfl (by decide +kernel) ?_
    refine g_cs3 (n := 78) (t := 142) (x := (1208, 1209, 84)) rfl (by decide +kernel) (by decide +kernel) (by rfl) c_heldF (by omega) (g_E ?_)
    try simp only [mR_125, mR_up]
    refine g_iast (n := 79) (2) rfl (by decide) rfl (by show _ < 286; omega) ?_
    try simp only [mR_125, mR_up]
    refine g_vret (n := 80) rfl ?_
    refine ⟨rfl, ?_, rfl⟩; unfold fComes; rw [if_pos hb]; exact mE_mR hJ1
  ·
    refine g_ifeq0 (n := 30) 79 rfl (by decide) ?_
    have hb := h1
    refine g_vret (n := 80) rfl ?_
    refine ⟨rfl, ?_, rfl⟩; unfold fComes; rw [if_neg hb]; exact mE.rfl'
def fHr (d : Nat → Int32) (g : Nat) : Nat → Int32 → Int32
  | 0, _ => 0
  | m + 1, y => if 0 ≤ y.toInt ∧ y.toInt ≤ 23 then (if 1 < d (10 + y.toNatClampNeg) then 0 else if fAgainst d g y < 0 then fHr d g m (y + fFaces d g) else 1) else 0
def fHeard (d : Nat → Int32) (g : Nat) : Int32 := fHr d g 26 (fO d g 6 + fFaces d g)
theorem fFaces_in {d : Nat → Int32} {g : Nat} : fFaces d g = 1 ∨ fFaces d g = -1 := by
  unfold fFaces
  split
  · exact Or.inl rfl
  · exact Or.inr rfl
def fRem (f : Int32) (y : Int32) (m : Nat) : Prop := 1 ≤ m ∧ (0 ≤ y.toInt → y.toInt ≤ 23 → (f = 1 → 24 - y.toInt + 1 ≤ m) ∧ (f = -1 → y.toInt + 1 + 1 ≤ m))
theorem nI_m1 {k : Nat} : nI (k + 1) + (-1) = nI k := by
  rw [← nI_1]
  apply Int32.toBitVec_inj.mp
  simp [BitVec.add_assoc]
theorem fRem_s {f : Int32} (hf : f = 1 ∨ f = -1) {k m : Nat} (hk : k < 24) (h : fRem f (nI k) (m + 1)) : fRem f (nI k + f) m := by
  have e := nI_toInt (n := k) (by omega)
  have h2 := h.2 (by omega) (by omega)
  rcases hf with rfl | rfl
  · have h3 := h2.1 rfl
    rw [nI_1]
    have e2 := nI_toInt (n := k + 1) (by omega)
    exact ⟨by omega, fun _ _ => ⟨fun _ => by omega, fun z => absurd z (by decide)⟩⟩
  · have h3 := h2.2 rfl
    rcases k with _ | j
    · exact ⟨by omega, fun z _ => absurd z (by decide)⟩
    · rw [nI_m1]
      have e2 := nI_toInt (n := j) (by omega)
      exact ⟨by omega, fun _ _ => ⟨fun z => absurd z (by decide), fun _ => by omega⟩⟩
theorem c_isHeard {sc : List Value} {nm : Nat} {I : mg_I} {d0 : Nat → Int32} {g : Nat} (hg : g < 8) (hN : iR (d0 0) 9) : SP sc 4 185 [.ref 124, .int (nI g)] (mR I d0) nm (qE (fHeard d0 g) (mR I d0) nm) := by
  refine SP.of (h := 3) (t := 185) (q := (yX12_isHeard, cX12_isHeard, 3, (some .boolean), 12, 1333, mi_k185)) rfl (by decide) (show ¬ (3 : Nat) < 2 by decide) (fun d hd => ?_)
  show GG sc 12 false true mi_k185 d 0 [.ref 124, .int (nI g), .null] [] (mR I d0) nm (qE (fHeard d0 g) (mR I d0) nm)
  have hr : fRem (fFaces d0 g) (fO d0 g 6 + fFaces d0 g) 26 := ⟨by omega, fun _ _ => ⟨fun _ => by omega, fun _ => by omega⟩⟩
  have H : ∀ (m : Nat) (y : Int32), fRem (fFaces d0 g) y m → GG sc 12 false true mi_k185 d 14 [.ref 124, .int (nI g), .int y] [] (mR I d0) nm (qE (fHr d0 g m y) (mR I d0) nm) := by
    intro m
    induction m with
    | zero => intro y h; exact absurd h.1 (by omega)
    | succ m ih =>
      intro y hm
      refine g_iload_n (n := 15) rfl rfl ?_
      refine g_cs1 (n := 18) (t := 144) (x := (1219, 1220, 84)) rfl (by decide +kernel) (by decide +kernel) (by rfl) c_isYard (by omega) (g_E ?_)
      try simp only [mR_125, mR_up]
      refine g_split (fun h1 => ?_) (fun h1 => ?_)
      ·
        refine g_ifeq1 (n := 21) 51 rfl (by decide) ?_
        obtain ⟨k, hk, rfl, hkc⟩ := iR_nI (x := y) (n := 24) ⟨h1.1, by omega⟩
        rw [fHr, if_pos h1, hkc]
        refine g_aload_n (n := 22) rfl rfl ?_
        refine g_iload_n (n := 23) rfl rfl ?_
        refine g_cv1 (n := 26) (t := 164) (ci := 12) rfl (by decide +kernel) (by decide +kernel) (by decide) (by decide) (by decide +kernel) (by rfl) (c_isLedge (y := k) (by omega)) (by omega) (g_E ?_)
        try simp only [mR_125, mR_up]
        refine g_split (fun h2 => ?_) (fun h2 => ?_)
        ·
          refine g_ifne1 (n := 29) 51 rfl (by decide) ?_
          rw [if_pos h2]
          refine g_iconst (n := 52) (v := 0) rfl rfl ?_
          refine g_iret (n := 53) rfl (fun _ => by first | exact Or.inl rfl | exact Or.inr rfl | exact bI_01) ?_
          exact ⟨rfl, rfl, rfl⟩
        ·
          refine g_ifne0 (n := 29) 51 rfl (by decide) ?_
          rw [if_neg h2]
          refine g_aload_n (n := 30) rfl rfl ?_
          refine g_iload_n (n := 31) rfl rfl ?_
          refine g_iload_n (n := 32) rfl rfl ?_
          refine g_cv2 (n := 35) (t := 184) (ci := 12) rfl (by decide +kernel) (by decide +kernel) (by decide) (by decide) (by decide +kernel) (by rfl) (c_against (g := g) (by omega) hN) (by omega) (g_E ?_)
          try simp only [mR_125, mR_up]
          refine g_iflt (n := 38) 40 rfl (by decide) (fun h3 => ?_) (fun h3 => ?_)
          ·
            rw [if_pos h3]
            refine g_iload_n (n := 41) rfl rfl ?_
            refine g_aload_n (n := 42) rfl rfl ?_
            refine g_iload_n (n := 43) rfl rfl ?_
            refine g_cv1 (n := 46) (t := 183) (ci := 12) rfl (by decide +kernel) (by decide +kernel) (by decide) (by decide) (by decide +kernel) (by rfl) (c_faces (g := g) (by omega)) (by omega) (g_E ?_)
            try simp only [mR_125, mR_up]
            refine g_iadd (n := 47) rfl ?_
            refine g_istore_n2 (n := 48) rfl rfl ?_
            refine g_goto 14 rfl (by decide) ?_
            exact ih _ (fRem_s fFaces_in hk hm)
          ·
            rw [if_neg h3]
            refine g_iconst (n := 39) (v := 1) rfl rfl ?_
            refine g_iret (n := 40) rfl (fun _ => by first | exact Or.inl rfl | exact Or.inr rfl | exact bI_01) ?_
            exact ⟨rfl, rfl, rfl⟩
      ·
        refine g_ifeq0 (n := 21) 51 rfl (by decide) ?_
        rw [fHr, if_neg h1]
        refine g_iconst (n := 52) (v := 0) rfl rfl ?_
        refine g_iret (n := 53) rfl (fun _ => by first | exact Or.inl rfl | exact Or.inr rfl | exact bI_01) ?_
        exact ⟨rfl, rfl, rfl⟩
  refine g_aload_n (n := 1) rfl rfl ?_
  refine g_iload_n (n := 2) rfl rfl ?_
  refine g_bipush (n := 4) (v := 6) rfl rfl ?_
  refine g_cv2 (n := 7) (t := 145) (ci := 12) rfl (by decide +kernel) (by decide +kernel) (by decide) (by decide) (by decide +kernel) (by rfl) (c_of (g := g) (w := 6) (by omega) (by omega)) (by omega) (g_E ?_)
  try simp only [mR_125, mR_up]
  refine g_aload_n (n := 8) rfl rfl ?_
  refine g_iload_n (n := 9) rfl rfl ?_
  refine g_cv1 (n := 12) (t := 183) (ci := 12) rfl (by decide +kernel) (by decide +kernel) (by decide) (by decide) (by decide +kernel) (by rfl) (c_faces (g := g) (by omega)) (by omega) (g_E ?_)
  try simp only [mR_125, mR_up]
  refine g_iadd (n := 13) rfl ?_
  refine g_istore_n2 (n := 14) rfl rfl ?_
  exact H 26 _ hr
