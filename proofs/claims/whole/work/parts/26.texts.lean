/-! whole texts, and what they give -/
/-- the same but for what reading a text leaves behind -/
def mE (I I' : mg_I) : Prop := ∀ a j, ¬ (a = 129 ∨ (a = 124 ∧ 5 ≤ j ∧ j ≤ 10)) → I' a j = I a j
theorem mE.rfl' {I : mg_I} : mE I I := fun _ _ _ => rfl
theorem mE.trans {I J K : mg_I} (h : mE I J) (h2 : mE J K) : mE I K := fun a j x => (h2 a j x).trans (h a j x)
theorem mE.up {I J : mg_I} (h : mE I J) {a j : Nat} {v : Int32} : mE (mf_up I a j v) (mf_up J a j v) := by
  intro x k hx
  unfold mf_up
  split
  · rfl
  · exact h x k hx
theorem mE.row {I I' : mg_I} (h : mE I I') {a : Nat} (h1 : a ≠ 129) (h2 : a ≠ 124) : I' a = I a := by
  funext j
  exact h a j (fun z => z.elim h1 (fun y => h2 y.1))
theorem pU_names {b : Nat → Int32} {n : Nat} {t : Int32} {n1 n2 : Nat → Int32} (h : ∀ j, j < 3 → n1 j = n2 j) : ∀ k, pU b n t n1 k = pU b n t n2 k := by
  have ha : pAtom b n t n1 = pAtom b n t n2 := by
    funext s
    unfold pAtom
    by_cases hk : pName t (pHere b n s) < 0
    · rw [if_pos hk, if_pos hk]
    · rw [if_neg hk, if_neg hk, h _ (pName_ix hk).2]
  intro k
  induction k with
  | zero => funext s; unfold pU; rw [ha]
  | succ k ih => funext s; unfold pU; rw [ha, ih]
def fW (b : Nat → Int32) (n : Nat) (t : Int32) (nm3 : Nat → Int32) : Int32 × Int32 :=
  if (pOr b n (pU b n t nm3 5) (0, -1)).2.2 < 0 ∧ (pOr b n (pU b n t nm3 5) (0, -1)).2.1 < n then (0, nI (pOr b n (pU b n t nm3 5) (0, -1)).2.1) else ((pOr b n (pU b n t nm3 5) (0, -1)).1, (pOr b n (pU b n t nm3 5) (0, -1)).2.2)
def mW (I : mg_I) (base n : Nat) (t : Int32) : mg_I := mf_up (mf_up (mf_up I 124 5 (nI base)) 124 7 (nI n)) 124 10 t
theorem mW_eq {I : mg_I} {base n : Nat} {t : Int32} : mf_up (mf_up (mf_up (mf_up (mf_up (mf_up I 124 5 (nI base)) 124 6 0) 124 7 (nI n)) 124 8 (-1)) 124 9 0) 124 10 t = pW (mW I base n t) (nI 0) (-1) 0 := by
  funext x j
  unfold pW mW mf_up
  by_cases hx : x = 124
  · subst hx
    by_cases h6 : j = 6
    · subst h6; rfl
    · by_cases h8 : j = 8
      · subst h8; rfl
      · by_cases h9 : j = 9
        · subst h9; rfl
        · simp [h6, h8, h9]
  · simp [hx]
theorem pW_mE {I : mg_I} {base n : Nat} {t a f o : Int32} : mE I (pW (mW I base n t) a f o) := by
  intro x j h
  unfold pW mW mf_up
  by_cases hx : x = 124
  · subst hx
    have h6 : ¬ (5 ≤ j ∧ j ≤ 10) := fun z => h (Or.inr ⟨rfl, z⟩)
    rw [if_pos rfl, if_neg (by omega), if_neg (by omega), if_neg (by omega), if_neg (by omega), if_neg (by omega), if_neg (by omega)]
  · rw [if_neg hx, if_neg (fun z => hx z.1), if_neg (fun z => hx z.1), if_neg (fun z => hx z.1)]
def qW (v : Int32 × Int32) (I : mg_I) (nm : Nat) : Option Value → mg_I → Nat → Prop := fun r I' nm' => r = some (.int v.1) ∧ I' 124 8 = v.2 ∧ mE I I' ∧ nm' = nm
theorem c_worked {sc : List Value} {nm : Nat} {I : mg_I} {base n use : Nat} (hn : n ≤ 50) (hb : base + n ≤ 286) (hu : use < 2) : SP sc 40 159 [.ref 124, .int (nI base), .int (nI n), .int (nI use)] I nm (qW (fW (pb I base) n (nI use) (I 129)) I nm) := by
  refine SP.of (h := 39) (t := 159) (q := (yX12_worked, cX12_worked, 5, (some .int), 12, 1157, mi_k159)) rfl (by decide) (show ¬ (5 : Nat) < 4 by decide) (fun d hd => ?_)
  show GG sc 12 false false mi_k159 d 0 [.ref 124, .int (nI base), .int (nI n), .int (nI use), .null] [] I nm (qW (fW (pb I base) n (nI use) (I 129)) I nm)
  have hX : ∀ x4 : Value, GG sc 12 false false mi_k159 d 39 [.ref 124, .int (nI base), .int (nI n), .int (nI use), x4] [] (pW (mW I base n (nI use)) (nI 0) (-1) 0) nm (qW (fW (pb I base) n (nI use) (I 129)) I nm) := by
    intro x4
    have hp : pH (mW I base n (nI use)) base n := ⟨rfl, rfl, hn, hb⟩
    have hgu := pU_go (b := pb I base) (n := n) (t := nI use) (nm3 := I 129) 5
    have hg1 := pOr_go (b := pb I base) hgu (0, -1) (Nat.zero_le _)
    have hu1 : SP sc 38 153 [.ref 124] (pW (mW I base n (nI use)) (nI 0) (-1) 0) nm (qP (mW I base n (nI use)) nm (nI (5 - 5)) (pOr (pb I base) n (pU (pb I base) n (nI use) (I 129) 5) (0, -1))) := c_pOr (base := base) (h := 30) hp (c_unit (base := base) hp 5 (Nat.le_refl _)) hgu (0, -1) 0 (Nat.zero_le _) (fun _ => rfl)
    unfold fW
    generalize pOr (pb I base) n (pU (pb I base) n (nI use) (I 129) 5) (0, -1) = r at hg1 hu1 ⊢
    have hg2 : r.2.1 ≤ n := hg1.2.1
    refine g_aload_n (n := 40) rfl rfl ?_
    refine g_cv0 (n := 43) (t := 153) (ci := 12) rfl (by decide +kernel) (by decide +kernel) (by decide) (by decide) (by decide +kernel) (by rfl) hu1 (by omega) (g_P fun o1 ho1 => ?_)
    refine g_istore4 (n := 45) rfl rfl ?_
    refine g_aload_n (n := 46) rfl rfl ?_
    refine g_getv (n := 49) (ci := 12) (j := 8) (v := r.2.2) rfl rfl (by decide +kernel) rfl (by decide) (by decide) ?_
    refine g_ifge (n := 52) 68 rfl (by decide) (fun h1 => ?_) (fun h1 => ?_)
    ·
      refine g_iload (n := 70) rfl rfl ?_
      refine g_iret (n := 71) rfl (fun h => nomatch h) ?_
      first | exact ⟨congrArg (fun z => some (Value.int z)) (by rw [if_neg (fun z => absurd z.1 (Int32.not_lt.mpr h1))]), by rw [if_neg (fun z => absurd z.1 (Int32.not_lt.mpr h1))]; rfl, pW_mE, rfl⟩ | exact ⟨congrArg (fun z => some (Value.int z)) (by rw [if_neg (fun z => absurd z.2 (Nat.not_lt.mpr (fN_le rfl (by omega) (by omega) h2)))]), by rw [if_neg (fun z => absurd z.2 (Nat.not_lt.mpr (fN_le rfl (by omega) (by omega) h2)))]; rfl, pW_mE, rfl⟩
    ·
      refine g_aload_n (n := 53) rfl rfl ?_
      refine g_getv (n := 56) (ci := 12) (j := 6) (v := nI r.2.1) rfl rfl (by decide +kernel) rfl (by decide) (by decide) ?_
      refine g_aload_n (n := 57) rfl rfl ?_
      refine g_getv (n := 60) (ci := 12) (j := 7) (v := nI n) hp.2.1 rfl (by decide +kernel) rfl (by decide) (by decide) ?_
      refine g_icge (n := 63) 68 rfl (by decide) (fun h2 => ?_) (fun h2 => ?_)
      ·
        refine g_iload (n := 70) rfl rfl ?_
        refine g_iret (n := 71) rfl (fun h => nomatch h) ?_
        first | exact ⟨congrArg (fun z => some (Value.int z)) (by rw [if_neg (fun z => absurd z.1 (Int32.not_lt.mpr h1))]), by rw [if_neg (fun z => absurd z.1 (Int32.not_lt.mpr h1))]; rfl, pW_mE, rfl⟩ | exact ⟨congrArg (fun z => some (Value.int z)) (by rw [if_neg (fun z => absurd z.2 (Nat.not_lt.mpr (fN_le rfl (by omega) (by omega) h2)))]), by rw [if_neg (fun z => absurd z.2 (Nat.not_lt.mpr (fN_le rfl (by omega) (by omega) h2)))]; rfl, pW_mE, rfl⟩
      ·
        refine g_aload_n (n := 64) rfl rfl ?_
        refine g_cv0 (n := 67) (t := 150) (ci := 12) rfl (by decide +kernel) (by decide +kernel) (by decide) (by decide) (by decide +kernel) (by rfl) (c_wrong hp (by omega)) (by omega) (g_E ?_)
        refine g_iret (n := 68) rfl (fun h => nomatch h) ?_
        exact ⟨congrArg (fun z => some (Value.int z)) (by rw [if_pos ⟨Int32.not_le.mp h1, fN_nle rfl (by omega) (by omega) h2⟩]), by rw [if_pos ⟨Int32.not_le.mp h1, fN_nle rfl (by omega) (by omega) h2⟩]; exact if_pos (Int32.not_le.mp h1), pW_mE, rfl⟩
  rcases (show use = 0 ∨ use = 1 by omega) with rfl | rfl
  ·
    refine g_aload_n (n := 1) rfl rfl ?_
    refine g_iload_n (n := 2) rfl rfl ?_
    refine g_puti (n := 5) (ci := 12) (j := 5) rfl (by decide +kernel) rfl (by decide) (by decide) (by decide +kernel) rfl ?_
    refine g_aload_n (n := 6) rfl rfl ?_
    refine g_iconst (n := 7) (v := 0) rfl rfl ?_
    refine g_puti (n := 10) (ci := 12) (j := 6) rfl (by decide +kernel) rfl (by decide) (by decide) (by decide +kernel) rfl ?_
    refine g_aload_n (n := 11) rfl rfl ?_
    refine g_iload_n (n := 12) rfl rfl ?_
    refine g_puti (n := 15) (ci := 12) (j := 7) rfl (by decide +kernel) rfl (by decide) (by decide) (by decide +kernel) rfl ?_
    refine g_aload_n (n := 16) rfl rfl ?_
    refine g_iconst (n := 17) (v := -1) rfl rfl ?_
    refine g_puti (n := 20) (ci := 12) (j := 8) rfl (by decide +kernel) rfl (by decide) (by decide) (by decide +kernel) rfl ?_
    refine g_aload_n (n := 21) rfl rfl ?_
    refine g_iconst (n := 22) (v := 0) rfl rfl ?_
    refine g_puti (n := 25) (ci := 12) (j := 9) rfl (by decide +kernel) rfl (by decide) (by decide) (by decide +kernel) rfl ?_
    refine g_aload_n (n := 26) rfl rfl ?_
    refine g_iload_n (n := 27) rfl rfl ?_
    refine g_iconst (n := 28) (v := 1) rfl rfl ?_
    refine g_icne (n := 31) 35 rfl (by decide) (fun h1 => ?_) (fun h1 => ?_)
    ·
      refine g_iconst (n := 36) (v := 0) rfl rfl ?_
      refine g_puti (n := 39) (ci := 12) (j := 10) rfl (by decide +kernel) rfl (by decide) (by decide) (by decide +kernel) (by first | rfl | exact bI_fit) ?_
      refine (?_ : _)
      have hh := hX .null
      rw [← mW_eq] at hh
      exact hh
    ·
      exact absurd h1 (by decide)
  ·
    refine g_aload_n (n := 1) rfl rfl ?_
    refine g_iload_n (n := 2) rfl rfl ?_
    refine g_puti (n := 5) (ci := 12) (j := 5) rfl (by decide +kernel) rfl (by decide) (by decide) (by decide +kernel) rfl ?_
    refine g_aload_n (n := 6) rfl rfl ?_
    refine g_iconst (n := 7) (v := 0) rfl rfl ?_
    refine g_puti (n := 10) (ci := 12) (j := 6) rfl (by decide +kernel) rfl (by decide) (by decide) (by decide +kernel) rfl ?_
    refine g_aload_n (n := 11) rfl rfl ?_
    refine g_iload_n (n := 12) rfl rfl ?_
    refine g_puti (n := 15) (ci := 12) (j := 7) rfl (by decide +kernel) rfl (by decide) (by decide) (by decide +kernel) rfl ?_
    refine g_aload_n (n := 16) rfl rfl ?_
    refine g_iconst (n := 17) (v := -1) rfl rfl ?_
    refine g_puti (n := 20) (ci := 12) (j := 8) rfl (by decide +kernel) rfl (by decide) (by decide) (by decide +kernel) rfl ?_
    refine g_aload_n (n := 21) rfl rfl ?_
    refine g_iconst (n := 22) (v := 0) rfl rfl ?_
    refine g_puti (n := 25) (ci := 12) (j := 9) rfl (by decide +kernel) rfl (by decide) (by decide) (by decide +kernel) rfl ?_
    refine g_aload_n (n := 26) rfl rfl ?_
    refine g_iload_n (n := 27) rfl rfl ?_
    refine g_iconst (n := 28) (v := 1) rfl rfl ?_
    refine g_icne (n := 31) 35 rfl (by decide) (fun h1 => ?_) (fun h1 => ?_)
    ·
      exact absurd h1 (by decide)
    ·
      refine g_iconst (n := 32) (v := 1) rfl rfl ?_
      refine g_goto 36 rfl (by decide) ?_
      refine g_puti (n := 39) (ci := 12) (j := 10) rfl (by decide +kernel) rfl (by decide) (by decide) (by decide +kernel) (by first | rfl | exact bI_fit) ?_
      refine (?_ : _)
      have hh := hX .null
      rw [← mW_eq] at hh
      exact hh
def n3 (a b c : Int32) : Nat → Int32 := fun j => if j = 0 then a else if j = 1 then b else c
def fGive (d : Nat → Int32) (use : Nat) (a b c : Int32) : Int32 := if 0 < d (114 + use) then (fW (fun i => d (136 + 50 * use + i)) (d (114 + use)).toNatClampNeg (nI use) (n3 a b c)).1 else a
def fHeld (x lo hi : Int32) : Int32 := if x < lo then lo else if hi < x then hi else x
def fText (d : Nat → Int32) (use : Nat) (a b c : Int32) : Int32 := if use = 0 then fGive d use a b c else fHeld (fGive d use a b c) (-99) 99
def qM (v : Int32) (I : mg_I) (nm : Nat) : Option Value → mg_I → Nat → Prop := fun r I' nm' => r = some (.int v) ∧ mE I I' ∧ nm' = nm
theorem fW_names {b : Nat → Int32} {n : Nat} {t : Int32} {n1 n2 : Nat → Int32} (h : ∀ j, j < 3 → n1 j = n2 j) : fW b n t n1 = fW b n t n2 := by
  unfold fW
  rw [pU_names h]
theorem g_W {sc : List Value} {own : Nat} {ini rz : Bool} {code : List (Nat × Instr)} {d n : Nat} {ls : List Value} {I : mg_I} {nm0 : Nat} {Q : Option Value → mg_I → Nat → Prop} {r : List Value} {v : Int32 × Int32} (k : ∀ I', I' 124 8 = v.2 → mE I I' → GG sc own ini rz code d n ls (.int v.1 :: r) I' nm0 Q) : ∀ a I2 nm2, qW v I nm0 a I2 nm2 → GG sc own ini rz code d n ls (a.toList ++ r) I2 nm2 Q := by
  rintro a I2 nm2 ⟨rfl, h1, h2, rfl⟩
  exact k I2 h1 h2
theorem g_M {sc : List Value} {own : Nat} {ini rz : Bool} {code : List (Nat × Instr)} {d n : Nat} {ls : List Value} {I : mg_I} {nm0 : Nat} {Q : Option Value → mg_I → Nat → Prop} {r : List Value} {v : Int32} (k : ∀ I', mE I I' → GG sc own ini rz code d n ls (.int v :: r) I' nm0 Q) : ∀ a I2 nm2, qM v I nm0 a I2 nm2 → GG sc own ini rz code d n ls (a.toList ++ r) I2 nm2 Q := by
  rintro a I2 nm2 ⟨rfl, h2, rfl⟩
  exact k I2 h2
theorem mE_names {I : mg_I} {a b c : Int32} : mE I (mf_up (mf_up (mf_up I 129 0 a) 129 1 b) 129 2 c) := by
  intro x j h
  have hx : ¬ x = 129 := fun z => h (Or.inl z)
  unfold mf_up
  rw [if_neg (fun z => hx z.1), if_neg (fun z => hx z.1), if_neg (fun z => hx z.1)]
theorem n3_eq {I : mg_I} {a b c : Int32} : ∀ j, j < 3 → (mf_up (mf_up (mf_up I 129 0 a) 129 1 b) 129 2 c) 129 j = n3 a b c j := by
  intro j hj
  rcases (show j = 0 ∨ j = 1 ∨ j = 2 by omega) with rfl | rfl | rfl <;> rfl
theorem c_heldF {sc : List Value} {nm : Nat} {I : mg_I} {x lo hi : Int32} : SP sc 1 142 [.int x, .int lo, .int hi] I nm (qE (fHeld x lo hi) I nm) := c_held
theorem c_textGives {sc : List Value} {nm : Nat} {I : mg_I} {use : Nat} {a b c : Int32} (hu : use < 2) (hs : iR (I 125 (114 + use)) 51) : SP sc 41 162 [.ref 124, .int (nI use), .int a, .int b, .int c] I nm (qM (fText (I 125) use a b c) I nm) := by
  obtain ⟨m, hm, hm2, hm3⟩ := iR_nI hs
  rcases (show use = 0 ∨ use = 1 by omega) with rfl | rfl
  · refine SP.of (h := 40) (t := 162) (q := (yX12_textGives, cX12_textGives, 6, (some .int), 12, 1207, mi_k162)) rfl (by decide) (show ¬ (6 : Nat) < 5 by decide) (fun d hd => ?_)
    show GG sc 12 false false mi_k162 d 0 [.ref 124, .int (nI 0), .int a, .int b, .int c, .null] [] I nm (qM (fText (I 125) 0 a b c) I nm)
    refine g_iload_n (n := 1) rfl rfl ?_
    refine g_istore5 (n := 3) rfl rfl ?_
    refine g_aload_n (n := 4) rfl rfl ?_
    refine g_getr (n := 7) (ci := 12) (j := 0) (b := 125) rfl (by decide +kernel) (by decide) (by decide) (by decide +kernel) ?_
    refine g_bipush (n := 9) (v := 114) rfl rfl ?_
    refine g_iload_n (n := 10) rfl rfl ?_
    refine g_iaddN (n := 11) (x := 114) (y := 0) rfl ?_
    refine g_iald (n := 12) ((114 + 0)) rfl (by decide) rfl (by show _ < 286; omega) ?_
    refine g_ifle (n := 15) 61 rfl (by decide) (fun h1 => ?_) (fun h1 => ?_)
    ·
      have hv : fGive (I 125) 0 a b c = a := if_neg (Int32.not_lt.mpr h1)
      refine g_iload_n (n := 62) rfl rfl ?_
      refine g_ifne0 (n := 65) 70 rfl (by decide) ?_
      refine g_iload (n := 67) rfl rfl ?_
      refine g_goto 79 rfl (by decide) ?_
      refine g_iret (n := 80) rfl (fun h => nomatch h) ?_
      exact ⟨congrArg (fun z => some (Value.int z)) (by unfold fText; rw [if_pos rfl, hv] <;> rfl), (by first | exact mE.rfl' | exact mE_names.trans he), rfl⟩
    ·
      have hv : fGive (I 125) 0 a b c = (fW (fun i => I 125 (136 + 50 * 0 + i)) m (nI 0) (n3 a b c)).1 := by unfold fGive; rw [if_pos (Int32.not_le.mp h1), hm2, nI_clamp (by omega)]
      refine g_aload_n (n := 16) rfl rfl ?_
      refine g_getr (n := 19) (ci := 12) (j := 11) (b := 129) rfl (by decide +kernel) (by decide) (by decide) (by decide +kernel) ?_
      refine g_iconst (n := 20) (v := 0) rfl rfl ?_
      refine g_iload_n (n := 21) rfl rfl ?_
      refine g_iast (n := 22) (0) rfl (by decide) rfl (by show _ < 3; omega) ?_
      refine g_aload_n (n := 23) rfl rfl ?_
      refine g_getr (n := 26) (ci := 12) (j := 11) (b := 129) rfl (by decide +kernel) (by decide) (by decide) (by decide +kernel) ?_
      refine g_iconst (n := 27) (v := 1) rfl rfl ?_
      refine g_iload_n (n := 28) rfl rfl ?_
      refine g_iast (n := 29) (1) rfl (by decide) rfl (by show _ < 3; omega) ?_
      refine g_aload_n (n := 30) rfl rfl ?_
      refine g_getr (n := 33) (ci := 12) (j := 11) (b := 129) rfl (by decide +kernel) (by decide) (by decide) (by decide +kernel) ?_
      refine g_iconst (n := 34) (v := 2) rfl rfl ?_
      refine g_iload (n := 36) rfl rfl ?_
      refine g_iast (n := 37) (2) rfl (by decide) rfl (by show _ < 3; omega) ?_
      refine g_aload_n (n := 38) rfl rfl ?_
      refine g_sipush (n := 41) (v := 136) rfl rfl ?_
      refine g_bipush (n := 43) (v := 50) rfl rfl ?_
      refine g_iload_n (n := 44) rfl rfl ?_
      refine g_imulN (n := 45) (x := 50) (y := 0) rfl ?_
      refine g_iaddN (n := 46) (x := 136) (y := (50 * 0)) rfl ?_
      refine g_aload_n (n := 47) rfl rfl ?_
      refine g_getr (n := 50) (ci := 12) (j := 0) (b := 125) rfl (by decide +kernel) (by decide) (by decide) (by decide +kernel) ?_
      refine g_bipush (n := 52) (v := 114) rfl rfl ?_
      refine g_iload_n (n := 53) rfl rfl ?_
      refine g_iaddN (n := 54) (x := 114) (y := 0) rfl ?_
      refine g_iald (n := 55) ((114 + 0)) rfl (by decide) rfl (by show _ < 286; omega) ?_
      refine g_top (w := nI m) hm2 ?_
      refine g_iload_n (n := 56) rfl rfl ?_
      refine g_cv3 (n := 59) (t := 159) (ci := 12) rfl (by decide +kernel) (by decide +kernel) (by decide) (by decide) (by decide +kernel) (by rfl) (c_worked (base := 136 + 50 * 0) (n := m) (use := 0) (by omega) (by omega) (by omega)) (by omega) (g_W fun I1 _ he => ?_)
      rw [fW_names n3_eq]
      refine g_istore5 (n := 61) rfl rfl ?_
      refine g_iload_n (n := 62) rfl rfl ?_
      refine g_ifne0 (n := 65) 70 rfl (by decide) ?_
      refine g_iload (n := 67) rfl rfl ?_
      refine g_goto 79 rfl (by decide) ?_
      refine g_iret (n := 80) rfl (fun h => nomatch h) ?_
      exact ⟨congrArg (fun z => some (Value.int z)) (by unfold fText; rw [if_pos rfl, hv] <;> rfl), (by first | exact mE.rfl' | exact mE_names.trans he), rfl⟩
  · refine SP.of (h := 40) (t := 162) (q := (yX12_textGives, cX12_textGives, 6, (some .int), 12, 1207, mi_k162)) rfl (by decide) (show ¬ (6 : Nat) < 5 by decide) (fun d hd => ?_)
    show GG sc 12 false false mi_k162 d 0 [.ref 124, .int (nI 1), .int a, .int b, .int c, .null] [] I nm (qM (fText (I 125) 1 a b c) I nm)
    refine g_iload_n (n := 1) rfl rfl ?_
    refine g_istore5 (n := 3) rfl rfl ?_
    refine g_aload_n (n := 4) rfl rfl ?_
    refine g_getr (n := 7) (ci := 12) (j := 0) (b := 125) rfl (by decide +kernel) (by decide) (by decide) (by decide +kernel) ?_
    refine g_bipush (n := 9) (v := 114) rfl rfl ?_
    refine g_iload_n (n := 10) rfl rfl ?_
    refine g_iaddN (n := 11) (x := 114) (y := 1) rfl ?_
    refine g_iald (n := 12) ((114 + 1)) rfl (by decide) rfl (by show _ < 286; omega) ?_
    refine g_ifle (n := 15) 61 rfl (by decide) (fun h1 => ?_) (fun h1 => ?_)
    ·
      have hv : fGive (I 125) 1 a b c = a := if_neg (Int32.not_lt.mpr h1)
      refine g_iload_n (n := 62) rfl rfl ?_
      refine g_ifne1 (n := 65) 70 rfl (by decide) ?_
      refine g_iload (n := 72) rfl rfl ?_
      refine g_bipush (n := 74) (v := -99) rfl rfl ?_
      refine g_bipush (n := 76) (v := 99) rfl rfl ?_
      refine g_cs3 (n := 79) (t := 142) (x := (1208, 1209, 84)) rfl (by decide +kernel) (by decide +kernel) (by rfl) c_heldF (by omega) (g_E ?_)
      refine g_iret (n := 80) rfl (fun h => nomatch h) ?_
      exact ⟨congrArg (fun z => some (Value.int z)) (by unfold fText; rw [if_neg (by decide), hv] <;> rfl), (by first | exact mE.rfl' | exact mE_names.trans he), rfl⟩
    ·
      have hv : fGive (I 125) 1 a b c = (fW (fun i => I 125 (136 + 50 * 1 + i)) m (nI 1) (n3 a b c)).1 := by unfold fGive; rw [if_pos (Int32.not_le.mp h1), hm2, nI_clamp (by omega)]
      refine g_aload_n (n := 16) rfl rfl ?_
      refine g_getr (n := 19) (ci := 12) (j := 11) (b := 129) rfl (by decide +kernel) (by decide) (by decide) (by decide +kernel) ?_
      refine g_iconst (n := 20) (v := 0) rfl rfl ?_
      refine g_iload_n (n := 21) rfl rfl ?_
      refine g_iast (n := 22) (0) rfl (by decide) rfl (by show _ < 3; omega) ?_
      refine g_aload_n (n := 23) rfl rfl ?_
      refine g_getr (n := 26) (ci := 12) (j := 11) (b := 129) rfl (by decide +kernel) (by decide) (by decide) (by decide +kernel) ?_
      refine g_iconst (n := 27) (v := 1) rfl rfl ?_
      refine g_iload_n (n := 28) rfl rfl ?_
      refine g_iast (n := 29) (1) rfl (by decide) rfl (by show _ < 3; omega) ?_
      refine g_aload_n (n := 30) rfl rfl ?_
      refine g_getr (n := 33) (ci := 12) (j := 11) (b := 129) rfl (by decide +kernel) (by decide) (by decide) (by decide +kernel) ?_
      refine g_iconst (n := 34) (v := 2) rfl rfl ?_
      refine g_iload (n := 36) rfl rfl ?_
      refine g_iast (n := 37) (2) rfl (by decide) rfl (by show _ < 3; omega) ?_
      refine g_aload_n (n := 38) rfl rfl ?_
      refine g_sipush (n := 41) (v := 136) rfl rfl ?_
      refine g_bipush (n := 43) (v := 50) rfl rfl ?_
      refine g_iload_n (n := 44) rfl rfl ?_
      refine g_imulN (n := 45) (x := 50) (y := 1) rfl ?_
      refine g_iaddN (n := 46) (x := 136) (y := (50 * 1)) rfl ?_
      refine g_aload_n (n := 47) rfl rfl ?_
      refine g_getr (n := 50) (ci := 12) (j := 0) (b := 125) rfl (by decide +kernel) (by decide) (by decide) (by decide +kernel) ?_
      refine g_bipush (n := 52) (v := 114) rfl rfl ?_
      refine g_iload_n (n := 53) rfl rfl ?_
      refine g_iaddN (n := 54) (x := 114) (y := 1) rfl ?_
      refine g_iald (n := 55) ((114 + 1)) rfl (by decide) rfl (by show _ < 286; omega) ?_
      refine g_top (w := nI m) hm2 ?_
      refine g_iload_n (n := 56) rfl rfl ?_
      refine g_cv3 (n := 59) (t := 159) (ci := 12) rfl (by decide +kernel) (by decide +kernel) (by decide) (by decide) (by decide +kernel) (by rfl) (c_worked (base := 136 + 50 * 1) (n := m) (use := 1) (by omega) (by omega) (by omega)) (by omega) (g_W fun I1 _ he => ?_)
      rw [fW_names n3_eq]
      refine g_istore5 (n := 61) rfl rfl ?_
      refine g_iload_n (n := 62) rfl rfl ?_
      refine g_ifne1 (n := 65) 70 rfl (by decide) ?_
      refine g_iload (n := 72) rfl rfl ?_
      refine g_bipush (n := 74) (v := -99) rfl rfl ?_
      refine g_bipush (n := 76) (v := 99) rfl rfl ?_
      refine g_cs3 (n := 79) (t := 142) (x := (1208, 1209, 84)) rfl (by decide +kernel) (by decide +kernel) (by rfl) c_heldF (by omega) (g_E ?_)
      refine g_iret (n := 80) rfl (fun h => nomatch h) ?_
      exact ⟨congrArg (fun z => some (Value.int z)) (by unfold fText; rw [if_neg (by decide), hv] <;> rfl), (by first | exact mE.rfl' | exact mE_names.trans he), rfl⟩
def fRank (d : Nat → Int32) (g : Nat) : Int32 := fText d 0 (fLoad (fO d g 0) (fO d g 1)) (nI g) (fO d g 9)
theorem c_rankOf {sc : List Value} {nm : Nat}  {I : mg_I} {g : Nat} (hg : g < 8) (hk : fK (fO (I 125) g 0)) (hs : iR (I 125 114) 51) : SP sc 42 174 [.ref 124, .int (nI g)] I nm (qM (fRank (I 125) g) I nm) := by
  refine SP.of (h := 41) (t := 174) (q := (yX12_rankOf, cX12_rankOf, 2, (some .int), 12, 1279, mi_k174)) rfl (by decide) (show ¬ (2 : Nat) < 2 by decide) (fun d hd => ?_)
  show GG sc 12 false false mi_k174 d 0 [.ref 124, .int (nI g)] [] I nm (qM (fRank (I 125) g) I nm)
  refine g_aload_n (n := 1) rfl rfl ?_
  refine g_iconst (n := 2) (v := 0) rfl rfl ?_
  refine g_aload_n (n := 3) rfl rfl ?_
  refine g_iload_n (n := 4) rfl rfl ?_
  refine g_cv1 (n := 7) (t := 171) (ci := 12) rfl (by decide +kernel) (by decide +kernel) (by decide) (by decide) (by decide +kernel) (by rfl) (c_loadOf (g := g) (by omega) hk) (by omega) (g_E ?_)
  refine g_iload_n (n := 8) rfl rfl ?_
  refine g_aload_n (n := 9) rfl rfl ?_
  refine g_iload_n (n := 10) rfl rfl ?_
  refine g_bipush (n := 12) (v := 9) rfl rfl ?_
  refine g_cv2 (n := 15) (t := 145) (ci := 12) rfl (by decide +kernel) (by decide +kernel) (by decide) (by decide) (by decide +kernel) (by rfl) (c_of (g := g) (w := 9) (by omega) (by omega)) (by omega) (g_E ?_)
  refine g_cv4 (n := 18) (t := 162) (ci := 12) rfl (by decide +kernel) (by decide +kernel) (by decide) (by decide) (by decide +kernel) (by rfl) (c_textGives (use := 0) (by omega) hs) (by omega) (g_M fun I1 he => ?_)
  refine g_iret (n := 19) rfl (fun h => nomatch h) ?_
  exact ⟨rfl, he, rfl⟩
