/-! the model AHEAD: what is tried and put back -/
theorem mR_r124 {I : mg_I} {d : Nat → Int32} : mR I d 124 = I 124 := rfl
theorem mR_w124 {I : mg_I} {d : Nat → Int32} {j : Nat} {v : Int32} : mf_up (mR I d) 124 j v = mR (mf_up I 124 j v) d := by
  funext a k
  unfold mf_up mR
  by_cases h1 : a = 124 <;> by_cases h2 : a = 125 <;> simp_all
theorem mR_r126 {I : mg_I} {d : Nat → Int32} : mR I d 126 = I 126 := rfl
theorem mR_w126 {I : mg_I} {d : Nat → Int32} {j : Nat} {v : Int32} : mf_up (mR I d) 126 j v = mR (mf_up I 126 j v) d := by
  funext a k
  unfold mf_up mR
  by_cases h1 : a = 126 <;> by_cases h2 : a = 125 <;> simp_all
theorem mR_r128 {I : mg_I} {d : Nat → Int32} : mR I d 128 = I 128 := rfl
theorem mR_w128 {I : mg_I} {d : Nat → Int32} {j : Nat} {v : Int32} : mf_up (mR I d) 128 j v = mR (mf_up I 128 j v) d := by
  funext a k
  unfold mf_up mR
  by_cases h1 : a = 128 <;> by_cases h2 : a = 125 <;> simp_all
theorem mR_r130 {I : mg_I} {d : Nat → Int32} : mR I d 130 = I 130 := rfl
theorem mR_w130 {I : mg_I} {d : Nat → Int32} {j : Nat} {v : Int32} : mf_up (mR I d) 130 j v = mR (mf_up I 130 j v) d := by
  funext a k
  unfold mf_up mR
  by_cases h1 : a = 130 <;> by_cases h2 : a = 125 <;> simp_all
theorem mR_r131 {I : mg_I} {d : Nat → Int32} : mR I d 131 = I 131 := rfl
theorem mR_w131 {I : mg_I} {d : Nat → Int32} {j : Nat} {v : Int32} : mf_up (mR I d) 131 j v = mR (mf_up I 131 j v) d := by
  funext a k
  unfold mf_up mR
  by_cases h1 : a = 131 <;> by_cases h2 : a = 125 <;> simp_all
theorem mR_r132 {I : mg_I} {d : Nat → Int32} : mR I d 132 = I 132 := rfl
theorem mR_w132 {I : mg_I} {d : Nat → Int32} {j : Nat} {v : Int32} : mf_up (mR I d) 132 j v = mR (mf_up I 132 j v) d := by
  funext a k
  unfold mf_up mR
  by_cases h1 : a = 132 <;> by_cases h2 : a = 125 <;> simp_all
theorem mR_r133 {I : mg_I} {d : Nat → Int32} : mR I d 133 = I 133 := rfl
theorem mR_w133 {I : mg_I} {d : Nat → Int32} {j : Nat} {v : Int32} : mf_up (mR I d) 133 j v = mR (mf_up I 133 j v) d := by
  funext a k
  unfold mf_up mR
  by_cases h1 : a = 133 <;> by_cases h2 : a = 125 <;> simp_all
theorem mR_r134 {I : mg_I} {d : Nat → Int32} : mR I d 134 = I 134 := rfl
theorem mR_w134 {I : mg_I} {d : Nat → Int32} {j : Nat} {v : Int32} : mf_up (mR I d) 134 j v = mR (mf_up I 134 j v) d := by
  funext a k
  unfold mf_up mR
  by_cases h1 : a = 134 <;> by_cases h2 : a = 125 <;> simp_all
theorem mR_r135 {I : mg_I} {d : Nat → Int32} : mR I d 135 = I 135 := rfl
theorem mR_w135 {I : mg_I} {d : Nat → Int32} {j : Nat} {v : Int32} : mf_up (mR I d) 135 j v = mR (mf_up I 135 j v) d := by
  funext a k
  unfold mf_up mR
  by_cases h1 : a = 135 <;> by_cases h2 : a = 125 <;> simp_all
theorem mR_mR {I : mg_I} {d d' : Nat → Int32} : mR (mR I d) d' = mR I d' := by
  funext a j
  unfold mR
  by_cases h : a = 125 <;> simp [h]
/-- alike but for what stays behind of work -/
def mX (I I' : mg_I) : Prop := ∀ a j, ¬ (a = 127 ∨ a = 129 ∨ a = 130 ∨ a = 135 ∨ (a = 124 ∧ ¬ j = 3 ∧ ¬ j = 19)) → I' a j = I a j
def mF (I I' : mg_I) : Prop := ∀ a j, ¬ (a = 127 ∨ a = 129 ∨ (a = 124 ∧ 5 ≤ j ∧ j ≤ 13)) → I' a j = I a j
theorem mX.rfl' {I : mg_I} : mX I I := fun _ _ _ => rfl
theorem mX.trans {I J K : mg_I} (h : mX I J) (h2 : mX J K) : mX I K := fun a j x => (h2 a j x).trans (h a j x)
theorem mF.rfl' {I : mg_I} : mF I I := fun _ _ _ => rfl
theorem mF.trans {I J K : mg_I} (h : mF I J) (h2 : mF J K) : mF I K := fun a j x => (h2 a j x).trans (h a j x)
theorem mF.x {I J : mg_I} (h : mF I J) : mX I J := fun a j x => h a j (by omega)
theorem mE.f {I J : mg_I} (h : mE I J) : mF I J := fun a j x => h a j (by omega)
theorem mE.x {I J : mg_I} (h : mE I J) : mX I J := h.f.x
theorem mX_mR {I J : mg_I} (h : mX I J) {d : Nat → Int32} : mX (mR I d) (mR J d) := by
  intro a j hx
  unfold mR
  split
  · rfl
  · exact h a j hx
theorem mF_mR {I J : mg_I} (h : mF I J) {d : Nat → Int32} : mF (mR I d) (mR J d) := by
  intro a j hx
  unfold mR
  split
  · rfl
  · exact h a j hx
theorem mF_mRi {I I' : mg_I} {d : Nat → Int32} (h : mF (mR I d) I') : ∃ J, I' = mR J d ∧ mF I J := by
  refine ⟨fun a j => if a = 125 then I 125 j else I' a j, ?_, ?_⟩
  · funext a j
    unfold mR
    split
    next h1 => subst h1; exact h 125 j (by omega)
    next h1 => exact (if_neg h1).symm
  · intro a j hx
    show (if a = 125 then I 125 j else I' a j) = I a j
    split
    next h1 => subst h1; rfl
    next h1 => exact (h a j hx).trans (if_neg h1)
theorem mX_124 {I J : mg_I} (h : mX I J) {j : Nat} {v : Int32} (hj : ¬ j = 3 ∧ ¬ j = 19) : mX I (mf_up J 124 j v) := by
  intro a k hx
  unfold mf_up
  rw [if_neg (by omega)]
  exact h a k hx
theorem mX_row {I J : mg_I} (h : mX I J) {a j : Nat} {v : Int32} (ha : a = 127 ∨ a = 129 ∨ a = 130 ∨ a = 135) : mX I (mf_up J a j v) := by
  intro b k hx
  unfold mf_up
  rw [if_neg (by omega)]
  exact h b k hx
theorem mX_up {I J : mg_I} (h : mX I J) {a j : Nat} {v : Int32} : mX (mf_up I a j v) (mf_up J a j v) := by
  intro b k hx
  unfold mf_up
  split
  · rfl
  · exact h b k hx
/-- an act's answer: an error's number (0: none), the answer, the numbers behind it -/
abbrev rD : Type := Nat × Int32 × (Nat → Int32)
def fE (d : Nat → Int32) (k : Nat) : rD := (k, 0, d)
def ans (p : rD) : Int32 := if p.1 = 0 then p.2.1 else -1000000000 - nI p.1
def fEr (I : mg_I) (e : Nat) : mg_I := if e = 0 then I else mf_up I 128 e (I 128 e + 1)
def qD (I : mg_I) (p : rD) (nm : Nat) : Option Value → mg_I → Nat → Prop := fun r I' nm' => r = some (.int (ans p)) ∧ mX (mR (fEr I p.1) p.2.2) I' ∧ nm' = nm
theorem qD_e {I J : mg_I} {d : Nat → Int32} {k nm : Nat} (hk : 0 < k) (h : mX I J) : qD I (fE d k) nm (some (.int (-1000000000 - nI k))) (mR (mf_up J 128 k (J 128 k + 1)) d) nm := by
  refine ⟨congrArg (fun z => some (Value.int z)) ?_, mX_mR ?_, rfl⟩
  · exact (if_neg (by show ¬ k = 0; omega)).symm
  · rw [show fEr I (fE d k).1 = mf_up I 128 k (I 128 k + 1) from if_neg (by show ¬ k = 0; omega), h 128 k (by omega)]
    exact mX_up h
theorem qD_v {I J : mg_I} {d : Nat → Int32} {v : Int32} {nm : Nat} (h : mX I J) : qD I (0, v, d) nm (some (.int v)) (mR J d) nm := ⟨rfl, mX_mR h, rfl⟩
/-- row 127 holds what is put back -/
def kA (I : mg_I) (d : Nat → Int32) : mg_I := fun x j => if x = 127 ∧ j < 114 then d j else I x j
theorem kA_mF {I : mg_I} {d : Nat → Int32} : mF I (kA I d) := by
  intro a j hx
  unfold kA
  rw [if_neg (by omega)]
theorem c_keep {sc : List Value} {nm : Nat} {I : mg_I} {d0 : Nat → Int32} : SP sc 1 147 [.ref 124] (mR I d0) nm (qZ (mR (kA I d0) d0) nm) := by
  have e : mcp (mR I d0) 127 125 114 = mR (kA I d0) d0 := by
    funext x j
    unfold mcp mR kA
    by_cases h : x = 125
    · subst h
      rw [if_neg (by omega), if_pos rfl, if_pos rfl]
    · rw [if_neg h, if_neg h, if_pos rfl]
  have h := c_keepAside (sc := sc) (nm := nm) (I := mR I d0)
  rw [e] at h
  exact h
/-- what was kept, and nothing else changed there -/
def kK (J : mg_I) (d dd : Nat → Int32) : Prop := (∀ j, j < 114 → J 127 j = dd j) ∧ ∀ j, 114 ≤ j → d j = dd j
theorem kK_A {I : mg_I} {d : Nat → Int32} : kK (kA I d) d d := ⟨fun j hj => if_pos ⟨rfl, hj⟩, fun _ _ => rfl⟩
theorem kK_mE {J K : mg_I} {d dd : Nat → Int32} (h : kK J d dd) (hm : mE J K) : kK K d dd := ⟨fun j hj => (hm 127 j (by omega)).trans (h.1 j hj), h.2⟩
theorem kK_d {J : mg_I} {d d' dd : Nat → Int32} (h : kK J d dd) (hm : ∀ j, 114 ≤ j → d' j = d j) : kK J d' dd := ⟨h.1, fun j hj => (hm j hj).trans (h.2 j hj)⟩
theorem kK_up {J : mg_I} {d dd : Nat → Int32} (h : kK J d dd) {a j : Nat} {v : Int32} (ha : a ≠ 127) : kK (mf_up J a j v) d dd := ⟨fun k hk => (if_neg (by omega)).trans (h.1 k hk), h.2⟩
theorem kK_min {J K : mg_I} {d dd : Nat → Int32} {fog : Int32} (h : kK J d dd) (hw : gW d) (hm : mE J K) : kK K (fMin d fog) dd := kK_d (kK_mE h hm) (fun j hj => fMin_hi hw (by omega))
theorem c_back {sc : List Value} {nm : Nat} {J : mg_I} {d dd : Nat → Int32} (h : kK J d dd) : SP sc 1 148 [.ref 124] (mR J d) nm (qZ (mR J dd) nm) := by
  have e : mcp (mR J d) 125 127 114 = mR J dd := by
    funext x j
    unfold mcp mR
    by_cases hx : x = 125
    · subst hx
      by_cases hj : j < 114
      · rw [if_pos ⟨rfl, hj⟩, if_pos rfl, if_neg (by decide)]; exact h.1 j hj
      · rw [if_neg (by omega), if_pos rfl, if_pos rfl]; exact h.2 j (by omega)
    · rw [if_neg (by omega), if_neg hx, if_neg hx]
  have h2 := c_putBack (sc := sc) (nm := nm) (I := mR J d)
  rw [e] at h2
  exact h2
/-- places that the goers' bounds don't speak of -/
theorem gW_up {d : Nat → Int32} {j : Nat} {v : Int32} (h : gW d) (hj : j = 1 ∨ j = 2 ∨ j = 4 ∨ (6 ≤ j ∧ j < 34) ∨ 116 ≤ j) : gW (up d j v) := by
  obtain ⟨⟨h0, h1, h2, h3⟩, h4, h5, h6⟩ := h
  refine ⟨⟨?_, ?_, ?_, fun j hj => ⟨?_, ?_, ?_⟩⟩, fun j hj => ?_, ?_, ?_⟩
  · rw [up_ne (by omega)]; exact h0
  · rw [up_ne (by omega)]; exact h1
  · rw [up_ne (by omega)]; exact h2
  · rw [fO_up (by omega)]; exact (h3 j hj).1
  · rw [fO_up (by omega)]; exact (h3 j hj).2.1
  · rw [fO_up (by omega), fO_up (by omega)]; exact (h3 j hj).2.2
  · rw [fO_up (by omega)]; exact h4 j hj
  · rw [up_ne (by omega)]; exact h5
  · rw [up_ne (by omega)]; exact h6
theorem gW_start {d : Nat → Int32} {g w : Nat} {v : Int32} (h : gW d) (hg : g < 8) (hw : w = 1 ∨ w = 3 ∨ w = 4 ∨ w = 7 ∨ w = 9) : gW (up d (34 + 10 * g + w) v) := by
  obtain ⟨⟨h0, h1, h2, h3⟩, h4, h5, h6⟩ := h
  refine ⟨⟨?_, ?_, ?_, fun j hj => ⟨?_, ?_, ?_⟩⟩, fun j hj => ?_, ?_, ?_⟩
  · rw [up_ne (by omega)]; exact h0
  · rw [up_ne (by omega)]; exact h1
  · rw [up_ne (by omega)]; exact h2
  · rw [fO_up (by omega)]; exact (h3 j hj).1
  · rw [fO_up (by omega)]; exact (h3 j hj).2.1
  · rw [fO_up (by omega), fO_up (by omega)]; exact (h3 j hj).2.2
  · rw [fO_up (by omega)]; exact h4 j hj
  · rw [up_ne (by omega)]; exact h5
  · rw [up_ne (by omega)]; exact h6
/-! draws, minutes -/
def fDraw (d : Nat → Int32) : Nat → Int32 := up d 4 (d 4 * 1103515245 + 12345)
def fZr (z : Int32) : Int32 := (z.toUInt32 >>> ((8 : Int32).toUInt32 &&& Int32.toUInt32 31)).toInt32
def fFog (z : Int32) : Int32 := bI (fZr z - fZr z / 4 * 4 = 0)
def fPs (dr : Int32) : Nat → (Nat → Int32) → Nat → Int32
  | 0, d => d
  | m + 1, d => fPs dr m (if dr = 0 then fMin d 0 else fMin (fDraw d) (fFog (fDraw d 4)))
def oPass (d : Nat → Int32) (n dr : Int32) : rD :=
  if 1 ≤ n.toInt ∧ n.toInt ≤ 300 then (if d 1 + n ≤ 9999 then (0, fMany (fPs dr (cl n) d) 2, fPs dr (cl n) d) else fE d 3) else fE d 1
theorem c_drawn {sc : List Value} {nm : Nat} {I : mg_I} {d0 : Nat → Int32}  : SP sc 1 191 [.ref 124] (mR I d0) nm (qE (fZr (d0 4 * 1103515245 + 12345)) (mR I (fDraw d0)) nm) := by
  refine SP.of (h := 0) (t := 191) (q := (yX12_drawn, cX12_drawn, 1, (some .int), 12, 1320, mi_k191)) rfl (by decide) (show ¬ (1 : Nat) < 1 by decide) (fun d hd => ?_)
  show GG sc 12 false false mi_k191 d 0 [.ref 124] [] (mR I d0) nm (qE (fZr (d0 4 * 1103515245 + 12345)) (mR I (fDraw d0)) nm)
  refine g_aload_n (n := 1) rfl rfl ?_
  refine g_getr (n := 4) (ci := 12) (j := 0) (b := 125) rfl (by decide +kernel) (by decide) (by decide) (by decide +kernel) ?_
  refine g_iconst (n := 5) (v := 4) rfl rfl ?_
  refine g_aload_n (n := 6) rfl rfl ?_
  refine g_getr (n := 9) (ci := 12) (j := 0) (b := 125) rfl (by decide +kernel) (by decide) (by decide) (by decide +kernel) ?_
  refine g_iconst (n := 10) (v := 4) rfl rfl ?_
  refine g_iald (n := 11) (4) rfl (by decide) rfl (by show _ < 286; omega) ?_
  try simp only [mR_125, mR_up, mR_w124, mR_r124, mR_w126, mR_r126, mR_w128, mR_r128, mR_w130, mR_r130, mR_w131, mR_r131, mR_w132, mR_r132, mR_w133, mR_r133, mR_w134, mR_r134, mR_w135, mR_r135]
  refine g_ldc (n := 13) (v := 1103515245) (pl := 1321) rfl (by decide +kernel) ?_
  refine g_imul (n := 14) rfl ?_
  refine g_sipush (n := 17) (v := 12345) rfl rfl ?_
  refine g_iadd (n := 18) rfl ?_
  refine g_iast (n := 19) (4) rfl (by decide) rfl (by show _ < 286; omega) ?_
  try simp only [mR_125, mR_up, mR_w124, mR_r124, mR_w126, mR_r126, mR_w128, mR_r128, mR_w130, mR_r130, mR_w131, mR_r131, mR_w132, mR_r132, mR_w133, mR_r133, mR_w134, mR_r134, mR_w135, mR_r135]
  refine g_aload_n (n := 20) rfl rfl ?_
  refine g_getr (n := 23) (ci := 12) (j := 0) (b := 125) rfl (by decide +kernel) (by decide) (by decide) (by decide +kernel) ?_
  refine g_iconst (n := 24) (v := 4) rfl rfl ?_
  refine g_iald (n := 25) (4) rfl (by decide) rfl (by show _ < 286; omega) ?_
  try simp only [mR_125, mR_up, mR_w124, mR_r124, mR_w126, mR_r126, mR_w128, mR_r128, mR_w130, mR_r130, mR_w131, mR_r131, mR_w132, mR_r132, mR_w133, mR_r133, mR_w134, mR_r134, mR_w135, mR_r135]
  refine g_bipush (n := 27) (v := 8) rfl rfl ?_
  refine g_iushr (n := 28) rfl ?_
  refine g_iret (n := 29) rfl (fun h => nomatch h) ?_
  exact ⟨rfl, rfl, rfl⟩
theorem c_passes {sc : List Value} {nm : Nat} {I : mg_I} {d0 : Nat → Int32} {n dr : Int32} (hw : gW d0) : SP sc 47 192 [.ref 124, .int n, .int dr] (mR I d0) nm (qD I (oPass d0 n dr) nm) := by
  refine SP.of (h := 46) (t := 192) (q := (yX12_passes, cX12_passes, 4, (some .int), 12, 1315, mi_k192)) rfl (by decide) (show ¬ (4 : Nat) < 3 by decide) (fun d hd => ?_)
  show GG sc 12 false false mi_k192 d 0 [.ref 124, .int n, .int dr, .null] [] (mR I d0) nm (qD I (oPass d0 n dr) nm)
  unfold oPass
  refine g_iload_n (n := 1) rfl rfl ?_
  refine g_i2l (n := 2) rfl ?_
  refine g_lconst (n := 3) (v := 1) rfl rfl ?_
  refine g_ldc2 (n := 6) (v := 300) (pl := 1316) rfl (by decide +kernel) ?_
  refine g_cs3 (n := 9) (t := 141) (x := (1141, 1142, 84)) rfl (by decide +kernel) (by decide +kernel) (by rfl) (c_inI (a := 1) (b := 300) rfl rfl) (by omega) (g_E ?_)
  try simp only [mR_125, mR_up, mR_w124, mR_r124, mR_w126, mR_r126, mR_w128, mR_r128, mR_w130, mR_r130, mR_w131, mR_r131, mR_w132, mR_r132, mR_w133, mR_r133, mR_w134, mR_r134, mR_w135, mR_r135]
  refine g_split (fun h1 => ?_) (fun h1 => ?_)
  ·
    refine g_ifne1 (n := 12) 18 rfl (by decide) ?_
    rw [if_pos h1]
    obtain ⟨nn, hnn, rfl, hcn⟩ := iR_nI (x := n) (n := 301) ⟨by omega, by omega⟩
    have hcl : cl (nI nn) = nn := hcn
    refine g_aload_n (n := 19) rfl rfl ?_
    refine g_getr (n := 22) (ci := 12) (j := 0) (b := 125) rfl (by decide +kernel) (by decide) (by decide) (by decide +kernel) ?_
    refine g_iconst (n := 23) (v := 1) rfl rfl ?_
    refine g_iald (n := 24) (1) rfl (by decide) rfl (by show _ < 286; omega) ?_
    try simp only [mR_125, mR_up, mR_w124, mR_r124, mR_w126, mR_r126, mR_w128, mR_r128, mR_w130, mR_r130, mR_w131, mR_r131, mR_w132, mR_r132, mR_w133, mR_r133, mR_w134, mR_r134, mR_w135, mR_r135]
    refine g_iload_n (n := 25) rfl rfl ?_
    refine g_iadd (n := 26) rfl ?_
    refine g_sipush (n := 29) (v := 9999) rfl rfl ?_
    refine g_icle (n := 32) 38 rfl (by decide) (fun h2 => ?_) (fun h2 => ?_)
    ·
      rw [if_pos h2, hcl]
      refine g_iconst (n := 39) (v := 0) rfl rfl ?_
      refine g_istore_n3 (n := 40) rfl rfl ?_
      have H : ∀ (m k : Nat) (d1 : Nat → Int32) (J : mg_I), k + m = nn → gW d1 → mE I J → fPs dr m d1 = fPs dr nn d0 → GG sc 12 false false mi_k192 d 40 [.ref 124, .int (nI nn), .int dr, .int (nI k)] [] (mR J d1) nm (qD I (0, fMany (fPs dr nn d0) 2, fPs dr nn d0) nm) := by
        intro m
        induction m with
        | zero =>
          intro k d1 J hk hw hJ hf
          have hN := hw.1.1
          have hf2 : d1 = fPs dr nn d0 := hf
          subst hf2
          refine g_iload_n (n := 41) rfl rfl ?_
          refine g_iload_n (n := 42) rfl rfl ?_
          refine g_icge (n := 45) 73 rfl (by decide) (fun h1 => ?_) (fun h1 => ?_)
          ·
            refine g_aload_n (n := 74) rfl rfl ?_
            refine g_iconst (n := 75) (v := 2) rfl rfl ?_
            refine g_cv1 (n := 78) (t := 190) (ci := 12) rfl (by decide +kernel) (by decide +kernel) (by decide) (by decide) (by decide +kernel) (by rfl) (c_howMany (by assumption)) (by omega) (g_E ?_)
            try simp only [mR_125, mR_up, mR_w124, mR_r124, mR_w126, mR_r126, mR_w128, mR_r128, mR_w130, mR_r130, mR_w131, mR_r131, mR_w132, mR_r132, mR_w133, mR_r133, mR_w134, mR_r134, mR_w135, mR_r135]
            refine g_iret (n := 79) rfl (fun h => nomatch h) ?_
            exact qD_v hJ.x
          ·
            exact absurd (fN_nle rfl (by omega) (by omega) h1) (by omega)
        | succ m ih =>
          intro k d1 J hk hw hJ hf
          rw [fPs] at hf
          refine g_iload_n (n := 41) rfl rfl ?_
          refine g_iload_n (n := 42) rfl rfl ?_
          refine g_icge (n := 45) 73 rfl (by decide) (fun h1 => ?_) (fun h1 => ?_)
          ·
            exact absurd (fN_le rfl (by omega) (by omega) h1) (by omega)
          ·
            refine g_aload_n (n := 46) rfl rfl ?_
            refine g_iload_n (n := 47) rfl rfl ?_
            refine g_ifeq (n := 50) 63 rfl (by decide) (fun h2 => ?_) (fun h2 => ?_)
            ·
              rw [if_pos h2] at hf
              refine g_iconst (n := 64) (v := 0) rfl rfl ?_
              refine g_cv1 (n := 67) (t := 189) (ci := 12) rfl (by decide +kernel) (by decide +kernel) (by decide) (by decide) (by decide +kernel) (by rfl) (c_aMinute (d0 := d1) (fog := 0) hw) (by omega) (g_N fun I1 he => ?_)
              obtain ⟨J1, rfl, hJ1⟩ := mR_mE he
              clear he
              refine g_iinc3 (n := 70) rfl rfl (nI_inc _) ?_
              refine g_goto 40 rfl (by decide) ?_
              exact ih (k + 1) _ J1 (by omega) (gW_min hw) (hJ.trans hJ1) hf
            ·
              rw [if_neg h2] at hf
              have hwd : gW (fDraw d1) := gW_up hw (by omega)
              refine g_aload_n (n := 51) rfl rfl ?_
              refine g_cv0 (n := 54) (t := 191) (ci := 12) rfl (by decide +kernel) (by decide +kernel) (by decide) (by decide) (by decide +kernel) (by rfl) c_drawn (by omega) (g_E ?_)
              refine g_iconst (n := 55) (v := 4) rfl rfl ?_
              refine g_irem (n := 56) rfl (by first | decide | assumption) ?_
              refine g_ifne (n := 59) 63 rfl (by decide) (fun h3 => ?_) (fun h3 => ?_)
              ·
                rw [show fFog (fDraw d1 4) = 0 from bI_f h3] at hf
                refine g_iconst (n := 64) (v := 0) rfl rfl ?_
                refine g_cv1 (n := 67) (t := 189) (ci := 12) rfl (by decide +kernel) (by decide +kernel) (by decide) (by decide) (by decide +kernel) (by rfl) (c_aMinute (d0 := (fDraw d1)) (fog := 0) hwd) (by omega) (g_N fun I1 he => ?_)
                obtain ⟨J1, rfl, hJ1⟩ := mR_mE he
                clear he
                refine g_iinc3 (n := 70) rfl rfl (nI_inc _) ?_
                refine g_goto 40 rfl (by decide) ?_
                exact ih (k + 1) _ J1 (by omega) (gW_min hwd) (hJ.trans hJ1) hf
              ·
                rw [show fFog (fDraw d1 4) = 1 from bI_t h3] at hf
                refine g_iconst (n := 60) (v := 1) rfl rfl ?_
                refine g_goto 64 rfl (by decide) ?_
                refine g_cv1 (n := 67) (t := 189) (ci := 12) rfl (by decide +kernel) (by decide +kernel) (by decide) (by decide) (by decide +kernel) (by rfl) (c_aMinute (d0 := (fDraw d1)) (fog := 1) hwd) (by omega) (g_N fun I1 he => ?_)
                obtain ⟨J1, rfl, hJ1⟩ := mR_mE he
                clear he
                refine g_iinc3 (n := 70) rfl rfl (nI_inc _) ?_
                refine g_goto 40 rfl (by decide) ?_
                exact ih (k + 1) _ J1 (by omega) (gW_min hwd) (hJ.trans hJ1) hf
      exact H nn 0 d0 I (by omega) hw mE.rfl' rfl
    ·
      rw [if_neg h2]
      refine g_aload_n (n := 33) rfl rfl ?_
      refine g_iconst (n := 34) (v := 3) rfl rfl ?_
      refine g_cv1 (n := 37) (t := 140) (ci := 12) rfl (by decide +kernel) (by decide +kernel) (by decide) (by decide) (by decide +kernel) (by rfl) (c_finds (k := 3) (by omega)) (by omega) (g_E ?_)
      try simp only [mR_125, mR_up, mR_w124, mR_r124, mR_w126, mR_r126, mR_w128, mR_r128, mR_w130, mR_r130, mR_w131, mR_r131, mR_w132, mR_r132, mR_w133, mR_r133, mR_w134, mR_r134, mR_w135, mR_r135]
      refine g_iret (n := 38) rfl (fun h => nomatch h) ?_
      exact qD_e (by decide) mX.rfl'
  ·
    refine g_ifne0 (n := 12) 18 rfl (by decide) ?_
    rw [if_neg h1]
    refine g_aload_n (n := 13) rfl rfl ?_
    refine g_iconst (n := 14) (v := 1) rfl rfl ?_
    refine g_cv1 (n := 17) (t := 140) (ci := 12) rfl (by decide +kernel) (by decide +kernel) (by decide) (by decide) (by decide +kernel) (by rfl) (c_finds (k := 1) (by omega)) (by omega) (g_E ?_)
    try simp only [mR_125, mR_up, mR_w124, mR_r124, mR_w126, mR_r126, mR_w128, mR_r128, mR_w130, mR_r130, mR_w131, mR_r131, mR_w132, mR_r132, mR_w133, mR_r133, mR_w134, mR_r134, mR_w135, mR_r135]
    refine g_iret (n := 18) rfl (fun h => nomatch h) ?_
    exact qD_e (by decide) mX.rfl'
theorem g_D {sc : List Value} {own : Nat} {ini rz : Bool} {code : List (Nat × Instr)} {d n : Nat} {ls : List Value} {I : mg_I} {nm0 : Nat} {Q : Option Value → mg_I → Nat → Prop} {r : List Value} {p : rD} (k : ∀ I', mX (mR (fEr I p.1) p.2.2) I' → GG sc own ini rz code d n ls (.int (ans p) :: r) I' nm0 Q) : ∀ a I2 nm2, qD I p nm0 a I2 nm2 → GG sc own ini rz code d n ls (a.toList ++ r) I2 nm2 Q := by
  rintro a I2 nm2 ⟨rfl, h2, rfl⟩
  exact k I2 h2
theorem c_minutes {sc : List Value} {nm : Nat} {I : mg_I} {d0 : Nat → Int32} {n : Int32} (hw : gW d0) : SP sc 48 193 [.ref 124, .int n] (mR I d0) nm (qD I (oPass d0 n 0) nm) := by
  refine SP.of (h := 47) (t := 193) (q := (yX12_minutes, cX12_minutes, 2, (some .int), 12, 1311, mi_k193)) rfl (by decide) (show ¬ (2 : Nat) < 2 by decide) (fun d hd => ?_)
  show GG sc 12 false false mi_k193 d 0 [.ref 124, .int n] [] (mR I d0) nm (qD I (oPass d0 n 0) nm)
  refine g_aload_n (n := 1) rfl rfl ?_
  refine g_iload_n (n := 2) rfl rfl ?_
  refine g_iconst (n := 3) (v := 0) rfl rfl ?_
  refine g_cv2 (n := 6) (t := 192) (ci := 12) rfl (by decide +kernel) (by decide +kernel) (by decide) (by decide) (by decide +kernel) (by rfl) (c_passes hw) (by omega) (g_D fun I1 he => ?_)
  refine g_iret (n := 7) rfl (fun h => nomatch h) ?_
  exact ⟨rfl, he, rfl⟩
theorem c_loose {sc : List Value} {nm : Nat} {I : mg_I} {d0 : Nat → Int32} {n : Int32} (hw : gW d0) : SP sc 48 194 [.ref 124, .int n] (mR I d0) nm (qD I (oPass d0 n 1) nm) := by
  refine SP.of (h := 47) (t := 194) (q := (yX12_loose, cX12_loose, 2, (some .int), 12, 1359, mi_k194)) rfl (by decide) (show ¬ (2 : Nat) < 2 by decide) (fun d hd => ?_)
  show GG sc 12 false false mi_k194 d 0 [.ref 124, .int n] [] (mR I d0) nm (qD I (oPass d0 n 1) nm)
  refine g_aload_n (n := 1) rfl rfl ?_
  refine g_iload_n (n := 2) rfl rfl ?_
  refine g_iconst (n := 3) (v := 1) rfl rfl ?_
  refine g_cv2 (n := 6) (t := 192) (ci := 12) rfl (by decide +kernel) (by decide +kernel) (by decide) (by decide) (by decide +kernel) (by rfl) (c_passes hw) (by omega) (g_D fun I1 he => ?_)
  refine g_iret (n := 7) rfl (fun h => nomatch h) ?_
  exact ⟨rfl, he, rfl⟩
def fMs : Nat → (Nat → Int32) → Nat → Int32
  | 0, d => d
  | m + 1, d => fMs m (fMin d 0)
def oThen (d : Nat → Int32) (n g w : Int32) : rD :=
  if 0 ≤ n.toInt ∧ n.toInt ≤ 300 then (if 0 ≤ g.toInt ∧ g.toInt < (fN d : Int) then (if 5 ≤ w.toInt ∧ w.toInt ≤ 9 then (0, fO (fMs (cl n) d) (cl g) (cl w), d) else fE d 1) else fE d 1) else fE d 1
theorem c_then {sc : List Value} {nm : Nat} {I : mg_I} {d0 : Nat → Int32} {n g w : Int32} (hw : gW d0) : SP sc 47 195 [.ref 124, .int n, .int g, .int w] (mR I d0) nm (qD I (oThen d0 n g w) nm) := by
  refine SP.of (h := 46) (t := 195) (q := (yX12_then, cX12_then, 5, (some .int), 12, 1363, mi_k195)) rfl (by decide) (show ¬ (5 : Nat) < 4 by decide) (fun d hd => ?_)
  show GG sc 12 false false mi_k195 d 0 [.ref 124, .int n, .int g, .int w, .null] [] (mR I d0) nm (qD I (oThen d0 n g w) nm)
  have hN := hw.1.1
  unfold oThen
  refine g_iload_n (n := 1) rfl rfl ?_
  refine g_i2l (n := 2) rfl ?_
  refine g_lconst (n := 3) (v := 0) rfl rfl ?_
  refine g_ldc2 (n := 6) (v := 300) (pl := 1316) rfl (by decide +kernel) ?_
  refine g_cs3 (n := 9) (t := 141) (x := (1141, 1142, 84)) rfl (by decide +kernel) (by decide +kernel) (by rfl) (c_inI (a := 0) (b := 300) rfl rfl) (by omega) (g_E ?_)
  try simp only [mR_125, mR_up, mR_w124, mR_r124, mR_w126, mR_r126, mR_w128, mR_r128, mR_w130, mR_r130, mR_w131, mR_r131, mR_w132, mR_r132, mR_w133, mR_r133, mR_w134, mR_r134, mR_w135, mR_r135]
  refine g_split (fun h1 => ?_) (fun h1 => ?_)
  ·
    refine g_ifeq1 (n := 12) 34 rfl (by decide) ?_
    rw [if_pos h1]
    refine g_aload_n (n := 13) rfl rfl ?_
    refine g_iload_n (n := 14) rfl rfl ?_
    refine g_cv1 (n := 17) (t := 143) (ci := 12) rfl (by decide +kernel) (by decide +kernel) (by decide) (by decide) (by decide +kernel) (by rfl) (c_isGoer (by assumption)) (by omega) (g_E ?_)
    try simp only [mR_125, mR_up, mR_w124, mR_r124, mR_w126, mR_r126, mR_w128, mR_r128, mR_w130, mR_r130, mR_w131, mR_r131, mR_w132, mR_r132, mR_w133, mR_r133, mR_w134, mR_r134, mR_w135, mR_r135]
    refine g_split (fun h2 => ?_) (fun h2 => ?_)
    ·
      refine g_ifeq1 (n := 20) 34 rfl (by decide) ?_
      rw [if_pos h2]
      refine g_iload_n (n := 21) rfl rfl ?_
      refine g_i2l (n := 22) rfl ?_
      refine g_ldc2 (n := 25) (v := 5) (pl := 1223) rfl (by decide +kernel) ?_
      refine g_ldc2 (n := 28) (v := 9) (pl := 1364) rfl (by decide +kernel) ?_
      refine g_cs3 (n := 31) (t := 141) (x := (1141, 1142, 84)) rfl (by decide +kernel) (by decide +kernel) (by rfl) (c_inI (a := 5) (b := 9) rfl rfl) (by omega) (g_E ?_)
      try simp only [mR_125, mR_up, mR_w124, mR_r124, mR_w126, mR_r126, mR_w128, mR_r128, mR_w130, mR_r130, mR_w131, mR_r131, mR_w132, mR_r132, mR_w133, mR_r133, mR_w134, mR_r134, mR_w135, mR_r135]
      refine g_split (fun h3 => ?_) (fun h3 => ?_)
      ·
        refine g_ifne1 (n := 34) 40 rfl (by decide) ?_
        rw [if_pos h3]
        obtain ⟨nn, hnn, rfl, hcn⟩ := iR_nI (x := n) (n := 301) ⟨by omega, by omega⟩
        obtain ⟨gg, hgg, rfl, hcg⟩ := iR_nI (x := g) (n := fN d0) ⟨by omega, by omega⟩
        obtain ⟨ww, hww, rfl, hcw⟩ := iR_nI (x := w) (n := 10) ⟨by omega, by omega⟩
        have hg8 := (fN_eq hN).2
        rw [show cl (nI nn) = nn from hcn, show cl (nI gg) = gg from hcg, show cl (nI ww) = ww from hcw]
        refine g_aload_n (n := 41) rfl rfl ?_
        refine g_cv0 (n := 44) (t := 147) (ci := 12) rfl (by decide +kernel) (by decide +kernel) (by decide) (by decide) (by decide +kernel) (by rfl) c_keep (by omega) (g_Z ?_)
        try simp only [mR_125, mR_up, mR_w124, mR_r124, mR_w126, mR_r126, mR_w128, mR_r128, mR_w130, mR_r130, mR_w131, mR_r131, mR_w132, mR_r132, mR_w133, mR_r133, mR_w134, mR_r134, mR_w135, mR_r135]
        refine g_iconst (n := 45) (v := 0) rfl rfl ?_
        refine g_istore4 (n := 47) rfl rfl ?_
        have H : ∀ (m k : Nat) (d1 : Nat → Int32) (J : mg_I), k + m = nn → gW d1 → mF I J → kK J d1 d0 → fMs m d1 = fMs nn d0 → GG sc 12 false false mi_k195 d 47 [.ref 124, .int (nI nn), .int (nI gg), .int (nI ww), .int (nI k)] [] (mR J d1) nm (qD I (0, fO (fMs nn d0) gg ww, d0) nm) := by
          intro m
          induction m with
          | zero =>
            intro k d1 J hk hw hJ hk2 hf
            have hf2 : d1 = fMs nn d0 := hf
            subst hf2
            refine g_iload (n := 49) rfl rfl ?_
            refine g_iload_n (n := 50) rfl rfl ?_
            refine g_icge (n := 53) 64 rfl (by decide) (fun h1 => ?_) (fun h1 => ?_)
            ·
              refine g_aload_n (n := 65) rfl rfl ?_
              refine g_iload_n (n := 66) rfl rfl ?_
              refine g_iload_n (n := 67) rfl rfl ?_
              refine g_cv2 (n := 70) (t := 145) (ci := 12) rfl (by decide +kernel) (by decide +kernel) (by decide) (by decide) (by decide +kernel) (by rfl) (c_of (g := gg) (w := ww) (by omega) (by omega)) (by omega) (g_E ?_)
              try simp only [mR_125, mR_up, mR_w124, mR_r124, mR_w126, mR_r126, mR_w128, mR_r128, mR_w130, mR_r130, mR_w131, mR_r131, mR_w132, mR_r132, mR_w133, mR_r133, mR_w134, mR_r134, mR_w135, mR_r135]
              refine g_istore4 (n := 72) rfl rfl ?_
              refine g_aload_n (n := 73) rfl rfl ?_
              refine g_cv0 (n := 76) (t := 148) (ci := 12) rfl (by decide +kernel) (by decide +kernel) (by decide) (by decide) (by decide +kernel) (by rfl) (c_back hk2) (by omega) (g_Z ?_)
              refine g_iload (n := 78) rfl rfl ?_
              refine g_iret (n := 79) rfl (fun h => nomatch h) ?_
              exact qD_v hJ.x
            ·
              exact absurd (fN_nle rfl (by omega) (by omega) h1) (by omega)
          | succ m ih =>
            intro k d1 J hk hw hJ hk2 hf
            refine g_iload (n := 49) rfl rfl ?_
            refine g_iload_n (n := 50) rfl rfl ?_
            refine g_icge (n := 53) 64 rfl (by decide) (fun h1 => ?_) (fun h1 => ?_)
            ·
              exact absurd (fN_le rfl (by omega) (by omega) h1) (by omega)
            ·
              refine g_aload_n (n := 54) rfl rfl ?_
              refine g_iconst (n := 55) (v := 0) rfl rfl ?_
              refine g_cv1 (n := 58) (t := 189) (ci := 12) rfl (by decide +kernel) (by decide +kernel) (by decide) (by decide) (by decide +kernel) (by rfl) (c_aMinute (d0 := d1) (fog := 0) hw) (by omega) (g_N fun I1 he => ?_)
              obtain ⟨J1, rfl, hJ1⟩ := mR_mE he
              clear he
              refine g_iinc4 (n := 61) rfl rfl (nI_inc _) ?_
              refine g_goto 47 rfl (by decide) ?_
              exact ih (k + 1) _ J1 (by omega) (gW_min hw) (hJ.trans hJ1.f) (kK_min hk2 hw hJ1) hf
        exact H nn 0 d0 (kA I d0) (by omega) hw kA_mF kK_A rfl
      ·
        refine g_ifne0 (n := 34) 40 rfl (by decide) ?_
        rw [if_neg h3]
        refine g_aload_n (n := 35) rfl rfl ?_
        refine g_iconst (n := 36) (v := 1) rfl rfl ?_
        refine g_cv1 (n := 39) (t := 140) (ci := 12) rfl (by decide +kernel) (by decide +kernel) (by decide) (by decide) (by decide +kernel) (by rfl) (c_finds (k := 1) (by omega)) (by omega) (g_E ?_)
        try simp only [mR_125, mR_up, mR_w124, mR_r124, mR_w126, mR_r126, mR_w128, mR_r128, mR_w130, mR_r130, mR_w131, mR_r131, mR_w132, mR_r132, mR_w133, mR_r133, mR_w134, mR_r134, mR_w135, mR_r135]
        refine g_iret (n := 40) rfl (fun h => nomatch h) ?_
        exact qD_e (by decide) mX.rfl'
    ·
      refine g_ifeq0 (n := 20) 34 rfl (by decide) ?_
      rw [if_neg h2]
      refine g_aload_n (n := 35) rfl rfl ?_
      refine g_iconst (n := 36) (v := 1) rfl rfl ?_
      refine g_cv1 (n := 39) (t := 140) (ci := 12) rfl (by decide +kernel) (by decide +kernel) (by decide) (by decide) (by decide +kernel) (by rfl) (c_finds (k := 1) (by omega)) (by omega) (g_E ?_)
      try simp only [mR_125, mR_up, mR_w124, mR_r124, mR_w126, mR_r126, mR_w128, mR_r128, mR_w130, mR_r130, mR_w131, mR_r131, mR_w132, mR_r132, mR_w133, mR_r133, mR_w134, mR_r134, mR_w135, mR_r135]
      refine g_iret (n := 40) rfl (fun h => nomatch h) ?_
      exact qD_e (by decide) mX.rfl'
  ·
    refine g_ifeq0 (n := 12) 34 rfl (by decide) ?_
    rw [if_neg h1]
    refine g_aload_n (n := 35) rfl rfl ?_
    refine g_iconst (n := 36) (v := 1) rfl rfl ?_
    refine g_cv1 (n := 39) (t := 140) (ci := 12) rfl (by decide +kernel) (by decide +kernel) (by decide) (by decide) (by decide +kernel) (by rfl) (c_finds (k := 1) (by omega)) (by omega) (g_E ?_)
    try simp only [mR_125, mR_up, mR_w124, mR_r124, mR_w126, mR_r126, mR_w128, mR_r128, mR_w130, mR_r130, mR_w131, mR_r131, mR_w132, mR_r132, mR_w133, mR_r133, mR_w134, mR_r134, mR_w135, mR_r135]
    refine g_iret (n := 40) rfl (fun h => nomatch h) ?_
    exact qD_e (by decide) mX.rfl'
/-- behind how many minutes all are over, from n on (-1: not by 300), and how many have begun to go back by then -/
def fOv : Nat → Nat → (Nat → Int32) → Int32 × Int32
  | 0, _, d => (-1, d 3)
  | f + 1, n, d => if d 0 ≤ fMany d 2 then (nI n, d 3) else fOv f (n + 1) (fMin d 0)
def fOB (d : Nat → Int32) : Int32 × Int32 := fOv 301 0 d
def qF (I : mg_I) (d : Nat → Int32) (nm : Nat) : Option Value → mg_I → Nat → Prop := fun r I' nm' => r = none ∧ (∃ J, I' = mR J d ∧ mF I J ∧ J 124 12 = (fOB d).1 ∧ J 124 13 = (fOB d).2) ∧ nm' = nm
theorem g_F {sc : List Value} {own : Nat} {ini rz : Bool} {code : List (Nat × Instr)} {d n : Nat} {ls : List Value} {I : mg_I} {dd : Nat → Int32} {nm0 : Nat} {Q : Option Value → mg_I → Nat → Prop} {r : List Value} (k : ∀ J, mF I J → J 124 12 = (fOB dd).1 → J 124 13 = (fOB dd).2 → GG sc own ini rz code d n ls r (mR J dd) nm0 Q) : ∀ a I2 nm2, qF I dd nm0 a I2 nm2 → GG sc own ini rz code d n ls (a.toList ++ r) I2 nm2 Q := by
  rintro a I2 nm2 ⟨rfl, ⟨J, rfl, h1, h2, h3⟩, rfl⟩
  exact k J h1 h2 h3
theorem qF_i {I J : mg_I} {d : Nat → Int32} {nm : Nat} {v b : Int32} (hJ : mF I J) (hv : (v, b) = fOB d) : qF I d nm none (mR (mf_up (mf_up J 124 12 v) 124 13 b) d) nm := by
  refine ⟨rfl, ⟨_, rfl, ?_, ?_, ?_⟩, rfl⟩
  · intro a j hx
    rw [show mf_up (mf_up J 124 12 v) 124 13 b a j = J a j from (if_neg (by omega)).trans (if_neg (by omega))]
    exact hJ a j hx
  · rw [← hv]; exact (if_neg (by omega)).trans (if_pos ⟨rfl, rfl⟩)
  · rw [← hv]; exact if_pos ⟨rfl, rfl⟩
theorem c_findOver {sc : List Value} {nm : Nat} {I : mg_I} {d0 : Nat → Int32} (hw : gW d0) : SP sc 47 196 [.ref 124] (mR I d0) nm (qF I d0 nm) := by
  refine SP.of (h := 46) (t := 196) (q := (yX12_findOver, cX12_findOver, 2, none, 12, 1380, mi_k196)) rfl (by decide) (show ¬ (2 : Nat) < 1 by decide) (fun d hd => ?_)
  show GG sc 12 false false mi_k196 d 0 [.ref 124, .null] [] (mR I d0) nm (qF I d0 nm)
  have H : ∀ (m k : Nat) (d1 : Nat → Int32) (J : mg_I), k + m = 301 → gW d1 → mF I J → kK J d1 d0 → fOv m k d1 = fOB d0 → GG sc 12 false false mi_k196 d 6 [.ref 124, .int (nI k)] [] (mR J d1) nm (qF I d0 nm) := by
    intro m
    induction m with
    | zero =>
      intro k d1 J hk hw hJ hk2 hf
      have hN := hw.1.1
      refine g_iload_n (n := 7) rfl rfl ?_
      refine g_sipush (n := 10) (v := 300) rfl rfl ?_
      refine g_icgt (n := 13) 38 rfl (by decide) (fun h1 => ?_) (fun h1 => ?_)
      ·
        refine g_aload_n (n := 39) rfl rfl ?_
        refine g_iload_n (n := 40) rfl rfl ?_
        refine g_sipush (n := 43) (v := 300) rfl rfl ?_
        refine g_icle (n := 46) 50 rfl (by decide) (fun h2 => ?_) (fun h2 => ?_)
        ·
          exact absurd ((nI_leI (a := k) (b := 300) (by omega) (by omega)).mp h2) (by omega)
        ·
          refine g_iconst (n := 47) (v := -1) rfl rfl ?_
          refine g_goto 51 rfl (by decide) ?_
          refine g_puti (n := 54) (ci := 12) (j := 12) rfl (by decide +kernel) rfl (by decide) (by decide) (by decide +kernel) rfl ?_
          try simp only [mR_125, mR_up, mR_w124, mR_r124, mR_w126, mR_r126, mR_w128, mR_r128, mR_w130, mR_r130, mR_w131, mR_r131, mR_w132, mR_r132, mR_w133, mR_r133, mR_w134, mR_r134, mR_w135, mR_r135]
          refine g_aload_n (n := 55) rfl rfl ?_
          refine g_aload_n (n := 56) rfl rfl ?_
          refine g_getr (n := 59) (ci := 12) (j := 0) (b := 125) rfl (by decide +kernel) (by decide) (by decide) (by decide +kernel) ?_
          refine g_iconst (n := 60) (v := 3) rfl rfl ?_
          refine g_iald (n := 61) (3) rfl (by decide) rfl (by show _ < 286; omega) ?_
          try simp only [mR_125, mR_up, mR_w124, mR_r124, mR_w126, mR_r126, mR_w128, mR_r128, mR_w130, mR_r130, mR_w131, mR_r131, mR_w132, mR_r132, mR_w133, mR_r133, mR_w134, mR_r134, mR_w135, mR_r135]
          refine g_puti (n := 64) (ci := 12) (j := 13) rfl (by decide +kernel) rfl (by decide) (by decide) (by decide +kernel) rfl ?_
          try simp only [mR_125, mR_up, mR_w124, mR_r124, mR_w126, mR_r126, mR_w128, mR_r128, mR_w130, mR_r130, mR_w131, mR_r131, mR_w132, mR_r132, mR_w133, mR_r133, mR_w134, mR_r134, mR_w135, mR_r135]
          refine g_aload_n (n := 65) rfl rfl ?_
          refine g_cv0 (n := 68) (t := 148) (ci := 12) rfl (by decide +kernel) (by decide +kernel) (by decide) (by decide) (by decide +kernel) (by rfl) (c_back (kK_up (kK_up hk2 (by decide)) (by decide))) (by omega) (g_Z ?_)
          refine g_vret (n := 69) rfl ?_
          exact qF_i hJ hf
      ·
        exact absurd ((nI_ltI (b := k) (a := 300) (by omega) (by omega)).mpr (by omega)) h1
    | succ m ih =>
      intro k d1 J hk hw hJ hk2 hf
      have hN := hw.1.1
      rw [fOv] at hf
      refine g_iload_n (n := 7) rfl rfl ?_
      refine g_sipush (n := 10) (v := 300) rfl rfl ?_
      refine g_icgt (n := 13) 38 rfl (by decide) (fun h1 => ?_) (fun h1 => ?_)
      ·
        exact absurd ((nI_ltI (b := k) (a := 300) (by omega) (by omega)).mp h1) (by omega)
      ·
        refine g_aload_n (n := 14) rfl rfl ?_
        refine g_iconst (n := 15) (v := 2) rfl rfl ?_
        refine g_cv1 (n := 18) (t := 190) (ci := 12) rfl (by decide +kernel) (by decide +kernel) (by decide) (by decide) (by decide +kernel) (by rfl) (c_howMany (by assumption)) (by omega) (g_E ?_)
        try simp only [mR_125, mR_up, mR_w124, mR_r124, mR_w126, mR_r126, mR_w128, mR_r128, mR_w130, mR_r130, mR_w131, mR_r131, mR_w132, mR_r132, mR_w133, mR_r133, mR_w134, mR_r134, mR_w135, mR_r135]
        refine g_aload_n (n := 19) rfl rfl ?_
        refine g_getr (n := 22) (ci := 12) (j := 0) (b := 125) rfl (by decide +kernel) (by decide) (by decide) (by decide +kernel) ?_
        refine g_iconst (n := 23) (v := 0) rfl rfl ?_
        refine g_iald (n := 24) (0) rfl (by decide) rfl (by show _ < 286; omega) ?_
        try simp only [mR_125, mR_up, mR_w124, mR_r124, mR_w126, mR_r126, mR_w128, mR_r128, mR_w130, mR_r130, mR_w131, mR_r131, mR_w132, mR_r132, mR_w133, mR_r133, mR_w134, mR_r134, mR_w135, mR_r135]
        refine g_icge (n := 27) 38 rfl (by decide) (fun h2 => ?_) (fun h2 => ?_)
        ·
          rw [if_pos h2] at hf
          refine g_aload_n (n := 39) rfl rfl ?_
          refine g_iload_n (n := 40) rfl rfl ?_
          refine g_sipush (n := 43) (v := 300) rfl rfl ?_
          refine g_icle (n := 46) 50 rfl (by decide) (fun h3 => ?_) (fun h3 => ?_)
          ·
            refine g_iload_n (n := 51) rfl rfl ?_
            refine g_puti (n := 54) (ci := 12) (j := 12) rfl (by decide +kernel) rfl (by decide) (by decide) (by decide +kernel) rfl ?_
            try simp only [mR_125, mR_up, mR_w124, mR_r124, mR_w126, mR_r126, mR_w128, mR_r128, mR_w130, mR_r130, mR_w131, mR_r131, mR_w132, mR_r132, mR_w133, mR_r133, mR_w134, mR_r134, mR_w135, mR_r135]
            refine g_aload_n (n := 55) rfl rfl ?_
            refine g_aload_n (n := 56) rfl rfl ?_
            refine g_getr (n := 59) (ci := 12) (j := 0) (b := 125) rfl (by decide +kernel) (by decide) (by decide) (by decide +kernel) ?_
            refine g_iconst (n := 60) (v := 3) rfl rfl ?_
            refine g_iald (n := 61) (3) rfl (by decide) rfl (by show _ < 286; omega) ?_
            try simp only [mR_125, mR_up, mR_w124, mR_r124, mR_w126, mR_r126, mR_w128, mR_r128, mR_w130, mR_r130, mR_w131, mR_r131, mR_w132, mR_r132, mR_w133, mR_r133, mR_w134, mR_r134, mR_w135, mR_r135]
            refine g_puti (n := 64) (ci := 12) (j := 13) rfl (by decide +kernel) rfl (by decide) (by decide) (by decide +kernel) rfl ?_
            try simp only [mR_125, mR_up, mR_w124, mR_r124, mR_w126, mR_r126, mR_w128, mR_r128, mR_w130, mR_r130, mR_w131, mR_r131, mR_w132, mR_r132, mR_w133, mR_r133, mR_w134, mR_r134, mR_w135, mR_r135]
            refine g_aload_n (n := 65) rfl rfl ?_
            refine g_cv0 (n := 68) (t := 148) (ci := 12) rfl (by decide +kernel) (by decide +kernel) (by decide) (by decide) (by decide +kernel) (by rfl) (c_back (kK_up (kK_up hk2 (by decide)) (by decide))) (by omega) (g_Z ?_)
            refine g_vret (n := 69) rfl ?_
            exact qF_i hJ hf
          ·
            exact absurd ((nI_leI (a := k) (b := 300) (by omega) (by omega)).mpr (by omega)) h3
        ·
          rw [if_neg h2] at hf
          refine g_aload_n (n := 28) rfl rfl ?_
          refine g_iconst (n := 29) (v := 0) rfl rfl ?_
          refine g_cv1 (n := 32) (t := 189) (ci := 12) rfl (by decide +kernel) (by decide +kernel) (by decide) (by decide) (by decide +kernel) (by rfl) (c_aMinute (d0 := d1) (fog := 0) hw) (by omega) (g_N fun I1 he => ?_)
          obtain ⟨J1, rfl, hJ1⟩ := mR_mE he
          clear he
          refine g_iinc1 (n := 35) rfl rfl (nI_inc _) ?_
          refine g_goto 6 rfl (by decide) ?_
          exact ih (k + 1) _ J1 (by omega) (gW_min hw) (hJ.trans hJ1.f) (kK_min hk2 hw hJ1) hf
  refine g_aload_n (n := 1) rfl rfl ?_
  refine g_cv0 (n := 4) (t := 147) (ci := 12) rfl (by decide +kernel) (by decide +kernel) (by decide) (by decide) (by decide +kernel) (by rfl) c_keep (by omega) (g_Z ?_)
  try simp only [mR_125, mR_up, mR_w124, mR_r124, mR_w126, mR_r126, mR_w128, mR_r128, mR_w130, mR_r130, mR_w131, mR_r131, mR_w132, mR_r132, mR_w133, mR_r133, mR_w134, mR_r134, mR_w135, mR_r135]
  refine g_iconst (n := 5) (v := 0) rfl rfl ?_
  refine g_istore_n1 (n := 6) rfl rfl ?_
  exact H 301 0 d0 (kA I d0) (by omega) hw kA_mF kK_A rfl
def oOverBy (d : Nat → Int32) : rD := if 0 ≤ (fOB d).1 then (0, (fOB d).1, d) else fE d 2
theorem c_overBy {sc : List Value} {nm : Nat} {I : mg_I} {d0 : Nat → Int32} (hw : gW d0) : SP sc 48 197 [.ref 124] (mR I d0) nm (qD I (oOverBy d0) nm) := by
  refine SP.of (h := 47) (t := 197) (q := (yX12_overBy, cX12_overBy, 1, (some .int), 12, 1376, mi_k197)) rfl (by decide) (show ¬ (1 : Nat) < 1 by decide) (fun d hd => ?_)
  show GG sc 12 false false mi_k197 d 0 [.ref 124] [] (mR I d0) nm (qD I (oOverBy d0) nm)
  unfold oOverBy
  refine g_aload_n (n := 1) rfl rfl ?_
  refine g_cv0 (n := 4) (t := 196) (ci := 12) rfl (by decide +kernel) (by decide +kernel) (by decide) (by decide) (by decide +kernel) (by rfl) (c_findOver hw) (by omega) (g_F fun J hJ h12 h13 => ?_)
  refine g_aload_n (n := 5) rfl rfl ?_
  refine g_getv (n := 8) (ci := 12) (j := 12) (v := (fOB d0).1) h12 rfl (by decide +kernel) rfl (by decide) (by decide) ?_
  refine g_ifge (n := 11) 19 rfl (by decide) (fun h1 => ?_) (fun h1 => ?_)
  ·
    rw [if_pos h1]
    refine g_aload_n (n := 20) rfl rfl ?_
    refine g_getv (n := 23) (ci := 12) (j := 12) (v := (fOB d0).1) h12 rfl (by decide +kernel) rfl (by decide) (by decide) ?_
    refine g_iret (n := 24) rfl (fun h => nomatch h) ?_
    first | exact qD_v hJ.x | exact qD_e (by decide) hJ.x
  ·
    rw [if_neg h1]
    refine g_aload_n (n := 12) rfl rfl ?_
    refine g_iconst (n := 13) (v := 2) rfl rfl ?_
    refine g_cv1 (n := 16) (t := 140) (ci := 12) rfl (by decide +kernel) (by decide +kernel) (by decide) (by decide) (by decide +kernel) (by rfl) (c_finds (k := 2) (by omega)) (by omega) (g_E ?_)
    try simp only [mR_125, mR_up, mR_w124, mR_r124, mR_w126, mR_r126, mR_w128, mR_r128, mR_w130, mR_r130, mR_w131, mR_r131, mR_w132, mR_r132, mR_w133, mR_r133, mR_w134, mR_r134, mR_w135, mR_r135]
    refine g_goto 23 rfl (by decide) ?_
    refine g_iret (n := 24) rfl (fun h => nomatch h) ?_
    first | exact qD_v hJ.x | exact qD_e (by decide) hJ.x
