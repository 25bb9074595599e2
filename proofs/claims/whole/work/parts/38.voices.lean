/-! the model: voices -/
abbrev tR : Type := Int32 × List Int32
def addT (T : List Int32) (b : Int32) : List Int32 := if T.length < 40 then T ++ [b] else T
theorem addT_le {T : List Int32} {b : Int32} (h : T.length ≤ 40) : (addT T b).length ≤ 40 := by
  unfold addT
  split
  · rw [List.length_append]; show T.length + 1 ≤ 40; omega
  · exact h
def trM (I : mg_I) (T : List Int32) : mg_I := fun a j => if a = 124 ∧ j = 19 then nI T.length else if a = 131 ∧ j < T.length then T.getD j 0 else I a j
theorem trM_add {I : mg_I} {T : List Int32} {b : Int32} (h : T.length < 40) : mf_up (mf_up (trM I T) 131 T.length b) 124 19 (nI (T.length + 1)) = trM I (addT T b) := by
  unfold addT
  rw [if_pos h]
  have hl : (T ++ [b]).length = T.length + 1 := by rw [List.length_append]; rfl
  funext a j
  unfold mf_up trM
  rw [hl]
  by_cases h1 : a = 124 ∧ j = 19
  · rw [if_pos h1, if_pos h1]
  · simp only [if_neg h1]
    by_cases h2 : a = 131 ∧ j = T.length
    · rw [if_pos h2, if_pos (c := a = 131 ∧ j < T.length + 1) (by omega), h2.2, List.getD_eq_getElem?_getD, List.getElem?_append_right (Nat.le_refl _), Nat.sub_self]
      rfl
    · rw [if_neg h2]
      by_cases h3 : a = 131 ∧ j < T.length
      · rw [if_pos h3, if_pos (c := a = 131 ∧ j < T.length + 1) (by omega), List.getD_eq_getElem?_getD, List.getD_eq_getElem?_getD, List.getElem?_append_left h3.2]
      · rw [if_neg h3, if_neg (c := a = 131 ∧ j < T.length + 1) (by omega)]
theorem trM_0 {I : mg_I} {v : Int32} : mf_up (mf_up I 124 19 0) 124 20 v = trM (mf_up I 124 20 v) [] := by
  funext a j
  unfold mf_up trM
  by_cases h1 : a = 124 ∧ j = 19
  · rw [if_neg (by omega), if_pos h1, if_pos h1]; rfl
  · have h3 : ¬ (a = 131 ∧ j < ([] : List Int32).length) := fun q => absurd q.2 (Nat.not_lt_zero _)
    rw [if_neg h1, if_neg h1, if_neg h3]
theorem trM_x {I : mg_I} {v : Int32} {T : List Int32} : mX (trM I T) (trM (mf_up I 124 20 v) T) := by
  intro a j hx
  unfold trM
  by_cases h1 : a = 124 ∧ j = 19
  · rw [if_pos h1, if_pos h1]
  · rw [if_neg h1, if_neg h1]
    split
    · rfl
    · exact if_neg (by omega)
theorem trM_125 {I : mg_I} {T : List Int32} : trM I T 125 = I 125 := rfl
/-- what goes, yields, blows, tells -/
def vGo (k n x : Int32) (T : List Int32) : tR := if k = 2 ∨ k = 5 then ((x + n) * 3, addT (addT T 30) 10) else (x + n, addT T 10)
def vYi (k n m x : Int32) (T : List Int32) : tR := if k = 3 then (-(x - m), addT (addT T 40) 12) else if k = 6 then (-(x - m) ^^^ n, addT (addT (addT T 70) 40) 12) else (x - m, addT T 12)
def vBl0 (k n x : Int32) (T : List Int32) : tR := ((vGo k n x (addT T 11)).1 * 2, (vGo k n x (addT T 11)).2)
def vCo (k n m x : Int32) (T : List Int32) : tR := ((vBl0 k n x (addT T 20)).1 - (vYi k n m 1 (vBl0 k n x (addT T 20)).2).1, (vYi k n m 1 (vBl0 k n x (addT T 20)).2).2)
def vBl (k n m x : Int32) (T : List Int32) : tR := if k = 1 then vCo k n m x T else if k = 4 then vCo k n m (x + 1) (addT T 50) else vBl0 k n x T
def vTe0 (k n m x : Int32) (T : List Int32) : tR := ((vBl k n m x (addT T 13)).1 ^^^ (vYi k n m x (vBl k n m x (addT T 13)).2).1, (vYi k n m x (vBl k n m x (addT T 13)).2).2)
def vTe (k n m x : Int32) (T : List Int32) : tR :=
  if k = 5 then ((vTe0 k n m x (addT T 60)).1 - (vGo k n 2 (vTe0 k n m x (addT T 60)).2).1, (vGo k n 2 (vTe0 k n m x (addT T 60)).2).2)
  else if k = 6 then ((vBl k n m x (addT T 71)).1 - (vTe0 k n m x (vBl k n m x (addT T 71)).2).1, (vTe0 k n m x (vBl k n m x (addT T 71)).2).2)
  else vTe0 k n m x T
theorem vGo_le {k n x : Int32} {T : List Int32} (h : T.length ≤ 40) : (vGo k n x T).2.length ≤ 40 := by
  unfold vGo
  split
  · exact addT_le (addT_le h)
  · exact addT_le h
theorem vYi_le {k n m x : Int32} {T : List Int32} (h : T.length ≤ 40) : (vYi k n m x T).2.length ≤ 40 := by
  unfold vYi
  repeat' split
  · exact addT_le (addT_le h)
  · exact addT_le (addT_le (addT_le h))
  · exact addT_le h
theorem vBl0_le {k n x : Int32} {T : List Int32} (h : T.length ≤ 40) : (vBl0 k n x T).2.length ≤ 40 := vGo_le (addT_le h)
theorem vCo_le {k n m x : Int32} {T : List Int32} (h : T.length ≤ 40) : (vCo k n m x T).2.length ≤ 40 := vYi_le (vBl0_le (addT_le h))
theorem vBl_le {k n m x : Int32} {T : List Int32} (h : T.length ≤ 40) : (vBl k n m x T).2.length ≤ 40 := by
  unfold vBl
  repeat' split
  · exact vCo_le h
  · exact vCo_le (addT_le h)
  · exact vBl0_le h
theorem vTe0_le {k n m x : Int32} {T : List Int32} (h : T.length ≤ 40) : (vTe0 k n m x T).2.length ≤ 40 := vYi_le (vBl_le (addT_le h))
theorem vTe_le {k n m x : Int32} {T : List Int32} (h : T.length ≤ 40) : (vTe k n m x T).2.length ≤ 40 := by
  unfold vTe
  repeat' split
  · exact vGo_le (vTe0_le (addT_le h))
  · exact vTe0_le (vBl_le (addT_le h))
  · exact vTe0_le h
theorem c_ran {sc : List Value} {nm : Nat} {I : mg_I} {T : List Int32} {b : Int32} (ht : T.length ≤ 40) : SP sc 1 211 [.ref 124, .int b] (trM I T) nm (qZ (trM I (addT T b)) nm) := by
  refine SP.of (h := 0) (t := 211) (q := (yX12_ran, cX12_ran, 2, none, 12, 1449, mi_k211)) rfl (by decide) (show ¬ (2 : Nat) < 2 by decide) (fun d hd => ?_)
  show GG sc 12 false false mi_k211 d 0 [.ref 124, .int b] [] (trM I T) nm (qZ (trM I (addT T b)) nm)
  refine g_aload_n (n := 1) rfl rfl ?_
  refine g_getv (n := 4) (ci := 12) (j := 19) (v := nI T.length) rfl rfl (by decide +kernel) rfl (by decide) (by decide) ?_
  refine g_bipush (n := 6) (v := 40) rfl rfl ?_
  refine g_icge (n := 9) 29 rfl (by decide) (fun h1 => ?_) (fun h1 => ?_)
  ·
    have h40 : ¬ T.length < 40 := fun q => absurd ((nI_leI (a := 40) (by omega) (by omega)).mp h1) (by omega)
    rw [show addT T b = T from if_neg h40]
    refine g_vret (n := 30) rfl ?_
    exact ⟨rfl, rfl, rfl⟩
  ·
    have h40 : T.length < 40 := Nat.lt_of_not_le (fun q => h1 ((nI_leI (a := 40) (by omega) (by omega)).mpr q))
    refine g_aload_n (n := 10) rfl rfl ?_
    refine g_getr (n := 13) (ci := 12) (j := 18) (b := 131) rfl (by decide +kernel) (by decide) (by decide) (by decide +kernel) ?_
    refine g_aload_n (n := 14) rfl rfl ?_
    refine g_getv (n := 17) (ci := 12) (j := 19) (v := nI T.length) rfl rfl (by decide +kernel) rfl (by decide) (by decide) ?_
    refine g_iload_n (n := 18) rfl rfl ?_
    refine g_iast (n := 19) (T.length) rfl (by decide) rfl (by show _ < 40; omega) ?_
    refine g_aload_n (n := 20) rfl rfl ?_
    refine g_dupa (n := 21) rfl ?_
    refine g_getv (n := 24) (ci := 12) (j := 19) (v := nI T.length) rfl rfl (by decide +kernel) rfl (by decide) (by decide) ?_
    refine g_iconst (n := 25) (v := 1) rfl rfl ?_
    refine g_iaddN (n := 26) (x := T.length) (y := 1) rfl ?_
    refine g_puti (n := 29) (ci := 12) (j := 19) rfl (by decide +kernel) rfl (by decide) (by decide) (by decide +kernel) rfl ?_
    rw [trM_add h40]
    refine g_vret (n := 30) rfl ?_
    exact ⟨rfl, rfl, rfl⟩
theorem c_own {sc : List Value} {nm : Nat} {I : mg_I} {T : List Int32} {g : Nat} (hg : g < 8) (hwho : I 124 20 = nI g) : SP sc 2 212 [.ref 124] (trM I T) nm (qE (fO (I 125) g 0) (trM I T) nm) := by
  refine SP.of (h := 1) (t := 212) (q := (yX12_own, cX12_own, 1, (some .int), 12, 1441, mi_k212)) rfl (by decide) (show ¬ (1 : Nat) < 1 by decide) (fun d hd => ?_)
  show GG sc 12 false false mi_k212 d 0 [.ref 124] [] (trM I T) nm (qE (fO (I 125) g 0) (trM I T) nm)
  refine g_aload_n (n := 1) rfl rfl ?_
  refine g_aload_n (n := 2) rfl rfl ?_
  refine g_getv (n := 5) (ci := 12) (j := 20) (v := nI g) hwho rfl (by decide +kernel) rfl (by decide) (by decide) ?_
  refine g_iconst (n := 6) (v := 0) rfl rfl ?_
  refine g_cv2 (n := 9) (t := 145) (ci := 12) rfl (by decide +kernel) (by decide +kernel) (by decide) (by decide) (by decide +kernel) (by rfl) (c_of (g := g) (w := 0) (by omega) (by omega)) (by omega) (g_E ?_)
  refine g_iret (n := 10) rfl (fun h => nomatch h) ?_
  exact ⟨rfl, rfl, rfl⟩
theorem c_aboveI {sc : List Value} {nm : Nat} {I : mg_I} {k : Int32} : SP sc 1 179 [.int k] I nm (qE (fAbove k) I nm) := by
  have h := c_above (sc := sc) (nm := nm) (I := I) (d0 := I 125) (k := k)
  rw [mR_self] at h
  exact h
theorem c_vg_0 {sc : List Value} {nm : Nat} {I : mg_I} {T : List Int32} {g : Nat} {x : Int32} (ht : T.length ≤ 40) (hg : g < 8) (hwho : I 124 20 = nI g) : SP sc 2 213 [.ref 124, .int 0, .int x] (trM I T) nm (qE (x + nI g) (trM I (addT T 10)) nm) := by
  refine SP.of (h := 1) (t := 213) (q := (yX12_goesBy, cX12_goesBy, 3, (some .int), 12, 1445, mi_k213)) rfl (by decide) (show ¬ (3 : Nat) < 3 by decide) (fun d hd => ?_)
  show GG sc 12 false false mi_k213 d 0 [.ref 124, .int 0, .int x] [] (trM I T) nm (qE (x + nI g) (trM I (addT T 10)) nm)
  refine g_iload_n (n := 1) rfl rfl ?_
  refine g_look (off := 27) 28 rfl (by decide +kernel) (by decide +kernel) (by decide) ?_
  refine g_aload_n (n := 29) rfl rfl ?_
  refine g_bipush (n := 31) (v := 10) rfl rfl ?_
  refine g_cv1 (n := 34) (t := 211) (ci := 12) rfl (by decide +kernel) (by decide +kernel) (by decide) (by decide) (by decide +kernel) (by rfl) (c_ran (T := T) (b := 10) (by first | assumption | exact addT_le ht)) (by omega) (g_Z ?_)
  refine g_iload_n (n := 35) rfl rfl ?_
  refine g_aload_n (n := 36) rfl rfl ?_
  refine g_getv (n := 39) (ci := 12) (j := 20) (v := nI g) hwho rfl (by decide +kernel) rfl (by decide) (by decide) ?_
  refine g_iadd (n := 40) rfl ?_
  refine g_iret (n := 41) rfl (fun h => nomatch h) ?_
  exact ⟨rfl, rfl, rfl⟩
theorem c_vg_2 {sc : List Value} {nm : Nat} {I : mg_I} {T : List Int32} {g : Nat} {x : Int32} (ht : T.length ≤ 40) (hg : g < 8) (hwho : I 124 20 = nI g) : SP sc 3 213 [.ref 124, .int 2, .int x] (trM I T) nm (qE ((x + nI g) * 3) (trM I (addT (addT T 30) 10)) nm) := by
  refine SP.of (h := 2) (t := 213) (q := (yX12_goesBy, cX12_goesBy, 3, (some .int), 12, 1445, mi_k213)) rfl (by decide) (show ¬ (3 : Nat) < 3 by decide) (fun d hd => ?_)
  show GG sc 12 false false mi_k213 d 0 [.ref 124, .int 2, .int x] [] (trM I T) nm (qE ((x + nI g) * 3) (trM I (addT (addT T 30) 10)) nm)
  refine g_iload_n (n := 1) rfl rfl ?_
  refine g_look (off := 40) 41 rfl (by decide +kernel) (by decide +kernel) (by decide) ?_
  refine g_aload_n (n := 42) rfl rfl ?_
  refine g_bipush (n := 44) (v := 30) rfl rfl ?_
  refine g_cv1 (n := 47) (t := 211) (ci := 12) rfl (by decide +kernel) (by decide +kernel) (by decide) (by decide) (by decide +kernel) (by rfl) (c_ran (T := T) (b := 30) (by first | assumption | exact addT_le ht)) (by omega) (g_Z ?_)
  refine g_aload_n (n := 48) rfl rfl ?_
  refine g_iconst (n := 49) (v := 2) rfl rfl ?_
  refine g_cs1 (n := 52) (t := 179) (x := (1297, 1298, 84)) rfl (by decide +kernel) (by decide +kernel) (by rfl) (c_aboveI (k := 2)) (by omega) (g_E ?_)
  refine g_top (w := 0) (by decide) ?_
  refine g_iload_n (n := 53) rfl rfl ?_
  refine g_cv2 (n := 56) (t := 213) (ci := 12) rfl (by decide +kernel) (by decide +kernel) (by decide) (by decide) (by decide +kernel) (by rfl) (c_vg_0 (T := (addT T 30)) (by first | assumption | exact addT_le ht) hg hwho) (by omega) (g_E ?_)
  refine g_iconst (n := 57) (v := 3) rfl rfl ?_
  refine g_imul (n := 58) rfl ?_
  refine g_iret (n := 59) rfl (fun h => nomatch h) ?_
  exact ⟨rfl, rfl, rfl⟩
theorem c_vg_1 {sc : List Value} {nm : Nat} {I : mg_I} {T : List Int32} {g : Nat} {x : Int32} (ht : T.length ≤ 40) (hg : g < 8) (hwho : I 124 20 = nI g) : SP sc 3 213 [.ref 124, .int 1, .int x] (trM I T) nm (qE (x + nI g) (trM I (addT T 10)) nm) := by
  refine SP.of (h := 2) (t := 213) (q := (yX12_goesBy, cX12_goesBy, 3, (some .int), 12, 1445, mi_k213)) rfl (by decide) (show ¬ (3 : Nat) < 3 by decide) (fun d hd => ?_)
  show GG sc 12 false false mi_k213 d 0 [.ref 124, .int 1, .int x] [] (trM I T) nm (qE (x + nI g) (trM I (addT T 10)) nm)
  refine g_iload_n (n := 1) rfl rfl ?_
  refine g_look (off := 58) 59 rfl (by decide +kernel) (by decide +kernel) (by decide) ?_
  refine g_aload_n (n := 60) rfl rfl ?_
  refine g_iload_n (n := 61) rfl rfl ?_
  refine g_cs1 (n := 64) (t := 179) (x := (1297, 1298, 84)) rfl (by decide +kernel) (by decide +kernel) (by rfl) (c_aboveI (k := 1)) (by omega) (g_E ?_)
  refine g_top (w := 0) (by decide) ?_
  refine g_iload_n (n := 65) rfl rfl ?_
  refine g_cv2 (n := 68) (t := 213) (ci := 12) rfl (by decide +kernel) (by decide +kernel) (by decide) (by decide) (by decide +kernel) (by rfl) (c_vg_0 (T := T) (by first | assumption | exact addT_le ht) hg hwho) (by omega) (g_E ?_)
  refine g_iret (n := 69) rfl (fun h => nomatch h) ?_
  exact ⟨rfl, rfl, rfl⟩
theorem c_vg_3 {sc : List Value} {nm : Nat} {I : mg_I} {T : List Int32} {g : Nat} {x : Int32} (ht : T.length ≤ 40) (hg : g < 8) (hwho : I 124 20 = nI g) : SP sc 3 213 [.ref 124, .int 3, .int x] (trM I T) nm (qE (x + nI g) (trM I (addT T 10)) nm) := by
  refine SP.of (h := 2) (t := 213) (q := (yX12_goesBy, cX12_goesBy, 3, (some .int), 12, 1445, mi_k213)) rfl (by decide) (show ¬ (3 : Nat) < 3 by decide) (fun d hd => ?_)
  show GG sc 12 false false mi_k213 d 0 [.ref 124, .int 3, .int x] [] (trM I T) nm (qE (x + nI g) (trM I (addT T 10)) nm)
  refine g_iload_n (n := 1) rfl rfl ?_
  refine g_look (off := 58) 59 rfl (by decide +kernel) (by decide +kernel) (by decide) ?_
  refine g_aload_n (n := 60) rfl rfl ?_
  refine g_iload_n (n := 61) rfl rfl ?_
  refine g_cs1 (n := 64) (t := 179) (x := (1297, 1298, 84)) rfl (by decide +kernel) (by decide +kernel) (by rfl) (c_aboveI (k := 3)) (by omega) (g_E ?_)
  refine g_top (w := 0) (by decide) ?_
  refine g_iload_n (n := 65) rfl rfl ?_
  refine g_cv2 (n := 68) (t := 213) (ci := 12) rfl (by decide +kernel) (by decide +kernel) (by decide) (by decide) (by decide +kernel) (by rfl) (c_vg_0 (T := T) (by first | assumption | exact addT_le ht) hg hwho) (by omega) (g_E ?_)
  refine g_iret (n := 69) rfl (fun h => nomatch h) ?_
  exact ⟨rfl, rfl, rfl⟩
theorem c_vg_4 {sc : List Value} {nm : Nat} {I : mg_I} {T : List Int32} {g : Nat} {x : Int32} (ht : T.length ≤ 40) (hg : g < 8) (hwho : I 124 20 = nI g) : SP sc 4 213 [.ref 124, .int 4, .int x] (trM I T) nm (qE (x + nI g) (trM I (addT T 10)) nm) := by
  refine SP.of (h := 3) (t := 213) (q := (yX12_goesBy, cX12_goesBy, 3, (some .int), 12, 1445, mi_k213)) rfl (by decide) (show ¬ (3 : Nat) < 3 by decide) (fun d hd => ?_)
  show GG sc 12 false false mi_k213 d 0 [.ref 124, .int 4, .int x] [] (trM I T) nm (qE (x + nI g) (trM I (addT T 10)) nm)
  refine g_iload_n (n := 1) rfl rfl ?_
  refine g_look (off := 58) 59 rfl (by decide +kernel) (by decide +kernel) (by decide) ?_
  refine g_aload_n (n := 60) rfl rfl ?_
  refine g_iload_n (n := 61) rfl rfl ?_
  refine g_cs1 (n := 64) (t := 179) (x := (1297, 1298, 84)) rfl (by decide +kernel) (by decide +kernel) (by rfl) (c_aboveI (k := 4)) (by omega) (g_E ?_)
  refine g_top (w := 1) (by decide) ?_
  refine g_iload_n (n := 65) rfl rfl ?_
  refine g_cv2 (n := 68) (t := 213) (ci := 12) rfl (by decide +kernel) (by decide +kernel) (by decide) (by decide) (by decide +kernel) (by rfl) (c_vg_1 (T := T) (by first | assumption | exact addT_le ht) hg hwho) (by omega) (g_E ?_)
  refine g_iret (n := 69) rfl (fun h => nomatch h) ?_
  exact ⟨rfl, rfl, rfl⟩
theorem c_vg_5 {sc : List Value} {nm : Nat} {I : mg_I} {T : List Int32} {g : Nat} {x : Int32} (ht : T.length ≤ 40) (hg : g < 8) (hwho : I 124 20 = nI g) : SP sc 4 213 [.ref 124, .int 5, .int x] (trM I T) nm (qE ((x + nI g) * 3) (trM I (addT (addT T 30) 10)) nm) := by
  refine SP.of (h := 3) (t := 213) (q := (yX12_goesBy, cX12_goesBy, 3, (some .int), 12, 1445, mi_k213)) rfl (by decide) (show ¬ (3 : Nat) < 3 by decide) (fun d hd => ?_)
  show GG sc 12 false false mi_k213 d 0 [.ref 124, .int 5, .int x] [] (trM I T) nm (qE ((x + nI g) * 3) (trM I (addT (addT T 30) 10)) nm)
  refine g_iload_n (n := 1) rfl rfl ?_
  refine g_look (off := 58) 59 rfl (by decide +kernel) (by decide +kernel) (by decide) ?_
  refine g_aload_n (n := 60) rfl rfl ?_
  refine g_iload_n (n := 61) rfl rfl ?_
  refine g_cs1 (n := 64) (t := 179) (x := (1297, 1298, 84)) rfl (by decide +kernel) (by decide +kernel) (by rfl) (c_aboveI (k := 5)) (by omega) (g_E ?_)
  refine g_top (w := 2) (by decide) ?_
  refine g_iload_n (n := 65) rfl rfl ?_
  refine g_cv2 (n := 68) (t := 213) (ci := 12) rfl (by decide +kernel) (by decide +kernel) (by decide) (by decide) (by decide +kernel) (by rfl) (c_vg_2 (T := T) (by first | assumption | exact addT_le ht) hg hwho) (by omega) (g_E ?_)
  refine g_iret (n := 69) rfl (fun h => nomatch h) ?_
  exact ⟨rfl, rfl, rfl⟩
theorem c_vg_6 {sc : List Value} {nm : Nat} {I : mg_I} {T : List Int32} {g : Nat} {x : Int32} (ht : T.length ≤ 40) (hg : g < 8) (hwho : I 124 20 = nI g) : SP sc 4 213 [.ref 124, .int 6, .int x] (trM I T) nm (qE (x + nI g) (trM I (addT T 10)) nm) := by
  refine SP.of (h := 3) (t := 213) (q := (yX12_goesBy, cX12_goesBy, 3, (some .int), 12, 1445, mi_k213)) rfl (by decide) (show ¬ (3 : Nat) < 3 by decide) (fun d hd => ?_)
  show GG sc 12 false false mi_k213 d 0 [.ref 124, .int 6, .int x] [] (trM I T) nm (qE (x + nI g) (trM I (addT T 10)) nm)
  refine g_iload_n (n := 1) rfl rfl ?_
  refine g_look (off := 58) 59 rfl (by decide +kernel) (by decide +kernel) (by decide) ?_
  refine g_aload_n (n := 60) rfl rfl ?_
  refine g_iload_n (n := 61) rfl rfl ?_
  refine g_cs1 (n := 64) (t := 179) (x := (1297, 1298, 84)) rfl (by decide +kernel) (by decide +kernel) (by rfl) (c_aboveI (k := 6)) (by omega) (g_E ?_)
  refine g_top (w := 3) (by decide) ?_
  refine g_iload_n (n := 65) rfl rfl ?_
  refine g_cv2 (n := 68) (t := 213) (ci := 12) rfl (by decide +kernel) (by decide +kernel) (by decide) (by decide) (by decide +kernel) (by rfl) (c_vg_3 (T := T) (by first | assumption | exact addT_le ht) hg hwho) (by omega) (g_E ?_)
  refine g_iret (n := 69) rfl (fun h => nomatch h) ?_
  exact ⟨rfl, rfl, rfl⟩
theorem c_vg {sc : List Value} {nm : Nat} {I : mg_I} {T : List Int32} {g : Nat} {x : Int32} (ht : T.length ≤ 40) (hg : g < 8) (hwho : I 124 20 = nI g) {k : Int32} (hk : fK k) : SP sc 4 213 [.ref 124, .int k, .int x] (trM I T) nm (qE (vGo k (nI g) x T).1 (trM I (vGo k (nI g) x T).2) nm) := by
  rcases hk with rfl | rfl | rfl | rfl | rfl | rfl | rfl
  · exact fun d hd => c_vg_0 ht hg hwho d (by omega)
  · exact fun d hd => c_vg_1 ht hg hwho d (by omega)
  · exact fun d hd => c_vg_2 ht hg hwho d (by omega)
  · exact fun d hd => c_vg_3 ht hg hwho d (by omega)
  · exact fun d hd => c_vg_4 ht hg hwho d (by omega)
  · exact fun d hd => c_vg_5 ht hg hwho d (by omega)
  · exact fun d hd => c_vg_6 ht hg hwho d (by omega)
theorem c_yi_0 {sc : List Value} {nm : Nat} {I : mg_I} {T : List Int32} {g : Nat} {x : Int32} (ht : T.length ≤ 40) (hg : g < 8) (hwho : I 124 20 = nI g) : SP sc 2 215 [.ref 124, .int 0, .int x] (trM I T) nm (qE (x - (fO (I 125) g 1)) (trM I (addT T 12)) nm) := by
  refine SP.of (h := 1) (t := 215) (q := (yX12_yieldsBy, cX12_yieldsBy, 3, (some .int), 12, 1457, mi_k215)) rfl (by decide) (show ¬ (3 : Nat) < 3 by decide) (fun d hd => ?_)
  show GG sc 12 false false mi_k215 d 0 [.ref 124, .int 0, .int x] [] (trM I T) nm (qE (x - (fO (I 125) g 1)) (trM I (addT T 12)) nm)
  refine g_iload_n (n := 1) rfl rfl ?_
  refine g_look (off := 35) 36 rfl (by decide +kernel) (by decide +kernel) (by decide) ?_
  refine g_aload_n (n := 37) rfl rfl ?_
  refine g_bipush (n := 39) (v := 12) rfl rfl ?_
  refine g_cv1 (n := 42) (t := 211) (ci := 12) rfl (by decide +kernel) (by decide +kernel) (by decide) (by decide) (by decide +kernel) (by rfl) (c_ran (T := T) (b := 12) (by first | assumption | exact addT_le ht)) (by omega) (g_Z ?_)
  refine g_iload_n (n := 43) rfl rfl ?_
  refine g_aload_n (n := 44) rfl rfl ?_
  refine g_aload_n (n := 45) rfl rfl ?_
  refine g_getv (n := 48) (ci := 12) (j := 20) (v := nI g) hwho rfl (by decide +kernel) rfl (by decide) (by decide) ?_
  refine g_iconst (n := 49) (v := 1) rfl rfl ?_
  refine g_cv2 (n := 52) (t := 145) (ci := 12) rfl (by decide +kernel) (by decide +kernel) (by decide) (by decide) (by decide +kernel) (by rfl) (c_of (g := g) (w := 1) (by omega) (by omega)) (by omega) (g_E ?_)
  refine g_isub (n := 53) rfl ?_
  refine g_iret (n := 54) rfl (fun h => nomatch h) ?_
  exact ⟨rfl, rfl, rfl⟩
theorem c_yi_1 {sc : List Value} {nm : Nat} {I : mg_I} {T : List Int32} {g : Nat} {x : Int32} (ht : T.length ≤ 40) (hg : g < 8) (hwho : I 124 20 = nI g) : SP sc 3 215 [.ref 124, .int 1, .int x] (trM I T) nm (qE (x - (fO (I 125) g 1)) (trM I (addT T 12)) nm) := by
  refine SP.of (h := 2) (t := 215) (q := (yX12_yieldsBy, cX12_yieldsBy, 3, (some .int), 12, 1457, mi_k215)) rfl (by decide) (show ¬ (3 : Nat) < 3 by decide) (fun d hd => ?_)
  show GG sc 12 false false mi_k215 d 0 [.ref 124, .int 1, .int x] [] (trM I T) nm (qE (x - (fO (I 125) g 1)) (trM I (addT T 12)) nm)
  refine g_iload_n (n := 1) rfl rfl ?_
  refine g_look (off := 92) 93 rfl (by decide +kernel) (by decide +kernel) (by decide) ?_
  refine g_aload_n (n := 94) rfl rfl ?_
  refine g_iload_n (n := 95) rfl rfl ?_
  refine g_cs1 (n := 98) (t := 179) (x := (1297, 1298, 84)) rfl (by decide +kernel) (by decide +kernel) (by rfl) (c_aboveI (k := 1)) (by omega) (g_E ?_)
  refine g_top (w := 0) (by decide) ?_
  refine g_iload_n (n := 99) rfl rfl ?_
  refine g_cv2 (n := 102) (t := 215) (ci := 12) rfl (by decide +kernel) (by decide +kernel) (by decide) (by decide) (by decide +kernel) (by rfl) (c_yi_0 (T := T) (by first | assumption | exact addT_le ht) hg hwho) (by omega) (g_E ?_)
  refine g_iret (n := 103) rfl (fun h => nomatch h) ?_
  exact ⟨rfl, rfl, rfl⟩
theorem c_yi_2 {sc : List Value} {nm : Nat} {I : mg_I} {T : List Int32} {g : Nat} {x : Int32} (ht : T.length ≤ 40) (hg : g < 8) (hwho : I 124 20 = nI g) : SP sc 3 215 [.ref 124, .int 2, .int x] (trM I T) nm (qE (x - (fO (I 125) g 1)) (trM I (addT T 12)) nm) := by
  refine SP.of (h := 2) (t := 215) (q := (yX12_yieldsBy, cX12_yieldsBy, 3, (some .int), 12, 1457, mi_k215)) rfl (by decide) (show ¬ (3 : Nat) < 3 by decide) (fun d hd => ?_)
  show GG sc 12 false false mi_k215 d 0 [.ref 124, .int 2, .int x] [] (trM I T) nm (qE (x - (fO (I 125) g 1)) (trM I (addT T 12)) nm)
  refine g_iload_n (n := 1) rfl rfl ?_
  refine g_look (off := 92) 93 rfl (by decide +kernel) (by decide +kernel) (by decide) ?_
  refine g_aload_n (n := 94) rfl rfl ?_
  refine g_iload_n (n := 95) rfl rfl ?_
  refine g_cs1 (n := 98) (t := 179) (x := (1297, 1298, 84)) rfl (by decide +kernel) (by decide +kernel) (by rfl) (c_aboveI (k := 2)) (by omega) (g_E ?_)
  refine g_top (w := 0) (by decide) ?_
  refine g_iload_n (n := 99) rfl rfl ?_
  refine g_cv2 (n := 102) (t := 215) (ci := 12) rfl (by decide +kernel) (by decide +kernel) (by decide) (by decide) (by decide +kernel) (by rfl) (c_yi_0 (T := T) (by first | assumption | exact addT_le ht) hg hwho) (by omega) (g_E ?_)
  refine g_iret (n := 103) rfl (fun h => nomatch h) ?_
  exact ⟨rfl, rfl, rfl⟩
theorem c_yi_3 {sc : List Value} {nm : Nat} {I : mg_I} {T : List Int32} {g : Nat} {x : Int32} (ht : T.length ≤ 40) (hg : g < 8) (hwho : I 124 20 = nI g) : SP sc 3 215 [.ref 124, .int 3, .int x] (trM I T) nm (qE (-(x - (fO (I 125) g 1))) (trM I (addT (addT T 40) 12)) nm) := by
  refine SP.of (h := 2) (t := 215) (q := (yX12_yieldsBy, cX12_yieldsBy, 3, (some .int), 12, 1457, mi_k215)) rfl (by decide) (show ¬ (3 : Nat) < 3 by decide) (fun d hd => ?_)
  show GG sc 12 false false mi_k215 d 0 [.ref 124, .int 3, .int x] [] (trM I T) nm (qE (-(x - (fO (I 125) g 1))) (trM I (addT (addT T 40) 12)) nm)
  refine g_iload_n (n := 1) rfl rfl ?_
  refine g_look (off := 53) 54 rfl (by decide +kernel) (by decide +kernel) (by decide) ?_
  refine g_aload_n (n := 55) rfl rfl ?_
  refine g_bipush (n := 57) (v := 40) rfl rfl ?_
  refine g_cv1 (n := 60) (t := 211) (ci := 12) rfl (by decide +kernel) (by decide +kernel) (by decide) (by decide) (by decide +kernel) (by rfl) (c_ran (T := T) (b := 40) (by first | assumption | exact addT_le ht)) (by omega) (g_Z ?_)
  refine g_aload_n (n := 61) rfl rfl ?_
  refine g_iconst (n := 62) (v := 3) rfl rfl ?_
  refine g_cs1 (n := 65) (t := 179) (x := (1297, 1298, 84)) rfl (by decide +kernel) (by decide +kernel) (by rfl) (c_aboveI (k := 3)) (by omega) (g_E ?_)
  refine g_top (w := 0) (by decide) ?_
  refine g_iload_n (n := 66) rfl rfl ?_
  refine g_cv2 (n := 69) (t := 215) (ci := 12) rfl (by decide +kernel) (by decide +kernel) (by decide) (by decide) (by decide +kernel) (by rfl) (c_yi_0 (T := (addT T 40)) (by first | assumption | exact addT_le ht) hg hwho) (by omega) (g_E ?_)
  refine g_ineg (n := 70) rfl ?_
  refine g_iret (n := 71) rfl (fun h => nomatch h) ?_
  exact ⟨rfl, rfl, rfl⟩
theorem c_yi_4 {sc : List Value} {nm : Nat} {I : mg_I} {T : List Int32} {g : Nat} {x : Int32} (ht : T.length ≤ 40) (hg : g < 8) (hwho : I 124 20 = nI g) : SP sc 4 215 [.ref 124, .int 4, .int x] (trM I T) nm (qE (x - (fO (I 125) g 1)) (trM I (addT T 12)) nm) := by
  refine SP.of (h := 3) (t := 215) (q := (yX12_yieldsBy, cX12_yieldsBy, 3, (some .int), 12, 1457, mi_k215)) rfl (by decide) (show ¬ (3 : Nat) < 3 by decide) (fun d hd => ?_)
  show GG sc 12 false false mi_k215 d 0 [.ref 124, .int 4, .int x] [] (trM I T) nm (qE (x - (fO (I 125) g 1)) (trM I (addT T 12)) nm)
  refine g_iload_n (n := 1) rfl rfl ?_
  refine g_look (off := 92) 93 rfl (by decide +kernel) (by decide +kernel) (by decide) ?_
  refine g_aload_n (n := 94) rfl rfl ?_
  refine g_iload_n (n := 95) rfl rfl ?_
  refine g_cs1 (n := 98) (t := 179) (x := (1297, 1298, 84)) rfl (by decide +kernel) (by decide +kernel) (by rfl) (c_aboveI (k := 4)) (by omega) (g_E ?_)
  refine g_top (w := 1) (by decide) ?_
  refine g_iload_n (n := 99) rfl rfl ?_
  refine g_cv2 (n := 102) (t := 215) (ci := 12) rfl (by decide +kernel) (by decide +kernel) (by decide) (by decide) (by decide +kernel) (by rfl) (c_yi_1 (T := T) (by first | assumption | exact addT_le ht) hg hwho) (by omega) (g_E ?_)
  refine g_iret (n := 103) rfl (fun h => nomatch h) ?_
  exact ⟨rfl, rfl, rfl⟩
theorem c_yi_5 {sc : List Value} {nm : Nat} {I : mg_I} {T : List Int32} {g : Nat} {x : Int32} (ht : T.length ≤ 40) (hg : g < 8) (hwho : I 124 20 = nI g) : SP sc 4 215 [.ref 124, .int 5, .int x] (trM I T) nm (qE (x - (fO (I 125) g 1)) (trM I (addT T 12)) nm) := by
  refine SP.of (h := 3) (t := 215) (q := (yX12_yieldsBy, cX12_yieldsBy, 3, (some .int), 12, 1457, mi_k215)) rfl (by decide) (show ¬ (3 : Nat) < 3 by decide) (fun d hd => ?_)
  show GG sc 12 false false mi_k215 d 0 [.ref 124, .int 5, .int x] [] (trM I T) nm (qE (x - (fO (I 125) g 1)) (trM I (addT T 12)) nm)
  refine g_iload_n (n := 1) rfl rfl ?_
  refine g_look (off := 92) 93 rfl (by decide +kernel) (by decide +kernel) (by decide) ?_
  refine g_aload_n (n := 94) rfl rfl ?_
  refine g_iload_n (n := 95) rfl rfl ?_
  refine g_cs1 (n := 98) (t := 179) (x := (1297, 1298, 84)) rfl (by decide +kernel) (by decide +kernel) (by rfl) (c_aboveI (k := 5)) (by omega) (g_E ?_)
  refine g_top (w := 2) (by decide) ?_
  refine g_iload_n (n := 99) rfl rfl ?_
  refine g_cv2 (n := 102) (t := 215) (ci := 12) rfl (by decide +kernel) (by decide +kernel) (by decide) (by decide) (by decide +kernel) (by rfl) (c_yi_2 (T := T) (by first | assumption | exact addT_le ht) hg hwho) (by omega) (g_E ?_)
  refine g_iret (n := 103) rfl (fun h => nomatch h) ?_
  exact ⟨rfl, rfl, rfl⟩
theorem c_yi_6 {sc : List Value} {nm : Nat} {I : mg_I} {T : List Int32} {g : Nat} {x : Int32} (ht : T.length ≤ 40) (hg : g < 8) (hwho : I 124 20 = nI g) : SP sc 4 215 [.ref 124, .int 6, .int x] (trM I T) nm (qE (-(x - (fO (I 125) g 1)) ^^^ nI g) (trM I (addT (addT (addT T 70) 40) 12)) nm) := by
  refine SP.of (h := 3) (t := 215) (q := (yX12_yieldsBy, cX12_yieldsBy, 3, (some .int), 12, 1457, mi_k215)) rfl (by decide) (show ¬ (3 : Nat) < 3 by decide) (fun d hd => ?_)
  show GG sc 12 false false mi_k215 d 0 [.ref 124, .int 6, .int x] [] (trM I T) nm (qE (-(x - (fO (I 125) g 1)) ^^^ nI g) (trM I (addT (addT (addT T 70) 40) 12)) nm)
  refine g_iload_n (n := 1) rfl rfl ?_
  refine g_look (off := 70) 71 rfl (by decide +kernel) (by decide +kernel) (by decide) ?_
  refine g_aload_n (n := 72) rfl rfl ?_
  refine g_bipush (n := 74) (v := 70) rfl rfl ?_
  refine g_cv1 (n := 77) (t := 211) (ci := 12) rfl (by decide +kernel) (by decide +kernel) (by decide) (by decide) (by decide +kernel) (by rfl) (c_ran (T := T) (b := 70) (by first | assumption | exact addT_le ht)) (by omega) (g_Z ?_)
  refine g_aload_n (n := 78) rfl rfl ?_
  refine g_bipush (n := 80) (v := 6) rfl rfl ?_
  refine g_cs1 (n := 83) (t := 179) (x := (1297, 1298, 84)) rfl (by decide +kernel) (by decide +kernel) (by rfl) (c_aboveI (k := 6)) (by omega) (g_E ?_)
  refine g_top (w := 3) (by decide) ?_
  refine g_iload_n (n := 84) rfl rfl ?_
  refine g_cv2 (n := 87) (t := 215) (ci := 12) rfl (by decide +kernel) (by decide +kernel) (by decide) (by decide) (by decide +kernel) (by rfl) (c_yi_3 (T := (addT T 70)) (by first | assumption | exact addT_le ht) hg hwho) (by omega) (g_E ?_)
  refine g_aload_n (n := 88) rfl rfl ?_
  refine g_getv (n := 91) (ci := 12) (j := 20) (v := nI g) hwho rfl (by decide +kernel) rfl (by decide) (by decide) ?_
  refine g_ixor (n := 92) rfl ?_
  refine g_iret (n := 93) rfl (fun h => nomatch h) ?_
  exact ⟨rfl, rfl, rfl⟩
theorem c_yi {sc : List Value} {nm : Nat} {I : mg_I} {T : List Int32} {g : Nat} {x : Int32} (ht : T.length ≤ 40) (hg : g < 8) (hwho : I 124 20 = nI g) {k : Int32} (hk : fK k) : SP sc 4 215 [.ref 124, .int k, .int x] (trM I T) nm (qE (vYi k (nI g) (fO (I 125) g 1) x T).1 (trM I (vYi k (nI g) (fO (I 125) g 1) x T).2) nm) := by
  rcases hk with rfl | rfl | rfl | rfl | rfl | rfl | rfl
  · exact fun d hd => c_yi_0 ht hg hwho d (by omega)
  · exact fun d hd => c_yi_1 ht hg hwho d (by omega)
  · exact fun d hd => c_yi_2 ht hg hwho d (by omega)
  · exact fun d hd => c_yi_3 ht hg hwho d (by omega)
  · exact fun d hd => c_yi_4 ht hg hwho d (by omega)
  · exact fun d hd => c_yi_5 ht hg hwho d (by omega)
  · exact fun d hd => c_yi_6 ht hg hwho d (by omega)
theorem c_bl_0 {sc : List Value} {nm : Nat} {I : mg_I} {T : List Int32} {g : Nat} {x : Int32} (ht : T.length ≤ 40) (hg : g < 8) (hwho : I 124 20 = nI g) (hko : fK (fO (I 125) g 0)) : SP sc 5 214 [.ref 124, .int 0, .int x] (trM I T) nm (qE ((vBl0 (fO (I 125) g 0) (nI g) x T).1) (trM I (vBl0 (fO (I 125) g 0) (nI g) x T).2) nm) := by
  refine SP.of (h := 4) (t := 214) (q := (yX12_blowsBy, cX12_blowsBy, 4, (some .int), 12, 1453, mi_k214)) rfl (by decide) (show ¬ (4 : Nat) < 3 by decide) (fun d hd => ?_)
  show GG sc 12 false false mi_k214 d 0 [.ref 124, .int 0, .int x, .null] [] (trM I T) nm (qE ((vBl0 (fO (I 125) g 0) (nI g) x T).1) (trM I (vBl0 (fO (I 125) g 0) (nI g) x T).2) nm)
  refine g_iload_n (n := 1) rfl rfl ?_
  refine g_tab 36 rfl (by decide) (by decide) rfl (by decide) ?_
  refine g_aload_n (n := 37) rfl rfl ?_
  refine g_bipush (n := 39) (v := 11) rfl rfl ?_
  refine g_cv1 (n := 42) (t := 211) (ci := 12) rfl (by decide +kernel) (by decide +kernel) (by decide) (by decide) (by decide +kernel) (by rfl) (c_ran (T := T) (b := 11) (by first | assumption | exact addT_le ht)) (by omega) (g_Z ?_)
  refine g_aload_n (n := 43) rfl rfl ?_
  refine g_aload_n (n := 44) rfl rfl ?_
  refine g_cv0 (n := 47) (t := 212) (ci := 12) rfl (by decide +kernel) (by decide +kernel) (by decide) (by decide) (by decide +kernel) (by rfl) (c_own hg hwho) (by omega) (g_E ?_)
  refine g_iload_n (n := 48) rfl rfl ?_
  refine g_cv2 (n := 51) (t := 213) (ci := 12) rfl (by decide +kernel) (by decide +kernel) (by decide) (by decide) (by decide +kernel) (by rfl) (c_vg (T := (addT T 11)) (x := x) (addT_le ht) hg hwho hko) (by omega) (g_E ?_)
  refine g_iconst (n := 52) (v := 2) rfl rfl ?_
  refine g_imul (n := 53) rfl ?_
  refine g_iret (n := 54) rfl (fun h => nomatch h) ?_
  exact ⟨rfl, rfl, rfl⟩
theorem c_bl_1 {sc : List Value} {nm : Nat} {I : mg_I} {T : List Int32} {g : Nat} {x : Int32} (ht : T.length ≤ 40) (hg : g < 8) (hwho : I 124 20 = nI g) (hko : fK (fO (I 125) g 0)) : SP sc 6 214 [.ref 124, .int 1, .int x] (trM I T) nm (qE ((vCo (fO (I 125) g 0) (nI g) (fO (I 125) g 1) x T).1) (trM I (vCo (fO (I 125) g 0) (nI g) (fO (I 125) g 1) x T).2) nm) := by
  refine SP.of (h := 5) (t := 214) (q := (yX12_blowsBy, cX12_blowsBy, 4, (some .int), 12, 1453, mi_k214)) rfl (by decide) (show ¬ (4 : Nat) < 3 by decide) (fun d hd => ?_)
  show GG sc 12 false false mi_k214 d 0 [.ref 124, .int 1, .int x, .null] [] (trM I T) nm (qE ((vCo (fO (I 125) g 0) (nI g) (fO (I 125) g 1) x T).1) (trM I (vCo (fO (I 125) g 0) (nI g) (fO (I 125) g 1) x T).2) nm)
  refine g_iload_n (n := 1) rfl rfl ?_
  refine g_tab 54 rfl (by decide) (by decide) rfl (by decide) ?_
  refine g_aload_n (n := 55) rfl rfl ?_
  refine g_bipush (n := 57) (v := 20) rfl rfl ?_
  refine g_cv1 (n := 60) (t := 211) (ci := 12) rfl (by decide +kernel) (by decide +kernel) (by decide) (by decide) (by decide +kernel) (by rfl) (c_ran (T := T) (b := 20) (by first | assumption | exact addT_le ht)) (by omega) (g_Z ?_)
  refine g_aload_n (n := 61) rfl rfl ?_
  refine g_iconst (n := 62) (v := 1) rfl rfl ?_
  refine g_cs1 (n := 65) (t := 179) (x := (1297, 1298, 84)) rfl (by decide +kernel) (by decide +kernel) (by rfl) (c_aboveI (k := 1)) (by omega) (g_E ?_)
  refine g_top (w := 0) (by decide) ?_
  refine g_iload_n (n := 66) rfl rfl ?_
  refine g_cv2 (n := 69) (t := 214) (ci := 12) rfl (by decide +kernel) (by decide +kernel) (by decide) (by decide) (by decide +kernel) (by rfl) (c_bl_0 (T := (addT T 20)) (x := x) (by first | assumption | exact addT_le ht) hg hwho hko) (by omega) (g_E ?_)
  refine g_istore_n3 (n := 70) rfl rfl ?_
  refine g_iload_n (n := 71) rfl rfl ?_
  refine g_aload_n (n := 72) rfl rfl ?_
  refine g_aload_n (n := 73) rfl rfl ?_
  refine g_cv0 (n := 76) (t := 212) (ci := 12) rfl (by decide +kernel) (by decide +kernel) (by decide) (by decide) (by decide +kernel) (by rfl) (c_own hg hwho) (by omega) (g_E ?_)
  refine g_iconst (n := 77) (v := 1) rfl rfl ?_
  refine g_cv2 (n := 80) (t := 215) (ci := 12) rfl (by decide +kernel) (by decide +kernel) (by decide) (by decide) (by decide +kernel) (by rfl) (c_yi (T := ((vBl0 (fO (I 125) g 0) (nI g) x (addT T 20)).2)) (x := 1) (vBl0_le (addT_le ht)) hg hwho hko) (by omega) (g_E ?_)
  refine g_isub (n := 81) rfl ?_
  refine g_iret (n := 82) rfl (fun h => nomatch h) ?_
  exact ⟨rfl, rfl, rfl⟩
theorem c_bl_2 {sc : List Value} {nm : Nat} {I : mg_I} {T : List Int32} {g : Nat} {x : Int32} (ht : T.length ≤ 40) (hg : g < 8) (hwho : I 124 20 = nI g) (hko : fK (fO (I 125) g 0)) : SP sc 6 214 [.ref 124, .int 2, .int x] (trM I T) nm (qE ((vBl0 (fO (I 125) g 0) (nI g) x T).1) (trM I (vBl0 (fO (I 125) g 0) (nI g) x T).2) nm) := by
  refine SP.of (h := 5) (t := 214) (q := (yX12_blowsBy, cX12_blowsBy, 4, (some .int), 12, 1453, mi_k214)) rfl (by decide) (show ¬ (4 : Nat) < 3 by decide) (fun d hd => ?_)
  show GG sc 12 false false mi_k214 d 0 [.ref 124, .int 2, .int x, .null] [] (trM I T) nm (qE ((vBl0 (fO (I 125) g 0) (nI g) x T).1) (trM I (vBl0 (fO (I 125) g 0) (nI g) x T).2) nm)
  refine g_iload_n (n := 1) rfl rfl ?_
  refine g_tab 100 rfl (by decide) (by decide) rfl (by decide) ?_
  refine g_aload_n (n := 101) rfl rfl ?_
  refine g_iload_n (n := 102) rfl rfl ?_
  refine g_cs1 (n := 105) (t := 179) (x := (1297, 1298, 84)) rfl (by decide +kernel) (by decide +kernel) (by rfl) (c_aboveI (k := 2)) (by omega) (g_E ?_)
  refine g_top (w := 0) (by decide) ?_
  refine g_iload_n (n := 106) rfl rfl ?_
  refine g_cv2 (n := 109) (t := 214) (ci := 12) rfl (by decide +kernel) (by decide +kernel) (by decide) (by decide) (by decide +kernel) (by rfl) (c_bl_0 (T := T) (x := x) (by first | assumption | exact addT_le ht) hg hwho hko) (by omega) (g_E ?_)
  refine g_iret (n := 110) rfl (fun h => nomatch h) ?_
  exact ⟨rfl, rfl, rfl⟩
theorem c_bl_3 {sc : List Value} {nm : Nat} {I : mg_I} {T : List Int32} {g : Nat} {x : Int32} (ht : T.length ≤ 40) (hg : g < 8) (hwho : I 124 20 = nI g) (hko : fK (fO (I 125) g 0)) : SP sc 6 214 [.ref 124, .int 3, .int x] (trM I T) nm (qE ((vBl0 (fO (I 125) g 0) (nI g) x T).1) (trM I (vBl0 (fO (I 125) g 0) (nI g) x T).2) nm) := by
  refine SP.of (h := 5) (t := 214) (q := (yX12_blowsBy, cX12_blowsBy, 4, (some .int), 12, 1453, mi_k214)) rfl (by decide) (show ¬ (4 : Nat) < 3 by decide) (fun d hd => ?_)
  show GG sc 12 false false mi_k214 d 0 [.ref 124, .int 3, .int x, .null] [] (trM I T) nm (qE ((vBl0 (fO (I 125) g 0) (nI g) x T).1) (trM I (vBl0 (fO (I 125) g 0) (nI g) x T).2) nm)
  refine g_iload_n (n := 1) rfl rfl ?_
  refine g_tab 100 rfl (by decide) (by decide) rfl (by decide) ?_
  refine g_aload_n (n := 101) rfl rfl ?_
  refine g_iload_n (n := 102) rfl rfl ?_
  refine g_cs1 (n := 105) (t := 179) (x := (1297, 1298, 84)) rfl (by decide +kernel) (by decide +kernel) (by rfl) (c_aboveI (k := 3)) (by omega) (g_E ?_)
  refine g_top (w := 0) (by decide) ?_
  refine g_iload_n (n := 106) rfl rfl ?_
  refine g_cv2 (n := 109) (t := 214) (ci := 12) rfl (by decide +kernel) (by decide +kernel) (by decide) (by decide) (by decide +kernel) (by rfl) (c_bl_0 (T := T) (x := x) (by first | assumption | exact addT_le ht) hg hwho hko) (by omega) (g_E ?_)
  refine g_iret (n := 110) rfl (fun h => nomatch h) ?_
  exact ⟨rfl, rfl, rfl⟩
theorem c_bl_4 {sc : List Value} {nm : Nat} {I : mg_I} {T : List Int32} {g : Nat} {x : Int32} (ht : T.length ≤ 40) (hg : g < 8) (hwho : I 124 20 = nI g) (hko : fK (fO (I 125) g 0)) : SP sc 7 214 [.ref 124, .int 4, .int x] (trM I T) nm (qE ((vCo (fO (I 125) g 0) (nI g) (fO (I 125) g 1) (x + 1) (addT T 50)).1) (trM I (vCo (fO (I 125) g 0) (nI g) (fO (I 125) g 1) (x + 1) (addT T 50)).2) nm) := by
  refine SP.of (h := 6) (t := 214) (q := (yX12_blowsBy, cX12_blowsBy, 4, (some .int), 12, 1453, mi_k214)) rfl (by decide) (show ¬ (4 : Nat) < 3 by decide) (fun d hd => ?_)
  show GG sc 12 false false mi_k214 d 0 [.ref 124, .int 4, .int x, .null] [] (trM I T) nm (qE ((vCo (fO (I 125) g 0) (nI g) (fO (I 125) g 1) (x + 1) (addT T 50)).1) (trM I (vCo (fO (I 125) g 0) (nI g) (fO (I 125) g 1) (x + 1) (addT T 50)).2) nm)
  refine g_iload_n (n := 1) rfl rfl ?_
  refine g_tab 82 rfl (by decide) (by decide) rfl (by decide) ?_
  refine g_aload_n (n := 83) rfl rfl ?_
  refine g_bipush (n := 85) (v := 50) rfl rfl ?_
  refine g_cv1 (n := 88) (t := 211) (ci := 12) rfl (by decide +kernel) (by decide +kernel) (by decide) (by decide) (by decide +kernel) (by rfl) (c_ran (T := T) (b := 50) (by first | assumption | exact addT_le ht)) (by omega) (g_Z ?_)
  refine g_aload_n (n := 89) rfl rfl ?_
  refine g_iconst (n := 90) (v := 4) rfl rfl ?_
  refine g_cs1 (n := 93) (t := 179) (x := (1297, 1298, 84)) rfl (by decide +kernel) (by decide +kernel) (by rfl) (c_aboveI (k := 4)) (by omega) (g_E ?_)
  refine g_top (w := 1) (by decide) ?_
  refine g_iload_n (n := 94) rfl rfl ?_
  refine g_iconst (n := 95) (v := 1) rfl rfl ?_
  refine g_iadd (n := 96) rfl ?_
  refine g_cv2 (n := 99) (t := 214) (ci := 12) rfl (by decide +kernel) (by decide +kernel) (by decide) (by decide) (by decide +kernel) (by rfl) (c_bl_1 (T := (addT T 50)) (x := (x + 1)) (by first | assumption | exact addT_le ht) hg hwho hko) (by omega) (g_E ?_)
  refine g_iret (n := 100) rfl (fun h => nomatch h) ?_
  exact ⟨rfl, rfl, rfl⟩
theorem c_bl_5 {sc : List Value} {nm : Nat} {I : mg_I} {T : List Int32} {g : Nat} {x : Int32} (ht : T.length ≤ 40) (hg : g < 8) (hwho : I 124 20 = nI g) (hko : fK (fO (I 125) g 0)) : SP sc 7 214 [.ref 124, .int 5, .int x] (trM I T) nm (qE ((vBl0 (fO (I 125) g 0) (nI g) x T).1) (trM I (vBl0 (fO (I 125) g 0) (nI g) x T).2) nm) := by
  refine SP.of (h := 6) (t := 214) (q := (yX12_blowsBy, cX12_blowsBy, 4, (some .int), 12, 1453, mi_k214)) rfl (by decide) (show ¬ (4 : Nat) < 3 by decide) (fun d hd => ?_)
  show GG sc 12 false false mi_k214 d 0 [.ref 124, .int 5, .int x, .null] [] (trM I T) nm (qE ((vBl0 (fO (I 125) g 0) (nI g) x T).1) (trM I (vBl0 (fO (I 125) g 0) (nI g) x T).2) nm)
  refine g_iload_n (n := 1) rfl rfl ?_
  refine g_tabo 100 rfl (by decide) (by decide) ?_
  refine g_aload_n (n := 101) rfl rfl ?_
  refine g_iload_n (n := 102) rfl rfl ?_
  refine g_cs1 (n := 105) (t := 179) (x := (1297, 1298, 84)) rfl (by decide +kernel) (by decide +kernel) (by rfl) (c_aboveI (k := 5)) (by omega) (g_E ?_)
  refine g_top (w := 2) (by decide) ?_
  refine g_iload_n (n := 106) rfl rfl ?_
  refine g_cv2 (n := 109) (t := 214) (ci := 12) rfl (by decide +kernel) (by decide +kernel) (by decide) (by decide) (by decide +kernel) (by rfl) (c_bl_2 (T := T) (x := x) (by first | assumption | exact addT_le ht) hg hwho hko) (by omega) (g_E ?_)
  refine g_iret (n := 110) rfl (fun h => nomatch h) ?_
  exact ⟨rfl, rfl, rfl⟩
theorem c_bl_6 {sc : List Value} {nm : Nat} {I : mg_I} {T : List Int32} {g : Nat} {x : Int32} (ht : T.length ≤ 40) (hg : g < 8) (hwho : I 124 20 = nI g) (hko : fK (fO (I 125) g 0)) : SP sc 7 214 [.ref 124, .int 6, .int x] (trM I T) nm (qE ((vBl0 (fO (I 125) g 0) (nI g) x T).1) (trM I (vBl0 (fO (I 125) g 0) (nI g) x T).2) nm) := by
  refine SP.of (h := 6) (t := 214) (q := (yX12_blowsBy, cX12_blowsBy, 4, (some .int), 12, 1453, mi_k214)) rfl (by decide) (show ¬ (4 : Nat) < 3 by decide) (fun d hd => ?_)
  show GG sc 12 false false mi_k214 d 0 [.ref 124, .int 6, .int x, .null] [] (trM I T) nm (qE ((vBl0 (fO (I 125) g 0) (nI g) x T).1) (trM I (vBl0 (fO (I 125) g 0) (nI g) x T).2) nm)
  refine g_iload_n (n := 1) rfl rfl ?_
  refine g_tabo 100 rfl (by decide) (by decide) ?_
  refine g_aload_n (n := 101) rfl rfl ?_
  refine g_iload_n (n := 102) rfl rfl ?_
  refine g_cs1 (n := 105) (t := 179) (x := (1297, 1298, 84)) rfl (by decide +kernel) (by decide +kernel) (by rfl) (c_aboveI (k := 6)) (by omega) (g_E ?_)
  refine g_top (w := 3) (by decide) ?_
  refine g_iload_n (n := 106) rfl rfl ?_
  refine g_cv2 (n := 109) (t := 214) (ci := 12) rfl (by decide +kernel) (by decide +kernel) (by decide) (by decide) (by decide +kernel) (by rfl) (c_bl_3 (T := T) (x := x) (by first | assumption | exact addT_le ht) hg hwho hko) (by omega) (g_E ?_)
  refine g_iret (n := 110) rfl (fun h => nomatch h) ?_
  exact ⟨rfl, rfl, rfl⟩
theorem c_bl {sc : List Value} {nm : Nat} {I : mg_I} {T : List Int32} {g : Nat} {x : Int32} (ht : T.length ≤ 40) (hg : g < 8) (hwho : I 124 20 = nI g) (hko : fK (fO (I 125) g 0)) : SP sc 7 214 [.ref 124, .int (fO (I 125) g 0), .int x] (trM I T) nm (qE (vBl (fO (I 125) g 0) (nI g) (fO (I 125) g 1) x T).1 (trM I (vBl (fO (I 125) g 0) (nI g) (fO (I 125) g 1) x T).2) nm) := by
  have hko2 := hko
  unfold vBl
  rcases hko2 with e | e | e | e | e | e | e
  · rw [if_neg (by rw [e]; decide), if_neg (by rw [e]; decide)]
    have hh := c_bl_0 (sc := sc) (nm := nm) (x := x) ht hg hwho hko
    refine fun d hd => ?_
    have h2 := hh d (by omega)
    rw [show ([Value.ref 124, Value.int 0, Value.int x] : List Value) = [Value.ref 124, Value.int (fO (I 125) g 0), Value.int x] by rw [e]] at h2
    exact h2
  · rw [if_pos e]
    have hh := c_bl_1 (sc := sc) (nm := nm) (x := x) ht hg hwho hko
    refine fun d hd => ?_
    have h2 := hh d (by omega)
    rw [show ([Value.ref 124, Value.int 1, Value.int x] : List Value) = [Value.ref 124, Value.int (fO (I 125) g 0), Value.int x] by rw [e]] at h2
    exact h2
  · rw [if_neg (by rw [e]; decide), if_neg (by rw [e]; decide)]
    have hh := c_bl_2 (sc := sc) (nm := nm) (x := x) ht hg hwho hko
    refine fun d hd => ?_
    have h2 := hh d (by omega)
    rw [show ([Value.ref 124, Value.int 2, Value.int x] : List Value) = [Value.ref 124, Value.int (fO (I 125) g 0), Value.int x] by rw [e]] at h2
    exact h2
  · rw [if_neg (by rw [e]; decide), if_neg (by rw [e]; decide)]
    have hh := c_bl_3 (sc := sc) (nm := nm) (x := x) ht hg hwho hko
    refine fun d hd => ?_
    have h2 := hh d (by omega)
    rw [show ([Value.ref 124, Value.int 3, Value.int x] : List Value) = [Value.ref 124, Value.int (fO (I 125) g 0), Value.int x] by rw [e]] at h2
    exact h2
  · rw [if_neg (by rw [e]; decide), if_pos e]
    have hh := c_bl_4 (sc := sc) (nm := nm) (x := x) ht hg hwho hko
    refine fun d hd => ?_
    have h2 := hh d (by omega)
    rw [show ([Value.ref 124, Value.int 4, Value.int x] : List Value) = [Value.ref 124, Value.int (fO (I 125) g 0), Value.int x] by rw [e]] at h2
    exact h2
  · rw [if_neg (by rw [e]; decide), if_neg (by rw [e]; decide)]
    have hh := c_bl_5 (sc := sc) (nm := nm) (x := x) ht hg hwho hko
    refine fun d hd => ?_
    have h2 := hh d (by omega)
    rw [show ([Value.ref 124, Value.int 5, Value.int x] : List Value) = [Value.ref 124, Value.int (fO (I 125) g 0), Value.int x] by rw [e]] at h2
    exact h2
  · rw [if_neg (by rw [e]; decide), if_neg (by rw [e]; decide)]
    have hh := c_bl_6 (sc := sc) (nm := nm) (x := x) ht hg hwho hko
    refine fun d hd => ?_
    have h2 := hh d (by omega)
    rw [show ([Value.ref 124, Value.int 6, Value.int x] : List Value) = [Value.ref 124, Value.int (fO (I 125) g 0), Value.int x] by rw [e]] at h2
    exact h2
theorem c_te_0 {sc : List Value} {nm : Nat} {I : mg_I} {T : List Int32} {g : Nat} {x : Int32} (ht : T.length ≤ 40) (hg : g < 8) (hwho : I 124 20 = nI g) (hko : fK (fO (I 125) g 0)) : SP sc 8 216 [.ref 124, .int 0, .int x] (trM I T) nm (qE ((vTe0 (fO (I 125) g 0) (nI g) (fO (I 125) g 1) x T).1) (trM I (vTe0 (fO (I 125) g 0) (nI g) (fO (I 125) g 1) x T).2) nm) := by
  refine SP.of (h := 7) (t := 216) (q := (yX12_tellsBy, cX12_tellsBy, 4, (some .int), 12, 1461, mi_k216)) rfl (by decide) (show ¬ (4 : Nat) < 3 by decide) (fun d hd => ?_)
  show GG sc 12 false false mi_k216 d 0 [.ref 124, .int 0, .int x, .null] [] (trM I T) nm (qE ((vTe0 (fO (I 125) g 0) (nI g) (fO (I 125) g 1) x T).1) (trM I (vTe0 (fO (I 125) g 0) (nI g) (fO (I 125) g 1) x T).2) nm)
  refine g_iload_n (n := 1) rfl rfl ?_
  refine g_look (off := 35) 36 rfl (by decide +kernel) (by decide +kernel) (by decide) ?_
  refine g_aload_n (n := 37) rfl rfl ?_
  refine g_bipush (n := 39) (v := 13) rfl rfl ?_
  refine g_cv1 (n := 42) (t := 211) (ci := 12) rfl (by decide +kernel) (by decide +kernel) (by decide) (by decide) (by decide +kernel) (by rfl) (c_ran (T := T) (b := 13) (by first | assumption | exact addT_le ht)) (by omega) (g_Z ?_)
  refine g_aload_n (n := 43) rfl rfl ?_
  refine g_aload_n (n := 44) rfl rfl ?_
  refine g_cv0 (n := 47) (t := 212) (ci := 12) rfl (by decide +kernel) (by decide +kernel) (by decide) (by decide) (by decide +kernel) (by rfl) (c_own hg hwho) (by omega) (g_E ?_)
  refine g_iload_n (n := 48) rfl rfl ?_
  refine g_cv2 (n := 51) (t := 214) (ci := 12) rfl (by decide +kernel) (by decide +kernel) (by decide) (by decide) (by decide +kernel) (by rfl) (c_bl (T := (addT T 13)) (x := x) (addT_le ht) hg hwho hko) (by omega) (g_E ?_)
  refine g_istore_n3 (n := 52) rfl rfl ?_
  refine g_iload_n (n := 53) rfl rfl ?_
  refine g_aload_n (n := 54) rfl rfl ?_
  refine g_aload_n (n := 55) rfl rfl ?_
  refine g_cv0 (n := 58) (t := 212) (ci := 12) rfl (by decide +kernel) (by decide +kernel) (by decide) (by decide) (by decide +kernel) (by rfl) (c_own hg hwho) (by omega) (g_E ?_)
  refine g_iload_n (n := 59) rfl rfl ?_
  refine g_cv2 (n := 62) (t := 215) (ci := 12) rfl (by decide +kernel) (by decide +kernel) (by decide) (by decide) (by decide +kernel) (by rfl) (c_yi (T := ((vBl (fO (I 125) g 0) (nI g) (fO (I 125) g 1) x (addT T 13)).2)) (x := x) (vBl_le (addT_le ht)) hg hwho hko) (by omega) (g_E ?_)
  refine g_ixor (n := 63) rfl ?_
  refine g_iret (n := 64) rfl (fun h => nomatch h) ?_
  exact ⟨rfl, rfl, rfl⟩
theorem c_te_1 {sc : List Value} {nm : Nat} {I : mg_I} {T : List Int32} {g : Nat} {x : Int32} (ht : T.length ≤ 40) (hg : g < 8) (hwho : I 124 20 = nI g) (hko : fK (fO (I 125) g 0)) : SP sc 9 216 [.ref 124, .int 1, .int x] (trM I T) nm (qE ((vTe0 (fO (I 125) g 0) (nI g) (fO (I 125) g 1) x T).1) (trM I (vTe0 (fO (I 125) g 0) (nI g) (fO (I 125) g 1) x T).2) nm) := by
  refine SP.of (h := 8) (t := 216) (q := (yX12_tellsBy, cX12_tellsBy, 4, (some .int), 12, 1461, mi_k216)) rfl (by decide) (show ¬ (4 : Nat) < 3 by decide) (fun d hd => ?_)
  show GG sc 12 false false mi_k216 d 0 [.ref 124, .int 1, .int x, .null] [] (trM I T) nm (qE ((vTe0 (fO (I 125) g 0) (nI g) (fO (I 125) g 1) x T).1) (trM I (vTe0 (fO (I 125) g 0) (nI g) (fO (I 125) g 1) x T).2) nm)
  refine g_iload_n (n := 1) rfl rfl ?_
  refine g_look (off := 120) 121 rfl (by decide +kernel) (by decide +kernel) (by decide) ?_
  refine g_aload_n (n := 122) rfl rfl ?_
  refine g_iload_n (n := 123) rfl rfl ?_
  refine g_cs1 (n := 126) (t := 179) (x := (1297, 1298, 84)) rfl (by decide +kernel) (by decide +kernel) (by rfl) (c_aboveI (k := 1)) (by omega) (g_E ?_)
  refine g_top (w := 0) (by decide) ?_
  refine g_iload_n (n := 127) rfl rfl ?_
  refine g_cv2 (n := 130) (t := 216) (ci := 12) rfl (by decide +kernel) (by decide +kernel) (by decide) (by decide) (by decide +kernel) (by rfl) (c_te_0 (T := T) (x := x) (ht) hg hwho hko) (by omega) (g_E ?_)
  refine g_iret (n := 131) rfl (fun h => nomatch h) ?_
  exact ⟨rfl, rfl, rfl⟩
theorem c_te_2 {sc : List Value} {nm : Nat} {I : mg_I} {T : List Int32} {g : Nat} {x : Int32} (ht : T.length ≤ 40) (hg : g < 8) (hwho : I 124 20 = nI g) (hko : fK (fO (I 125) g 0)) : SP sc 9 216 [.ref 124, .int 2, .int x] (trM I T) nm (qE ((vTe0 (fO (I 125) g 0) (nI g) (fO (I 125) g 1) x T).1) (trM I (vTe0 (fO (I 125) g 0) (nI g) (fO (I 125) g 1) x T).2) nm) := by
  refine SP.of (h := 8) (t := 216) (q := (yX12_tellsBy, cX12_tellsBy, 4, (some .int), 12, 1461, mi_k216)) rfl (by decide) (show ¬ (4 : Nat) < 3 by decide) (fun d hd => ?_)
  show GG sc 12 false false mi_k216 d 0 [.ref 124, .int 2, .int x, .null] [] (trM I T) nm (qE ((vTe0 (fO (I 125) g 0) (nI g) (fO (I 125) g 1) x T).1) (trM I (vTe0 (fO (I 125) g 0) (nI g) (fO (I 125) g 1) x T).2) nm)
  refine g_iload_n (n := 1) rfl rfl ?_
  refine g_look (off := 120) 121 rfl (by decide +kernel) (by decide +kernel) (by decide) ?_
  refine g_aload_n (n := 122) rfl rfl ?_
  refine g_iload_n (n := 123) rfl rfl ?_
  refine g_cs1 (n := 126) (t := 179) (x := (1297, 1298, 84)) rfl (by decide +kernel) (by decide +kernel) (by rfl) (c_aboveI (k := 2)) (by omega) (g_E ?_)
  refine g_top (w := 0) (by decide) ?_
  refine g_iload_n (n := 127) rfl rfl ?_
  refine g_cv2 (n := 130) (t := 216) (ci := 12) rfl (by decide +kernel) (by decide +kernel) (by decide) (by decide) (by decide +kernel) (by rfl) (c_te_0 (T := T) (x := x) (ht) hg hwho hko) (by omega) (g_E ?_)
  refine g_iret (n := 131) rfl (fun h => nomatch h) ?_
  exact ⟨rfl, rfl, rfl⟩
theorem c_te_3 {sc : List Value} {nm : Nat} {I : mg_I} {T : List Int32} {g : Nat} {x : Int32} (ht : T.length ≤ 40) (hg : g < 8) (hwho : I 124 20 = nI g) (hko : fK (fO (I 125) g 0)) : SP sc 9 216 [.ref 124, .int 3, .int x] (trM I T) nm (qE ((vTe0 (fO (I 125) g 0) (nI g) (fO (I 125) g 1) x T).1) (trM I (vTe0 (fO (I 125) g 0) (nI g) (fO (I 125) g 1) x T).2) nm) := by
  refine SP.of (h := 8) (t := 216) (q := (yX12_tellsBy, cX12_tellsBy, 4, (some .int), 12, 1461, mi_k216)) rfl (by decide) (show ¬ (4 : Nat) < 3 by decide) (fun d hd => ?_)
  show GG sc 12 false false mi_k216 d 0 [.ref 124, .int 3, .int x, .null] [] (trM I T) nm (qE ((vTe0 (fO (I 125) g 0) (nI g) (fO (I 125) g 1) x T).1) (trM I (vTe0 (fO (I 125) g 0) (nI g) (fO (I 125) g 1) x T).2) nm)
  refine g_iload_n (n := 1) rfl rfl ?_
  refine g_look (off := 120) 121 rfl (by decide +kernel) (by decide +kernel) (by decide) ?_
  refine g_aload_n (n := 122) rfl rfl ?_
  refine g_iload_n (n := 123) rfl rfl ?_
  refine g_cs1 (n := 126) (t := 179) (x := (1297, 1298, 84)) rfl (by decide +kernel) (by decide +kernel) (by rfl) (c_aboveI (k := 3)) (by omega) (g_E ?_)
  refine g_top (w := 0) (by decide) ?_
  refine g_iload_n (n := 127) rfl rfl ?_
  refine g_cv2 (n := 130) (t := 216) (ci := 12) rfl (by decide +kernel) (by decide +kernel) (by decide) (by decide) (by decide +kernel) (by rfl) (c_te_0 (T := T) (x := x) (ht) hg hwho hko) (by omega) (g_E ?_)
  refine g_iret (n := 131) rfl (fun h => nomatch h) ?_
  exact ⟨rfl, rfl, rfl⟩
theorem c_te_4 {sc : List Value} {nm : Nat} {I : mg_I} {T : List Int32} {g : Nat} {x : Int32} (ht : T.length ≤ 40) (hg : g < 8) (hwho : I 124 20 = nI g) (hko : fK (fO (I 125) g 0)) : SP sc 10 216 [.ref 124, .int 4, .int x] (trM I T) nm (qE ((vTe0 (fO (I 125) g 0) (nI g) (fO (I 125) g 1) x T).1) (trM I (vTe0 (fO (I 125) g 0) (nI g) (fO (I 125) g 1) x T).2) nm) := by
  refine SP.of (h := 9) (t := 216) (q := (yX12_tellsBy, cX12_tellsBy, 4, (some .int), 12, 1461, mi_k216)) rfl (by decide) (show ¬ (4 : Nat) < 3 by decide) (fun d hd => ?_)
  show GG sc 12 false false mi_k216 d 0 [.ref 124, .int 4, .int x, .null] [] (trM I T) nm (qE ((vTe0 (fO (I 125) g 0) (nI g) (fO (I 125) g 1) x T).1) (trM I (vTe0 (fO (I 125) g 0) (nI g) (fO (I 125) g 1) x T).2) nm)
  refine g_iload_n (n := 1) rfl rfl ?_
  refine g_look (off := 120) 121 rfl (by decide +kernel) (by decide +kernel) (by decide) ?_
  refine g_aload_n (n := 122) rfl rfl ?_
  refine g_iload_n (n := 123) rfl rfl ?_
  refine g_cs1 (n := 126) (t := 179) (x := (1297, 1298, 84)) rfl (by decide +kernel) (by decide +kernel) (by rfl) (c_aboveI (k := 4)) (by omega) (g_E ?_)
  refine g_top (w := 1) (by decide) ?_
  refine g_iload_n (n := 127) rfl rfl ?_
  refine g_cv2 (n := 130) (t := 216) (ci := 12) rfl (by decide +kernel) (by decide +kernel) (by decide) (by decide) (by decide +kernel) (by rfl) (c_te_1 (T := T) (x := x) (ht) hg hwho hko) (by omega) (g_E ?_)
  refine g_iret (n := 131) rfl (fun h => nomatch h) ?_
  exact ⟨rfl, rfl, rfl⟩
theorem c_te_5 {sc : List Value} {nm : Nat} {I : mg_I} {T : List Int32} {g : Nat} {x : Int32} (ht : T.length ≤ 40) (hg : g < 8) (hwho : I 124 20 = nI g) (hko : fK (fO (I 125) g 0)) : SP sc 10 216 [.ref 124, .int 5, .int x] (trM I T) nm (qE ((vTe0 (fO (I 125) g 0) (nI g) (fO (I 125) g 1) x (addT T 60)).1 - (vGo (fO (I 125) g 0) (nI g) 2 (vTe0 (fO (I 125) g 0) (nI g) (fO (I 125) g 1) x (addT T 60)).2).1) (trM I (vGo (fO (I 125) g 0) (nI g) 2 (vTe0 (fO (I 125) g 0) (nI g) (fO (I 125) g 1) x (addT T 60)).2).2) nm) := by
  refine SP.of (h := 9) (t := 216) (q := (yX12_tellsBy, cX12_tellsBy, 4, (some .int), 12, 1461, mi_k216)) rfl (by decide) (show ¬ (4 : Nat) < 3 by decide) (fun d hd => ?_)
  show GG sc 12 false false mi_k216 d 0 [.ref 124, .int 5, .int x, .null] [] (trM I T) nm (qE ((vTe0 (fO (I 125) g 0) (nI g) (fO (I 125) g 1) x (addT T 60)).1 - (vGo (fO (I 125) g 0) (nI g) 2 (vTe0 (fO (I 125) g 0) (nI g) (fO (I 125) g 1) x (addT T 60)).2).1) (trM I (vGo (fO (I 125) g 0) (nI g) 2 (vTe0 (fO (I 125) g 0) (nI g) (fO (I 125) g 1) x (addT T 60)).2).2) nm)
  refine g_iload_n (n := 1) rfl rfl ?_
  refine g_look (off := 63) 64 rfl (by decide +kernel) (by decide +kernel) (by decide) ?_
  refine g_aload_n (n := 65) rfl rfl ?_
  refine g_bipush (n := 67) (v := 60) rfl rfl ?_
  refine g_cv1 (n := 70) (t := 211) (ci := 12) rfl (by decide +kernel) (by decide +kernel) (by decide) (by decide) (by decide +kernel) (by rfl) (c_ran (T := T) (b := 60) (by first | assumption | exact addT_le ht)) (by omega) (g_Z ?_)
  refine g_aload_n (n := 71) rfl rfl ?_
  refine g_iconst (n := 72) (v := 5) rfl rfl ?_
  refine g_cs1 (n := 75) (t := 179) (x := (1297, 1298, 84)) rfl (by decide +kernel) (by decide +kernel) (by rfl) (c_aboveI (k := 5)) (by omega) (g_E ?_)
  refine g_top (w := 2) (by decide) ?_
  refine g_iload_n (n := 76) rfl rfl ?_
  refine g_cv2 (n := 79) (t := 216) (ci := 12) rfl (by decide +kernel) (by decide +kernel) (by decide) (by decide) (by decide +kernel) (by rfl) (c_te_2 (T := (addT T 60)) (x := x) (addT_le ht) hg hwho hko) (by omega) (g_E ?_)
  refine g_istore_n3 (n := 80) rfl rfl ?_
  refine g_iload_n (n := 81) rfl rfl ?_
  refine g_aload_n (n := 82) rfl rfl ?_
  refine g_aload_n (n := 83) rfl rfl ?_
  refine g_cv0 (n := 86) (t := 212) (ci := 12) rfl (by decide +kernel) (by decide +kernel) (by decide) (by decide) (by decide +kernel) (by rfl) (c_own hg hwho) (by omega) (g_E ?_)
  refine g_iconst (n := 87) (v := 2) rfl rfl ?_
  refine g_cv2 (n := 90) (t := 213) (ci := 12) rfl (by decide +kernel) (by decide +kernel) (by decide) (by decide) (by decide +kernel) (by rfl) (c_vg (T := ((vTe0 (fO (I 125) g 0) (nI g) (fO (I 125) g 1) x (addT T 60)).2)) (x := 2) (vTe0_le (addT_le ht)) hg hwho hko) (by omega) (g_E ?_)
  refine g_isub (n := 91) rfl ?_
  refine g_iret (n := 92) rfl (fun h => nomatch h) ?_
  exact ⟨rfl, rfl, rfl⟩
theorem c_te_6 {sc : List Value} {nm : Nat} {I : mg_I} {T : List Int32} {g : Nat} {x : Int32} (ht : T.length ≤ 40) (hg : g < 8) (hwho : I 124 20 = nI g) (hko : fK (fO (I 125) g 0)) : SP sc 10 216 [.ref 124, .int 6, .int x] (trM I T) nm (qE ((vBl (fO (I 125) g 0) (nI g) (fO (I 125) g 1) x (addT T 71)).1 - (vTe0 (fO (I 125) g 0) (nI g) (fO (I 125) g 1) x (vBl (fO (I 125) g 0) (nI g) (fO (I 125) g 1) x (addT T 71)).2).1) (trM I (vTe0 (fO (I 125) g 0) (nI g) (fO (I 125) g 1) x (vBl (fO (I 125) g 0) (nI g) (fO (I 125) g 1) x (addT T 71)).2).2) nm) := by
  refine SP.of (h := 9) (t := 216) (q := (yX12_tellsBy, cX12_tellsBy, 4, (some .int), 12, 1461, mi_k216)) rfl (by decide) (show ¬ (4 : Nat) < 3 by decide) (fun d hd => ?_)
  show GG sc 12 false false mi_k216 d 0 [.ref 124, .int 6, .int x, .null] [] (trM I T) nm (qE ((vBl (fO (I 125) g 0) (nI g) (fO (I 125) g 1) x (addT T 71)).1 - (vTe0 (fO (I 125) g 0) (nI g) (fO (I 125) g 1) x (vBl (fO (I 125) g 0) (nI g) (fO (I 125) g 1) x (addT T 71)).2).1) (trM I (vTe0 (fO (I 125) g 0) (nI g) (fO (I 125) g 1) x (vBl (fO (I 125) g 0) (nI g) (fO (I 125) g 1) x (addT T 71)).2).2) nm)
  refine g_iload_n (n := 1) rfl rfl ?_
  refine g_look (off := 91) 92 rfl (by decide +kernel) (by decide +kernel) (by decide) ?_
  refine g_aload_n (n := 93) rfl rfl ?_
  refine g_bipush (n := 95) (v := 71) rfl rfl ?_
  refine g_cv1 (n := 98) (t := 211) (ci := 12) rfl (by decide +kernel) (by decide +kernel) (by decide) (by decide) (by decide +kernel) (by rfl) (c_ran (T := T) (b := 71) (by first | assumption | exact addT_le ht)) (by omega) (g_Z ?_)
  refine g_aload_n (n := 99) rfl rfl ?_
  refine g_aload_n (n := 100) rfl rfl ?_
  refine g_cv0 (n := 103) (t := 212) (ci := 12) rfl (by decide +kernel) (by decide +kernel) (by decide) (by decide) (by decide +kernel) (by rfl) (c_own hg hwho) (by omega) (g_E ?_)
  refine g_iload_n (n := 104) rfl rfl ?_
  refine g_cv2 (n := 107) (t := 214) (ci := 12) rfl (by decide +kernel) (by decide +kernel) (by decide) (by decide) (by decide +kernel) (by rfl) (c_bl (T := (addT T 71)) (x := x) (addT_le ht) hg hwho hko) (by omega) (g_E ?_)
  refine g_istore_n3 (n := 108) rfl rfl ?_
  refine g_iload_n (n := 109) rfl rfl ?_
  refine g_aload_n (n := 110) rfl rfl ?_
  refine g_bipush (n := 112) (v := 6) rfl rfl ?_
  refine g_cs1 (n := 115) (t := 179) (x := (1297, 1298, 84)) rfl (by decide +kernel) (by decide +kernel) (by rfl) (c_aboveI (k := 6)) (by omega) (g_E ?_)
  refine g_top (w := 3) (by decide) ?_
  refine g_iload_n (n := 116) rfl rfl ?_
  refine g_cv2 (n := 119) (t := 216) (ci := 12) rfl (by decide +kernel) (by decide +kernel) (by decide) (by decide) (by decide +kernel) (by rfl) (c_te_3 (T := ((vBl (fO (I 125) g 0) (nI g) (fO (I 125) g 1) x (addT T 71)).2)) (x := x) (vBl_le (addT_le ht)) hg hwho hko) (by omega) (g_E ?_)
  refine g_isub (n := 120) rfl ?_
  refine g_iret (n := 121) rfl (fun h => nomatch h) ?_
  exact ⟨rfl, rfl, rfl⟩
theorem c_te {sc : List Value} {nm : Nat} {I : mg_I} {T : List Int32} {g : Nat} {x : Int32} (ht : T.length ≤ 40) (hg : g < 8) (hwho : I 124 20 = nI g) (hko : fK (fO (I 125) g 0)) : SP sc 10 216 [.ref 124, .int (fO (I 125) g 0), .int x] (trM I T) nm (qE (vTe (fO (I 125) g 0) (nI g) (fO (I 125) g 1) x T).1 (trM I (vTe (fO (I 125) g 0) (nI g) (fO (I 125) g 1) x T).2) nm) := by
  have hko2 := hko
  unfold vTe
  rcases hko2 with e | e | e | e | e | e | e
  · rw [if_neg (by rw [e]; decide), if_neg (by rw [e]; decide)]
    have hh := c_te_0 (sc := sc) (nm := nm) (x := x) ht hg hwho hko
    refine fun d hd => ?_
    have h2 := hh d (by omega)
    rw [show ([Value.ref 124, Value.int 0, Value.int x] : List Value) = [Value.ref 124, Value.int (fO (I 125) g 0), Value.int x] by rw [e]] at h2
    exact h2
  · rw [if_neg (by rw [e]; decide), if_neg (by rw [e]; decide)]
    have hh := c_te_1 (sc := sc) (nm := nm) (x := x) ht hg hwho hko
    refine fun d hd => ?_
    have h2 := hh d (by omega)
    rw [show ([Value.ref 124, Value.int 1, Value.int x] : List Value) = [Value.ref 124, Value.int (fO (I 125) g 0), Value.int x] by rw [e]] at h2
    exact h2
  · rw [if_neg (by rw [e]; decide), if_neg (by rw [e]; decide)]
    have hh := c_te_2 (sc := sc) (nm := nm) (x := x) ht hg hwho hko
    refine fun d hd => ?_
    have h2 := hh d (by omega)
    rw [show ([Value.ref 124, Value.int 2, Value.int x] : List Value) = [Value.ref 124, Value.int (fO (I 125) g 0), Value.int x] by rw [e]] at h2
    exact h2
  · rw [if_neg (by rw [e]; decide), if_neg (by rw [e]; decide)]
    have hh := c_te_3 (sc := sc) (nm := nm) (x := x) ht hg hwho hko
    refine fun d hd => ?_
    have h2 := hh d (by omega)
    rw [show ([Value.ref 124, Value.int 3, Value.int x] : List Value) = [Value.ref 124, Value.int (fO (I 125) g 0), Value.int x] by rw [e]] at h2
    exact h2
  · rw [if_neg (by rw [e]; decide), if_neg (by rw [e]; decide)]
    have hh := c_te_4 (sc := sc) (nm := nm) (x := x) ht hg hwho hko
    refine fun d hd => ?_
    have h2 := hh d (by omega)
    rw [show ([Value.ref 124, Value.int 4, Value.int x] : List Value) = [Value.ref 124, Value.int (fO (I 125) g 0), Value.int x] by rw [e]] at h2
    exact h2
  · rw [if_pos e]
    have hh := c_te_5 (sc := sc) (nm := nm) (x := x) ht hg hwho hko
    refine fun d hd => ?_
    have h2 := hh d (by omega)
    rw [show ([Value.ref 124, Value.int 5, Value.int x] : List Value) = [Value.ref 124, Value.int (fO (I 125) g 0), Value.int x] by rw [e]] at h2
    exact h2
  · rw [if_neg (by rw [e]; decide), if_pos e]
    have hh := c_te_6 (sc := sc) (nm := nm) (x := x) ht hg hwho hko
    refine fun d hd => ?_
    have h2 := hh d (by omega)
    rw [show ([Value.ref 124, Value.int 6, Value.int x] : List Value) = [Value.ref 124, Value.int (fO (I 125) g 0), Value.int x] by rw [e]] at h2
    exact h2
def eVoice (d : Nat → Int32) (g a : Int32) : Nat := if 0 ≤ g.toInt ∧ g.toInt < (fN d : Int) then (if 0 ≤ a.toInt ∧ a.toInt ≤ 3 then 0 else 1) else 1
def vVoice (d : Nat → Int32) (g : Nat) (a x : Int32) : tR :=
  if a = 0 then vGo (fO d g 0) (nI g) x [] else if a = 1 then vBl (fO d g 0) (nI g) (fO d g 1) x [] else if a = 2 then vYi (fO d g 0) (nI g) (fO d g 1) x [] else vTe (fO d g 0) (nI g) (fO d g 1) x []
theorem c_voice {sc : List Value} {nm : Nat} {I : mg_I} {g a x : Int32} (hN : iR (I 125 0) 9) (hK : ∀ g, g < 8 → fK (fO (I 125) g 0)) : SP sc 12 217 [.ref 124, .int g, .int a, .int x] I nm (qS (vE (eVoice (I 125) g a) (vVoice (I 125) (cl g) a x).1) (jE I (eVoice (I 125) g a) (trM I (vVoice (I 125) (cl g) a x).2)) nm) := by
  refine SP.of (h := 11) (t := 217) (q := (yX12_voice, cX12_voice, 5, (some .int), 12, 1436, mi_k217)) rfl (by decide) (show ¬ (5 : Nat) < 4 by decide) (fun d hd => ?_)
  show GG sc 12 false false mi_k217 d 0 [.ref 124, .int g, .int a, .int x, .null] [] I nm (qS (vE (eVoice (I 125) g a) (vVoice (I 125) (cl g) a x).1) (jE I (eVoice (I 125) g a) (trM I (vVoice (I 125) (cl g) a x).2)) nm)
  unfold eVoice
  refine g_aload_n (n := 1) rfl rfl ?_
  refine g_iload_n (n := 2) rfl rfl ?_
  refine g_cv1 (n := 5) (t := 143) (ci := 12) rfl (by decide +kernel) (by decide +kernel) (by decide) (by decide) (by decide +kernel) (by rfl) (c_isGoer (by assumption)) (by omega) (g_E ?_)
  refine g_split (fun h1 => ?_) (fun h1 => ?_)
  ·
    refine g_ifeq1 (n := 8) 20 rfl (by decide) ?_
    rw [if_pos h1]
    refine g_iload_n (n := 9) rfl rfl ?_
    refine g_i2l (n := 10) rfl ?_
    refine g_lconst (n := 11) (v := 0) rfl rfl ?_
    refine g_ldc2 (n := 14) (v := 3) (pl := 1437) rfl (by decide +kernel) ?_
    refine g_cs3 (n := 17) (t := 141) (x := (1141, 1142, 84)) rfl (by decide +kernel) (by decide +kernel) (by rfl) (c_inI (a := 0) (b := 3) rfl rfl) (by omega) (g_E ?_)
    refine g_split (fun h2 => ?_) (fun h2 => ?_)
    ·
      refine g_ifne1 (n := 20) 26 rfl (by decide) ?_
      rw [if_pos h2]
      obtain ⟨gg, hgg, rfl, hcg⟩ := iR_nI (x := g) (n := fN (I 125)) ⟨by omega, by omega⟩
      have hg8 := (fN_eq hN).2
      rw [show cl (nI gg) = gg from hcg]
      unfold vVoice
      refine g_aload_n (n := 27) rfl rfl ?_
      refine g_iconst (n := 28) (v := 0) rfl rfl ?_
      refine g_puti (n := 31) (ci := 12) (j := 19) rfl (by decide +kernel) rfl (by decide) (by decide) (by decide +kernel) rfl ?_
      refine g_aload_n (n := 32) rfl rfl ?_
      refine g_iload_n (n := 33) rfl rfl ?_
      refine g_puti (n := 36) (ci := 12) (j := 20) rfl (by decide +kernel) rfl (by decide) (by decide) (by decide +kernel) rfl ?_
      refine g_aload_n (n := 37) rfl rfl ?_
      rw [trM_0]
      refine g_cv0 (n := 40) (t := 212) (ci := 12) rfl (by decide +kernel) (by decide +kernel) (by decide) (by decide) (by decide +kernel) (by rfl) (c_own (g := gg) (by omega) (if_pos ⟨rfl, rfl⟩)) (by omega) (g_E ?_)
      refine g_istore4 (n := 42) rfl rfl ?_
      refine g_iload_n (n := 43) rfl rfl ?_
      refine g_ifne (n := 46) 56 rfl (by decide) (fun h3 => ?_) (fun h3 => ?_)
      ·
        rw [if_neg h3]
        refine g_iload_n (n := 57) rfl rfl ?_
        refine g_iconst (n := 58) (v := 1) rfl rfl ?_
        refine g_icne (n := 61) 71 rfl (by decide) (fun h4 => ?_) (fun h4 => ?_)
        ·
          rw [if_neg h4]
          refine g_iload_n (n := 72) rfl rfl ?_
          refine g_iconst (n := 73) (v := 2) rfl rfl ?_
          refine g_icne (n := 76) 86 rfl (by decide) (fun h5 => ?_) (fun h5 => ?_)
          ·
            rw [if_neg h5]
            refine g_aload_n (n := 87) rfl rfl ?_
            refine g_iload (n := 89) rfl rfl ?_
            refine g_iload_n (n := 90) rfl rfl ?_
            refine g_cv2 (n := 93) (t := 216) (ci := 12) rfl (by decide +kernel) (by decide +kernel) (by decide) (by decide) (by decide +kernel) (by rfl) (c_te (I := mf_up I 124 20 (nI gg)) (T := []) (g := gg) (x := x) (Nat.zero_le _) (by omega) (if_pos ⟨rfl, rfl⟩) (hK gg (by omega))) (by omega) (g_E ?_)
            refine g_iret (n := 94) rfl (fun h => nomatch h) ?_
            exact qS_x trM_x
          ·
            rw [if_pos h5]
            refine g_aload_n (n := 77) rfl rfl ?_
            refine g_iload (n := 79) rfl rfl ?_
            refine g_iload_n (n := 80) rfl rfl ?_
            refine g_cv2 (n := 83) (t := 215) (ci := 12) rfl (by decide +kernel) (by decide +kernel) (by decide) (by decide) (by decide +kernel) (by rfl) (c_yi (I := mf_up I 124 20 (nI gg)) (T := []) (g := gg) (x := x) (Nat.zero_le _) (by omega) (if_pos ⟨rfl, rfl⟩) (hK gg (by omega))) (by omega) (g_E ?_)
            refine g_goto 93 rfl (by decide) ?_
            refine g_iret (n := 94) rfl (fun h => nomatch h) ?_
            exact qS_x trM_x
        ·
          rw [if_pos h4]
          refine g_aload_n (n := 62) rfl rfl ?_
          refine g_iload (n := 64) rfl rfl ?_
          refine g_iload_n (n := 65) rfl rfl ?_
          refine g_cv2 (n := 68) (t := 214) (ci := 12) rfl (by decide +kernel) (by decide +kernel) (by decide) (by decide) (by decide +kernel) (by rfl) (c_bl (I := mf_up I 124 20 (nI gg)) (T := []) (g := gg) (x := x) (Nat.zero_le _) (by omega) (if_pos ⟨rfl, rfl⟩) (hK gg (by omega))) (by omega) (g_E ?_)
          refine g_goto 93 rfl (by decide) ?_
          refine g_iret (n := 94) rfl (fun h => nomatch h) ?_
          exact qS_x trM_x
      ·
        rw [if_pos h3]
        refine g_aload_n (n := 47) rfl rfl ?_
        refine g_iload (n := 49) rfl rfl ?_
        refine g_iload_n (n := 50) rfl rfl ?_
        refine g_cv2 (n := 53) (t := 213) (ci := 12) rfl (by decide +kernel) (by decide +kernel) (by decide) (by decide) (by decide +kernel) (by rfl) (c_vg (I := mf_up I 124 20 (nI gg)) (T := []) (g := gg) (x := x) (Nat.zero_le _) (by omega) (if_pos ⟨rfl, rfl⟩) (hK gg (by omega))) (by omega) (g_E ?_)
        refine g_goto 93 rfl (by decide) ?_
        refine g_iret (n := 94) rfl (fun h => nomatch h) ?_
        exact qS_x trM_x
    ·
      refine g_ifne0 (n := 20) 26 rfl (by decide) ?_
      rw [if_neg h2]
      refine g_aload_n (n := 21) rfl rfl ?_
      refine g_iconst (n := 22) (v := 1) rfl rfl ?_
      refine g_cv1 (n := 25) (t := 140) (ci := 12) rfl (by decide +kernel) (by decide +kernel) (by decide) (by decide) (by decide +kernel) (by rfl) (c_finds (k := 1) (by omega)) (by omega) (g_E ?_)
      refine g_iret (n := 26) rfl (fun h => nomatch h) ?_
      exact qS_k (by decide)
  ·
    refine g_ifeq0 (n := 8) 20 rfl (by decide) ?_
    rw [if_neg h1]
    refine g_aload_n (n := 21) rfl rfl ?_
    refine g_iconst (n := 22) (v := 1) rfl rfl ?_
    refine g_cv1 (n := 25) (t := 140) (ci := 12) rfl (by decide +kernel) (by decide +kernel) (by decide) (by decide) (by decide +kernel) (by rfl) (c_finds (k := 1) (by omega)) (by omega) (g_E ?_)
    refine g_iret (n := 26) rfl (fun h => nomatch h) ?_
    exact qS_k (by decide)
