/-! the class: voices -/
def brM (I : mg_I) (T : List Int32) : mg_I := fun a j => if a = 111 ∧ j = 1 then nI T.length else if a = 112 ∧ j < T.length then T.getD j 0 else I a j
theorem brM_add {I : mg_I} {T : List Int32} {b : Int32} (h : T.length < 40) : mf_up (mf_up (brM I T) 112 T.length b) 111 1 (nI (T.length + 1)) = brM I (addT T b) := by
  unfold addT
  rw [if_pos h]
  have hl : (T ++ [b]).length = T.length + 1 := by rw [List.length_append]; rfl
  funext a j
  unfold mf_up brM
  rw [hl]
  by_cases h1 : a = 111 ∧ j = 1
  · rw [if_pos h1, if_pos h1]
  · simp only [if_neg h1]
    by_cases h2 : a = 112 ∧ j = T.length
    · rw [if_pos h2, if_pos (c := a = 112 ∧ j < T.length + 1) (by omega), h2.2, List.getD_eq_getElem?_getD, List.getElem?_append_right (Nat.le_refl _), Nat.sub_self]
      rfl
    · rw [if_neg h2]
      by_cases h3 : a = 112 ∧ j < T.length
      · rw [if_pos h3, if_pos (c := a = 112 ∧ j < T.length + 1) (by omega), List.getD_eq_getElem?_getD, List.getD_eq_getElem?_getD, List.getElem?_append_left h3.2]
      · rw [if_neg h3, if_neg (c := a = 112 ∧ j < T.length + 1) (by omega)]
theorem brM_0 {I : mg_I} : mf_up I 111 1 0 = brM I [] := by
  funext a j
  unfold mf_up brM
  have h3 : ¬ (a = 112 ∧ j < ([] : List Int32).length) := fun q => absurd q.2 (Nat.not_lt_zero _)
  rw [if_neg h3]
  rfl
theorem brM_o {I : mg_I} {T : List Int32} {a j : Nat} (h : a < 111 ∨ 112 < a) : brM I T a j = I a j := by
  unfold brM
  rw [if_neg (by omega), if_neg (by omega)]
theorem brM_n {I : mg_I} {T : List Int32} : brM I T 111 1 = nI T.length := if_pos ⟨rfl, rfl⟩
def qA (J : mg_I) (nm : Nat) : Option Value → mg_I → Nat → Prop := fun r I' nm' => (∃ z, r = some (.int z)) ∧ I' = J ∧ nm' = nm
theorem g_A {sc : List Value} {own : Nat} {ini rz : Bool} {code : List (Nat × Instr)} {d n : Nat} {ls r : List Value} {J : mg_I} {nm : Nat} {Q : Option Value → mg_I → Nat → Prop} (k : ∀ z, GG sc own ini rz code d n ls (.int z :: r) J nm Q) : ∀ a I2 nm2, qA J nm a I2 nm2 → GG sc own ini rz code d n ls (a.toList ++ r) I2 nm2 Q := by
  rintro a I2 nm2 ⟨⟨z, rfl⟩, rfl, rfl⟩
  exact k z
theorem c_badd {sc : List Value} {nm : Nat} {I : mg_I} {T : List Int32} {b : Int32} (ht : T.length ≤ 40) : SP sc 1 54 [.ref 111, .int b] (brM I T) nm (qA (brM I (addT T b)) nm) := by
  intro d hd
  by_cases h : T.length < 40
  · obtain ⟨N, r, I', nm', e, rfl, rfl, rfl⟩ := c_radd r111 (I := brM I T) (n := T.length) (x := b) brM_n h d hd
    exact ⟨N, _, _, _, e, ⟨1, rfl⟩, brM_add h, rfl⟩
  · obtain ⟨N, r, I', nm', e, rfl, rfl, rfl⟩ := c_raddF r111 (I := brM I T) (n := T.length) (x := b) brM_n (by omega) d hd
    exact ⟨N, _, _, _, e, ⟨0, rfl⟩, by rw [show addT T b = T from if_neg h], rfl⟩
theorem vTe0_e {k n m x : Int32} {T : List Int32} : vTe0 k n m x T = ((vBl k n m x (addT T 13)).1 ^^^ (vYi k n m x (vBl k n m x (addT T 13)).2).1, (vYi k n m x (vBl k n m x (addT T 13)).2).2) := rfl
theorem hK7 {k : Nat} (hk : k < 7) : isK (7 + k) := by
  obtain rfl | rfl | rfl | rfl | rfl | rfl | rfl : k = 0 ∨ k = 1 ∨ k = 2 ∨ k = 3 ∨ k = 4 ∨ k = 5 ∨ k = 6 := by omega
  all_goals exact ⟨by decide, by decide, by decide⟩
theorem vw_w82 {sc : List Value} {nm : Nat} {I : mg_I} {T : List Int32} {G : Nat} {n m x : Int32} (hG : isG G) (hG1 : G < 104) (hGn : I G 0 = n) (hGm : I G 2 = m) (ht : T.length ≤ 40) {K : Nat} (hK : isK K) : SP sc 2 82 [.ref K, .ref G, .ref 111, .int x] (brM I T) nm (qE (x + n) (brM I (addT T 10)) nm) := by
  refine SP.of (h := 1) (t := 82) (q := (yX9_goes, cX9_goes, 4, (some .int), 9, 908, mi_k82)) rfl (by decide) (show ¬ (4 : Nat) < 4 by decide) (fun d hd => ?_)
  show GG sc 9 false false mi_k82 d 0 [.ref K, .ref G, .ref 111, .int x] [] (brM I T) nm (qE (x + n) (brM I (addT T 10)) nm)
  refine g_aload_n (n := 1) rfl rfl ?_
  refine g_bipush (n := 3) (v := 10) rfl rfl ?_
  refine g_cv1 (n := 6) (t := 54) (ci := 6) rfl (by decide +kernel) (by decide +kernel) (by decide) (by decide) (by decide +kernel) (by rfl) (c_badd ht) (by omega) (g_A fun z => ?_)
  refine g_popi (n := 7) rfl ?_
  refine g_iload_n (n := 8) rfl rfl ?_
  refine g_aload_n (n := 9) rfl rfl ?_
  refine g_getv (n := 12) (ci := 4) (j := 0) (v := n) ((brM_o (by omega)).trans hGn) rfl (by decide +kernel) rfl (by decide) (gr_hd hG) ?_
  refine g_iadd (n := 13) rfl ?_
  refine g_iret (n := 14) rfl (fun h => nomatch h) ?_
  exact ⟨rfl, rfl, rfl⟩
theorem vw_w35 {sc : List Value} {nm : Nat} {I : mg_I} {T : List Int32} {G : Nat} {n m x : Int32} (hG : isG G) (hG1 : G < 104) (hGn : I G 0 = n) (hGm : I G 2 = m) (ht : T.length ≤ 40) {K : Nat} (hK : isK K) : SP sc 3 35 [.ref K, .ref G, .ref 111, .int x] (brM I T) nm (qE ((x + n) * 3) (brM I (addT (addT T 30) 10)) nm) := by
  refine SP.of (h := 2) (t := 35) (q := (yX3_goes, cX3_goes, 4, (some .int), 3, 902, mi_k35)) rfl (by decide) (show ¬ (4 : Nat) < 4 by decide) (fun d hd => ?_)
  show GG sc 3 false false mi_k35 d 0 [.ref K, .ref G, .ref 111, .int x] [] (brM I T) nm (qE ((x + n) * 3) (brM I (addT (addT T 30) 10)) nm)
  refine g_aload_n (n := 1) rfl rfl ?_
  refine g_bipush (n := 3) (v := 30) rfl rfl ?_
  refine g_cv1 (n := 6) (t := 54) (ci := 6) rfl (by decide +kernel) (by decide +kernel) (by decide) (by decide) (by decide +kernel) (by rfl) (c_badd ht) (by omega) (g_A fun z => ?_)
  refine g_popi (n := 7) rfl ?_
  refine g_aload_n (n := 8) rfl rfl ?_
  refine g_aload_n (n := 9) rfl rfl ?_
  refine g_aload_n (n := 10) rfl rfl ?_
  refine g_iload_n (n := 11) rfl rfl ?_
  refine g_cp3 (n := 14) (t := 82) (x := (9, 904, 897, 120, 106, 895, 72)) rfl (by decide +kernel) (by decide +kernel) (by decide +kernel) rfl ⟨hK.1, hK.2.1⟩ hK.2.2 (by rfl) (vw_w82 (x := x) hG hG1 hGn hGm (addT_le ht) hK) (by omega) (g_E ?_)
  refine g_iconst (n := 15) (v := 3) rfl rfl ?_
  refine g_imul (n := 16) rfl ?_
  refine g_iret (n := 17) rfl (fun h => nomatch h) ?_
  exact ⟨rfl, rfl, rfl⟩
theorem vw_w84 {sc : List Value} {nm : Nat} {I : mg_I} {T : List Int32} {G : Nat} {n m x : Int32} (hG : isG G) (hG1 : G < 104) (hGn : I G 0 = n) (hGm : I G 2 = m) (ht : T.length ≤ 40) {K : Nat} (hK : isK K) : SP sc 2 84 [.ref K, .ref G, .ref 111, .int x] (brM I T) nm (qE (x - m) (brM I (addT T 12)) nm) := by
  refine SP.of (h := 1) (t := 84) (q := (yX9_yields, cX9_yields, 4, (some .int), 9, 926, mi_k84)) rfl (by decide) (show ¬ (4 : Nat) < 4 by decide) (fun d hd => ?_)
  show GG sc 9 false false mi_k84 d 0 [.ref K, .ref G, .ref 111, .int x] [] (brM I T) nm (qE (x - m) (brM I (addT T 12)) nm)
  refine g_aload_n (n := 1) rfl rfl ?_
  refine g_bipush (n := 3) (v := 12) rfl rfl ?_
  refine g_cv1 (n := 6) (t := 54) (ci := 6) rfl (by decide +kernel) (by decide +kernel) (by decide) (by decide) (by decide +kernel) (by rfl) (c_badd ht) (by omega) (g_A fun z => ?_)
  refine g_popi (n := 7) rfl ?_
  refine g_iload_n (n := 8) rfl rfl ?_
  refine g_aload_n (n := 9) rfl rfl ?_
  refine g_getv (n := 12) (ci := 4) (j := 2) (v := m) ((brM_o (by omega)).trans hGm) rfl (by decide +kernel) rfl (by decide) (gr_hd hG) ?_
  refine g_isub (n := 13) rfl ?_
  refine g_iret (n := 14) rfl (fun h => nomatch h) ?_
  exact ⟨rfl, rfl, rfl⟩
theorem vw_w89 {sc : List Value} {nm : Nat} {I : mg_I} {T : List Int32} {G : Nat} {n m x : Int32} (hG : isG G) (hG1 : G < 104) (hGn : I G 0 = n) (hGm : I G 2 = m) (ht : T.length ≤ 40) {K : Nat} (hK : isK K) : SP sc 3 89 [.ref K, .ref G, .ref 111, .int x] (brM I T) nm (qE (-(x - m)) (brM I (addT (addT T 40) 12)) nm) := by
  refine SP.of (h := 2) (t := 89) (q := (yX10_yields, cX10_yields, 4, (some .int), 10, 943, mi_k89)) rfl (by decide) (show ¬ (4 : Nat) < 4 by decide) (fun d hd => ?_)
  show GG sc 10 false false mi_k89 d 0 [.ref K, .ref G, .ref 111, .int x] [] (brM I T) nm (qE (-(x - m)) (brM I (addT (addT T 40) 12)) nm)
  refine g_aload_n (n := 1) rfl rfl ?_
  refine g_bipush (n := 3) (v := 40) rfl rfl ?_
  refine g_cv1 (n := 6) (t := 54) (ci := 6) rfl (by decide +kernel) (by decide +kernel) (by decide) (by decide) (by decide +kernel) (by rfl) (c_badd ht) (by omega) (g_A fun z => ?_)
  refine g_popi (n := 7) rfl ?_
  refine g_aload_n (n := 8) rfl rfl ?_
  refine g_aload_n (n := 9) rfl rfl ?_
  refine g_aload_n (n := 10) rfl rfl ?_
  refine g_iload_n (n := 11) rfl rfl ?_
  refine g_cp3 (n := 14) (t := 84) (x := (9, 945, 1518, 127, 106, 925, 72)) rfl (by decide +kernel) (by decide +kernel) (by decide +kernel) rfl ⟨hK.1, hK.2.1⟩ hK.2.2 (by rfl) (vw_w84 (x := x) hG hG1 hGn hGm (addT_le ht) hK) (by omega) (g_E ?_)
  refine g_ineg (n := 15) rfl ?_
  refine g_iret (n := 16) rfl (fun h => nomatch h) ?_
  exact ⟨rfl, rfl, rfl⟩
theorem vw_w3 {sc : List Value} {nm : Nat} {I : mg_I} {T : List Int32} {G : Nat} {n m x : Int32} (hG : isG G) (hG1 : G < 104) (hGn : I G 0 = n) (hGm : I G 2 = m) (ht : T.length ≤ 40) {K : Nat} (hK : isK K) : SP sc 4 3 [.ref K, .ref G, .ref 111, .int x] (brM I T) nm (qE (-(x - m) ^^^ n) (brM I (addT (addT (addT T 70) 40) 12)) nm) := by
  refine SP.of (h := 3) (t := 3) (q := (yX0_yields, cX0_yields, 4, (some .int), 0, 939, mi_k3)) rfl (by decide) (show ¬ (4 : Nat) < 4 by decide) (fun d hd => ?_)
  show GG sc 0 false false mi_k3 d 0 [.ref K, .ref G, .ref 111, .int x] [] (brM I T) nm (qE (-(x - m) ^^^ n) (brM I (addT (addT (addT T 70) 40) 12)) nm)
  refine g_aload_n (n := 1) rfl rfl ?_
  refine g_bipush (n := 3) (v := 70) rfl rfl ?_
  refine g_cv1 (n := 6) (t := 54) (ci := 6) rfl (by decide +kernel) (by decide +kernel) (by decide) (by decide) (by decide +kernel) (by rfl) (c_badd ht) (by omega) (g_A fun z => ?_)
  refine g_popi (n := 7) rfl ?_
  refine g_aload_n (n := 8) rfl rfl ?_
  refine g_aload_n (n := 9) rfl rfl ?_
  refine g_aload_n (n := 10) rfl rfl ?_
  refine g_iload_n (n := 11) rfl rfl ?_
  refine g_cp3 (n := 14) (t := 89) (x := (10, 941, 1520, 148, 127, 942, 75)) rfl (by decide +kernel) (by decide +kernel) (by decide +kernel) rfl ⟨hK.1, hK.2.1⟩ hK.2.2 (by rfl) (vw_w89 (x := x) hG hG1 hGn hGm (addT_le ht) hK) (by omega) (g_E ?_)
  refine g_aload_n (n := 15) rfl rfl ?_
  refine g_getv (n := 18) (ci := 4) (j := 0) (v := n) ((brM_o (by omega)).trans hGn) rfl (by decide +kernel) rfl (by decide) (gr_hd hG) ?_
  refine g_ixor (n := 19) rfl ?_
  refine g_iret (n := 20) rfl (fun h => nomatch h) ?_
  exact ⟨rfl, rfl, rfl⟩
theorem vw_go_0 {sc : List Value} {nm : Nat} {I : mg_I} {T : List Int32} {G : Nat} {n m x : Int32} (hG : isG G) (hG1 : G < 104) (hGn : I G 0 = n) (hGm : I G 2 = m) (ht : T.length ≤ 40) : SP sc 3 82 [.ref 7, .ref G, .ref 111, .int x] (brM I T) nm (qE (vGo 0 n x T).1 (brM I (vGo 0 n x T).2) nm) := by
  rw [show vGo 0 n x T = (x + n, addT T 10) from if_neg (by decide)]
  exact fun d hd => vw_w82 (x := x) hG hG1 hGn hGm ht (hK7 (k := 0) (by omega)) d (by omega)
theorem vw_go_1 {sc : List Value} {nm : Nat} {I : mg_I} {T : List Int32} {G : Nat} {n m x : Int32} (hG : isG G) (hG1 : G < 104) (hGn : I G 0 = n) (hGm : I G 2 = m) (ht : T.length ≤ 40) : SP sc 3 82 [.ref 8, .ref G, .ref 111, .int x] (brM I T) nm (qE (vGo 1 n x T).1 (brM I (vGo 1 n x T).2) nm) := by
  rw [show vGo 1 n x T = (x + n, addT T 10) from if_neg (by decide)]
  exact fun d hd => vw_w82 (x := x) hG hG1 hGn hGm ht (hK7 (k := 1) (by omega)) d (by omega)
theorem vw_go_2 {sc : List Value} {nm : Nat} {I : mg_I} {T : List Int32} {G : Nat} {n m x : Int32} (hG : isG G) (hG1 : G < 104) (hGn : I G 0 = n) (hGm : I G 2 = m) (ht : T.length ≤ 40) : SP sc 3 35 [.ref 9, .ref G, .ref 111, .int x] (brM I T) nm (qE (vGo 2 n x T).1 (brM I (vGo 2 n x T).2) nm) := by
  rw [show vGo 2 n x T = ((x + n) * 3, addT (addT T 30) 10) from if_pos (by decide)]
  exact fun d hd => vw_w35 (x := x) hG hG1 hGn hGm ht (hK7 (k := 2) (by omega)) d (by omega)
theorem vw_go_3 {sc : List Value} {nm : Nat} {I : mg_I} {T : List Int32} {G : Nat} {n m x : Int32} (hG : isG G) (hG1 : G < 104) (hGn : I G 0 = n) (hGm : I G 2 = m) (ht : T.length ≤ 40) : SP sc 3 82 [.ref 10, .ref G, .ref 111, .int x] (brM I T) nm (qE (vGo 3 n x T).1 (brM I (vGo 3 n x T).2) nm) := by
  rw [show vGo 3 n x T = (x + n, addT T 10) from if_neg (by decide)]
  exact fun d hd => vw_w82 (x := x) hG hG1 hGn hGm ht (hK7 (k := 3) (by omega)) d (by omega)
theorem vw_go_4 {sc : List Value} {nm : Nat} {I : mg_I} {T : List Int32} {G : Nat} {n m x : Int32} (hG : isG G) (hG1 : G < 104) (hGn : I G 0 = n) (hGm : I G 2 = m) (ht : T.length ≤ 40) : SP sc 3 82 [.ref 11, .ref G, .ref 111, .int x] (brM I T) nm (qE (vGo 4 n x T).1 (brM I (vGo 4 n x T).2) nm) := by
  rw [show vGo 4 n x T = (x + n, addT T 10) from if_neg (by decide)]
  exact fun d hd => vw_w82 (x := x) hG hG1 hGn hGm ht (hK7 (k := 4) (by omega)) d (by omega)
theorem vw_go_5 {sc : List Value} {nm : Nat} {I : mg_I} {T : List Int32} {G : Nat} {n m x : Int32} (hG : isG G) (hG1 : G < 104) (hGn : I G 0 = n) (hGm : I G 2 = m) (ht : T.length ≤ 40) : SP sc 3 35 [.ref 12, .ref G, .ref 111, .int x] (brM I T) nm (qE (vGo 5 n x T).1 (brM I (vGo 5 n x T).2) nm) := by
  rw [show vGo 5 n x T = ((x + n) * 3, addT (addT T 30) 10) from if_pos (by decide)]
  exact fun d hd => vw_w35 (x := x) hG hG1 hGn hGm ht (hK7 (k := 5) (by omega)) d (by omega)
theorem vw_go_6 {sc : List Value} {nm : Nat} {I : mg_I} {T : List Int32} {G : Nat} {n m x : Int32} (hG : isG G) (hG1 : G < 104) (hGn : I G 0 = n) (hGm : I G 2 = m) (ht : T.length ≤ 40) : SP sc 3 82 [.ref 13, .ref G, .ref 111, .int x] (brM I T) nm (qE (vGo 6 n x T).1 (brM I (vGo 6 n x T).2) nm) := by
  rw [show vGo 6 n x T = (x + n, addT T 10) from if_neg (by decide)]
  exact fun d hd => vw_w82 (x := x) hG hG1 hGn hGm ht (hK7 (k := 6) (by omega)) d (by omega)
theorem vw_yi_0 {sc : List Value} {nm : Nat} {I : mg_I} {T : List Int32} {G : Nat} {n m x : Int32} (hG : isG G) (hG1 : G < 104) (hGn : I G 0 = n) (hGm : I G 2 = m) (ht : T.length ≤ 40) : SP sc 4 84 [.ref 7, .ref G, .ref 111, .int x] (brM I T) nm (qE (vYi 0 n m x T).1 (brM I (vYi 0 n m x T).2) nm) := by
  rw [show vYi 0 n m x T = (x - m, addT T 12) from (if_neg (by decide)).trans (if_neg (by decide))]
  exact fun d hd => vw_w84 (x := x) hG hG1 hGn hGm ht (hK7 (k := 0) (by omega)) d (by omega)
theorem vw_yi_1 {sc : List Value} {nm : Nat} {I : mg_I} {T : List Int32} {G : Nat} {n m x : Int32} (hG : isG G) (hG1 : G < 104) (hGn : I G 0 = n) (hGm : I G 2 = m) (ht : T.length ≤ 40) : SP sc 4 84 [.ref 8, .ref G, .ref 111, .int x] (brM I T) nm (qE (vYi 1 n m x T).1 (brM I (vYi 1 n m x T).2) nm) := by
  rw [show vYi 1 n m x T = (x - m, addT T 12) from (if_neg (by decide)).trans (if_neg (by decide))]
  exact fun d hd => vw_w84 (x := x) hG hG1 hGn hGm ht (hK7 (k := 1) (by omega)) d (by omega)
theorem vw_yi_2 {sc : List Value} {nm : Nat} {I : mg_I} {T : List Int32} {G : Nat} {n m x : Int32} (hG : isG G) (hG1 : G < 104) (hGn : I G 0 = n) (hGm : I G 2 = m) (ht : T.length ≤ 40) : SP sc 4 84 [.ref 9, .ref G, .ref 111, .int x] (brM I T) nm (qE (vYi 2 n m x T).1 (brM I (vYi 2 n m x T).2) nm) := by
  rw [show vYi 2 n m x T = (x - m, addT T 12) from (if_neg (by decide)).trans (if_neg (by decide))]
  exact fun d hd => vw_w84 (x := x) hG hG1 hGn hGm ht (hK7 (k := 2) (by omega)) d (by omega)
theorem vw_yi_3 {sc : List Value} {nm : Nat} {I : mg_I} {T : List Int32} {G : Nat} {n m x : Int32} (hG : isG G) (hG1 : G < 104) (hGn : I G 0 = n) (hGm : I G 2 = m) (ht : T.length ≤ 40) : SP sc 4 89 [.ref 10, .ref G, .ref 111, .int x] (brM I T) nm (qE (vYi 3 n m x T).1 (brM I (vYi 3 n m x T).2) nm) := by
  rw [show vYi 3 n m x T = (-(x - m), addT (addT T 40) 12) from if_pos (by decide)]
  exact fun d hd => vw_w89 (x := x) hG hG1 hGn hGm ht (hK7 (k := 3) (by omega)) d (by omega)
theorem vw_yi_4 {sc : List Value} {nm : Nat} {I : mg_I} {T : List Int32} {G : Nat} {n m x : Int32} (hG : isG G) (hG1 : G < 104) (hGn : I G 0 = n) (hGm : I G 2 = m) (ht : T.length ≤ 40) : SP sc 4 84 [.ref 11, .ref G, .ref 111, .int x] (brM I T) nm (qE (vYi 4 n m x T).1 (brM I (vYi 4 n m x T).2) nm) := by
  rw [show vYi 4 n m x T = (x - m, addT T 12) from (if_neg (by decide)).trans (if_neg (by decide))]
  exact fun d hd => vw_w84 (x := x) hG hG1 hGn hGm ht (hK7 (k := 4) (by omega)) d (by omega)
theorem vw_yi_5 {sc : List Value} {nm : Nat} {I : mg_I} {T : List Int32} {G : Nat} {n m x : Int32} (hG : isG G) (hG1 : G < 104) (hGn : I G 0 = n) (hGm : I G 2 = m) (ht : T.length ≤ 40) : SP sc 4 84 [.ref 12, .ref G, .ref 111, .int x] (brM I T) nm (qE (vYi 5 n m x T).1 (brM I (vYi 5 n m x T).2) nm) := by
  rw [show vYi 5 n m x T = (x - m, addT T 12) from (if_neg (by decide)).trans (if_neg (by decide))]
  exact fun d hd => vw_w84 (x := x) hG hG1 hGn hGm ht (hK7 (k := 5) (by omega)) d (by omega)
theorem vw_yi_6 {sc : List Value} {nm : Nat} {I : mg_I} {T : List Int32} {G : Nat} {n m x : Int32} (hG : isG G) (hG1 : G < 104) (hGn : I G 0 = n) (hGm : I G 2 = m) (ht : T.length ≤ 40) : SP sc 4 3 [.ref 13, .ref G, .ref 111, .int x] (brM I T) nm (qE (vYi 6 n m x T).1 (brM I (vYi 6 n m x T).2) nm) := by
  rw [show vYi 6 n m x T = (-(x - m) ^^^ n, addT (addT (addT T 70) 40) 12) from (if_neg (by decide)).trans (if_pos (by decide))]
  exact fun d hd => vw_w3 (x := x) hG hG1 hGn hGm ht (hK7 (k := 6) (by omega)) d (by omega)
theorem vw_b0_0 {sc : List Value} {nm : Nat} {I : mg_I} {T : List Int32} {G : Nat} {n m x : Int32} (hG : isG G) (hG1 : G < 104) (hGn : I G 0 = n) (hGm : I G 2 = m) (ht : T.length ≤ 40) : SP sc 5 83 [.ref 7, .ref G, .ref 111, .int x] (brM I T) nm (qE ((vBl0 0 n x T).1) (brM I (vBl0 0 n x T).2) nm) := by
  refine SP.of (h := 4) (t := 83) (q := (yX9_blows, cX9_blows, 4, (some .int), 9, 935, mi_k83)) rfl (by decide) (show ¬ (4 : Nat) < 4 by decide) (fun d hd => ?_)
  show GG sc 9 false false mi_k83 d 0 [.ref 7, .ref G, .ref 111, .int x] [] (brM I T) nm (qE ((vBl0 0 n x T).1) (brM I (vBl0 0 n x T).2) nm)
  refine g_aload_n (n := 1) rfl rfl ?_
  refine g_bipush (n := 3) (v := 11) rfl rfl ?_
  refine g_cv1 (n := 6) (t := 54) (ci := 6) rfl (by decide +kernel) (by decide +kernel) (by decide) (by decide) (by decide +kernel) (by rfl) (c_badd ht) (by omega) (g_A fun z => ?_)
  refine g_popi (n := 7) rfl ?_
  refine g_aload_n (n := 8) rfl rfl ?_
  refine g_aload_n (n := 9) rfl rfl ?_
  refine g_aload_n (n := 10) rfl rfl ?_
  refine g_iload_n (n := 11) rfl rfl ?_
  refine g_cv3 (n := 14) (t := 82) (ci := 9) rfl (by decide +kernel) (by decide +kernel) (by decide) (by decide) (by decide +kernel) (by rfl) (vw_go_0 (x := x) hG hG1 hGn hGm (addT_le ht)) (by omega) (g_E ?_)
  refine g_iconst (n := 15) (v := 2) rfl rfl ?_
  refine g_imul (n := 16) rfl ?_
  refine g_iret (n := 17) rfl (fun h => nomatch h) ?_
  exact ⟨rfl, rfl, rfl⟩
theorem vw_b0_1 {sc : List Value} {nm : Nat} {I : mg_I} {T : List Int32} {G : Nat} {n m x : Int32} (hG : isG G) (hG1 : G < 104) (hGn : I G 0 = n) (hGm : I G 2 = m) (ht : T.length ≤ 40) : SP sc 5 83 [.ref 8, .ref G, .ref 111, .int x] (brM I T) nm (qE ((vBl0 1 n x T).1) (brM I (vBl0 1 n x T).2) nm) := by
  refine SP.of (h := 4) (t := 83) (q := (yX9_blows, cX9_blows, 4, (some .int), 9, 935, mi_k83)) rfl (by decide) (show ¬ (4 : Nat) < 4 by decide) (fun d hd => ?_)
  show GG sc 9 false false mi_k83 d 0 [.ref 8, .ref G, .ref 111, .int x] [] (brM I T) nm (qE ((vBl0 1 n x T).1) (brM I (vBl0 1 n x T).2) nm)
  refine g_aload_n (n := 1) rfl rfl ?_
  refine g_bipush (n := 3) (v := 11) rfl rfl ?_
  refine g_cv1 (n := 6) (t := 54) (ci := 6) rfl (by decide +kernel) (by decide +kernel) (by decide) (by decide) (by decide +kernel) (by rfl) (c_badd ht) (by omega) (g_A fun z => ?_)
  refine g_popi (n := 7) rfl ?_
  refine g_aload_n (n := 8) rfl rfl ?_
  refine g_aload_n (n := 9) rfl rfl ?_
  refine g_aload_n (n := 10) rfl rfl ?_
  refine g_iload_n (n := 11) rfl rfl ?_
  refine g_cv3 (n := 14) (t := 82) (ci := 2) rfl (by decide +kernel) (by decide +kernel) (by decide) (by decide) (by decide +kernel) (by rfl) (vw_go_1 (x := x) hG hG1 hGn hGm (addT_le ht)) (by omega) (g_E ?_)
  refine g_iconst (n := 15) (v := 2) rfl rfl ?_
  refine g_imul (n := 16) rfl ?_
  refine g_iret (n := 17) rfl (fun h => nomatch h) ?_
  exact ⟨rfl, rfl, rfl⟩
theorem vw_b0_2 {sc : List Value} {nm : Nat} {I : mg_I} {T : List Int32} {G : Nat} {n m x : Int32} (hG : isG G) (hG1 : G < 104) (hGn : I G 0 = n) (hGm : I G 2 = m) (ht : T.length ≤ 40) : SP sc 5 83 [.ref 9, .ref G, .ref 111, .int x] (brM I T) nm (qE ((vBl0 2 n x T).1) (brM I (vBl0 2 n x T).2) nm) := by
  refine SP.of (h := 4) (t := 83) (q := (yX9_blows, cX9_blows, 4, (some .int), 9, 935, mi_k83)) rfl (by decide) (show ¬ (4 : Nat) < 4 by decide) (fun d hd => ?_)
  show GG sc 9 false false mi_k83 d 0 [.ref 9, .ref G, .ref 111, .int x] [] (brM I T) nm (qE ((vBl0 2 n x T).1) (brM I (vBl0 2 n x T).2) nm)
  refine g_aload_n (n := 1) rfl rfl ?_
  refine g_bipush (n := 3) (v := 11) rfl rfl ?_
  refine g_cv1 (n := 6) (t := 54) (ci := 6) rfl (by decide +kernel) (by decide +kernel) (by decide) (by decide) (by decide +kernel) (by rfl) (c_badd ht) (by omega) (g_A fun z => ?_)
  refine g_popi (n := 7) rfl ?_
  refine g_aload_n (n := 8) rfl rfl ?_
  refine g_aload_n (n := 9) rfl rfl ?_
  refine g_aload_n (n := 10) rfl rfl ?_
  refine g_iload_n (n := 11) rfl rfl ?_
  refine g_cv3 (n := 14) (t := 35) (ci := 3) rfl (by decide +kernel) (by decide +kernel) (by decide) (by decide) (by decide +kernel) (by rfl) (vw_go_2 (x := x) hG hG1 hGn hGm (addT_le ht)) (by omega) (g_E ?_)
  refine g_iconst (n := 15) (v := 2) rfl rfl ?_
  refine g_imul (n := 16) rfl ?_
  refine g_iret (n := 17) rfl (fun h => nomatch h) ?_
  exact ⟨rfl, rfl, rfl⟩
theorem vw_b0_3 {sc : List Value} {nm : Nat} {I : mg_I} {T : List Int32} {G : Nat} {n m x : Int32} (hG : isG G) (hG1 : G < 104) (hGn : I G 0 = n) (hGm : I G 2 = m) (ht : T.length ≤ 40) : SP sc 5 83 [.ref 10, .ref G, .ref 111, .int x] (brM I T) nm (qE ((vBl0 3 n x T).1) (brM I (vBl0 3 n x T).2) nm) := by
  refine SP.of (h := 4) (t := 83) (q := (yX9_blows, cX9_blows, 4, (some .int), 9, 935, mi_k83)) rfl (by decide) (show ¬ (4 : Nat) < 4 by decide) (fun d hd => ?_)
  show GG sc 9 false false mi_k83 d 0 [.ref 10, .ref G, .ref 111, .int x] [] (brM I T) nm (qE ((vBl0 3 n x T).1) (brM I (vBl0 3 n x T).2) nm)
  refine g_aload_n (n := 1) rfl rfl ?_
  refine g_bipush (n := 3) (v := 11) rfl rfl ?_
  refine g_cv1 (n := 6) (t := 54) (ci := 6) rfl (by decide +kernel) (by decide +kernel) (by decide) (by decide) (by decide +kernel) (by rfl) (c_badd ht) (by omega) (g_A fun z => ?_)
  refine g_popi (n := 7) rfl ?_
  refine g_aload_n (n := 8) rfl rfl ?_
  refine g_aload_n (n := 9) rfl rfl ?_
  refine g_aload_n (n := 10) rfl rfl ?_
  refine g_iload_n (n := 11) rfl rfl ?_
  refine g_cv3 (n := 14) (t := 82) (ci := 10) rfl (by decide +kernel) (by decide +kernel) (by decide) (by decide) (by decide +kernel) (by rfl) (vw_go_3 (x := x) hG hG1 hGn hGm (addT_le ht)) (by omega) (g_E ?_)
  refine g_iconst (n := 15) (v := 2) rfl rfl ?_
  refine g_imul (n := 16) rfl ?_
  refine g_iret (n := 17) rfl (fun h => nomatch h) ?_
  exact ⟨rfl, rfl, rfl⟩
theorem vw_b0_4 {sc : List Value} {nm : Nat} {I : mg_I} {T : List Int32} {G : Nat} {n m x : Int32} (hG : isG G) (hG1 : G < 104) (hGn : I G 0 = n) (hGm : I G 2 = m) (ht : T.length ≤ 40) : SP sc 5 83 [.ref 11, .ref G, .ref 111, .int x] (brM I T) nm (qE ((vBl0 4 n x T).1) (brM I (vBl0 4 n x T).2) nm) := by
  refine SP.of (h := 4) (t := 83) (q := (yX9_blows, cX9_blows, 4, (some .int), 9, 935, mi_k83)) rfl (by decide) (show ¬ (4 : Nat) < 4 by decide) (fun d hd => ?_)
  show GG sc 9 false false mi_k83 d 0 [.ref 11, .ref G, .ref 111, .int x] [] (brM I T) nm (qE ((vBl0 4 n x T).1) (brM I (vBl0 4 n x T).2) nm)
  refine g_aload_n (n := 1) rfl rfl ?_
  refine g_bipush (n := 3) (v := 11) rfl rfl ?_
  refine g_cv1 (n := 6) (t := 54) (ci := 6) rfl (by decide +kernel) (by decide +kernel) (by decide) (by decide) (by decide +kernel) (by rfl) (c_badd ht) (by omega) (g_A fun z => ?_)
  refine g_popi (n := 7) rfl ?_
  refine g_aload_n (n := 8) rfl rfl ?_
  refine g_aload_n (n := 9) rfl rfl ?_
  refine g_aload_n (n := 10) rfl rfl ?_
  refine g_iload_n (n := 11) rfl rfl ?_
  refine g_cv3 (n := 14) (t := 82) (ci := 7) rfl (by decide +kernel) (by decide +kernel) (by decide) (by decide) (by decide +kernel) (by rfl) (vw_go_4 (x := x) hG hG1 hGn hGm (addT_le ht)) (by omega) (g_E ?_)
  refine g_iconst (n := 15) (v := 2) rfl rfl ?_
  refine g_imul (n := 16) rfl ?_
  refine g_iret (n := 17) rfl (fun h => nomatch h) ?_
  exact ⟨rfl, rfl, rfl⟩
theorem vw_b0_5 {sc : List Value} {nm : Nat} {I : mg_I} {T : List Int32} {G : Nat} {n m x : Int32} (hG : isG G) (hG1 : G < 104) (hGn : I G 0 = n) (hGm : I G 2 = m) (ht : T.length ≤ 40) : SP sc 5 83 [.ref 12, .ref G, .ref 111, .int x] (brM I T) nm (qE ((vBl0 5 n x T).1) (brM I (vBl0 5 n x T).2) nm) := by
  refine SP.of (h := 4) (t := 83) (q := (yX9_blows, cX9_blows, 4, (some .int), 9, 935, mi_k83)) rfl (by decide) (show ¬ (4 : Nat) < 4 by decide) (fun d hd => ?_)
  show GG sc 9 false false mi_k83 d 0 [.ref 12, .ref G, .ref 111, .int x] [] (brM I T) nm (qE ((vBl0 5 n x T).1) (brM I (vBl0 5 n x T).2) nm)
  refine g_aload_n (n := 1) rfl rfl ?_
  refine g_bipush (n := 3) (v := 11) rfl rfl ?_
  refine g_cv1 (n := 6) (t := 54) (ci := 6) rfl (by decide +kernel) (by decide +kernel) (by decide) (by decide) (by decide +kernel) (by rfl) (c_badd ht) (by omega) (g_A fun z => ?_)
  refine g_popi (n := 7) rfl ?_
  refine g_aload_n (n := 8) rfl rfl ?_
  refine g_aload_n (n := 9) rfl rfl ?_
  refine g_aload_n (n := 10) rfl rfl ?_
  refine g_iload_n (n := 11) rfl rfl ?_
  refine g_cv3 (n := 14) (t := 35) (ci := 5) rfl (by decide +kernel) (by decide +kernel) (by decide) (by decide) (by decide +kernel) (by rfl) (vw_go_5 (x := x) hG hG1 hGn hGm (addT_le ht)) (by omega) (g_E ?_)
  refine g_iconst (n := 15) (v := 2) rfl rfl ?_
  refine g_imul (n := 16) rfl ?_
  refine g_iret (n := 17) rfl (fun h => nomatch h) ?_
  exact ⟨rfl, rfl, rfl⟩
theorem vw_b0_6 {sc : List Value} {nm : Nat} {I : mg_I} {T : List Int32} {G : Nat} {n m x : Int32} (hG : isG G) (hG1 : G < 104) (hGn : I G 0 = n) (hGm : I G 2 = m) (ht : T.length ≤ 40) : SP sc 5 83 [.ref 13, .ref G, .ref 111, .int x] (brM I T) nm (qE ((vBl0 6 n x T).1) (brM I (vBl0 6 n x T).2) nm) := by
  refine SP.of (h := 4) (t := 83) (q := (yX9_blows, cX9_blows, 4, (some .int), 9, 935, mi_k83)) rfl (by decide) (show ¬ (4 : Nat) < 4 by decide) (fun d hd => ?_)
  show GG sc 9 false false mi_k83 d 0 [.ref 13, .ref G, .ref 111, .int x] [] (brM I T) nm (qE ((vBl0 6 n x T).1) (brM I (vBl0 6 n x T).2) nm)
  refine g_aload_n (n := 1) rfl rfl ?_
  refine g_bipush (n := 3) (v := 11) rfl rfl ?_
  refine g_cv1 (n := 6) (t := 54) (ci := 6) rfl (by decide +kernel) (by decide +kernel) (by decide) (by decide) (by decide +kernel) (by rfl) (c_badd ht) (by omega) (g_A fun z => ?_)
  refine g_popi (n := 7) rfl ?_
  refine g_aload_n (n := 8) rfl rfl ?_
  refine g_aload_n (n := 9) rfl rfl ?_
  refine g_aload_n (n := 10) rfl rfl ?_
  refine g_iload_n (n := 11) rfl rfl ?_
  refine g_cv3 (n := 14) (t := 82) (ci := 0) rfl (by decide +kernel) (by decide +kernel) (by decide) (by decide) (by decide +kernel) (by rfl) (vw_go_6 (x := x) hG hG1 hGn hGm (addT_le ht)) (by omega) (g_E ?_)
  refine g_iconst (n := 15) (v := 2) rfl rfl ?_
  refine g_imul (n := 16) rfl ?_
  refine g_iret (n := 17) rfl (fun h => nomatch h) ?_
  exact ⟨rfl, rfl, rfl⟩
theorem vw_co_1 {sc : List Value} {nm : Nat} {I : mg_I} {T : List Int32} {G : Nat} {n m x : Int32} (hG : isG G) (hG1 : G < 104) (hGn : I G 0 = n) (hGm : I G 2 = m) (ht : T.length ≤ 40) : SP sc 7 32 [.ref 8, .ref G, .ref 111, .int x] (brM I T) nm (qE ((vCo 1 n m x T).1) (brM I (vCo 1 n m x T).2) nm) := by
  refine SP.of (h := 6) (t := 32) (q := (yX2_blows, cX2_blows, 4, (some .int), 2, 917, mi_k32)) rfl (by decide) (show ¬ (4 : Nat) < 4 by decide) (fun d hd => ?_)
  show GG sc 2 false false mi_k32 d 0 [.ref 8, .ref G, .ref 111, .int x] [] (brM I T) nm (qE ((vCo 1 n m x T).1) (brM I (vCo 1 n m x T).2) nm)
  refine g_aload_n (n := 1) rfl rfl ?_
  refine g_bipush (n := 3) (v := 20) rfl rfl ?_
  refine g_cv1 (n := 6) (t := 54) (ci := 6) rfl (by decide +kernel) (by decide +kernel) (by decide) (by decide) (by decide +kernel) (by rfl) (c_badd ht) (by omega) (g_A fun z => ?_)
  refine g_popi (n := 7) rfl ?_
  refine g_aload_n (n := 8) rfl rfl ?_
  refine g_aload_n (n := 9) rfl rfl ?_
  refine g_aload_n (n := 10) rfl rfl ?_
  refine g_iload_n (n := 11) rfl rfl ?_
  refine g_cp3 (n := 14) (t := 83) (x := (9, 919, 913, 113, 106, 911, 72)) rfl (by decide +kernel) (by decide +kernel) (by decide +kernel) rfl ⟨by decide, by decide⟩ (by decide) (by rfl) (vw_b0_1 (x := x) hG hG1 hGn hGm (addT_le ht)) (by omega) (g_E ?_)
  refine g_aload_n (n := 15) rfl rfl ?_
  refine g_aload_n (n := 16) rfl rfl ?_
  refine g_aload_n (n := 17) rfl rfl ?_
  refine g_iconst (n := 18) (v := 1) rfl rfl ?_
  refine g_cv3 (n := 21) (t := 84) (ci := 2) rfl (by decide +kernel) (by decide +kernel) (by decide) (by decide) (by decide +kernel) (by rfl) (vw_yi_1 (x := 1) hG hG1 hGn hGm (vBl0_le (addT_le ht))) (by omega) (g_E ?_)
  refine g_isub (n := 22) rfl ?_
  refine g_iret (n := 23) rfl (fun h => nomatch h) ?_
  exact ⟨rfl, rfl, rfl⟩
theorem vw_co_4 {sc : List Value} {nm : Nat} {I : mg_I} {T : List Int32} {G : Nat} {n m x : Int32} (hG : isG G) (hG1 : G < 104) (hGn : I G 0 = n) (hGm : I G 2 = m) (ht : T.length ≤ 40) : SP sc 7 32 [.ref 11, .ref G, .ref 111, .int x] (brM I T) nm (qE ((vCo 4 n m x T).1) (brM I (vCo 4 n m x T).2) nm) := by
  refine SP.of (h := 6) (t := 32) (q := (yX2_blows, cX2_blows, 4, (some .int), 2, 917, mi_k32)) rfl (by decide) (show ¬ (4 : Nat) < 4 by decide) (fun d hd => ?_)
  show GG sc 2 false false mi_k32 d 0 [.ref 11, .ref G, .ref 111, .int x] [] (brM I T) nm (qE ((vCo 4 n m x T).1) (brM I (vCo 4 n m x T).2) nm)
  refine g_aload_n (n := 1) rfl rfl ?_
  refine g_bipush (n := 3) (v := 20) rfl rfl ?_
  refine g_cv1 (n := 6) (t := 54) (ci := 6) rfl (by decide +kernel) (by decide +kernel) (by decide) (by decide) (by decide +kernel) (by rfl) (c_badd ht) (by omega) (g_A fun z => ?_)
  refine g_popi (n := 7) rfl ?_
  refine g_aload_n (n := 8) rfl rfl ?_
  refine g_aload_n (n := 9) rfl rfl ?_
  refine g_aload_n (n := 10) rfl rfl ?_
  refine g_iload_n (n := 11) rfl rfl ?_
  refine g_cp3 (n := 14) (t := 83) (x := (9, 919, 913, 113, 106, 911, 72)) rfl (by decide +kernel) (by decide +kernel) (by decide +kernel) rfl ⟨by decide, by decide⟩ (by decide) (by rfl) (vw_b0_4 (x := x) hG hG1 hGn hGm (addT_le ht)) (by omega) (g_E ?_)
  refine g_aload_n (n := 15) rfl rfl ?_
  refine g_aload_n (n := 16) rfl rfl ?_
  refine g_aload_n (n := 17) rfl rfl ?_
  refine g_iconst (n := 18) (v := 1) rfl rfl ?_
  refine g_cv3 (n := 21) (t := 84) (ci := 7) rfl (by decide +kernel) (by decide +kernel) (by decide) (by decide) (by decide +kernel) (by rfl) (vw_yi_4 (x := 1) hG hG1 hGn hGm (vBl0_le (addT_le ht))) (by omega) (g_E ?_)
  refine g_isub (n := 22) rfl ?_
  refine g_iret (n := 23) rfl (fun h => nomatch h) ?_
  exact ⟨rfl, rfl, rfl⟩
theorem vw_bs_4 {sc : List Value} {nm : Nat} {I : mg_I} {T : List Int32} {G : Nat} {n m x : Int32} (hG : isG G) (hG1 : G < 104) (hGn : I G 0 = n) (hGm : I G 2 = m) (ht : T.length ≤ 40) : SP sc 8 64 [.ref 11, .ref G, .ref 111, .int x] (brM I T) nm (qE ((vCo 4 n m (x + 1) (addT T 50)).1) (brM I (vCo 4 n m (x + 1) (addT T 50)).2) nm) := by
  refine SP.of (h := 7) (t := 64) (q := (yX7_blows, cX7_blows, 4, (some .int), 7, 931, mi_k64)) rfl (by decide) (show ¬ (4 : Nat) < 4 by decide) (fun d hd => ?_)
  show GG sc 7 false false mi_k64 d 0 [.ref 11, .ref G, .ref 111, .int x] [] (brM I T) nm (qE ((vCo 4 n m (x + 1) (addT T 50)).1) (brM I (vCo 4 n m (x + 1) (addT T 50)).2) nm)
  refine g_aload_n (n := 1) rfl rfl ?_
  refine g_bipush (n := 3) (v := 50) rfl rfl ?_
  refine g_cv1 (n := 6) (t := 54) (ci := 6) rfl (by decide +kernel) (by decide +kernel) (by decide) (by decide) (by decide +kernel) (by rfl) (c_badd ht) (by omega) (g_A fun z => ?_)
  refine g_popi (n := 7) rfl ?_
  refine g_aload_n (n := 8) rfl rfl ?_
  refine g_aload_n (n := 9) rfl rfl ?_
  refine g_aload_n (n := 10) rfl rfl ?_
  refine g_iload_n (n := 11) rfl rfl ?_
  refine g_iconst (n := 12) (v := 1) rfl rfl ?_
  refine g_iadd (n := 13) rfl ?_
  refine g_cp3 (n := 16) (t := 32) (x := (2, 933, 1517, 134, 113, 916, 73)) rfl (by decide +kernel) (by decide +kernel) (by decide +kernel) rfl ⟨by decide, by decide⟩ (by decide) (by rfl) (vw_co_4 (x := (x + 1)) hG hG1 hGn hGm (addT_le ht)) (by omega) (g_E ?_)
  refine g_iret (n := 17) rfl (fun h => nomatch h) ?_
  exact ⟨rfl, rfl, rfl⟩
theorem vw_bl_0 {sc : List Value} {nm : Nat} {I : mg_I} {T : List Int32} {G : Nat} {n m x : Int32} (hG : isG G) (hG1 : G < 104) (hGn : I G 0 = n) (hGm : I G 2 = m) (ht : T.length ≤ 40) : SP sc 8 83 [.ref 7, .ref G, .ref 111, .int x] (brM I T) nm (qE (vBl 0 n m x T).1 (brM I (vBl 0 n m x T).2) nm) := by
  rw [show vBl 0 n m x T = vBl0 0 n x T from (if_neg (by decide)).trans (if_neg (by decide))]
  exact fun d hd => vw_b0_0 (x := x) hG hG1 hGn hGm ht d (by omega)
theorem vw_bl_1 {sc : List Value} {nm : Nat} {I : mg_I} {T : List Int32} {G : Nat} {n m x : Int32} (hG : isG G) (hG1 : G < 104) (hGn : I G 0 = n) (hGm : I G 2 = m) (ht : T.length ≤ 40) : SP sc 8 32 [.ref 8, .ref G, .ref 111, .int x] (brM I T) nm (qE (vBl 1 n m x T).1 (brM I (vBl 1 n m x T).2) nm) := by
  rw [show vBl 1 n m x T = vCo 1 n m x T from if_pos (by decide)]
  exact fun d hd => vw_co_1 (x := x) hG hG1 hGn hGm ht d (by omega)
theorem vw_bl_2 {sc : List Value} {nm : Nat} {I : mg_I} {T : List Int32} {G : Nat} {n m x : Int32} (hG : isG G) (hG1 : G < 104) (hGn : I G 0 = n) (hGm : I G 2 = m) (ht : T.length ≤ 40) : SP sc 8 83 [.ref 9, .ref G, .ref 111, .int x] (brM I T) nm (qE (vBl 2 n m x T).1 (brM I (vBl 2 n m x T).2) nm) := by
  rw [show vBl 2 n m x T = vBl0 2 n x T from (if_neg (by decide)).trans (if_neg (by decide))]
  exact fun d hd => vw_b0_2 (x := x) hG hG1 hGn hGm ht d (by omega)
theorem vw_bl_3 {sc : List Value} {nm : Nat} {I : mg_I} {T : List Int32} {G : Nat} {n m x : Int32} (hG : isG G) (hG1 : G < 104) (hGn : I G 0 = n) (hGm : I G 2 = m) (ht : T.length ≤ 40) : SP sc 8 83 [.ref 10, .ref G, .ref 111, .int x] (brM I T) nm (qE (vBl 3 n m x T).1 (brM I (vBl 3 n m x T).2) nm) := by
  rw [show vBl 3 n m x T = vBl0 3 n x T from (if_neg (by decide)).trans (if_neg (by decide))]
  exact fun d hd => vw_b0_3 (x := x) hG hG1 hGn hGm ht d (by omega)
theorem vw_bl_4 {sc : List Value} {nm : Nat} {I : mg_I} {T : List Int32} {G : Nat} {n m x : Int32} (hG : isG G) (hG1 : G < 104) (hGn : I G 0 = n) (hGm : I G 2 = m) (ht : T.length ≤ 40) : SP sc 8 64 [.ref 11, .ref G, .ref 111, .int x] (brM I T) nm (qE (vBl 4 n m x T).1 (brM I (vBl 4 n m x T).2) nm) := by
  rw [show vBl 4 n m x T = vCo 4 n m (x + 1) (addT T 50) from (if_neg (by decide)).trans (if_pos (by decide))]
  exact fun d hd => vw_bs_4 (x := x) hG hG1 hGn hGm ht d (by omega)
theorem vw_bl_5 {sc : List Value} {nm : Nat} {I : mg_I} {T : List Int32} {G : Nat} {n m x : Int32} (hG : isG G) (hG1 : G < 104) (hGn : I G 0 = n) (hGm : I G 2 = m) (ht : T.length ≤ 40) : SP sc 8 83 [.ref 12, .ref G, .ref 111, .int x] (brM I T) nm (qE (vBl 5 n m x T).1 (brM I (vBl 5 n m x T).2) nm) := by
  rw [show vBl 5 n m x T = vBl0 5 n x T from (if_neg (by decide)).trans (if_neg (by decide))]
  exact fun d hd => vw_b0_5 (x := x) hG hG1 hGn hGm ht d (by omega)
theorem vw_bl_6 {sc : List Value} {nm : Nat} {I : mg_I} {T : List Int32} {G : Nat} {n m x : Int32} (hG : isG G) (hG1 : G < 104) (hGn : I G 0 = n) (hGm : I G 2 = m) (ht : T.length ≤ 40) : SP sc 8 83 [.ref 13, .ref G, .ref 111, .int x] (brM I T) nm (qE (vBl 6 n m x T).1 (brM I (vBl 6 n m x T).2) nm) := by
  rw [show vBl 6 n m x T = vBl0 6 n x T from (if_neg (by decide)).trans (if_neg (by decide))]
  exact fun d hd => vw_b0_6 (x := x) hG hG1 hGn hGm ht d (by omega)
theorem vw_v0_0 {sc : List Value} {nm : Nat} {I : mg_I} {T : List Int32} {G : Nat} {n m x : Int32} (hG : isG G) (hG1 : G < 104) (hGn : I G 0 = n) (hGm : I G 2 = m) (ht : T.length ≤ 40) : SP sc 10 85 [.ref 7, .ref G, .ref 111, .int x] (brM I T) nm (qE ((vBl 0 n m x (addT T 13)).1 ^^^ (vYi 0 n m x (vBl 0 n m x (addT T 13)).2).1) (brM I (vYi 0 n m x (vBl 0 n m x (addT T 13)).2).2) nm) := by
  refine SP.of (h := 9) (t := 85) (q := (yX9_tells, cX9_tells, 4, (some .int), 9, 974, mi_k85)) rfl (by decide) (show ¬ (4 : Nat) < 4 by decide) (fun d hd => ?_)
  show GG sc 9 false false mi_k85 d 0 [.ref 7, .ref G, .ref 111, .int x] [] (brM I T) nm (qE ((vBl 0 n m x (addT T 13)).1 ^^^ (vYi 0 n m x (vBl 0 n m x (addT T 13)).2).1) (brM I (vYi 0 n m x (vBl 0 n m x (addT T 13)).2).2) nm)
  refine g_aload_n (n := 1) rfl rfl ?_
  refine g_bipush (n := 3) (v := 13) rfl rfl ?_
  refine g_cv1 (n := 6) (t := 54) (ci := 6) rfl (by decide +kernel) (by decide +kernel) (by decide) (by decide) (by decide +kernel) (by rfl) (c_badd ht) (by omega) (g_A fun z => ?_)
  refine g_popi (n := 7) rfl ?_
  refine g_aload_n (n := 8) rfl rfl ?_
  refine g_aload_n (n := 9) rfl rfl ?_
  refine g_aload_n (n := 10) rfl rfl ?_
  refine g_iload_n (n := 11) rfl rfl ?_
  refine g_cv3 (n := 14) (t := 83) (ci := 9) rfl (by decide +kernel) (by decide +kernel) (by decide) (by decide) (by decide +kernel) (by rfl) (vw_bl_0 (x := x) hG hG1 hGn hGm (addT_le ht)) (by omega) (g_E ?_)
  refine g_aload_n (n := 15) rfl rfl ?_
  refine g_aload_n (n := 16) rfl rfl ?_
  refine g_aload_n (n := 17) rfl rfl ?_
  refine g_iload_n (n := 18) rfl rfl ?_
  refine g_cv3 (n := 21) (t := 84) (ci := 9) rfl (by decide +kernel) (by decide +kernel) (by decide) (by decide) (by decide +kernel) (by rfl) (vw_yi_0 (x := x) hG hG1 hGn hGm (vBl_le (addT_le ht))) (by omega) (g_E ?_)
  refine g_ixor (n := 22) rfl ?_
  refine g_iret (n := 23) rfl (fun h => nomatch h) ?_
  exact ⟨rfl, rfl, rfl⟩
theorem vw_v0_1 {sc : List Value} {nm : Nat} {I : mg_I} {T : List Int32} {G : Nat} {n m x : Int32} (hG : isG G) (hG1 : G < 104) (hGn : I G 0 = n) (hGm : I G 2 = m) (ht : T.length ≤ 40) : SP sc 10 85 [.ref 8, .ref G, .ref 111, .int x] (brM I T) nm (qE ((vBl 1 n m x (addT T 13)).1 ^^^ (vYi 1 n m x (vBl 1 n m x (addT T 13)).2).1) (brM I (vYi 1 n m x (vBl 1 n m x (addT T 13)).2).2) nm) := by
  refine SP.of (h := 9) (t := 85) (q := (yX9_tells, cX9_tells, 4, (some .int), 9, 974, mi_k85)) rfl (by decide) (show ¬ (4 : Nat) < 4 by decide) (fun d hd => ?_)
  show GG sc 9 false false mi_k85 d 0 [.ref 8, .ref G, .ref 111, .int x] [] (brM I T) nm (qE ((vBl 1 n m x (addT T 13)).1 ^^^ (vYi 1 n m x (vBl 1 n m x (addT T 13)).2).1) (brM I (vYi 1 n m x (vBl 1 n m x (addT T 13)).2).2) nm)
  refine g_aload_n (n := 1) rfl rfl ?_
  refine g_bipush (n := 3) (v := 13) rfl rfl ?_
  refine g_cv1 (n := 6) (t := 54) (ci := 6) rfl (by decide +kernel) (by decide +kernel) (by decide) (by decide) (by decide +kernel) (by rfl) (c_badd ht) (by omega) (g_A fun z => ?_)
  refine g_popi (n := 7) rfl ?_
  refine g_aload_n (n := 8) rfl rfl ?_
  refine g_aload_n (n := 9) rfl rfl ?_
  refine g_aload_n (n := 10) rfl rfl ?_
  refine g_iload_n (n := 11) rfl rfl ?_
  refine g_cv3 (n := 14) (t := 32) (ci := 2) rfl (by decide +kernel) (by decide +kernel) (by decide) (by decide) (by decide +kernel) (by rfl) (vw_bl_1 (x := x) hG hG1 hGn hGm (addT_le ht)) (by omega) (g_E ?_)
  refine g_aload_n (n := 15) rfl rfl ?_
  refine g_aload_n (n := 16) rfl rfl ?_
  refine g_aload_n (n := 17) rfl rfl ?_
  refine g_iload_n (n := 18) rfl rfl ?_
  refine g_cv3 (n := 21) (t := 84) (ci := 2) rfl (by decide +kernel) (by decide +kernel) (by decide) (by decide) (by decide +kernel) (by rfl) (vw_yi_1 (x := x) hG hG1 hGn hGm (vBl_le (addT_le ht))) (by omega) (g_E ?_)
  refine g_ixor (n := 22) rfl ?_
  refine g_iret (n := 23) rfl (fun h => nomatch h) ?_
  exact ⟨rfl, rfl, rfl⟩
theorem vw_v0_2 {sc : List Value} {nm : Nat} {I : mg_I} {T : List Int32} {G : Nat} {n m x : Int32} (hG : isG G) (hG1 : G < 104) (hGn : I G 0 = n) (hGm : I G 2 = m) (ht : T.length ≤ 40) : SP sc 10 85 [.ref 9, .ref G, .ref 111, .int x] (brM I T) nm (qE ((vBl 2 n m x (addT T 13)).1 ^^^ (vYi 2 n m x (vBl 2 n m x (addT T 13)).2).1) (brM I (vYi 2 n m x (vBl 2 n m x (addT T 13)).2).2) nm) := by
  refine SP.of (h := 9) (t := 85) (q := (yX9_tells, cX9_tells, 4, (some .int), 9, 974, mi_k85)) rfl (by decide) (show ¬ (4 : Nat) < 4 by decide) (fun d hd => ?_)
  show GG sc 9 false false mi_k85 d 0 [.ref 9, .ref G, .ref 111, .int x] [] (brM I T) nm (qE ((vBl 2 n m x (addT T 13)).1 ^^^ (vYi 2 n m x (vBl 2 n m x (addT T 13)).2).1) (brM I (vYi 2 n m x (vBl 2 n m x (addT T 13)).2).2) nm)
  refine g_aload_n (n := 1) rfl rfl ?_
  refine g_bipush (n := 3) (v := 13) rfl rfl ?_
  refine g_cv1 (n := 6) (t := 54) (ci := 6) rfl (by decide +kernel) (by decide +kernel) (by decide) (by decide) (by decide +kernel) (by rfl) (c_badd ht) (by omega) (g_A fun z => ?_)
  refine g_popi (n := 7) rfl ?_
  refine g_aload_n (n := 8) rfl rfl ?_
  refine g_aload_n (n := 9) rfl rfl ?_
  refine g_aload_n (n := 10) rfl rfl ?_
  refine g_iload_n (n := 11) rfl rfl ?_
  refine g_cv3 (n := 14) (t := 83) (ci := 3) rfl (by decide +kernel) (by decide +kernel) (by decide) (by decide) (by decide +kernel) (by rfl) (vw_bl_2 (x := x) hG hG1 hGn hGm (addT_le ht)) (by omega) (g_E ?_)
  refine g_aload_n (n := 15) rfl rfl ?_
  refine g_aload_n (n := 16) rfl rfl ?_
  refine g_aload_n (n := 17) rfl rfl ?_
  refine g_iload_n (n := 18) rfl rfl ?_
  refine g_cv3 (n := 21) (t := 84) (ci := 3) rfl (by decide +kernel) (by decide +kernel) (by decide) (by decide) (by decide +kernel) (by rfl) (vw_yi_2 (x := x) hG hG1 hGn hGm (vBl_le (addT_le ht))) (by omega) (g_E ?_)
  refine g_ixor (n := 22) rfl ?_
  refine g_iret (n := 23) rfl (fun h => nomatch h) ?_
  exact ⟨rfl, rfl, rfl⟩
theorem vw_v0_3 {sc : List Value} {nm : Nat} {I : mg_I} {T : List Int32} {G : Nat} {n m x : Int32} (hG : isG G) (hG1 : G < 104) (hGn : I G 0 = n) (hGm : I G 2 = m) (ht : T.length ≤ 40) : SP sc 10 85 [.ref 10, .ref G, .ref 111, .int x] (brM I T) nm (qE ((vBl 3 n m x (addT T 13)).1 ^^^ (vYi 3 n m x (vBl 3 n m x (addT T 13)).2).1) (brM I (vYi 3 n m x (vBl 3 n m x (addT T 13)).2).2) nm) := by
  refine SP.of (h := 9) (t := 85) (q := (yX9_tells, cX9_tells, 4, (some .int), 9, 974, mi_k85)) rfl (by decide) (show ¬ (4 : Nat) < 4 by decide) (fun d hd => ?_)
  show GG sc 9 false false mi_k85 d 0 [.ref 10, .ref G, .ref 111, .int x] [] (brM I T) nm (qE ((vBl 3 n m x (addT T 13)).1 ^^^ (vYi 3 n m x (vBl 3 n m x (addT T 13)).2).1) (brM I (vYi 3 n m x (vBl 3 n m x (addT T 13)).2).2) nm)
  refine g_aload_n (n := 1) rfl rfl ?_
  refine g_bipush (n := 3) (v := 13) rfl rfl ?_
  refine g_cv1 (n := 6) (t := 54) (ci := 6) rfl (by decide +kernel) (by decide +kernel) (by decide) (by decide) (by decide +kernel) (by rfl) (c_badd ht) (by omega) (g_A fun z => ?_)
  refine g_popi (n := 7) rfl ?_
  refine g_aload_n (n := 8) rfl rfl ?_
  refine g_aload_n (n := 9) rfl rfl ?_
  refine g_aload_n (n := 10) rfl rfl ?_
  refine g_iload_n (n := 11) rfl rfl ?_
  refine g_cv3 (n := 14) (t := 83) (ci := 10) rfl (by decide +kernel) (by decide +kernel) (by decide) (by decide) (by decide +kernel) (by rfl) (vw_bl_3 (x := x) hG hG1 hGn hGm (addT_le ht)) (by omega) (g_E ?_)
  refine g_aload_n (n := 15) rfl rfl ?_
  refine g_aload_n (n := 16) rfl rfl ?_
  refine g_aload_n (n := 17) rfl rfl ?_
  refine g_iload_n (n := 18) rfl rfl ?_
  refine g_cv3 (n := 21) (t := 89) (ci := 10) rfl (by decide +kernel) (by decide +kernel) (by decide) (by decide) (by decide +kernel) (by rfl) (vw_yi_3 (x := x) hG hG1 hGn hGm (vBl_le (addT_le ht))) (by omega) (g_E ?_)
  refine g_ixor (n := 22) rfl ?_
  refine g_iret (n := 23) rfl (fun h => nomatch h) ?_
  exact ⟨rfl, rfl, rfl⟩
theorem vw_v0_4 {sc : List Value} {nm : Nat} {I : mg_I} {T : List Int32} {G : Nat} {n m x : Int32} (hG : isG G) (hG1 : G < 104) (hGn : I G 0 = n) (hGm : I G 2 = m) (ht : T.length ≤ 40) : SP sc 10 85 [.ref 11, .ref G, .ref 111, .int x] (brM I T) nm (qE ((vBl 4 n m x (addT T 13)).1 ^^^ (vYi 4 n m x (vBl 4 n m x (addT T 13)).2).1) (brM I (vYi 4 n m x (vBl 4 n m x (addT T 13)).2).2) nm) := by
  refine SP.of (h := 9) (t := 85) (q := (yX9_tells, cX9_tells, 4, (some .int), 9, 974, mi_k85)) rfl (by decide) (show ¬ (4 : Nat) < 4 by decide) (fun d hd => ?_)
  show GG sc 9 false false mi_k85 d 0 [.ref 11, .ref G, .ref 111, .int x] [] (brM I T) nm (qE ((vBl 4 n m x (addT T 13)).1 ^^^ (vYi 4 n m x (vBl 4 n m x (addT T 13)).2).1) (brM I (vYi 4 n m x (vBl 4 n m x (addT T 13)).2).2) nm)
  refine g_aload_n (n := 1) rfl rfl ?_
  refine g_bipush (n := 3) (v := 13) rfl rfl ?_
  refine g_cv1 (n := 6) (t := 54) (ci := 6) rfl (by decide +kernel) (by decide +kernel) (by decide) (by decide) (by decide +kernel) (by rfl) (c_badd ht) (by omega) (g_A fun z => ?_)
  refine g_popi (n := 7) rfl ?_
  refine g_aload_n (n := 8) rfl rfl ?_
  refine g_aload_n (n := 9) rfl rfl ?_
  refine g_aload_n (n := 10) rfl rfl ?_
  refine g_iload_n (n := 11) rfl rfl ?_
  refine g_cv3 (n := 14) (t := 64) (ci := 7) rfl (by decide +kernel) (by decide +kernel) (by decide) (by decide) (by decide +kernel) (by rfl) (vw_bl_4 (x := x) hG hG1 hGn hGm (addT_le ht)) (by omega) (g_E ?_)
  refine g_aload_n (n := 15) rfl rfl ?_
  refine g_aload_n (n := 16) rfl rfl ?_
  refine g_aload_n (n := 17) rfl rfl ?_
  refine g_iload_n (n := 18) rfl rfl ?_
  refine g_cv3 (n := 21) (t := 84) (ci := 7) rfl (by decide +kernel) (by decide +kernel) (by decide) (by decide) (by decide +kernel) (by rfl) (vw_yi_4 (x := x) hG hG1 hGn hGm (vBl_le (addT_le ht))) (by omega) (g_E ?_)
  refine g_ixor (n := 22) rfl ?_
  refine g_iret (n := 23) rfl (fun h => nomatch h) ?_
  exact ⟨rfl, rfl, rfl⟩
theorem vw_v0_5 {sc : List Value} {nm : Nat} {I : mg_I} {T : List Int32} {G : Nat} {n m x : Int32} (hG : isG G) (hG1 : G < 104) (hGn : I G 0 = n) (hGm : I G 2 = m) (ht : T.length ≤ 40) : SP sc 10 85 [.ref 12, .ref G, .ref 111, .int x] (brM I T) nm (qE ((vBl 5 n m x (addT T 13)).1 ^^^ (vYi 5 n m x (vBl 5 n m x (addT T 13)).2).1) (brM I (vYi 5 n m x (vBl 5 n m x (addT T 13)).2).2) nm) := by
  refine SP.of (h := 9) (t := 85) (q := (yX9_tells, cX9_tells, 4, (some .int), 9, 974, mi_k85)) rfl (by decide) (show ¬ (4 : Nat) < 4 by decide) (fun d hd => ?_)
  show GG sc 9 false false mi_k85 d 0 [.ref 12, .ref G, .ref 111, .int x] [] (brM I T) nm (qE ((vBl 5 n m x (addT T 13)).1 ^^^ (vYi 5 n m x (vBl 5 n m x (addT T 13)).2).1) (brM I (vYi 5 n m x (vBl 5 n m x (addT T 13)).2).2) nm)
  refine g_aload_n (n := 1) rfl rfl ?_
  refine g_bipush (n := 3) (v := 13) rfl rfl ?_
  refine g_cv1 (n := 6) (t := 54) (ci := 6) rfl (by decide +kernel) (by decide +kernel) (by decide) (by decide) (by decide +kernel) (by rfl) (c_badd ht) (by omega) (g_A fun z => ?_)
  refine g_popi (n := 7) rfl ?_
  refine g_aload_n (n := 8) rfl rfl ?_
  refine g_aload_n (n := 9) rfl rfl ?_
  refine g_aload_n (n := 10) rfl rfl ?_
  refine g_iload_n (n := 11) rfl rfl ?_
  refine g_cv3 (n := 14) (t := 83) (ci := 5) rfl (by decide +kernel) (by decide +kernel) (by decide) (by decide) (by decide +kernel) (by rfl) (vw_bl_5 (x := x) hG hG1 hGn hGm (addT_le ht)) (by omega) (g_E ?_)
  refine g_aload_n (n := 15) rfl rfl ?_
  refine g_aload_n (n := 16) rfl rfl ?_
  refine g_aload_n (n := 17) rfl rfl ?_
  refine g_iload_n (n := 18) rfl rfl ?_
  refine g_cv3 (n := 21) (t := 84) (ci := 5) rfl (by decide +kernel) (by decide +kernel) (by decide) (by decide) (by decide +kernel) (by rfl) (vw_yi_5 (x := x) hG hG1 hGn hGm (vBl_le (addT_le ht))) (by omega) (g_E ?_)
  refine g_ixor (n := 22) rfl ?_
  refine g_iret (n := 23) rfl (fun h => nomatch h) ?_
  exact ⟨rfl, rfl, rfl⟩
theorem vw_v0_6 {sc : List Value} {nm : Nat} {I : mg_I} {T : List Int32} {G : Nat} {n m x : Int32} (hG : isG G) (hG1 : G < 104) (hGn : I G 0 = n) (hGm : I G 2 = m) (ht : T.length ≤ 40) : SP sc 10 85 [.ref 13, .ref G, .ref 111, .int x] (brM I T) nm (qE ((vBl 6 n m x (addT T 13)).1 ^^^ (vYi 6 n m x (vBl 6 n m x (addT T 13)).2).1) (brM I (vYi 6 n m x (vBl 6 n m x (addT T 13)).2).2) nm) := by
  refine SP.of (h := 9) (t := 85) (q := (yX9_tells, cX9_tells, 4, (some .int), 9, 974, mi_k85)) rfl (by decide) (show ¬ (4 : Nat) < 4 by decide) (fun d hd => ?_)
  show GG sc 9 false false mi_k85 d 0 [.ref 13, .ref G, .ref 111, .int x] [] (brM I T) nm (qE ((vBl 6 n m x (addT T 13)).1 ^^^ (vYi 6 n m x (vBl 6 n m x (addT T 13)).2).1) (brM I (vYi 6 n m x (vBl 6 n m x (addT T 13)).2).2) nm)
  refine g_aload_n (n := 1) rfl rfl ?_
  refine g_bipush (n := 3) (v := 13) rfl rfl ?_
  refine g_cv1 (n := 6) (t := 54) (ci := 6) rfl (by decide +kernel) (by decide +kernel) (by decide) (by decide) (by decide +kernel) (by rfl) (c_badd ht) (by omega) (g_A fun z => ?_)
  refine g_popi (n := 7) rfl ?_
  refine g_aload_n (n := 8) rfl rfl ?_
  refine g_aload_n (n := 9) rfl rfl ?_
  refine g_aload_n (n := 10) rfl rfl ?_
  refine g_iload_n (n := 11) rfl rfl ?_
  refine g_cv3 (n := 14) (t := 83) (ci := 0) rfl (by decide +kernel) (by decide +kernel) (by decide) (by decide) (by decide +kernel) (by rfl) (vw_bl_6 (x := x) hG hG1 hGn hGm (addT_le ht)) (by omega) (g_E ?_)
  refine g_aload_n (n := 15) rfl rfl ?_
  refine g_aload_n (n := 16) rfl rfl ?_
  refine g_aload_n (n := 17) rfl rfl ?_
  refine g_iload_n (n := 18) rfl rfl ?_
  refine g_cv3 (n := 21) (t := 3) (ci := 0) rfl (by decide +kernel) (by decide +kernel) (by decide) (by decide) (by decide +kernel) (by rfl) (vw_yi_6 (x := x) hG hG1 hGn hGm (vBl_le (addT_le ht))) (by omega) (g_E ?_)
  refine g_ixor (n := 22) rfl ?_
  refine g_iret (n := 23) rfl (fun h => nomatch h) ?_
  exact ⟨rfl, rfl, rfl⟩
theorem vw_t0_0 {sc : List Value} {nm : Nat} {I : mg_I} {T : List Int32} {G : Nat} {n m x : Int32} (hG : isG G) (hG1 : G < 104) (hGn : I G 0 = n) (hGm : I G 2 = m) (ht : T.length ≤ 40) : SP sc 10 85 [.ref 7, .ref G, .ref 111, .int x] (brM I T) nm (qE (vTe0 0 n m x T).1 (brM I (vTe0 0 n m x T).2) nm) := by
  rw [vTe0_e]
  dsimp only
  exact vw_v0_0 (x := x) hG hG1 hGn hGm ht
theorem vw_t0_1 {sc : List Value} {nm : Nat} {I : mg_I} {T : List Int32} {G : Nat} {n m x : Int32} (hG : isG G) (hG1 : G < 104) (hGn : I G 0 = n) (hGm : I G 2 = m) (ht : T.length ≤ 40) : SP sc 10 85 [.ref 8, .ref G, .ref 111, .int x] (brM I T) nm (qE (vTe0 1 n m x T).1 (brM I (vTe0 1 n m x T).2) nm) := by
  rw [vTe0_e]
  dsimp only
  exact vw_v0_1 (x := x) hG hG1 hGn hGm ht
theorem vw_t0_2 {sc : List Value} {nm : Nat} {I : mg_I} {T : List Int32} {G : Nat} {n m x : Int32} (hG : isG G) (hG1 : G < 104) (hGn : I G 0 = n) (hGm : I G 2 = m) (ht : T.length ≤ 40) : SP sc 10 85 [.ref 9, .ref G, .ref 111, .int x] (brM I T) nm (qE (vTe0 2 n m x T).1 (brM I (vTe0 2 n m x T).2) nm) := by
  rw [vTe0_e]
  dsimp only
  exact vw_v0_2 (x := x) hG hG1 hGn hGm ht
theorem vw_t0_3 {sc : List Value} {nm : Nat} {I : mg_I} {T : List Int32} {G : Nat} {n m x : Int32} (hG : isG G) (hG1 : G < 104) (hGn : I G 0 = n) (hGm : I G 2 = m) (ht : T.length ≤ 40) : SP sc 10 85 [.ref 10, .ref G, .ref 111, .int x] (brM I T) nm (qE (vTe0 3 n m x T).1 (brM I (vTe0 3 n m x T).2) nm) := by
  rw [vTe0_e]
  dsimp only
  exact vw_v0_3 (x := x) hG hG1 hGn hGm ht
theorem vw_t0_4 {sc : List Value} {nm : Nat} {I : mg_I} {T : List Int32} {G : Nat} {n m x : Int32} (hG : isG G) (hG1 : G < 104) (hGn : I G 0 = n) (hGm : I G 2 = m) (ht : T.length ≤ 40) : SP sc 10 85 [.ref 11, .ref G, .ref 111, .int x] (brM I T) nm (qE (vTe0 4 n m x T).1 (brM I (vTe0 4 n m x T).2) nm) := by
  rw [vTe0_e]
  dsimp only
  exact vw_v0_4 (x := x) hG hG1 hGn hGm ht
theorem vw_t0_5 {sc : List Value} {nm : Nat} {I : mg_I} {T : List Int32} {G : Nat} {n m x : Int32} (hG : isG G) (hG1 : G < 104) (hGn : I G 0 = n) (hGm : I G 2 = m) (ht : T.length ≤ 40) : SP sc 10 85 [.ref 12, .ref G, .ref 111, .int x] (brM I T) nm (qE (vTe0 5 n m x T).1 (brM I (vTe0 5 n m x T).2) nm) := by
  rw [vTe0_e]
  dsimp only
  exact vw_v0_5 (x := x) hG hG1 hGn hGm ht
theorem vw_t0_6 {sc : List Value} {nm : Nat} {I : mg_I} {T : List Int32} {G : Nat} {n m x : Int32} (hG : isG G) (hG1 : G < 104) (hGn : I G 0 = n) (hGm : I G 2 = m) (ht : T.length ≤ 40) : SP sc 10 85 [.ref 13, .ref G, .ref 111, .int x] (brM I T) nm (qE (vTe0 6 n m x T).1 (brM I (vTe0 6 n m x T).2) nm) := by
  rw [vTe0_e]
  dsimp only
  exact vw_v0_6 (x := x) hG hG1 hGn hGm ht
theorem vw_t5 {sc : List Value} {nm : Nat} {I : mg_I} {T : List Int32} {G : Nat} {n m x : Int32} (hG : isG G) (hG1 : G < 104) (hGn : I G 0 = n) (hGm : I G 2 = m) (ht : T.length ≤ 40) : SP sc 11 48 [.ref 12, .ref G, .ref 111, .int x] (brM I T) nm (qE ((vTe0 5 n m x (addT T 60)).1 - (vGo 5 n 2 (vTe0 5 n m x (addT T 60)).2).1) (brM I (vGo 5 n 2 (vTe0 5 n m x (addT T 60)).2).2) nm) := by
  refine SP.of (h := 10) (t := 48) (q := (yX5_tells, cX5_tells, 4, (some .int), 5, 964, mi_k48)) rfl (by decide) (show ¬ (4 : Nat) < 4 by decide) (fun d hd => ?_)
  show GG sc 5 false false mi_k48 d 0 [.ref 12, .ref G, .ref 111, .int x] [] (brM I T) nm (qE ((vTe0 5 n m x (addT T 60)).1 - (vGo 5 n 2 (vTe0 5 n m x (addT T 60)).2).1) (brM I (vGo 5 n 2 (vTe0 5 n m x (addT T 60)).2).2) nm)
  refine g_aload_n (n := 1) rfl rfl ?_
  refine g_bipush (n := 3) (v := 60) rfl rfl ?_
  refine g_cv1 (n := 6) (t := 54) (ci := 6) rfl (by decide +kernel) (by decide +kernel) (by decide) (by decide) (by decide +kernel) (by rfl) (c_badd ht) (by omega) (g_A fun z => ?_)
  refine g_popi (n := 7) rfl ?_
  refine g_aload_n (n := 8) rfl rfl ?_
  refine g_aload_n (n := 9) rfl rfl ?_
  refine g_aload_n (n := 10) rfl rfl ?_
  refine g_iload_n (n := 11) rfl rfl ?_
  refine g_cp3 (n := 14) (t := 85) (x := (3, 966, 967, 141, 120, 947, 72)) rfl (by decide +kernel) (by decide +kernel) (by decide +kernel) rfl ⟨by decide, by decide⟩ (by decide) (by rfl) (vw_t0_5 (x := x) hG hG1 hGn hGm (addT_le ht)) (by omega) (g_E ?_)
  refine g_aload_n (n := 15) rfl rfl ?_
  refine g_aload_n (n := 16) rfl rfl ?_
  refine g_aload_n (n := 17) rfl rfl ?_
  refine g_iconst (n := 18) (v := 2) rfl rfl ?_
  refine g_cv3 (n := 21) (t := 35) (ci := 5) rfl (by decide +kernel) (by decide +kernel) (by decide) (by decide) (by decide +kernel) (by rfl) (vw_go_5 (x := 2) hG hG1 hGn hGm (vTe0_le (addT_le ht))) (by omega) (g_E ?_)
  refine g_isub (n := 22) rfl ?_
  refine g_iret (n := 23) rfl (fun h => nomatch h) ?_
  exact ⟨rfl, rfl, rfl⟩
theorem vw_t6 {sc : List Value} {nm : Nat} {I : mg_I} {T : List Int32} {G : Nat} {n m x : Int32} (hG : isG G) (hG1 : G < 104) (hGn : I G 0 = n) (hGm : I G 2 = m) (ht : T.length ≤ 40) : SP sc 11 4 [.ref 13, .ref G, .ref 111, .int x] (brM I T) nm (qE ((vBl 6 n m x (addT T 71)).1 - (vTe0 6 n m x (vBl 6 n m x (addT T 71)).2).1) (brM I (vTe0 6 n m x (vBl 6 n m x (addT T 71)).2).2) nm) := by
  refine SP.of (h := 10) (t := 4) (q := (yX0_tells, cX0_tells, 4, (some .int), 0, 952, mi_k4)) rfl (by decide) (show ¬ (4 : Nat) < 4 by decide) (fun d hd => ?_)
  show GG sc 0 false false mi_k4 d 0 [.ref 13, .ref G, .ref 111, .int x] [] (brM I T) nm (qE ((vBl 6 n m x (addT T 71)).1 - (vTe0 6 n m x (vBl 6 n m x (addT T 71)).2).1) (brM I (vTe0 6 n m x (vBl 6 n m x (addT T 71)).2).2) nm)
  refine g_aload_n (n := 1) rfl rfl ?_
  refine g_bipush (n := 3) (v := 71) rfl rfl ?_
  refine g_cv1 (n := 6) (t := 54) (ci := 6) rfl (by decide +kernel) (by decide +kernel) (by decide) (by decide) (by decide +kernel) (by rfl) (c_badd ht) (by omega) (g_A fun z => ?_)
  refine g_popi (n := 7) rfl ?_
  refine g_aload_n (n := 8) rfl rfl ?_
  refine g_aload_n (n := 9) rfl rfl ?_
  refine g_aload_n (n := 10) rfl rfl ?_
  refine g_iload_n (n := 11) rfl rfl ?_
  refine g_cv3 (n := 14) (t := 83) (ci := 0) rfl (by decide +kernel) (by decide +kernel) (by decide) (by decide) (by decide +kernel) (by rfl) (vw_bl_6 (x := x) hG hG1 hGn hGm (addT_le ht)) (by omega) (g_E ?_)
  refine g_aload_n (n := 15) rfl rfl ?_
  refine g_aload_n (n := 16) rfl rfl ?_
  refine g_aload_n (n := 17) rfl rfl ?_
  refine g_iload_n (n := 18) rfl rfl ?_
  refine g_cp3 (n := 21) (t := 85) (x := (10, 957, 958, 148, 127, 947, 72)) rfl (by decide +kernel) (by decide +kernel) (by decide +kernel) rfl ⟨by decide, by decide⟩ (by decide) (by rfl) (vw_t0_6 (x := x) hG hG1 hGn hGm (vBl_le (addT_le ht))) (by omega) (g_E ?_)
  refine g_isub (n := 22) rfl ?_
  refine g_iret (n := 23) rfl (fun h => nomatch h) ?_
  exact ⟨rfl, rfl, rfl⟩
theorem vw_te_0 {sc : List Value} {nm : Nat} {I : mg_I} {T : List Int32} {G : Nat} {n m x : Int32} (hG : isG G) (hG1 : G < 104) (hGn : I G 0 = n) (hGm : I G 2 = m) (ht : T.length ≤ 40) : SP sc 11 85 [.ref 7, .ref G, .ref 111, .int x] (brM I T) nm (qE (vTe 0 n m x T).1 (brM I (vTe 0 n m x T).2) nm) := by
  rw [show vTe 0 n m x T = vTe0 0 n m x T from (if_neg (by decide)).trans (if_neg (by decide))]
  exact fun d hd => vw_t0_0 (x := x) hG hG1 hGn hGm ht d (by omega)
theorem vw_te_1 {sc : List Value} {nm : Nat} {I : mg_I} {T : List Int32} {G : Nat} {n m x : Int32} (hG : isG G) (hG1 : G < 104) (hGn : I G 0 = n) (hGm : I G 2 = m) (ht : T.length ≤ 40) : SP sc 11 85 [.ref 8, .ref G, .ref 111, .int x] (brM I T) nm (qE (vTe 1 n m x T).1 (brM I (vTe 1 n m x T).2) nm) := by
  rw [show vTe 1 n m x T = vTe0 1 n m x T from (if_neg (by decide)).trans (if_neg (by decide))]
  exact fun d hd => vw_t0_1 (x := x) hG hG1 hGn hGm ht d (by omega)
theorem vw_te_2 {sc : List Value} {nm : Nat} {I : mg_I} {T : List Int32} {G : Nat} {n m x : Int32} (hG : isG G) (hG1 : G < 104) (hGn : I G 0 = n) (hGm : I G 2 = m) (ht : T.length ≤ 40) : SP sc 11 85 [.ref 9, .ref G, .ref 111, .int x] (brM I T) nm (qE (vTe 2 n m x T).1 (brM I (vTe 2 n m x T).2) nm) := by
  rw [show vTe 2 n m x T = vTe0 2 n m x T from (if_neg (by decide)).trans (if_neg (by decide))]
  exact fun d hd => vw_t0_2 (x := x) hG hG1 hGn hGm ht d (by omega)
theorem vw_te_3 {sc : List Value} {nm : Nat} {I : mg_I} {T : List Int32} {G : Nat} {n m x : Int32} (hG : isG G) (hG1 : G < 104) (hGn : I G 0 = n) (hGm : I G 2 = m) (ht : T.length ≤ 40) : SP sc 11 85 [.ref 10, .ref G, .ref 111, .int x] (brM I T) nm (qE (vTe 3 n m x T).1 (brM I (vTe 3 n m x T).2) nm) := by
  rw [show vTe 3 n m x T = vTe0 3 n m x T from (if_neg (by decide)).trans (if_neg (by decide))]
  exact fun d hd => vw_t0_3 (x := x) hG hG1 hGn hGm ht d (by omega)
theorem vw_te_4 {sc : List Value} {nm : Nat} {I : mg_I} {T : List Int32} {G : Nat} {n m x : Int32} (hG : isG G) (hG1 : G < 104) (hGn : I G 0 = n) (hGm : I G 2 = m) (ht : T.length ≤ 40) : SP sc 11 85 [.ref 11, .ref G, .ref 111, .int x] (brM I T) nm (qE (vTe 4 n m x T).1 (brM I (vTe 4 n m x T).2) nm) := by
  rw [show vTe 4 n m x T = vTe0 4 n m x T from (if_neg (by decide)).trans (if_neg (by decide))]
  exact fun d hd => vw_t0_4 (x := x) hG hG1 hGn hGm ht d (by omega)
theorem vw_te_5 {sc : List Value} {nm : Nat} {I : mg_I} {T : List Int32} {G : Nat} {n m x : Int32} (hG : isG G) (hG1 : G < 104) (hGn : I G 0 = n) (hGm : I G 2 = m) (ht : T.length ≤ 40) : SP sc 11 48 [.ref 12, .ref G, .ref 111, .int x] (brM I T) nm (qE (vTe 5 n m x T).1 (brM I (vTe 5 n m x T).2) nm) := by
  rw [show vTe 5 n m x T = ((vTe0 5 n m x (addT T 60)).1 - (vGo 5 n 2 (vTe0 5 n m x (addT T 60)).2).1, (vGo 5 n 2 (vTe0 5 n m x (addT T 60)).2).2) from if_pos (by decide)]
  dsimp only
  exact fun d hd => vw_t5 (x := x) hG hG1 hGn hGm ht d (by omega)
theorem vw_te_6 {sc : List Value} {nm : Nat} {I : mg_I} {T : List Int32} {G : Nat} {n m x : Int32} (hG : isG G) (hG1 : G < 104) (hGn : I G 0 = n) (hGm : I G 2 = m) (ht : T.length ≤ 40) : SP sc 11 4 [.ref 13, .ref G, .ref 111, .int x] (brM I T) nm (qE (vTe 6 n m x T).1 (brM I (vTe 6 n m x T).2) nm) := by
  rw [show vTe 6 n m x T = ((vBl 6 n m x (addT T 71)).1 - (vTe0 6 n m x (vBl 6 n m x (addT T 71)).2).1, (vTe0 6 n m x (vBl 6 n m x (addT T 71)).2).2) from (if_neg (by decide)).trans (if_pos (by decide))]
  dsimp only
  exact fun d hd => vw_t6 (x := x) hG hG1 hGn hGm ht d (by omega)
theorem a03 {a : Int32} (h : 0 ≤ a.toInt) (h2 : a.toInt < 4) : a = 0 ∨ a = 1 ∨ a = 2 ∨ a = 3 := by
  obtain ⟨k, hk, rfl, -⟩ := iR_nI (x := a) (n := 4) ⟨by omega, by omega⟩
  rcases (show k = 0 ∨ k = 1 ∨ k = 2 ∨ k = 3 by omega) with rfl | rfl | rfl | rfl
  · exact Or.inl rfl
  · exact Or.inr (Or.inl rfl)
  · exact Or.inr (Or.inr (Or.inl rfl))
  · exact Or.inr (Or.inr (Or.inr rfl))
def vcM (I : mg_I) (d : Nat → Int32) (g a x : Int32) : mg_I := if eVoice d g a = 0 then brM I (vVoice d (cl g) a x).2 else jK1 I 1
theorem vVo_0 {d : Nat → Int32} {g : Nat} {x : Int32} : vVoice d g 0 x = vGo (fO d g 0) (nI g) x [] := if_pos rfl
theorem vVo_1 {d : Nat → Int32} {g : Nat} {x : Int32} : vVoice d g 1 x = vBl (fO d g 0) (nI g) (fO d g 1) x [] := (if_neg (by decide)).trans (if_pos rfl)
theorem vVo_2 {d : Nat → Int32} {g : Nat} {x : Int32} : vVoice d g 2 x = vYi (fO d g 0) (nI g) (fO d g 1) x [] := (if_neg (by decide)).trans ((if_neg (by decide)).trans (if_pos rfl))
theorem vVo_3 {d : Nat → Int32} {g : Nat} {x : Int32} : vVoice d g 3 x = vTe (fO d g 0) (nI g) (fO d g 1) x [] := (if_neg (by decide)).trans ((if_neg (by decide)).trans (if_neg (by decide)))
theorem eVo_0 {d : Nat → Int32} {g a : Int32} (h : 0 ≤ g.toInt ∧ g.toInt < (fN d : Int)) (h1 : 0 ≤ a.toInt) (h2 : a.toInt < 4) : eVoice d g a = 0 := by
  unfold eVoice
  rw [if_pos h, if_pos ⟨h1, by omega⟩]
theorem eVo_1 {d : Nat → Int32} {g a : Int32} (h : ¬ ((0 ≤ g.toInt ∧ g.toInt < (fN d : Int)) ∧ 0 ≤ a.toInt ∧ a.toInt < 4)) : eVoice d g a = 1 := by
  unfold eVoice
  split
  · exact if_neg (by omega)
  · rfl
theorem qVo_0 {I J : mg_I} {d : Nat → Int32} {g a x v : Int32} {T : List Int32} {nm : Nat} (h : eVoice d g a = 0) (hv : vVoice d (cl g) a x = (v, T)) (hJ : J = brM I T) : qE (vE (eVoice d g a) (vVoice d (cl g) a x).1) (vcM I d g a x) nm (some (.int v)) J nm := by
  unfold vcM
  rw [h, if_pos rfl, hv, hJ]
  exact ⟨rfl, rfl, rfl⟩
theorem qVo_1 {I : mg_I} {d : Nat → Int32} {g a x : Int32} {nm : Nat} (h : eVoice d g a = 1) : qE (vE (eVoice d g a) (vVoice d (cl g) a x).1) (vcM I d g a x) nm (some (.int (-1000000000 - nI 1))) (jK1 I 1) nm := by
  unfold vcM
  rw [h, if_neg (by decide)]
  exact ⟨rfl, rfl, rfl⟩
theorem c_kVoice {sc : List Value} {nm : Nat} {I : mg_I} {d : Nat → Int32} (hC : RC I d) (hw : gW d) {g a x : Int32} : SP sc 13 113 [.ref 5, .int g, .int a, .int x] I nm (qE (vE (eVoice d g a) (vVoice d (cl g) a x).1) (vcM I d g a x) nm) := by
  refine SP.of (h := 12) (t := 113) (q := (yX11_voice, cX11_voice, 6, (some .int), 11, 893, mi_k113)) rfl (by decide) (show ¬ (6 : Nat) < 4 by decide) (fun dd hd => ?_)
  show GG sc 11 false false mi_k113 dd 0 [.ref 5, .int g, .int a, .int x, .null, .null] [] I nm (qE (vE (eVoice d g a) (vVoice d (cl g) a x).1) (vcM I d g a x) nm)
  have hR := hC.1
  have hN8 := (rK_N hR).2
  refine g_aload_n (n := 1) rfl rfl ?_
  refine g_iload_n (n := 2) rfl rfl ?_
  refine g_cv1 (n := 5) (t := 128) (ci := 11) rfl (by decide +kernel) (by decide +kernel) (by decide) (by decide) (by decide +kernel) (by rfl) (c_kGoer hR) (by omega) (g_E ?_)
  refine g_split (fun h1 => ?_) (fun h1 => ?_)
  ·
    refine g_ifeq1 (n := 8) 17 rfl (by decide) ?_
    refine g_iload_n (n := 9) rfl rfl ?_
    refine g_iflt (n := 12) 17 rfl (by decide) (fun h2 => ?_) (fun h2 => ?_)
    ·
      have h2i : Int32.toInt _ < 0 := Int32.lt_iff_toInt_lt.mp (h2)
      refine g_aload_n (n := 18) rfl rfl ?_
      refine g_ldc (n := 20) (v := -1000000001) (pl := 419) rfl (by decide +kernel) ?_
      refine g_top (w := -1000000000 - nI 1) (by decide) ?_
      refine g_cv1 (n := 23) (t := 126) (ci := 11) rfl (by decide +kernel) (by decide +kernel) (by decide) (by decide) (by decide +kernel) (by rfl) (c_fail (k := 1) (by omega)) (by omega) (g_E ?_)
      refine g_iret (n := 24) rfl (fun h => nomatch h) ?_
      exact qVo_1 (eVo_1 (by omega))
    ·
      have h2i : 0 ≤ Int32.toInt _ := Int32.le_iff_toInt_le.mp (Int32.not_lt.mp h2)
      refine g_iload_n (n := 13) rfl rfl ?_
      refine g_iconst (n := 14) (v := 4) rfl rfl ?_
      refine g_iclt (n := 17) 24 rfl (by decide) (fun h3 => ?_) (fun h3 => ?_)
      ·
        have h3i : Int32.toInt _ < 4 := Int32.lt_iff_toInt_lt.mp (h3)
        have ev0 := eVo_0 h1 (by omega : 0 ≤ a.toInt) (by omega)
        have ha := a03 (a := a) (by omega) (by omega)
        obtain ⟨gg, hgg, rfl, hcg⟩ := iR_nI (x := g) (n := fN d) ⟨by omega, by omega⟩
        have hdgg : cl (nI gg) = gg := hcg
        have hfk := (hw.1.2.2.2 gg (by omega)).1
        rcases hfk with e0 | e0 | e0 | e0 | e0 | e0 | e0
        ·
          refine g_aload_n (n := 25) rfl rfl ?_
          refine g_getr (n := 28) (ci := 11) (j := 1) (b := (14)) rfl (by decide +kernel) (by decide) (by decide) (by decide +kernel) ?_
          refine g_getr (n := 31) (ci := 1) (j := 1) (b := ((14) + 2)) rfl (by decide +kernel) (cf_hd c14) (cf_lt c14 (by decide)) (cf_r1 c14) ?_
          refine g_iload_n (n := 32) rfl rfl ?_
          refine g_aald (n := 33) (b := ((14) + 3 + gg)) (gg) rfl (cf_2a c14) (cf_2h c14) rfl (cf_2x c14 (by omega)) (cf_2r c14 (by omega)) ?_
          refine g_astore4 (n := 35) rfl rfl ?_
          refine g_aload_n (n := 36) rfl rfl ?_
          refine g_getr (n := 39) (ci := 11) (j := 0) (b := 6) rfl (by decide +kernel) (by decide) (by decide) (by decide +kernel) ?_
          refine g_aload (n := 41) rfl rfl ?_
          refine g_getv (n := 44) (ci := 4) (j := 1) (v := 0) ((rK_g hR (show gg < fN d by omega) (w := 0) (by omega)).trans e0) rfl (by decide +kernel) rfl (by decide) (cf_gh c14 (show gg < 8 by omega)) ?_
          refine g_aald (n := 45) (b := 7) (0) rfl (by decide) (by decide) rfl (by decide) (by decide) ?_
          refine g_astore5 (n := 47) rfl rfl ?_
          refine g_aload_n (n := 48) rfl rfl ?_
          refine g_getr (n := 51) (ci := 11) (j := 6) (b := 111) rfl (by decide +kernel) (by decide) (by decide) (by decide +kernel) ?_
          refine g_cv0 (n := 54) (t := 57) (ci := 6) rfl (by decide +kernel) (by decide +kernel) (rw_hd r111) (rw_136 r111) (by decide +kernel) (by rfl) (c_rclear r111) (by omega) (g_Z ?_)
          rw [brM_0]
          refine g_iload_n (n := 55) rfl rfl ?_
          rcases ha with e | e | e | e
          ·
            refine g_top e ?_
            refine g_tab 80 rfl (by decide) (by decide) rfl (by decide) ?_
            refine g_aload (n := 82) rfl rfl ?_
            refine g_aload (n := 84) rfl rfl ?_
            refine g_aload_n (n := 85) rfl rfl ?_
            refine g_getr (n := 88) (ci := 11) (j := 6) (b := 111) rfl (by decide +kernel) (by decide) (by decide) (by decide +kernel) ?_
            refine g_iload_n (n := 89) rfl rfl ?_
            refine g_cv3 (n := 92) (t := 82) (ci := 9) rfl (by decide +kernel) (by decide +kernel) (by decide) (by decide) (by decide +kernel) (by rfl) (vw_go_0 (x := x) (G := (14) + 3 + gg) (n := nI gg) (m := fO d gg 1) (cf_G c14 (show gg < 8 by omega)) (by omega) (rK_c hR (show gg < 8 by omega)) (rK_g hR (show gg < fN d by omega) (w := 1) (by omega)) (Nat.zero_le _)) (by omega) (g_E ?_)
            refine g_iret (n := 93) rfl (fun h => nomatch h) ?_
            subst e
            exact qVo_0 (T := (vGo 0 (nI gg) x []).2) ev0 (by rw [hdgg, vVo_0, e0]) rfl
          ·
            refine g_top e ?_
            refine g_tab 93 rfl (by decide) (by decide) rfl (by decide) ?_
            refine g_aload (n := 95) rfl rfl ?_
            refine g_aload (n := 97) rfl rfl ?_
            refine g_aload_n (n := 98) rfl rfl ?_
            refine g_getr (n := 101) (ci := 11) (j := 6) (b := 111) rfl (by decide +kernel) (by decide) (by decide) (by decide +kernel) ?_
            refine g_iload_n (n := 102) rfl rfl ?_
            refine g_cv3 (n := 105) (t := 83) (ci := 9) rfl (by decide +kernel) (by decide +kernel) (by decide) (by decide) (by decide +kernel) (by rfl) (vw_bl_0 (x := x) (G := (14) + 3 + gg) (n := nI gg) (m := fO d gg 1) (cf_G c14 (show gg < 8 by omega)) (by omega) (rK_c hR (show gg < 8 by omega)) (rK_g hR (show gg < fN d by omega) (w := 1) (by omega)) (Nat.zero_le _)) (by omega) (g_E ?_)
            refine g_iret (n := 106) rfl (fun h => nomatch h) ?_
            subst e
            exact qVo_0 (T := (vBl 0 (nI gg) (fO d gg 1) x []).2) ev0 (by rw [hdgg, vVo_1, e0]) rfl
          ·
            refine g_top e ?_
            refine g_tab 106 rfl (by decide) (by decide) rfl (by decide) ?_
            refine g_aload (n := 108) rfl rfl ?_
            refine g_aload (n := 110) rfl rfl ?_
            refine g_aload_n (n := 111) rfl rfl ?_
            refine g_getr (n := 114) (ci := 11) (j := 6) (b := 111) rfl (by decide +kernel) (by decide) (by decide) (by decide +kernel) ?_
            refine g_iload_n (n := 115) rfl rfl ?_
            refine g_cv3 (n := 118) (t := 84) (ci := 9) rfl (by decide +kernel) (by decide +kernel) (by decide) (by decide) (by decide +kernel) (by rfl) (vw_yi_0 (x := x) (G := (14) + 3 + gg) (n := nI gg) (m := fO d gg 1) (cf_G c14 (show gg < 8 by omega)) (by omega) (rK_c hR (show gg < 8 by omega)) (rK_g hR (show gg < fN d by omega) (w := 1) (by omega)) (Nat.zero_le _)) (by omega) (g_E ?_)
            refine g_iret (n := 119) rfl (fun h => nomatch h) ?_
            subst e
            exact qVo_0 (T := (vYi 0 (nI gg) (fO d gg 1) x []).2) ev0 (by rw [hdgg, vVo_2, e0]) rfl
          ·
            refine g_top e ?_
            refine g_tabo 119 rfl (by decide) (by decide) ?_
            refine g_aload (n := 121) rfl rfl ?_
            refine g_aload (n := 123) rfl rfl ?_
            refine g_aload_n (n := 124) rfl rfl ?_
            refine g_getr (n := 127) (ci := 11) (j := 6) (b := 111) rfl (by decide +kernel) (by decide) (by decide) (by decide +kernel) ?_
            refine g_iload_n (n := 128) rfl rfl ?_
            refine g_cv3 (n := 131) (t := 85) (ci := 9) rfl (by decide +kernel) (by decide +kernel) (by decide) (by decide) (by decide +kernel) (by rfl) (vw_te_0 (x := x) (G := (14) + 3 + gg) (n := nI gg) (m := fO d gg 1) (cf_G c14 (show gg < 8 by omega)) (by omega) (rK_c hR (show gg < 8 by omega)) (rK_g hR (show gg < fN d by omega) (w := 1) (by omega)) (Nat.zero_le _)) (by omega) (g_E ?_)
            refine g_iret (n := 132) rfl (fun h => nomatch h) ?_
            subst e
            exact qVo_0 (T := (vTe 0 (nI gg) (fO d gg 1) x []).2) ev0 (by rw [hdgg, vVo_3, e0]) rfl
        ·
          refine g_aload_n (n := 25) rfl rfl ?_
          refine g_getr (n := 28) (ci := 11) (j := 1) (b := (14)) rfl (by decide +kernel) (by decide) (by decide) (by decide +kernel) ?_
          refine g_getr (n := 31) (ci := 1) (j := 1) (b := ((14) + 2)) rfl (by decide +kernel) (cf_hd c14) (cf_lt c14 (by decide)) (cf_r1 c14) ?_
          refine g_iload_n (n := 32) rfl rfl ?_
          refine g_aald (n := 33) (b := ((14) + 3 + gg)) (gg) rfl (cf_2a c14) (cf_2h c14) rfl (cf_2x c14 (by omega)) (cf_2r c14 (by omega)) ?_
          refine g_astore4 (n := 35) rfl rfl ?_
          refine g_aload_n (n := 36) rfl rfl ?_
          refine g_getr (n := 39) (ci := 11) (j := 0) (b := 6) rfl (by decide +kernel) (by decide) (by decide) (by decide +kernel) ?_
          refine g_aload (n := 41) rfl rfl ?_
          refine g_getv (n := 44) (ci := 4) (j := 1) (v := 1) ((rK_g hR (show gg < fN d by omega) (w := 0) (by omega)).trans e0) rfl (by decide +kernel) rfl (by decide) (cf_gh c14 (show gg < 8 by omega)) ?_
          refine g_aald (n := 45) (b := 8) (1) rfl (by decide) (by decide) rfl (by decide) (by decide) ?_
          refine g_astore5 (n := 47) rfl rfl ?_
          refine g_aload_n (n := 48) rfl rfl ?_
          refine g_getr (n := 51) (ci := 11) (j := 6) (b := 111) rfl (by decide +kernel) (by decide) (by decide) (by decide +kernel) ?_
          refine g_cv0 (n := 54) (t := 57) (ci := 6) rfl (by decide +kernel) (by decide +kernel) (rw_hd r111) (rw_136 r111) (by decide +kernel) (by rfl) (c_rclear r111) (by omega) (g_Z ?_)
          rw [brM_0]
          refine g_iload_n (n := 55) rfl rfl ?_
          rcases ha with e | e | e | e
          ·
            refine g_top e ?_
            refine g_tab 80 rfl (by decide) (by decide) rfl (by decide) ?_
            refine g_aload (n := 82) rfl rfl ?_
            refine g_aload (n := 84) rfl rfl ?_
            refine g_aload_n (n := 85) rfl rfl ?_
            refine g_getr (n := 88) (ci := 11) (j := 6) (b := 111) rfl (by decide +kernel) (by decide) (by decide) (by decide +kernel) ?_
            refine g_iload_n (n := 89) rfl rfl ?_
            refine g_cv3 (n := 92) (t := 82) (ci := 2) rfl (by decide +kernel) (by decide +kernel) (by decide) (by decide) (by decide +kernel) (by rfl) (vw_go_1 (x := x) (G := (14) + 3 + gg) (n := nI gg) (m := fO d gg 1) (cf_G c14 (show gg < 8 by omega)) (by omega) (rK_c hR (show gg < 8 by omega)) (rK_g hR (show gg < fN d by omega) (w := 1) (by omega)) (Nat.zero_le _)) (by omega) (g_E ?_)
            refine g_iret (n := 93) rfl (fun h => nomatch h) ?_
            subst e
            exact qVo_0 (T := (vGo 1 (nI gg) x []).2) ev0 (by rw [hdgg, vVo_0, e0]) rfl
          ·
            refine g_top e ?_
            refine g_tab 93 rfl (by decide) (by decide) rfl (by decide) ?_
            refine g_aload (n := 95) rfl rfl ?_
            refine g_aload (n := 97) rfl rfl ?_
            refine g_aload_n (n := 98) rfl rfl ?_
            refine g_getr (n := 101) (ci := 11) (j := 6) (b := 111) rfl (by decide +kernel) (by decide) (by decide) (by decide +kernel) ?_
            refine g_iload_n (n := 102) rfl rfl ?_
            refine g_cv3 (n := 105) (t := 32) (ci := 2) rfl (by decide +kernel) (by decide +kernel) (by decide) (by decide) (by decide +kernel) (by rfl) (vw_bl_1 (x := x) (G := (14) + 3 + gg) (n := nI gg) (m := fO d gg 1) (cf_G c14 (show gg < 8 by omega)) (by omega) (rK_c hR (show gg < 8 by omega)) (rK_g hR (show gg < fN d by omega) (w := 1) (by omega)) (Nat.zero_le _)) (by omega) (g_E ?_)
            refine g_iret (n := 106) rfl (fun h => nomatch h) ?_
            subst e
            exact qVo_0 (T := (vBl 1 (nI gg) (fO d gg 1) x []).2) ev0 (by rw [hdgg, vVo_1, e0]) rfl
          ·
            refine g_top e ?_
            refine g_tab 106 rfl (by decide) (by decide) rfl (by decide) ?_
            refine g_aload (n := 108) rfl rfl ?_
            refine g_aload (n := 110) rfl rfl ?_
            refine g_aload_n (n := 111) rfl rfl ?_
            refine g_getr (n := 114) (ci := 11) (j := 6) (b := 111) rfl (by decide +kernel) (by decide) (by decide) (by decide +kernel) ?_
            refine g_iload_n (n := 115) rfl rfl ?_
            refine g_cv3 (n := 118) (t := 84) (ci := 2) rfl (by decide +kernel) (by decide +kernel) (by decide) (by decide) (by decide +kernel) (by rfl) (vw_yi_1 (x := x) (G := (14) + 3 + gg) (n := nI gg) (m := fO d gg 1) (cf_G c14 (show gg < 8 by omega)) (by omega) (rK_c hR (show gg < 8 by omega)) (rK_g hR (show gg < fN d by omega) (w := 1) (by omega)) (Nat.zero_le _)) (by omega) (g_E ?_)
            refine g_iret (n := 119) rfl (fun h => nomatch h) ?_
            subst e
            exact qVo_0 (T := (vYi 1 (nI gg) (fO d gg 1) x []).2) ev0 (by rw [hdgg, vVo_2, e0]) rfl
          ·
            refine g_top e ?_
            refine g_tabo 119 rfl (by decide) (by decide) ?_
            refine g_aload (n := 121) rfl rfl ?_
            refine g_aload (n := 123) rfl rfl ?_
            refine g_aload_n (n := 124) rfl rfl ?_
            refine g_getr (n := 127) (ci := 11) (j := 6) (b := 111) rfl (by decide +kernel) (by decide) (by decide) (by decide +kernel) ?_
            refine g_iload_n (n := 128) rfl rfl ?_
            refine g_cv3 (n := 131) (t := 85) (ci := 2) rfl (by decide +kernel) (by decide +kernel) (by decide) (by decide) (by decide +kernel) (by rfl) (vw_te_1 (x := x) (G := (14) + 3 + gg) (n := nI gg) (m := fO d gg 1) (cf_G c14 (show gg < 8 by omega)) (by omega) (rK_c hR (show gg < 8 by omega)) (rK_g hR (show gg < fN d by omega) (w := 1) (by omega)) (Nat.zero_le _)) (by omega) (g_E ?_)
            refine g_iret (n := 132) rfl (fun h => nomatch h) ?_
            subst e
            exact qVo_0 (T := (vTe 1 (nI gg) (fO d gg 1) x []).2) ev0 (by rw [hdgg, vVo_3, e0]) rfl
        ·
          refine g_aload_n (n := 25) rfl rfl ?_
          refine g_getr (n := 28) (ci := 11) (j := 1) (b := (14)) rfl (by decide +kernel) (by decide) (by decide) (by decide +kernel) ?_
          refine g_getr (n := 31) (ci := 1) (j := 1) (b := ((14) + 2)) rfl (by decide +kernel) (cf_hd c14) (cf_lt c14 (by decide)) (cf_r1 c14) ?_
          refine g_iload_n (n := 32) rfl rfl ?_
          refine g_aald (n := 33) (b := ((14) + 3 + gg)) (gg) rfl (cf_2a c14) (cf_2h c14) rfl (cf_2x c14 (by omega)) (cf_2r c14 (by omega)) ?_
          refine g_astore4 (n := 35) rfl rfl ?_
          refine g_aload_n (n := 36) rfl rfl ?_
          refine g_getr (n := 39) (ci := 11) (j := 0) (b := 6) rfl (by decide +kernel) (by decide) (by decide) (by decide +kernel) ?_
          refine g_aload (n := 41) rfl rfl ?_
          refine g_getv (n := 44) (ci := 4) (j := 1) (v := 2) ((rK_g hR (show gg < fN d by omega) (w := 0) (by omega)).trans e0) rfl (by decide +kernel) rfl (by decide) (cf_gh c14 (show gg < 8 by omega)) ?_
          refine g_aald (n := 45) (b := 9) (2) rfl (by decide) (by decide) rfl (by decide) (by decide) ?_
          refine g_astore5 (n := 47) rfl rfl ?_
          refine g_aload_n (n := 48) rfl rfl ?_
          refine g_getr (n := 51) (ci := 11) (j := 6) (b := 111) rfl (by decide +kernel) (by decide) (by decide) (by decide +kernel) ?_
          refine g_cv0 (n := 54) (t := 57) (ci := 6) rfl (by decide +kernel) (by decide +kernel) (rw_hd r111) (rw_136 r111) (by decide +kernel) (by rfl) (c_rclear r111) (by omega) (g_Z ?_)
          rw [brM_0]
          refine g_iload_n (n := 55) rfl rfl ?_
          rcases ha with e | e | e | e
          ·
            refine g_top e ?_
            refine g_tab 80 rfl (by decide) (by decide) rfl (by decide) ?_
            refine g_aload (n := 82) rfl rfl ?_
            refine g_aload (n := 84) rfl rfl ?_
            refine g_aload_n (n := 85) rfl rfl ?_
            refine g_getr (n := 88) (ci := 11) (j := 6) (b := 111) rfl (by decide +kernel) (by decide) (by decide) (by decide +kernel) ?_
            refine g_iload_n (n := 89) rfl rfl ?_
            refine g_cv3 (n := 92) (t := 35) (ci := 3) rfl (by decide +kernel) (by decide +kernel) (by decide) (by decide) (by decide +kernel) (by rfl) (vw_go_2 (x := x) (G := (14) + 3 + gg) (n := nI gg) (m := fO d gg 1) (cf_G c14 (show gg < 8 by omega)) (by omega) (rK_c hR (show gg < 8 by omega)) (rK_g hR (show gg < fN d by omega) (w := 1) (by omega)) (Nat.zero_le _)) (by omega) (g_E ?_)
            refine g_iret (n := 93) rfl (fun h => nomatch h) ?_
            subst e
            exact qVo_0 (T := (vGo 2 (nI gg) x []).2) ev0 (by rw [hdgg, vVo_0, e0]) rfl
          ·
            refine g_top e ?_
            refine g_tab 93 rfl (by decide) (by decide) rfl (by decide) ?_
            refine g_aload (n := 95) rfl rfl ?_
            refine g_aload (n := 97) rfl rfl ?_
            refine g_aload_n (n := 98) rfl rfl ?_
            refine g_getr (n := 101) (ci := 11) (j := 6) (b := 111) rfl (by decide +kernel) (by decide) (by decide) (by decide +kernel) ?_
            refine g_iload_n (n := 102) rfl rfl ?_
            refine g_cv3 (n := 105) (t := 83) (ci := 3) rfl (by decide +kernel) (by decide +kernel) (by decide) (by decide) (by decide +kernel) (by rfl) (vw_bl_2 (x := x) (G := (14) + 3 + gg) (n := nI gg) (m := fO d gg 1) (cf_G c14 (show gg < 8 by omega)) (by omega) (rK_c hR (show gg < 8 by omega)) (rK_g hR (show gg < fN d by omega) (w := 1) (by omega)) (Nat.zero_le _)) (by omega) (g_E ?_)
            refine g_iret (n := 106) rfl (fun h => nomatch h) ?_
            subst e
            exact qVo_0 (T := (vBl 2 (nI gg) (fO d gg 1) x []).2) ev0 (by rw [hdgg, vVo_1, e0]) rfl
          ·
            refine g_top e ?_
            refine g_tab 106 rfl (by decide) (by decide) rfl (by decide) ?_
            refine g_aload (n := 108) rfl rfl ?_
            refine g_aload (n := 110) rfl rfl ?_
            refine g_aload_n (n := 111) rfl rfl ?_
            refine g_getr (n := 114) (ci := 11) (j := 6) (b := 111) rfl (by decide +kernel) (by decide) (by decide) (by decide +kernel) ?_
            refine g_iload_n (n := 115) rfl rfl ?_
            refine g_cv3 (n := 118) (t := 84) (ci := 3) rfl (by decide +kernel) (by decide +kernel) (by decide) (by decide) (by decide +kernel) (by rfl) (vw_yi_2 (x := x) (G := (14) + 3 + gg) (n := nI gg) (m := fO d gg 1) (cf_G c14 (show gg < 8 by omega)) (by omega) (rK_c hR (show gg < 8 by omega)) (rK_g hR (show gg < fN d by omega) (w := 1) (by omega)) (Nat.zero_le _)) (by omega) (g_E ?_)
            refine g_iret (n := 119) rfl (fun h => nomatch h) ?_
            subst e
            exact qVo_0 (T := (vYi 2 (nI gg) (fO d gg 1) x []).2) ev0 (by rw [hdgg, vVo_2, e0]) rfl
          ·
            refine g_top e ?_
            refine g_tabo 119 rfl (by decide) (by decide) ?_
            refine g_aload (n := 121) rfl rfl ?_
            refine g_aload (n := 123) rfl rfl ?_
            refine g_aload_n (n := 124) rfl rfl ?_
            refine g_getr (n := 127) (ci := 11) (j := 6) (b := 111) rfl (by decide +kernel) (by decide) (by decide) (by decide +kernel) ?_
            refine g_iload_n (n := 128) rfl rfl ?_
            refine g_cv3 (n := 131) (t := 85) (ci := 3) rfl (by decide +kernel) (by decide +kernel) (by decide) (by decide) (by decide +kernel) (by rfl) (vw_te_2 (x := x) (G := (14) + 3 + gg) (n := nI gg) (m := fO d gg 1) (cf_G c14 (show gg < 8 by omega)) (by omega) (rK_c hR (show gg < 8 by omega)) (rK_g hR (show gg < fN d by omega) (w := 1) (by omega)) (Nat.zero_le _)) (by omega) (g_E ?_)
            refine g_iret (n := 132) rfl (fun h => nomatch h) ?_
            subst e
            exact qVo_0 (T := (vTe 2 (nI gg) (fO d gg 1) x []).2) ev0 (by rw [hdgg, vVo_3, e0]) rfl
        ·
          refine g_aload_n (n := 25) rfl rfl ?_
          refine g_getr (n := 28) (ci := 11) (j := 1) (b := (14)) rfl (by decide +kernel) (by decide) (by decide) (by decide +kernel) ?_
          refine g_getr (n := 31) (ci := 1) (j := 1) (b := ((14) + 2)) rfl (by decide +kernel) (cf_hd c14) (cf_lt c14 (by decide)) (cf_r1 c14) ?_
          refine g_iload_n (n := 32) rfl rfl ?_
          refine g_aald (n := 33) (b := ((14) + 3 + gg)) (gg) rfl (cf_2a c14) (cf_2h c14) rfl (cf_2x c14 (by omega)) (cf_2r c14 (by omega)) ?_
          refine g_astore4 (n := 35) rfl rfl ?_
          refine g_aload_n (n := 36) rfl rfl ?_
          refine g_getr (n := 39) (ci := 11) (j := 0) (b := 6) rfl (by decide +kernel) (by decide) (by decide) (by decide +kernel) ?_
          refine g_aload (n := 41) rfl rfl ?_
          refine g_getv (n := 44) (ci := 4) (j := 1) (v := 3) ((rK_g hR (show gg < fN d by omega) (w := 0) (by omega)).trans e0) rfl (by decide +kernel) rfl (by decide) (cf_gh c14 (show gg < 8 by omega)) ?_
          refine g_aald (n := 45) (b := 10) (3) rfl (by decide) (by decide) rfl (by decide) (by decide) ?_
          refine g_astore5 (n := 47) rfl rfl ?_
          refine g_aload_n (n := 48) rfl rfl ?_
          refine g_getr (n := 51) (ci := 11) (j := 6) (b := 111) rfl (by decide +kernel) (by decide) (by decide) (by decide +kernel) ?_
          refine g_cv0 (n := 54) (t := 57) (ci := 6) rfl (by decide +kernel) (by decide +kernel) (rw_hd r111) (rw_136 r111) (by decide +kernel) (by rfl) (c_rclear r111) (by omega) (g_Z ?_)
          rw [brM_0]
          refine g_iload_n (n := 55) rfl rfl ?_
          rcases ha with e | e | e | e
          ·
            refine g_top e ?_
            refine g_tab 80 rfl (by decide) (by decide) rfl (by decide) ?_
            refine g_aload (n := 82) rfl rfl ?_
            refine g_aload (n := 84) rfl rfl ?_
            refine g_aload_n (n := 85) rfl rfl ?_
            refine g_getr (n := 88) (ci := 11) (j := 6) (b := 111) rfl (by decide +kernel) (by decide) (by decide) (by decide +kernel) ?_
            refine g_iload_n (n := 89) rfl rfl ?_
            refine g_cv3 (n := 92) (t := 82) (ci := 10) rfl (by decide +kernel) (by decide +kernel) (by decide) (by decide) (by decide +kernel) (by rfl) (vw_go_3 (x := x) (G := (14) + 3 + gg) (n := nI gg) (m := fO d gg 1) (cf_G c14 (show gg < 8 by omega)) (by omega) (rK_c hR (show gg < 8 by omega)) (rK_g hR (show gg < fN d by omega) (w := 1) (by omega)) (Nat.zero_le _)) (by omega) (g_E ?_)
            refine g_iret (n := 93) rfl (fun h => nomatch h) ?_
            subst e
            exact qVo_0 (T := (vGo 3 (nI gg) x []).2) ev0 (by rw [hdgg, vVo_0, e0]) rfl
          ·
            refine g_top e ?_
            refine g_tab 93 rfl (by decide) (by decide) rfl (by decide) ?_
            refine g_aload (n := 95) rfl rfl ?_
            refine g_aload (n := 97) rfl rfl ?_
            refine g_aload_n (n := 98) rfl rfl ?_
            refine g_getr (n := 101) (ci := 11) (j := 6) (b := 111) rfl (by decide +kernel) (by decide) (by decide) (by decide +kernel) ?_
            refine g_iload_n (n := 102) rfl rfl ?_
            refine g_cv3 (n := 105) (t := 83) (ci := 10) rfl (by decide +kernel) (by decide +kernel) (by decide) (by decide) (by decide +kernel) (by rfl) (vw_bl_3 (x := x) (G := (14) + 3 + gg) (n := nI gg) (m := fO d gg 1) (cf_G c14 (show gg < 8 by omega)) (by omega) (rK_c hR (show gg < 8 by omega)) (rK_g hR (show gg < fN d by omega) (w := 1) (by omega)) (Nat.zero_le _)) (by omega) (g_E ?_)
            refine g_iret (n := 106) rfl (fun h => nomatch h) ?_
            subst e
            exact qVo_0 (T := (vBl 3 (nI gg) (fO d gg 1) x []).2) ev0 (by rw [hdgg, vVo_1, e0]) rfl
          ·
            refine g_top e ?_
            refine g_tab 106 rfl (by decide) (by decide) rfl (by decide) ?_
            refine g_aload (n := 108) rfl rfl ?_
            refine g_aload (n := 110) rfl rfl ?_
            refine g_aload_n (n := 111) rfl rfl ?_
            refine g_getr (n := 114) (ci := 11) (j := 6) (b := 111) rfl (by decide +kernel) (by decide) (by decide) (by decide +kernel) ?_
            refine g_iload_n (n := 115) rfl rfl ?_
            refine g_cv3 (n := 118) (t := 89) (ci := 10) rfl (by decide +kernel) (by decide +kernel) (by decide) (by decide) (by decide +kernel) (by rfl) (vw_yi_3 (x := x) (G := (14) + 3 + gg) (n := nI gg) (m := fO d gg 1) (cf_G c14 (show gg < 8 by omega)) (by omega) (rK_c hR (show gg < 8 by omega)) (rK_g hR (show gg < fN d by omega) (w := 1) (by omega)) (Nat.zero_le _)) (by omega) (g_E ?_)
            refine g_iret (n := 119) rfl (fun h => nomatch h) ?_
            subst e
            exact qVo_0 (T := (vYi 3 (nI gg) (fO d gg 1) x []).2) ev0 (by rw [hdgg, vVo_2, e0]) rfl
          ·
            refine g_top e ?_
            refine g_tabo 119 rfl (by decide) (by decide) ?_
            refine g_aload (n := 121) rfl rfl ?_
            refine g_aload (n := 123) rfl rfl ?_
            refine g_aload_n (n := 124) rfl rfl ?_
            refine g_getr (n := 127) (ci := 11) (j := 6) (b := 111) rfl (by decide +kernel) (by decide) (by decide) (by decide +kernel) ?_
            refine g_iload_n (n := 128) rfl rfl ?_
            refine g_cv3 (n := 131) (t := 85) (ci := 10) rfl (by decide +kernel) (by decide +kernel) (by decide) (by decide) (by decide +kernel) (by rfl) (vw_te_3 (x := x) (G := (14) + 3 + gg) (n := nI gg) (m := fO d gg 1) (cf_G c14 (show gg < 8 by omega)) (by omega) (rK_c hR (show gg < 8 by omega)) (rK_g hR (show gg < fN d by omega) (w := 1) (by omega)) (Nat.zero_le _)) (by omega) (g_E ?_)
            refine g_iret (n := 132) rfl (fun h => nomatch h) ?_
            subst e
            exact qVo_0 (T := (vTe 3 (nI gg) (fO d gg 1) x []).2) ev0 (by rw [hdgg, vVo_3, e0]) rfl
        ·
          refine g_aload_n (n := 25) rfl rfl ?_
          refine g_getr (n := 28) (ci := 11) (j := 1) (b := (14)) rfl (by decide +kernel) (by decide) (by decide) (by decide +kernel) ?_
          refine g_getr (n := 31) (ci := 1) (j := 1) (b := ((14) + 2)) rfl (by decide +kernel) (cf_hd c14) (cf_lt c14 (by decide)) (cf_r1 c14) ?_
          refine g_iload_n (n := 32) rfl rfl ?_
          refine g_aald (n := 33) (b := ((14) + 3 + gg)) (gg) rfl (cf_2a c14) (cf_2h c14) rfl (cf_2x c14 (by omega)) (cf_2r c14 (by omega)) ?_
          refine g_astore4 (n := 35) rfl rfl ?_
          refine g_aload_n (n := 36) rfl rfl ?_
          refine g_getr (n := 39) (ci := 11) (j := 0) (b := 6) rfl (by decide +kernel) (by decide) (by decide) (by decide +kernel) ?_
          refine g_aload (n := 41) rfl rfl ?_
          refine g_getv (n := 44) (ci := 4) (j := 1) (v := 4) ((rK_g hR (show gg < fN d by omega) (w := 0) (by omega)).trans e0) rfl (by decide +kernel) rfl (by decide) (cf_gh c14 (show gg < 8 by omega)) ?_
          refine g_aald (n := 45) (b := 11) (4) rfl (by decide) (by decide) rfl (by decide) (by decide) ?_
          refine g_astore5 (n := 47) rfl rfl ?_
          refine g_aload_n (n := 48) rfl rfl ?_
          refine g_getr (n := 51) (ci := 11) (j := 6) (b := 111) rfl (by decide +kernel) (by decide) (by decide) (by decide +kernel) ?_
          refine g_cv0 (n := 54) (t := 57) (ci := 6) rfl (by decide +kernel) (by decide +kernel) (rw_hd r111) (rw_136 r111) (by decide +kernel) (by rfl) (c_rclear r111) (by omega) (g_Z ?_)
          rw [brM_0]
          refine g_iload_n (n := 55) rfl rfl ?_
          rcases ha with e | e | e | e
          ·
            refine g_top e ?_
            refine g_tab 80 rfl (by decide) (by decide) rfl (by decide) ?_
            refine g_aload (n := 82) rfl rfl ?_
            refine g_aload (n := 84) rfl rfl ?_
            refine g_aload_n (n := 85) rfl rfl ?_
            refine g_getr (n := 88) (ci := 11) (j := 6) (b := 111) rfl (by decide +kernel) (by decide) (by decide) (by decide +kernel) ?_
            refine g_iload_n (n := 89) rfl rfl ?_
            refine g_cv3 (n := 92) (t := 82) (ci := 7) rfl (by decide +kernel) (by decide +kernel) (by decide) (by decide) (by decide +kernel) (by rfl) (vw_go_4 (x := x) (G := (14) + 3 + gg) (n := nI gg) (m := fO d gg 1) (cf_G c14 (show gg < 8 by omega)) (by omega) (rK_c hR (show gg < 8 by omega)) (rK_g hR (show gg < fN d by omega) (w := 1) (by omega)) (Nat.zero_le _)) (by omega) (g_E ?_)
            refine g_iret (n := 93) rfl (fun h => nomatch h) ?_
            subst e
            exact qVo_0 (T := (vGo 4 (nI gg) x []).2) ev0 (by rw [hdgg, vVo_0, e0]) rfl
          ·
            refine g_top e ?_
            refine g_tab 93 rfl (by decide) (by decide) rfl (by decide) ?_
            refine g_aload (n := 95) rfl rfl ?_
            refine g_aload (n := 97) rfl rfl ?_
            refine g_aload_n (n := 98) rfl rfl ?_
            refine g_getr (n := 101) (ci := 11) (j := 6) (b := 111) rfl (by decide +kernel) (by decide) (by decide) (by decide +kernel) ?_
            refine g_iload_n (n := 102) rfl rfl ?_
            refine g_cv3 (n := 105) (t := 64) (ci := 7) rfl (by decide +kernel) (by decide +kernel) (by decide) (by decide) (by decide +kernel) (by rfl) (vw_bl_4 (x := x) (G := (14) + 3 + gg) (n := nI gg) (m := fO d gg 1) (cf_G c14 (show gg < 8 by omega)) (by omega) (rK_c hR (show gg < 8 by omega)) (rK_g hR (show gg < fN d by omega) (w := 1) (by omega)) (Nat.zero_le _)) (by omega) (g_E ?_)
            refine g_iret (n := 106) rfl (fun h => nomatch h) ?_
            subst e
            exact qVo_0 (T := (vBl 4 (nI gg) (fO d gg 1) x []).2) ev0 (by rw [hdgg, vVo_1, e0]) rfl
          ·
            refine g_top e ?_
            refine g_tab 106 rfl (by decide) (by decide) rfl (by decide) ?_
            refine g_aload (n := 108) rfl rfl ?_
            refine g_aload (n := 110) rfl rfl ?_
            refine g_aload_n (n := 111) rfl rfl ?_
            refine g_getr (n := 114) (ci := 11) (j := 6) (b := 111) rfl (by decide +kernel) (by decide) (by decide) (by decide +kernel) ?_
            refine g_iload_n (n := 115) rfl rfl ?_
            refine g_cv3 (n := 118) (t := 84) (ci := 7) rfl (by decide +kernel) (by decide +kernel) (by decide) (by decide) (by decide +kernel) (by rfl) (vw_yi_4 (x := x) (G := (14) + 3 + gg) (n := nI gg) (m := fO d gg 1) (cf_G c14 (show gg < 8 by omega)) (by omega) (rK_c hR (show gg < 8 by omega)) (rK_g hR (show gg < fN d by omega) (w := 1) (by omega)) (Nat.zero_le _)) (by omega) (g_E ?_)
            refine g_iret (n := 119) rfl (fun h => nomatch h) ?_
            subst e
            exact qVo_0 (T := (vYi 4 (nI gg) (fO d gg 1) x []).2) ev0 (by rw [hdgg, vVo_2, e0]) rfl
          ·
            refine g_top e ?_
            refine g_tabo 119 rfl (by decide) (by decide) ?_
            refine g_aload (n := 121) rfl rfl ?_
            refine g_aload (n := 123) rfl rfl ?_
            refine g_aload_n (n := 124) rfl rfl ?_
            refine g_getr (n := 127) (ci := 11) (j := 6) (b := 111) rfl (by decide +kernel) (by decide) (by decide) (by decide +kernel) ?_
            refine g_iload_n (n := 128) rfl rfl ?_
            refine g_cv3 (n := 131) (t := 85) (ci := 7) rfl (by decide +kernel) (by decide +kernel) (by decide) (by decide) (by decide +kernel) (by rfl) (vw_te_4 (x := x) (G := (14) + 3 + gg) (n := nI gg) (m := fO d gg 1) (cf_G c14 (show gg < 8 by omega)) (by omega) (rK_c hR (show gg < 8 by omega)) (rK_g hR (show gg < fN d by omega) (w := 1) (by omega)) (Nat.zero_le _)) (by omega) (g_E ?_)
            refine g_iret (n := 132) rfl (fun h => nomatch h) ?_
            subst e
            exact qVo_0 (T := (vTe 4 (nI gg) (fO d gg 1) x []).2) ev0 (by rw [hdgg, vVo_3, e0]) rfl
        ·
          refine g_aload_n (n := 25) rfl rfl ?_
          refine g_getr (n := 28) (ci := 11) (j := 1) (b := (14)) rfl (by decide +kernel) (by decide) (by decide) (by decide +kernel) ?_
          refine g_getr (n := 31) (ci := 1) (j := 1) (b := ((14) + 2)) rfl (by decide +kernel) (cf_hd c14) (cf_lt c14 (by decide)) (cf_r1 c14) ?_
          refine g_iload_n (n := 32) rfl rfl ?_
          refine g_aald (n := 33) (b := ((14) + 3 + gg)) (gg) rfl (cf_2a c14) (cf_2h c14) rfl (cf_2x c14 (by omega)) (cf_2r c14 (by omega)) ?_
          refine g_astore4 (n := 35) rfl rfl ?_
          refine g_aload_n (n := 36) rfl rfl ?_
          refine g_getr (n := 39) (ci := 11) (j := 0) (b := 6) rfl (by decide +kernel) (by decide) (by decide) (by decide +kernel) ?_
          refine g_aload (n := 41) rfl rfl ?_
          refine g_getv (n := 44) (ci := 4) (j := 1) (v := 5) ((rK_g hR (show gg < fN d by omega) (w := 0) (by omega)).trans e0) rfl (by decide +kernel) rfl (by decide) (cf_gh c14 (show gg < 8 by omega)) ?_
          refine g_aald (n := 45) (b := 12) (5) rfl (by decide) (by decide) rfl (by decide) (by decide) ?_
          refine g_astore5 (n := 47) rfl rfl ?_
          refine g_aload_n (n := 48) rfl rfl ?_
          refine g_getr (n := 51) (ci := 11) (j := 6) (b := 111) rfl (by decide +kernel) (by decide) (by decide) (by decide +kernel) ?_
          refine g_cv0 (n := 54) (t := 57) (ci := 6) rfl (by decide +kernel) (by decide +kernel) (rw_hd r111) (rw_136 r111) (by decide +kernel) (by rfl) (c_rclear r111) (by omega) (g_Z ?_)
          rw [brM_0]
          refine g_iload_n (n := 55) rfl rfl ?_
          rcases ha with e | e | e | e
          ·
            refine g_top e ?_
            refine g_tab 80 rfl (by decide) (by decide) rfl (by decide) ?_
            refine g_aload (n := 82) rfl rfl ?_
            refine g_aload (n := 84) rfl rfl ?_
            refine g_aload_n (n := 85) rfl rfl ?_
            refine g_getr (n := 88) (ci := 11) (j := 6) (b := 111) rfl (by decide +kernel) (by decide) (by decide) (by decide +kernel) ?_
            refine g_iload_n (n := 89) rfl rfl ?_
            refine g_cv3 (n := 92) (t := 35) (ci := 5) rfl (by decide +kernel) (by decide +kernel) (by decide) (by decide) (by decide +kernel) (by rfl) (vw_go_5 (x := x) (G := (14) + 3 + gg) (n := nI gg) (m := fO d gg 1) (cf_G c14 (show gg < 8 by omega)) (by omega) (rK_c hR (show gg < 8 by omega)) (rK_g hR (show gg < fN d by omega) (w := 1) (by omega)) (Nat.zero_le _)) (by omega) (g_E ?_)
            refine g_iret (n := 93) rfl (fun h => nomatch h) ?_
            subst e
            exact qVo_0 (T := (vGo 5 (nI gg) x []).2) ev0 (by rw [hdgg, vVo_0, e0]) rfl
          ·
            refine g_top e ?_
            refine g_tab 93 rfl (by decide) (by decide) rfl (by decide) ?_
            refine g_aload (n := 95) rfl rfl ?_
            refine g_aload (n := 97) rfl rfl ?_
            refine g_aload_n (n := 98) rfl rfl ?_
            refine g_getr (n := 101) (ci := 11) (j := 6) (b := 111) rfl (by decide +kernel) (by decide) (by decide) (by decide +kernel) ?_
            refine g_iload_n (n := 102) rfl rfl ?_
            refine g_cv3 (n := 105) (t := 83) (ci := 5) rfl (by decide +kernel) (by decide +kernel) (by decide) (by decide) (by decide +kernel) (by rfl) (vw_bl_5 (x := x) (G := (14) + 3 + gg) (n := nI gg) (m := fO d gg 1) (cf_G c14 (show gg < 8 by omega)) (by omega) (rK_c hR (show gg < 8 by omega)) (rK_g hR (show gg < fN d by omega) (w := 1) (by omega)) (Nat.zero_le _)) (by omega) (g_E ?_)
            refine g_iret (n := 106) rfl (fun h => nomatch h) ?_
            subst e
            exact qVo_0 (T := (vBl 5 (nI gg) (fO d gg 1) x []).2) ev0 (by rw [hdgg, vVo_1, e0]) rfl
          ·
            refine g_top e ?_
            refine g_tab 106 rfl (by decide) (by decide) rfl (by decide) ?_
            refine g_aload (n := 108) rfl rfl ?_
            refine g_aload (n := 110) rfl rfl ?_
            refine g_aload_n (n := 111) rfl rfl ?_
            refine g_getr (n := 114) (ci := 11) (j := 6) (b := 111) rfl (by decide +kernel) (by decide) (by decide) (by decide +kernel) ?_
            refine g_iload_n (n := 115) rfl rfl ?_
            refine g_cv3 (n := 118) (t := 84) (ci := 5) rfl (by decide +kernel) (by decide +kernel) (by decide) (by decide) (by decide +kernel) (by rfl) (vw_yi_5 (x := x) (G := (14) + 3 + gg) (n := nI gg) (m := fO d gg 1) (cf_G c14 (show gg < 8 by omega)) (by omega) (rK_c hR (show gg < 8 by omega)) (rK_g hR (show gg < fN d by omega) (w := 1) (by omega)) (Nat.zero_le _)) (by omega) (g_E ?_)
            refine g_iret (n := 119) rfl (fun h => nomatch h) ?_
            subst e
            exact qVo_0 (T := (vYi 5 (nI gg) (fO d gg 1) x []).2) ev0 (by rw [hdgg, vVo_2, e0]) rfl
          ·
            refine g_top e ?_
            refine g_tabo 119 rfl (by decide) (by decide) ?_
            refine g_aload (n := 121) rfl rfl ?_
            refine g_aload (n := 123) rfl rfl ?_
            refine g_aload_n (n := 124) rfl rfl ?_
            refine g_getr (n := 127) (ci := 11) (j := 6) (b := 111) rfl (by decide +kernel) (by decide) (by decide) (by decide +kernel) ?_
            refine g_iload_n (n := 128) rfl rfl ?_
            refine g_cv3 (n := 131) (t := 48) (ci := 5) rfl (by decide +kernel) (by decide +kernel) (by decide) (by decide) (by decide +kernel) (by rfl) (vw_te_5 (x := x) (G := (14) + 3 + gg) (n := nI gg) (m := fO d gg 1) (cf_G c14 (show gg < 8 by omega)) (by omega) (rK_c hR (show gg < 8 by omega)) (rK_g hR (show gg < fN d by omega) (w := 1) (by omega)) (Nat.zero_le _)) (by omega) (g_E ?_)
            refine g_iret (n := 132) rfl (fun h => nomatch h) ?_
            subst e
            exact qVo_0 (T := (vTe 5 (nI gg) (fO d gg 1) x []).2) ev0 (by rw [hdgg, vVo_3, e0]) rfl
        ·
          refine g_aload_n (n := 25) rfl rfl ?_
          refine g_getr (n := 28) (ci := 11) (j := 1) (b := (14)) rfl (by decide +kernel) (by decide) (by decide) (by decide +kernel) ?_
          refine g_getr (n := 31) (ci := 1) (j := 1) (b := ((14) + 2)) rfl (by decide +kernel) (cf_hd c14) (cf_lt c14 (by decide)) (cf_r1 c14) ?_
          refine g_iload_n (n := 32) rfl rfl ?_
          refine g_aald (n := 33) (b := ((14) + 3 + gg)) (gg) rfl (cf_2a c14) (cf_2h c14) rfl (cf_2x c14 (by omega)) (cf_2r c14 (by omega)) ?_
          refine g_astore4 (n := 35) rfl rfl ?_
          refine g_aload_n (n := 36) rfl rfl ?_
          refine g_getr (n := 39) (ci := 11) (j := 0) (b := 6) rfl (by decide +kernel) (by decide) (by decide) (by decide +kernel) ?_
          refine g_aload (n := 41) rfl rfl ?_
          refine g_getv (n := 44) (ci := 4) (j := 1) (v := 6) ((rK_g hR (show gg < fN d by omega) (w := 0) (by omega)).trans e0) rfl (by decide +kernel) rfl (by decide) (cf_gh c14 (show gg < 8 by omega)) ?_
          refine g_aald (n := 45) (b := 13) (6) rfl (by decide) (by decide) rfl (by decide) (by decide) ?_
          refine g_astore5 (n := 47) rfl rfl ?_
          refine g_aload_n (n := 48) rfl rfl ?_
          refine g_getr (n := 51) (ci := 11) (j := 6) (b := 111) rfl (by decide +kernel) (by decide) (by decide) (by decide +kernel) ?_
          refine g_cv0 (n := 54) (t := 57) (ci := 6) rfl (by decide +kernel) (by decide +kernel) (rw_hd r111) (rw_136 r111) (by decide +kernel) (by rfl) (c_rclear r111) (by omega) (g_Z ?_)
          rw [brM_0]
          refine g_iload_n (n := 55) rfl rfl ?_
          rcases ha with e | e | e | e
          ·
            refine g_top e ?_
            refine g_tab 80 rfl (by decide) (by decide) rfl (by decide) ?_
            refine g_aload (n := 82) rfl rfl ?_
            refine g_aload (n := 84) rfl rfl ?_
            refine g_aload_n (n := 85) rfl rfl ?_
            refine g_getr (n := 88) (ci := 11) (j := 6) (b := 111) rfl (by decide +kernel) (by decide) (by decide) (by decide +kernel) ?_
            refine g_iload_n (n := 89) rfl rfl ?_
            refine g_cv3 (n := 92) (t := 82) (ci := 0) rfl (by decide +kernel) (by decide +kernel) (by decide) (by decide) (by decide +kernel) (by rfl) (vw_go_6 (x := x) (G := (14) + 3 + gg) (n := nI gg) (m := fO d gg 1) (cf_G c14 (show gg < 8 by omega)) (by omega) (rK_c hR (show gg < 8 by omega)) (rK_g hR (show gg < fN d by omega) (w := 1) (by omega)) (Nat.zero_le _)) (by omega) (g_E ?_)
            refine g_iret (n := 93) rfl (fun h => nomatch h) ?_
            subst e
            exact qVo_0 (T := (vGo 6 (nI gg) x []).2) ev0 (by rw [hdgg, vVo_0, e0]) rfl
          ·
            refine g_top e ?_
            refine g_tab 93 rfl (by decide) (by decide) rfl (by decide) ?_
            refine g_aload (n := 95) rfl rfl ?_
            refine g_aload (n := 97) rfl rfl ?_
            refine g_aload_n (n := 98) rfl rfl ?_
            refine g_getr (n := 101) (ci := 11) (j := 6) (b := 111) rfl (by decide +kernel) (by decide) (by decide) (by decide +kernel) ?_
            refine g_iload_n (n := 102) rfl rfl ?_
            refine g_cv3 (n := 105) (t := 83) (ci := 0) rfl (by decide +kernel) (by decide +kernel) (by decide) (by decide) (by decide +kernel) (by rfl) (vw_bl_6 (x := x) (G := (14) + 3 + gg) (n := nI gg) (m := fO d gg 1) (cf_G c14 (show gg < 8 by omega)) (by omega) (rK_c hR (show gg < 8 by omega)) (rK_g hR (show gg < fN d by omega) (w := 1) (by omega)) (Nat.zero_le _)) (by omega) (g_E ?_)
            refine g_iret (n := 106) rfl (fun h => nomatch h) ?_
            subst e
            exact qVo_0 (T := (vBl 6 (nI gg) (fO d gg 1) x []).2) ev0 (by rw [hdgg, vVo_1, e0]) rfl
          ·
            refine g_top e ?_
            refine g_tab 106 rfl (by decide) (by decide) rfl (by decide) ?_
            refine g_aload (n := 108) rfl rfl ?_
            refine g_aload (n := 110) rfl rfl ?_
            refine g_aload_n (n := 111) rfl rfl ?_
            refine g_getr (n := 114) (ci := 11) (j := 6) (b := 111) rfl (by decide +kernel) (by decide) (by decide) (by decide +kernel) ?_
            refine g_iload_n (n := 115) rfl rfl ?_
            refine g_cv3 (n := 118) (t := 3) (ci := 0) rfl (by decide +kernel) (by decide +kernel) (by decide) (by decide) (by decide +kernel) (by rfl) (vw_yi_6 (x := x) (G := (14) + 3 + gg) (n := nI gg) (m := fO d gg 1) (cf_G c14 (show gg < 8 by omega)) (by omega) (rK_c hR (show gg < 8 by omega)) (rK_g hR (show gg < fN d by omega) (w := 1) (by omega)) (Nat.zero_le _)) (by omega) (g_E ?_)
            refine g_iret (n := 119) rfl (fun h => nomatch h) ?_
            subst e
            exact qVo_0 (T := (vYi 6 (nI gg) (fO d gg 1) x []).2) ev0 (by rw [hdgg, vVo_2, e0]) rfl
          ·
            refine g_top e ?_
            refine g_tabo 119 rfl (by decide) (by decide) ?_
            refine g_aload (n := 121) rfl rfl ?_
            refine g_aload (n := 123) rfl rfl ?_
            refine g_aload_n (n := 124) rfl rfl ?_
            refine g_getr (n := 127) (ci := 11) (j := 6) (b := 111) rfl (by decide +kernel) (by decide) (by decide) (by decide +kernel) ?_
            refine g_iload_n (n := 128) rfl rfl ?_
            refine g_cv3 (n := 131) (t := 4) (ci := 0) rfl (by decide +kernel) (by decide +kernel) (by decide) (by decide) (by decide +kernel) (by rfl) (vw_te_6 (x := x) (G := (14) + 3 + gg) (n := nI gg) (m := fO d gg 1) (cf_G c14 (show gg < 8 by omega)) (by omega) (rK_c hR (show gg < 8 by omega)) (rK_g hR (show gg < fN d by omega) (w := 1) (by omega)) (Nat.zero_le _)) (by omega) (g_E ?_)
            refine g_iret (n := 132) rfl (fun h => nomatch h) ?_
            subst e
            exact qVo_0 (T := (vTe 6 (nI gg) (fO d gg 1) x []).2) ev0 (by rw [hdgg, vVo_3, e0]) rfl
      ·
        have h3i : 4 ≤ Int32.toInt _ := Int32.le_iff_toInt_le.mp (Int32.not_lt.mp h3)
        refine g_aload_n (n := 18) rfl rfl ?_
        refine g_ldc (n := 20) (v := -1000000001) (pl := 419) rfl (by decide +kernel) ?_
        refine g_top (w := -1000000000 - nI 1) (by decide) ?_
        refine g_cv1 (n := 23) (t := 126) (ci := 11) rfl (by decide +kernel) (by decide +kernel) (by decide) (by decide) (by decide +kernel) (by rfl) (c_fail (k := 1) (by omega)) (by omega) (g_E ?_)
        refine g_iret (n := 24) rfl (fun h => nomatch h) ?_
        exact qVo_1 (eVo_1 (by omega))
  ·
    refine g_ifeq0 (n := 8) 17 rfl (by decide) ?_
    refine g_aload_n (n := 18) rfl rfl ?_
    refine g_ldc (n := 20) (v := -1000000001) (pl := 419) rfl (by decide +kernel) ?_
    refine g_top (w := -1000000000 - nI 1) (by decide) ?_
    refine g_cv1 (n := 23) (t := 126) (ci := 11) rfl (by decide +kernel) (by decide +kernel) (by decide) (by decide) (by decide +kernel) (by rfl) (c_fail (k := 1) (by omega)) (by omega) (g_E ?_)
    refine g_iret (n := 24) rfl (fun h => nomatch h) ?_
    exact qVo_1 (eVo_1 (by omega))
