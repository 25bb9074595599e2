/-! the class: rows -/
theorem mi_acp_i {f g : List Value} {k n : Nat} (hk : k < g.length) : True := trivial
theorem g_acp {sc : List Value} {own : Nat} {ini rz : Bool} {code : List (Nat × Instr)} {d pc n : Nat} {ls : List Value} {I : mg_I} {nm : Nat} {Q : Option Value → mg_I → Nat → Prop} {r : List Value} {a a0 fk pl nn dp sp : Nat} (h : mg_f code pc = some (.invokestatic fk, n)) (h1 : mi_cq.lookup (own, fk) = some (3, pl)) (hlow : mi_low r = true) (hk : 5 ≤ a ∧ mf_hd a = 20) (hk0 : 5 ≤ a0 ∧ mf_hd a0 = 20) (hs : sp + nn ≤ mf_sz a0) (ht : dp + nn ≤ mf_sz a)
    (k : GG sc own ini rz code d n ls r (fun x j => if x = a ∧ dp ≤ j ∧ j < dp + nn then I a0 (sp + (j - dp)) else I x j) nm Q) : GG sc own ini rz code d pc ls (.int (nI nn) :: .int (nI dp) :: .ref a :: .int (nI sp) :: .ref a0 :: r) I nm Q := by
  obtain rfl := g_next h
  have ha : a < 136 := Nat.not_le.mp fun z => by
    have := hk.2
    rw [mg_big z] at this
    cases this
  have ha0 : a0 < 136 := Nat.not_le.mp fun z => by
    have := hk0.2
    rw [mg_big z] at this
    cases this
  have hl := (mg_arr a ha hk.2).1
  have hl0 := (mg_arr a0 ha0 hk0.2).1
  refine g_step h rfl (fun f => ?_) k
  have e : mi_Z f own (.invokestatic fk) (.int (nI nn) :: .int (nI dp) :: .ref a :: .int (nI sp) :: .ref a0 :: r) (mf_M I nm sc) = some (r, mf_M (fun x j => if x = a ∧ dp ≤ j ∧ j < dp + nn then I a0 (sp + (j - dp)) else I x j) nm sc) := by
    show mi_Zs f own fk _ _ = _
    unfold mi_Zs
    rw [h1]
    simp only [show ¬ (3 : Nat) = 1 by decide, show ¬ (3 : Nat) = 2 by decide, if_false, if_true]
    unfold mi_acp
    simp only [mf_ld hk0.1 ha0 hk0.2, mf_ld hk.1 ha hk.2, Option.bind_some, nI_clamp (show nn < 2 ^ 31 by omega), nI_clamp (show dp < 2 ^ 31 by omega), nI_clamp (show sp < 2 ^ 31 by omega), nI_toInt (show nn < 2 ^ 31 by omega), nI_toInt (show dp < 2 ^ 31 by omega), nI_toInt (show sp < 2 ^ 31 by omega)]
    rw [if_pos ⟨by omega, by omega, by omega, by rw [mf_clen]; exact hs, by rw [mf_clen]; exact ht, hlow⟩]
    refine congrArg (fun m => some (r, m)) ?_
    have e2 : (20, mi_cpy (mf_c I nm a0).2 (mf_c I nm a).2 sp dp nn) = mf_c (fun x j => if x = a ∧ dp ≤ j ∧ j < dp + nn then I a0 (sp + (j - dp)) else I x j) nm a := by
      unfold mi_cpy
      rw [mf_clen]
      show _ = (mf_hd a, _)
      rw [hk.2]
      refine congrArg (fun l => (20, l)) (List.map_congr_left fun j hj => ?_)
      have hj2 := List.mem_range.mp hj
      rw [mf_v_int (mg_a hk.1 hk.2 hj2)]
      by_cases hc : dp ≤ j ∧ j < dp + nn
      · rw [if_pos hc, if_pos ⟨rfl, hc.1, hc.2⟩, List.getD_eq_getElem?_getD, mf_slot (by omega), mf_v_int (mg_a hk0.1 hk0.2 (by omega))]
        rfl
      · rw [if_neg hc, if_neg (fun q => hc ⟨q.2.1, q.2.2⟩), List.getD_eq_getElem?_getD, mf_slot hj2, mf_v_int (mg_a hk.1 hk.2 hj2)]
        rfl
    rw [e2]
    refine mf_sum (fun b hb j => ?_) hk.1 ha
    unfold mf_v
    simp only [hb, false_and, if_false]
  simp only [mi_one, mi_A, mi_B, mi_L, mi_Y, e, Option.map_some]
  rfl
def isRow (R c : Nat) : Prop := 5 ≤ R ∧ R < 136 ∧ mf_hd R = 6 ∧ mf_sz R = 2 ∧ mf_rf R 0 = some (R + 1) ∧ mf_hd (R + 1) = 20 ∧ mf_sz (R + 1) = c ∧ c ≤ 50
theorem rw_hd {R c : Nat} (h : isRow R c) : 5 ≤ R ∧ mf_hd R = 6 := ⟨h.1, h.2.2.1⟩
theorem rw_136 {R c : Nat} (h : isRow R c) : R < 136 := h.2.1
theorem rw_lt {R c j : Nat} (h : isRow R c) (hj : j < 2) : R < 136 ∧ j < mf_sz R := ⟨h.2.1, by rw [h.2.2.2.1]; exact hj⟩
theorem rw_rf {R c : Nat} (h : isRow R c) : mf_rf R 0 = some (R + 1) := h.2.2.2.2.1
theorem rw_ih {R c : Nat} (h : isRow R c) : 5 ≤ R + 1 ∧ mf_hd (R + 1) = 20 := ⟨by have := h.1; omega, h.2.2.2.2.2.1⟩
theorem rw_sz {R c : Nat} (h : isRow R c) : mf_sz (R + 1) = c := h.2.2.2.2.2.2.1
theorem rw_50 {R c : Nat} (h : isRow R c) : c ≤ 50 := h.2.2.2.2.2.2.2
theorem c_rhas {sc : List Value} {nm : Nat} {I : mg_I} {R c n : Nat} (hR : isRow R c) (hn : I R 1 = nI n) (hn2 : n ≤ 50) {i : Int32} : SP sc 1 50 [.ref R, .int i] I nm (qE (bI (0 ≤ i.toInt ∧ i.toInt < (n : Int))) I nm) := by
  refine SP.of (h := 0) (t := 50) (q := (yX6_has, cX6_has, 2, (some .boolean), 6, 714, mi_k50)) rfl (by decide) (show ¬ (2 : Nat) < 2 by decide) (fun d hd => ?_)
  show GG sc 6 false true mi_k50 d 0 [.ref R, .int i] [] I nm (qE (bI (0 ≤ i.toInt ∧ i.toInt < (n : Int))) I nm)
  have hnt := nI_toInt (n := n) (by omega)
  refine g_iload_n (n := 1) rfl rfl ?_
  refine g_iflt (n := 4) 16 rfl (by decide) (fun h1 => ?_) (fun h1 => ?_)
  ·
    refine g_iconst (n := 17) (v := 0) rfl rfl ?_
    refine g_iret (n := 18) rfl (fun _ => by first | exact Or.inl rfl | exact Or.inr rfl | exact bI_01 | (rw [hb]; exact bP_01)) ?_
    exact ⟨congrArg (fun z => some (Value.int z)) (by first | exact (bI_t (by simp only [Int32.lt_iff_toInt_lt, Int32.le_iff_toInt_le, tI_0, hnt] at *; omega)).symm | exact (bI_f (by simp only [Int32.lt_iff_toInt_lt, Int32.le_iff_toInt_le, tI_0, hnt] at *; omega)).symm), rfl, rfl⟩
  ·
    refine g_iload_n (n := 5) rfl rfl ?_
    refine g_aload_n (n := 6) rfl rfl ?_
    refine g_getv (n := 9) (ci := 6) (j := 1) (v := nI (n)) hn rfl (by decide +kernel) rfl (by decide) (rw_hd hR) ?_
    refine g_icge (n := 12) 16 rfl (by decide) (fun h2 => ?_) (fun h2 => ?_)
    ·
      refine g_iconst (n := 17) (v := 0) rfl rfl ?_
      refine g_iret (n := 18) rfl (fun _ => by first | exact Or.inl rfl | exact Or.inr rfl | exact bI_01 | (rw [hb]; exact bP_01)) ?_
      exact ⟨congrArg (fun z => some (Value.int z)) (by first | exact (bI_t (by simp only [Int32.lt_iff_toInt_lt, Int32.le_iff_toInt_le, tI_0, hnt] at *; omega)).symm | exact (bI_f (by simp only [Int32.lt_iff_toInt_lt, Int32.le_iff_toInt_le, tI_0, hnt] at *; omega)).symm), rfl, rfl⟩
    ·
      refine g_iconst (n := 13) (v := 1) rfl rfl ?_
      refine g_goto 17 rfl (by decide) ?_
      refine g_iret (n := 18) rfl (fun _ => by first | exact Or.inl rfl | exact Or.inr rfl | exact bI_01 | (rw [hb]; exact bP_01)) ?_
      exact ⟨congrArg (fun z => some (Value.int z)) (by first | exact (bI_t (by simp only [Int32.lt_iff_toInt_lt, Int32.le_iff_toInt_le, tI_0, hnt] at *; omega)).symm | exact (bI_f (by simp only [Int32.lt_iff_toInt_lt, Int32.le_iff_toInt_le, tI_0, hnt] at *; omega)).symm), rfl, rfl⟩
theorem sub_toInt0 {n : Nat} {k : Int32} (hn : n ≤ 50) (h0 : 0 ≤ k.toInt) : (nI n - k).toInt = (n : Int) - k.toInt := by
  have h1 := Int32.toInt_lt k
  rw [Int32.toInt_sub, nI_toInt (by omega)]
  exact Int.bmod_eq_of_le (by omega) (by omega)
theorem c_rrun {sc : List Value} {nm : Nat} {I : mg_I} {R c n : Nat} (hR : isRow R c) (hn : I R 1 = nI n) (hn2 : n ≤ 50) {i k : Int32} : SP sc 1 51 [.ref R, .int i, .int k] I nm (qE (bI (0 ≤ i.toInt ∧ 0 ≤ k.toInt ∧ i.toInt + k.toInt ≤ (n : Int))) I nm) := by
  refine SP.of (h := 0) (t := 51) (q := (yX6_hasRun, cX6_hasRun, 3, (some .boolean), 6, 1016, mi_k51)) rfl (by decide) (show ¬ (3 : Nat) < 3 by decide) (fun d hd => ?_)
  show GG sc 6 false true mi_k51 d 0 [.ref R, .int i, .int k] [] I nm (qE (bI (0 ≤ i.toInt ∧ 0 ≤ k.toInt ∧ i.toInt + k.toInt ≤ (n : Int))) I nm)
  have hnt := nI_toInt (n := n) (by omega)
  refine g_iload_n (n := 1) rfl rfl ?_
  refine g_iflt (n := 4) 30 rfl (by decide) (fun h1 => ?_) (fun h1 => ?_)
  ·
    refine g_iconst (n := 31) (v := 0) rfl rfl ?_
    refine g_iret (n := 32) rfl (fun _ => by first | exact Or.inl rfl | exact Or.inr rfl | exact bI_01 | (rw [hb]; exact bP_01)) ?_
    exact ⟨congrArg (fun z => some (Value.int z)) (by first | exact (bI_t (by simp only [Int32.lt_iff_toInt_lt, Int32.le_iff_toInt_le, tI_0, hnt] at *; first | omega | (rw [sub_toInt0 hn2 (by omega)] at *; omega))).symm | exact (bI_f (by simp only [Int32.lt_iff_toInt_lt, Int32.le_iff_toInt_le, tI_0, hnt] at *; first | omega | (rw [sub_toInt0 hn2 (by omega)] at *; omega))).symm), rfl, rfl⟩
  ·
    refine g_iload_n (n := 5) rfl rfl ?_
    refine g_iflt (n := 8) 30 rfl (by decide) (fun h2 => ?_) (fun h2 => ?_)
    ·
      refine g_iconst (n := 31) (v := 0) rfl rfl ?_
      refine g_iret (n := 32) rfl (fun _ => by first | exact Or.inl rfl | exact Or.inr rfl | exact bI_01 | (rw [hb]; exact bP_01)) ?_
      exact ⟨congrArg (fun z => some (Value.int z)) (by first | exact (bI_t (by simp only [Int32.lt_iff_toInt_lt, Int32.le_iff_toInt_le, tI_0, hnt] at *; first | omega | (rw [sub_toInt0 hn2 (by omega)] at *; omega))).symm | exact (bI_f (by simp only [Int32.lt_iff_toInt_lt, Int32.le_iff_toInt_le, tI_0, hnt] at *; first | omega | (rw [sub_toInt0 hn2 (by omega)] at *; omega))).symm), rfl, rfl⟩
    ·
      refine g_iload_n (n := 9) rfl rfl ?_
      refine g_aload_n (n := 10) rfl rfl ?_
      refine g_getv (n := 13) (ci := 6) (j := 1) (v := nI (n)) hn rfl (by decide +kernel) rfl (by decide) (rw_hd hR) ?_
      refine g_icgt (n := 16) 30 rfl (by decide) (fun h3 => ?_) (fun h3 => ?_)
      ·
        refine g_iconst (n := 31) (v := 0) rfl rfl ?_
        refine g_iret (n := 32) rfl (fun _ => by first | exact Or.inl rfl | exact Or.inr rfl | exact bI_01 | (rw [hb]; exact bP_01)) ?_
        exact ⟨congrArg (fun z => some (Value.int z)) (by first | exact (bI_t (by simp only [Int32.lt_iff_toInt_lt, Int32.le_iff_toInt_le, tI_0, hnt] at *; first | omega | (rw [sub_toInt0 hn2 (by omega)] at *; omega))).symm | exact (bI_f (by simp only [Int32.lt_iff_toInt_lt, Int32.le_iff_toInt_le, tI_0, hnt] at *; first | omega | (rw [sub_toInt0 hn2 (by omega)] at *; omega))).symm), rfl, rfl⟩
      ·
        refine g_iload_n (n := 17) rfl rfl ?_
        refine g_aload_n (n := 18) rfl rfl ?_
        refine g_getv (n := 21) (ci := 6) (j := 1) (v := nI (n)) hn rfl (by decide +kernel) rfl (by decide) (rw_hd hR) ?_
        refine g_iload_n (n := 22) rfl rfl ?_
        refine g_isub (n := 23) rfl ?_
        refine g_icgt (n := 26) 30 rfl (by decide) (fun h4 => ?_) (fun h4 => ?_)
        ·
          refine g_iconst (n := 31) (v := 0) rfl rfl ?_
          refine g_iret (n := 32) rfl (fun _ => by first | exact Or.inl rfl | exact Or.inr rfl | exact bI_01 | (rw [hb]; exact bP_01)) ?_
          exact ⟨congrArg (fun z => some (Value.int z)) (by first | exact (bI_t (by simp only [Int32.lt_iff_toInt_lt, Int32.le_iff_toInt_le, tI_0, hnt] at *; first | omega | (rw [sub_toInt0 hn2 (by omega)] at *; omega))).symm | exact (bI_f (by simp only [Int32.lt_iff_toInt_lt, Int32.le_iff_toInt_le, tI_0, hnt] at *; first | omega | (rw [sub_toInt0 hn2 (by omega)] at *; omega))).symm), rfl, rfl⟩
        ·
          refine g_iconst (n := 27) (v := 1) rfl rfl ?_
          refine g_goto 31 rfl (by decide) ?_
          refine g_iret (n := 32) rfl (fun _ => by first | exact Or.inl rfl | exact Or.inr rfl | exact bI_01 | (rw [hb]; exact bP_01)) ?_
          exact ⟨congrArg (fun z => some (Value.int z)) (by first | exact (bI_t (by simp only [Int32.lt_iff_toInt_lt, Int32.le_iff_toInt_le, tI_0, hnt] at *; first | omega | (rw [sub_toInt0 hn2 (by omega)] at *; omega))).symm | exact (bI_f (by simp only [Int32.lt_iff_toInt_lt, Int32.le_iff_toInt_le, tI_0, hnt] at *; first | omega | (rw [sub_toInt0 hn2 (by omega)] at *; omega))).symm), rfl, rfl⟩
theorem c_rat {sc : List Value} {nm : Nat} {I : mg_I} {R c n : Nat} (hR : isRow R c) (hn : I R 1 = nI n) {k : Nat} (hk : k < n) (hc : n ≤ c) : SP sc 1 52 [.ref R, .int (nI k)] I nm (qE (I (R + 1) k) I nm) := by
  refine SP.of (h := 0) (t := 52) (q := (yX6_at, cX6_at, 2, (some .int), 6, 548, mi_k52)) rfl (by decide) (show ¬ (2 : Nat) < 2 by decide) (fun d hd => ?_)
  show GG sc 6 false false mi_k52 d 0 [.ref R, .int (nI k)] [] I nm (qE (I (R + 1) k) I nm)
  have h50 := rw_50 hR
  refine g_iload_n (n := 1) rfl rfl ?_
  refine g_iflt (n := 4) 21 rfl (by decide) (fun h1 => ?_) (fun h1 => ?_)
  ·
    exact absurd h1 (nI_pos (by omega))
  ·
    refine g_iload_n (n := 5) rfl rfl ?_
    refine g_aload_n (n := 6) rfl rfl ?_
    refine g_getv (n := 9) (ci := 6) (j := 1) (v := nI (n)) hn rfl (by decide +kernel) rfl (by decide) (rw_hd hR) ?_
    refine g_icge (n := 12) 21 rfl (by decide) (fun h2 => ?_) (fun h2 => ?_)
    ·
      exact absurd (fN_le rfl (by omega) (by omega) h2) (by omega)
    ·
      refine g_aload_n (n := 13) rfl rfl ?_
      refine g_getr (n := 16) (ci := 6) (j := 0) (b := (R + 1)) rfl (by decide +kernel) (rw_hd hR) (rw_lt hR (by decide)) (rw_rf hR) ?_
      refine g_iload_n (n := 17) rfl rfl ?_
      refine g_iald (n := 18) (k) rfl (rw_ih hR) rfl (by rw [rw_sz hR]; omega) ?_
      refine g_goto 22 rfl (by decide) ?_
      refine g_iret (n := 23) rfl (fun h => nomatch h) ?_
      exact ⟨rfl, rfl, rfl⟩
theorem c_rset {sc : List Value} {nm : Nat} {I : mg_I} {R c n : Nat} (hR : isRow R c) (hn : I R 1 = nI n) {k : Nat} {x : Int32} (hk : k < n) (hc : n ≤ c) : SP sc 2 53 [.ref R, .int (nI k), .int x] I nm (qZ (mf_up I (R + 1) k x) nm) := by
  refine SP.of (h := 1) (t := 53) (q := (yX6_set, cX6_set, 3, none, 6, 710, mi_k53)) rfl (by decide) (show ¬ (3 : Nat) < 3 by decide) (fun d hd => ?_)
  show GG sc 6 false false mi_k53 d 0 [.ref R, .int (nI k), .int x] [] I nm (qZ (mf_up I (R + 1) k x) nm)
  have h50 := rw_50 hR
  refine g_aload_n (n := 1) rfl rfl ?_
  refine g_iload_n (n := 2) rfl rfl ?_
  refine g_cv1 (n := 5) (t := 50) (ci := 6) rfl (by decide +kernel) (by decide +kernel) (rw_hd hR) (rw_136 hR) (by decide +kernel) (by rfl) (c_rhas hR hn (by omega)) (by omega) (g_E ?_)
  refine g_top (w := 1) (bI_t ⟨by rw [nI_toInt (by omega)]; omega, by rw [nI_toInt (by omega)]; omega⟩) ?_
  refine g_ifeq1 (n := 8) 15 rfl (by decide) ?_
  refine g_aload_n (n := 9) rfl rfl ?_
  refine g_getr (n := 12) (ci := 6) (j := 0) (b := (R + 1)) rfl (by decide +kernel) (rw_hd hR) (rw_lt hR (by decide)) (rw_rf hR) ?_
  refine g_iload_n (n := 13) rfl rfl ?_
  refine g_iload_n (n := 14) rfl rfl ?_
  refine g_iast (n := 15) (k) rfl (rw_ih hR) rfl (by rw [rw_sz hR]; omega) ?_
  refine g_vret (n := 16) rfl ?_
  exact ⟨rfl, rfl, rfl⟩
theorem c_radd {sc : List Value} {nm : Nat} {I : mg_I} {R c n : Nat} (hR : isRow R c) (hn : I R 1 = nI n) {x : Int32} (hc : n < c) : SP sc 1 54 [.ref R, .int x] I nm (qE 1 (mf_up (mf_up I (R + 1) n x) R 1 (nI (n + 1))) nm) := by
  refine SP.of (h := 0) (t := 54) (q := (yX6_add, cX6_add, 2, (some .boolean), 6, 270, mi_k54)) rfl (by decide) (show ¬ (2 : Nat) < 2 by decide) (fun d hd => ?_)
  show GG sc 6 false true mi_k54 d 0 [.ref R, .int x] [] I nm (qE 1 (mf_up (mf_up I (R + 1) n x) R 1 (nI (n + 1))) nm)
  have h50 := rw_50 hR
  refine g_aload_n (n := 1) rfl rfl ?_
  refine g_getv (n := 4) (ci := 6) (j := 1) (v := nI (n)) hn rfl (by decide +kernel) rfl (by decide) (rw_hd hR) ?_
  refine g_aload_n (n := 5) rfl rfl ?_
  refine g_getr (n := 8) (ci := 6) (j := 0) (b := (R + 1)) rfl (by decide +kernel) (rw_hd hR) (rw_lt hR (by decide)) (rw_rf hR) ?_
  refine g_alen (n := 9) (v := nI c) rfl (rw_ih hR) (congrArg nI (rw_sz hR)) ?_
  refine g_iclt (n := 12) 14 rfl (by decide) (fun h1 => ?_) (fun h1 => ?_)
  ·
    refine g_aload_n (n := 15) rfl rfl ?_
    refine g_getr (n := 18) (ci := 6) (j := 0) (b := (R + 1)) rfl (by decide +kernel) (rw_hd hR) (rw_lt hR (by decide)) (rw_rf hR) ?_
    refine g_aload_n (n := 19) rfl rfl ?_
    refine g_getv (n := 22) (ci := 6) (j := 1) (v := nI (n)) hn rfl (by decide +kernel) rfl (by decide) (rw_hd hR) ?_
    refine g_iload_n (n := 23) rfl rfl ?_
    refine g_iast (n := 24) (n) rfl (rw_ih hR) rfl (by rw [rw_sz hR]; omega) ?_
    refine g_aload_n (n := 25) rfl rfl ?_
    refine g_dupa (n := 26) rfl ?_
    refine g_getv (n := 29) (ci := 6) (j := 1) (v := nI (n)) ((if_neg (by omega)).trans hn) rfl (by decide +kernel) rfl (by decide) (rw_hd hR) ?_
    refine g_iconst (n := 30) (v := 1) rfl rfl ?_
    refine g_iaddN (n := 31) (x := n) (y := 1) rfl ?_
    refine g_puti (n := 34) (ci := 6) (j := 1) rfl (by decide +kernel) rfl (by decide) (rw_hd hR) (by decide +kernel) rfl ?_
    refine g_iconst (n := 35) (v := 1) rfl rfl ?_
    refine g_iret (n := 36) rfl (fun _ => by first | exact Or.inl rfl | exact Or.inr rfl | exact bI_01 | (rw [hb]; exact bP_01)) ?_
    exact ⟨rfl, rfl, rfl⟩
  ·
    exact absurd ((nI_ltI (by omega) (by omega)).mpr (by omega)) h1
theorem c_raddF {sc : List Value} {nm : Nat} {I : mg_I} {R c n : Nat} (hR : isRow R c) (hn : I R 1 = nI n) {x : Int32} (hc : n = c) : SP sc 1 54 [.ref R, .int x] I nm (qE 0 I nm) := by
  refine SP.of (h := 0) (t := 54) (q := (yX6_add, cX6_add, 2, (some .boolean), 6, 270, mi_k54)) rfl (by decide) (show ¬ (2 : Nat) < 2 by decide) (fun d hd => ?_)
  show GG sc 6 false true mi_k54 d 0 [.ref R, .int x] [] I nm (qE 0 I nm)
  have h50 := rw_50 hR
  refine g_aload_n (n := 1) rfl rfl ?_
  refine g_getv (n := 4) (ci := 6) (j := 1) (v := nI (n)) hn rfl (by decide +kernel) rfl (by decide) (rw_hd hR) ?_
  refine g_aload_n (n := 5) rfl rfl ?_
  refine g_getr (n := 8) (ci := 6) (j := 0) (b := (R + 1)) rfl (by decide +kernel) (rw_hd hR) (rw_lt hR (by decide)) (rw_rf hR) ?_
  refine g_alen (n := 9) (v := nI c) rfl (rw_ih hR) (congrArg nI (rw_sz hR)) ?_
  refine g_iclt (n := 12) 14 rfl (by decide) (fun h1 => ?_) (fun h1 => ?_)
  ·
    exact absurd ((nI_ltI (by omega) (by omega)).mp h1) (by omega)
  ·
    refine g_iconst (n := 13) (v := 0) rfl rfl ?_
    refine g_iret (n := 14) rfl (fun _ => by first | exact Or.inl rfl | exact Or.inr rfl | exact bI_01 | (rw [hb]; exact bP_01)) ?_
    exact ⟨rfl, rfl, rfl⟩
theorem c_rlast0 {sc : List Value} {nm : Nat} {I : mg_I} {R c : Nat} (hR : isRow R c) (hn : I R 1 = 0) : SP sc 1 55 [.ref R] I nm (qE 0 I nm) := by
  refine SP.of (h := 0) (t := 55) (q := (yX6_last, cX6_last, 1, (some .int), 6, 559, mi_k55)) rfl (by decide) (show ¬ (1 : Nat) < 1 by decide) (fun d hd => ?_)
  show GG sc 6 false false mi_k55 d 0 [.ref R] [] I nm (qE 0 I nm)
  refine g_aload_n (n := 1) rfl rfl ?_
  refine g_getv (n := 4) (ci := 6) (j := 1) (v := nI (0)) hn rfl (by decide +kernel) rfl (by decide) (rw_hd hR) ?_
  refine g_ifle (n := 7) 21 rfl (by decide) (fun _ => ?_) (fun h => absurd (by decide) h)
  refine g_iconst (n := 22) (v := 0) rfl rfl ?_
  refine g_iret (n := 23) rfl (fun h => nomatch h) ?_
  exact ⟨rfl, rfl, rfl⟩
theorem c_rlast {sc : List Value} {nm : Nat} {I : mg_I} {R c n : Nat} (hR : isRow R c) (hn : I R 1 = nI (n + 1)) (hc : n + 1 ≤ c) : SP sc 1 55 [.ref R] I nm (qE (I (R + 1) n) I nm) := by
  refine SP.of (h := 0) (t := 55) (q := (yX6_last, cX6_last, 1, (some .int), 6, 559, mi_k55)) rfl (by decide) (show ¬ (1 : Nat) < 1 by decide) (fun d hd => ?_)
  show GG sc 6 false false mi_k55 d 0 [.ref R] [] I nm (qE (I (R + 1) n) I nm)
  have h50 := rw_50 hR
  refine g_aload_n (n := 1) rfl rfl ?_
  refine g_getv (n := 4) (ci := 6) (j := 1) (v := nI ((n + 1))) hn rfl (by decide +kernel) rfl (by decide) (rw_hd hR) ?_
  refine g_ifle (n := 7) 21 rfl (by decide) (fun h1 => ?_) (fun h1 => ?_)
  ·
    exact absurd ((nI_leI (b := 0) (by omega) (by omega)).mp h1) (by omega)
  ·
    refine g_aload_n (n := 8) rfl rfl ?_
    refine g_getr (n := 11) (ci := 6) (j := 0) (b := (R + 1)) rfl (by decide +kernel) (rw_hd hR) (rw_lt hR (by decide)) (rw_rf hR) ?_
    refine g_aload_n (n := 12) rfl rfl ?_
    refine g_getv (n := 15) (ci := 6) (j := 1) (v := nI ((n + 1))) hn rfl (by decide +kernel) rfl (by decide) (rw_hd hR) ?_
    refine g_iconst (n := 16) (v := 1) rfl rfl ?_
    refine g_isub (n := 17) rfl ?_
    refine g_top (w := nI n) (nI_pred n) ?_
    refine g_iald (n := 18) (n) rfl (rw_ih hR) rfl (by rw [rw_sz hR]; omega) ?_
    refine g_goto 22 rfl (by decide) ?_
    refine g_iret (n := 23) rfl (fun h => nomatch h) ?_
    exact ⟨rfl, rfl, rfl⟩
theorem c_rrem0 {sc : List Value} {nm : Nat} {I : mg_I} {R c : Nat} (hR : isRow R c) (hn : I R 1 = 0) : SP sc 1 56 [.ref R] I nm (qE 0 I nm) := by
  refine SP.of (h := 0) (t := 56) (q := (yX6_removeLast, cX6_removeLast, 1, (some .int), 6, 552, mi_k56)) rfl (by decide) (show ¬ (1 : Nat) < 1 by decide) (fun d hd => ?_)
  show GG sc 6 false false mi_k56 d 0 [.ref R] [] I nm (qE 0 I nm)
  refine g_aload_n (n := 1) rfl rfl ?_
  refine g_getv (n := 4) (ci := 6) (j := 1) (v := nI (0)) hn rfl (by decide +kernel) rfl (by decide) (rw_hd hR) ?_
  refine g_ifne0 (n := 7) 9 rfl (by decide) ?_
  refine g_iconst (n := 8) (v := 0) rfl rfl ?_
  refine g_iret (n := 9) rfl (fun h => nomatch h) ?_
  exact ⟨rfl, rfl, rfl⟩
theorem c_rrem {sc : List Value} {nm : Nat} {I : mg_I} {R c n : Nat} (hR : isRow R c) (hn : I R 1 = nI (n + 1)) (hc : n + 1 ≤ c) : SP sc 1 56 [.ref R] I nm (qE (I (R + 1) n) (mf_up I R 1 (nI n)) nm) := by
  refine SP.of (h := 0) (t := 56) (q := (yX6_removeLast, cX6_removeLast, 1, (some .int), 6, 552, mi_k56)) rfl (by decide) (show ¬ (1 : Nat) < 1 by decide) (fun d hd => ?_)
  show GG sc 6 false false mi_k56 d 0 [.ref R] [] I nm (qE (I (R + 1) n) (mf_up I R 1 (nI n)) nm)
  have h50 := rw_50 hR
  refine g_aload_n (n := 1) rfl rfl ?_
  refine g_getv (n := 4) (ci := 6) (j := 1) (v := nI ((n + 1))) hn rfl (by decide +kernel) rfl (by decide) (rw_hd hR) ?_
  refine g_ifne (n := 7) 9 rfl (by decide) (fun h1 => ?_) (fun h1 => ?_)
  ·
    refine g_aload_n (n := 10) rfl rfl ?_
    refine g_dupa (n := 11) rfl ?_
    refine g_getv (n := 14) (ci := 6) (j := 1) (v := nI ((n + 1))) hn rfl (by decide +kernel) rfl (by decide) (rw_hd hR) ?_
    refine g_iconst (n := 15) (v := 1) rfl rfl ?_
    refine g_isub (n := 16) rfl ?_
    refine g_top (w := nI n) (nI_pred n) ?_
    refine g_puti (n := 19) (ci := 6) (j := 1) rfl (by decide +kernel) rfl (by decide) (rw_hd hR) (by decide +kernel) rfl ?_
    refine g_aload_n (n := 20) rfl rfl ?_
    refine g_getr (n := 23) (ci := 6) (j := 0) (b := (R + 1)) rfl (by decide +kernel) (rw_hd hR) (rw_lt hR (by decide)) (rw_rf hR) ?_
    refine g_aload_n (n := 24) rfl rfl ?_
    refine g_getv (n := 27) (ci := 6) (j := 1) (v := nI (n)) (if_pos ⟨rfl, rfl⟩) rfl (by decide +kernel) rfl (by decide) (rw_hd hR) ?_
    refine g_iald (n := 28) (n) rfl (rw_ih hR) rfl (by rw [rw_sz hR]; omega) ?_
    refine g_top (w := I (R + 1) n) (if_neg (by omega)) ?_
    refine g_iret (n := 29) rfl (fun h => nomatch h) ?_
    exact ⟨rfl, rfl, rfl⟩
  ·
    exact absurd ((nI_eq (b := 0) (by omega) (by omega)).mp h1) (by omega)
theorem c_rclear {sc : List Value} {nm : Nat} {I : mg_I} {R c : Nat} (hR : isRow R c) : SP sc 1 57 [.ref R] I nm (qZ (mf_up I R 1 0) nm) := by
  refine SP.of (h := 0) (t := 57) (q := (yX6_clear, cX6_clear, 1, none, 6, 544, mi_k57)) rfl (by decide) (show ¬ (1 : Nat) < 1 by decide) (fun d hd => ?_)
  show GG sc 6 false false mi_k57 d 0 [.ref R] [] I nm (qZ (mf_up I R 1 0) nm)
  refine g_aload_n (n := 1) rfl rfl ?_
  refine g_iconst (n := 2) (v := 0) rfl rfl ?_
  refine g_puti (n := 5) (ci := 6) (j := 1) rfl (by decide +kernel) rfl (by decide) (rw_hd hR) (by decide +kernel) rfl ?_
  refine g_vret (n := 6) rfl ?_
  exact ⟨rfl, rfl, rfl⟩
def zR (I : mg_I) (R n c : Nat) : mg_I := fun a j => if a = R + 1 ∧ j < c then 0 else if a = R ∧ j = 1 then nI n else I a j
theorem zR_0 {I : mg_I} {R n : Nat} : mf_up I R 1 (nI n) = zR I R n 0 := by
  funext a j
  unfold mf_up zR
  rw [if_neg (c := a = R + 1 ∧ _) (by omega)]
theorem zR_s {I : mg_I} {R n c : Nat} : mf_up (zR I R n c) (R + 1) c 0 = zR I R n (c + 1) := by
  funext a j
  unfold mf_up zR
  by_cases h1 : a = R + 1 ∧ j = c
  · rw [if_pos h1, if_pos (by omega)]
  · rw [if_neg h1]
    by_cases h2 : a = R + 1 ∧ j < c
    · rw [if_pos h2, if_pos (by omega)]
    · rw [if_neg h2, if_neg (c := a = R + 1 ∧ j < c + 1) (by omega)]
theorem c_rzeros {sc : List Value} {nm : Nat} {I : mg_I} {R c n : Nat} (hR : isRow R c) (hc : n ≤ c) : SP sc 1 58 [.ref R, .int (nI n)] I nm (qZ (zR I R n n) nm) := by
  refine SP.of (h := 0) (t := 58) (q := (yX6_zeros, cX6_zeros, 3, none, 6, 996, mi_k58)) rfl (by decide) (show ¬ (3 : Nat) < 2 by decide) (fun d hd => ?_)
  show GG sc 6 false false mi_k58 d 0 [.ref R, .int (nI n), .null] [] I nm (qZ (zR I R n n) nm)
  have h50 := rw_50 hR
  have H : ∀ (m k : Nat), k + m = n → GG sc 6 false false mi_k58 d 19 [.ref R, .int (nI n), .int (nI k)] [] (zR I R n k) nm (qZ (zR I R n n) nm) := by
    intro m
    induction m with
    | zero =>
      intro k  hk 
      refine g_iload_n (n := 20) rfl rfl ?_
      refine g_aload_n (n := 21) rfl rfl ?_
      refine g_getv (n := 24) (ci := 6) (j := 1) (v := nI (n)) ((if_neg (by omega)).trans (if_pos ⟨rfl, rfl⟩)) rfl (by decide +kernel) rfl (by decide) (rw_hd hR) ?_
      refine g_icge (n := 27) 40 rfl (by decide) (fun h1 => ?_) (fun h1 => ?_)
      ·
        refine g_vret (n := 41) rfl ?_
        rw [show k = n by omega]; exact ⟨rfl, rfl, rfl⟩
      ·
        exact absurd (fN_nle rfl (by omega) (by omega) h1) (by omega)
    | succ m ih =>
      intro k  hk 
      refine g_iload_n (n := 20) rfl rfl ?_
      refine g_aload_n (n := 21) rfl rfl ?_
      refine g_getv (n := 24) (ci := 6) (j := 1) (v := nI (n)) ((if_neg (by omega)).trans (if_pos ⟨rfl, rfl⟩)) rfl (by decide +kernel) rfl (by decide) (rw_hd hR) ?_
      refine g_icge (n := 27) 40 rfl (by decide) (fun h1 => ?_) (fun h1 => ?_)
      ·
        exact absurd (fN_le rfl (by omega) (by omega) h1) (by omega)
      ·
        refine g_aload_n (n := 28) rfl rfl ?_
        refine g_getr (n := 31) (ci := 6) (j := 0) (b := (R + 1)) rfl (by decide +kernel) (rw_hd hR) (rw_lt hR (by decide)) (rw_rf hR) ?_
        refine g_iload_n (n := 32) rfl rfl ?_
        refine g_iconst (n := 33) (v := 0) rfl rfl ?_
        refine g_iast (n := 34) (k) rfl (rw_ih hR) rfl (by rw [rw_sz hR]; omega) ?_
        refine g_iinc2 (n := 37) rfl rfl (nI_inc _) ?_
        refine g_goto 19 rfl (by decide) ?_
        rw [zR_s]
        exact ih (k + 1) (by omega)
  refine g_aload_n (n := 1) rfl rfl ?_
  refine g_iconst (n := 2) (v := 0) rfl rfl ?_
  refine g_iload_n (n := 3) rfl rfl ?_
  refine g_aload_n (n := 4) rfl rfl ?_
  refine g_getr (n := 7) (ci := 6) (j := 0) (b := (R + 1)) rfl (by decide +kernel) (rw_hd hR) (rw_lt hR (by decide)) (rw_rf hR) ?_
  refine g_alen (n := 8) (v := nI c) rfl (rw_ih hR) (congrArg nI (rw_sz hR)) ?_
  refine g_min (n := 11) (pl := 735) rfl (by decide +kernel) rfl ?_
  refine g_top (w := nI n) (if_neg (fun q => absurd ((nI_ltI (by omega) (by omega)).mp q) (by omega))) ?_
  refine g_max (n := 14) (pl := 243) rfl (by decide +kernel) rfl ?_
  refine g_top (w := nI n) (by split; rfl; next q => exact (Int32.le_antisymm (Int32.not_lt.mp q) (nI_pos' (by omega))).symm) ?_
  refine g_puti (n := 17) (ci := 6) (j := 1) rfl (by decide +kernel) rfl (by decide) (rw_hd hR) (by decide +kernel) rfl ?_
  refine g_iconst (n := 18) (v := 0) rfl rfl ?_
  refine g_istore_n2 (n := 19) rfl rfl ?_
  rw [zR_0]
  exact H n 0 (by omega)
def pR (I : mg_I) (R Q j i n : Nat) : mg_I := fun a x => if a = R + 1 ∧ j ≤ x ∧ x < j + n then I (Q + 1) (i + (x - j)) else I a x
def cR (I : mg_I) (R Q n : Nat) : mg_I := fun a x => if a = R + 1 ∧ x < n then I (Q + 1) x else if a = R ∧ x = 1 then nI n else I a x
theorem c_rpaste {sc : List Value} {nm : Nat} {I : mg_I} {R c n Q c2 n2 j i k : Nat} (hR : isRow R c) (hn : I R 1 = nI n) (hc : n ≤ c) (hQ : isRow Q c2) (hn2 : I Q 1 = nI n2) (hc2 : n2 ≤ c2) (hj : j + k ≤ n) (hi : i + k ≤ n2) : SP sc 2 59 [.ref R, .int (nI j), .ref Q, .int (nI i), .int (nI k)] I nm (qZ (pR I R Q j i k) nm) := by
  refine SP.of (h := 1) (t := 59) (q := (yX6_paste, cX6_paste, 5, none, 6, 1020, mi_k59)) rfl (by decide) (show ¬ (5 : Nat) < 5 by decide) (fun d hd => ?_)
  show GG sc 6 false false mi_k59 d 0 [.ref R, .int (nI j), .ref Q, .int (nI i), .int (nI k)] [] I nm (qZ (pR I R Q j i k) nm)
  have h50 := rw_50 hR
  have h502 := rw_50 hQ
  refine g_aload_n (n := 1) rfl rfl ?_
  refine g_iload_n (n := 2) rfl rfl ?_
  refine g_iload (n := 4) rfl rfl ?_
  refine g_cv2 (n := 7) (t := 51) (ci := 6) rfl (by decide +kernel) (by decide +kernel) (rw_hd hR) (rw_136 hR) (by decide +kernel) (by rfl) (c_rrun hR hn (by omega)) (by omega) (g_E ?_)
  refine g_top (w := 1) (bI_t ⟨by rw [nI_toInt (by omega)]; omega, by rw [nI_toInt (by omega)]; omega, by rw [nI_toInt (by omega), nI_toInt (by omega)]; omega⟩) ?_
  refine g_ifeq1 (n := 10) 35 rfl (by decide) ?_
  refine g_aload_n (n := 11) rfl rfl ?_
  refine g_iload_n (n := 12) rfl rfl ?_
  refine g_iload (n := 14) rfl rfl ?_
  refine g_cv2 (n := 17) (t := 51) (ci := 6) rfl (by decide +kernel) (by decide +kernel) (rw_hd hQ) (rw_136 hQ) (by decide +kernel) (by rfl) (c_rrun hQ hn2 (by omega)) (by omega) (g_E ?_)
  refine g_top (w := 1) (bI_t ⟨by rw [nI_toInt (by omega)]; omega, by rw [nI_toInt (by omega)]; omega, by rw [nI_toInt (by omega), nI_toInt (by omega)]; omega⟩) ?_
  refine g_ifeq1 (n := 20) 35 rfl (by decide) ?_
  refine g_aload_n (n := 21) rfl rfl ?_
  refine g_getr (n := 24) (ci := 6) (j := 0) (b := (Q + 1)) rfl (by decide +kernel) (rw_hd hQ) (rw_lt hQ (by decide)) (rw_rf hQ) ?_
  refine g_iload_n (n := 25) rfl rfl ?_
  refine g_aload_n (n := 26) rfl rfl ?_
  refine g_getr (n := 29) (ci := 6) (j := 0) (b := (R + 1)) rfl (by decide +kernel) (rw_hd hR) (rw_lt hR (by decide)) (rw_rf hR) ?_
  refine g_iload_n (n := 30) rfl rfl ?_
  refine g_iload (n := 32) rfl rfl ?_
  refine g_acp (n := 35) (pl := 736) rfl (by decide +kernel) rfl (rw_ih hR) (rw_ih hQ) (by rw [rw_sz hQ]; omega) (by rw [rw_sz hR]; omega) ?_
  refine g_vret (n := 36) rfl ?_
  exact ⟨rfl, rfl, rfl⟩
theorem cR_eq {I : mg_I} {R Q n : Nat} (h : Q + 1 ≠ R) : (fun x j => if x = R + 1 ∧ 0 ≤ j ∧ j < 0 + n then mf_up I R 1 (nI n) (Q + 1) (0 + (j - 0)) else mf_up I R 1 (nI n) x j) = cR I R Q n := by
  funext a x
  unfold cR mf_up
  by_cases h1 : a = R + 1 ∧ x < n
  · rw [if_pos (by omega), if_pos h1, if_neg (fun q => h q.1), show 0 + (x - 0) = x by omega]
  · rw [if_neg (c := a = R + 1 ∧ 0 ≤ x ∧ x < 0 + n) (by omega), if_neg h1]
theorem c_rcopy {sc : List Value} {nm : Nat} {I : mg_I} {R c n Q c2 : Nat} (hR : isRow R c) (hc : n ≤ c) (hQ : isRow Q c2) (hn : I Q 1 = nI n) (hc2 : n ≤ c2) : SP sc 1 60 [.ref R, .ref Q] I nm (qZ (cR I R Q n) nm) := by
  refine SP.of (h := 0) (t := 60) (q := (yX6_copyFrom, cX6_copyFrom, 2, none, 6, 734, mi_k60)) rfl (by decide) (show ¬ (2 : Nat) < 2 by decide) (fun d hd => ?_)
  show GG sc 6 false false mi_k60 d 0 [.ref R, .ref Q] [] I nm (qZ (cR I R Q n) nm)
  have h50 := rw_50 hR
  have h502 := rw_50 hQ
  refine g_aload_n (n := 1) rfl rfl ?_
  refine g_aload_n (n := 2) rfl rfl ?_
  refine g_getv (n := 5) (ci := 6) (j := 1) (v := nI n) hn rfl (by decide +kernel) rfl (by decide) (rw_hd hQ) ?_
  refine g_aload_n (n := 6) rfl rfl ?_
  refine g_getr (n := 9) (ci := 6) (j := 0) (b := (R + 1)) rfl (by decide +kernel) (rw_hd hR) (rw_lt hR (by decide)) (rw_rf hR) ?_
  refine g_alen (n := 10) (v := nI c) rfl (rw_ih hR) (congrArg nI (rw_sz hR)) ?_
  refine g_min (n := 13) (pl := 735) rfl (by decide +kernel) rfl ?_
  refine g_top (w := nI n) (if_neg (fun q => absurd ((nI_ltI (by omega) (by omega)).mp q) (by omega))) ?_
  refine g_puti (n := 16) (ci := 6) (j := 1) rfl (by decide +kernel) rfl (by decide) (rw_hd hR) (by decide +kernel) rfl ?_
  refine g_aload_n (n := 17) rfl rfl ?_
  refine g_getr (n := 20) (ci := 6) (j := 0) (b := (Q + 1)) rfl (by decide +kernel) (rw_hd hQ) (rw_lt hQ (by decide)) (rw_rf hQ) ?_
  refine g_iconst (n := 21) (v := 0) rfl rfl ?_
  refine g_aload_n (n := 22) rfl rfl ?_
  refine g_getr (n := 25) (ci := 6) (j := 0) (b := (R + 1)) rfl (by decide +kernel) (rw_hd hR) (rw_lt hR (by decide)) (rw_rf hR) ?_
  refine g_iconst (n := 26) (v := 0) rfl rfl ?_
  refine g_aload_n (n := 27) rfl rfl ?_
  refine g_getv (n := 30) (ci := 6) (j := 1) (v := nI (n)) (if_pos ⟨rfl, rfl⟩) rfl (by decide +kernel) rfl (by decide) (rw_hd hR) ?_
  refine g_acp (a := R + 1) (a0 := Q + 1) (nn := n) (dp := 0) (sp := 0) (n := 33) (pl := 736) rfl (by decide +kernel) rfl (rw_ih hR) (rw_ih hQ) (by rw [rw_sz hQ]; omega) (by rw [rw_sz hR]; omega) ?_
  rw [cR_eq (fun q => absurd ((rw_ih hQ).2.symm.trans (q ▸ (rw_hd hR).2)) (by decide))]
  refine g_vret (n := 34) rfl ?_
  exact ⟨rfl, rfl, rfl⟩
