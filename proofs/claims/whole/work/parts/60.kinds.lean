/-! the class: kinds -/
section U
variable {sc : List Value} {own : Nat} {ini rz : Bool} {code : List (Nat × Instr)} {d pc n : Nat} {ls : List Value} {I : mg_I} {nm : Nat} {Q : Option Value → mg_I → Nat → Prop}
theorem g_gets {r : List Value} {fk x : Nat} (h : mg_f code pc = some (.getstatic fk, n)) (hg : mi_gs.lookup (own, fk) = some x) (k : GG sc own ini rz code d n ls (.ref 4 :: r) I nm Q) : GG sc own ini rz code d pc ls r I nm Q := by
  obtain rfl := g_next h
  refine g_step h rfl (fun _ => ?_) k
  simp only [mi_one, mi_A, mi_B, mi_L, mi_Y, mi_gets, hg, Option.map_some]
theorem g_iald4 {r : List Value} {i v : Int32} (h : mg_f code pc = some (.iaload, n)) (hi : mi_ix i 7 = true) (hv : ([.int (-1), .int 0, .int 0, .int 0, .int 1, .int 2, .int 3] : List Value)[i.toNatClampNeg]? = some (.int v)) (k : GG sc own ini rz code d n ls (.int v :: r) I nm Q) : GG sc own ini rz code d pc ls (.int i :: .ref 4 :: r) I nm Q := by
  obtain rfl := g_next h
  refine g_step h rfl (fun _ => ?_) k
  have e : mi_ial (.int i :: .ref 4 :: r) (mf_M I nm sc) = some (.int v :: r, mf_M I nm sc) := by
    have e4 : (mf_M I nm sc)[4]? = some (32, [.int (-1), .int 0, .int 0, .int 0, .int 1, .int 2, .int 3]) := (mf_get4 (by omega)).trans rfl
    simp [mi_ial, e4, hi, hv]
  simp only [mi_one, mi_A, mi_B, mi_L, mi_Y, e]
end U
theorem c_und_0 {sc : List Value} {nm : Nat} {I : mg_I} {k : Int32} : SP sc 1 137 [.int 0, .int k] I nm (qE (bI (k = 0)) I nm) := by
  refine SP.of (h := 0) (t := 137) (q := (yX11_isUnder, cX11_isUnder, 4, (some .boolean), 11, 578, mi_k137)) rfl (by decide) (show ¬ (4 : Nat) < 2 by decide) (fun dd hd => ?_)
  show GG sc 11 false true mi_k137 dd 0 [.int 0, .int k, .null, .null] [] I nm (qE (bI (k = 0)) I nm)
  refine g_iload_n (n := 1) rfl rfl ?_
  refine g_istore_n2 (n := 2) rfl rfl ?_
  refine g_iconst (n := 3) (v := 0) rfl rfl ?_
  refine g_istore_n3 (n := 4) rfl rfl ?_
  refine g_iload_n (n := 5) rfl rfl ?_
  refine g_bipush (n := 7) (v := 7) rfl rfl ?_
  refine g_icge (n := 10) 39 rfl (by decide) (fun h => absurd h (by decide)) (fun _ => ?_)
  refine g_iload_n (n := 11) rfl rfl ?_
  refine g_iflt (n := 14) 39 rfl (by decide) (fun h => absurd h (by decide)) (fun _ => ?_)
  refine g_iload_n (n := 15) rfl rfl ?_
  refine g_bipush (n := 17) (v := 7) rfl rfl ?_
  refine g_icge (n := 20) 39 rfl (by decide) (fun h => absurd h (by decide)) (fun _ => ?_)
  refine g_iload_n (n := 21) rfl rfl ?_
  refine g_iload_n (n := 22) rfl rfl ?_
  refine g_icne (n := 25) 27 rfl (by decide) (fun h1 => ?_) (fun h1 => ?_)
  ·
    refine g_gets (n := 30) (x := 579) rfl (by decide +kernel) ?_
    refine g_iload_n (n := 31) rfl rfl ?_
    refine g_iald4 (n := 32) (v := -1) rfl (by decide) (by decide) ?_
    refine g_istore_n2 (n := 33) rfl rfl ?_
    refine g_iinc3 (n := 36) rfl rfl (show (0 : Int32) + Int32.ofInt 1 = 1 by decide) ?_
    refine g_goto 4 rfl (by decide) ?_
    refine g_iload_n (n := 5) rfl rfl ?_
    refine g_bipush (n := 7) (v := 7) rfl rfl ?_
    refine g_icge (n := 10) 39 rfl (by decide) (fun h => absurd h (by decide)) (fun _ => ?_)
    refine g_iload_n (n := 11) rfl rfl ?_
    refine g_iflt (n := 14) 39 rfl (by decide) (fun _ => ?_) (fun h => absurd (by decide) h)
    refine g_iconst (n := 40) (v := 0) rfl rfl ?_
    refine g_iret (n := 41) rfl (fun _ => by first | exact Or.inl rfl | exact Or.inr rfl | exact bI_01 | exact bP_01) ?_
    rw [bI_f (show ¬ (k = 0) from by rintro q; exact h1 q.symm)]; exact ⟨rfl, rfl, rfl⟩
  ·
    refine g_iconst (n := 26) (v := 1) rfl rfl ?_
    refine g_iret (n := 27) rfl (fun _ => by first | exact Or.inl rfl | exact Or.inr rfl | exact bI_01 | exact bP_01) ?_
    rw [bI_t (show k = 0 from h1.symm)]; exact ⟨rfl, rfl, rfl⟩
theorem c_und_1 {sc : List Value} {nm : Nat} {I : mg_I} {k : Int32} : SP sc 1 137 [.int 1, .int k] I nm (qE (bI (k = 1 ∨ k = 0)) I nm) := by
  refine SP.of (h := 0) (t := 137) (q := (yX11_isUnder, cX11_isUnder, 4, (some .boolean), 11, 578, mi_k137)) rfl (by decide) (show ¬ (4 : Nat) < 2 by decide) (fun dd hd => ?_)
  show GG sc 11 false true mi_k137 dd 0 [.int 1, .int k, .null, .null] [] I nm (qE (bI (k = 1 ∨ k = 0)) I nm)
  refine g_iload_n (n := 1) rfl rfl ?_
  refine g_istore_n2 (n := 2) rfl rfl ?_
  refine g_iconst (n := 3) (v := 0) rfl rfl ?_
  refine g_istore_n3 (n := 4) rfl rfl ?_
  refine g_iload_n (n := 5) rfl rfl ?_
  refine g_bipush (n := 7) (v := 7) rfl rfl ?_
  refine g_icge (n := 10) 39 rfl (by decide) (fun h => absurd h (by decide)) (fun _ => ?_)
  refine g_iload_n (n := 11) rfl rfl ?_
  refine g_iflt (n := 14) 39 rfl (by decide) (fun h => absurd h (by decide)) (fun _ => ?_)
  refine g_iload_n (n := 15) rfl rfl ?_
  refine g_bipush (n := 17) (v := 7) rfl rfl ?_
  refine g_icge (n := 20) 39 rfl (by decide) (fun h => absurd h (by decide)) (fun _ => ?_)
  refine g_iload_n (n := 21) rfl rfl ?_
  refine g_iload_n (n := 22) rfl rfl ?_
  refine g_icne (n := 25) 27 rfl (by decide) (fun h1 => ?_) (fun h1 => ?_)
  ·
    refine g_gets (n := 30) (x := 579) rfl (by decide +kernel) ?_
    refine g_iload_n (n := 31) rfl rfl ?_
    refine g_iald4 (n := 32) (v := 0) rfl (by decide) (by decide) ?_
    refine g_istore_n2 (n := 33) rfl rfl ?_
    refine g_iinc3 (n := 36) rfl rfl (show (0 : Int32) + Int32.ofInt 1 = 1 by decide) ?_
    refine g_goto 4 rfl (by decide) ?_
    refine g_iload_n (n := 5) rfl rfl ?_
    refine g_bipush (n := 7) (v := 7) rfl rfl ?_
    refine g_icge (n := 10) 39 rfl (by decide) (fun h => absurd h (by decide)) (fun _ => ?_)
    refine g_iload_n (n := 11) rfl rfl ?_
    refine g_iflt (n := 14) 39 rfl (by decide) (fun h => absurd h (by decide)) (fun _ => ?_)
    refine g_iload_n (n := 15) rfl rfl ?_
    refine g_bipush (n := 17) (v := 7) rfl rfl ?_
    refine g_icge (n := 20) 39 rfl (by decide) (fun h => absurd h (by decide)) (fun _ => ?_)
    refine g_iload_n (n := 21) rfl rfl ?_
    refine g_iload_n (n := 22) rfl rfl ?_
    refine g_icne (n := 25) 27 rfl (by decide) (fun h2 => ?_) (fun h2 => ?_)
    ·
      refine g_gets (n := 30) (x := 579) rfl (by decide +kernel) ?_
      refine g_iload_n (n := 31) rfl rfl ?_
      refine g_iald4 (n := 32) (v := -1) rfl (by decide) (by decide) ?_
      refine g_istore_n2 (n := 33) rfl rfl ?_
      refine g_iinc3 (n := 36) rfl rfl (show (1 : Int32) + Int32.ofInt 1 = 2 by decide) ?_
      refine g_goto 4 rfl (by decide) ?_
      refine g_iload_n (n := 5) rfl rfl ?_
      refine g_bipush (n := 7) (v := 7) rfl rfl ?_
      refine g_icge (n := 10) 39 rfl (by decide) (fun h => absurd h (by decide)) (fun _ => ?_)
      refine g_iload_n (n := 11) rfl rfl ?_
      refine g_iflt (n := 14) 39 rfl (by decide) (fun _ => ?_) (fun h => absurd (by decide) h)
      refine g_iconst (n := 40) (v := 0) rfl rfl ?_
      refine g_iret (n := 41) rfl (fun _ => by first | exact Or.inl rfl | exact Or.inr rfl | exact bI_01 | exact bP_01) ?_
      have hno : ¬ (k = 1 ∨ k = 0) := by
        rintro (q | q)
        · exact h1 q.symm
        · exact h2 q.symm
      rw [bI_f hno]; exact ⟨rfl, rfl, rfl⟩
    ·
      refine g_iconst (n := 26) (v := 1) rfl rfl ?_
      refine g_iret (n := 27) rfl (fun _ => by first | exact Or.inl rfl | exact Or.inr rfl | exact bI_01 | exact bP_01) ?_
      rw [bI_t (show k = 1 ∨ k = 0 from Or.inr (h2.symm))]; exact ⟨rfl, rfl, rfl⟩
  ·
    refine g_iconst (n := 26) (v := 1) rfl rfl ?_
    refine g_iret (n := 27) rfl (fun _ => by first | exact Or.inl rfl | exact Or.inr rfl | exact bI_01 | exact bP_01) ?_
    rw [bI_t (show k = 1 ∨ k = 0 from Or.inl (h1.symm))]; exact ⟨rfl, rfl, rfl⟩
theorem c_und_2 {sc : List Value} {nm : Nat} {I : mg_I} {k : Int32} : SP sc 1 137 [.int 2, .int k] I nm (qE (bI (k = 2 ∨ k = 0)) I nm) := by
  refine SP.of (h := 0) (t := 137) (q := (yX11_isUnder, cX11_isUnder, 4, (some .boolean), 11, 578, mi_k137)) rfl (by decide) (show ¬ (4 : Nat) < 2 by decide) (fun dd hd => ?_)
  show GG sc 11 false true mi_k137 dd 0 [.int 2, .int k, .null, .null] [] I nm (qE (bI (k = 2 ∨ k = 0)) I nm)
  refine g_iload_n (n := 1) rfl rfl ?_
  refine g_istore_n2 (n := 2) rfl rfl ?_
  refine g_iconst (n := 3) (v := 0) rfl rfl ?_
  refine g_istore_n3 (n := 4) rfl rfl ?_
  refine g_iload_n (n := 5) rfl rfl ?_
  refine g_bipush (n := 7) (v := 7) rfl rfl ?_
  refine g_icge (n := 10) 39 rfl (by decide) (fun h => absurd h (by decide)) (fun _ => ?_)
  refine g_iload_n (n := 11) rfl rfl ?_
  refine g_iflt (n := 14) 39 rfl (by decide) (fun h => absurd h (by decide)) (fun _ => ?_)
  refine g_iload_n (n := 15) rfl rfl ?_
  refine g_bipush (n := 17) (v := 7) rfl rfl ?_
  refine g_icge (n := 20) 39 rfl (by decide) (fun h => absurd h (by decide)) (fun _ => ?_)
  refine g_iload_n (n := 21) rfl rfl ?_
  refine g_iload_n (n := 22) rfl rfl ?_
  refine g_icne (n := 25) 27 rfl (by decide) (fun h1 => ?_) (fun h1 => ?_)
  ·
    refine g_gets (n := 30) (x := 579) rfl (by decide +kernel) ?_
    refine g_iload_n (n := 31) rfl rfl ?_
    refine g_iald4 (n := 32) (v := 0) rfl (by decide) (by decide) ?_
    refine g_istore_n2 (n := 33) rfl rfl ?_
    refine g_iinc3 (n := 36) rfl rfl (show (0 : Int32) + Int32.ofInt 1 = 1 by decide) ?_
    refine g_goto 4 rfl (by decide) ?_
    refine g_iload_n (n := 5) rfl rfl ?_
    refine g_bipush (n := 7) (v := 7) rfl rfl ?_
    refine g_icge (n := 10) 39 rfl (by decide) (fun h => absurd h (by decide)) (fun _ => ?_)
    refine g_iload_n (n := 11) rfl rfl ?_
    refine g_iflt (n := 14) 39 rfl (by decide) (fun h => absurd h (by decide)) (fun _ => ?_)
    refine g_iload_n (n := 15) rfl rfl ?_
    refine g_bipush (n := 17) (v := 7) rfl rfl ?_
    refine g_icge (n := 20) 39 rfl (by decide) (fun h => absurd h (by decide)) (fun _ => ?_)
    refine g_iload_n (n := 21) rfl rfl ?_
    refine g_iload_n (n := 22) rfl rfl ?_
    refine g_icne (n := 25) 27 rfl (by decide) (fun h2 => ?_) (fun h2 => ?_)
    ·
      refine g_gets (n := 30) (x := 579) rfl (by decide +kernel) ?_
      refine g_iload_n (n := 31) rfl rfl ?_
      refine g_iald4 (n := 32) (v := -1) rfl (by decide) (by decide) ?_
      refine g_istore_n2 (n := 33) rfl rfl ?_
      refine g_iinc3 (n := 36) rfl rfl (show (1 : Int32) + Int32.ofInt 1 = 2 by decide) ?_
      refine g_goto 4 rfl (by decide) ?_
      refine g_iload_n (n := 5) rfl rfl ?_
      refine g_bipush (n := 7) (v := 7) rfl rfl ?_
      refine g_icge (n := 10) 39 rfl (by decide) (fun h => absurd h (by decide)) (fun _ => ?_)
      refine g_iload_n (n := 11) rfl rfl ?_
      refine g_iflt (n := 14) 39 rfl (by decide) (fun _ => ?_) (fun h => absurd (by decide) h)
      refine g_iconst (n := 40) (v := 0) rfl rfl ?_
      refine g_iret (n := 41) rfl (fun _ => by first | exact Or.inl rfl | exact Or.inr rfl | exact bI_01 | exact bP_01) ?_
      have hno : ¬ (k = 2 ∨ k = 0) := by
        rintro (q | q)
        · exact h1 q.symm
        · exact h2 q.symm
      rw [bI_f hno]; exact ⟨rfl, rfl, rfl⟩
    ·
      refine g_iconst (n := 26) (v := 1) rfl rfl ?_
      refine g_iret (n := 27) rfl (fun _ => by first | exact Or.inl rfl | exact Or.inr rfl | exact bI_01 | exact bP_01) ?_
      rw [bI_t (show k = 2 ∨ k = 0 from Or.inr (h2.symm))]; exact ⟨rfl, rfl, rfl⟩
  ·
    refine g_iconst (n := 26) (v := 1) rfl rfl ?_
    refine g_iret (n := 27) rfl (fun _ => by first | exact Or.inl rfl | exact Or.inr rfl | exact bI_01 | exact bP_01) ?_
    rw [bI_t (show k = 2 ∨ k = 0 from Or.inl (h1.symm))]; exact ⟨rfl, rfl, rfl⟩
theorem c_und_3 {sc : List Value} {nm : Nat} {I : mg_I} {k : Int32} : SP sc 1 137 [.int 3, .int k] I nm (qE (bI (k = 3 ∨ k = 0)) I nm) := by
  refine SP.of (h := 0) (t := 137) (q := (yX11_isUnder, cX11_isUnder, 4, (some .boolean), 11, 578, mi_k137)) rfl (by decide) (show ¬ (4 : Nat) < 2 by decide) (fun dd hd => ?_)
  show GG sc 11 false true mi_k137 dd 0 [.int 3, .int k, .null, .null] [] I nm (qE (bI (k = 3 ∨ k = 0)) I nm)
  refine g_iload_n (n := 1) rfl rfl ?_
  refine g_istore_n2 (n := 2) rfl rfl ?_
  refine g_iconst (n := 3) (v := 0) rfl rfl ?_
  refine g_istore_n3 (n := 4) rfl rfl ?_
  refine g_iload_n (n := 5) rfl rfl ?_
  refine g_bipush (n := 7) (v := 7) rfl rfl ?_
  refine g_icge (n := 10) 39 rfl (by decide) (fun h => absurd h (by decide)) (fun _ => ?_)
  refine g_iload_n (n := 11) rfl rfl ?_
  refine g_iflt (n := 14) 39 rfl (by decide) (fun h => absurd h (by decide)) (fun _ => ?_)
  refine g_iload_n (n := 15) rfl rfl ?_
  refine g_bipush (n := 17) (v := 7) rfl rfl ?_
  refine g_icge (n := 20) 39 rfl (by decide) (fun h => absurd h (by decide)) (fun _ => ?_)
  refine g_iload_n (n := 21) rfl rfl ?_
  refine g_iload_n (n := 22) rfl rfl ?_
  refine g_icne (n := 25) 27 rfl (by decide) (fun h1 => ?_) (fun h1 => ?_)
  ·
    refine g_gets (n := 30) (x := 579) rfl (by decide +kernel) ?_
    refine g_iload_n (n := 31) rfl rfl ?_
    refine g_iald4 (n := 32) (v := 0) rfl (by decide) (by decide) ?_
    refine g_istore_n2 (n := 33) rfl rfl ?_
    refine g_iinc3 (n := 36) rfl rfl (show (0 : Int32) + Int32.ofInt 1 = 1 by decide) ?_
    refine g_goto 4 rfl (by decide) ?_
    refine g_iload_n (n := 5) rfl rfl ?_
    refine g_bipush (n := 7) (v := 7) rfl rfl ?_
    refine g_icge (n := 10) 39 rfl (by decide) (fun h => absurd h (by decide)) (fun _ => ?_)
    refine g_iload_n (n := 11) rfl rfl ?_
    refine g_iflt (n := 14) 39 rfl (by decide) (fun h => absurd h (by decide)) (fun _ => ?_)
    refine g_iload_n (n := 15) rfl rfl ?_
    refine g_bipush (n := 17) (v := 7) rfl rfl ?_
    refine g_icge (n := 20) 39 rfl (by decide) (fun h => absurd h (by decide)) (fun _ => ?_)
    refine g_iload_n (n := 21) rfl rfl ?_
    refine g_iload_n (n := 22) rfl rfl ?_
    refine g_icne (n := 25) 27 rfl (by decide) (fun h2 => ?_) (fun h2 => ?_)
    ·
      refine g_gets (n := 30) (x := 579) rfl (by decide +kernel) ?_
      refine g_iload_n (n := 31) rfl rfl ?_
      refine g_iald4 (n := 32) (v := -1) rfl (by decide) (by decide) ?_
      refine g_istore_n2 (n := 33) rfl rfl ?_
      refine g_iinc3 (n := 36) rfl rfl (show (1 : Int32) + Int32.ofInt 1 = 2 by decide) ?_
      refine g_goto 4 rfl (by decide) ?_
      refine g_iload_n (n := 5) rfl rfl ?_
      refine g_bipush (n := 7) (v := 7) rfl rfl ?_
      refine g_icge (n := 10) 39 rfl (by decide) (fun h => absurd h (by decide)) (fun _ => ?_)
      refine g_iload_n (n := 11) rfl rfl ?_
      refine g_iflt (n := 14) 39 rfl (by decide) (fun _ => ?_) (fun h => absurd (by decide) h)
      refine g_iconst (n := 40) (v := 0) rfl rfl ?_
      refine g_iret (n := 41) rfl (fun _ => by first | exact Or.inl rfl | exact Or.inr rfl | exact bI_01 | exact bP_01) ?_
      have hno : ¬ (k = 3 ∨ k = 0) := by
        rintro (q | q)
        · exact h1 q.symm
        · exact h2 q.symm
      rw [bI_f hno]; exact ⟨rfl, rfl, rfl⟩
    ·
      refine g_iconst (n := 26) (v := 1) rfl rfl ?_
      refine g_iret (n := 27) rfl (fun _ => by first | exact Or.inl rfl | exact Or.inr rfl | exact bI_01 | exact bP_01) ?_
      rw [bI_t (show k = 3 ∨ k = 0 from Or.inr (h2.symm))]; exact ⟨rfl, rfl, rfl⟩
  ·
    refine g_iconst (n := 26) (v := 1) rfl rfl ?_
    refine g_iret (n := 27) rfl (fun _ => by first | exact Or.inl rfl | exact Or.inr rfl | exact bI_01 | exact bP_01) ?_
    rw [bI_t (show k = 3 ∨ k = 0 from Or.inl (h1.symm))]; exact ⟨rfl, rfl, rfl⟩
theorem c_und_4 {sc : List Value} {nm : Nat} {I : mg_I} {k : Int32} : SP sc 1 137 [.int 4, .int k] I nm (qE (bI (k = 4 ∨ k = 1 ∨ k = 0)) I nm) := by
  refine SP.of (h := 0) (t := 137) (q := (yX11_isUnder, cX11_isUnder, 4, (some .boolean), 11, 578, mi_k137)) rfl (by decide) (show ¬ (4 : Nat) < 2 by decide) (fun dd hd => ?_)
  show GG sc 11 false true mi_k137 dd 0 [.int 4, .int k, .null, .null] [] I nm (qE (bI (k = 4 ∨ k = 1 ∨ k = 0)) I nm)
  refine g_iload_n (n := 1) rfl rfl ?_
  refine g_istore_n2 (n := 2) rfl rfl ?_
  refine g_iconst (n := 3) (v := 0) rfl rfl ?_
  refine g_istore_n3 (n := 4) rfl rfl ?_
  refine g_iload_n (n := 5) rfl rfl ?_
  refine g_bipush (n := 7) (v := 7) rfl rfl ?_
  refine g_icge (n := 10) 39 rfl (by decide) (fun h => absurd h (by decide)) (fun _ => ?_)
  refine g_iload_n (n := 11) rfl rfl ?_
  refine g_iflt (n := 14) 39 rfl (by decide) (fun h => absurd h (by decide)) (fun _ => ?_)
  refine g_iload_n (n := 15) rfl rfl ?_
  refine g_bipush (n := 17) (v := 7) rfl rfl ?_
  refine g_icge (n := 20) 39 rfl (by decide) (fun h => absurd h (by decide)) (fun _ => ?_)
  refine g_iload_n (n := 21) rfl rfl ?_
  refine g_iload_n (n := 22) rfl rfl ?_
  refine g_icne (n := 25) 27 rfl (by decide) (fun h1 => ?_) (fun h1 => ?_)
  ·
    refine g_gets (n := 30) (x := 579) rfl (by decide +kernel) ?_
    refine g_iload_n (n := 31) rfl rfl ?_
    refine g_iald4 (n := 32) (v := 1) rfl (by decide) (by decide) ?_
    refine g_istore_n2 (n := 33) rfl rfl ?_
    refine g_iinc3 (n := 36) rfl rfl (show (0 : Int32) + Int32.ofInt 1 = 1 by decide) ?_
    refine g_goto 4 rfl (by decide) ?_
    refine g_iload_n (n := 5) rfl rfl ?_
    refine g_bipush (n := 7) (v := 7) rfl rfl ?_
    refine g_icge (n := 10) 39 rfl (by decide) (fun h => absurd h (by decide)) (fun _ => ?_)
    refine g_iload_n (n := 11) rfl rfl ?_
    refine g_iflt (n := 14) 39 rfl (by decide) (fun h => absurd h (by decide)) (fun _ => ?_)
    refine g_iload_n (n := 15) rfl rfl ?_
    refine g_bipush (n := 17) (v := 7) rfl rfl ?_
    refine g_icge (n := 20) 39 rfl (by decide) (fun h => absurd h (by decide)) (fun _ => ?_)
    refine g_iload_n (n := 21) rfl rfl ?_
    refine g_iload_n (n := 22) rfl rfl ?_
    refine g_icne (n := 25) 27 rfl (by decide) (fun h2 => ?_) (fun h2 => ?_)
    ·
      refine g_gets (n := 30) (x := 579) rfl (by decide +kernel) ?_
      refine g_iload_n (n := 31) rfl rfl ?_
      refine g_iald4 (n := 32) (v := 0) rfl (by decide) (by decide) ?_
      refine g_istore_n2 (n := 33) rfl rfl ?_
      refine g_iinc3 (n := 36) rfl rfl (show (1 : Int32) + Int32.ofInt 1 = 2 by decide) ?_
      refine g_goto 4 rfl (by decide) ?_
      refine g_iload_n (n := 5) rfl rfl ?_
      refine g_bipush (n := 7) (v := 7) rfl rfl ?_
      refine g_icge (n := 10) 39 rfl (by decide) (fun h => absurd h (by decide)) (fun _ => ?_)
      refine g_iload_n (n := 11) rfl rfl ?_
      refine g_iflt (n := 14) 39 rfl (by decide) (fun h => absurd h (by decide)) (fun _ => ?_)
      refine g_iload_n (n := 15) rfl rfl ?_
      refine g_bipush (n := 17) (v := 7) rfl rfl ?_
      refine g_icge (n := 20) 39 rfl (by decide) (fun h => absurd h (by decide)) (fun _ => ?_)
      refine g_iload_n (n := 21) rfl rfl ?_
      refine g_iload_n (n := 22) rfl rfl ?_
      refine g_icne (n := 25) 27 rfl (by decide) (fun h3 => ?_) (fun h3 => ?_)
      ·
        refine g_gets (n := 30) (x := 579) rfl (by decide +kernel) ?_
        refine g_iload_n (n := 31) rfl rfl ?_
        refine g_iald4 (n := 32) (v := -1) rfl (by decide) (by decide) ?_
        refine g_istore_n2 (n := 33) rfl rfl ?_
        refine g_iinc3 (n := 36) rfl rfl (show (2 : Int32) + Int32.ofInt 1 = 3 by decide) ?_
        refine g_goto 4 rfl (by decide) ?_
        refine g_iload_n (n := 5) rfl rfl ?_
        refine g_bipush (n := 7) (v := 7) rfl rfl ?_
        refine g_icge (n := 10) 39 rfl (by decide) (fun h => absurd h (by decide)) (fun _ => ?_)
        refine g_iload_n (n := 11) rfl rfl ?_
        refine g_iflt (n := 14) 39 rfl (by decide) (fun _ => ?_) (fun h => absurd (by decide) h)
        refine g_iconst (n := 40) (v := 0) rfl rfl ?_
        refine g_iret (n := 41) rfl (fun _ => by first | exact Or.inl rfl | exact Or.inr rfl | exact bI_01 | exact bP_01) ?_
        have hno : ¬ (k = 4 ∨ k = 1 ∨ k = 0) := by
          rintro (q | q | q)
          · exact h1 q.symm
          · exact h2 q.symm
          · exact h3 q.symm
        rw [bI_f hno]; exact ⟨rfl, rfl, rfl⟩
      ·
        refine g_iconst (n := 26) (v := 1) rfl rfl ?_
        refine g_iret (n := 27) rfl (fun _ => by first | exact Or.inl rfl | exact Or.inr rfl | exact bI_01 | exact bP_01) ?_
        rw [bI_t (show k = 4 ∨ k = 1 ∨ k = 0 from Or.inr (Or.inr (h3.symm)))]; exact ⟨rfl, rfl, rfl⟩
    ·
      refine g_iconst (n := 26) (v := 1) rfl rfl ?_
      refine g_iret (n := 27) rfl (fun _ => by first | exact Or.inl rfl | exact Or.inr rfl | exact bI_01 | exact bP_01) ?_
      rw [bI_t (show k = 4 ∨ k = 1 ∨ k = 0 from Or.inr (Or.inl (h2.symm)))]; exact ⟨rfl, rfl, rfl⟩
  ·
    refine g_iconst (n := 26) (v := 1) rfl rfl ?_
    refine g_iret (n := 27) rfl (fun _ => by first | exact Or.inl rfl | exact Or.inr rfl | exact bI_01 | exact bP_01) ?_
    rw [bI_t (show k = 4 ∨ k = 1 ∨ k = 0 from Or.inl (h1.symm))]; exact ⟨rfl, rfl, rfl⟩
theorem c_und_5 {sc : List Value} {nm : Nat} {I : mg_I} {k : Int32} : SP sc 1 137 [.int 5, .int k] I nm (qE (bI (k = 5 ∨ k = 2 ∨ k = 0)) I nm) := by
  refine SP.of (h := 0) (t := 137) (q := (yX11_isUnder, cX11_isUnder, 4, (some .boolean), 11, 578, mi_k137)) rfl (by decide) (show ¬ (4 : Nat) < 2 by decide) (fun dd hd => ?_)
  show GG sc 11 false true mi_k137 dd 0 [.int 5, .int k, .null, .null] [] I nm (qE (bI (k = 5 ∨ k = 2 ∨ k = 0)) I nm)
  refine g_iload_n (n := 1) rfl rfl ?_
  refine g_istore_n2 (n := 2) rfl rfl ?_
  refine g_iconst (n := 3) (v := 0) rfl rfl ?_
  refine g_istore_n3 (n := 4) rfl rfl ?_
  refine g_iload_n (n := 5) rfl rfl ?_
  refine g_bipush (n := 7) (v := 7) rfl rfl ?_
  refine g_icge (n := 10) 39 rfl (by decide) (fun h => absurd h (by decide)) (fun _ => ?_)
  refine g_iload_n (n := 11) rfl rfl ?_
  refine g_iflt (n := 14) 39 rfl (by decide) (fun h => absurd h (by decide)) (fun _ => ?_)
  refine g_iload_n (n := 15) rfl rfl ?_
  refine g_bipush (n := 17) (v := 7) rfl rfl ?_
  refine g_icge (n := 20) 39 rfl (by decide) (fun h => absurd h (by decide)) (fun _ => ?_)
  refine g_iload_n (n := 21) rfl rfl ?_
  refine g_iload_n (n := 22) rfl rfl ?_
  refine g_icne (n := 25) 27 rfl (by decide) (fun h1 => ?_) (fun h1 => ?_)
  ·
    refine g_gets (n := 30) (x := 579) rfl (by decide +kernel) ?_
    refine g_iload_n (n := 31) rfl rfl ?_
    refine g_iald4 (n := 32) (v := 2) rfl (by decide) (by decide) ?_
    refine g_istore_n2 (n := 33) rfl rfl ?_
    refine g_iinc3 (n := 36) rfl rfl (show (0 : Int32) + Int32.ofInt 1 = 1 by decide) ?_
    refine g_goto 4 rfl (by decide) ?_
    refine g_iload_n (n := 5) rfl rfl ?_
    refine g_bipush (n := 7) (v := 7) rfl rfl ?_
    refine g_icge (n := 10) 39 rfl (by decide) (fun h => absurd h (by decide)) (fun _ => ?_)
    refine g_iload_n (n := 11) rfl rfl ?_
    refine g_iflt (n := 14) 39 rfl (by decide) (fun h => absurd h (by decide)) (fun _ => ?_)
    refine g_iload_n (n := 15) rfl rfl ?_
    refine g_bipush (n := 17) (v := 7) rfl rfl ?_
    refine g_icge (n := 20) 39 rfl (by decide) (fun h => absurd h (by decide)) (fun _ => ?_)
    refine g_iload_n (n := 21) rfl rfl ?_
    refine g_iload_n (n := 22) rfl rfl ?_
    refine g_icne (n := 25) 27 rfl (by decide) (fun h2 => ?_) (fun h2 => ?_)
    ·
      refine g_gets (n := 30) (x := 579) rfl (by decide +kernel) ?_
      refine g_iload_n (n := 31) rfl rfl ?_
      refine g_iald4 (n := 32) (v := 0) rfl (by decide) (by decide) ?_
      refine g_istore_n2 (n := 33) rfl rfl ?_
      refine g_iinc3 (n := 36) rfl rfl (show (1 : Int32) + Int32.ofInt 1 = 2 by decide) ?_
      refine g_goto 4 rfl (by decide) ?_
      refine g_iload_n (n := 5) rfl rfl ?_
      refine g_bipush (n := 7) (v := 7) rfl rfl ?_
      refine g_icge (n := 10) 39 rfl (by decide) (fun h => absurd h (by decide)) (fun _ => ?_)
      refine g_iload_n (n := 11) rfl rfl ?_
      refine g_iflt (n := 14) 39 rfl (by decide) (fun h => absurd h (by decide)) (fun _ => ?_)
      refine g_iload_n (n := 15) rfl rfl ?_
      refine g_bipush (n := 17) (v := 7) rfl rfl ?_
      refine g_icge (n := 20) 39 rfl (by decide) (fun h => absurd h (by decide)) (fun _ => ?_)
      refine g_iload_n (n := 21) rfl rfl ?_
      refine g_iload_n (n := 22) rfl rfl ?_
      refine g_icne (n := 25) 27 rfl (by decide) (fun h3 => ?_) (fun h3 => ?_)
      ·
        refine g_gets (n := 30) (x := 579) rfl (by decide +kernel) ?_
        refine g_iload_n (n := 31) rfl rfl ?_
        refine g_iald4 (n := 32) (v := -1) rfl (by decide) (by decide) ?_
        refine g_istore_n2 (n := 33) rfl rfl ?_
        refine g_iinc3 (n := 36) rfl rfl (show (2 : Int32) + Int32.ofInt 1 = 3 by decide) ?_
        refine g_goto 4 rfl (by decide) ?_
        refine g_iload_n (n := 5) rfl rfl ?_
        refine g_bipush (n := 7) (v := 7) rfl rfl ?_
        refine g_icge (n := 10) 39 rfl (by decide) (fun h => absurd h (by decide)) (fun _ => ?_)
        refine g_iload_n (n := 11) rfl rfl ?_
        refine g_iflt (n := 14) 39 rfl (by decide) (fun _ => ?_) (fun h => absurd (by decide) h)
        refine g_iconst (n := 40) (v := 0) rfl rfl ?_
        refine g_iret (n := 41) rfl (fun _ => by first | exact Or.inl rfl | exact Or.inr rfl | exact bI_01 | exact bP_01) ?_
        have hno : ¬ (k = 5 ∨ k = 2 ∨ k = 0) := by
          rintro (q | q | q)
          · exact h1 q.symm
          · exact h2 q.symm
          · exact h3 q.symm
        rw [bI_f hno]; exact ⟨rfl, rfl, rfl⟩
      ·
        refine g_iconst (n := 26) (v := 1) rfl rfl ?_
        refine g_iret (n := 27) rfl (fun _ => by first | exact Or.inl rfl | exact Or.inr rfl | exact bI_01 | exact bP_01) ?_
        rw [bI_t (show k = 5 ∨ k = 2 ∨ k = 0 from Or.inr (Or.inr (h3.symm)))]; exact ⟨rfl, rfl, rfl⟩
    ·
      refine g_iconst (n := 26) (v := 1) rfl rfl ?_
      refine g_iret (n := 27) rfl (fun _ => by first | exact Or.inl rfl | exact Or.inr rfl | exact bI_01 | exact bP_01) ?_
      rw [bI_t (show k = 5 ∨ k = 2 ∨ k = 0 from Or.inr (Or.inl (h2.symm)))]; exact ⟨rfl, rfl, rfl⟩
  ·
    refine g_iconst (n := 26) (v := 1) rfl rfl ?_
    refine g_iret (n := 27) rfl (fun _ => by first | exact Or.inl rfl | exact Or.inr rfl | exact bI_01 | exact bP_01) ?_
    rw [bI_t (show k = 5 ∨ k = 2 ∨ k = 0 from Or.inl (h1.symm))]; exact ⟨rfl, rfl, rfl⟩
theorem c_und_6 {sc : List Value} {nm : Nat} {I : mg_I} {k : Int32} : SP sc 1 137 [.int 6, .int k] I nm (qE (bI (k = 6 ∨ k = 3 ∨ k = 0)) I nm) := by
  refine SP.of (h := 0) (t := 137) (q := (yX11_isUnder, cX11_isUnder, 4, (some .boolean), 11, 578, mi_k137)) rfl (by decide) (show ¬ (4 : Nat) < 2 by decide) (fun dd hd => ?_)
  show GG sc 11 false true mi_k137 dd 0 [.int 6, .int k, .null, .null] [] I nm (qE (bI (k = 6 ∨ k = 3 ∨ k = 0)) I nm)
  refine g_iload_n (n := 1) rfl rfl ?_
  refine g_istore_n2 (n := 2) rfl rfl ?_
  refine g_iconst (n := 3) (v := 0) rfl rfl ?_
  refine g_istore_n3 (n := 4) rfl rfl ?_
  refine g_iload_n (n := 5) rfl rfl ?_
  refine g_bipush (n := 7) (v := 7) rfl rfl ?_
  refine g_icge (n := 10) 39 rfl (by decide) (fun h => absurd h (by decide)) (fun _ => ?_)
  refine g_iload_n (n := 11) rfl rfl ?_
  refine g_iflt (n := 14) 39 rfl (by decide) (fun h => absurd h (by decide)) (fun _ => ?_)
  refine g_iload_n (n := 15) rfl rfl ?_
  refine g_bipush (n := 17) (v := 7) rfl rfl ?_
  refine g_icge (n := 20) 39 rfl (by decide) (fun h => absurd h (by decide)) (fun _ => ?_)
  refine g_iload_n (n := 21) rfl rfl ?_
  refine g_iload_n (n := 22) rfl rfl ?_
  refine g_icne (n := 25) 27 rfl (by decide) (fun h1 => ?_) (fun h1 => ?_)
  ·
    refine g_gets (n := 30) (x := 579) rfl (by decide +kernel) ?_
    refine g_iload_n (n := 31) rfl rfl ?_
    refine g_iald4 (n := 32) (v := 3) rfl (by decide) (by decide) ?_
    refine g_istore_n2 (n := 33) rfl rfl ?_
    refine g_iinc3 (n := 36) rfl rfl (show (0 : Int32) + Int32.ofInt 1 = 1 by decide) ?_
    refine g_goto 4 rfl (by decide) ?_
    refine g_iload_n (n := 5) rfl rfl ?_
    refine g_bipush (n := 7) (v := 7) rfl rfl ?_
    refine g_icge (n := 10) 39 rfl (by decide) (fun h => absurd h (by decide)) (fun _ => ?_)
    refine g_iload_n (n := 11) rfl rfl ?_
    refine g_iflt (n := 14) 39 rfl (by decide) (fun h => absurd h (by decide)) (fun _ => ?_)
    refine g_iload_n (n := 15) rfl rfl ?_
    refine g_bipush (n := 17) (v := 7) rfl rfl ?_
    refine g_icge (n := 20) 39 rfl (by decide) (fun h => absurd h (by decide)) (fun _ => ?_)
    refine g_iload_n (n := 21) rfl rfl ?_
    refine g_iload_n (n := 22) rfl rfl ?_
    refine g_icne (n := 25) 27 rfl (by decide) (fun h2 => ?_) (fun h2 => ?_)
    ·
      refine g_gets (n := 30) (x := 579) rfl (by decide +kernel) ?_
      refine g_iload_n (n := 31) rfl rfl ?_
      refine g_iald4 (n := 32) (v := 0) rfl (by decide) (by decide) ?_
      refine g_istore_n2 (n := 33) rfl rfl ?_
      refine g_iinc3 (n := 36) rfl rfl (show (1 : Int32) + Int32.ofInt 1 = 2 by decide) ?_
      refine g_goto 4 rfl (by decide) ?_
      refine g_iload_n (n := 5) rfl rfl ?_
      refine g_bipush (n := 7) (v := 7) rfl rfl ?_
      refine g_icge (n := 10) 39 rfl (by decide) (fun h => absurd h (by decide)) (fun _ => ?_)
      refine g_iload_n (n := 11) rfl rfl ?_
      refine g_iflt (n := 14) 39 rfl (by decide) (fun h => absurd h (by decide)) (fun _ => ?_)
      refine g_iload_n (n := 15) rfl rfl ?_
      refine g_bipush (n := 17) (v := 7) rfl rfl ?_
      refine g_icge (n := 20) 39 rfl (by decide) (fun h => absurd h (by decide)) (fun _ => ?_)
      refine g_iload_n (n := 21) rfl rfl ?_
      refine g_iload_n (n := 22) rfl rfl ?_
      refine g_icne (n := 25) 27 rfl (by decide) (fun h3 => ?_) (fun h3 => ?_)
      ·
        refine g_gets (n := 30) (x := 579) rfl (by decide +kernel) ?_
        refine g_iload_n (n := 31) rfl rfl ?_
        refine g_iald4 (n := 32) (v := -1) rfl (by decide) (by decide) ?_
        refine g_istore_n2 (n := 33) rfl rfl ?_
        refine g_iinc3 (n := 36) rfl rfl (show (2 : Int32) + Int32.ofInt 1 = 3 by decide) ?_
        refine g_goto 4 rfl (by decide) ?_
        refine g_iload_n (n := 5) rfl rfl ?_
        refine g_bipush (n := 7) (v := 7) rfl rfl ?_
        refine g_icge (n := 10) 39 rfl (by decide) (fun h => absurd h (by decide)) (fun _ => ?_)
        refine g_iload_n (n := 11) rfl rfl ?_
        refine g_iflt (n := 14) 39 rfl (by decide) (fun _ => ?_) (fun h => absurd (by decide) h)
        refine g_iconst (n := 40) (v := 0) rfl rfl ?_
        refine g_iret (n := 41) rfl (fun _ => by first | exact Or.inl rfl | exact Or.inr rfl | exact bI_01 | exact bP_01) ?_
        have hno : ¬ (k = 6 ∨ k = 3 ∨ k = 0) := by
          rintro (q | q | q)
          · exact h1 q.symm
          · exact h2 q.symm
          · exact h3 q.symm
        rw [bI_f hno]; exact ⟨rfl, rfl, rfl⟩
      ·
        refine g_iconst (n := 26) (v := 1) rfl rfl ?_
        refine g_iret (n := 27) rfl (fun _ => by first | exact Or.inl rfl | exact Or.inr rfl | exact bI_01 | exact bP_01) ?_
        rw [bI_t (show k = 6 ∨ k = 3 ∨ k = 0 from Or.inr (Or.inr (h3.symm)))]; exact ⟨rfl, rfl, rfl⟩
    ·
      refine g_iconst (n := 26) (v := 1) rfl rfl ?_
      refine g_iret (n := 27) rfl (fun _ => by first | exact Or.inl rfl | exact Or.inr rfl | exact bI_01 | exact bP_01) ?_
      rw [bI_t (show k = 6 ∨ k = 3 ∨ k = 0 from Or.inr (Or.inl (h2.symm)))]; exact ⟨rfl, rfl, rfl⟩
  ·
    refine g_iconst (n := 26) (v := 1) rfl rfl ?_
    refine g_iret (n := 27) rfl (fun _ => by first | exact Or.inl rfl | exact Or.inr rfl | exact bI_01 | exact bP_01) ?_
    rw [bI_t (show k = 6 ∨ k = 3 ∨ k = 0 from Or.inl (h1.symm))]; exact ⟨rfl, rfl, rfl⟩
theorem c_kUnder {sc : List Value} {nm : Nat} {I : mg_I} {a k : Int32} (ha : fK a) : SP sc 1 137 [.int a, .int k] I nm (qE (bI (k = 0 ∨ k = a ∨ k = fAbove a)) I nm) := by
  have mo : ∀ {a : Int32} {p q : Prop} [Decidable p] [Decidable q], (p ↔ q) → SP sc 1 137 [.int a, .int k] I nm (qE (bI p) I nm) → SP sc 1 137 [.int a, .int k] I nm (qE (bI q) I nm) := fun e h => h.mono fun r I' nm' hq => ⟨hq.1.trans (congrArg (fun z => some (Value.int z)) (bI_eq e)), hq.2⟩
  rcases ha with rfl | rfl | rfl | rfl | rfl | rfl | rfl
  · refine mo (p := k = 0) ?_ c_und_0
    rw [show fAbove 0 = 0 by decide]
    constructor
    · rintro q
      · exact Or.inl q
    · rintro (q | q | q)
      · exact q
      · exact q
      · exact q
  · refine mo (p := k = 1 ∨ k = 0) ?_ c_und_1
    rw [show fAbove 1 = 0 by decide]
    constructor
    · rintro (q | q)
      · exact Or.inr (Or.inl q)
      · exact Or.inl q
    · rintro (q | q | q)
      · exact Or.inr (q)
      · exact Or.inl q
      · exact Or.inr (q)
  · refine mo (p := k = 2 ∨ k = 0) ?_ c_und_2
    rw [show fAbove 2 = 0 by decide]
    constructor
    · rintro (q | q)
      · exact Or.inr (Or.inl q)
      · exact Or.inl q
    · rintro (q | q | q)
      · exact Or.inr (q)
      · exact Or.inl q
      · exact Or.inr (q)
  · refine mo (p := k = 3 ∨ k = 0) ?_ c_und_3
    rw [show fAbove 3 = 0 by decide]
    constructor
    · rintro (q | q)
      · exact Or.inr (Or.inl q)
      · exact Or.inl q
    · rintro (q | q | q)
      · exact Or.inr (q)
      · exact Or.inl q
      · exact Or.inr (q)
  · refine mo (p := k = 4 ∨ k = 1 ∨ k = 0) ?_ c_und_4
    rw [show fAbove 4 = 1 by decide]
    constructor
    · rintro (q | q | q)
      · exact Or.inr (Or.inl q)
      · exact Or.inr (Or.inr q)
      · exact Or.inl q
    · rintro (q | q | q)
      · exact Or.inr (Or.inr (q))
      · exact Or.inl q
      · exact Or.inr (Or.inl q)
  · refine mo (p := k = 5 ∨ k = 2 ∨ k = 0) ?_ c_und_5
    rw [show fAbove 5 = 2 by decide]
    constructor
    · rintro (q | q | q)
      · exact Or.inr (Or.inl q)
      · exact Or.inr (Or.inr q)
      · exact Or.inl q
    · rintro (q | q | q)
      · exact Or.inr (Or.inr (q))
      · exact Or.inl q
      · exact Or.inr (Or.inl q)
  · refine mo (p := k = 6 ∨ k = 3 ∨ k = 0) ?_ c_und_6
    rw [show fAbove 6 = 3 by decide]
    constructor
    · rintro (q | q | q)
      · exact Or.inr (Or.inl q)
      · exact Or.inr (Or.inr q)
      · exact Or.inl q
    · rintro (q | q | q)
      · exact Or.inr (Or.inr (q))
      · exact Or.inl q
      · exact Or.inr (Or.inl q)
theorem c_kAs {sc : List Value} {nm : Nat} {I : mg_I} {d : Nat → Int32} (hC : RC I d) (hw : gW d) {g k : Int32} : SP sc 5 96 [.ref 5, .int g, .int k] I nm (qC I (oAs d g k) nm) := by
  refine SP.of (h := 4) (t := 96) (q := (yX11_as, cX11_as, 3, (some .int), 11, 575, mi_k96)) rfl (by decide) (show ¬ (3 : Nat) < 3 by decide) (fun dd hd => ?_)
  show GG sc 11 false false mi_k96 dd 0 [.ref 5, .int g, .int k] [] I nm (qC I (oAs d g k) nm)
  have hR := hC.1
  have hN8 := (rK_N hR).2
  refine g_aload_n (n := 1) rfl rfl ?_
  refine g_iload_n (n := 2) rfl rfl ?_
  refine g_cv1 (n := 5) (t := 128) (ci := 11) rfl (by decide +kernel) (by decide +kernel) (by decide) (by decide) (by decide +kernel) (by rfl) (c_kGoer hR) (by omega) (g_E ?_)
  refine g_split (fun h1 => ?_) (fun h1 => ?_)
  ·
    refine g_ifeq1 (n := 8) 18 rfl (by decide) ?_
    refine g_iload_n (n := 9) rfl rfl ?_
    refine g_iflt (n := 12) 18 rfl (by decide) (fun h2 => ?_) (fun h2 => ?_)
    ·
      have h2i : Int32.toInt _ < 0 := Int32.lt_iff_toInt_lt.mp (h2)
      refine g_aload_n (n := 19) rfl rfl ?_
      refine g_ldc (n := 21) (v := -1000000001) (pl := 419) rfl (by decide +kernel) ?_
      refine g_top (w := -1000000000 - nI 1) (by decide) ?_
      refine g_cv1 (n := 24) (t := 126) (ci := 11) rfl (by decide +kernel) (by decide +kernel) (by decide) (by decide) (by decide +kernel) (by rfl) (c_fail (k := 1) (by omega)) (by omega) (g_E ?_)
      refine g_iret (n := 25) rfl (fun h => nomatch h) ?_
      unfold oAs
      first | rw [if_neg h1] | rw [if_pos h1, if_neg (c := 0 ≤ k.toInt ∧ k.toInt ≤ 6) (by omega)]
      exact qC_e (by omega) hC cF.rfl'
    ·
      have h2i : 0 ≤ Int32.toInt _ := Int32.le_iff_toInt_le.mp (Int32.not_lt.mp h2)
      refine g_iload_n (n := 13) rfl rfl ?_
      refine g_bipush (n := 15) (v := 7) rfl rfl ?_
      refine g_iclt (n := 18) 25 rfl (by decide) (fun h3 => ?_) (fun h3 => ?_)
      ·
        have h3i : Int32.toInt _ < 7 := Int32.lt_iff_toInt_lt.mp (h3)
        obtain ⟨gg, hgg, rfl, hcgg⟩ := iR_nI (x := g) (n := (fN d)) ⟨by omega, by omega⟩
        have hdgg : cl (nI gg) = gg := hcgg
        refine g_aload_n (n := 26) rfl rfl ?_
        refine g_getr (n := 29) (ci := 11) (j := 1) (b := (14)) rfl (by decide +kernel) (by decide) (by decide) (by decide +kernel) ?_
        refine g_getr (n := 32) (ci := 1) (j := 1) (b := ((14) + 2)) rfl (by decide +kernel) (cf_hd c14) (cf_lt c14 (by decide)) (cf_r1 c14) ?_
        refine g_iload_n (n := 33) rfl rfl ?_
        refine g_aald (n := 34) (b := ((14) + 3 + gg)) (gg) rfl (cf_2a c14) (cf_2h c14) rfl (cf_2x c14 (by omega)) (cf_2r c14 (by omega)) ?_
        refine g_getv (n := 37) (ci := 4) (j := 1) (v := fO d gg 0) (rK_g hR (show gg < fN d by omega) (w := 0) (by omega)) rfl (by decide +kernel) rfl (by decide) (cf_gh c14 (show gg < 8 by omega)) ?_
        refine g_iload_n (n := 38) rfl rfl ?_
        refine g_cs2 (n := 41) (t := 137) (x := (576, 577, 71)) rfl (by decide +kernel) (by decide +kernel) (by rfl) (c_kUnder (hw.1.2.2.2 gg (by omega)).1) (by omega) (g_E ?_)
        refine g_split (fun hu => ?_) (fun hu => ?_)
        ·
          refine g_ifeq1 (n := 44) 59 rfl (by decide) ?_
          refine g_aload_n (n := 45) rfl rfl ?_
          refine g_getr (n := 48) (ci := 11) (j := 1) (b := (14)) rfl (by decide +kernel) (by decide) (by decide) (by decide +kernel) ?_
          refine g_getr (n := 51) (ci := 1) (j := 1) (b := ((14) + 2)) rfl (by decide +kernel) (cf_hd c14) (cf_lt c14 (by decide)) (cf_r1 c14) ?_
          refine g_iload_n (n := 52) rfl rfl ?_
          refine g_aald (n := 53) (b := ((14) + 3 + gg)) (gg) rfl (cf_2a c14) (cf_2h c14) rfl (cf_2x c14 (by omega)) (cf_2r c14 (by omega)) ?_
          refine g_getv (n := 56) (ci := 4) (j := 2) (v := fO d gg 1) (rK_g hR (show gg < fN d by omega) (w := 1) (by omega)) rfl (by decide +kernel) rfl (by decide) (cf_gh c14 (show gg < 8 by omega)) ?_
          refine g_goto 65 rfl (by decide) ?_
          refine g_iret (n := 66) rfl (fun h => nomatch h) ?_
          unfold oAs
          rw [if_pos h1, if_pos (c := 0 ≤ k.toInt ∧ k.toInt ≤ 6) (by omega), hdgg]
          by_cases q0 : k = 0
          · rw [if_pos q0]; exact qC_v hC cF.rfl'
          · rw [if_neg q0]
            by_cases q1 : k = fO d gg 0
            · rw [if_pos q1]; exact qC_v hC cF.rfl'
            · rw [if_neg q1, if_pos ((hu.resolve_left q0).resolve_left q1)]; exact qC_v hC cF.rfl'
        ·
          refine g_ifeq0 (n := 44) 59 rfl (by decide) ?_
          refine g_aload_n (n := 60) rfl rfl ?_
          refine g_ldc (n := 62) (v := -1000000005) (pl := 581) rfl (by decide +kernel) ?_
          refine g_top (w := -1000000000 - nI 5) (by decide) ?_
          refine g_cv1 (n := 65) (t := 126) (ci := 11) rfl (by decide +kernel) (by decide +kernel) (by decide) (by decide) (by decide +kernel) (by rfl) (c_fail (k := 5) (by omega)) (by omega) (g_E ?_)
          refine g_iret (n := 66) rfl (fun h => nomatch h) ?_
          unfold oAs
          rw [if_pos h1, if_pos (c := 0 ≤ k.toInt ∧ k.toInt ≤ 6) (by omega), hdgg, if_neg (fun q => hu (Or.inl q)), if_neg (fun q => hu (Or.inr (Or.inl q))), if_neg (fun q => hu (Or.inr (Or.inr q)))]
          exact qC_e (by omega) hC cF.rfl'
      ·
        have h3i : 7 ≤ Int32.toInt _ := Int32.le_iff_toInt_le.mp (Int32.not_lt.mp h3)
        refine g_aload_n (n := 19) rfl rfl ?_
        refine g_ldc (n := 21) (v := -1000000001) (pl := 419) rfl (by decide +kernel) ?_
        refine g_top (w := -1000000000 - nI 1) (by decide) ?_
        refine g_cv1 (n := 24) (t := 126) (ci := 11) rfl (by decide +kernel) (by decide +kernel) (by decide) (by decide) (by decide +kernel) (by rfl) (c_fail (k := 1) (by omega)) (by omega) (g_E ?_)
        refine g_iret (n := 25) rfl (fun h => nomatch h) ?_
        unfold oAs
        first | rw [if_neg h1] | rw [if_pos h1, if_neg (c := 0 ≤ k.toInt ∧ k.toInt ≤ 6) (by omega)]
        exact qC_e (by omega) hC cF.rfl'
  ·
    refine g_ifeq0 (n := 8) 18 rfl (by decide) ?_
    refine g_aload_n (n := 19) rfl rfl ?_
    refine g_ldc (n := 21) (v := -1000000001) (pl := 419) rfl (by decide +kernel) ?_
    refine g_top (w := -1000000000 - nI 1) (by decide) ?_
    refine g_cv1 (n := 24) (t := 126) (ci := 11) rfl (by decide +kernel) (by decide +kernel) (by decide) (by decide) (by decide +kernel) (by rfl) (c_fail (k := 1) (by omega)) (by omega) (g_E ?_)
    refine g_iret (n := 25) rfl (fun h => nomatch h) ?_
    unfold oAs
    first | rw [if_neg h1] | rw [if_pos h1, if_neg (c := 0 ≤ k.toInt ∧ k.toInt ≤ 6) (by omega)]
    exact qC_e (by omega) hC cF.rfl'
theorem tnM_n {I : mg_I} {G k m a j : Nat} (h : ¬ (a = G ∧ (j = 1 ∨ j = 2 ∨ (12 ≤ j ∧ j ≤ 15)))) : tnM I G k m a j = I a j := by
  unfold tnM
  rw [mf_ne (by omega), mf_ne (by omega), mf_ne (by omega), mf_ne (by omega), mf_ne (by omega), mf_ne (by omega)]
theorem tnM_1 {I : mg_I} {G k m : Nat} : tnM I G k m G 1 = nI k := by
  unfold tnM
  rw [mf_ne (by omega), mf_ne (by omega), mf_ne (by omega), mf_ne (by omega), mf_ne (by omega)]; exact mf_at
theorem tnM_2 {I : mg_I} {G k m : Nat} : tnM I G k m G 2 = nI m := by
  unfold tnM
  rw [mf_ne (by omega), mf_ne (by omega), mf_ne (by omega), mf_ne (by omega)]; exact mf_at
theorem tnM_12 {I : mg_I} {G k m : Nat} : tnM I G k m G 12 = fPace (nI k) (nI m) := by
  unfold tnM
  rw [mf_ne (by omega), mf_ne (by omega), mf_ne (by omega)]; exact mf_at
theorem tnM_13 {I : mg_I} {G k m : Nat} : tnM I G k m G 13 = fLoad (nI k) (nI m) := by
  unfold tnM
  rw [mf_ne (by omega), mf_ne (by omega)]; exact mf_at
theorem tnM_14 {I : mg_I} {G k m : Nat} : tnM I G k m G 14 = fBack (nI k) (nI m) := by
  unfold tnM
  rw [mf_ne (by omega)]; exact mf_at
theorem tnM_15 {I : mg_I} {G k m : Nat} : tnM I G k m G 15 = fHears (nI k) := by
  unfold tnM
  exact mf_at
theorem rK_turn {I : mg_I} {B g k m : Nat} {d : Nat → Int32} (h : rK I B d) (hg : g < fN d) : rK (tnM I (B + 3 + g) k m) B (up (up d (34 + 10 * g + 0) (nI k)) (34 + 10 * g + 1) (nI m)) := by
  obtain ⟨h1, h2, h3, h4, ⟨h5, h6, h7, h8, h9⟩, h10, h11⟩ := h
  have hN := (fN_eq h11).2
  have eN : fN (up (up d (34 + 10 * g + 0) (nI k)) (34 + 10 * g + 1) (nI m)) = fN d := fN_c (by rw [up_ne (by omega), up_ne (by omega)])
  refine ⟨fun j hj => ?_, fun y hy => ?_, fun q hq v hv => ?_, fun q hq => ?_, ⟨fun q hq => ?_, ?_, ?_, ?_, ?_⟩, fun u hu => ?_, by rw [up_ne (by omega), up_ne (by omega)]; exact h11⟩
  · rw [tnM_n (by omega), up_ne (by omega), up_ne (by omega)]; exact h1 j hj
  · rw [tnM_n (by omega), up_ne (by omega), up_ne (by omega)]; exact h2 y hy
  · rw [eN] at hq
    by_cases e : q = g
    · subst e
      by_cases e0 : v = 0
      · subst e0; rw [tnM_1, fO_up (by omega), fO_at]
      · by_cases e1 : v = 1
        · subst e1; rw [tnM_2, fO_at]
        · rw [tnM_n (by omega), fO_up (by omega), fO_up (by omega)]; exact h3 q hq v hv
    · rw [tnM_n (by omega), fO_up (by omega), fO_up (by omega)]; exact h3 q hq v hv
  · rw [eN] at hq
    rw [fTb_c (d := d) (by rw [up_ne (by omega), up_ne (by omega)])]
    by_cases e : q = g
    · subst e
      rw [tnM_n (j := 11) (by omega), tnM_12, tnM_13, tnM_14, tnM_15, show fO (up (up d (34 + 10 * q + 0) (nI k)) (34 + 10 * q + 1) (nI m)) q 0 = nI k by rw [fO_up (by omega), fO_at], fO_at]
      exact ⟨(h4 q hq).1, rfl, rfl, rfl, rfl⟩
    · rw [tnM_n (by omega), tnM_n (by omega), tnM_n (by omega), tnM_n (by omega), tnM_n (by omega), fO_up (by omega), fO_up (by omega), fO_up (by omega), fO_up (by omega)]; exact h4 q hq
  · rw [tnM_n (by omega)]; exact h5 q hq
  · rw [tnM_n (by omega)]; exact h6
  · rw [tnM_n (by omega)]; exact h7
  · rw [tnM_n (by omega)]; exact h8
  · rw [tnM_n (by omega)]; exact h9
  · obtain ⟨n, k1, k2, k3⟩ := h10 u hu
    refine ⟨n, k1, by rw [tnM_n (by omega)]; exact k2, fun a b c => ?_⟩
    rw [show tnM I (B + 3 + g) k m (B + 16 + 7 * u + 2) = I (B + 16 + 7 * u + 2) from funext fun j => tnM_n (by omega), k3]
    exact (fGive_c (by rw [up_ne (by omega), up_ne (by omega)]) (fun i hi => by rw [up_ne (by omega), up_ne (by omega)])).symm
theorem km_dr : ∀ q, q < 70 → nI q / 10 = nI (q / 10) ∧ nI q - nI q / 10 * 10 = nI (q % 10) := by decide +kernel
theorem kind_r : ∀ x, x < 7 → mf_rf 6 x = some (7 + x) := by decide +kernel
theorem c_kBecome {sc : List Value} {nm : Nat} {I : mg_I} {d : Nat → Int32} (hC : RC I d) {g km : Int32} : SP sc 6 95 [.ref 5, .int g, .int km] I nm (qC I (oBecome d g km) nm) := by
  refine SP.of (h := 5) (t := 95) (q := (yX11_become, cX11_become, 4, (some .int), 11, 571, mi_k95)) rfl (by decide) (show ¬ (4 : Nat) < 3 by decide) (fun dd hd => ?_)
  show GG sc 11 false false mi_k95 dd 0 [.ref 5, .int g, .int km, .null] [] I nm (qC I (oBecome d g km) nm)
  have hR := hC.1
  have hN8 := (rK_N hR).2
  refine g_aload_n (n := 1) rfl rfl ?_
  refine g_iload_n (n := 2) rfl rfl ?_
  refine g_cv1 (n := 5) (t := 128) (ci := 11) rfl (by decide +kernel) (by decide +kernel) (by decide) (by decide) (by decide +kernel) (by rfl) (c_kGoer hR) (by omega) (g_E ?_)
  refine g_split (fun h1 => ?_) (fun h1 => ?_)
  ·
    refine g_ifeq1 (n := 8) 15 rfl (by decide) ?_
    refine g_iload_n (n := 9) rfl rfl ?_
    refine g_cs1 (n := 12) (t := 133) (x := (429, 430, 71)) rfl (by decide +kernel) (by decide +kernel) (by rfl) c_kKm (by omega) (g_E ?_)
    refine g_split (fun h2 => ?_) (fun h2 => ?_)
    ·
      refine g_ifne1 (n := 15) 22 rfl (by decide) ?_
      obtain ⟨gg, hgg, rfl, hcgg⟩ := iR_nI (x := g) (n := (fN d)) ⟨by omega, by omega⟩
      have hdgg : cl (nI gg) = gg := hcgg
      obtain ⟨kq, hkq, rfl, hck⟩ := iR_nI (x := km) (n := 70) ⟨by omega, by omega⟩
      refine g_aload_n (n := 23) rfl rfl ?_
      refine g_getr (n := 26) (ci := 11) (j := 1) (b := (14)) rfl (by decide +kernel) (by decide) (by decide) (by decide +kernel) ?_
      refine g_getr (n := 29) (ci := 1) (j := 1) (b := ((14) + 2)) rfl (by decide +kernel) (cf_hd c14) (cf_lt c14 (by decide)) (cf_r1 c14) ?_
      refine g_iload_n (n := 30) rfl rfl ?_
      refine g_aald (n := 31) (b := ((14) + 3 + gg)) (gg) rfl (cf_2a c14) (cf_2h c14) rfl (cf_2x c14 (by omega)) (cf_2r c14 (by omega)) ?_
      refine g_getv (n := 34) (ci := 4) (j := 1) (v := fO d gg 0) (rK_g hR (show gg < fN d by omega) (w := 0) (by omega)) rfl (by decide +kernel) rfl (by decide) (cf_gh c14 (show gg < 8 by omega)) ?_
      refine g_istore_n3 (n := 35) rfl rfl ?_
      refine g_aload_n (n := 36) rfl rfl ?_
      refine g_getr (n := 39) (ci := 11) (j := 1) (b := (14)) rfl (by decide +kernel) (by decide) (by decide) (by decide +kernel) ?_
      refine g_getr (n := 42) (ci := 1) (j := 1) (b := ((14) + 2)) rfl (by decide +kernel) (cf_hd c14) (cf_lt c14 (by decide)) (cf_r1 c14) ?_
      refine g_iload_n (n := 43) rfl rfl ?_
      refine g_aald (n := 44) (b := ((14) + 3 + gg)) (gg) rfl (cf_2a c14) (cf_2h c14) rfl (cf_2x c14 (by omega)) (cf_2r c14 (by omega)) ?_
      refine g_aload_n (n := 45) rfl rfl ?_
      refine g_getr (n := 48) (ci := 11) (j := 0) (b := 6) rfl (by decide +kernel) (by decide) (by decide) (by decide +kernel) ?_
      refine g_iload_n (n := 49) rfl rfl ?_
      refine g_bipush (n := 51) (v := 10) rfl rfl ?_
      refine g_idiv (n := 52) rfl (by decide) ?_
      refine g_top (w := nI (kq / 10)) (km_dr kq hkq).1 ?_
      refine g_aald (n := 53) (b := 7 + kq / 10) (kq / 10) rfl (by decide) (by decide) rfl ⟨by show _ < 7; omega, by decide⟩ (kind_r _ (by omega)) ?_
      refine g_iload_n (n := 54) rfl rfl ?_
      refine g_bipush (n := 56) (v := 10) rfl rfl ?_
      refine g_idiv (n := 57) rfl (by decide) ?_
      refine g_top (w := nI (kq / 10)) (km_dr kq hkq).1 ?_
      refine g_iload_n (n := 58) rfl rfl ?_
      refine g_bipush (n := 60) (v := 10) rfl rfl ?_
      refine g_irem (n := 61) rfl (by decide) ?_
      refine g_top (w := nI (kq % 10)) (km_dr kq hkq).2 ?_
      refine g_cv3 (n := 64) (t := 37) (ci := 4) rfl (by decide +kernel) (by decide +kernel) (cf_gh c14 (by omega)) (cf_g1 c14 (by omega)) (by decide +kernel) (by rfl) (c_turn (cf_G c14 (x := gg) (by omega)) (k := kq / 10) (m := kq % 10) (by omega) (by omega)) (by omega) (g_Z ?_)
      refine g_iload_n (n := 65) rfl rfl ?_
      refine g_iret (n := 66) rfl (fun h => nomatch h) ?_
      unfold oBecome
      rw [if_pos h1, if_pos h2, hdgg]
      unfold sKm
      rw [(km_dr kq hkq).1, show nI kq - nI (kq / 10) * 10 = nI (kq % 10) from (km_dr kq hkq).1 ▸ (km_dr kq hkq).2]
      exact qC_v (RC_of (rK_turn hR hgg) (fun a j ha => tnM_n (by omega)) (fun j hj => by rw [up_ne (by omega), up_ne (by omega)]) hC) (fun a j ha => tnM_n (by omega))
    ·
      refine g_ifne0 (n := 15) 22 rfl (by decide) ?_
      refine g_aload_n (n := 16) rfl rfl ?_
      refine g_ldc (n := 18) (v := -1000000001) (pl := 419) rfl (by decide +kernel) ?_
      refine g_top (w := -1000000000 - nI 1) (by decide) ?_
      refine g_cv1 (n := 21) (t := 126) (ci := 11) rfl (by decide +kernel) (by decide +kernel) (by decide) (by decide) (by decide +kernel) (by rfl) (c_fail (k := 1) (by omega)) (by omega) (g_E ?_)
      refine g_iret (n := 22) rfl (fun h => nomatch h) ?_
      unfold oBecome
      first | rw [if_neg h1] | rw [if_pos h1, if_neg h2]
      exact qC_e (by omega) hC cF.rfl'
  ·
    refine g_ifeq0 (n := 8) 15 rfl (by decide) ?_
    refine g_aload_n (n := 16) rfl rfl ?_
    refine g_ldc (n := 18) (v := -1000000001) (pl := 419) rfl (by decide +kernel) ?_
    refine g_top (w := -1000000000 - nI 1) (by decide) ?_
    refine g_cv1 (n := 21) (t := 126) (ci := 11) rfl (by decide +kernel) (by decide +kernel) (by decide) (by decide) (by decide +kernel) (by rfl) (c_fail (k := 1) (by omega)) (by omega) (g_E ?_)
    refine g_iret (n := 22) rfl (fun h => nomatch h) ?_
    unfold oBecome
    first | rw [if_neg h1] | rw [if_pos h1, if_neg h2]
    exact qC_e (by omega) hC cF.rfl'
