/-! a row an instruction -/
/-- the instruction at a place, and the next place -/
def mg_f (code : List (Nat × Instr)) (pc : Nat) : Option (Instr × Nat) := (code.lookup pc).map fun i => (i, pc + mi_len i)
section GR
variable {sc : List Value} {own : Nat} {ini rz : Bool} {code : List (Nat × Instr)} {d pc n : Nat} {ls : List Value} {I : mg_I} {nm : Nat} {Q : Option Value → mg_I → Nat → Prop}
theorem g_step {i : Instr} {n' : Nat} {ls' st st' : List Value} {I' : mg_I} {nm' : Nat} (h : mg_f code pc = some (i, n)) (hr : mi_ret rz i st = none) (h1 : ∀ f : mi_F, mi_one f own ini i pc ls st (mf_M I nm sc) = some (n', ls', st', mf_M I' nm' sc)) (k : GG sc own ini rz code d n' ls' st' I' nm' Q) : GG sc own ini rz code d pc ls st I nm Q := by
  obtain ⟨N, m, r, I2, nm2, h2, h3⟩ := k
  refine ⟨N, m + 1, r, I2, nm2, ?_, h3⟩
  obtain ⟨i', hi, he⟩ := Option.map_eq_some_iff.mp h
  cases he
  rw [mi_go, hi, Option.bind_some, hr, h1, Option.bind_some]
  exact h2
theorem g_next {i : Instr} (h : mg_f code pc = some (i, n)) : pc + mi_len i = n := by
  obtain ⟨i', hi, he⟩ := Option.map_eq_some_iff.mp h
  cases he
  rfl
theorem g_iconst {r : List Value} {z : Int} {v : Int32} (h : mg_f code pc = some (.iconst z, n)) (hv : Int32.ofInt z = v) (k : GG sc own ini rz code d n ls (.int v :: r) I nm Q) : GG sc own ini rz code d pc ls r I nm Q := by
  obtain rfl := g_next h
  subst hv
  exact g_step h rfl (fun _ => rfl) k
theorem g_bipush {r : List Value} {z : Int} {v : Int32} (h : mg_f code pc = some (.bipush z, n)) (hv : (Int8.ofInt z).toInt32 = v) (k : GG sc own ini rz code d n ls (.int v :: r) I nm Q) : GG sc own ini rz code d pc ls r I nm Q := by
  obtain rfl := g_next h
  subst hv
  exact g_step h rfl (fun _ => rfl) k
theorem g_sipush {r : List Value} {z : Int} {v : Int32} (h : mg_f code pc = some (.sipush z, n)) (hv : (Int16.ofInt z).toInt32 = v) (k : GG sc own ini rz code d n ls (.int v :: r) I nm Q) : GG sc own ini rz code d pc ls r I nm Q := by
  obtain rfl := g_next h
  subst hv
  exact g_step h rfl (fun _ => rfl) k
theorem g_lconst {r : List Value} {z : Fin 2} {v : Int64} (h : mg_f code pc = some (.lconst z, n)) (hv : Int64.ofNat (z : Nat) = v) (k : GG sc own ini rz code d n ls (.long v :: r) I nm Q) : GG sc own ini rz code d pc ls r I nm Q := by
  obtain rfl := g_next h
  subst hv
  exact g_step h rfl (fun _ => rfl) k
theorem g_iadd {r : List Value} {x y : Int32} (h : mg_f code pc = some (.iadd, n))  (k : GG sc own ini rz code d n ls (.int (x + y) :: r) I nm Q) : GG sc own ini rz code d pc ls (.int y :: .int x :: r) I nm Q := by
  obtain rfl := g_next h
  exact g_step h rfl (fun _ => rfl) k
theorem g_isub {r : List Value} {x y : Int32} (h : mg_f code pc = some (.isub, n))  (k : GG sc own ini rz code d n ls (.int (x - y) :: r) I nm Q) : GG sc own ini rz code d pc ls (.int y :: .int x :: r) I nm Q := by
  obtain rfl := g_next h
  exact g_step h rfl (fun _ => rfl) k
theorem g_imul {r : List Value} {x y : Int32} (h : mg_f code pc = some (.imul, n))  (k : GG sc own ini rz code d n ls (.int (x * y) :: r) I nm Q) : GG sc own ini rz code d pc ls (.int y :: .int x :: r) I nm Q := by
  obtain rfl := g_next h
  exact g_step h rfl (fun _ => rfl) k
theorem g_iand {r : List Value} {x y : Int32} (h : mg_f code pc = some (.iand, n))  (k : GG sc own ini rz code d n ls (.int (x &&& y) :: r) I nm Q) : GG sc own ini rz code d pc ls (.int y :: .int x :: r) I nm Q := by
  obtain rfl := g_next h
  exact g_step h rfl (fun _ => rfl) k
theorem g_ior {r : List Value} {x y : Int32} (h : mg_f code pc = some (.ior, n))  (k : GG sc own ini rz code d n ls (.int (x ||| y) :: r) I nm Q) : GG sc own ini rz code d pc ls (.int y :: .int x :: r) I nm Q := by
  obtain rfl := g_next h
  exact g_step h rfl (fun _ => rfl) k
theorem g_ixor {r : List Value} {x y : Int32} (h : mg_f code pc = some (.ixor, n))  (k : GG sc own ini rz code d n ls (.int (x ^^^ y) :: r) I nm Q) : GG sc own ini rz code d pc ls (.int y :: .int x :: r) I nm Q := by
  obtain rfl := g_next h
  exact g_step h rfl (fun _ => rfl) k
theorem g_ishl {r : List Value} {x y : Int32} (h : mg_f code pc = some (.ishl, n))  (k : GG sc own ini rz code d n ls (.int (x <<< (y &&& 31)) :: r) I nm Q) : GG sc own ini rz code d pc ls (.int y :: .int x :: r) I nm Q := by
  obtain rfl := g_next h
  exact g_step h rfl (fun _ => rfl) k
theorem g_iushr {r : List Value} {x y : Int32} (h : mg_f code pc = some (.iushr, n))  (k : GG sc own ini rz code d n ls (.int ((x.toUInt32 >>> (y.toUInt32 &&& Int32.toUInt32 31)).toInt32) :: r) I nm Q) : GG sc own ini rz code d pc ls (.int y :: .int x :: r) I nm Q := by
  obtain rfl := g_next h
  exact g_step h rfl (fun _ => rfl) k
theorem g_idiv {r : List Value} {x y : Int32} (h : mg_f code pc = some (.idiv, n)) (hy : ¬ y = 0) (k : GG sc own ini rz code d n ls (.int (x / y) :: r) I nm Q) : GG sc own ini rz code d pc ls (.int y :: .int x :: r) I nm Q := by
  obtain rfl := g_next h
  exact g_step h rfl (fun _ => by simp [mi_one, mi_A, mi_cd, hy]) k
theorem g_irem {r : List Value} {x y : Int32} (h : mg_f code pc = some (.irem, n)) (hy : ¬ y = 0) (k : GG sc own ini rz code d n ls (.int (x - x / y * y) :: r) I nm Q) : GG sc own ini rz code d pc ls (.int y :: .int x :: r) I nm Q := by
  obtain rfl := g_next h
  exact g_step h rfl (fun _ => by simp [mi_one, mi_A, mi_cd, hy]) k
theorem g_ineg {r : List Value} {x : Int32} (h : mg_f code pc = some (.ineg, n))  (k : GG sc own ini rz code d n ls (.int (-x) :: r) I nm Q) : GG sc own ini rz code d pc ls (.int x :: r) I nm Q := by
  obtain rfl := g_next h
  exact g_step h rfl (fun _ => rfl) k
theorem g_i2l {r : List Value} {x : Int32} (h : mg_f code pc = some (.i2l, n))  (k : GG sc own ini rz code d n ls (.long x.toInt64 :: r) I nm Q) : GG sc own ini rz code d pc ls (.int x :: r) I nm Q := by
  obtain rfl := g_next h
  exact g_step h rfl (fun _ => rfl) k
theorem g_i2b {r : List Value} {x : Int32} (h : mg_f code pc = some (.i2b, n))  (k : GG sc own ini rz code d n ls (.int x.toInt8.toInt32 :: r) I nm Q) : GG sc own ini rz code d pc ls (.int x :: r) I nm Q := by
  obtain rfl := g_next h
  exact g_step h rfl (fun _ => rfl) k
theorem g_i2s {r : List Value} {x : Int32} (h : mg_f code pc = some (.i2s, n))  (k : GG sc own ini rz code d n ls (.int x.toInt16.toInt32 :: r) I nm Q) : GG sc own ini rz code d pc ls (.int x :: r) I nm Q := by
  obtain rfl := g_next h
  exact g_step h rfl (fun _ => rfl) k
theorem g_i2c {r : List Value} {x : Int32} (h : mg_f code pc = some (.i2c, n))  (k : GG sc own ini rz code d n ls (.int (x.toUInt32 % 65536).toInt32 :: r) I nm Q) : GG sc own ini rz code d pc ls (.int x :: r) I nm Q := by
  obtain rfl := g_next h
  exact g_step h rfl (fun _ => rfl) k
theorem g_l2i {r : List Value} {x : Int64} (h : mg_f code pc = some (.l2i, n))  (k : GG sc own ini rz code d n ls (.int x.toInt32 :: r) I nm Q) : GG sc own ini rz code d pc ls (.long x :: r) I nm Q := by
  obtain rfl := g_next h
  exact g_step h rfl (fun _ => rfl) k
theorem g_land {r : List Value} {x y : Int64} (h : mg_f code pc = some (.land, n))  (k : GG sc own ini rz code d n ls (.long (x &&& y) :: r) I nm Q) : GG sc own ini rz code d pc ls (.long y :: .long x :: r) I nm Q := by
  obtain rfl := g_next h
  exact g_step h rfl (fun _ => rfl) k
theorem g_lor {r : List Value} {x y : Int64} (h : mg_f code pc = some (.lor, n))  (k : GG sc own ini rz code d n ls (.long (x ||| y) :: r) I nm Q) : GG sc own ini rz code d pc ls (.long y :: .long x :: r) I nm Q := by
  obtain rfl := g_next h
  exact g_step h rfl (fun _ => rfl) k
theorem g_lcmp {r : List Value} {x y : Int64} (h : mg_f code pc = some (.lcmp, n))  (k : GG sc own ini rz code d n ls (.int (lg_cmp x y) :: r) I nm Q) : GG sc own ini rz code d pc ls (.long y :: .long x :: r) I nm Q := by
  obtain rfl := g_next h
  exact g_step h rfl (fun _ => rfl) k
theorem g_lshl {r : List Value} {x : Int64} {y : Int32} (h : mg_f code pc = some (.lshl, n))  (k : GG sc own ini rz code d n ls (.long (x <<< (y.toInt64 &&& 63)) :: r) I nm Q) : GG sc own ini rz code d pc ls (.int y :: .long x :: r) I nm Q := by
  obtain rfl := g_next h
  exact g_step h rfl (fun _ => rfl) k
theorem g_lshr {r : List Value} {x : Int64} {y : Int32} (h : mg_f code pc = some (.lshr, n))  (k : GG sc own ini rz code d n ls (.long (x >>> (y.toInt64 &&& 63)) :: r) I nm Q) : GG sc own ini rz code d pc ls (.int y :: .long x :: r) I nm Q := by
  obtain rfl := g_next h
  exact g_step h rfl (fun _ => rfl) k
theorem g_lushr {r : List Value} {x : Int64} {y : Int32} (h : mg_f code pc = some (.lushr, n))  (k : GG sc own ini rz code d n ls (.long ((x.toUInt64 >>> (y.toInt64.toUInt64 &&& Int64.toUInt64 63)).toInt64) :: r) I nm Q) : GG sc own ini rz code d pc ls (.int y :: .long x :: r) I nm Q := by
  obtain rfl := g_next h
  exact g_step h rfl (fun _ => rfl) k
theorem g_dupi {r : List Value} {x : Int32} (h : mg_f code pc = some (.dup, n))  (k : GG sc own ini rz code d n ls (.int x :: .int x :: r) I nm Q) : GG sc own ini rz code d pc ls (.int x :: r) I nm Q := by
  obtain rfl := g_next h
  exact g_step h rfl (fun _ => rfl) k
theorem g_dupa {r : List Value} {x : Nat} (h : mg_f code pc = some (.dup, n))  (k : GG sc own ini rz code d n ls (.ref x :: .ref x :: r) I nm Q) : GG sc own ini rz code d pc ls (.ref x :: r) I nm Q := by
  obtain rfl := g_next h
  exact g_step h rfl (fun _ => rfl) k
theorem g_popi {r : List Value} {x : Int32} (h : mg_f code pc = some (.pop, n))  (k : GG sc own ini rz code d n ls r I nm Q) : GG sc own ini rz code d pc ls (.int x :: r) I nm Q := by
  obtain rfl := g_next h
  exact g_step h rfl (fun _ => rfl) k
theorem g_popa {r : List Value} {x : Nat} (h : mg_f code pc = some (.pop, n))  (k : GG sc own ini rz code d n ls r I nm Q) : GG sc own ini rz code d pc ls (.ref x :: r) I nm Q := by
  obtain rfl := g_next h
  exact g_step h rfl (fun _ => rfl) k
theorem g_dup2 {r : List Value} {x : Nat} {y : Int32} (h : mg_f code pc = some (.dup2, n))  (k : GG sc own ini rz code d n ls (.int y :: .ref x :: .int y :: .ref x :: r) I nm Q) : GG sc own ini rz code d pc ls (.int y :: .ref x :: r) I nm Q := by
  obtain rfl := g_next h
  exact g_step h rfl (fun _ => rfl) k
theorem g_iload {r : List Value} {j : Nat} {x : Int32} (h : mg_f code pc = some (.iload j, n)) (hl : ls[(j : Nat)]? = some (.int x)) (k : GG sc own ini rz code d n ls (.int x :: r) I nm Q) : GG sc own ini rz code d pc ls r I nm Q := by
  obtain rfl := g_next h
  exact g_step h rfl (fun _ => by simp [mi_one, mi_A, mi_B, mi_L, mi_ldi, hl]) k
theorem g_iload_n {r : List Value} {j : Fin 4} {x : Int32} (h : mg_f code pc = some (.iload_n j, n)) (hl : ls[(j : Nat)]? = some (.int x)) (k : GG sc own ini rz code d n ls (.int x :: r) I nm Q) : GG sc own ini rz code d pc ls r I nm Q := by
  obtain rfl := g_next h
  exact g_step h rfl (fun _ => by simp [mi_one, mi_A, mi_B, mi_L, mi_ldi, hl]) k
theorem g_lload {r : List Value} {j : Nat} {x : Int64} (h : mg_f code pc = some (.lload j, n)) (hl : ls[(j : Nat)]? = some (.long x)) (k : GG sc own ini rz code d n ls (.long x :: r) I nm Q) : GG sc own ini rz code d pc ls r I nm Q := by
  obtain rfl := g_next h
  exact g_step h rfl (fun _ => by simp [mi_one, mi_A, mi_B, mi_L, mi_ldl, hl]) k
theorem g_lload_n {r : List Value} {j : Fin 4} {x : Int64} (h : mg_f code pc = some (.lload_n j, n)) (hl : ls[(j : Nat)]? = some (.long x)) (k : GG sc own ini rz code d n ls (.long x :: r) I nm Q) : GG sc own ini rz code d pc ls r I nm Q := by
  obtain rfl := g_next h
  exact g_step h rfl (fun _ => by simp [mi_one, mi_A, mi_B, mi_L, mi_ldl, hl]) k
theorem g_aload {r : List Value} {j : Nat} {x : Nat} (h : mg_f code pc = some (.aload j, n)) (hl : ls[(j : Nat)]? = some (.ref x)) (k : GG sc own ini rz code d n ls (.ref x :: r) I nm Q) : GG sc own ini rz code d pc ls r I nm Q := by
  obtain rfl := g_next h
  exact g_step h rfl (fun _ => by simp [mi_one, mi_A, mi_B, mi_L, mi_lda, hl]) k
theorem g_aload_n {r : List Value} {j : Fin 4} {x : Nat} (h : mg_f code pc = some (.aload_n j, n)) (hl : ls[(j : Nat)]? = some (.ref x)) (k : GG sc own ini rz code d n ls (.ref x :: r) I nm Q) : GG sc own ini rz code d pc ls r I nm Q := by
  obtain rfl := g_next h
  exact g_step h rfl (fun _ => by simp [mi_one, mi_A, mi_B, mi_L, mi_lda, hl]) k
theorem g_istore0 {r : List Value} { z : Value} {t : List Value} {x : Int32} (h : mg_f code pc = some (.istore 0, n))  (k : GG sc own ini rz code d n (.int x :: t) r I nm Q) : GG sc own ini rz code d pc (z :: t) (.int x :: r) I nm Q := by
  obtain rfl := g_next h
  refine g_step h rfl (fun _ => ?_) k
  simp [mi_one, mi_A, mi_B, mi_L, mi_sti, mi_st1]
theorem g_istore1 {r : List Value} {v0 z : Value} {t : List Value} {x : Int32} (h : mg_f code pc = some (.istore 1, n)) (hp : v0.category = 1) (k : GG sc own ini rz code d n (v0 :: .int x :: t) r I nm Q) : GG sc own ini rz code d pc (v0 :: z :: t) (.int x :: r) I nm Q := by
  obtain rfl := g_next h
  refine g_step h rfl (fun _ => ?_) k
  simp [mi_one, mi_A, mi_B, mi_L, mi_sti, mi_st1, hp]
theorem g_istore2 {r : List Value} {v0 v1 z : Value} {t : List Value} {x : Int32} (h : mg_f code pc = some (.istore 2, n)) (hp : v1.category = 1) (k : GG sc own ini rz code d n (v0 :: v1 :: .int x :: t) r I nm Q) : GG sc own ini rz code d pc (v0 :: v1 :: z :: t) (.int x :: r) I nm Q := by
  obtain rfl := g_next h
  refine g_step h rfl (fun _ => ?_) k
  simp [mi_one, mi_A, mi_B, mi_L, mi_sti, mi_st1, hp]
theorem g_istore3 {r : List Value} {v0 v1 v2 z : Value} {t : List Value} {x : Int32} (h : mg_f code pc = some (.istore 3, n)) (hp : v2.category = 1) (k : GG sc own ini rz code d n (v0 :: v1 :: v2 :: .int x :: t) r I nm Q) : GG sc own ini rz code d pc (v0 :: v1 :: v2 :: z :: t) (.int x :: r) I nm Q := by
  obtain rfl := g_next h
  refine g_step h rfl (fun _ => ?_) k
  simp [mi_one, mi_A, mi_B, mi_L, mi_sti, mi_st1, hp]
theorem g_istore4 {r : List Value} {v0 v1 v2 v3 z : Value} {t : List Value} {x : Int32} (h : mg_f code pc = some (.istore 4, n)) (hp : v3.category = 1) (k : GG sc own ini rz code d n (v0 :: v1 :: v2 :: v3 :: .int x :: t) r I nm Q) : GG sc own ini rz code d pc (v0 :: v1 :: v2 :: v3 :: z :: t) (.int x :: r) I nm Q := by
  obtain rfl := g_next h
  refine g_step h rfl (fun _ => ?_) k
  simp [mi_one, mi_A, mi_B, mi_L, mi_sti, mi_st1, hp]
theorem g_istore5 {r : List Value} {v0 v1 v2 v3 v4 z : Value} {t : List Value} {x : Int32} (h : mg_f code pc = some (.istore 5, n)) (hp : v4.category = 1) (k : GG sc own ini rz code d n (v0 :: v1 :: v2 :: v3 :: v4 :: .int x :: t) r I nm Q) : GG sc own ini rz code d pc (v0 :: v1 :: v2 :: v3 :: v4 :: z :: t) (.int x :: r) I nm Q := by
  obtain rfl := g_next h
  refine g_step h rfl (fun _ => ?_) k
  simp [mi_one, mi_A, mi_B, mi_L, mi_sti, mi_st1, hp]
theorem g_istore6 {r : List Value} {v0 v1 v2 v3 v4 v5 z : Value} {t : List Value} {x : Int32} (h : mg_f code pc = some (.istore 6, n)) (hp : v5.category = 1) (k : GG sc own ini rz code d n (v0 :: v1 :: v2 :: v3 :: v4 :: v5 :: .int x :: t) r I nm Q) : GG sc own ini rz code d pc (v0 :: v1 :: v2 :: v3 :: v4 :: v5 :: z :: t) (.int x :: r) I nm Q := by
  obtain rfl := g_next h
  refine g_step h rfl (fun _ => ?_) k
  simp [mi_one, mi_A, mi_B, mi_L, mi_sti, mi_st1, hp]
theorem g_istore7 {r : List Value} {v0 v1 v2 v3 v4 v5 v6 z : Value} {t : List Value} {x : Int32} (h : mg_f code pc = some (.istore 7, n)) (hp : v6.category = 1) (k : GG sc own ini rz code d n (v0 :: v1 :: v2 :: v3 :: v4 :: v5 :: v6 :: .int x :: t) r I nm Q) : GG sc own ini rz code d pc (v0 :: v1 :: v2 :: v3 :: v4 :: v5 :: v6 :: z :: t) (.int x :: r) I nm Q := by
  obtain rfl := g_next h
  refine g_step h rfl (fun _ => ?_) k
  simp [mi_one, mi_A, mi_B, mi_L, mi_sti, mi_st1, hp]
theorem g_istore_n0 {r : List Value} { z : Value} {t : List Value} {x : Int32} (h : mg_f code pc = some (.istore_n 0, n))  (k : GG sc own ini rz code d n (.int x :: t) r I nm Q) : GG sc own ini rz code d pc (z :: t) (.int x :: r) I nm Q := by
  obtain rfl := g_next h
  refine g_step h rfl (fun _ => ?_) k
  simp [mi_one, mi_A, mi_B, mi_L, mi_sti, mi_st1]
theorem g_istore_n1 {r : List Value} {v0 z : Value} {t : List Value} {x : Int32} (h : mg_f code pc = some (.istore_n 1, n)) (hp : v0.category = 1) (k : GG sc own ini rz code d n (v0 :: .int x :: t) r I nm Q) : GG sc own ini rz code d pc (v0 :: z :: t) (.int x :: r) I nm Q := by
  obtain rfl := g_next h
  refine g_step h rfl (fun _ => ?_) k
  simp [mi_one, mi_A, mi_B, mi_L, mi_sti, mi_st1, hp]
theorem g_istore_n2 {r : List Value} {v0 v1 z : Value} {t : List Value} {x : Int32} (h : mg_f code pc = some (.istore_n 2, n)) (hp : v1.category = 1) (k : GG sc own ini rz code d n (v0 :: v1 :: .int x :: t) r I nm Q) : GG sc own ini rz code d pc (v0 :: v1 :: z :: t) (.int x :: r) I nm Q := by
  obtain rfl := g_next h
  refine g_step h rfl (fun _ => ?_) k
  simp [mi_one, mi_A, mi_B, mi_L, mi_sti, mi_st1, hp]
theorem g_istore_n3 {r : List Value} {v0 v1 v2 z : Value} {t : List Value} {x : Int32} (h : mg_f code pc = some (.istore_n 3, n)) (hp : v2.category = 1) (k : GG sc own ini rz code d n (v0 :: v1 :: v2 :: .int x :: t) r I nm Q) : GG sc own ini rz code d pc (v0 :: v1 :: v2 :: z :: t) (.int x :: r) I nm Q := by
  obtain rfl := g_next h
  refine g_step h rfl (fun _ => ?_) k
  simp [mi_one, mi_A, mi_B, mi_L, mi_sti, mi_st1, hp, show ((3 : Fin 4) : Nat) = 3 from rfl]
theorem g_astore0 {r : List Value} { z : Value} {t : List Value} {x : Nat} (h : mg_f code pc = some (.astore 0, n))  (k : GG sc own ini rz code d n (.ref x :: t) r I nm Q) : GG sc own ini rz code d pc (z :: t) (.ref x :: r) I nm Q := by
  obtain rfl := g_next h
  refine g_step h rfl (fun _ => ?_) k
  simp [mi_one, mi_A, mi_B, mi_L, mi_sta, mi_st1]
theorem g_astore1 {r : List Value} {v0 z : Value} {t : List Value} {x : Nat} (h : mg_f code pc = some (.astore 1, n)) (hp : v0.category = 1) (k : GG sc own ini rz code d n (v0 :: .ref x :: t) r I nm Q) : GG sc own ini rz code d pc (v0 :: z :: t) (.ref x :: r) I nm Q := by
  obtain rfl := g_next h
  refine g_step h rfl (fun _ => ?_) k
  simp [mi_one, mi_A, mi_B, mi_L, mi_sta, mi_st1, hp]
theorem g_astore2 {r : List Value} {v0 v1 z : Value} {t : List Value} {x : Nat} (h : mg_f code pc = some (.astore 2, n)) (hp : v1.category = 1) (k : GG sc own ini rz code d n (v0 :: v1 :: .ref x :: t) r I nm Q) : GG sc own ini rz code d pc (v0 :: v1 :: z :: t) (.ref x :: r) I nm Q := by
  obtain rfl := g_next h
  refine g_step h rfl (fun _ => ?_) k
  simp [mi_one, mi_A, mi_B, mi_L, mi_sta, mi_st1, hp]
theorem g_astore3 {r : List Value} {v0 v1 v2 z : Value} {t : List Value} {x : Nat} (h : mg_f code pc = some (.astore 3, n)) (hp : v2.category = 1) (k : GG sc own ini rz code d n (v0 :: v1 :: v2 :: .ref x :: t) r I nm Q) : GG sc own ini rz code d pc (v0 :: v1 :: v2 :: z :: t) (.ref x :: r) I nm Q := by
  obtain rfl := g_next h
  refine g_step h rfl (fun _ => ?_) k
  simp [mi_one, mi_A, mi_B, mi_L, mi_sta, mi_st1, hp]
theorem g_astore4 {r : List Value} {v0 v1 v2 v3 z : Value} {t : List Value} {x : Nat} (h : mg_f code pc = some (.astore 4, n)) (hp : v3.category = 1) (k : GG sc own ini rz code d n (v0 :: v1 :: v2 :: v3 :: .ref x :: t) r I nm Q) : GG sc own ini rz code d pc (v0 :: v1 :: v2 :: v3 :: z :: t) (.ref x :: r) I nm Q := by
  obtain rfl := g_next h
  refine g_step h rfl (fun _ => ?_) k
  simp [mi_one, mi_A, mi_B, mi_L, mi_sta, mi_st1, hp]
theorem g_astore5 {r : List Value} {v0 v1 v2 v3 v4 z : Value} {t : List Value} {x : Nat} (h : mg_f code pc = some (.astore 5, n)) (hp : v4.category = 1) (k : GG sc own ini rz code d n (v0 :: v1 :: v2 :: v3 :: v4 :: .ref x :: t) r I nm Q) : GG sc own ini rz code d pc (v0 :: v1 :: v2 :: v3 :: v4 :: z :: t) (.ref x :: r) I nm Q := by
  obtain rfl := g_next h
  refine g_step h rfl (fun _ => ?_) k
  simp [mi_one, mi_A, mi_B, mi_L, mi_sta, mi_st1, hp]
theorem g_astore6 {r : List Value} {v0 v1 v2 v3 v4 v5 z : Value} {t : List Value} {x : Nat} (h : mg_f code pc = some (.astore 6, n)) (hp : v5.category = 1) (k : GG sc own ini rz code d n (v0 :: v1 :: v2 :: v3 :: v4 :: v5 :: .ref x :: t) r I nm Q) : GG sc own ini rz code d pc (v0 :: v1 :: v2 :: v3 :: v4 :: v5 :: z :: t) (.ref x :: r) I nm Q := by
  obtain rfl := g_next h
  refine g_step h rfl (fun _ => ?_) k
  simp [mi_one, mi_A, mi_B, mi_L, mi_sta, mi_st1, hp]
theorem g_astore7 {r : List Value} {v0 v1 v2 v3 v4 v5 v6 z : Value} {t : List Value} {x : Nat} (h : mg_f code pc = some (.astore 7, n)) (hp : v6.category = 1) (k : GG sc own ini rz code d n (v0 :: v1 :: v2 :: v3 :: v4 :: v5 :: v6 :: .ref x :: t) r I nm Q) : GG sc own ini rz code d pc (v0 :: v1 :: v2 :: v3 :: v4 :: v5 :: v6 :: z :: t) (.ref x :: r) I nm Q := by
  obtain rfl := g_next h
  refine g_step h rfl (fun _ => ?_) k
  simp [mi_one, mi_A, mi_B, mi_L, mi_sta, mi_st1, hp]
theorem g_astore_n0 {r : List Value} { z : Value} {t : List Value} {x : Nat} (h : mg_f code pc = some (.astore_n 0, n))  (k : GG sc own ini rz code d n (.ref x :: t) r I nm Q) : GG sc own ini rz code d pc (z :: t) (.ref x :: r) I nm Q := by
  obtain rfl := g_next h
  refine g_step h rfl (fun _ => ?_) k
  simp [mi_one, mi_A, mi_B, mi_L, mi_sta, mi_st1]
theorem g_astore_n1 {r : List Value} {v0 z : Value} {t : List Value} {x : Nat} (h : mg_f code pc = some (.astore_n 1, n)) (hp : v0.category = 1) (k : GG sc own ini rz code d n (v0 :: .ref x :: t) r I nm Q) : GG sc own ini rz code d pc (v0 :: z :: t) (.ref x :: r) I nm Q := by
  obtain rfl := g_next h
  refine g_step h rfl (fun _ => ?_) k
  simp [mi_one, mi_A, mi_B, mi_L, mi_sta, mi_st1, hp]
theorem g_astore_n2 {r : List Value} {v0 v1 z : Value} {t : List Value} {x : Nat} (h : mg_f code pc = some (.astore_n 2, n)) (hp : v1.category = 1) (k : GG sc own ini rz code d n (v0 :: v1 :: .ref x :: t) r I nm Q) : GG sc own ini rz code d pc (v0 :: v1 :: z :: t) (.ref x :: r) I nm Q := by
  obtain rfl := g_next h
  refine g_step h rfl (fun _ => ?_) k
  simp [mi_one, mi_A, mi_B, mi_L, mi_sta, mi_st1, hp]
theorem g_astore_n3 {r : List Value} {v0 v1 v2 z : Value} {t : List Value} {x : Nat} (h : mg_f code pc = some (.astore_n 3, n)) (hp : v2.category = 1) (k : GG sc own ini rz code d n (v0 :: v1 :: v2 :: .ref x :: t) r I nm Q) : GG sc own ini rz code d pc (v0 :: v1 :: v2 :: z :: t) (.ref x :: r) I nm Q := by
  obtain rfl := g_next h
  refine g_step h rfl (fun _ => ?_) k
  simp [mi_one, mi_A, mi_B, mi_L, mi_sta, mi_st1, hp, show ((3 : Fin 4) : Nat) = 3 from rfl]
theorem g_iinc0 {r : List Value} {t : List Value} {x y : Int32} {z : Int} (h : mg_f code pc = some (.iinc 0 z, n))  (hv : x + Int32.ofInt z = y) (k : GG sc own ini rz code d n (.int y :: t) r I nm Q) : GG sc own ini rz code d pc (.int x :: t) r I nm Q := by
  obtain rfl := g_next h
  subst hv
  refine g_step h rfl (fun _ => ?_) k
  simp [mi_one, mi_A, mi_B, mi_L, mi_inc, mi_st1]
theorem g_iinc1 {r : List Value} {v0 : Value} {t : List Value} {x y : Int32} {z : Int} (h : mg_f code pc = some (.iinc 1 z, n)) (hp : v0.category = 1) (hv : x + Int32.ofInt z = y) (k : GG sc own ini rz code d n (v0 :: .int y :: t) r I nm Q) : GG sc own ini rz code d pc (v0 :: .int x :: t) r I nm Q := by
  obtain rfl := g_next h
  subst hv
  refine g_step h rfl (fun _ => ?_) k
  simp [mi_one, mi_A, mi_B, mi_L, mi_inc, mi_st1, hp]
theorem g_iinc2 {r : List Value} {v0 v1 : Value} {t : List Value} {x y : Int32} {z : Int} (h : mg_f code pc = some (.iinc 2 z, n)) (hp : v1.category = 1) (hv : x + Int32.ofInt z = y) (k : GG sc own ini rz code d n (v0 :: v1 :: .int y :: t) r I nm Q) : GG sc own ini rz code d pc (v0 :: v1 :: .int x :: t) r I nm Q := by
  obtain rfl := g_next h
  subst hv
  refine g_step h rfl (fun _ => ?_) k
  simp [mi_one, mi_A, mi_B, mi_L, mi_inc, mi_st1, hp]
theorem g_iinc3 {r : List Value} {v0 v1 v2 : Value} {t : List Value} {x y : Int32} {z : Int} (h : mg_f code pc = some (.iinc 3 z, n)) (hp : v2.category = 1) (hv : x + Int32.ofInt z = y) (k : GG sc own ini rz code d n (v0 :: v1 :: v2 :: .int y :: t) r I nm Q) : GG sc own ini rz code d pc (v0 :: v1 :: v2 :: .int x :: t) r I nm Q := by
  obtain rfl := g_next h
  subst hv
  refine g_step h rfl (fun _ => ?_) k
  simp [mi_one, mi_A, mi_B, mi_L, mi_inc, mi_st1, hp]
theorem g_iinc4 {r : List Value} {v0 v1 v2 v3 : Value} {t : List Value} {x y : Int32} {z : Int} (h : mg_f code pc = some (.iinc 4 z, n)) (hp : v3.category = 1) (hv : x + Int32.ofInt z = y) (k : GG sc own ini rz code d n (v0 :: v1 :: v2 :: v3 :: .int y :: t) r I nm Q) : GG sc own ini rz code d pc (v0 :: v1 :: v2 :: v3 :: .int x :: t) r I nm Q := by
  obtain rfl := g_next h
  subst hv
  refine g_step h rfl (fun _ => ?_) k
  simp [mi_one, mi_A, mi_B, mi_L, mi_inc, mi_st1, hp]
theorem g_iinc5 {r : List Value} {v0 v1 v2 v3 v4 : Value} {t : List Value} {x y : Int32} {z : Int} (h : mg_f code pc = some (.iinc 5 z, n)) (hp : v4.category = 1) (hv : x + Int32.ofInt z = y) (k : GG sc own ini rz code d n (v0 :: v1 :: v2 :: v3 :: v4 :: .int y :: t) r I nm Q) : GG sc own ini rz code d pc (v0 :: v1 :: v2 :: v3 :: v4 :: .int x :: t) r I nm Q := by
  obtain rfl := g_next h
  subst hv
  refine g_step h rfl (fun _ => ?_) k
  simp [mi_one, mi_A, mi_B, mi_L, mi_inc, mi_st1, hp]
theorem g_iinc6 {r : List Value} {v0 v1 v2 v3 v4 v5 : Value} {t : List Value} {x y : Int32} {z : Int} (h : mg_f code pc = some (.iinc 6 z, n)) (hp : v5.category = 1) (hv : x + Int32.ofInt z = y) (k : GG sc own ini rz code d n (v0 :: v1 :: v2 :: v3 :: v4 :: v5 :: .int y :: t) r I nm Q) : GG sc own ini rz code d pc (v0 :: v1 :: v2 :: v3 :: v4 :: v5 :: .int x :: t) r I nm Q := by
  obtain rfl := g_next h
  subst hv
  refine g_step h rfl (fun _ => ?_) k
  simp [mi_one, mi_A, mi_B, mi_L, mi_inc, mi_st1, hp]
theorem g_iinc7 {r : List Value} {v0 v1 v2 v3 v4 v5 v6 : Value} {t : List Value} {x y : Int32} {z : Int} (h : mg_f code pc = some (.iinc 7 z, n)) (hp : v6.category = 1) (hv : x + Int32.ofInt z = y) (k : GG sc own ini rz code d n (v0 :: v1 :: v2 :: v3 :: v4 :: v5 :: v6 :: .int y :: t) r I nm Q) : GG sc own ini rz code d pc (v0 :: v1 :: v2 :: v3 :: v4 :: v5 :: v6 :: .int x :: t) r I nm Q := by
  obtain rfl := g_next h
  subst hv
  refine g_step h rfl (fun _ => ?_) k
  simp [mi_one, mi_A, mi_B, mi_L, mi_inc, mi_st1, hp]
theorem g_ifeq {r : List Value} {x : Int32} {off : Int} (m : Nat) (h : mg_f code pc = some (.ifCond .eq off, n)) (ht : (pc : Int) + off = (m : Int)) (kt : (x = 0) → GG sc own ini rz code d m ls r I nm Q) (kf : ¬ (x = 0) → GG sc own ini rz code d n ls r I nm Q) : GG sc own ini rz code d pc ls (.int x :: r) I nm Q := by
  obtain rfl := g_next h
  have h1 : mi_ok pc off = true := decide_eq_true (by omega)
  have h2 : mi_tgt pc off = m := by unfold mi_tgt; omega
  by_cases hc : (x = 0)
  · exact g_step (n' := m) h rfl (fun _ => by simp [mi_one, mi_A, mi_B, mi_i1, mi_i2, mi_br, h1, h2, hc]) (kt hc)
  · exact g_step (n' := pc + 3) h rfl (fun _ => by simp [mi_one, mi_A, mi_B, mi_i1, mi_i2, mi_br, h1, h2, hc]) (kf hc)
theorem g_iceq {r : List Value} {x y : Int32} {off : Int} (m : Nat) (h : mg_f code pc = some (.if_icmp .eq off, n)) (ht : (pc : Int) + off = (m : Int)) (kt : (x = y) → GG sc own ini rz code d m ls r I nm Q) (kf : ¬ (x = y) → GG sc own ini rz code d n ls r I nm Q) : GG sc own ini rz code d pc ls (.int y :: .int x :: r) I nm Q := by
  obtain rfl := g_next h
  have h1 : mi_ok pc off = true := decide_eq_true (by omega)
  have h2 : mi_tgt pc off = m := by unfold mi_tgt; omega
  by_cases hc : (x = y)
  · exact g_step (n' := m) h rfl (fun _ => by simp [mi_one, mi_A, mi_B, mi_i1, mi_i2, mi_br, h1, h2, hc]) (kt hc)
  · exact g_step (n' := pc + 3) h rfl (fun _ => by simp [mi_one, mi_A, mi_B, mi_i1, mi_i2, mi_br, h1, h2, hc]) (kf hc)
theorem g_iflt {r : List Value} {x : Int32} {off : Int} (m : Nat) (h : mg_f code pc = some (.ifCond .lt off, n)) (ht : (pc : Int) + off = (m : Int)) (kt : (x < 0) → GG sc own ini rz code d m ls r I nm Q) (kf : ¬ (x < 0) → GG sc own ini rz code d n ls r I nm Q) : GG sc own ini rz code d pc ls (.int x :: r) I nm Q := by
  obtain rfl := g_next h
  have h1 : mi_ok pc off = true := decide_eq_true (by omega)
  have h2 : mi_tgt pc off = m := by unfold mi_tgt; omega
  by_cases hc : (x < 0)
  · exact g_step (n' := m) h rfl (fun _ => by simp [mi_one, mi_A, mi_B, mi_i1, mi_i2, mi_br, h1, h2, hc]) (kt hc)
  · exact g_step (n' := pc + 3) h rfl (fun _ => by simp [mi_one, mi_A, mi_B, mi_i1, mi_i2, mi_br, h1, h2, hc]) (kf hc)
theorem g_iclt {r : List Value} {x y : Int32} {off : Int} (m : Nat) (h : mg_f code pc = some (.if_icmp .lt off, n)) (ht : (pc : Int) + off = (m : Int)) (kt : (x < y) → GG sc own ini rz code d m ls r I nm Q) (kf : ¬ (x < y) → GG sc own ini rz code d n ls r I nm Q) : GG sc own ini rz code d pc ls (.int y :: .int x :: r) I nm Q := by
  obtain rfl := g_next h
  have h1 : mi_ok pc off = true := decide_eq_true (by omega)
  have h2 : mi_tgt pc off = m := by unfold mi_tgt; omega
  by_cases hc : (x < y)
  · exact g_step (n' := m) h rfl (fun _ => by simp [mi_one, mi_A, mi_B, mi_i1, mi_i2, mi_br, h1, h2, hc]) (kt hc)
  · exact g_step (n' := pc + 3) h rfl (fun _ => by simp [mi_one, mi_A, mi_B, mi_i1, mi_i2, mi_br, h1, h2, hc]) (kf hc)
theorem g_ifge {r : List Value} {x : Int32} {off : Int} (m : Nat) (h : mg_f code pc = some (.ifCond .ge off, n)) (ht : (pc : Int) + off = (m : Int)) (kt : (0 ≤ x) → GG sc own ini rz code d m ls r I nm Q) (kf : ¬ (0 ≤ x) → GG sc own ini rz code d n ls r I nm Q) : GG sc own ini rz code d pc ls (.int x :: r) I nm Q := by
  obtain rfl := g_next h
  have h1 : mi_ok pc off = true := decide_eq_true (by omega)
  have h2 : mi_tgt pc off = m := by unfold mi_tgt; omega
  by_cases hc : (0 ≤ x)
  · exact g_step (n' := m) h rfl (fun _ => by simp [mi_one, mi_A, mi_B, mi_i1, mi_i2, mi_br, h1, h2, hc]) (kt hc)
  · exact g_step (n' := pc + 3) h rfl (fun _ => by simp [mi_one, mi_A, mi_B, mi_i1, mi_i2, mi_br, h1, h2, hc]) (kf hc)
theorem g_icge {r : List Value} {x y : Int32} {off : Int} (m : Nat) (h : mg_f code pc = some (.if_icmp .ge off, n)) (ht : (pc : Int) + off = (m : Int)) (kt : (y ≤ x) → GG sc own ini rz code d m ls r I nm Q) (kf : ¬ (y ≤ x) → GG sc own ini rz code d n ls r I nm Q) : GG sc own ini rz code d pc ls (.int y :: .int x :: r) I nm Q := by
  obtain rfl := g_next h
  have h1 : mi_ok pc off = true := decide_eq_true (by omega)
  have h2 : mi_tgt pc off = m := by unfold mi_tgt; omega
  by_cases hc : (y ≤ x)
  · exact g_step (n' := m) h rfl (fun _ => by simp [mi_one, mi_A, mi_B, mi_i1, mi_i2, mi_br, h1, h2, hc]) (kt hc)
  · exact g_step (n' := pc + 3) h rfl (fun _ => by simp [mi_one, mi_A, mi_B, mi_i1, mi_i2, mi_br, h1, h2, hc]) (kf hc)
theorem g_ifgt {r : List Value} {x : Int32} {off : Int} (m : Nat) (h : mg_f code pc = some (.ifCond .gt off, n)) (ht : (pc : Int) + off = (m : Int)) (kt : (0 < x) → GG sc own ini rz code d m ls r I nm Q) (kf : ¬ (0 < x) → GG sc own ini rz code d n ls r I nm Q) : GG sc own ini rz code d pc ls (.int x :: r) I nm Q := by
  obtain rfl := g_next h
  have h1 : mi_ok pc off = true := decide_eq_true (by omega)
  have h2 : mi_tgt pc off = m := by unfold mi_tgt; omega
  by_cases hc : (0 < x)
  · exact g_step (n' := m) h rfl (fun _ => by simp [mi_one, mi_A, mi_B, mi_i1, mi_i2, mi_br, h1, h2, hc]) (kt hc)
  · exact g_step (n' := pc + 3) h rfl (fun _ => by simp [mi_one, mi_A, mi_B, mi_i1, mi_i2, mi_br, h1, h2, hc]) (kf hc)
theorem g_icgt {r : List Value} {x y : Int32} {off : Int} (m : Nat) (h : mg_f code pc = some (.if_icmp .gt off, n)) (ht : (pc : Int) + off = (m : Int)) (kt : (y < x) → GG sc own ini rz code d m ls r I nm Q) (kf : ¬ (y < x) → GG sc own ini rz code d n ls r I nm Q) : GG sc own ini rz code d pc ls (.int y :: .int x :: r) I nm Q := by
  obtain rfl := g_next h
  have h1 : mi_ok pc off = true := decide_eq_true (by omega)
  have h2 : mi_tgt pc off = m := by unfold mi_tgt; omega
  by_cases hc : (y < x)
  · exact g_step (n' := m) h rfl (fun _ => by simp [mi_one, mi_A, mi_B, mi_i1, mi_i2, mi_br, h1, h2, hc]) (kt hc)
  · exact g_step (n' := pc + 3) h rfl (fun _ => by simp [mi_one, mi_A, mi_B, mi_i1, mi_i2, mi_br, h1, h2, hc]) (kf hc)
theorem g_ifle {r : List Value} {x : Int32} {off : Int} (m : Nat) (h : mg_f code pc = some (.ifCond .le off, n)) (ht : (pc : Int) + off = (m : Int)) (kt : (x ≤ 0) → GG sc own ini rz code d m ls r I nm Q) (kf : ¬ (x ≤ 0) → GG sc own ini rz code d n ls r I nm Q) : GG sc own ini rz code d pc ls (.int x :: r) I nm Q := by
  obtain rfl := g_next h
  have h1 : mi_ok pc off = true := decide_eq_true (by omega)
  have h2 : mi_tgt pc off = m := by unfold mi_tgt; omega
  by_cases hc : (x ≤ 0)
  · exact g_step (n' := m) h rfl (fun _ => by simp [mi_one, mi_A, mi_B, mi_i1, mi_i2, mi_br, h1, h2, hc]) (kt hc)
  · exact g_step (n' := pc + 3) h rfl (fun _ => by simp [mi_one, mi_A, mi_B, mi_i1, mi_i2, mi_br, h1, h2, hc]) (kf hc)
theorem g_icle {r : List Value} {x y : Int32} {off : Int} (m : Nat) (h : mg_f code pc = some (.if_icmp .le off, n)) (ht : (pc : Int) + off = (m : Int)) (kt : (x ≤ y) → GG sc own ini rz code d m ls r I nm Q) (kf : ¬ (x ≤ y) → GG sc own ini rz code d n ls r I nm Q) : GG sc own ini rz code d pc ls (.int y :: .int x :: r) I nm Q := by
  obtain rfl := g_next h
  have h1 : mi_ok pc off = true := decide_eq_true (by omega)
  have h2 : mi_tgt pc off = m := by unfold mi_tgt; omega
  by_cases hc : (x ≤ y)
  · exact g_step (n' := m) h rfl (fun _ => by simp [mi_one, mi_A, mi_B, mi_i1, mi_i2, mi_br, h1, h2, hc]) (kt hc)
  · exact g_step (n' := pc + 3) h rfl (fun _ => by simp [mi_one, mi_A, mi_B, mi_i1, mi_i2, mi_br, h1, h2, hc]) (kf hc)
theorem g_ifne {r : List Value} {x : Int32} {off : Int} (m : Nat) (h : mg_f code pc = some (.ifCond .ne off, n)) (ht : (pc : Int) + off = (m : Int)) (kt : ¬ (x = 0) → GG sc own ini rz code d m ls r I nm Q) (kf : (x = 0) → GG sc own ini rz code d n ls r I nm Q) : GG sc own ini rz code d pc ls (.int x :: r) I nm Q := by
  obtain rfl := g_next h
  have h1 : mi_ok pc off = true := decide_eq_true (by omega)
  have h2 : mi_tgt pc off = m := by unfold mi_tgt; omega
  by_cases hc : (x = 0)
  · exact g_step (n' := pc + 3) h rfl (fun _ => by simp [mi_one, mi_A, mi_B, mi_i1, mi_i2, mi_br, h1, h2, hc]) (kf hc)
  · exact g_step (n' := m) h rfl (fun _ => by simp [mi_one, mi_A, mi_B, mi_i1, mi_i2, mi_br, h1, h2, hc]) (kt hc)
theorem g_icne {r : List Value} {x y : Int32} {off : Int} (m : Nat) (h : mg_f code pc = some (.if_icmp .ne off, n)) (ht : (pc : Int) + off = (m : Int)) (kt : ¬ (x = y) → GG sc own ini rz code d m ls r I nm Q) (kf : (x = y) → GG sc own ini rz code d n ls r I nm Q) : GG sc own ini rz code d pc ls (.int y :: .int x :: r) I nm Q := by
  obtain rfl := g_next h
  have h1 : mi_ok pc off = true := decide_eq_true (by omega)
  have h2 : mi_tgt pc off = m := by unfold mi_tgt; omega
  by_cases hc : (x = y)
  · exact g_step (n' := pc + 3) h rfl (fun _ => by simp [mi_one, mi_A, mi_B, mi_i1, mi_i2, mi_br, h1, h2, hc]) (kf hc)
  · exact g_step (n' := m) h rfl (fun _ => by simp [mi_one, mi_A, mi_B, mi_i1, mi_i2, mi_br, h1, h2, hc]) (kt hc)
theorem g_goto {r : List Value} {off : Int} (m : Nat) (h : mg_f code pc = some (.goto off, n)) (ht : (pc : Int) + off = (m : Int)) (k : GG sc own ini rz code d m ls r I nm Q) : GG sc own ini rz code d pc ls r I nm Q := by
  have h1 : mi_ok pc off = true := decide_eq_true (by omega)
  have h2 : mi_tgt pc off = m := by unfold mi_tgt; omega
  exact g_step h rfl (fun _ => by simp [mi_one, mi_A, mi_B, mi_to, h1, h2]) k
theorem g_tab {r : List Value} {x : Int32} {df lo hi off : Int} {offs : Array Int} (m : Nat) (h : mg_f code pc = some (.tableswitch df lo hi offs, n)) (h1 : ¬ x.toInt < lo) (h2 : ¬ hi < x.toInt) (ho : offs[(x.toInt - lo).toNat]? = some off) (ht : (pc : Int) + off = (m : Int)) (k : GG sc own ini rz code d m ls r I nm Q) : GG sc own ini rz code d pc ls (.int x :: r) I nm Q := by
  have h3 : mi_ok pc off = true := decide_eq_true (by omega)
  have h4 : mi_tgt pc off = m := by unfold mi_tgt; omega
  refine g_step h rfl (fun _ => ?_) k
  have e : ¬ (x.toInt < lo ∨ hi < x.toInt) := fun z => z.elim h1 h2
  simp only [mi_one, mi_A, mi_B]
  rw [if_neg e, ho]
  simp [mi_to, h3, h4]
theorem g_tabo {r : List Value} {x : Int32} {df lo hi : Int} {offs : Array Int} (m : Nat) (h : mg_f code pc = some (.tableswitch df lo hi offs, n)) (h1 : x.toInt < lo ∨ hi < x.toInt) (ht : (pc : Int) + df = (m : Int)) (k : GG sc own ini rz code d m ls r I nm Q) : GG sc own ini rz code d pc ls (.int x :: r) I nm Q := by
  have h3 : mi_ok pc df = true := decide_eq_true (by omega)
  have h4 : mi_tgt pc df = m := by unfold mi_tgt; omega
  refine g_step h rfl (fun _ => ?_) k
  simp only [mi_one, mi_A, mi_B]
  rw [if_pos h1]
  simp [mi_to, h3, h4]
theorem g_look {r : List Value} {x : Int32} {df off : Int} {ps : Array (Int × Int)} (m : Nat) (h : mg_f code pc = some (.lookupswitch df ps, n)) (hp : (ps.toList.zip (ps.toList.drop 1)).all (fun (a, next) => a.1 < next.1) = true) (ho : Op.lookupswitch.offset ps.toList df x.toInt = off) (ht : (pc : Int) + off = (m : Int)) (k : GG sc own ini rz code d m ls r I nm Q) : GG sc own ini rz code d pc ls (.int x :: r) I nm Q := by
  have h3 : mi_ok pc off = true := decide_eq_true (by omega)
  have h4 : mi_tgt pc off = m := by unfold mi_tgt; omega
  refine g_step h rfl (fun _ => ?_) k
  simp only [mi_one, mi_A, mi_B]
  rw [if_pos hp, ho]
  simp [mi_to, h3, h4]
theorem g_iret {v : Int32} (h : mg_f code pc = some (.ireturn, n)) (hz : rz = true → v = 0 ∨ v = 1) (k : Q (some (.int v)) I nm) : GG sc own ini rz code d pc ls [.int v] I nm Q := by
  refine ⟨0, 1, some (.int v), I, nm, ?_, k⟩
  obtain ⟨i', hi, he⟩ := Option.map_eq_some_iff.mp h
  cases he
  rw [mi_go, hi, Option.bind_some]
  simp only [mi_ret]
  rw [if_pos hz]
theorem g_vret (h : mg_f code pc = some (.return_, n)) (k : Q none I nm) : GG sc own ini rz code d pc ls [] I nm Q := by
  refine ⟨0, 1, none, I, nm, ?_, k⟩
  obtain ⟨i', hi, he⟩ := Option.map_eq_some_iff.mp h
  cases he
  rw [mi_go, hi, Option.bind_some]
  rfl
theorem mf_ld {a h : Nat} (h5 : 5 ≤ a) (ha : a < 136) (hk : mf_hd a = h) : mi_ld (mf_M I nm sc) a h = some (mf_c I nm a).2 := by
  unfold mi_ld
  rw [mf_get h5 ha, Option.bind_some]
  exact if_pos hk
/-- fields: which are ints -/
def mg_int (ci j : Nat) : Bool := match ci with
  | 1 => decide (2 ≤ j ∧ j ≤ 6)
  | 4 => decide (j < 16)
  | 6 => decide (j = 1)
  | 8 => decide (j < 2 ∨ (6 ≤ j ∧ j < 9))
  | 11 => decide (j = 4)
  | 12 => decide (j = 3 ∨ (5 ≤ j ∧ j ≤ 10) ∨ j = 12 ∨ j = 13 ∨ (15 ≤ j ∧ j ≤ 17) ∨ j = 19 ∨ j = 20)
  | 20 => decide (j < 400)
  | _ => false
theorem mg_dom : ∀ a, a < 136 → ∀ j, j < 25 → (a < 5 ∨ mf_hd a = 20 ∨ mg_int (mf_hd a) j = false ∨ (j < mf_sz a ∧ mf_rf a j = none ∧ ¬ (a = 104 ∧ j = 5))) := by decide +kernel
theorem mg_big {a : Nat} (h : 136 ≤ a) : mf_hd a = 0 := by
  unfold mf_hd
  rw [List.getD_eq_getElem?_getD, List.getElem?_eq_none (by show 131 ≤ a - 5; omega)]
  rfl
theorem mg_low : ∀ a, a < 5 → mf_hd a = 11 := by decide +kernel
theorem mg_arr : ∀ a, a < 136 → (mf_hd a = 20 → mf_sz a ≤ 300 ∧ (mf_sh.getD (a - 5) (0, 0, [])).2.2 = [] ∧ a ≠ 104) := by decide +kernel
theorem mg_i {a ci j : Nat} (h5 : 5 ≤ a) (hk : mf_hd a = ci) (hi : mg_int ci j = true) (hc : ci ≠ 20) : mf_int a j := by
  have ha : a < 136 := Nat.not_le.mp fun z => by
    rw [mg_big z] at hk
    subst hk
    cases hi
  have hj : j < 25 := by
    unfold mg_int at hi
    split at hi <;> first | (have := of_decide_eq_true hi; omega) | cases hi
  rcases mg_dom a ha j hj with h | h | h | h
  · omega
  · exact absurd (hk.symm.trans h) hc
  · rw [hk, hi] at h; cases h
  · exact ⟨h5, ha, h⟩
theorem mg_a {a k : Nat} (h5 : 5 ≤ a) (hk : mf_hd a = 20) (hj : k < mf_sz a) : mf_int a k := by
  have ha : a < 136 := Nat.not_le.mp fun z => by
    rw [mg_big z] at hk
    cases hk
  obtain ⟨-, h2, h3⟩ := mg_arr a ha hk
  exact ⟨h5, ha, hj, by unfold mf_rf; rw [h2]; rfl, fun z => h3 z.1⟩
theorem g_geti {r : List Value} {a fk ci j : Nat} (h : mg_f code pc = some (.getfield fk, n)) (hg : mi_gf own fk = some (ci, j)) (hi : mg_int ci j = true) (hc : ci ≠ 20) (hk : 5 ≤ a ∧ mf_hd a = ci) (k : GG sc own ini rz code d n ls (.int (I a j) :: r) I nm Q) : GG sc own ini rz code d pc ls (.ref a :: r) I nm Q := by
  obtain rfl := g_next h
  have hint := mg_i hk.1 hk.2 hi hc
  refine g_step h rfl (fun _ => ?_) k
  have e : mi_getf own fk (.ref a :: r) (mf_M I nm sc) = some (.int (I a j) :: r, mf_M I nm sc) := by
    simp only [mi_getf, hg, Option.bind_some, mf_ld hint.1 hint.2.1 hk.2, mf_slot hint.2.2.1, Option.map_some, mf_v_int hint]
  simp only [mi_one, mi_A, mi_B, mi_L, mi_Y, e]
theorem g_getr {r : List Value} {a fk ci j b : Nat} (h : mg_f code pc = some (.getfield fk, n)) (hg : mi_gf own fk = some (ci, j)) (hk : 5 ≤ a ∧ mf_hd a = ci) (ha : a < 136 ∧ j < mf_sz a) (hr : mf_rf a j = some b) (k : GG sc own ini rz code d n ls (.ref b :: r) I nm Q) : GG sc own ini rz code d pc ls (.ref a :: r) I nm Q := by
  obtain rfl := g_next h
  refine g_step h rfl (fun _ => ?_) k
  have hv : mf_v I nm a j = .ref b := by unfold mf_v; rw [hr]
  have e : mi_getf own fk (.ref a :: r) (mf_M I nm sc) = some (.ref b :: r, mf_M I nm sc) := by
    simp only [mi_getf, hg, Option.bind_some, mf_ld hk.1 ha.1 hk.2, mf_slot ha.2, Option.map_some, hv]
  simp only [mi_one, mi_A, mi_B, mi_L, mi_Y, e]
theorem g_puti {r : List Value} {a fk ci j : Nat} {v : Int32} (h : mg_f code pc = some (.putfield fk, n)) (hg : mi_gf own fk = some (ci, j)) (hi : mg_int ci j = true) (hc : ci ≠ 20) (hk : 5 ≤ a ∧ mf_hd a = ci) (hf : mi_fin ci j = false) (hfit : mi_fit (mi_ty ci j) (.int v) = true) (k : GG sc own ini rz code d n ls r (mf_up I a j v) nm Q) : GG sc own ini rz code d pc ls (.int v :: .ref a :: r) I nm Q := by
  obtain rfl := g_next h
  have hint := mg_i hk.1 hk.2 hi hc
  refine g_step h rfl (fun _ => ?_) k
  have e : mi_putf own ini fk (.int v :: .ref a :: r) (mf_M I nm sc) = some (r, mf_M (mf_up I a j v) nm sc) := by
    simp only [mi_putf, hg, Option.bind_some, mf_ld hint.1 hint.2.1 hk.2]
    rw [if_pos ⟨by rw [mf_clen]; exact hint.2.2.1, hfit, Or.inl hf⟩]
    rw [← hk.2, mf_up_M hint]
  simp only [mi_one, mi_A, mi_B, mi_L, mi_Y, e]
theorem mg_ix {a x : Nat} {i : Int32} (hi : i = nI x) (hk : x < a) (ha : a ≤ 4000) : mi_ix i a = true ∧ i.toNatClampNeg = x := by
  subst hi
  have h1 := nI_toInt (n := x) (by omega)
  refine ⟨?_, nI_clamp (by omega)⟩
  simp only [mi_ix, h1, Bool.and_eq_true, decide_eq_true_eq]
  omega
theorem g_iald {r : List Value} {a : Nat} {i : Int32} (x : Nat) (h : mg_f code pc = some (.iaload, n)) (hk : 5 ≤ a ∧ mf_hd a = 20) (hi : i = nI x) (hx : x < mf_sz a) (k : GG sc own ini rz code d n ls (.int (I a x) :: r) I nm Q) : GG sc own ini rz code d pc ls (.int i :: .ref a :: r) I nm Q := by
  obtain rfl := g_next h
  have hint := mg_a hk.1 hk.2 hx
  have hle := (mg_arr a hint.2.1 hk.2).1
  obtain ⟨h1, h2⟩ := mg_ix hi hx (by omega)
  refine g_step h rfl (fun _ => ?_) k
  have e : mi_ial (.int i :: .ref a :: r) (mf_M I nm sc) = some (.int (I a x) :: r, mf_M I nm sc) := by
    simp only [mi_ial, mf_get hint.1 hint.2.1, Option.bind_some]
    rw [if_pos ⟨Or.inl hk.2, by rw [mf_clen]; exact h1⟩, h2, mf_slot hx, mf_v_int hint]
  simp only [mi_one, mi_A, mi_B, mi_L, mi_Y, e]
theorem g_iast {r : List Value} {a : Nat} {i v : Int32} (x : Nat) (h : mg_f code pc = some (.iastore, n)) (hk : 5 ≤ a ∧ mf_hd a = 20) (hi : i = nI x) (hx : x < mf_sz a) (k : GG sc own ini rz code d n ls r (mf_up I a x v) nm Q) : GG sc own ini rz code d pc ls (.int v :: .int i :: .ref a :: r) I nm Q := by
  obtain rfl := g_next h
  have hint := mg_a hk.1 hk.2 hx
  have hle := (mg_arr a hint.2.1 hk.2).1
  obtain ⟨h1, h2⟩ := mg_ix hi hx (by omega)
  refine g_step h rfl (fun _ => ?_) k
  have e : mi_ias (.int v :: .int i :: .ref a :: r) (mf_M I nm sc) = some (r, mf_M (mf_up I a x v) nm sc) := by
    simp only [mi_ias, mf_ld hint.1 hint.2.1 hk.2, Option.bind_some]
    rw [if_pos (by rw [mf_clen]; exact h1), h2, ← hk.2, mf_up_M hint]
  simp only [mi_one, mi_A, mi_B, mi_L, mi_Y, e]
theorem g_aald {r : List Value} {a b : Nat} {i : Int32} (x : Nat) (h : mg_f code pc = some (.aaload, n)) (hk : 5 ≤ a ∧ a < 136) (hk2 : 20 < mf_hd a ∧ mf_hd a < 25) (hi : i = nI x) (hx : x < mf_sz a ∧ mf_sz a ≤ 4000) (hr : mf_rf a x = some b) (k : GG sc own ini rz code d n ls (.ref b :: r) I nm Q) : GG sc own ini rz code d pc ls (.int i :: .ref a :: r) I nm Q := by
  obtain rfl := g_next h
  obtain ⟨h1, h2⟩ := mg_ix hi hx.1 hx.2
  have hv : mf_v I nm a x = .ref b := by unfold mf_v; rw [hr]
  refine g_step h rfl (fun _ => ?_) k
  have e : mi_aal (.int i :: .ref a :: r) (mf_M I nm sc) = some (.ref b :: r, mf_M I nm sc) := by
    simp only [mi_aal, mf_get hk.1 hk.2, Option.bind_some]
    rw [if_pos ⟨hk2, by rw [mf_clen]; exact h1⟩, h2, mf_slot hx.1, hv]
  simp only [mi_one, mi_A, mi_B, mi_L, mi_Y, e]
theorem g_alen {r : List Value} {a : Nat} {v : Int32} (h : mg_f code pc = some (.arraylength, n)) (hk : 5 ≤ a ∧ mf_hd a = 20) (hv : nI (mf_sz a) = v) (k : GG sc own ini rz code d n ls (.int v :: r) I nm Q) : GG sc own ini rz code d pc ls (.ref a :: r) I nm Q := by
  obtain rfl := g_next h
  have ha : a < 136 := Nat.not_le.mp fun z => by
    have := hk.2
    rw [mg_big z] at this
    cases this
  refine g_step h rfl (fun _ => ?_) k
  have e : mi_aln (.ref a :: r) (mf_M I nm sc) = some (.int v :: r, mf_M I nm sc) := by
    simp only [mi_aln, mf_get hk.1 ha, Option.bind_some]
    rw [if_pos (Or.inl (by show 20 ≤ mf_hd a ∧ mf_hd a < 25; rw [hk.2]; decide)), mf_clen, ← hv]
    rfl
  simp only [mi_one, mi_A, mi_B, mi_L, mi_Y, e]
theorem g_ldc {r : List Value} {fk pl : Nat} {v : Int32} (h : mg_f code pc = some (.ldc fk, n)) (hg : mi_kc.lookup (own, fk) = some (v, pl)) (k : GG sc own ini rz code d n ls (.int v :: r) I nm Q) : GG sc own ini rz code d pc ls r I nm Q := by
  obtain rfl := g_next h
  refine g_step h rfl (fun _ => ?_) k
  simp only [mi_one, mi_A, mi_B, mi_L, mi_Y, mi_ldk, hg]
theorem g_ldcs {r : List Value} {fk v : Nat} (h : mg_f code pc = some (.ldc fk, n)) (hg0 : mi_kc.lookup (own, fk) = none) (hg : mi_ks.lookup (own, fk) = some v) (k : GG sc own ini rz code d n ls (.ref v :: r) I nm Q) : GG sc own ini rz code d pc ls r I nm Q := by
  obtain rfl := g_next h
  refine g_step h rfl (fun _ => ?_) k
  simp only [mi_one, mi_A, mi_B, mi_L, mi_Y, mi_ldk, hg0, hg, Option.map_some]
theorem g_ldc2 {r : List Value} {fk pl : Nat} {v : Int64} (h : mg_f code pc = some (.ldc2_w fk, n)) (hg : mi_kl.lookup (own, fk) = some (v, pl)) (k : GG sc own ini rz code d n ls (.long v :: r) I nm Q) : GG sc own ini rz code d pc ls r I nm Q := by
  obtain rfl := g_next h
  refine g_step h rfl (fun _ => ?_) k
  simp only [mi_one, mi_A, mi_B, mi_L, mi_Y, mi_ldk2, hg, Option.map_some]
/-- a call, by what MINI's table says of it -/
theorem g_call {i : Instr} {t hh : Nat} {as st rest : List Value} {Qc : Option Value → mg_I → Nat → Prop} (h : mg_f code pc = some (i, n)) (hl : mi_len i = 3) (hr : mi_ret rz i st = none) (hA : mi_A i st = none) (hB : mi_B i pc st = none) (hL : mi_L i ls st = none) (hY : ∀ mem : mi_M, mi_Y own ini i st mem = none)
    (hZ : ∀ f : mi_F, mi_Z f own i st (mf_M I nm sc) = (f t as (mf_M I nm sc)).map fun q => (q.1.toList ++ rest, q.2)) (hs : SP sc hh t as I nm Qc) (hd : hh ≤ d) (k : ∀ r I' nm', Qc r I' nm' → GG sc own ini rz code d n ls (r.toList ++ rest) I' nm' Q) : GG sc own ini rz code d pc ls st I nm Q := by
  obtain ⟨N1, r, I', nm', h1, h2⟩ := hs d hd
  obtain ⟨N2, m, r2, I2, nm2, h3, h4⟩ := k r I' nm' h2
  refine ⟨N1 + N2, m + 1, r2, I2, nm2, ?_, h4⟩
  obtain ⟨i', hi, he⟩ := Option.map_eq_some_iff.mp h
  have hn := g_next h
  cases he
  have e1 := mi_run_le (show N1 ≤ N1 + N2 by omega) d d (Nat.le_refl d) _ _ _ _ h1
  rw [mi_go, hi, Option.bind_some, hr]
  show (mi_one (mi_run (N1 + N2) d) own ini i pc ls st (mf_M I nm sc)).bind _ = _
  have e2 : mi_one (mi_run (N1 + N2) d) own ini i pc ls st (mf_M I nm sc) = some (pc + 3, ls, r.toList ++ rest, mf_M I' nm' sc) := by
    unfold mi_one
    rw [hA]
    simp only
    rw [hB]
    simp only
    rw [hL]
    simp only
    rw [hY]
    simp only
    rw [hZ, e1]
    rfl
  rw [e2, Option.bind_some, ← hl]
  exact mi_go_le (mi_run_le (by omega) d d (Nat.le_refl d)) _ _ _ _ _ _ _ (Nat.le_refl m) h3
end GR
