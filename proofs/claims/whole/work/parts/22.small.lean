/-! rows over known places; the model's small methods -/
theorem nI_plus (x y : Nat) : nI x + nI y = nI (x + y) := by
  apply Int32.toBitVec_inj.mp
  simp [nI]
theorem nI_times (x y : Nat) : nI x * nI y = nI (x * y) := by
  apply Int32.toBitVec_inj.mp
  simp [nI]
theorem nI_inc (k : Nat) : nI k + Int32.ofInt 1 = nI (k + 1) := nI_plus k 1
theorem lg_lt {x y : Int64} : lg_cmp x y < 0 ↔ x < y := by
  unfold lg_cmp
  split
  next h => exact ⟨fun z => absurd z (by decide), fun z => absurd h (by simp only [GT.gt, Int64.lt_iff_toInt_lt] at *; omega)⟩
  next h =>
    split
    next h2 => subst h2; exact ⟨fun z => absurd z (by decide), fun z => absurd z (by rw [Int64.lt_iff_toInt_lt]; omega)⟩
    next h2 => exact ⟨fun _ => by
      simp only [GT.gt, Int64.lt_iff_toInt_lt] at *
      have : x.toInt ≠ y.toInt := fun z => h2 (Int64.toInt_inj.mp z)
      omega, fun _ => by decide⟩
theorem lg_gt {x y : Int64} : 0 < lg_cmp x y ↔ y < x := by
  unfold lg_cmp
  split
  next h => exact ⟨fun _ => h, fun _ => by decide⟩
  next h =>
    split
    next h2 => exact ⟨fun z => absurd z (by decide), fun z => absurd z h⟩
    next h2 => exact ⟨fun z => absurd z (by decide), fun z => absurd z h⟩
theorem bI_fit {p : Prop} [Decidable p] : mi_fit .boolean (.int (bI p)) = true := decide_eq_true bI_01
/-- no answer, and the memory is this -/
def qZ (I : mg_I) (nm : Nat) : Option Value → mg_I → Nat → Prop := fun r I' nm' => r = none ∧ I' = I ∧ nm' = nm
theorem tI_0 : Int32.toInt (0) = 0 := by decide
theorem tI_1 : Int32.toInt (1) = 1 := by decide
theorem tI_2 : Int32.toInt (2) = 2 := by decide
theorem tI_3 : Int32.toInt (3) = 3 := by decide
theorem tI_4 : Int32.toInt (4) = 4 := by decide
theorem tI_5 : Int32.toInt (5) = 5 := by decide
theorem tI_6 : Int32.toInt (6) = 6 := by decide
theorem tI_7 : Int32.toInt (7) = 7 := by decide
theorem tI_8 : Int32.toInt (8) = 8 := by decide
theorem tI_9 : Int32.toInt (9) = 9 := by decide
theorem tI_10 : Int32.toInt (10) = 10 := by decide
theorem tI_11 : Int32.toInt (11) = 11 := by decide
theorem tI_12 : Int32.toInt (12) = 12 := by decide
theorem tI_13 : Int32.toInt (13) = 13 := by decide
theorem tI_14 : Int32.toInt (14) = 14 := by decide
theorem tI_19 : Int32.toInt (19) = 19 := by decide
theorem tI_20 : Int32.toInt (20) = 20 := by decide
theorem tI_23 : Int32.toInt (23) = 23 := by decide
theorem tI_24 : Int32.toInt (24) = 24 := by decide
theorem tI_40 : Int32.toInt (40) = 40 := by decide
theorem tI_50 : Int32.toInt (50) = 50 := by decide
theorem tI_59 : Int32.toInt (59) = 59 := by decide
theorem tI_60 : Int32.toInt (60) = 60 := by decide
theorem tI_69 : Int32.toInt (69) = 69 := by decide
theorem tI_70 : Int32.toInt (70) = 70 := by decide
theorem tI_99 : Int32.toInt (99) = 99 := by decide
theorem tI_114 : Int32.toInt (114) = 114 := by decide
theorem tI_286 : Int32.toInt (286) = 286 := by decide
theorem tI_300 : Int32.toInt (300) = 300 := by decide
theorem tI_999 : Int32.toInt (999) = 999 := by decide
theorem tI_9999 : Int32.toInt (9999) = 9999 := by decide
theorem tI_99999 : Int32.toInt (99999) = 99999 := by decide
theorem tI_m1 : Int32.toInt (-1) = -1 := by decide
theorem tI_m2 : Int32.toInt (-2) = -2 := by decide
theorem tI_m3 : Int32.toInt (-3) = -3 := by decide
theorem tI_m99 : Int32.toInt (-99) = -99 := by decide
theorem tI_m99999 : Int32.toInt (-99999) = -99999 := by decide
section GK
variable {sc : List Value} {own : Nat} {ini rz : Bool} {code : List (Nat × Instr)} {d pc n : Nat} {ls : List Value} {I : mg_I} {nm : Nat} {Q : Option Value → mg_I → Nat → Prop}
theorem g_iaddN {r : List Value} {x y : Nat} (h : mg_f code pc = some (.iadd, n)) (k : GG sc own ini rz code d n ls (.int (nI (x + y)) :: r) I nm Q) : GG sc own ini rz code d pc ls (.int (nI y) :: .int (nI x) :: r) I nm Q :=
  g_iadd h (by rw [nI_plus]; exact k)
theorem g_imulN {r : List Value} {x y : Nat} (h : mg_f code pc = some (.imul, n)) (k : GG sc own ini rz code d n ls (.int (nI (x * y)) :: r) I nm Q) : GG sc own ini rz code d pc ls (.int (nI y) :: .int (nI x) :: r) I nm Q :=
  g_imul h (by rw [nI_times]; exact k)
theorem g_ifeq1 {r : List Value} {off : Int} (m : Nat) (h : mg_f code pc = some (.ifCond .eq off, n)) (ht : (pc : Int) + off = (m : Int)) (k : GG sc own ini rz code d n ls r I nm Q) : GG sc own ini rz code d pc ls (.int 1 :: r) I nm Q := g_ifeq m h ht (fun z => absurd z (by decide)) (fun _ => k)
theorem g_ifeq0 {r : List Value} {off : Int} (m : Nat) (h : mg_f code pc = some (.ifCond .eq off, n)) (ht : (pc : Int) + off = (m : Int)) (k : GG sc own ini rz code d m ls r I nm Q) : GG sc own ini rz code d pc ls (.int 0 :: r) I nm Q := g_ifeq m h ht (fun _ => k) (fun z => absurd rfl z)
theorem g_ifne1 {r : List Value} {off : Int} (m : Nat) (h : mg_f code pc = some (.ifCond .ne off, n)) (ht : (pc : Int) + off = (m : Int)) (k : GG sc own ini rz code d m ls r I nm Q) : GG sc own ini rz code d pc ls (.int 1 :: r) I nm Q := g_ifne m h ht (fun _ => k) (fun z => absurd z (by decide))
theorem g_ifne0 {r : List Value} {off : Int} (m : Nat) (h : mg_f code pc = some (.ifCond .ne off, n)) (ht : (pc : Int) + off = (m : Int)) (k : GG sc own ini rz code d n ls r I nm Q) : GG sc own ini rz code d pc ls (.int 0 :: r) I nm Q := g_ifne m h ht (fun z => absurd rfl z) (fun _ => k)
theorem g_E {r : List Value} {v : Int32} {I' : mg_I} {nm' : Nat} (k : GG sc own ini rz code d n ls (.int v :: r) I' nm' Q) : ∀ a I2 nm2, qE v I' nm' a I2 nm2 → GG sc own ini rz code d n ls (a.toList ++ r) I2 nm2 Q := by
  rintro a I2 nm2 ⟨rfl, rfl, rfl⟩
  exact k
theorem g_Z {r : List Value} {I' : mg_I} {nm' : Nat} (k : GG sc own ini rz code d n ls r I' nm' Q) : ∀ a I2 nm2, qZ I' nm' a I2 nm2 → GG sc own ini rz code d n ls (a.toList ++ r) I2 nm2 Q := by
  rintro a I2 nm2 ⟨rfl, rfl, rfl⟩
  exact k
end GK
theorem bI_is {p : Prop} [Decidable p] {v : Int32} (h : (p ∧ v = 1) ∨ (¬ p ∧ v = 0)) : v = bI p := by
  rcases h with ⟨h, rfl⟩ | ⟨h, rfl⟩
  · exact (bI_t h).symm
  · exact (bI_f h).symm
/-- the places of a goer -/
def fO (d : Nat → Int32) (g w : Nat) : Int32 := d (34 + 10 * g + w)
theorem c_of {sc : List Value} {nm : Nat} {I : mg_I} {g w : Nat} (hg : g < 8) (hw : w < 10) : SP sc 1 145 [.ref 124, .int (nI g), .int (nI w)] I nm (qE (fO (I 125) g w) I nm) := by
  refine SP.of (h := 0) (t := 145) (q := (yX12_of, cX12_of, 3, (some .int), 12, 1231, mi_k145)) rfl (by decide) (show ¬ (3 : Nat) < 3 by decide) (fun d hd => ?_)
  show GG sc 12 false false mi_k145 d 0 [.ref 124, .int (nI g), .int (nI w)] [] I nm (qE (fO (I 125) g w) I nm)
  refine g_aload_n (n := 1) rfl rfl ?_
  refine g_getr (n := 4) (ci := 12) (j := 0) (b := 125) rfl (by decide +kernel) (by decide) (by decide) (by decide +kernel) ?_
  refine g_bipush (n := 6) (v := 34) rfl rfl ?_
  refine g_bipush (n := 8) (v := 10) rfl rfl ?_
  refine g_iload_n (n := 9) rfl rfl ?_
  refine g_imulN (n := 10) (x := 10) (y := g) rfl ?_
  refine g_iaddN (n := 11) (x := 34) (y := (10 * g)) rfl ?_
  refine g_iload_n (n := 12) rfl rfl ?_
  refine g_iaddN (n := 13) (x := (34 + (10 * g))) (y := w) rfl ?_
  refine g_iald (n := 14) (((34 + (10 * g)) + w)) rfl (by decide) rfl (by show _ < 286; omega) ?_
  refine g_iret (n := 15) rfl (fun h => nomatch h) ?_
  exact ⟨rfl, rfl, rfl⟩
theorem c_sets {sc : List Value} {nm : Nat} {I : mg_I} {g w : Nat} {v : Int32} (hg : g < 8) (hw : w < 10) : SP sc 1 146 [.ref 124, .int (nI g), .int (nI w), .int v] I nm (qZ (mf_up I 125 (34 + 10 * g + w) v) nm) := by
  refine SP.of (h := 0) (t := 146) (q := (yX12_sets, cX12_sets, 4, none, 12, 1254, mi_k146)) rfl (by decide) (show ¬ (4 : Nat) < 4 by decide) (fun d hd => ?_)
  show GG sc 12 false false mi_k146 d 0 [.ref 124, .int (nI g), .int (nI w), .int v] [] I nm (qZ (mf_up I 125 (34 + 10 * g + w) v) nm)
  refine g_aload_n (n := 1) rfl rfl ?_
  refine g_getr (n := 4) (ci := 12) (j := 0) (b := 125) rfl (by decide +kernel) (by decide) (by decide) (by decide +kernel) ?_
  refine g_bipush (n := 6) (v := 34) rfl rfl ?_
  refine g_bipush (n := 8) (v := 10) rfl rfl ?_
  refine g_iload_n (n := 9) rfl rfl ?_
  refine g_imulN (n := 10) (x := 10) (y := g) rfl ?_
  refine g_iaddN (n := 11) (x := 34) (y := (10 * g)) rfl ?_
  refine g_iload_n (n := 12) rfl rfl ?_
  refine g_iaddN (n := 13) (x := (34 + (10 * g))) (y := w) rfl ?_
  refine g_iload_n (n := 14) rfl rfl ?_
  refine g_iast (n := 15) (((34 + (10 * g)) + w)) rfl (by decide) rfl (by show _ < 286; omega) ?_
  refine g_vret (n := 16) rfl ?_
  exact ⟨rfl, rfl, rfl⟩
theorem c_isLedge {sc : List Value} {nm : Nat} {I : mg_I} {y : Nat} (hy : y < 24) : SP sc 1 164 [.ref 124, .int (nI y)] I nm (qE (bI (1 < I 125 (10 + y))) I nm) := by
  refine SP.of (h := 0) (t := 164) (q := (yX12_isLedge, cX12_isLedge, 2, (some .boolean), 12, 1235, mi_k164)) rfl (by decide) (show ¬ (2 : Nat) < 2 by decide) (fun d hd => ?_)
  show GG sc 12 false true mi_k164 d 0 [.ref 124, .int (nI y)] [] I nm (qE (bI (1 < I 125 (10 + y))) I nm)
  refine g_aload_n (n := 1) rfl rfl ?_
  refine g_getr (n := 4) (ci := 12) (j := 0) (b := 125) rfl (by decide +kernel) (by decide) (by decide) (by decide +kernel) ?_
  refine g_bipush (n := 6) (v := 10) rfl rfl ?_
  refine g_iload_n (n := 7) rfl rfl ?_
  refine g_iaddN (n := 8) (x := 10) (y := y) rfl ?_
  refine g_iald (n := 9) ((10 + y)) rfl (by decide) rfl (by show _ < 286; omega) ?_
  refine g_iconst (n := 10) (v := 1) rfl rfl ?_
  refine g_icle (n := 13) 17 rfl (by decide) (fun h1 => ?_) (fun h1 => ?_)
  ·
    refine g_iconst (n := 18) (v := 0) rfl rfl ?_
    refine g_iret (n := 19) rfl (fun _ => by first | exact Or.inl rfl | exact Or.inr rfl | exact bI_01) ?_
    exact ⟨congrArg (fun z => some (Value.int z)) (by first | exact (bI_t (by (try simp only [lg_lt, lg_gt] at *); simp only [Int32.lt_iff_toInt_lt, Int32.le_iff_toInt_le, Int64.lt_iff_toInt_lt, Int64.le_iff_toInt_le] at *; omega)).symm | exact (bI_f (by (try simp only [lg_lt, lg_gt] at *); simp only [Int32.lt_iff_toInt_lt, Int32.le_iff_toInt_le, Int64.lt_iff_toInt_lt, Int64.le_iff_toInt_le] at *; omega)).symm), rfl, rfl⟩
  ·
    refine g_iconst (n := 14) (v := 1) rfl rfl ?_
    refine g_goto 18 rfl (by decide) ?_
    refine g_iret (n := 19) rfl (fun _ => by first | exact Or.inl rfl | exact Or.inr rfl | exact bI_01) ?_
    exact ⟨congrArg (fun z => some (Value.int z)) (by first | exact (bI_t (by (try simp only [lg_lt, lg_gt] at *); simp only [Int32.lt_iff_toInt_lt, Int32.le_iff_toInt_le, Int64.lt_iff_toInt_lt, Int64.le_iff_toInt_le] at *; omega)).symm | exact (bI_f (by (try simp only [lg_lt, lg_gt] at *); simp only [Int32.lt_iff_toInt_lt, Int32.le_iff_toInt_le, Int64.lt_iff_toInt_lt, Int64.le_iff_toInt_le] at *; omega)).symm), rfl, rfl⟩
theorem c_finds {sc : List Value} {nm : Nat} {I : mg_I} {k : Nat} (hk : k < 6) : SP sc 1 140 [.ref 124, .int (nI k)] I nm (qE (-1000000000 - nI k) (mf_up I 128 k (I 128 k + 1)) nm) := by
  refine SP.of (h := 0) (t := 140) (q := (yX12_finds, cX12_finds, 2, (some .int), 12, 1147, mi_k140)) rfl (by decide) (show ¬ (2 : Nat) < 2 by decide) (fun d hd => ?_)
  show GG sc 12 false false mi_k140 d 0 [.ref 124, .int (nI k)] [] I nm (qE (-1000000000 - nI k) (mf_up I 128 k (I 128 k + 1)) nm)
  refine g_aload_n (n := 1) rfl rfl ?_
  refine g_getr (n := 4) (ci := 12) (j := 4) (b := 128) rfl (by decide +kernel) (by decide) (by decide) (by decide +kernel) ?_
  refine g_iload_n (n := 5) rfl rfl ?_
  refine g_dup2 (n := 6) rfl ?_
  refine g_iald (n := 7) (k) rfl (by decide) rfl (by show _ < 6; omega) ?_
  refine g_iconst (n := 8) (v := 1) rfl rfl ?_
  refine g_iadd (n := 9) rfl ?_
  refine g_iast (n := 10) (k) rfl (by decide) rfl (by show _ < 6; omega) ?_
  refine g_ldc (n := 12) (v := -1000000000) (pl := 1148) rfl (by decide +kernel) ?_
  refine g_iload_n (n := 13) rfl rfl ?_
  refine g_isub (n := 14) rfl ?_
  refine g_iret (n := 15) rfl (fun h => nomatch h) ?_
  exact ⟨rfl, rfl, rfl⟩
theorem c_held {sc : List Value} {nm : Nat} {I : mg_I} {x lo hi : Int32} : SP sc 1 142 [.int x, .int lo, .int hi] I nm (qE (if x < lo then lo else if hi < x then hi else x) I nm) := by
  refine SP.of (h := 0) (t := 142) (q := (yX12_held, cX12_held, 3, (some .int), 12, 1210, mi_k142)) rfl (by decide) (show ¬ (3 : Nat) < 3 by decide) (fun d hd => ?_)
  show GG sc 12 false false mi_k142 d 0 [.int x, .int lo, .int hi] [] I nm (qE (if x < lo then lo else if hi < x then hi else x) I nm)
  refine g_iload_n (n := 1) rfl rfl ?_
  refine g_iload_n (n := 2) rfl rfl ?_
  refine g_icge (n := 5) 9 rfl (by decide) (fun h1 => ?_) (fun h1 => ?_)
  ·
    refine g_iload_n (n := 10) rfl rfl ?_
    refine g_iload_n (n := 11) rfl rfl ?_
    refine g_icle (n := 14) 18 rfl (by decide) (fun h2 => ?_) (fun h2 => ?_)
    ·
      refine g_iload_n (n := 19) rfl rfl ?_
      refine g_iret (n := 20) rfl (fun h => nomatch h) ?_
      exact ⟨congrArg (fun z => some (Value.int z)) (by split <;> first | rfl | (split <;> first | rfl | (exfalso; (try simp only [lg_lt, lg_gt] at *); simp only [Int32.lt_iff_toInt_lt, Int32.le_iff_toInt_le, Int64.lt_iff_toInt_lt, Int64.le_iff_toInt_le] at *; omega))  | (exfalso; (try simp only [lg_lt, lg_gt] at *); simp only [Int32.lt_iff_toInt_lt, Int32.le_iff_toInt_le, Int64.lt_iff_toInt_lt, Int64.le_iff_toInt_le] at *; omega)), rfl, rfl⟩
    ·
      refine g_iload_n (n := 15) rfl rfl ?_
      refine g_goto 19 rfl (by decide) ?_
      refine g_iret (n := 20) rfl (fun h => nomatch h) ?_
      exact ⟨congrArg (fun z => some (Value.int z)) (by split <;> first | rfl | (split <;> first | rfl | (exfalso; (try simp only [lg_lt, lg_gt] at *); simp only [Int32.lt_iff_toInt_lt, Int32.le_iff_toInt_le, Int64.lt_iff_toInt_lt, Int64.le_iff_toInt_le] at *; omega))  | (exfalso; (try simp only [lg_lt, lg_gt] at *); simp only [Int32.lt_iff_toInt_lt, Int32.le_iff_toInt_le, Int64.lt_iff_toInt_lt, Int64.le_iff_toInt_le] at *; omega)), rfl, rfl⟩
  ·
    refine g_iload_n (n := 6) rfl rfl ?_
    refine g_goto 19 rfl (by decide) ?_
    refine g_iret (n := 20) rfl (fun h => nomatch h) ?_
    exact ⟨congrArg (fun z => some (Value.int z)) (by split <;> first | rfl | (split <;> first | rfl | (exfalso; (try simp only [lg_lt, lg_gt] at *); simp only [Int32.lt_iff_toInt_lt, Int32.le_iff_toInt_le, Int64.lt_iff_toInt_lt, Int64.le_iff_toInt_le] at *; omega))  | (exfalso; (try simp only [lg_lt, lg_gt] at *); simp only [Int32.lt_iff_toInt_lt, Int32.le_iff_toInt_le, Int64.lt_iff_toInt_lt, Int64.le_iff_toInt_le] at *; omega)), rfl, rfl⟩
theorem c_in {sc : List Value} {nm : Nat} {I : mg_I} {x lo hi : Int64} : SP sc 1 141 [.long x, .long lo, .long hi] I nm (qE (bI (lo ≤ x ∧ x ≤ hi)) I nm) := by
  refine SP.of (h := 0) (t := 141) (q := (yX12_in, cX12_in, 6, (some .boolean), 12, 1143, mi_k141)) rfl (by decide) (show ¬ (6 : Nat) < 6 by decide) (fun d hd => ?_)
  show GG sc 12 false true mi_k141 d 0 [.long x, .null, .long lo, .null, .long hi, .null] [] I nm (qE (bI (lo ≤ x ∧ x ≤ hi)) I nm)
  refine g_lload_n (n := 1) rfl rfl ?_
  refine g_lload_n (n := 2) rfl rfl ?_
  refine g_lcmp (n := 3) rfl ?_
  refine g_iflt (n := 6) 17 rfl (by decide) (fun h1 => ?_) (fun h1 => ?_)
  ·
    refine g_iconst (n := 18) (v := 0) rfl rfl ?_
    refine g_iret (n := 19) rfl (fun _ => by first | exact Or.inl rfl | exact Or.inr rfl | exact bI_01) ?_
    exact ⟨congrArg (fun z => some (Value.int z)) (by first | exact (bI_t (by (try simp only [lg_lt, lg_gt] at *); simp only [Int32.lt_iff_toInt_lt, Int32.le_iff_toInt_le, Int64.lt_iff_toInt_lt, Int64.le_iff_toInt_le] at *; omega)).symm | exact (bI_f (by (try simp only [lg_lt, lg_gt] at *); simp only [Int32.lt_iff_toInt_lt, Int32.le_iff_toInt_le, Int64.lt_iff_toInt_lt, Int64.le_iff_toInt_le] at *; omega)).symm), rfl, rfl⟩
  ·
    refine g_lload_n (n := 7) rfl rfl ?_
    refine g_lload (n := 9) rfl rfl ?_
    refine g_lcmp (n := 10) rfl ?_
    refine g_ifgt (n := 13) 17 rfl (by decide) (fun h2 => ?_) (fun h2 => ?_)
    ·
      refine g_iconst (n := 18) (v := 0) rfl rfl ?_
      refine g_iret (n := 19) rfl (fun _ => by first | exact Or.inl rfl | exact Or.inr rfl | exact bI_01) ?_
      exact ⟨congrArg (fun z => some (Value.int z)) (by first | exact (bI_t (by (try simp only [lg_lt, lg_gt] at *); simp only [Int32.lt_iff_toInt_lt, Int32.le_iff_toInt_le, Int64.lt_iff_toInt_lt, Int64.le_iff_toInt_le] at *; omega)).symm | exact (bI_f (by (try simp only [lg_lt, lg_gt] at *); simp only [Int32.lt_iff_toInt_lt, Int32.le_iff_toInt_le, Int64.lt_iff_toInt_lt, Int64.le_iff_toInt_le] at *; omega)).symm), rfl, rfl⟩
    ·
      refine g_iconst (n := 14) (v := 1) rfl rfl ?_
      refine g_goto 18 rfl (by decide) ?_
      refine g_iret (n := 19) rfl (fun _ => by first | exact Or.inl rfl | exact Or.inr rfl | exact bI_01) ?_
      exact ⟨congrArg (fun z => some (Value.int z)) (by first | exact (bI_t (by (try simp only [lg_lt, lg_gt] at *); simp only [Int32.lt_iff_toInt_lt, Int32.le_iff_toInt_le, Int64.lt_iff_toInt_lt, Int64.le_iff_toInt_le] at *; omega)).symm | exact (bI_f (by (try simp only [lg_lt, lg_gt] at *); simp only [Int32.lt_iff_toInt_lt, Int32.le_iff_toInt_le, Int64.lt_iff_toInt_lt, Int64.le_iff_toInt_le] at *; omega)).symm), rfl, rfl⟩
