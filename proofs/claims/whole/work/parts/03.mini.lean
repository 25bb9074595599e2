/-! MINI: a small machine that runs the landed code over a list of cells; below, that what it runs the JVM runs. -/
/-- how long an instruction is (0: its own length doesn't matter) -/
def mi_len : Instr → Nat
  | .iload _ | .lload _ | .aload _ | .istore _ | .lstore _ | .astore _ | .bipush _ | .ldc _ | .newarray _ => 2
  | .sipush _ | .iinc _ _ | .ifCond _ _ | .if_icmp _ _ | .goto _ | .getfield _ | .putfield _ | .getstatic _ | .invokevirtual _ | .invokestatic _ | .invokespecial _ | .new _ | .anewarray _ | .ldc_w _ | .ldc2_w _ => 3
  | .tableswitch _ _ _ _ | .lookupswitch _ _ => 0
  | _ => 1
def mi_c2 (f : Int32 → Int32 → Int32) (st : List Value) : Option (List Value) := match st with
  | .int y :: .int x :: r => some (.int (f x y) :: r)
  | _ => none
def mi_c1 (f : Int32 → Value) (st : List Value) : Option (List Value) := match st with
  | .int x :: r => some (f x :: r)
  | _ => none
def mi_l1 (f : Int64 → Value) (st : List Value) : Option (List Value) := match st with
  | .long x :: r => some (f x :: r)
  | _ => none
def mi_l2 (f : Int64 → Int64 → Value) (st : List Value) : Option (List Value) := match st with
  | .long y :: .long x :: r => some (f x y :: r)
  | _ => none
def mi_li (f : Int64 → Int32 → Value) (st : List Value) : Option (List Value) := match st with
  | .int y :: .long x :: r => some (f x y :: r)
  | _ => none
def mi_cd (f : Int32 → Int32 → Int32) (st : List Value) : Option (List Value) := match st with
  | .int y :: .int x :: r => if y = 0 then none else some (.int (f x y) :: r)
  | _ => none
theorem mi_c2_inv {f : Int32 → Int32 → Int32} {st st' : List Value} (h : mi_c2 f st = some st') : ∃ x y r, st = .int y :: .int x :: r ∧ st' = .int (f x y) :: r := by
  unfold mi_c2 at h
  split at h
  · cases h; exact ⟨_, _, _, rfl, rfl⟩
  · cases h
theorem mi_c1_inv {f : Int32 → Value} {st st' : List Value} (h : mi_c1 f st = some st') : ∃ x r, st = .int x :: r ∧ st' = f x :: r := by
  unfold mi_c1 at h
  split at h
  · cases h; exact ⟨_, _, rfl, rfl⟩
  · cases h
theorem mi_l1_inv {f : Int64 → Value} {st st' : List Value} (h : mi_l1 f st = some st') : ∃ x r, st = .long x :: r ∧ st' = f x :: r := by
  unfold mi_l1 at h
  split at h
  · cases h; exact ⟨_, _, rfl, rfl⟩
  · cases h
theorem mi_l2_inv {f : Int64 → Int64 → Value} {st st' : List Value} (h : mi_l2 f st = some st') : ∃ x y r, st = .long y :: .long x :: r ∧ st' = f x y :: r := by
  unfold mi_l2 at h
  split at h
  · cases h; exact ⟨_, _, _, rfl, rfl⟩
  · cases h
theorem mi_li_inv {f : Int64 → Int32 → Value} {st st' : List Value} (h : mi_li f st = some st') : ∃ x y r, st = .int y :: .long x :: r ∧ st' = f x y :: r := by
  unfold mi_li at h
  split at h
  · cases h; exact ⟨_, _, _, rfl, rfl⟩
  · cases h
theorem mi_cd_inv {f : Int32 → Int32 → Int32} {st st' : List Value} (h : mi_cd f st = some st') : ∃ x y r, st = .int y :: .int x :: r ∧ ¬ y = 0 ∧ st' = .int (f x y) :: r := by
  unfold mi_cd at h
  split at h
  · split at h
    · cases h
    · cases h; exact ⟨_, _, _, rfl, by assumption, rfl⟩
  · cases h
/-- the stack alone -/
def mi_A (i : Instr) (st : List Value) : Option (List Value) := match i with
  | .iconst n => some (.int (Int32.ofInt n) :: st)
  | .bipush n => some (.int (Int8.ofInt n).toInt32 :: st)
  | .sipush n => some (.int (Int16.ofInt n).toInt32 :: st)
  | .lconst n => some (.long (Int64.ofNat (n : Nat)) :: st)
  | .iadd => mi_c2 (fun x y => x + y) st
  | .isub => mi_c2 (fun x y => x - y) st
  | .imul => mi_c2 (fun x y => x * y) st
  | .iand => mi_c2 (fun x y => x &&& y) st
  | .ior => mi_c2 (fun x y => x ||| y) st
  | .ixor => mi_c2 (fun x y => x ^^^ y) st
  | .ishl => mi_c2 (fun x y => x <<< (y &&& 31)) st
  | .iushr => mi_c2 (fun x y => (x.toUInt32 >>> (y.toUInt32 &&& Int32.toUInt32 31)).toInt32) st
  | .idiv => mi_cd (fun x y => x / y) st
  | .irem => mi_cd (fun x y => x - x / y * y) st
  | .ineg => mi_c1 (fun x => .int (-x)) st
  | .i2l => mi_c1 (fun x => .long x.toInt64) st
  | .i2b => mi_c1 (fun x => .int x.toInt8.toInt32) st
  | .i2s => mi_c1 (fun x => .int x.toInt16.toInt32) st
  | .i2c => mi_c1 (fun x => .int (x.toUInt32 % 65536).toInt32) st
  | .l2i => mi_l1 (fun x => .int x.toInt32) st
  | .land => mi_l2 (fun x y => .long (x &&& y)) st
  | .lor => mi_l2 (fun x y => .long (x ||| y)) st
  | .lcmp => mi_l2 (fun x y => .int (lg_cmp x y)) st
  | .lshl => mi_li (fun x y => .long (x <<< (y.toInt64 &&& 63))) st
  | .lshr => mi_li (fun x y => .long (x >>> (y.toInt64 &&& 63))) st
  | .lushr => mi_li (fun x y => .long (x.toUInt64 >>> (y.toInt64.toUInt64 &&& Int64.toUInt64 63)).toInt64) st
  | .dup => (match st with
    | v :: r => if v.category = 1 then some (v :: v :: r) else none
    | _ => none)
  | .pop => (match st with
    | v :: r => if v.category = 1 then some r else none
    | _ => none)
  | .dup2 => (match st with
    | v :: w :: r => if v.category = 1 ∧ w.category = 1 then some (v :: w :: v :: w :: r) else none
    | _ => none)
  | _ => none
/-- a value of Mini's as the machine has it: cell k lies at ad k -/
def mi_v (ad : Nat → Nat) (v : Value) : Value := match v with
  | .ref a => .ref (ad a)
  | v => v
theorem mi_v_cat (ad : Nat → Nat) (v : Value) : (mi_v ad v).category = v.category := by cases v <;> rfl
section MIA
variable {p : Program} {l : Launch} {e : Env} {R : Room} {s : State} {m : MethodId} {args : Array Value} {below : List Frame} {meth : Method} {c : Code} {H : Heap} {locs : List Loc} {cells slots : Nat} {Q : State → Prop}
variable {cc : ByteArray} {pc : Nat} {ls : Array Slot} {ad : Nat → Nat}
theorem mi_sA (hx : p.tables.exec = Jvm.exec) (hb : c.code = cc) {i : Instr} {st st' : List Value} (h : mi_A i st = some st') (hd : decode cc pc = .ok (i, mi_len i))
    (kk : W p l e R s m args below meth c H locs cells slots Q (F0 m (pc + mi_len i) ls (st'.map (mi_v ad)))) : W p l e R s m args below meth c H locs cells slots Q (F0 m pc ls (st.map (mi_v ad))) := by
  unfold mi_A at h
  split at h
  · cases h; exact lv_iconst hx hb hd rfl kk
  · cases h; exact lv_bipush hx hb hd rfl kk
  · cases h; exact lv_sipush hx hb hd rfl kk
  · cases h; exact lv_lconst hx hb hd rfl kk
  · obtain ⟨x, y, r, rfl, rfl⟩ := mi_c2_inv h; exact lv_iadd hx hb hd kk
  · obtain ⟨x, y, r, rfl, rfl⟩ := mi_c2_inv h; exact lv_isub hx hb hd kk
  · obtain ⟨x, y, r, rfl, rfl⟩ := mi_c2_inv h; exact lv_imul hx hb hd kk
  · obtain ⟨x, y, r, rfl, rfl⟩ := mi_c2_inv h; exact lv_iand hx hb hd kk
  · obtain ⟨x, y, r, rfl, rfl⟩ := mi_c2_inv h; exact lv_ior hx hb hd kk
  · obtain ⟨x, y, r, rfl, rfl⟩ := mi_c2_inv h; exact lv_ixor hx hb hd kk
  · obtain ⟨x, y, r, rfl, rfl⟩ := mi_c2_inv h; exact lv_ishl hx hb hd kk
  · obtain ⟨x, y, r, rfl, rfl⟩ := mi_c2_inv h; exact lv_iushr hx hb hd rfl kk
  · obtain ⟨x, y, r, rfl, hy, rfl⟩ := mi_cd_inv h; exact lv_idiv hx hb hd hy kk
  · obtain ⟨x, y, r, rfl, hy, rfl⟩ := mi_cd_inv h; exact lv_irem hx hb hd hy kk
  · obtain ⟨x, r, rfl, rfl⟩ := mi_c1_inv h; exact lv_ineg hx hb hd kk
  · obtain ⟨x, r, rfl, rfl⟩ := mi_c1_inv h; exact lv_i2l hx hb hd rfl kk
  · obtain ⟨x, r, rfl, rfl⟩ := mi_c1_inv h; exact lv_i2b hx hb hd rfl kk
  · obtain ⟨x, r, rfl, rfl⟩ := mi_c1_inv h; exact lv_i2s hx hb hd rfl kk
  · obtain ⟨x, r, rfl, rfl⟩ := mi_c1_inv h; exact lv_i2c hx hb hd rfl kk
  · obtain ⟨x, r, rfl, rfl⟩ := mi_l1_inv h; exact lv_l2i hx hb hd rfl kk
  · obtain ⟨x, y, r, rfl, rfl⟩ := mi_l2_inv h; exact lv_land hx hb hd kk
  · obtain ⟨x, y, r, rfl, rfl⟩ := mi_l2_inv h; exact lv_lor hx hb hd kk
  · obtain ⟨x, y, r, rfl, rfl⟩ := mi_l2_inv h; exact W.lcmp hx hb hd kk
  · obtain ⟨x, y, r, rfl, rfl⟩ := mi_li_inv h; exact lv_lshl hx hb hd rfl kk
  · obtain ⟨x, y, r, rfl, rfl⟩ := mi_li_inv h; exact lv_lshr hx hb hd rfl kk
  · obtain ⟨x, y, r, rfl, rfl⟩ := mi_li_inv h; exact lv_lushr hx hb hd rfl kk
  · split at h
    · split at h
      · cases h; exact lv_dup hx hb hd (by rw [mi_v_cat]; assumption) kk
      · cases h
    · cases h
  · split at h
    · split at h
      · cases h; exact lv_pop hx hb hd (by rw [mi_v_cat]; assumption) kk
      · cases h
    · cases h
  · split at h
    · split at h
      next hh => cases h; exact lv_dup2_11 hx hb hd (by rw [mi_v_cat]; exact hh.1) (by rw [mi_v_cat]; exact hh.2) kk
      next => cases h
    · cases h
  · cases h
end MIA
/-! branches -/
def mi_tgt (pc : Nat) (off : Int) : Nat := ((pc : Int) + off).toNat
def mi_ok (pc : Nat) (off : Int) : Bool := decide (0 ≤ (pc : Int) + off)
theorem mi_tgt_eq {pc : Nat} {off : Int} (h : mi_ok pc off = true) : (pc : Int) + off = (mi_tgt pc off : Int) := by
  have h1 := of_decide_eq_true h
  unfold mi_tgt
  omega
def mi_to (pc : Nat) (off : Int) (st : List Value) : Option (Nat × List Value) := if mi_ok pc off = true then some (mi_tgt pc off, st) else none
def mi_br (b : Bool) (pc : Nat) (off : Int) (st : List Value) : Option (Nat × List Value) := if mi_ok pc off = true then some (if b = true then mi_tgt pc off else pc + 3, st) else none
def mi_i1 (f : Int32 → Bool) (pc : Nat) (off : Int) (st : List Value) : Option (Nat × List Value) := match st with
  | .int x :: r => mi_br (f x) pc off r
  | _ => none
def mi_i2 (f : Int32 → Int32 → Bool) (pc : Nat) (off : Int) (st : List Value) : Option (Nat × List Value) := match st with
  | .int y :: .int x :: r => mi_br (f x y) pc off r
  | _ => none
theorem mi_to_inv {pc : Nat} {off : Int} {st : List Value} {q : Nat × List Value} (h : mi_to pc off st = some q) : (pc : Int) + off = (q.1 : Int) ∧ q.2 = st := by
  unfold mi_to at h
  split at h
  next ho => cases h; exact ⟨mi_tgt_eq ho, rfl⟩
  next => cases h
theorem mi_br_inv {b : Bool} {pc : Nat} {off : Int} {st : List Value} {q : Nat × List Value} (h : mi_br b pc off st = some q) : ∃ t : Nat, (pc : Int) + off = (t : Int) ∧ q = (if b = true then t else pc + 3, st) := by
  unfold mi_br at h
  split at h
  next ho => cases h; exact ⟨_, mi_tgt_eq ho, rfl⟩
  next => cases h
theorem mi_i1_inv {f : Int32 → Bool} {pc : Nat} {off : Int} {st : List Value} {q : Nat × List Value} (h : mi_i1 f pc off st = some q) : ∃ (x : Int32) (r : List Value) (t : Nat), st = .int x :: r ∧ (pc : Int) + off = (t : Int) ∧ q = (if f x = true then t else pc + 3, r) := by
  unfold mi_i1 at h
  split at h
  · obtain ⟨t, h1, h2⟩ := mi_br_inv h; exact ⟨_, _, t, rfl, h1, h2⟩
  · cases h
theorem mi_i2_inv {f : Int32 → Int32 → Bool} {pc : Nat} {off : Int} {st : List Value} {q : Nat × List Value} (h : mi_i2 f pc off st = some q) : ∃ (x y : Int32) (r : List Value) (t : Nat), st = .int y :: .int x :: r ∧ (pc : Int) + off = (t : Int) ∧ q = (if f x y = true then t else pc + 3, r) := by
  unfold mi_i2 at h
  split at h
  · obtain ⟨t, h1, h2⟩ := mi_br_inv h; exact ⟨_, _, _, t, rfl, h1, h2⟩
  · cases h
/-- branches: the next place, and the stack -/
def mi_B (i : Instr) (pc : Nat) (st : List Value) : Option (Nat × List Value) := match i with
  | .ifCond .eq off => mi_i1 (fun x => decide (x = 0)) pc off st
  | .ifCond .ne off => mi_i1 (fun x => decide (¬ x = 0)) pc off st
  | .ifCond .lt off => mi_i1 (fun x => decide (x < 0)) pc off st
  | .ifCond .ge off => mi_i1 (fun x => decide (0 ≤ x)) pc off st
  | .ifCond .gt off => mi_i1 (fun x => decide (0 < x)) pc off st
  | .ifCond .le off => mi_i1 (fun x => decide (x ≤ 0)) pc off st
  | .if_icmp .eq off => mi_i2 (fun x y => decide (x = y)) pc off st
  | .if_icmp .ne off => mi_i2 (fun x y => decide (¬ x = y)) pc off st
  | .if_icmp .lt off => mi_i2 (fun x y => decide (x < y)) pc off st
  | .if_icmp .ge off => mi_i2 (fun x y => decide (y ≤ x)) pc off st
  | .if_icmp .gt off => mi_i2 (fun x y => decide (y < x)) pc off st
  | .if_icmp .le off => mi_i2 (fun x y => decide (x ≤ y)) pc off st
  | .goto off => mi_to pc off st
  | .tableswitch d lo hi offs => (match st with
    | .int x :: r => if x.toInt < lo ∨ hi < x.toInt then mi_to pc d r else (match offs[(x.toInt - lo).toNat]? with
      | some off => mi_to pc off r
      | none => none)
    | _ => none)
  | .lookupswitch d ps => (match st with
    | .int x :: r => if (ps.toList.zip (ps.toList.drop 1)).all (fun (a, next) => a.1 < next.1) = true then mi_to pc (Op.lookupswitch.offset ps.toList d x.toInt) r else none
    | _ => none)
  | _ => none
section MIB
variable {p : Program} {l : Launch} {e : Env} {R : Room} {s : State} {m : MethodId} {args : Array Value} {below : List Frame} {meth : Method} {c : Code} {H : Heap} {locs : List Loc} {cells slots : Nat} {Q : State → Prop}
variable {cc : ByteArray} {pc : Nat} {ls : Array Slot} {ad : Nat → Nat}
theorem mi_sB (hx : p.tables.exec = Jvm.exec) (hb : c.code = cc) {i : Instr} {len : Nat} {st : List Value} {q : Nat × List Value} (h : mi_B i pc st = some q) (hd : decode cc pc = .ok (i, len)) (hn : mi_len i = 0 ∨ mi_len i = len)
    (kk : W p l e R s m args below meth c H locs cells slots Q (F0 m q.1 ls (q.2.map (mi_v ad)))) : W p l e R s m args below meth c H locs cells slots Q (F0 m pc ls (st.map (mi_v ad))) := by
  unfold mi_B at h
  split at h
  · obtain rfl : 3 = len := hn.resolve_left (show ¬ (3 : Nat) = 0 by decide)
    obtain ⟨x, r, t, rfl, ht, rfl⟩ := mi_i1_inv h
    refine lv_if_eq hx hb hd ht (fun hc => ?_) (fun hc => ?_) <;> simpa [hc] using kk
  · obtain rfl : 3 = len := hn.resolve_left (show ¬ (3 : Nat) = 0 by decide)
    obtain ⟨x, r, t, rfl, ht, rfl⟩ := mi_i1_inv h
    refine lv_if_ne hx hb hd ht (fun hc => ?_) (fun hc => ?_) <;> simpa [hc] using kk
  · obtain rfl : 3 = len := hn.resolve_left (show ¬ (3 : Nat) = 0 by decide)
    obtain ⟨x, r, t, rfl, ht, rfl⟩ := mi_i1_inv h
    refine lv_if_lt hx hb hd ht (fun hc => ?_) (fun hc => ?_) <;> simpa [hc] using kk
  · obtain rfl : 3 = len := hn.resolve_left (show ¬ (3 : Nat) = 0 by decide)
    obtain ⟨x, r, t, rfl, ht, rfl⟩ := mi_i1_inv h
    refine lv_if_ge hx hb hd ht (fun hc => ?_) (fun hc => ?_) <;> simpa [hc] using kk
  · obtain rfl : 3 = len := hn.resolve_left (show ¬ (3 : Nat) = 0 by decide)
    obtain ⟨x, r, t, rfl, ht, rfl⟩ := mi_i1_inv h
    refine lv_if_gt hx hb hd ht (fun hc => ?_) (fun hc => ?_) <;> simpa [hc] using kk
  · obtain rfl : 3 = len := hn.resolve_left (show ¬ (3 : Nat) = 0 by decide)
    obtain ⟨x, r, t, rfl, ht, rfl⟩ := mi_i1_inv h
    refine lv_if_le hx hb hd ht (fun hc => ?_) (fun hc => ?_) <;> simpa [hc] using kk
  · obtain rfl : 3 = len := hn.resolve_left (show ¬ (3 : Nat) = 0 by decide)
    obtain ⟨x, y, r, t, rfl, ht, rfl⟩ := mi_i2_inv h
    refine lv_icmp_eq hx hb hd ht (fun hc => ?_) (fun hc => ?_) <;> simpa [hc] using kk
  · obtain rfl : 3 = len := hn.resolve_left (show ¬ (3 : Nat) = 0 by decide)
    obtain ⟨x, y, r, t, rfl, ht, rfl⟩ := mi_i2_inv h
    refine lv_icmp_ne hx hb hd ht (fun hc => ?_) (fun hc => ?_) <;> simpa [hc] using kk
  · obtain rfl : 3 = len := hn.resolve_left (show ¬ (3 : Nat) = 0 by decide)
    obtain ⟨x, y, r, t, rfl, ht, rfl⟩ := mi_i2_inv h
    refine lv_icmp_lt hx hb hd ht (fun hc => ?_) (fun hc => ?_) <;> simpa [hc] using kk
  · obtain rfl : 3 = len := hn.resolve_left (show ¬ (3 : Nat) = 0 by decide)
    obtain ⟨x, y, r, t, rfl, ht, rfl⟩ := mi_i2_inv h
    refine lv_icmp_ge hx hb hd ht (fun hc => ?_) (fun hc => ?_) <;> simpa [hc] using kk
  · obtain rfl : 3 = len := hn.resolve_left (show ¬ (3 : Nat) = 0 by decide)
    obtain ⟨x, y, r, t, rfl, ht, rfl⟩ := mi_i2_inv h
    refine lv_icmp_gt hx hb hd ht (fun hc => ?_) (fun hc => ?_) <;> simpa [hc] using kk
  · obtain rfl : 3 = len := hn.resolve_left (show ¬ (3 : Nat) = 0 by decide)
    obtain ⟨x, y, r, t, rfl, ht, rfl⟩ := mi_i2_inv h
    refine lv_icmp_le hx hb hd ht (fun hc => ?_) (fun hc => ?_) <;> simpa [hc] using kk
  · obtain rfl : 3 = len := hn.resolve_left (show ¬ (3 : Nat) = 0 by decide)
    obtain ⟨h1, h2⟩ := mi_to_inv h
    rw [h2] at kk
    exact lv_goto hx hb hd h1 kk
  · split at h
    · split at h
      next ho =>
        obtain ⟨h1, h2⟩ := mi_to_inv h
        rw [h2] at kk
        exact lv_tableOut hx hb hd ho h1 kk
      next ho =>
        split at h
        next off hoff =>
          obtain ⟨h1, h2⟩ := mi_to_inv h
          rw [h2] at kk
          exact lv_tableIn hx hb hd (fun z => ho (Or.inl z)) (fun z => ho (Or.inr z)) hoff h1 kk
        next => cases h
    · cases h
  · split at h
    · split at h
      next hp =>
        obtain ⟨h1, h2⟩ := mi_to_inv h
        rw [h2] at kk
        exact lv_lookup hx hb hd hp rfl h1 kk
      next => cases h
    · cases h
  · cases h
end MIB
/-! locals: one value a place; null: none is known there -/
def mi_lv (ad : Nat → Nat) (ls : List Value) : List (Nat × Value) := (List.range ls.length).filterMap (fun k => (ls[k]?).bind (fun v => if v = Value.null then none else some (k, mi_v ad v)))
theorem mi_lv_mem {ad : Nat → Nat} {ls : List Value} {q : Nat × Value} : q ∈ mi_lv ad ls ↔ ∃ v, ls[q.1]? = some v ∧ v ≠ .null ∧ q.2 = mi_v ad v := by
  unfold mi_lv
  rw [List.mem_filterMap]
  constructor
  · rintro ⟨k, hk, h⟩
    obtain ⟨v, hv, h2⟩ := Option.bind_eq_some_iff.mp h
    split at h2
    · cases h2
    next hn => cases h2; exact ⟨v, hv, hn, rfl⟩
  · rintro ⟨v, hv, hn, h2⟩
    refine ⟨q.1, List.mem_range.mpr (List.getElem?_eq_some_iff.mp hv).1, ?_⟩
    rw [hv, Option.bind_some, if_neg hn, ← h2]
/-- a place in which a value of one slot may be stored -/
def mi_st1 (ls : List Value) (i : Nat) : Bool := decide (i < ls.length) && (match i with
  | 0 => true
  | j + 1 => (match ls[j]? with
    | some v => v.category == 1
    | none => true))
def mi_has (ad : Nat → Nat) (nL : Nat) (a : Array Slot) (ls : List Value) : Prop := ls.length = nL ∧ lv_has a nL (mi_lv ad ls)
theorem mi_has_get {ad : Nat → Nat} {nL : Nat} {a : Array Slot} {ls : List Value} {i : Nat} {v : Value} (h : mi_has ad nL a ls) (hv : ls[i]? = some v) (hn : v ≠ .null) : a[i]? = some (.val (mi_v ad v)) := h.2.2.2 (i, mi_v ad v) (mi_lv_mem.mpr ⟨v, hv, hn, rfl⟩)
theorem mi_has_set {ad : Nat → Nat} {nL : Nat} {a : Array Slot} {ls : List Value} {i : Nat} {v : Value} (hl : ls.length = nL) (hs : mi_st1 ls i = true)
    (h : lv_has a nL ((i, mi_v ad v) :: (mi_lv ad ls).filter (fun q => !(q.1 == i) && !(q.1 + 1 == i && q.2.category == 2)))) : mi_has ad nL a (ls.set i v) := by
  refine ⟨by rw [List.length_set]; exact hl, h.1, h.2.1, fun q hq => h.2.2 q ?_⟩
  obtain ⟨w, hw, hn, h2⟩ := mi_lv_mem.mp hq
  obtain ⟨k, z⟩ := q
  by_cases hk : k = i
  · subst hk
    have hlt := (List.getElem?_eq_some_iff.mp hw).1
    rw [List.length_set] at hlt
    rw [List.getElem?_set_self hlt] at hw
    cases hw
    cases h2
    exact List.mem_cons_self
  · rw [List.getElem?_set_ne (fun e => hk e.symm)] at hw
    refine List.mem_cons_of_mem _ (List.mem_filter.mpr ⟨mi_lv_mem.mpr ⟨w, hw, hn, h2⟩, ?_⟩)
    simp only [Bool.and_eq_true, Bool.not_eq_true', beq_eq_false_iff_ne, Bool.and_eq_false_iff]
    refine ⟨hk, ?_⟩
    by_cases h1 : k + 1 = i
    · right
      subst h1
      simp only [mi_st1, Bool.and_eq_true] at hs
      have hs2 := hs.2
      rw [hw] at hs2
      have hs3 : (w.category == 1) = true := hs2
      rw [show z = mi_v ad w from h2, mi_v_cat]
      intro h3
      rw [h3] at hs3
      cases hs3
    · left; exact h1
def mi_ldi (ls st : List Value) (k : Nat) : Option (List Value × List Value) := match ls[k]? with
  | some (.int x) => some (ls, .int x :: st)
  | _ => none
def mi_ldl (ls st : List Value) (k : Nat) : Option (List Value × List Value) := match ls[k]? with
  | some (.long x) => some (ls, .long x :: st)
  | _ => none
def mi_lda (ls st : List Value) (k : Nat) : Option (List Value × List Value) := match ls[k]? with
  | some (.ref x) => some (ls, .ref x :: st)
  | _ => none
def mi_sti (ls st : List Value) (k : Nat) : Option (List Value × List Value) := match st with
  | .int x :: r => if mi_st1 ls k = true then some (ls.set k (.int x), r) else none
  | _ => none
def mi_sta (ls st : List Value) (k : Nat) : Option (List Value × List Value) := match st with
  | .ref x :: r => if mi_st1 ls k = true then some (ls.set k (.ref x), r) else none
  | _ => none
def mi_inc (ls st : List Value) (k : Nat) (n : Int) : Option (List Value × List Value) := match ls[k]? with
  | some (.int x) => if mi_st1 ls k = true then some (ls.set k (.int (x + Int32.ofInt n)), st) else none
  | _ => none
theorem mi_ldi_inv {ls st : List Value} {k : Nat} {q : List Value × List Value} (h : mi_ldi ls st k = some q) : ∃ x, ls[k]? = some (.int x) ∧ q = (ls, .int x :: st) := by
  unfold mi_ldi at h
  split at h
  next x hx => cases h; exact ⟨_, hx, rfl⟩
  · cases h
theorem mi_ldl_inv {ls st : List Value} {k : Nat} {q : List Value × List Value} (h : mi_ldl ls st k = some q) : ∃ x, ls[k]? = some (.long x) ∧ q = (ls, .long x :: st) := by
  unfold mi_ldl at h
  split at h
  next x hx => cases h; exact ⟨_, hx, rfl⟩
  · cases h
theorem mi_lda_inv {ls st : List Value} {k : Nat} {q : List Value × List Value} (h : mi_lda ls st k = some q) : ∃ x, ls[k]? = some (.ref x) ∧ q = (ls, .ref x :: st) := by
  unfold mi_lda at h
  split at h
  next x hx => cases h; exact ⟨_, hx, rfl⟩
  · cases h
theorem mi_sti_inv {ls st : List Value} {k : Nat} {q : List Value × List Value} (h : mi_sti ls st k = some q) : ∃ x r, st = .int x :: r ∧ mi_st1 ls k = true ∧ q = (ls.set k (.int x), r) := by
  unfold mi_sti at h
  split at h
  · split at h
    next hs => cases h; exact ⟨_, _, rfl, hs, rfl⟩
    · cases h
  · cases h
theorem mi_sta_inv {ls st : List Value} {k : Nat} {q : List Value × List Value} (h : mi_sta ls st k = some q) : ∃ x r, st = .ref x :: r ∧ mi_st1 ls k = true ∧ q = (ls.set k (.ref x), r) := by
  unfold mi_sta at h
  split at h
  · split at h
    next hs => cases h; exact ⟨_, _, rfl, hs, rfl⟩
    · cases h
  · cases h
theorem mi_inc_inv {ls st : List Value} {k : Nat} {n : Int} {q : List Value × List Value} (h : mi_inc ls st k n = some q) : ∃ x, ls[k]? = some (.int x) ∧ mi_st1 ls k = true ∧ q = (ls.set k (.int (x + Int32.ofInt n)), st) := by
  unfold mi_inc at h
  split at h
  next x hx =>
    split at h
    next hs => cases h; exact ⟨_, hx, hs, rfl⟩
    · cases h
  · cases h
theorem mi_st1_lt {ls : List Value} {k : Nat} (h : mi_st1 ls k = true) : k < ls.length := by
  simp only [mi_st1, Bool.and_eq_true, decide_eq_true_eq] at h
  exact h.1
/-- locals and stack -/
def mi_L (i : Instr) (ls st : List Value) : Option (List Value × List Value) := match i with
  | .iload k => mi_ldi ls st k
  | .iload_n k => mi_ldi ls st (k : Nat)
  | .lload k => mi_ldl ls st k
  | .lload_n k => mi_ldl ls st (k : Nat)
  | .aload k => mi_lda ls st k
  | .aload_n k => mi_lda ls st (k : Nat)
  | .istore k => mi_sti ls st k
  | .istore_n k => mi_sti ls st (k : Nat)
  | .astore k => mi_sta ls st k
  | .astore_n k => mi_sta ls st (k : Nat)
  | .iinc k n => mi_inc ls st k n
  | _ => none
section MIL
variable {p : Program} {l : Launch} {e : Env} {R : Room} {s : State} {m : MethodId} {args : Array Value} {below : List Frame} {meth : Method} {c : Code} {H : Heap} {locs : List Loc} {cells slots : Nat} {Q : State → Prop}
variable {cc : ByteArray} {pc nL : Nat} {la : Array Slot} {ad : Nat → Nat}
theorem mi_sL (hx : p.tables.exec = Jvm.exec) (hb : c.code = cc) {i : Instr} {ls st : List Value} {q : List Value × List Value} (hl : mi_has ad nL la ls) (h : mi_L i ls st = some q) (hd : decode cc pc = .ok (i, mi_len i))
    (kk : ∀ la' : Array Slot, mi_has ad nL la' q.1 → W p l e R s m args below meth c H locs cells slots Q (F0 m (pc + mi_len i) la' (q.2.map (mi_v ad)))) : W p l e R s m args below meth c H locs cells slots Q (F0 m pc la (st.map (mi_v ad))) := by
  unfold mi_L at h
  split at h
  · obtain ⟨x, h1, rfl⟩ := mi_ldi_inv h; exact lv_iload hx hb hd (mi_has_get hl h1 (fun z => by cases z)) (kk la hl)
  · obtain ⟨x, h1, rfl⟩ := mi_ldi_inv h; exact lv_iload_n hx hb hd rfl (mi_has_get hl h1 (fun z => by cases z)) (kk la hl)
  · obtain ⟨x, h1, rfl⟩ := mi_ldl_inv h; exact lv_lload hx hb hd (mi_has_get hl h1 (fun z => by cases z)) (kk la hl)
  · obtain ⟨x, h1, rfl⟩ := mi_ldl_inv h; exact lv_lload_n hx hb hd rfl (mi_has_get hl h1 (fun z => by cases z)) (kk la hl)
  · obtain ⟨x, h1, rfl⟩ := mi_lda_inv h; exact lv_aload hx hb hd (mi_has_get hl h1 (fun z => by cases z)) (kk la hl)
  · obtain ⟨x, h1, rfl⟩ := mi_lda_inv h; exact lv_aload_n hx hb hd rfl (mi_has_get hl h1 (fun z => by cases z)) (kk la hl)
  · obtain ⟨x, r, rfl, hs, rfl⟩ := mi_sti_inv h; exact lv_istore hx hb hd hl.2 (hl.1 ▸ mi_st1_lt hs) rfl (fun la' h' => kk la' (mi_has_set (v := .int x) hl.1 hs h'))
  · obtain ⟨x, r, rfl, hs, rfl⟩ := mi_sti_inv h; exact lv_istore_n hx hb hd rfl hl.2 (hl.1 ▸ mi_st1_lt hs) rfl (fun la' h' => kk la' (mi_has_set (v := .int x) hl.1 hs h'))
  · obtain ⟨x, r, rfl, hs, rfl⟩ := mi_sta_inv h; exact lv_astore hx hb hd hl.2 (hl.1 ▸ mi_st1_lt hs) rfl (fun la' h' => kk la' (mi_has_set (v := .ref x) hl.1 hs h'))
  · obtain ⟨x, r, rfl, hs, rfl⟩ := mi_sta_inv h; exact lv_astore_n hx hb hd rfl hl.2 (hl.1 ▸ mi_st1_lt hs) rfl (fun la' h' => kk la' (mi_has_set (v := .ref x) hl.1 hs h'))
  · obtain ⟨x, h1, hs, rfl⟩ := mi_inc_inv h
    have hm := (mi_lv_mem (ad := ad) (ls := ls) (q := (_, .int x))).mpr ⟨_, h1, (fun z => by cases z), rfl⟩
    obtain ⟨k, hk⟩ := List.getElem?_of_mem hm
    exact lv_iinc hx hb hd hl.2 hk rfl (hl.1 ▸ mi_st1_lt hs) rfl (fun la' h' => kk la' (mi_has_set (v := .int _) hl.1 hs h'))
  · cases h
/-- the locals with which a method begins -/
def mi_args : List Value → List Value
  | [] => []
  | v :: vs => if v.category = 2 then v :: .null :: mi_args vs else v :: mi_args vs
def mi_ent (as : List Value) (nL : Nat) : List Value := mi_args as ++ List.replicate (nL - (mi_args as).length) .null
end MIL
