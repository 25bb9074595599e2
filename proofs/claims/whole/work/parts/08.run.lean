/-! MINI: memory, calls, runs -/
abbrev mi_M : Type := List (Nat × List Value)
def mi_fit (ty : FieldType) (v : Value) : Bool := match ty, v with
  | .int, .int _ => true
  | .boolean, .int x => decide (x = 0 ∨ x = 1)
  | .object _, .ref _ => true
  | .array _, .ref _ => true
  | _, _ => false
/-- what cell a holds, if it is of kind h -/
def mi_ld (mem : mi_M) (a h : Nat) : Option (List Value) := (mem[a]?).bind fun c => if c.1 = h then some c.2 else none
def mi_gf (own k : Nat) : Option (Nat × Nat) := match mi_fl.lookup (own, k) with
  | some q => some (q.1, q.2.1)
  | none => (mi_fn.lookup (own, k)).map fun q => (q.1, q.2.1)
def mi_fin (ci k : Nat) : Bool := match mi_cl[ci]? with
  | some q => (q.2.1 k).2.2.2
  | none => true
def mi_getf (own k : Nat) (st : List Value) (mem : mi_M) : Option (List Value × mi_M) := match st with
  | .ref a :: r => (mi_gf own k).bind fun q => (mi_ld mem a q.1).bind fun fs => (fs[q.2]?).map fun v => (v :: r, mem)
  | _ => none
def mi_putf (own : Nat) (ini : Bool) (k : Nat) (st : List Value) (mem : mi_M) : Option (List Value × mi_M) := match st with
  | v :: .ref a :: r => (mi_gf own k).bind fun q => (mi_ld mem a q.1).bind fun fs =>
    if q.2 < fs.length ∧ mi_fit (mi_ty q.1 q.2) v = true ∧ (mi_fin q.1 q.2 = false ∨ (ini = true ∧ own = q.1)) then some (r, mem.set a (q.1, fs.set q.2 v)) else none
  | _ => none
def mi_gets (own k : Nat) (st : List Value) (mem : mi_M) : Option (List Value × mi_M) := (mi_gs.lookup (own, k)).map fun _ => (.ref 4 :: st, mem)
def mi_ix (i : Int32) (n : Nat) : Bool := decide (0 ≤ i.toInt) && decide (i.toInt < (n : Int))
def mi_ial (st : List Value) (mem : mi_M) : Option (List Value × mi_M) := match st with
  | .int i :: .ref a :: r => (mem[a]?).bind fun c => if (c.1 = 20 ∨ c.1 = 30 ∨ c.1 = 32) ∧ mi_ix i c.2.length = true then (match c.2[i.toNatClampNeg]? with
    | some (.int v) => some (.int v :: r, mem)
    | _ => none) else none
  | _ => none
def mi_ias (st : List Value) (mem : mi_M) : Option (List Value × mi_M) := match st with
  | .int x :: .int i :: .ref a :: r => (mi_ld mem a 20).bind fun cs => if mi_ix i cs.length = true then some (r, mem.set a (20, cs.set i.toNatClampNeg (.int x))) else none
  | _ => none
def mi_aal (st : List Value) (mem : mi_M) : Option (List Value × mi_M) := match st with
  | .int i :: .ref a :: r => (mem[a]?).bind fun c => if (20 < c.1 ∧ c.1 < 25) ∧ mi_ix i c.2.length = true then (match c.2[i.toNatClampNeg]? with
    | some (.ref b) => some (.ref b :: r, mem)
    | _ => none) else none
  | _ => none
/-- a cell of class ci may stand in an array of kind h -/
def mi_can (h ci : Nat) : Bool := (h == 21 && ci == 4) || (h == 22 && ci == 8) || (h == 23 && ci == 6) || (h == 24 && (ci == 9 || ci == 0 || ci == 2 || ci == 3 || ci == 5 || ci == 7 || ci == 10))
def mi_aas (st : List Value) (mem : mi_M) : Option (List Value × mi_M) := match st with
  | .ref b :: .int i :: .ref a :: r => (mem[a]?).bind fun c => (mem[b]?).bind fun d => if mi_can c.1 d.1 = true ∧ mi_ix i c.2.length = true then some (r, mem.set a (c.1, c.2.set i.toNatClampNeg (.ref b))) else none
  | _ => none
def mi_aln (st : List Value) (mem : mi_M) : Option (List Value × mi_M) := match st with
  | .ref a :: r => (mem[a]?).bind fun c => if (20 ≤ c.1 ∧ c.1 < 25) ∨ c.1 = 30 then some (.int (Int32.ofNat c.2.length) :: r, mem) else none
  | _ => none
def mi_nwa (st : List Value) (mem : mi_M) : Option (List Value × mi_M) := match st with
  | .int n :: r => if 0 ≤ n.toInt ∧ n.toInt ≤ 1000 then some (.ref mem.length :: r, mem ++ [(20, List.replicate n.toNatClampNeg (.int 0))]) else none
  | _ => none
def mi_nwq (own k : Nat) (st : List Value) (mem : mi_M) : Option (List Value × mi_M) := match st with
  | .int n :: r => (mi_al.lookup (own, k)).bind fun q => if 0 ≤ n.toInt ∧ n.toInt ≤ 1000 then some (.ref mem.length :: r, mem ++ [(20 + q.1, List.replicate n.toNatClampNeg .null)]) else none
  | _ => none
def mi_nw (own k : Nat) (st : List Value) (mem : mi_M) : Option (List Value × mi_M) := (mi_nl.lookup (own, k)).bind fun q => (mi_df[q.1]?).map fun fs => (.ref mem.length :: st, mem ++ [(q.1, fs)])
def mi_ldk (own k : Nat) (st : List Value) (mem : mi_M) : Option (List Value × mi_M) := match mi_kc.lookup (own, k) with
  | some q => some (.int q.1 :: st, mem)
  | none => (mi_ks.lookup (own, k)).map fun a => (.ref a :: st, mem)
def mi_ldk2 (own k : Nat) (st : List Value) (mem : mi_M) : Option (List Value × mi_M) := (mi_kl.lookup (own, k)).map fun q => (.long q.1 :: st, mem)
def mi_ldw (own k : Nat) (st : List Value) (mem : mi_M) : Option (List Value × mi_M) := (mi_kc.lookup (own, k)).map fun q => (.int q.1 :: st, mem)
/-- memory -/
def mi_Y (own : Nat) (ini : Bool) (i : Instr) (st : List Value) (mem : mi_M) : Option (List Value × mi_M) := match i with
  | .getfield k => mi_getf own k st mem
  | .putfield k => mi_putf own ini k st mem
  | .getstatic k => mi_gets own k st mem
  | .iaload => mi_ial st mem
  | .iastore => mi_ias st mem
  | .aaload => mi_aal st mem
  | .aastore => mi_aas st mem
  | .arraylength => mi_aln st mem
  | .newarray .int => mi_nwa st mem
  | .anewarray k => mi_nwq own k st mem
  | .new k => mi_nw own k st mem
  | .ldc k => mi_ldk own k st mem
  | .ldc2_w k => mi_ldk2 own k st mem
  | .ldc_w k => mi_ldw own k st mem
  | _ => none
/-! calls -/
abbrev mi_F : Type := Nat → List Value → mi_M → Option (Option Value × mi_M)
def mi_low (r : List Value) : Bool := decide ((r.map fun v => v.category).sum ≤ 8)
def mi_vt (own k h : Nat) : Option Nat := match mi_cv.lookup (own, k, h) with
  | some q => some q.1
  | none => (mi_cu.lookup (own, k, h)).map fun q => q.1
def mi_ixo (c : Int32) : List Value → Nat → Int32
  | [], _ => -1
  | .int b :: l, k => if b = c then nI k else mi_ixo c l (k + 1)
  | _ :: l, k => mi_ixo c l (k + 1)
def mi_cpy (f g : List Value) (sp dp n : Nat) : List Value := (List.range g.length).map (fun k => if dp ≤ k ∧ k < dp + n then f.getD (sp + (k - dp)) .null else g.getD k .null)
def mi_acp (st : List Value) (mem : mi_M) : Option (List Value × mi_M) := match st with
  | .int n :: .int dp :: .ref a :: .int sp :: .ref a0 :: r => (mi_ld mem a0 20).bind fun f => (mi_ld mem a 20).bind fun g =>
    if 0 ≤ n.toInt ∧ 0 ≤ dp.toInt ∧ 0 ≤ sp.toInt ∧ sp.toNatClampNeg + n.toNatClampNeg ≤ f.length ∧ dp.toNatClampNeg + n.toNatClampNeg ≤ g.length ∧ mi_low r = true then
      some (r, mem.set a (20, mi_cpy f g sp.toNatClampNeg dp.toNatClampNeg n.toNatClampNeg)) else none
  | _ => none
def mi_mx (st : List Value) (mem : mi_M) : Option (List Value × mi_M) := match st with
  | .int y :: .int x :: r => if mi_low r = true then some (.int (if x < y then y else x) :: r, mem) else none
  | _ => none
def mi_mn (st : List Value) (mem : mi_M) : Option (List Value × mi_M) := match st with
  | .int y :: .int x :: r => if mi_low r = true then some (.int (if y < x then y else x) :: r, mem) else none
  | _ => none
def mi_oi (st : List Value) (mem : mi_M) : Option (List Value × mi_M) := match st with
  | .ref a :: r => if mi_low r = true ∧ 5 ≤ a then some (r, mem) else none
  | _ => none
def mi_sio (st : List Value) (mem : mi_M) : Option (List Value × mi_M) := match st with
  | .int c :: .ref a :: r => (mi_ld mem a 31).bind fun cs => if mi_low r = true then some (.int (mi_ixo c cs 0) :: r, mem) else none
  | _ => none
/-- a call of method t: n parameters, and a receiver -/
def mi_cat (f : mi_F) (t n : Nat) (st : List Value) (mem : mi_M) : Option (List Value × mi_M) := match st.drop n with
  | .ref b :: r => if mi_low r = true ∧ (st.take n).length = n then (f t (.ref b :: (st.take n).reverse) mem).map fun q => (q.1.toList ++ r, q.2) else none
  | _ => none
def mi_sat (f : mi_F) (t n : Nat) (st : List Value) (mem : mi_M) : Option (List Value × mi_M) :=
  if mi_low (st.drop n) = true ∧ (st.take n).length = n then (f t (st.take n).reverse mem).map fun q => (q.1.toList ++ st.drop n, q.2) else none
def mi_cvt (f : mi_F) (own k n : Nat) (st : List Value) (mem : mi_M) : Option (List Value × mi_M) := match st[n]? with
  | some (.ref b) => (mem[b]?).bind fun c => (mi_vt own k c.1).bind fun t => mi_cat f t n st mem
  | _ => none
/-- as mi_cat, the receiver an object of ours -/
def mi_csu (f : mi_F) (t n : Nat) (st : List Value) (mem : mi_M) : Option (List Value × mi_M) := match st[n]? with
  | some (.ref b) => (mem[b]?).bind fun c => if c.1 < 13 then mi_cat f t n st mem else none
  | _ => none
def mi_Zv (f : mi_F) (own k : Nat) (st : List Value) (mem : mi_M) : Option (List Value × mi_M) := match mi_cq.lookup (own, k) with
  | some q => if q.1 = 5 ∧ (f 1000 [] []).isSome = true then mi_sio st mem else none
  | none => (mi_vp.lookup (own, k)).bind fun n => mi_cvt f own k n st mem
def mi_Zs (f : mi_F) (own k : Nat) (st : List Value) (mem : mi_M) : Option (List Value × mi_M) := match mi_cq.lookup (own, k) with
  | some q => if q.1 = 1 then mi_mx st mem else if q.1 = 2 then mi_mn st mem else if q.1 = 3 then mi_acp st mem else none
  | none => (match mi_cs.lookup (own, k) with
    | some q => mi_sat f q.1 q.2.1 st mem
    | none => (mi_cn.lookup (own, k)).bind fun q => mi_sat f q.1 q.2.1 st mem)
def mi_Zp (f : mi_F) (own k : Nat) (st : List Value) (mem : mi_M) : Option (List Value × mi_M) := match mi_cq.lookup (own, k) with
  | some q => if q.1 = 4 then mi_oi st mem else none
  | none => (match mi_ci.lookup (own, k) with
    | some q => mi_cat f q.1 q.2.1 st mem
    | none => (match mi_cj.lookup (own, k) with
      | some q => mi_cat f q.1 q.2.1 st mem
      | none => (mi_cz.lookup (own, k)).bind fun q => mi_csu f q.1 q.2.1 st mem))
def mi_Z (f : mi_F) (own : Nat) (i : Instr) (st : List Value) (mem : mi_M) : Option (List Value × mi_M) := match i with
  | .invokevirtual k => mi_Zv f own k st mem
  | .invokestatic k => mi_Zs f own k st mem
  | .invokespecial k => mi_Zp f own k st mem
  | _ => none
def mi_ret (rz : Bool) (i : Instr) (st : List Value) : Option (Option Value) := match i with
  | .ireturn => (match st with
    | [.int v] => if rz = true → v = 0 ∨ v = 1 then some (some (.int v)) else none
    | _ => none)
  | .return_ => (match st with
    | [] => some none
    | _ => none)
  | _ => none
/-- one instruction that doesn't leave: the next place, locals, stack, memory -/
def mi_one (f : mi_F) (own : Nat) (ini : Bool) (i : Instr) (pc : Nat) (ls st : List Value) (mem : mi_M) : Option (Nat × List Value × List Value × mi_M) := match mi_A i st with
  | some st' => some (pc + mi_len i, ls, st', mem)
  | none => (match mi_B i pc st with
    | some q => some (q.1, ls, q.2, mem)
    | none => (match mi_L i ls st with
      | some q => some (pc + mi_len i, q.1, q.2, mem)
      | none => (match mi_Y own ini i st mem with
        | some q => some (pc + mi_len i, ls, q.1, q.2)
        | none => (mi_Z f own i st mem).map fun q => (pc + 3, ls, q.1, q.2))))
def mi_go (f : mi_F) (own : Nat) (ini rz : Bool) (code : List (Nat × Instr)) : Nat → Nat → List Value → List Value → mi_M → Option (Option Value × mi_M)
  | 0, _, _, _, _ => none
  | n + 1, pc, ls, st, mem => (code.lookup pc).bind fun i => match mi_ret rz i st with
    | some r => some (r, mem)
    | none => (mi_one f own ini i pc ls st mem).bind fun q => mi_go f own ini rz code n q.1 q.2.1 q.2.2.1 q.2.2.2
def mi_run (N : Nat) : Nat → mi_F
  | 0 => fun _ _ _ => none
  | d + 1 => fun t as mem => if t = 1000 then (if 4 ≤ d then some (none, mem) else none) else (mi_mt[t]?).bind fun q => if q.2.2.1 < (mi_args as).length then none else mi_go (mi_run N d) q.2.2.2.2.1 (mi_ii.contains t) (decide (q.2.2.2.1 = some .boolean)) q.2.2.2.2.2.2 N 0 (mi_ent as q.2.2.1) [] mem
/-! more steps, deeper calls: the same answer -/
def mi_le (f g : mi_F) : Prop := ∀ t as mem q, f t as mem = some q → g t as mem = some q
theorem mi_cat_le {f g : mi_F} (h : mi_le f g) {t n : Nat} {st : List Value} {mem : mi_M} {q : List Value × mi_M} (hq : mi_cat f t n st mem = some q) : mi_cat g t n st mem = some q := by
  unfold mi_cat at hq ⊢
  split at hq
  · split at hq
    next hc =>
      rw [if_pos hc]
      obtain ⟨x, hx, h2⟩ := Option.map_eq_some_iff.mp hq
      rw [h _ _ _ _ hx]
      exact congrArg some h2
    · cases hq
  · cases hq
theorem mi_sat_le {f g : mi_F} (h : mi_le f g) {t n : Nat} {st : List Value} {mem : mi_M} {q : List Value × mi_M} (hq : mi_sat f t n st mem = some q) : mi_sat g t n st mem = some q := by
  unfold mi_sat at hq ⊢
  split at hq
  next hc =>
    rw [if_pos hc]
    obtain ⟨x, hx, h2⟩ := Option.map_eq_some_iff.mp hq
    rw [h _ _ _ _ hx]
    exact congrArg some h2
  · cases hq
theorem mi_cvt_le {f g : mi_F} (h : mi_le f g) {own k n : Nat} {st : List Value} {mem : mi_M} {q : List Value × mi_M} (hq : mi_cvt f own k n st mem = some q) : mi_cvt g own k n st mem = some q := by
  unfold mi_cvt at hq ⊢
  split at hq
  · obtain ⟨c, hc, h2⟩ := Option.bind_eq_some_iff.mp hq
    obtain ⟨t, ht, h3⟩ := Option.bind_eq_some_iff.mp h2
    rw [hc, Option.bind_some, ht, Option.bind_some]
    exact mi_cat_le h h3
  · cases hq
theorem mi_csu_le {f g : mi_F} (h : mi_le f g) {t n : Nat} {st : List Value} {mem : mi_M} {q : List Value × mi_M} (hq : mi_csu f t n st mem = some q) : mi_csu g t n st mem = some q := by
  unfold mi_csu at hq ⊢
  split at hq
  · obtain ⟨c, hc, h2⟩ := Option.bind_eq_some_iff.mp hq
    rw [hc, Option.bind_some]
    split at h2
    next h3 => rw [if_pos h3]; exact mi_cat_le h h2
    next => cases h2
  · cases hq
theorem mi_Z_le {f g : mi_F} (h : mi_le f g) {own : Nat} {i : Instr} {st : List Value} {mem : mi_M} {q : List Value × mi_M} (hq : mi_Z f own i st mem = some q) : mi_Z g own i st mem = some q := by
  unfold mi_Z at hq ⊢
  split at hq
  · unfold mi_Zv at hq ⊢
    split at hq
    · split at hq
      next h5 =>
        obtain ⟨x, hx⟩ := Option.isSome_iff_exists.mp h5.2
        rw [if_pos ⟨h5.1, by rw [h _ _ _ _ hx]; rfl⟩]
        exact hq
      next => cases hq
    · obtain ⟨c, hc, h2⟩ := Option.bind_eq_some_iff.mp hq
      rw [hc, Option.bind_some]
      exact mi_cvt_le h h2
  · unfold mi_Zs at hq ⊢
    split at hq
    · exact hq
    · split at hq
      · exact mi_sat_le h hq
      · obtain ⟨c, hc, h2⟩ := Option.bind_eq_some_iff.mp hq
        rw [hc, Option.bind_some]
        exact mi_sat_le h h2
  · unfold mi_Zp at hq ⊢
    split at hq
    · exact hq
    · split at hq
      · exact mi_cat_le h hq
      · split at hq
        · exact mi_cat_le h hq
        · obtain ⟨c, hc, h2⟩ := Option.bind_eq_some_iff.mp hq
          rw [hc, Option.bind_some]
          exact mi_csu_le h h2
  · cases hq
theorem mi_one_le {f g : mi_F} (h : mi_le f g) {own : Nat} {ini : Bool} {i : Instr} {pc : Nat} {ls st : List Value} {mem : mi_M} {q : Nat × List Value × List Value × mi_M} (hq : mi_one f own ini i pc ls st mem = some q) : mi_one g own ini i pc ls st mem = some q := by
  unfold mi_one at hq ⊢
  split at hq
  · exact hq
  · split at hq
    · exact hq
    · split at hq
      · exact hq
      · split at hq
        · exact hq
        · obtain ⟨x, hx, h2⟩ := Option.map_eq_some_iff.mp hq
          rw [mi_Z_le h hx]
          exact congrArg some h2
theorem mi_go_le {f g : mi_F} (h : mi_le f g) {own : Nat} {ini rz : Bool} {code : List (Nat × Instr)} : ∀ (n n' : Nat) (pc : Nat) (ls st : List Value) (mem : mi_M) (q : Option Value × mi_M), n ≤ n' → mi_go f own ini rz code n pc ls st mem = some q → mi_go g own ini rz code n' pc ls st mem = some q := by
  intro n
  induction n with
  | zero => intro n' pc ls st mem q _ hq; cases hq
  | succ n ih =>
    intro n' pc ls st mem q hn hq
    obtain ⟨k, rfl⟩ : ∃ k, n' = k + 1 := ⟨n' - 1, by omega⟩
    unfold mi_go at hq ⊢
    obtain ⟨i, hi, h2⟩ := Option.bind_eq_some_iff.mp hq
    rw [hi, Option.bind_some]
    split at h2
    · exact h2
    · obtain ⟨x, hx, h3⟩ := Option.bind_eq_some_iff.mp h2
      rw [mi_one_le h hx, Option.bind_some]
      exact ih k _ _ _ _ _ (by omega) h3
theorem mi_run_le {N N' : Nat} (hN : N ≤ N') : ∀ (d d' : Nat), d ≤ d' → mi_le (mi_run N d) (mi_run N' d') := by
  intro d
  induction d with
  | zero => intro d' _ t as mem q hq; cases hq
  | succ d ih =>
    intro d' hd t as mem q hq
    obtain ⟨k, rfl⟩ : ∃ k, d' = k + 1 := ⟨d' - 1, by omega⟩
    simp only [mi_run] at hq ⊢
    split at hq
    next h1 =>
      rw [if_pos h1]
      split at hq
      next h4 => rw [if_pos (by omega)]; exact hq
      next => cases hq
    next h1 =>
      rw [if_neg h1]
      obtain ⟨x, hx, h2⟩ := Option.bind_eq_some_iff.mp hq
      rw [hx, Option.bind_some]
      split at h2
      next => cases h2
      next h3 =>
        rw [if_neg h3]
        exact mi_go_le (ih k (by omega)) _ _ _ _ _ _ _ hN h2
