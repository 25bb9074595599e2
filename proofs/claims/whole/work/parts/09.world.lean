/-! MINI's cells as the machine has them -/
def mi_I (v : Value) : Int32 := match v with
  | .int x => x
  | _ => 0
def mi_Q (ad : Nat → Nat) (v : Value) : Option Nat := match v with
  | .ref a => some (ad a)
  | _ => none
def mi_e (ad : Nat → Nat) (aT : Nat → ClassId) (c : Nat × List Value) : va_E :=
  if c.1 < 13 then .inr (c.1, c.2.map (mi_v ad))
  else if c.1 = 20 then .inl (aT 0, c.2.length, .inl (fun j => mi_I (c.2.getD j .null)))
  else .inl (aT (c.1 - 20), c.2.length, .inr (.inr (.inr (.inr (fun j => mi_Q ad (c.2.getD j .null))))))
def mi_w (ad : Nat → Nat) (aT : Nat → ClassId) (mem : mi_M) : va_W := (List.range (mem.length - 5)).map (fun k => (ad (k + 5), mi_e ad aT (mem.getD (k + 5) (0, []))))
def mi_tys (aT : Nat → ClassId) : List (ClassId × FieldType) := [(aT 0, .int), (aT 1, .object (mi_an 1)), (aT 2, .object (mi_an 2)), (aT 3, .object (mi_an 3)), (aT 4, .object (mi_an 4))]
/-- the cells that lie outside: the script, three texts, the row ABOVE -/
def mi_spec (sc : List Value) : mi_M := [(30, sc), (31, []), (31, [.int 108, .int 110, .int 98]), (31, [.int 108, .int 107, .int 116]), (32, [.int (-1), .int 0, .int 0, .int 0, .int 1, .int 2, .int 3])]
def mi_ad (sA : Nat → Nat) (n0 : Nat) : Nat → Nat := fun a => if a < 5 then sA a else n0 + (a - 5)
theorem mi_ad_hi {sA : Nat → Nat} {n0 a : Nat} (h : 5 ≤ a) : mi_ad sA n0 a = n0 + (a - 5) := by
  unfold mi_ad
  rw [if_neg (by omega)]
theorem mi_w_get {ad : Nat → Nat} {aT : Nat → ClassId} {mem : mi_M} {a : Nat} {c : Nat × List Value} (h5 : 5 ≤ a) (h : mem[a]? = some c) : (mi_w ad aT mem)[a - 5]? = some (ad a, mi_e ad aT c) := by
  have hl := (List.getElem?_eq_some_iff.mp h).1
  unfold mi_w
  rw [List.getElem?_map, List.getElem?_range (by omega), Option.map_some, show a - 5 + 5 = a by omega, List.getD_eq_getElem?_getD, h]
  rfl
theorem mi_w_len {ad : Nat → Nat} {aT : Nat → ClassId} {mem : mi_M} : (mi_w ad aT mem).length = mem.length - 5 := by simp [mi_w]
theorem mi_w_inv {ad : Nat → Nat} {aT : Nat → ClassId} {mem : mi_M} {k : Nat} {q : Nat × va_E} (h : (mi_w ad aT mem)[k]? = some q) : k < mem.length - 5 ∧ q = (ad (k + 5), mi_e ad aT (mem.getD (k + 5) (0, []))) := by
  have hl := (List.getElem?_eq_some_iff.mp h).1
  rw [mi_w_len] at hl
  refine ⟨hl, ?_⟩
  unfold mi_w at h
  rw [List.getElem?_map, List.getElem?_range hl, Option.map_some] at h
  exact (Option.some.inj h).symm
theorem mi_w_set {ad : Nat → Nat} {aT : Nat → ClassId} {mem : mi_M} {a : Nat} {c : Nat × List Value} (h5 : 5 ≤ a) (hl : a < mem.length) : mi_w ad aT (mem.set a c) = (mi_w ad aT mem).set (a - 5) (ad a, mi_e ad aT c) := by
  apply List.ext_getElem?
  intro k
  by_cases hk : k < mem.length - 5
  · unfold mi_w
    rw [List.length_set, List.getElem?_map, List.getElem?_range hk, Option.map_some]
    by_cases e : k = a - 5
    · subst e
      rw [List.getElem?_set_self (by simpa using hk), show a - 5 + 5 = a by omega, List.getD_eq_getElem?_getD, List.getElem?_set_self hl]
      rfl
    · rw [List.getElem?_set_ne (fun h => e h.symm), List.getElem?_map, List.getElem?_range hk, Option.map_some, List.getD_eq_getElem?_getD, List.getElem?_set_ne (by omega), ← List.getD_eq_getElem?_getD]
  · rw [List.getElem?_eq_none (by rw [mi_w_len, List.length_set]; omega), List.getElem?_eq_none (by rw [List.length_set, mi_w_len]; omega)]
theorem mi_w_app {ad : Nat → Nat} {aT : Nat → ClassId} {mem : mi_M} {c : Nat × List Value} (h5 : 5 ≤ mem.length) : mi_w ad aT (mem ++ [c]) = mi_w ad aT mem ++ [(ad mem.length, mi_e ad aT c)] := by
  unfold mi_w
  rw [List.length_append, List.length_singleton, show mem.length + 1 - 5 = (mem.length - 5) + 1 by omega, List.range_succ, List.map_append, List.map_singleton, show mem.length - 5 + 5 = mem.length by omega]
  congr 1
  · apply List.map_congr_left
    intro k hk
    have := List.mem_range.mp hk
    rw [List.getD_eq_getElem?_getD, List.getElem?_append_left (by omega), ← List.getD_eq_getElem?_getD]
  · rw [List.getD_eq_getElem?_getD, List.getElem?_append_right (Nat.le_refl _), Nat.sub_self]
    rfl
theorem mi_w_D {sA : Nat → Nat} {n0 : Nat} {aT : Nat → ClassId} {mem : mi_M} : va_D (fun q : Nat => n0 ≤ q) (mi_w (mi_ad sA n0) aT mem) := by
  refine ⟨fun i j p q hi hj hpq => ?_, fun k q hk => ?_⟩
  · obtain ⟨-, rfl⟩ := mi_w_inv hi
    obtain ⟨-, rfl⟩ := mi_w_inv hj
    have h : mi_ad sA n0 (i + 5) = mi_ad sA n0 (j + 5) := hpq
    rw [mi_ad_hi (by omega), mi_ad_hi (by omega)] at h
    omega
  · obtain ⟨-, rfl⟩ := mi_w_inv hk
    show n0 ≤ mi_ad sA n0 (k + 5)
    rw [mi_ad_hi (by omega)]
    omega
/-- the low cells are the outside ones -/
theorem mi_hi {sc : List Value} {mem : mi_M} {a : Nat} {c : Nat × List Value} (hm : mem.take 5 = mi_spec sc) (h : mem[a]? = some c) (hc : c.1 < 25) : 5 ≤ a := by
  refine Nat.not_lt.mp fun ha => ?_
  have h1 : (mem.take 5)[a]? = some c := by rw [List.getElem?_take, if_pos ha]; exact h
  rw [hm] at h1
  rcases (by omega : a = 0 ∨ a = 1 ∨ a = 2 ∨ a = 3 ∨ a = 4) with rfl | rfl | rfl | rfl | rfl <;> (cases h1; simp at hc)
theorem mi_lo {sc : List Value} {mem : mi_M} {a : Nat} (hm : mem.take 5 = mi_spec sc) (ha : a < 5) : mem[a]? = (mi_spec sc)[a]? := by
  rw [← hm, List.getElem?_take, if_pos ha]
theorem mi_len5 {sc : List Value} {mem : mi_M} (hm : mem.take 5 = mi_spec sc) : 5 ≤ mem.length := by
  have h : (mem.take 5).length = 5 := by rw [hm]; rfl
  rw [List.length_take] at h
  omega
theorem mi_take_set {sc : List Value} {mem : mi_M} {a : Nat} {c : Nat × List Value} (hm : mem.take 5 = mi_spec sc) (h5 : 5 ≤ a) : (mem.set a c).take 5 = mi_spec sc := by
  rw [← hm]
  apply List.ext_getElem?
  intro k
  rw [List.getElem?_take, List.getElem?_take]
  by_cases hk : k < 5
  · rw [if_pos hk, if_pos hk, List.getElem?_set_ne (by omega)]
  · rw [if_neg hk, if_neg hk]
theorem mi_take_app {sc : List Value} {mem : mi_M} {c : Nat × List Value} (hm : mem.take 5 = mi_spec sc) : (mem ++ [c]).take 5 = mi_spec sc := by
  rw [List.take_append_of_le_length (mi_len5 hm), hm]
theorem mi_e_obj {ad : Nat → Nat} {aT : Nat → ClassId} {ci : Nat} {fs : List Value} (h : ci < 13) : mi_e ad aT (ci, fs) = .inr (ci, fs.map (mi_v ad)) := by
  unfold mi_e
  rw [if_pos h]
theorem mi_e_int {ad : Nat → Nat} {aT : Nat → ClassId} {fs : List Value} : mi_e ad aT (20, fs) = .inl (aT 0, fs.length, .inl (fun j => mi_I (fs.getD j .null))) := by
  unfold mi_e
  rw [if_neg (by show ¬ 20 < 13; decide), if_pos rfl]
theorem mi_e_ref {ad : Nat → Nat} {aT : Nat → ClassId} {h : Nat} {fs : List Value} (h1 : 20 < h) : mi_e ad aT (h, fs) = .inl (aT (h - 20), fs.length, .inr (.inr (.inr (.inr (fun j => mi_Q ad (fs.getD j .null)))))) := by
  unfold mi_e
  rw [if_neg (by show ¬ h < 13; omega), if_neg (by show ¬ h = 20; omega)]
/-- indices -/
theorem mi_ix_in {i : Int32} {n : Nat} (h : mi_ix i n = true) : vp_in i n := by
  simp only [mi_ix, Bool.and_eq_true, decide_eq_true_eq] at h
  exact vp_in_iff.mpr h
theorem mi_ix_lt {i : Int32} {n : Nat} (h : mi_ix i n = true) : i.toNatClampNeg < n := Nat.not_le.mp fun q => mi_ix_in h (Or.inr q)
theorem mi_I_set {cs : List Value} {k : Nat} {x : Int32} (hk : k < cs.length) : (fun j => mi_I ((cs.set k (.int x)).getD j .null)) = upd (fun j => mi_I (cs.getD j .null)) k x := by
  funext j
  unfold upd
  simp only [List.getD_eq_getElem?_getD]
  by_cases h : j = k
  · subst h
    rw [if_pos rfl, List.getElem?_set_self hk]
    rfl
  · rw [if_neg h, List.getElem?_set_ne (fun z => h z.symm)]
theorem mi_Q_set {ad : Nat → Nat} {cs : List Value} {k b : Nat} (hk : k < cs.length) : (fun j => mi_Q ad ((cs.set k (.ref b)).getD j .null)) = va_up (fun j => mi_Q ad (cs.getD j .null)) k (some (ad b)) := by
  funext j
  unfold va_up
  simp only [List.getD_eq_getElem?_getD]
  by_cases h : j = k
  · subst h
    rw [if_pos rfl, List.getElem?_set_self hk]
    rfl
  · rw [if_neg h, List.getElem?_set_ne (fun z => h z.symm)]
theorem mi_I_cpy {f g : List Value} {sp dp n : Nat} (h : dp + n ≤ g.length) : (fun j => mi_I ((mi_cpy f g sp dp n).getD j .null)) = va_cpy (fun j => mi_I (f.getD j .null)) (fun j => mi_I (g.getD j .null)) sp dp n := by
  funext j
  unfold va_cpy mi_cpy
  rw [List.getD_eq_getElem?_getD, List.getElem?_map]
  by_cases hj : j < g.length
  · rw [List.getElem?_range hj, Option.map_some, Option.getD_some]
    split <;> rfl
  · have e : g.getD j .null = .null := by rw [List.getD_eq_getElem?_getD, List.getElem?_eq_none (by omega)]; rfl
    rw [List.getElem?_eq_none (by simpa using hj), if_neg (by omega)]
    show mi_I .null = mi_I (g.getD j .null)
    rw [e]
theorem mi_cpy_len {f g : List Value} {sp dp n : Nat} : (mi_cpy f g sp dp n).length = g.length := by simp [mi_cpy]
theorem mi_fit_ok {ty : FieldType} {v : Value} (ad : Nat → Nat) (h : mi_fit ty v = true) : narrow ty (mi_v ad v) = mi_v ad v ∧ fits ty (mi_v ad v) = true := by
  unfold mi_fit at h
  split at h
  · exact ⟨rfl, rfl⟩
  · have h1 := of_decide_eq_true h
    rcases h1 with rfl | rfl <;> exact ⟨rfl, rfl⟩
  · exact ⟨rfl, rfl⟩
  · exact ⟨rfl, rfl⟩
  · cases h
theorem mi_look {α β : Type} [BEq α] [LawfulBEq α] {a : α} {b : β} : ∀ {l : List (α × β)}, l.lookup a = some b → (a, b) ∈ l := by
  intro l
  induction l with
  | nil => intro h; cases h
  | cons q l ih =>
    intro h
    obtain ⟨x, y⟩ := q
    rw [List.lookup_cons] at h
    split at h
    next he => cases h; rw [eq_of_beq he]; exact List.mem_cons_self
    next => exact List.mem_cons_of_mem _ (ih h)
