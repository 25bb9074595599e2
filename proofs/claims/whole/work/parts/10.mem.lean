/-! MINI's memory runs as the JVM's -/
def mi_bw (w : Jvm.Cond) : Bool := match w with
  | .fieldLinkNest .. => true
  | .methodLinkNest .. => true
  | .castable .. => true
  | .arrayOver (.object _) => true
  | _ => false
def mi_bad : List Jvm.Cond := lw_tbl.filter mi_bw
theorem mi_bad_of {w : Jvm.Cond} (h : w ∈ lw_tbl) (hg : mi_bw w = true) : w ∈ mi_bad := List.mem_filter.mpr ⟨h, hg⟩
theorem mi_bad_warm {s U : State} (hW : s.WarmedH U.vm) (h : ∀ w ∈ mi_bad, va_Nw w s) : ∀ w ∈ mi_bad, va_Nw w U := by
  intro w hw
  have h1 := h w hw
  have h2 := (List.mem_filter.mp hw).2
  unfold mi_bw at h2
  split at h2
  · exact va_Nw.warmF hW h1
  · exact va_Nw.warmM hW h1
  · exact va_Nw.warmC hW h1
  · exact va_AO.moved hW.alike h1
  · cases h2
/-- what lies outside: the script, ABOVE, the texts -/
def mi_so (ad : Nat → Nat) (A : Nat → Prop) (U : State) (H : Heap) : Prop := ∃ adV : Nat → Nat, vk_S 3 [0, 3, 3] [[], [108, 110, 98], [108, 107, 116]] (fun i => ad (i + 1)) adV A U H
def mi_out (ad : Nat → Nat) (n0 : Nat) (sc : List Value) (U : State) (H : Heap) : Prop :=
  (va_X (ad 0) sc.length (fun j => mi_I (sc.getD j .null)) U H ∧ ad 0 < n0) ∧ va_Z "NineLedges" "ABOVE" "[I" (.ref (ad 4)) (fun q : Nat => n0 ≤ q) U H ∧ va_T .int (ad 4) 7 (fun j => [Value.int (-1), .int 0, .int 0, .int 0, .int 1, .int 2, .int 3].getD j .null) (fun q : Nat => n0 ≤ q) U H ∧
  vk_R RX8 33 "" (ad 1) U ∧ vk_R RX11 172 "lnb" (ad 2) U ∧ vk_R RX11 174 "lkt" (ad 3) U ∧ mi_so ad (fun q : Nat => n0 ≤ q) U H ∧
  va_Z "java/lang/String" "COMPACT_STRINGS" "Z" (.int 1) (fun q : Nat => n0 ≤ q) U H
def mi_cx (p : Program) (s : State) (m : MethodId) (args : Array Value) (meth : Method) (c : Code) (t : Nat) (q : mi_Mt) (sA : Nat → Nat) (n0 : Nat) (sc : List Value) (D : va_G) (aT : Nat → ClassId) : Prop :=
  mi_mt[t]? = some q ∧ p.tables.exec = Jvm.exec ∧ c.code = mi_bt q ∧ c.maxLocals = q.2.2.1 ∧ s.vm.findClass q.1.cls = some m.cls ∧ (∀ w ∈ mi_all, w.before args s = true) ∧ (∀ w ∈ mi_bad, va_Nw w s) ∧ va_K D mi_cl (mi_tys aT) s ∧ n0 ≤ s.heap.size ∧ meth.locks = false ∧ (mi_ii.contains t = true → meth.name = "<init>") ∧ meth.sig.returnType = q.2.2.2.1 ∧ mi_out (mi_ad sA n0) n0 sc s s.heap
/-- the low cells are the outside ones; all else is of a kind below 25 -/
def mi_inv (sc : List Value) (mem : mi_M) : Prop := mem.take 5 = mi_spec sc ∧ ∀ (a : Nat) (c : Nat × List Value), 5 ≤ a → mem[a]? = some c → c.1 < 25
theorem mi_inv_set {sc : List Value} {mem : mi_M} {a : Nat} {c d : Nat × List Value} (h : mi_inv sc mem) (hc : mem[a]? = some c) (hk : c.1 < 25) (hd : d.1 = c.1) : mi_inv sc (mem.set a d) := by
  refine ⟨mi_take_set h.1 (mi_hi h.1 hc hk), fun b x hb hx => ?_⟩
  by_cases hab : b = a
  · subst hab
    rw [List.getElem?_set_self (List.getElem?_eq_some_iff.mp hc).1] at hx
    cases hx
    omega
  · rw [List.getElem?_set_ne (fun z => hab z.symm)] at hx
    exact h.2 b x hb hx
theorem mi_inv_app {sc : List Value} {mem : mi_M} {c : Nat × List Value} (h : mi_inv sc mem) (hk : c.1 < 25) : mi_inv sc (mem ++ [c]) := by
  refine ⟨mi_take_app h.1, fun b x hb hx => ?_⟩
  by_cases hl : b < mem.length
  · rw [List.getElem?_append_left hl] at hx
    exact h.2 b x hb hx
  · rw [List.getElem?_append_right (by omega)] at hx
    have hz : b - mem.length < 1 := (List.getElem?_eq_some_iff.mp hx).1
    rw [show b - mem.length = 0 by omega] at hx
    cases hx
    exact hk
theorem mi_low_kind {sc : List Value} {mem : mi_M} {a : Nat} {c : Nat × List Value} (h : mi_inv sc mem) (hc : mem[a]? = some c) (hk : c.1 = 30 ∨ c.1 = 32) : (c.1 = 30 ∧ a = 0 ∧ c.2 = sc) ∨ (c.1 = 32 ∧ a = 4 ∧ c.2 = [.int (-1), .int 0, .int 0, .int 0, .int 1, .int 2, .int 3]) := by
  have ha : a < 5 := Nat.not_le.mp fun z => by
    have := h.2 a c z hc
    omega
  have h1 := mi_lo h.1 ha
  rw [hc] at h1
  rcases (by omega : a = 0 ∨ a = 1 ∨ a = 2 ∨ a = 3 ∨ a = 4) with rfl | rfl | rfl | rfl | rfl <;> cases h1
  · exact Or.inl ⟨rfl, rfl, rfl⟩
  · rcases hk with hk | hk <;> cases hk
  · rcases hk with hk | hk <;> cases hk
  · rcases hk with hk | hk <;> cases hk
  · exact Or.inr ⟨rfl, rfl, rfl⟩
def mi_hd (sA : Nat → Nat) (n0 : Nat) (sc : List Value) (D : va_G) (aT : Nat → ClassId) (s : State) (mem : mi_M) (H : Heap) (locs : List Loc) : Prop :=
  va_P D mi_cl (mi_w (mi_ad sA n0) aT mem) H ∧ va_S (fun q : Nat => n0 ≤ q) s.heap H locs ∧ mi_inv sc mem
def mi_sl (mem : mi_M) : Nat := (mem.map (fun c => c.2.length)).sum
theorem mi_sl_app {mem : mi_M} {c : Nat × List Value} : mi_sl (mem ++ [c]) = mi_sl mem + c.2.length := by
  unfold mi_sl
  rw [List.map_append, List.sum_append]
  simp
theorem mi_sl_set {mem : mi_M} {a : Nat} {c d : Nat × List Value} (h : mem[a]? = some c) (hl : d.2.length = c.2.length) : mi_sl (mem.set a d) = mi_sl mem := by
  unfold mi_sl
  rw [List.map_set]
  congr 1
  apply List.ext_getElem?
  intro k
  by_cases hk : k = a
  · subst hk
    have hlt := (List.getElem?_eq_some_iff.mp h).1
    rw [List.getElem?_set_self (by simpa using hlt), List.getElem?_map, h, Option.map_some, hl]
  · rw [List.getElem?_set_ne (fun z => hk z.symm)]
theorem mi_ld_inv {mem : mi_M} {a h : Nat} {fs : List Value} (hl : mi_ld mem a h = some fs) : mem[a]? = some (h, fs) := by
  unfold mi_ld at hl
  obtain ⟨c, hc, h2⟩ := Option.bind_eq_some_iff.mp hl
  obtain ⟨x, y⟩ := c
  split at h2
  next he => cases h2; rw [hc]; exact congrArg (fun z => some (z, y)) he
  next => cases h2
/-- a field link -/
theorem mi_gf_inv {own k : Nat} {q : Nat × Nat} {O : String} (hO : mi_R[own]? = some O) (h : mi_gf own k = some q) : ∃ r : vw_C, mi_cl[q.1]? = some r ∧ q.2 < r.2.2 ∧
    (Jvm.Cond.fieldLink O k (r.2.1 q.2).1 (r.2.1 q.2).2.1 (r.2.1 q.2).2.2.1 ∈ lw_tbl ∨ ((mi_fl.lookup (own, k)).isNone = true ∧ Jvm.Cond.fieldLinkNest O k (r.2.1 q.2).1 (r.2.1 q.2).2.1 (r.2.1 q.2).2.2.1 "NineLedges" ∈ lw_tbl)) := by
  unfold mi_gf at h
  split at h
  next x hx =>
    cases h
    have h1 := List.all_eq_true.mp mi_fl_ok _ (mi_look hx)
    unfold mi_fchk at h1
    rw [hO] at h1
    try dsimp only at h1
    split at h1
    next O' r hO' hr =>
      cases hO'
      rw [Bool.and_eq_true] at h1
      exact ⟨r, hr, of_decide_eq_true h1.1, Or.inl (mi_at_mem h1.2)⟩
    next => cases h1
  next hx =>
    obtain ⟨x, hx2, rfl⟩ := Option.map_eq_some_iff.mp h
    have h1 := List.all_eq_true.mp mi_fn_ok _ (mi_look hx2)
    unfold mi_fchk at h1
    rw [hO] at h1
    try dsimp only at h1
    split at h1
    next O' r hO' hr =>
      cases hO'
      rw [Bool.and_eq_true] at h1
      exact ⟨r, hr, of_decide_eq_true h1.1, Or.inr ⟨by rw [hx]; rfl, mi_at_mem h1.2⟩⟩
    next => cases h1
/-- a class -/
theorem mi_cl_inv {ci : Nat} {r : vw_C} (h : mi_cl[ci]? = some r) : ci < 13 ∧ (∀ w ∈ u_ws r.1 r.2.1 r.2.2, w ∈ mi_all) ∧ (∀ k, k < r.2.2 → (r.2.1 k).1 = r.1) ∧ (∀ k, k < r.2.2 → parseFieldDescriptor (r.2.1 k).2.2.1 = some (mi_ty ci k)) ∧ (∀ a, a < r.2.2 → ∀ b, b < r.2.2 → a ≠ b → (r.2.1 a).2.1 ≠ (r.2.1 b).2.1) ∧
    (∃ fs, mi_df[ci]? = some fs ∧ fs.length = r.2.2 ∧ ∀ k, k < r.2.2 → defaultValue (mi_ty ci k) = vp_V fs k) ∧ Jvm.Cond.instantiable r.1 r.2.2 ∈ lw_tbl ∧ Jvm.Cond.initialized r.1 ∈ lw_tbl := by
  have h13 : ci < 13 := (List.getElem?_eq_some_iff.mp h).1
  have h1 := List.all_eq_true.mp mi_cl_ok ci (List.mem_range.mpr h13)
  unfold mi_cchk at h1
  rw [h] at h1
  try dsimp only at h1
  split at h1
  next r' lp fs ip hr hlp hfs hip =>
    cases hr
    simp only [Bool.and_eq_true, decide_eq_true_eq] at h1
    obtain ⟨⟨⟨⟨h1, h2⟩, h3⟩, h4⟩, h5⟩ := h1
    have h6 : ∀ k, k < r.2.2 → ((mi_at (lp.getD k 0) (u_lay r.1 r.2.1 k) = true ∧ (r.2.1 k).1 = r.1) ∧ parseFieldDescriptor (r.2.1 k).2.2.1 = some (mi_ty ci k)) ∧ defaultValue (mi_ty ci k) = vp_V fs k := by
      intro k hk
      have h7 := List.all_eq_true.mp h1 k (List.mem_range.mpr hk)
      simp only [Bool.and_eq_true, decide_eq_true_eq] at h7
      exact h7
    refine ⟨h13, fun w hw => ?_, fun k hk => (h6 k hk).1.1.2, fun k hk => (h6 k hk).1.2, fun a ha b hb hab => ?_, ⟨fs, hfs, h2, fun k hk => (h6 k hk).2⟩, mi_at_mem h3, mi_at_mem h4⟩
    · obtain ⟨k, hk, rfl⟩ := List.mem_map.mp hw
      refine mi_all_of (mi_at_mem (h6 k (List.mem_range.mp hk)).1.1.1) ?_
      unfold u_lay
      split <;> rfl
    · have h7 := List.all_eq_true.mp (List.all_eq_true.mp h5 a (List.mem_range.mpr ha)) b (List.mem_range.mpr hb)
      simp only [Bool.or_eq_true, decide_eq_true_eq] at h7
      exact h7.resolve_left hab
  next => cases h1
theorem mi_mt_inv {t : Nat} {q : mi_Mt} (h : mi_mt[t]? = some q) : plainName q.1.cls = true ∧ q.2.2.1 ≤ 40 ∧ mi_R[q.2.2.2.2.1]? = some q.1.cls ∧ (q.2.2.2.1 = none ∨ q.2.2.2.1 = some .int ∨ q.2.2.2.1 = some .boolean) ∧ (q.2.2.2.2.2.1 ≠ 99999 → Jvm.Cond.code q.1 (mi_bt q) q.2.2.1 q.2.2.2.1 ∈ lw_tbl) ∧ (mi_ii.contains t = true → q.1.name = "<init>") := by
  have h1 := List.all_eq_true.mp mi_mc q (List.mem_of_getElem? h)
  unfold mi_mchk at h1
  simp only [Bool.and_eq_true, Bool.or_eq_true, decide_eq_true_eq] at h1
  obtain ⟨⟨⟨⟨h1, h2⟩, h3⟩, h4⟩, h5⟩ := h1
  refine ⟨h1, h2, h3, by rcases h4 with (h4 | h4) | h4 <;> simp [h4], fun hne => ?_, fun hi => ?_⟩
  · split at h5
    next w hw =>
      simp only [Bool.and_eq_true, decide_eq_true_eq] at h5
      have h6 := mi_cw_mem hw
      rw [h5.1.1, h5.1.2, h5.2] at h6
      unfold mi_bt
      rw [hw]
      exact h6
    next => exact absurd (of_decide_eq_true h5) hne
  · have h6 := mi_ii_ok t (by simpa using hi)
    rw [h] at h6
    simpa using h6
theorem mi_dec_inv {t : Nat} {q : mi_Mt} {pc : Nat} {i : Instr} (h : mi_mt[t]? = some q) (hi : q.2.2.2.2.2.2.lookup pc = some i) : ∃ len, decode (mi_bt q) pc = .ok (i, len) ∧ (mi_len i = 0 ∨ mi_len i = len) := by
  have h1 := List.all_eq_true.mp mi_dm q (List.mem_of_getElem? h)
  have h2 := List.all_eq_true.mp h1 _ (mi_look hi)
  unfold mi_dec at h2
  split at h2
  next x hx =>
    simp only [Bool.and_eq_true, Bool.or_eq_true, decide_eq_true_eq] at h2
    obtain ⟨a, b⟩ := x
    obtain ⟨h3, h4⟩ := h2
    dsimp only at h3 h4
    subst h3
    exact ⟨b, hx, h4⟩
  next => cases h2
theorem mi_R_cl {ci : Nat} {w : vw_C} (h : mi_cl[ci]? = some w) : mi_R[ci]? = some w.1 := by
  have h13 : ci < 13 := (List.getElem?_eq_some_iff.mp h).1
  rcases (by omega : ci = 0 ∨ ci = 1 ∨ ci = 2 ∨ ci = 3 ∨ ci = 4 ∨ ci = 5 ∨ ci = 6 ∨ ci = 7 ∨ ci = 8 ∨ ci = 9 ∨ ci = 10 ∨ ci = 11 ∨ ci = 12) with rfl | rfl | rfl | rfl | rfl | rfl | rfl | rfl | rfl | rfl | rfl | rfl | rfl <;> (cases h; rfl)
theorem mi_fn_own : mi_fn.all (fun q => decide (q.1.1 ≠ q.2.1)) = true := by decide +kernel
theorem mi_gf_own {own k : Nat} {g : Nat × Nat} (h : mi_gf own k = some g) (ho : own = g.1) (hn : (mi_fl.lookup (own, k)).isNone = true) : False := by
  unfold mi_gf at h
  split at h
  next x hx => rw [hx] at hn; cases hn
  next =>
    obtain ⟨x, hx, rfl⟩ := Option.map_eq_some_iff.mp h
    exact absurd ho (of_decide_eq_true (List.all_eq_true.mp mi_fn_own _ (mi_look hx)))
theorem mi_df_plain : mi_df.all (fun fs => fs.all (fun v => decide (v = .int 0) || decide (v = .null))) = true := by decide +kernel
theorem mi_v_def {ad : Nat → Nat} {ci k : Nat} {fs : List Value} (h : mi_df[ci]? = some fs) (hk : k < fs.length) : mi_v ad fs[k] = fs[k] := by
  have h1 := List.all_eq_true.mp (List.all_eq_true.mp mi_df_plain fs (List.mem_of_getElem? h)) fs[k] (List.getElem_mem hk)
  simp only [Bool.or_eq_true, decide_eq_true_eq] at h1
  rcases h1 with h1 | h1 <;> (rw [h1]; rfl)
