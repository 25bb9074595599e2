/-! a run that never asks cell 0 goes alike whatever lies there -/
def mz_0 (mem : mi_M) : Prop := mem[0]? = some (40, [])
theorem mz_get {mem : mi_M} {a : Nat} {c x : Nat × List Value} (h0 : mz_0 mem) (h : mem[a]? = some x) (hk : x.1 ≠ 40) : (mem.set 0 c)[a]? = some x ∧ a ≠ 0 := by
  have ha : a ≠ 0 := by
    intro e
    subst e
    have h1 : mem[0]? = some (40, []) := h0
    rw [h] at h1
    cases h1
    exact hk rfl
  exact ⟨by rw [List.getElem?_set_ne (fun z => ha z.symm)]; exact h, ha⟩
theorem mz_set {mem : mi_M} {a : Nat} {c x : Nat × List Value} (ha : a ≠ 0) : (mem.set a x).set 0 c = (mem.set 0 c).set a x := List.set_comm _ _ ha
theorem mz_set0 {mem : mi_M} {a : Nat} {x : Nat × List Value} (h0 : mz_0 mem) (ha : a ≠ 0) : mz_0 (mem.set a x) := by
  unfold mz_0
  rw [List.getElem?_set_ne ha]
  exact h0
theorem mz_pos {mem : mi_M} (h0 : mz_0 mem) : 0 < mem.length := (List.getElem?_eq_some_iff.mp h0).1
theorem mz_app {mem : mi_M} {c x : Nat × List Value} (h0 : mz_0 mem) : (mem ++ [x]).set 0 c = mem.set 0 c ++ [x] := by
  rw [List.set_append_left _ _ (mz_pos h0)]
theorem mz_app0 {mem : mi_M} {x : Nat × List Value} (h0 : mz_0 mem) : mz_0 (mem ++ [x]) := by
  unfold mz_0
  rw [List.getElem?_append_left (mz_pos h0)]
  exact h0
theorem mz_gf {own k : Nat} {g : Nat × Nat} (hg : mi_gf own k = some g) : g.1 < 13 := by
  unfold mi_gf at hg
  split at hg
  next x hx => cases hg; exact of_decide_eq_true (List.all_eq_true.mp (show mi_fl.all (fun q => decide (q.2.1 < 13)) = true by decide +kernel) _ (mi_look hx))
  next =>
    obtain ⟨x, hx, rfl⟩ := Option.map_eq_some_iff.mp hg
    exact of_decide_eq_true (List.all_eq_true.mp (show mi_fn.all (fun q => decide (q.2.1 < 13)) = true by decide +kernel) _ (mi_look hx))
theorem mz_ld {mem : mi_M} {a h : Nat} {c : Nat × List Value} {fs : List Value} (h0 : mz_0 mem) (hl : mem[a]? = some (h, fs)) (hk : h ≠ 40) : mi_ld (mem.set 0 c) a h = some fs := by
  unfold mi_ld
  rw [(mz_get h0 hl hk).1, Option.bind_some, if_pos rfl]
theorem mz_Y {own : Nat} {ini : Bool} {i : Instr} {st : List Value} {mem : mi_M} {q : List Value × mi_M} (c : Nat × List Value) (h0 : mz_0 mem) (h : mi_Y own ini i st mem = some q) : mi_Y own ini i st (mem.set 0 c) = some (q.1, q.2.set 0 c) ∧ mz_0 q.2 := by
  unfold mi_Y at h ⊢
  split at h
  · obtain ⟨a, r, g, fs, v, rfl, hg, hfs, hv, rfl⟩ := mi_getf_inv h
    have h13 := mz_gf hg
    refine ⟨?_, h0⟩
    show mi_getf own _ (.ref a :: r) _ = _
    simp only [mi_getf, hg, Option.bind_some, mz_ld h0 hfs (by omega), hv, Option.map_some]
  · obtain ⟨v, a, r, g, fs, rfl, hg, hfs, h1, h2, h3, rfl⟩ := mi_putf_inv h
    have h13 := mz_gf hg
    have ha := (mz_get (c := c) h0 hfs (by show g.1 ≠ 40; omega)).2
    refine ⟨?_, mz_set0 h0 ha⟩
    show mi_putf own ini _ (v :: .ref a :: r) _ = _
    simp only [mi_putf, hg, Option.bind_some, mz_ld h0 hfs (by omega)]
    rw [if_pos ⟨h1, h2, h3⟩, mz_set ha]
  · unfold mi_gets at h
    obtain ⟨x, hx, rfl⟩ := Option.map_eq_some_iff.mp h
    refine ⟨?_, h0⟩
    show mi_gets own _ st _ = _
    simp only [mi_gets, hx, Option.map_some]
  · obtain ⟨i, a, r, x, v, rfl, hc, hk, hix, hv, rfl⟩ := mi_ial_inv h
    refine ⟨?_, h0⟩
    show mi_ial (.int i :: .ref a :: r) _ = _
    simp only [mi_ial, (mz_get h0 hc (by rcases hk with hk | hk | hk <;> (rw [hk]; decide))).1, Option.bind_some]
    rw [if_pos ⟨hk, hix⟩, hv]
  · obtain ⟨x, i, a, r, cs, rfl, hc, hix, rfl⟩ := mi_ias_inv h
    have ha := (mz_get (c := c) h0 hc (show (20 : Nat) ≠ 40 by decide)).2
    refine ⟨?_, mz_set0 h0 ha⟩
    show mi_ias (.int x :: .int i :: .ref a :: r) _ = _
    simp only [mi_ias, Option.bind_some, mz_ld h0 hc (by decide)]
    rw [if_pos hix, mz_set ha]
  · obtain ⟨i, a, r, x, b, rfl, hc, hk, hix, hv, rfl⟩ := mi_aal_inv h
    refine ⟨?_, h0⟩
    show mi_aal (.int i :: .ref a :: r) _ = _
    simp only [mi_aal, (mz_get h0 hc (by omega)).1, Option.bind_some]
    rw [if_pos ⟨hk, hix⟩, hv]
  · obtain ⟨b, i, a, r, x, y, rfl, hc, hd, hcan, hix, rfl⟩ := mi_aas_inv h
    have h1 : x.1 ≠ 40 ∧ y.1 ≠ 40 := by rcases mi_can_lt hcan with h | h | h | h <;> omega
    have ha := (mz_get (c := c) h0 hc h1.1).2
    refine ⟨?_, mz_set0 h0 ha⟩
    show mi_aas (.ref b :: .int i :: .ref a :: r) _ = _
    simp only [mi_aas, Option.bind_some, (mz_get (c := c) h0 hc h1.1).1, (mz_get (c := c) h0 hd h1.2).1]
    rw [if_pos ⟨hcan, hix⟩, mz_set ha]
  · obtain ⟨a, r, x, rfl, hc, hk, rfl⟩ := mi_aln_inv h
    refine ⟨?_, h0⟩
    show mi_aln (.ref a :: r) _ = _
    simp only [mi_aln, (mz_get h0 hc (by omega)).1, Option.bind_some]
    rw [if_pos hk]
  · obtain ⟨n, r, rfl, h1, h2, rfl⟩ := mi_nwa_inv h
    refine ⟨?_, mz_app0 h0⟩
    show mi_nwa (.int n :: r) _ = _
    simp only [mi_nwa, List.length_set]
    rw [if_pos ⟨h1, h2⟩, mz_app h0]
  · obtain ⟨n, r, g, rfl, hg, h1, h2, rfl⟩ := mi_nwq_inv h
    refine ⟨?_, mz_app0 h0⟩
    show mi_nwq own _ (.int n :: r) _ = _
    simp only [mi_nwq, hg, Option.bind_some, List.length_set]
    rw [if_pos ⟨h1, h2⟩, mz_app h0]
  · obtain ⟨g, fs, hg, hfs, rfl⟩ := mi_nw_inv h
    refine ⟨?_, mz_app0 h0⟩
    show mi_nw own _ st _ = _
    simp only [mi_nw, hg, Option.bind_some, hfs, Option.map_some, List.length_set]
    rw [mz_app h0]
  · unfold mi_ldk at h ⊢
    split at h
    · cases h; exact ⟨rfl, h0⟩
    · obtain ⟨x, hx, rfl⟩ := Option.map_eq_some_iff.mp h
      exact ⟨by rw [hx]; rfl, h0⟩
  · unfold mi_ldk2 at h ⊢
    obtain ⟨x, hx, rfl⟩ := Option.map_eq_some_iff.mp h
    exact ⟨by rw [hx]; rfl, h0⟩
  · unfold mi_ldw at h ⊢
    obtain ⟨x, hx, rfl⟩ := Option.map_eq_some_iff.mp h
    exact ⟨by rw [hx]; rfl, h0⟩
  · cases h
def mz_F (f : mi_F) : Prop := ∀ (t : Nat) (as : List Value) (mem : mi_M) (q : Option Value × mi_M) (c : Nat × List Value), mz_0 mem → f t as mem = some q → f t as (mem.set 0 c) = some (q.1, q.2.set 0 c) ∧ mz_0 q.2
theorem mz_cat {f : mi_F} (hf : mz_F f) {t n : Nat} {st : List Value} {mem : mi_M} {q : List Value × mi_M} (c : Nat × List Value) (h0 : mz_0 mem) (h : mi_cat f t n st mem = some q) : mi_cat f t n st (mem.set 0 c) = some (q.1, q.2.set 0 c) ∧ mz_0 q.2 := by
  unfold mi_cat at h ⊢
  split at h
  · split at h
    next hc =>
      rw [if_pos hc]
      obtain ⟨x, hx, rfl⟩ := Option.map_eq_some_iff.mp h
      have h1 := hf _ _ _ _ c h0 hx
      rw [h1.1]
      exact ⟨rfl, h1.2⟩
    · cases h
  · cases h
theorem mz_sat {f : mi_F} (hf : mz_F f) {t n : Nat} {st : List Value} {mem : mi_M} {q : List Value × mi_M} (c : Nat × List Value) (h0 : mz_0 mem) (h : mi_sat f t n st mem = some q) : mi_sat f t n st (mem.set 0 c) = some (q.1, q.2.set 0 c) ∧ mz_0 q.2 := by
  unfold mi_sat at h ⊢
  split at h
  next hc =>
    rw [if_pos hc]
    obtain ⟨x, hx, rfl⟩ := Option.map_eq_some_iff.mp h
    have h1 := hf _ _ _ _ c h0 hx
    rw [h1.1]
    exact ⟨rfl, h1.2⟩
  · cases h
theorem mz_vt {own k h t : Nat} (hv : mi_vt own k h = some t) : h ≠ 40 := by
  unfold mi_vt at hv
  split at hv
  next x hx => exact fun e => absurd (of_decide_eq_true (List.all_eq_true.mp (show mi_cv.all (fun q => decide (q.1.2.2 < 13)) = true by decide +kernel) _ (mi_look hx))) (by rw [e]; show ¬ (40 : Nat) < 13; decide)
  next =>
    obtain ⟨x, hx, rfl⟩ := Option.map_eq_some_iff.mp hv
    exact fun e => absurd (of_decide_eq_true (List.all_eq_true.mp (show mi_cu.all (fun q => decide (q.1.2.2 < 13)) = true by decide +kernel) _ (mi_look hx))) (by rw [e]; show ¬ (40 : Nat) < 13; decide)
theorem mz_Z {f : mi_F} (hf : mz_F f) {own : Nat} {i : Instr} {st : List Value} {mem : mi_M} {q : List Value × mi_M} (c : Nat × List Value) (h0 : mz_0 mem) (h : mi_Z f own i st mem = some q) : mi_Z f own i st (mem.set 0 c) = some (q.1, q.2.set 0 c) ∧ mz_0 q.2 := by
  unfold mi_Z at h ⊢
  split at h
  · unfold mi_Zv at h ⊢
    split at h
    · split at h
      next h5 =>
        rw [if_pos h5]
        unfold mi_sio at h ⊢
        split at h
        · obtain ⟨cs, hcs, h2⟩ := Option.bind_eq_some_iff.mp h
          rw [mz_ld h0 (mi_ld_inv hcs) (by decide), Option.bind_some]
          split at h2
          next hl => cases h2; rw [if_pos hl]; exact ⟨rfl, h0⟩
          · cases h2
        · cases h
      · cases h
    · obtain ⟨n, hn, h2⟩ := Option.bind_eq_some_iff.mp h
      rw [hn, Option.bind_some]
      unfold mi_cvt at h2 ⊢
      split at h2
      · obtain ⟨cc, hcc, h3⟩ := Option.bind_eq_some_iff.mp h2
        obtain ⟨t, ht, h4⟩ := Option.bind_eq_some_iff.mp h3
        rw [(mz_get h0 hcc (mz_vt ht)).1, Option.bind_some, ht, Option.bind_some]
        exact mz_cat hf c h0 h4
      · cases h2
  · unfold mi_Zs at h ⊢
    split at h
    · split at h
      next h1 =>
        rw [if_pos h1]
        unfold mi_mx at h ⊢
        split at h
        · split at h
          next hl => cases h; rw [if_pos hl]; exact ⟨rfl, h0⟩
          · cases h
        · cases h
      next h1 =>
        rw [if_neg h1]
        split at h
        next h2 =>
          rw [if_pos h2]
          unfold mi_mn at h ⊢
          split at h
          · split at h
            next hl => cases h; rw [if_pos hl]; exact ⟨rfl, h0⟩
            · cases h
          · cases h
        next h2 =>
          rw [if_neg h2]
          split at h
          next h3 =>
            rw [if_pos h3]
            obtain ⟨n, dp, a, sp, a0, r, f', g, rfl, hf', hg, hh, rfl⟩ := mi_acp_inv h
            have ha := (mz_get (c := c) h0 hg (show (20 : Nat) ≠ 40 by decide)).2
            refine ⟨?_, mz_set0 h0 ha⟩
            simp only [mi_acp, Option.bind_some, mz_ld h0 hf' (show (20 : Nat) ≠ 40 by decide), mz_ld h0 hg (show (20 : Nat) ≠ 40 by decide)]
            rw [if_pos hh, mz_set ha]
          · cases h
    · split at h
      · exact mz_sat hf c h0 h
      · obtain ⟨x, hx, h2⟩ := Option.bind_eq_some_iff.mp h
        rw [hx, Option.bind_some]
        exact mz_sat hf c h0 h2
  · unfold mi_Zp at h ⊢
    split at h
    · split at h
      next h4 =>
        rw [if_pos h4]
        unfold mi_oi at h ⊢
        split at h
        · split at h
          next hl => cases h; rw [if_pos hl]; exact ⟨rfl, h0⟩
          · cases h
        · cases h
      · cases h
    · split at h
      · exact mz_cat hf c h0 h
      · split at h
        · exact mz_cat hf c h0 h
        · obtain ⟨x, hx, h2⟩ := Option.bind_eq_some_iff.mp h
          rw [hx, Option.bind_some]
          unfold mi_csu at h2 ⊢
          split at h2
          · obtain ⟨cc, hcc, h3⟩ := Option.bind_eq_some_iff.mp h2
            split at h3
            next h13 =>
              rw [(mz_get h0 hcc (by omega)).1, Option.bind_some, if_pos h13]
              exact mz_cat hf c h0 h3
            · cases h3
          · cases h2
  · cases h
theorem mz_one {f : mi_F} (hf : mz_F f) {own pc : Nat} {ini : Bool} {i : Instr} {ls st : List Value} {mem : mi_M} {q : Nat × List Value × List Value × mi_M} (c : Nat × List Value) (h0 : mz_0 mem) (h : mi_one f own ini i pc ls st mem = some q) : mi_one f own ini i pc ls st (mem.set 0 c) = some (q.1, q.2.1, q.2.2.1, q.2.2.2.set 0 c) ∧ mz_0 q.2.2.2 := by
  unfold mi_one at h ⊢
  split at h
  · cases h; exact ⟨rfl, h0⟩
  · split at h
    · cases h; exact ⟨rfl, h0⟩
    · split at h
      · cases h; exact ⟨rfl, h0⟩
      next hL =>
        split at h
        next x hx =>
          cases h
          have h1 := mz_Y c h0 hx
          rw [h1.1]
          exact ⟨rfl, h1.2⟩
        next hY =>
          obtain ⟨x, hx, rfl⟩ := Option.map_eq_some_iff.mp h
          have h1 := mz_Z hf c h0 hx
          have hYn : mi_Y own ini i st (mem.set 0 c) = none := by
            unfold mi_Z at hx
            split at hx
            · rfl
            · rfl
            · rfl
            · cases hx
          rw [hYn, h1.1]
          exact ⟨rfl, h1.2⟩
theorem mz_go {f : mi_F} (hf : mz_F f) {own : Nat} {ini rz : Bool} {code : List (Nat × Instr)} : ∀ (n pc : Nat) (ls st : List Value) (mem : mi_M) (q : Option Value × mi_M) (c : Nat × List Value), mz_0 mem → mi_go f own ini rz code n pc ls st mem = some q → mi_go f own ini rz code n pc ls st (mem.set 0 c) = some (q.1, q.2.set 0 c) ∧ mz_0 q.2 := by
  intro n
  induction n with
  | zero => intro pc ls st mem q c _ h; cases h
  | succ n ih =>
    intro pc ls st mem q c h0 h
    unfold mi_go at h ⊢
    obtain ⟨i, hi, h2⟩ := Option.bind_eq_some_iff.mp h
    rw [hi, Option.bind_some]
    split at h2
    · cases h2; exact ⟨rfl, h0⟩
    next hr =>
      obtain ⟨x, hx, h3⟩ := Option.bind_eq_some_iff.mp h2
      have h1 := mz_one hf c h0 hx
      rw [h1.1, Option.bind_some]
      exact ih _ _ _ _ _ c h1.2 h3
theorem mz_run (N : Nat) : ∀ d, mz_F (mi_run N d) := by
  intro d
  induction d with
  | zero => intro t as mem q c _ h; cases h
  | succ d ih =>
    intro t as mem q c h0 h
    simp only [mi_run] at h ⊢
    split at h
    next ht =>
      rw [if_pos ht]
      split at h
      next h4 => cases h; rw [if_pos h4]; exact ⟨rfl, h0⟩
      · cases h
    next ht =>
      rw [if_neg ht]
      obtain ⟨x, hx, h2⟩ := Option.bind_eq_some_iff.mp h
      rw [hx, Option.bind_some]
      split at h2
      · cases h2
      next h3 =>
        rw [if_neg h3]
        exact mz_go ih _ _ _ _ _ _ c h0 h2
theorem mz_st {f : mi_F} (hf : mz_F f) {own : Nat} {ini rz : Bool} {code : List (Nat × Instr)} : ∀ (n pc : Nat) (ls st : List Value) (mem : mi_M) (q : Nat × List Value × List Value × mi_M) (c : Nat × List Value), mz_0 mem → mi_st f own ini rz code n pc ls st mem = some q → mi_st f own ini rz code n pc ls st (mem.set 0 c) = some (q.1, q.2.1, q.2.2.1, q.2.2.2.set 0 c) := by
  intro n
  induction n with
  | zero => intro pc ls st mem q c _ h; cases h; rfl
  | succ n ih =>
    intro pc ls st mem q c h0 h
    unfold mi_st at h ⊢
    obtain ⟨i, hi, h2⟩ := Option.bind_eq_some_iff.mp h
    rw [hi, Option.bind_some]
    split at h2
    · cases h2
    next hr =>
      obtain ⟨x, hx, h3⟩ := Option.bind_eq_some_iff.mp h2
      have h1 := mz_one hf c h0 hx
      rw [h1.1, Option.bind_some]
      exact ih _ _ _ _ _ c h1.2 h3
/-- the law's run to its loop -/
theorem mf_begin (sc : List Value) : mi_st (mi_run 400 8) 13 false true mi_k231 10 0 (mi_ent [.ref 0] 4) [] (mi_spec sc) = some (18, [.ref 0, .ref 5, .ref 124, .int 0], [], mf_M mf_0 1 sc) := by
  have h := mz_st (mz_run 400 8) _ _ _ _ _ _ (30, sc) (show mz_0 mf_dm from rfl) mf_init
  exact h
