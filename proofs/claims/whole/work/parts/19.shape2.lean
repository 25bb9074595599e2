/-! walking MINI's code over the shape: GG: from here the method ends with Q; SP: the whole method -/
abbrev mg_I : Type := Nat → Nat → Int32
def GG (sc : List Value) (own : Nat) (ini rz : Bool) (code : List (Nat × Instr)) (d pc : Nat) (ls st : List Value) (I : mg_I) (nm : Nat) (Q : Option Value → mg_I → Nat → Prop) : Prop :=
  ∃ (N n : Nat) (r : Option Value) (I' : mg_I) (nm' : Nat), mi_go (mi_run N d) own ini rz code n pc ls st (mf_M I nm sc) = some (r, mf_M I' nm' sc) ∧ Q r I' nm'
def SP (sc : List Value) (h t : Nat) (as : List Value) (I : mg_I) (nm : Nat) (Q : Option Value → mg_I → Nat → Prop) : Prop :=
  ∀ d, h ≤ d → ∃ (N : Nat) (r : Option Value) (I' : mg_I) (nm' : Nat), mi_run N d t as (mf_M I nm sc) = some (r, mf_M I' nm' sc) ∧ Q r I' nm'
/-- an answer v, and nothing changed -/
def qE (v : Int32) (I : mg_I) (nm : Nat) : Option Value → mg_I → Nat → Prop := fun r I' nm' => r = some (.int v) ∧ I' = I ∧ nm' = nm
/-- an answer with P -/
def qI (P : Int32 → mg_I → Nat → Prop) : Option Value → mg_I → Nat → Prop := fun r I' nm' => ∃ v, r = some (.int v) ∧ P v I' nm'
/-- no answer -/
def qV (P : mg_I → Nat → Prop) : Option Value → mg_I → Nat → Prop := fun r I' nm' => r = none ∧ P I' nm'
theorem SP.mono {sc : List Value} {h t : Nat} {as : List Value} {I : mg_I} {nm : Nat} {Q Q' : Option Value → mg_I → Nat → Prop} (hs : SP sc h t as I nm Q) (hq : ∀ r I' nm', Q r I' nm' → Q' r I' nm') : SP sc h t as I nm Q' := by
  intro d hd
  obtain ⟨N, r, I', nm', h1, h2⟩ := hs d hd
  exact ⟨N, r, I', nm', h1, hq _ _ _ h2⟩
theorem GG.mono {sc : List Value} {own : Nat} {ini rz : Bool} {code : List (Nat × Instr)} {d pc : Nat} {ls st : List Value} {I : mg_I} {nm : Nat} {Q Q' : Option Value → mg_I → Nat → Prop} (hs : GG sc own ini rz code d pc ls st I nm Q) (hq : ∀ r I' nm', Q r I' nm' → Q' r I' nm') : GG sc own ini rz code d pc ls st I nm Q' := by
  obtain ⟨N, n, r, I', nm', h1, h2⟩ := hs
  exact ⟨N, n, r, I', nm', h1, hq _ _ _ h2⟩
theorem SP.of {sc : List Value} {h t : Nat} {as : List Value} {I : mg_I} {nm : Nat} {Q : Option Value → mg_I → Nat → Prop} {q : mi_Mt} (hm : mi_mt[t]? = some q) (ht : t ≠ 1000) (hf : ¬ q.2.2.1 < (mi_args as).length)
    (k : ∀ d, h ≤ d → GG sc q.2.2.2.2.1 (mi_ii.contains t) (decide (q.2.2.2.1 = some .boolean)) q.2.2.2.2.2.2 d 0 (mi_ent as q.2.2.1) [] I nm Q) : SP sc (h + 1) t as I nm Q := by
  intro d hd
  obtain ⟨d, rfl⟩ : ∃ k, d = k + 1 := ⟨d - 1, by omega⟩
  obtain ⟨N, n, r, I', nm', h1, h2⟩ := k d (by omega)
  refine ⟨N + n, r, I', nm', ?_, h2⟩
  simp only [mi_run]
  rw [if_neg ht, hm, Option.bind_some, if_neg hf]
  exact mi_go_le (mi_run_le (by omega) d d (Nat.le_refl d)) _ _ _ _ _ _ _ (by omega) h1
/-! the shape -/
theorem mf_len {I : mg_I} {nm : Nat} {sc : List Value} : (mf_M I nm sc).length = 136 := by simp [mf_M, mi_spec]
theorem mf_get {I : mg_I} {nm : Nat} {sc : List Value} {a : Nat} (h5 : 5 ≤ a) (h : a < 136) : (mf_M I nm sc)[a]? = some (mf_c I nm a) := by
  unfold mf_M
  rw [List.getElem?_append_right (by show 5 ≤ a; exact h5), List.getElem?_map, show (mi_spec sc).length = 5 from rfl, List.getElem?_range (by omega), Option.map_some, show a - 5 + 5 = a by omega]
theorem mf_get4 {I : mg_I} {nm : Nat} {sc : List Value} {a : Nat} (h : a < 5) : (mf_M I nm sc)[a]? = (mi_spec sc)[a]? := by
  unfold mf_M
  rw [List.getElem?_append_left (by show a < 5; exact h)]
theorem mf_slot {I : mg_I} {nm a j : Nat} (h : j < mf_sz a) : (mf_c I nm a).2[j]? = some (mf_v I nm a j) := by
  unfold mf_c
  rw [List.getElem?_map, List.getElem?_range h, Option.map_some]
theorem mf_clen {I : mg_I} {nm a : Nat} : (mf_c I nm a).2.length = mf_sz a := by simp [mf_c]
theorem mf_sum {I I' : mg_I} {nm nm' a : Nat} (h : ∀ b, b ≠ a → ∀ j, mf_v I' nm' b j = mf_v I nm b j) {sc : List Value} (h5 : 5 ≤ a) (ha : a < 136) : (mf_M I nm sc).set a (mf_c I' nm' a) = mf_M I' nm' sc := by
  apply List.ext_getElem?
  intro b
  by_cases hb : b = a
  · subst hb
    rw [List.getElem?_set_self (by rw [mf_len]; exact ha), mf_get h5 ha]
  · rw [List.getElem?_set_ne (fun z => hb z.symm)]
    by_cases h5b : b < 5
    · rw [mf_get4 h5b, mf_get4 h5b]
    · by_cases hb2 : b < 136
      · rw [mf_get (by omega) hb2, mf_get (by omega) hb2]
        refine congrArg some ?_
        unfold mf_c
        refine congrArg (fun l => (mf_hd b, l)) (List.map_congr_left fun j _ => ?_)
        exact (h b hb j).symm
      · rw [List.getElem?_eq_none (by rw [mf_len]; omega), List.getElem?_eq_none (by rw [mf_len]; omega)]
/-- an int's place -/
def mf_int (a j : Nat) : Prop := 5 ≤ a ∧ a < 136 ∧ j < mf_sz a ∧ mf_rf a j = none ∧ ¬ (a = 104 ∧ j = 5)
theorem mf_v_int {I : mg_I} {nm a j : Nat} (h : mf_int a j) : mf_v I nm a j = .int (I a j) := by
  unfold mf_v
  rw [h.2.2.2.1]
  exact if_neg h.2.2.2.2
theorem mf_up_set {I : mg_I} {nm a j : Nat} {v : Int32} (h : mf_int a j) : ((mf_c I nm a).1, (mf_c I nm a).2.set j (.int v)) = mf_c (mf_up I a j v) nm a := by
  unfold mf_c
  refine congrArg (fun l => (mf_hd a, l)) (List.ext_getElem? fun k => ?_)
  by_cases hk : k = j
  · subst hk
    rw [List.getElem?_set_self (by simpa using h.2.2.1), List.getElem?_map, List.getElem?_range h.2.2.1, Option.map_some, mf_v_int h]
    simp [mf_up]
  · rw [List.getElem?_set_ne (fun z => hk z.symm), List.getElem?_map, List.getElem?_map]
    by_cases hk2 : k < mf_sz a
    · rw [List.getElem?_range hk2, Option.map_some, Option.map_some]
      refine congrArg some ?_
      unfold mf_v mf_up
      simp [hk]
    · rw [List.getElem?_eq_none (by simpa using hk2)]
      rfl
theorem mf_up_M {I : mg_I} {nm a j : Nat} {v : Int32} {sc : List Value} (h : mf_int a j) : (mf_M I nm sc).set a (mf_hd a, (mf_c I nm a).2.set j (.int v)) = mf_M (mf_up I a j v) nm sc := by
  have e := mf_up_set (I := I) (nm := nm) (v := v) h
  rw [show (mf_hd a, (mf_c I nm a).2.set j (.int v)) = ((mf_c I nm a).1, (mf_c I nm a).2.set j (.int v)) from rfl, e]
  refine mf_sum (fun b hb k => ?_) h.1 h.2.1
  unfold mf_v mf_up
  simp [hb]
