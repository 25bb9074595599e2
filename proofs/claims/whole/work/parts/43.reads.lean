/-! the class reads a text -/
section G43
variable {sc : List Value} {own : Nat} {ini rz : Bool} {code : List (Nat × Instr)} {d pc n : Nat} {ls : List Value} {I : mg_I} {nm : Nat} {Q : Option Value → mg_I → Nat → Prop}
theorem g_getnm {r : List Value} {fk : Nat} (h : mg_f code pc = some (.getfield fk, n)) (hg : mi_gf own fk = some (8, 5)) (k : GG sc own ini rz code d n ls (.ref nm :: r) I nm Q) : GG sc own ini rz code d pc ls (.ref 104 :: r) I nm Q := by
  obtain rfl := g_next h
  refine g_step h rfl (fun _ => ?_) k
  have hv : mf_v I nm 104 5 = .ref nm := by
    unfold mf_v
    rw [show mf_rf 104 5 = none by decide +kernel]
    exact if_pos ⟨rfl, rfl⟩
  have e : mi_getf own fk (.ref 104 :: r) (mf_M I nm sc) = some (.ref nm :: r, mf_M I nm sc) := by
    simp only [mi_getf, hg, Option.bind_some, mf_ld (show 5 ≤ 104 by decide) (show 104 < 136 by decide) (show mf_hd 104 = 8 by decide +kernel), mf_slot (show 5 < mf_sz 104 by decide +kernel), Option.map_some, hv]
  simp only [mi_one, mi_A, mi_B, mi_L, mi_Y, e]
theorem g_putnm {r : List Value} {fk v : Nat} (h : mg_f code pc = some (.putfield fk, n)) (hg : mi_gf own fk = some (8, 5)) (k : GG sc own ini rz code d n ls r I v Q) : GG sc own ini rz code d pc ls (.ref v :: .ref 104 :: r) I nm Q := by
  obtain rfl := g_next h
  refine g_step h rfl (fun _ => ?_) k
  have e : mi_putf own ini fk (.ref v :: .ref 104 :: r) (mf_M I nm sc) = some (r, mf_M I v sc) := by
    simp only [mi_putf, hg, Option.bind_some, mf_ld (show 5 ≤ 104 by decide) (show 104 < 136 by decide) (show mf_hd 104 = 8 by decide +kernel)]
    rw [if_pos ⟨by rw [mf_clen]; decide +kernel, rfl, Or.inl (by decide +kernel)⟩]
    refine congrArg (fun m => some (r, m)) ?_
    have e2 : (8, (mf_c I nm 104).2.set 5 (.ref v)) = mf_c I v 104 := by
      unfold mf_c
      rw [show mf_hd 104 = 8 by decide +kernel]
      refine congrArg (fun l => (8, l)) (List.ext_getElem? fun k => ?_)
      by_cases hk : k = 5
      · subst hk
        rw [List.getElem?_set_self (by simp only [List.length_map, List.length_range]; decide +kernel), List.getElem?_map, List.getElem?_range (by decide +kernel), Option.map_some]
        refine congrArg some ?_
        unfold mf_v
        rw [show mf_rf 104 5 = none by decide +kernel]
        exact (if_pos ⟨rfl, rfl⟩).symm
      · rw [List.getElem?_set_ne (fun z => hk z.symm), List.getElem?_map, List.getElem?_map]
        by_cases hk2 : k < mf_sz 104
        · rw [List.getElem?_range hk2, Option.map_some, Option.map_some]
          refine congrArg some ?_
          unfold mf_v
          simp only [hk, and_false, if_false]
        · rw [List.getElem?_eq_none (by simpa using hk2)]
          rfl
    rw [e2]
    refine mf_sum (fun b hb j => ?_) (by decide) (by decide)
    unfold mf_v
    simp only [hb, false_and, if_false]
  simp only [mi_one, mi_A, mi_B, mi_L, mi_Y, e]
theorem g_sio {r : List Value} {fk pl a : Nat} {c t : Int32} (h : mg_f code pc = some (.invokevirtual fk, n)) (h1 : mi_cq.lookup (own, fk) = some (5, pl)) (hlow : mi_low r = true) (hd : 5 ≤ d) (ha : (a = 2 ∧ t = 0) ∨ (a = 3 ∧ t = 1)) (k : GG sc own ini rz code d n ls (.int (pName t c) :: r) I nm Q) : GG sc own ini rz code d pc ls (.int c :: .ref a :: r) I nm Q := by
  obtain rfl := g_next h
  obtain ⟨N, m, r2, I2, nm2, h2, h3⟩ := k
  refine ⟨N, m + 1, r2, I2, nm2, ?_, h3⟩
  obtain ⟨i', hi, he⟩ := Option.map_eq_some_iff.mp h
  cases he
  have hf : (mi_run N d 1000 [] []).isSome = true := by
    obtain ⟨d', rfl⟩ : ∃ k, d = k + 1 := ⟨d - 1, by omega⟩
    simp only [mi_run]
    rw [if_pos trivial, if_pos (by omega)]
    rfl
  have e : mi_Z (mi_run N d) own (.invokevirtual fk) (.int c :: .ref a :: r) (mf_M I nm sc) = some (.int (pName t c) :: r, mf_M I nm sc) := by
    show mi_Zv _ own fk _ _ = _
    unfold mi_Zv
    rw [h1]
    simp only
    rw [if_pos ⟨trivial, hf⟩]
    unfold mi_sio
    rcases ha with ⟨rfl, rfl⟩ | ⟨rfl, rfl⟩
    · simp only [mi_ld, mf_get4 (show 2 < 5 by decide)]
      show (if mi_low r = true then _ else _) = _
      rw [if_pos hlow]
      refine congrArg (fun z => some (Value.int z :: r, mf_M I nm sc)) ?_
      unfold pName
      rw [if_pos rfl]
      simp only [mi_ixo, eq_comm (b := c)]
      rfl
    · simp only [mi_ld, mf_get4 (show 3 < 5 by decide)]
      show (if mi_low r = true then _ else _) = _
      rw [if_pos hlow]
      refine congrArg (fun z => some (Value.int z :: r, mf_M I nm sc)) ?_
      unfold pName
      rw [if_neg (by decide)]
      simp only [mi_ixo, eq_comm (b := c)]
      rfl
  rw [mi_go, hi, Option.bind_some]
  show (mi_one (mi_run N d) own ini (.invokevirtual fk) pc ls _ _).bind _ = _
  simp only [mi_one, mi_A, mi_B, mi_L, mi_Y, e, Option.map_some]
  exact h2
end G43
def ls (I : mg_I) (R : Nat) (cd : List Int32) : Prop := I R 1 = nI cd.length ∧ ∀ i, i < cd.length → I (R + 1) i = cd.getD i 0
theorem ls_push {I : mg_I} {R : Nat} {cd : List Int32} {x : Int32} (h : ls I R cd) : ls (mf_up (mf_up I (R + 1) cd.length x) R 1 (nI (cd.length + 1))) R (cd ++ [x]) := by
  refine ⟨by rw [List.length_append]; exact if_pos ⟨rfl, rfl⟩, fun i hi => ?_⟩
  rw [List.length_append] at hi
  have hi2 : i < cd.length + 1 := hi
  unfold mf_up
  rw [if_neg (by omega), List.getD_eq_getElem?_getD]
  by_cases h1 : i = cd.length
  · rw [if_pos ⟨rfl, h1⟩, h1, List.getElem?_append_right (Nat.le_refl _), Nat.sub_self]
    rfl
  · rw [if_neg (by omega), h.2 i (by omega), List.getElem?_append_left (by omega), List.getD_eq_getElem?_getD]
theorem ls_fr {I I' : mg_I} {R : Nat} {cd : List Int32} (h : ls I R cd) (h1 : ∀ j, I' R j = I R j) (h2 : ∀ j, I' (R + 1) j = I (R + 1) j) : ls I' R cd := ⟨by rw [h1]; exact h.1, fun i hi => by rw [h2]; exact h.2 i hi⟩
theorem vs_fr {I I' : mg_I} {R : Nat} {st : List Int32} (h : vs I R st) (h1 : ∀ j, I' R j = I R j) (h2 : ∀ j, I' (R + 1) j = I (R + 1) j) : vs I' R st := ⟨by rw [h1]; exact h.1, fun i hi => by rw [h2]; exact h.2 i hi⟩
/-- the draft holds the machine's state -/
def kR (I : mg_I) (s : kC) : Prop := ls I 105 s.1 ∧ vs I 109 s.2.1 ∧ I 104 6 = s.2.2.1 ∧ I 104 7 = s.2.2.2.1 ∧ I 104 8 = (if s.2.2.2.2 = true then 1 else 0)
def dF (I I' : mg_I) : Prop := ∀ a j, ¬ (104 ≤ a ∧ a ≤ 110) → I' a j = I a j
theorem dF.rfl' {I : mg_I} : dF I I := fun _ _ _ => rfl
theorem dF.trans {I J K : mg_I} (h : dF I J) (h2 : dF J K) : dF I K := fun a j x => (h2 a j x).trans (h a j x)
theorem dF_up {I J : mg_I} (h : dF I J) {a j : Nat} {x : Int32} (ha : 104 ≤ a ∧ a ≤ 110) : dF I (mf_up J a j x) := by
  intro b k hb
  unfold mf_up
  rw [if_neg (c := b = a ∧ k = j) (fun q => hb (q.1 ▸ ha))]
  exact h b k hb
theorem dF_v {I J : mg_I} (h : vF 109 I J) : dF I J := fun a j x => h a j (by omega) (by omega)
theorem d104 : isText 104 := by unfold isText; decide
theorem r105 : isRow 105 50 := tx_c d104
theorem r109 : isRow 109 50 := tx_p d104
theorem kR_code {I : mg_I} {cd P : List Int32} {o dg x : Int32} {wt : Bool} (h : kR I (cd, P, o, dg, wt)) : kR (mf_up (mf_up I 106 cd.length x) 105 1 (nI (cd.length + 1))) (cd ++ [x], P, o, dg, wt) := by
  obtain ⟨h1, h2, h3, h4, h5⟩ := h
  refine ⟨ls_push h1, vs_fr h2 (fun j => rfl) (fun j => rfl), ?_, ?_, ?_⟩
  · exact h3
  · exact h4
  · exact h5
theorem kR_open {I : mg_I} {cd P : List Int32} {o o2 dg : Int32} {wt : Bool} (h : kR I (cd, P, o, dg, wt)) : kR (mf_up I 104 6 o2) (cd, P, o2, dg, wt) := by
  obtain ⟨h1, h2, h3, h4, h5⟩ := h
  exact ⟨ls_fr h1 (fun j => rfl) (fun j => rfl), vs_fr h2 (fun j => rfl) (fun j => rfl), rfl, h4, h5⟩
theorem kR_dig {I : mg_I} {cd P : List Int32} {o dg d2 : Int32} {wt : Bool} (h : kR I (cd, P, o, dg, wt)) : kR (mf_up I 104 7 d2) (cd, P, o, d2, wt) := by
  obtain ⟨h1, h2, h3, h4, h5⟩ := h
  exact ⟨ls_fr h1 (fun j => rfl) (fun j => rfl), vs_fr h2 (fun j => rfl) (fun j => rfl), h3, rfl, h5⟩
theorem kR_wt0 {I : mg_I} {cd P : List Int32} {o dg : Int32} {wt : Bool} (h : kR I (cd, P, o, dg, wt)) : kR (mf_up I 104 8 0) (cd, P, o, dg, false) := by
  obtain ⟨h1, h2, h3, h4, h5⟩ := h
  exact ⟨ls_fr h1 (fun j => rfl) (fun j => rfl), vs_fr h2 (fun j => rfl) (fun j => rfl), h3, h4, rfl⟩
theorem kR_wt1 {I : mg_I} {cd P : List Int32} {o dg : Int32} {wt : Bool} (h : kR I (cd, P, o, dg, wt)) : kR (mf_up I 104 8 1) (cd, P, o, dg, true) := by
  obtain ⟨h1, h2, h3, h4, h5⟩ := h
  exact ⟨ls_fr h1 (fun j => rfl) (fun j => rfl), vs_fr h2 (fun j => rfl) (fun j => rfl), h3, h4, rfl⟩
theorem kR_v {I J : mg_I} {cd P P2 : List Int32} {o dg : Int32} {wt : Bool} (h : kR I (cd, P, o, dg, wt)) (hv : vs J 109 P2) (hF : vF 109 I J) : kR J (cd, P2, o, dg, wt) := by
  obtain ⟨h1, h2, h3, h4, h5⟩ := h
  exact ⟨ls_fr h1 (fun j => hF _ _ (by decide) (by decide)) (fun j => hF _ _ (by decide) (by decide)), hv, (hF _ _ (by decide) (by decide)).trans h3, (hF _ _ (by decide) (by decide)).trans h4, (hF _ _ (by decide) (by decide)).trans h5⟩
def qK (s : kC) (I : mg_I) (nm : Nat) : Option Value → mg_I → Nat → Prop := fun r I' nm' => r = none ∧ kR I' s ∧ dF I I' ∧ nm' = nm
theorem g_K {sc : List Value} {own : Nat} {ini rz : Bool} {code : List (Nat × Instr)} {d n : Nat} {ls : List Value} {I : mg_I} {nm0 : Nat} {Q : Option Value → mg_I → Nat → Prop} {r : List Value} {s : kC} (k : ∀ I', kR I' s → dF I I' → GG sc own ini rz code d n ls r I' nm0 Q) : ∀ a I2 nm2, qK s I nm0 a I2 nm2 → GG sc own ini rz code d n ls (a.toList ++ r) I2 nm2 Q := by
  rintro a I2 nm2 ⟨rfl, h1, h2, rfl⟩
  exact k I2 h1 h2
def qB2 (o : Option kC) (I : mg_I) (nm : Nat) : Option Value → mg_I → Nat → Prop := fun r I' nm' => (match o with | some s => r = some (.int 1) ∧ kR I' s | none => r = some (.int 0)) ∧ dF I I' ∧ nm' = nm
theorem qB2_n {I J : mg_I} {nm : Nat} (h : dF I J) : qB2 none I nm (some (.int 0)) J nm := ⟨rfl, h, rfl⟩
theorem qB2_s {I J : mg_I} {nm : Nat} {s : kC} (hk : kR J s) (h : dF I J) : qB2 (some s) I nm (some (.int 1)) J nm := ⟨⟨rfl, hk⟩, h, rfl⟩
theorem c_levelOf {sc : List Value} {nm : Nat} {I : mg_I} {c : Int32} : SP sc 1 76 [.int c] I nm (qE (nI (lv c)) I nm) := by
  refine SP.of (h := 0) (t := 76) (q := (yX8_levelOf, cX8_levelOf, 1, (some .int), 8, 725, mi_k76)) rfl (by decide) (show ¬ (1 : Nat) < 1 by decide) (fun d hd => ?_)
  show GG sc 8 false false mi_k76 d 0 [.int c] [] I nm (qE (nI (lv c)) I nm)
  refine g_iload_n (n := 1) rfl rfl ?_
  by_cases h124 : c = 124
  · subst h124
    rw [show lv 124 = 1 from rfl]
    refine g_look (off := 99) 100 rfl (by decide +kernel) (by decide +kernel) (by decide) ?_
    refine g_iconst (n := 101) (v := 1) rfl rfl ?_
    refine g_iret (n := 102) rfl (fun h => nomatch h) ?_
    exact ⟨rfl, rfl, rfl⟩
  by_cases h38 : c = 38
  · subst h38
    rw [show lv 38 = 2 from rfl]
    refine g_look (off := 101) 102 rfl (by decide +kernel) (by decide +kernel) (by decide) ?_
    refine g_iconst (n := 103) (v := 2) rfl rfl ?_
    refine g_iret (n := 104) rfl (fun h => nomatch h) ?_
    exact ⟨rfl, rfl, rfl⟩
  by_cases h60 : c = 60
  · subst h60
    rw [show lv 60 = 3 from rfl]
    refine g_look (off := 103) 104 rfl (by decide +kernel) (by decide +kernel) (by decide) ?_
    refine g_iconst (n := 105) (v := 3) rfl rfl ?_
    refine g_iret (n := 106) rfl (fun h => nomatch h) ?_
    exact ⟨rfl, rfl, rfl⟩
  by_cases h61 : c = 61
  · subst h61
    rw [show lv 61 = 3 from rfl]
    refine g_look (off := 103) 104 rfl (by decide +kernel) (by decide +kernel) (by decide) ?_
    refine g_iconst (n := 105) (v := 3) rfl rfl ?_
    refine g_iret (n := 106) rfl (fun h => nomatch h) ?_
    exact ⟨rfl, rfl, rfl⟩
  by_cases h62 : c = 62
  · subst h62
    rw [show lv 62 = 3 from rfl]
    refine g_look (off := 103) 104 rfl (by decide +kernel) (by decide +kernel) (by decide) ?_
    refine g_iconst (n := 105) (v := 3) rfl rfl ?_
    refine g_iret (n := 106) rfl (fun h => nomatch h) ?_
    exact ⟨rfl, rfl, rfl⟩
  by_cases h43 : c = 43
  · subst h43
    rw [show lv 43 = 4 from rfl]
    refine g_look (off := 105) 106 rfl (by decide +kernel) (by decide +kernel) (by decide) ?_
    refine g_iconst (n := 107) (v := 4) rfl rfl ?_
    refine g_iret (n := 108) rfl (fun h => nomatch h) ?_
    exact ⟨rfl, rfl, rfl⟩
  by_cases h45 : c = 45
  · subst h45
    rw [show lv 45 = 4 from rfl]
    refine g_look (off := 105) 106 rfl (by decide +kernel) (by decide +kernel) (by decide) ?_
    refine g_iconst (n := 107) (v := 4) rfl rfl ?_
    refine g_iret (n := 108) rfl (fun h => nomatch h) ?_
    exact ⟨rfl, rfl, rfl⟩
  by_cases h42 : c = 42
  · subst h42
    rw [show lv 42 = 5 from rfl]
    refine g_look (off := 107) 108 rfl (by decide +kernel) (by decide +kernel) (by decide) ?_
    refine g_iconst (n := 109) (v := 5) rfl rfl ?_
    refine g_iret (n := 110) rfl (fun h => nomatch h) ?_
    exact ⟨rfl, rfl, rfl⟩
  by_cases h47 : c = 47
  · subst h47
    rw [show lv 47 = 5 from rfl]
    refine g_look (off := 107) 108 rfl (by decide +kernel) (by decide +kernel) (by decide) ?_
    refine g_iconst (n := 109) (v := 5) rfl rfl ?_
    refine g_iret (n := 110) rfl (fun h => nomatch h) ?_
    exact ⟨rfl, rfl, rfl⟩
  by_cases h37 : c = 37
  · subst h37
    rw [show lv 37 = 5 from rfl]
    refine g_look (off := 107) 108 rfl (by decide +kernel) (by decide +kernel) (by decide) ?_
    refine g_iconst (n := 109) (v := 5) rfl rfl ?_
    refine g_iret (n := 110) rfl (fun h => nomatch h) ?_
    exact ⟨rfl, rfl, rfl⟩
  by_cases h33 : c = 33
  · subst h33
    rw [show lv 33 = 6 from rfl]
    refine g_look (off := 109) 110 rfl (by decide +kernel) (by decide +kernel) (by decide) ?_
    refine g_bipush (n := 112) (v := 6) rfl rfl ?_
    refine g_iret (n := 113) rfl (fun h => nomatch h) ?_
    exact ⟨rfl, rfl, rfl⟩
  rw [show lv c = 0 by unfold lv; rw [if_neg h124, if_neg h38, if_neg (fun q => q.elim h60 (fun q => q.elim h61 h62)), if_neg (fun q => q.elim h43 h45), if_neg (fun q => q.elim h42 (fun q => q.elim h47 h37)), if_neg h33]]
  refine g_look (off := 112) 113 rfl (by decide +kernel) (off_d (by simp only [List.all_cons, List.all_nil, Bool.and_true, Bool.and_eq_true, decide_eq_true_eq]; exact ⟨tI_ne rfl h33, tI_ne rfl h37, tI_ne rfl h38, tI_ne rfl h42, tI_ne rfl h43, tI_ne rfl h45, tI_ne rfl h47, tI_ne rfl h60, tI_ne rfl h61, tI_ne rfl h62, tI_ne rfl h124⟩)) (by decide) ?_
  refine g_iconst (n := 114) (v := 0) rfl rfl ?_
  refine g_iret (n := 115) rfl (fun h => nomatch h) ?_
  exact ⟨rfl, rfl, rfl⟩
theorem tI_48 : Int32.toInt (48) = 48 := by decide
theorem tI_57 : Int32.toInt (57) = 57 := by decide
theorem c_isDigit {sc : List Value} {nm : Nat} {I : mg_I} {c : Int32} : SP sc 1 75 [.int c] I nm (qE (bI (48 ≤ c.toInt ∧ c.toInt ≤ 57)) I nm) := by
  refine SP.of (h := 0) (t := 75) (q := (yX8_isDigit, cX8_isDigit, 1, (some .boolean), 8, 698, mi_k75)) rfl (by decide) (show ¬ (1 : Nat) < 1 by decide) (fun d hd => ?_)
  show GG sc 8 false true mi_k75 d 0 [.int c] [] I nm (qE (bI (48 ≤ c.toInt ∧ c.toInt ≤ 57)) I nm)
  refine g_iload_n (n := 1) rfl rfl ?_
  refine g_bipush (n := 3) (v := 48) rfl rfl ?_
  refine g_iclt (n := 6) 16 rfl (by decide) (fun h1 => ?_) (fun h1 => ?_)
  ·
    refine g_iconst (n := 17) (v := 0) rfl rfl ?_
    refine g_iret (n := 18) rfl (fun _ => by first | exact Or.inl rfl | exact Or.inr rfl | exact bI_01 | (rw [hb]; exact bP_01)) ?_
    exact ⟨congrArg (fun z => some (Value.int z)) (by first | exact (bI_t (by simp only [Int32.lt_iff_toInt_lt, tI_48, tI_57] at *; omega)).symm | exact (bI_f (by simp only [Int32.lt_iff_toInt_lt, tI_48, tI_57] at *; omega)).symm), rfl, rfl⟩
  ·
    refine g_iload_n (n := 7) rfl rfl ?_
    refine g_bipush (n := 9) (v := 57) rfl rfl ?_
    refine g_icgt (n := 12) 16 rfl (by decide) (fun h2 => ?_) (fun h2 => ?_)
    ·
      refine g_iconst (n := 17) (v := 0) rfl rfl ?_
      refine g_iret (n := 18) rfl (fun _ => by first | exact Or.inl rfl | exact Or.inr rfl | exact bI_01 | (rw [hb]; exact bP_01)) ?_
      exact ⟨congrArg (fun z => some (Value.int z)) (by first | exact (bI_t (by simp only [Int32.lt_iff_toInt_lt, tI_48, tI_57] at *; omega)).symm | exact (bI_f (by simp only [Int32.lt_iff_toInt_lt, tI_48, tI_57] at *; omega)).symm), rfl, rfl⟩
    ·
      refine g_iconst (n := 13) (v := 1) rfl rfl ?_
      refine g_goto 17 rfl (by decide) ?_
      refine g_iret (n := 18) rfl (fun _ => by first | exact Or.inl rfl | exact Or.inr rfl | exact bI_01 | (rw [hb]; exact bP_01)) ?_
      exact ⟨congrArg (fun z => some (Value.int z)) (by first | exact (bI_t (by simp only [Int32.lt_iff_toInt_lt, tI_48, tI_57] at *; omega)).symm | exact (bI_f (by simp only [Int32.lt_iff_toInt_lt, tI_48, tI_57] at *; omega)).symm), rfl, rfl⟩
theorem kRel_len {L : Nat} : ∀ (P cd : List Int32) (o : Int32), (kRel L P cd o).1.length + (kRel L P cd o).2.1.length = cd.length + P.length ∧ cd.length ≤ (kRel L P cd o).1.length := by
  intro P
  induction P with
  | nil => intro cd o; exact ⟨rfl, Nat.le_refl _⟩
  | cons c P ih =>
    intro cd o
    rw [kRel]
    split
    · have h := ih (cd ++ [-c]) (if c = 33 then o - 1 else o)
      rw [List.length_append] at h
      have h1 : (kRel L P (cd ++ [-c]) (if c = 33 then o - 1 else o)).1.length + (kRel L P (cd ++ [-c]) (if c = 33 then o - 1 else o)).2.1.length = cd.length + 1 + P.length := h.1
      have h2 : cd.length + 1 ≤ (kRel L P (cd ++ [-c]) (if c = 33 then o - 1 else o)).1.length := h.2
      rw [List.length_cons]
      exact ⟨by omega, by omega⟩
    · exact ⟨rfl, Nat.le_refl _⟩
theorem c_release {sc : List Value} {nm : Nat} {I0 : mg_I} {L : Nat} {P cd : List Int32} {o dg : Int32} {wt : Bool} (hL : L ≤ 6) (hk : kR I0 (cd, P, o, dg, wt)) (hl : cd.length + P.length ≤ 50) : SP sc 2 74 [.ref 104, .int (nI L)] I0 nm (qK ((kRel L P cd o).1, (kRel L P cd o).2.1, (kRel L P cd o).2.2, dg, wt) I0 nm) := by
  refine SP.of (h := 1) (t := 74) (q := (yX8_release, cX8_release, 4, none, 8, 722, mi_k74)) rfl (by decide) (show ¬ (4 : Nat) < 2 by decide) (fun d hd => ?_)
  show GG sc 8 false false mi_k74 d 0 [.ref 104, .int (nI L), .null, .null] [] I0 nm (qK ((kRel L P cd o).1, (kRel L P cd o).2.1, (kRel L P cd o).2.2, dg, wt) I0 nm)
  have H : ∀ (P cd : List Int32) (o : Int32) (I1 : mg_I) {x3 : Value}, kR I1 (cd, P, o, dg, wt) → cd.length + P.length ≤ 50 → dF I0 I1 → GG sc 8 false false mi_k74 d 8 [.ref 104, .int (nI L), .int (nI P.length), x3] [] I1 nm (qK ((kRel L P cd o).1, (kRel L P cd o).2.1, (kRel L P cd o).2.2, dg, wt) I0 nm) := by
    intro P
    induction P with
    | nil =>
      intro cd o I1 x3 hk hl hF
      refine g_iload_n (n := 9) rfl rfl ?_
      refine g_ifle (n := 12) 66 rfl (by decide) (fun _ => ?_) (fun h => absurd (by decide) h)
      refine g_vret (n := 67) rfl ?_
      exact ⟨rfl, hk, hF, rfl⟩
    | cons c P ih =>
      intro cd o I1 x3 hk hl hF
      rw [List.length_cons] at hl ⊢
      refine g_iload_n (n := 9) rfl rfl ?_
      refine g_ifle (n := 12) 66 rfl (by decide) (fun h1 => ?_) (fun h1 => ?_)
      ·
        exact absurd ((nI_leI (b := 0) (by omega) (by omega)).mp h1) (by omega)
      ·
        refine g_aload_n (n := 13) rfl rfl ?_
        refine g_getr (n := 16) (ci := 8) (j := 4) (b := 109) rfl (by decide +kernel) (by decide) (by decide) (by decide +kernel) ?_
        refine g_cv0 (n := 19) (t := 55) (ci := 6) rfl (by decide +kernel) (by decide +kernel) (rw_hd r109) (rw_136 r109) (by decide +kernel) (by rfl) (c_vlast r109 hk.2.1 (by show P.length + 1 ≤ 50; omega)) (by omega) (g_E ?_)
        refine g_top (w := c) rfl ?_
        refine g_cs1 (n := 22) (t := 76) (x := (723, 724, 83)) rfl (by decide +kernel) (by decide +kernel) (by rfl) c_levelOf (by omega) (g_E ?_)
        refine g_iload_n (n := 23) rfl rfl ?_
        refine g_iclt (n := 26) 66 rfl (by decide) (fun h2 => ?_) (fun h2 => ?_)
        ·
          have hlt : ¬ L ≤ lv c := Nat.not_le.mpr ((nI_ltI (by have := @lv_le c; omega) (by omega)).mp h2)
          rw [kRel, if_neg hlt]
          refine g_vret (n := 67) rfl ?_
          exact ⟨rfl, hk, hF, rfl⟩
        ·
          have hle : L ≤ lv c := Nat.not_lt.mp (fun q => h2 ((nI_ltI (by have := @lv_le c; omega) (by omega)).mpr q))
          rw [kRel, if_pos hle]
          refine g_aload_n (n := 27) rfl rfl ?_
          refine g_getr (n := 30) (ci := 8) (j := 4) (b := 109) rfl (by decide +kernel) (by decide) (by decide) (by decide +kernel) ?_
          refine g_cv0 (n := 33) (t := 56) (ci := 6) rfl (by decide +kernel) (by decide +kernel) (rw_hd r109) (rw_136 r109) (by decide +kernel) (by rfl) (c_vpop r109 hk.2.1 (by show P.length + 1 ≤ 50; omega)) (by omega) (g_VS fun I2 hs2 hF2 => ?_)
          have hk2 := kR_v hk hs2 hF2
          have hF3 := hF.trans (dF_v hF2)
          show GG sc 8 false false mi_k74 d 33 _ (.int c :: _) I2 nm _
          refine g_istore_n3 (n := 34) rfl rfl ?_
          refine g_iload_n (n := 35) rfl rfl ?_
          refine g_bipush (n := 37) (v := 33) rfl rfl ?_
          refine g_icne (n := 40) 50 rfl (by decide) (fun h3 => ?_) (fun h3 => ?_)
          ·
            rw [if_neg h3]
            refine g_aload_n (n := 51) rfl rfl ?_
            refine g_getr (n := 54) (ci := 8) (j := 2) (b := 105) rfl (by decide +kernel) (by decide) (by decide) (by decide +kernel) ?_
            refine g_iload_n (n := 55) rfl rfl ?_
            refine g_ineg (n := 56) rfl ?_
            refine g_cv1 (n := 59) (t := 54) (ci := 6) rfl (by decide +kernel) (by decide +kernel) (rw_hd r105) (rw_136 r105) (by decide +kernel) (by rfl) (c_radd (n := cd.length) r105 hk2.1.1 (by omega)) (by omega) (g_E ?_)
            refine g_popi (n := 60) rfl ?_
            refine g_iinc2 (n := 63) rfl rfl (y := nI P.length) nI_m1 ?_
            refine g_goto 8 rfl (by decide) ?_
            exact ih (cd ++ [-c]) _ _ (kR_code hk2) (by rw [List.length_append]; show cd.length + 1 + P.length ≤ 50; omega) (dF_up (dF_up hF3 (by decide)) (by decide))
          ·
            rw [if_pos h3]
            refine g_aload_n (n := 41) rfl rfl ?_
            refine g_dupa (n := 42) rfl ?_
            refine g_getv (n := 45) (ci := 8) (j := 6) (v := o) hk2.2.2.1 rfl (by decide +kernel) rfl (by decide) (by decide) ?_
            refine g_iconst (n := 46) (v := 1) rfl rfl ?_
            refine g_isub (n := 47) rfl ?_
            refine g_puti (n := 50) (ci := 8) (j := 6) rfl (by decide +kernel) rfl (by decide) (by decide) (by decide +kernel) rfl ?_
            refine g_aload_n (n := 51) rfl rfl ?_
            refine g_getr (n := 54) (ci := 8) (j := 2) (b := 105) rfl (by decide +kernel) (by decide) (by decide) (by decide +kernel) ?_
            refine g_iload_n (n := 55) rfl rfl ?_
            refine g_ineg (n := 56) rfl ?_
            have hk3 := kR_open (o2 := o - 1) hk2
            have hF4 := dF_up (j := 6) (x := o - 1) hF3 (a := 104) (by decide)
            refine g_cv1 (n := 59) (t := 54) (ci := 6) rfl (by decide +kernel) (by decide +kernel) (rw_hd r105) (rw_136 r105) (by decide +kernel) (by rfl) (c_radd (n := cd.length) r105 hk3.1.1 (by omega)) (by omega) (g_E ?_)
            refine g_popi (n := 60) rfl ?_
            refine g_iinc2 (n := 63) rfl rfl (y := nI P.length) nI_m1 ?_
            refine g_goto 8 rfl (by decide) ?_
            exact ih (cd ++ [-c]) _ _ (kR_code hk3) (by rw [List.length_append]; show cd.length + 1 + P.length ≤ 50; omega) (dF_up (dF_up hF4 (by decide)) (by decide))
  refine g_aload_n (n := 1) rfl rfl ?_
  refine g_getr (n := 4) (ci := 8) (j := 4) (b := 109) rfl (by decide +kernel) (by decide) (by decide) (by decide +kernel) ?_
  refine g_getv (n := 7) (ci := 6) (j := 1) (v := nI P.length) hk.2.1.1 rfl (by decide +kernel) rfl (by decide) (rw_hd r109) ?_
  refine g_istore_n2 (n := 8) rfl rfl ?_
  exact H P cd o I0 hk hl dF.rfl'
