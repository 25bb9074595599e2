/-! calls over the shape -/
/-- a truth as an int -/
def bI (p : Prop) [Decidable p] : Int32 := if p then 1 else 0
theorem bI_t {p : Prop} [Decidable p] (h : p) : bI p = 1 := if_pos h
theorem bI_f {p : Prop} [Decidable p] (h : ¬ p) : bI p = 0 := if_neg h
theorem bI_01 {p : Prop} [Decidable p] : bI p = 0 ∨ bI p = 1 := by
  unfold bI
  split
  · exact Or.inr rfl
  · exact Or.inl rfl
theorem bI_eq {p q : Prop} [Decidable p] [Decidable q] (h : p ↔ q) : bI p = bI q := by
  unfold bI
  simp only [h]
section GC
variable {sc : List Value} {own : Nat} {ini rz : Bool} {code : List (Nat × Instr)} {d pc n : Nat} {ls : List Value} {I : mg_I} {nm : Nat} {Q : Option Value → mg_I → Nat → Prop}
theorem g_split {p : Prop} [Decidable p] {r : List Value} (k1 : p → GG sc own ini rz code d pc ls (.int 1 :: r) I nm Q) (k0 : ¬ p → GG sc own ini rz code d pc ls (.int 0 :: r) I nm Q) : GG sc own ini rz code d pc ls (.int (bI p) :: r) I nm Q := by
  by_cases h : p
  · rw [bI_t h]; exact k1 h
  · rw [bI_f h]; exact k0 h
theorem g_top {r : List Value} {v w : Int32} (h : v = w) (k : GG sc own ini rz code d pc ls (.int w :: r) I nm Q) : GG sc own ini rz code d pc ls (.int v :: r) I nm Q := by rw [h]; exact k
theorem g_cv0 {rest : List Value} {b fk t hh ci : Nat} {Qc : Option Value → mg_I → Nat → Prop} (h : mg_f code pc = some (.invokevirtual fk, n)) (h1 : mi_cq.lookup (own, fk) = none) (h2 : mi_vp.lookup (own, fk) = some 0) (hk : 5 ≤ b ∧ mf_hd b = ci) (hb : b < 136) (ht : mi_vt own fk ci = some t) (hlow : mi_low rest = true) (hs : SP sc hh t [.ref b] I nm Qc) (hd : hh ≤ d) (k : ∀ r I' nm', Qc r I' nm' → GG sc own ini rz code d n ls (r.toList ++ rest) I' nm' Q) : GG sc own ini rz code d pc ls (.ref b :: rest) I nm Q := by
  refine g_call h rfl rfl rfl rfl rfl (fun _ => rfl) (fun f => ?_) hs hd k
  show mi_Zv f own fk _ _ = _
  have e : (mf_M I nm sc)[b]? = some (mf_c I nm b) := mf_get hk.1 hb
  unfold mi_Zv
  rw [h1]
  simp only
  rw [h2]
  show mi_cvt f own fk 0 (.ref b :: rest) _ = _
  unfold mi_cvt
  simp only [List.getElem?_cons_zero, List.getElem?_cons_succ]
  rw [e, Option.bind_some, show (mf_c I nm b).1 = ci from hk.2, ht, Option.bind_some]
  exact if_pos ⟨hlow, rfl⟩
theorem g_cs0 {rest : List Value} {fk t hh : Nat} {x : Nat × Nat × Nat} {Qc : Option Value → mg_I → Nat → Prop} (h : mg_f code pc = some (.invokestatic fk, n)) (h1 : mi_cq.lookup (own, fk) = none) (h2 : mi_cs.lookup (own, fk) = some (t, 0, x)) (hlow : mi_low rest = true) (hs : SP sc hh t [] I nm Qc) (hd : hh ≤ d) (k : ∀ r I' nm', Qc r I' nm' → GG sc own ini rz code d n ls (r.toList ++ rest) I' nm' Q) : GG sc own ini rz code d pc ls (rest) I nm Q := by
  refine g_call h rfl rfl rfl rfl rfl (fun _ => rfl) (fun f => ?_) hs hd k
  show mi_Zs f own fk _ _ = _
  unfold mi_Zs
  rw [h1]
  simp only
  rw [h2]
  show mi_sat f t 0 (rest) _ = _
  exact if_pos ⟨hlow, rfl⟩
theorem g_cn0 {rest : List Value} {fk t hh : Nat} {x : Nat × Nat × Nat} {Qc : Option Value → mg_I → Nat → Prop} (h : mg_f code pc = some (.invokestatic fk, n)) (h1 : mi_cq.lookup (own, fk) = none) (h1b : mi_cs.lookup (own, fk) = none) (h2 : mi_cn.lookup (own, fk) = some (t, 0, x)) (hlow : mi_low rest = true) (hs : SP sc hh t [] I nm Qc) (hd : hh ≤ d) (k : ∀ r I' nm', Qc r I' nm' → GG sc own ini rz code d n ls (r.toList ++ rest) I' nm' Q) : GG sc own ini rz code d pc ls (rest) I nm Q := by
  refine g_call h rfl rfl rfl rfl rfl (fun _ => rfl) (fun f => ?_) hs hd k
  show mi_Zs f own fk _ _ = _
  unfold mi_Zs
  rw [h1]
  simp only
  rw [h1b]
  simp only
  rw [h2]
  show mi_sat f t 0 (rest) _ = _
  exact if_pos ⟨hlow, rfl⟩
theorem g_cv1 {v0 : Value} {rest : List Value} {b fk t hh ci : Nat} {Qc : Option Value → mg_I → Nat → Prop} (h : mg_f code pc = some (.invokevirtual fk, n)) (h1 : mi_cq.lookup (own, fk) = none) (h2 : mi_vp.lookup (own, fk) = some 1) (hk : 5 ≤ b ∧ mf_hd b = ci) (hb : b < 136) (ht : mi_vt own fk ci = some t) (hlow : mi_low rest = true) (hs : SP sc hh t [.ref b, v0] I nm Qc) (hd : hh ≤ d) (k : ∀ r I' nm', Qc r I' nm' → GG sc own ini rz code d n ls (r.toList ++ rest) I' nm' Q) : GG sc own ini rz code d pc ls (v0 :: .ref b :: rest) I nm Q := by
  refine g_call h rfl rfl rfl rfl rfl (fun _ => rfl) (fun f => ?_) hs hd k
  show mi_Zv f own fk _ _ = _
  have e : (mf_M I nm sc)[b]? = some (mf_c I nm b) := mf_get hk.1 hb
  unfold mi_Zv
  rw [h1]
  simp only
  rw [h2]
  show mi_cvt f own fk 1 (v0 :: .ref b :: rest) _ = _
  unfold mi_cvt
  simp only [List.getElem?_cons_zero, List.getElem?_cons_succ]
  rw [e, Option.bind_some, show (mf_c I nm b).1 = ci from hk.2, ht, Option.bind_some]
  exact if_pos ⟨hlow, rfl⟩
theorem g_cs1 {v0 : Value} {rest : List Value} {fk t hh : Nat} {x : Nat × Nat × Nat} {Qc : Option Value → mg_I → Nat → Prop} (h : mg_f code pc = some (.invokestatic fk, n)) (h1 : mi_cq.lookup (own, fk) = none) (h2 : mi_cs.lookup (own, fk) = some (t, 1, x)) (hlow : mi_low rest = true) (hs : SP sc hh t [v0] I nm Qc) (hd : hh ≤ d) (k : ∀ r I' nm', Qc r I' nm' → GG sc own ini rz code d n ls (r.toList ++ rest) I' nm' Q) : GG sc own ini rz code d pc ls (v0 :: rest) I nm Q := by
  refine g_call h rfl rfl rfl rfl rfl (fun _ => rfl) (fun f => ?_) hs hd k
  show mi_Zs f own fk _ _ = _
  unfold mi_Zs
  rw [h1]
  simp only
  rw [h2]
  show mi_sat f t 1 (v0 :: rest) _ = _
  exact if_pos ⟨hlow, rfl⟩
theorem g_cn1 {v0 : Value} {rest : List Value} {fk t hh : Nat} {x : Nat × Nat × Nat} {Qc : Option Value → mg_I → Nat → Prop} (h : mg_f code pc = some (.invokestatic fk, n)) (h1 : mi_cq.lookup (own, fk) = none) (h1b : mi_cs.lookup (own, fk) = none) (h2 : mi_cn.lookup (own, fk) = some (t, 1, x)) (hlow : mi_low rest = true) (hs : SP sc hh t [v0] I nm Qc) (hd : hh ≤ d) (k : ∀ r I' nm', Qc r I' nm' → GG sc own ini rz code d n ls (r.toList ++ rest) I' nm' Q) : GG sc own ini rz code d pc ls (v0 :: rest) I nm Q := by
  refine g_call h rfl rfl rfl rfl rfl (fun _ => rfl) (fun f => ?_) hs hd k
  show mi_Zs f own fk _ _ = _
  unfold mi_Zs
  rw [h1]
  simp only
  rw [h1b]
  simp only
  rw [h2]
  show mi_sat f t 1 (v0 :: rest) _ = _
  exact if_pos ⟨hlow, rfl⟩
theorem g_cv2 {v0 v1 : Value} {rest : List Value} {b fk t hh ci : Nat} {Qc : Option Value → mg_I → Nat → Prop} (h : mg_f code pc = some (.invokevirtual fk, n)) (h1 : mi_cq.lookup (own, fk) = none) (h2 : mi_vp.lookup (own, fk) = some 2) (hk : 5 ≤ b ∧ mf_hd b = ci) (hb : b < 136) (ht : mi_vt own fk ci = some t) (hlow : mi_low rest = true) (hs : SP sc hh t [.ref b, v0, v1] I nm Qc) (hd : hh ≤ d) (k : ∀ r I' nm', Qc r I' nm' → GG sc own ini rz code d n ls (r.toList ++ rest) I' nm' Q) : GG sc own ini rz code d pc ls (v1 :: v0 :: .ref b :: rest) I nm Q := by
  refine g_call h rfl rfl rfl rfl rfl (fun _ => rfl) (fun f => ?_) hs hd k
  show mi_Zv f own fk _ _ = _
  have e : (mf_M I nm sc)[b]? = some (mf_c I nm b) := mf_get hk.1 hb
  unfold mi_Zv
  rw [h1]
  simp only
  rw [h2]
  show mi_cvt f own fk 2 (v1 :: v0 :: .ref b :: rest) _ = _
  unfold mi_cvt
  simp only [List.getElem?_cons_zero, List.getElem?_cons_succ]
  rw [e, Option.bind_some, show (mf_c I nm b).1 = ci from hk.2, ht, Option.bind_some]
  exact if_pos ⟨hlow, rfl⟩
theorem g_cs2 {v0 v1 : Value} {rest : List Value} {fk t hh : Nat} {x : Nat × Nat × Nat} {Qc : Option Value → mg_I → Nat → Prop} (h : mg_f code pc = some (.invokestatic fk, n)) (h1 : mi_cq.lookup (own, fk) = none) (h2 : mi_cs.lookup (own, fk) = some (t, 2, x)) (hlow : mi_low rest = true) (hs : SP sc hh t [v0, v1] I nm Qc) (hd : hh ≤ d) (k : ∀ r I' nm', Qc r I' nm' → GG sc own ini rz code d n ls (r.toList ++ rest) I' nm' Q) : GG sc own ini rz code d pc ls (v1 :: v0 :: rest) I nm Q := by
  refine g_call h rfl rfl rfl rfl rfl (fun _ => rfl) (fun f => ?_) hs hd k
  show mi_Zs f own fk _ _ = _
  unfold mi_Zs
  rw [h1]
  simp only
  rw [h2]
  show mi_sat f t 2 (v1 :: v0 :: rest) _ = _
  exact if_pos ⟨hlow, rfl⟩
theorem g_cn2 {v0 v1 : Value} {rest : List Value} {fk t hh : Nat} {x : Nat × Nat × Nat} {Qc : Option Value → mg_I → Nat → Prop} (h : mg_f code pc = some (.invokestatic fk, n)) (h1 : mi_cq.lookup (own, fk) = none) (h1b : mi_cs.lookup (own, fk) = none) (h2 : mi_cn.lookup (own, fk) = some (t, 2, x)) (hlow : mi_low rest = true) (hs : SP sc hh t [v0, v1] I nm Qc) (hd : hh ≤ d) (k : ∀ r I' nm', Qc r I' nm' → GG sc own ini rz code d n ls (r.toList ++ rest) I' nm' Q) : GG sc own ini rz code d pc ls (v1 :: v0 :: rest) I nm Q := by
  refine g_call h rfl rfl rfl rfl rfl (fun _ => rfl) (fun f => ?_) hs hd k
  show mi_Zs f own fk _ _ = _
  unfold mi_Zs
  rw [h1]
  simp only
  rw [h1b]
  simp only
  rw [h2]
  show mi_sat f t 2 (v1 :: v0 :: rest) _ = _
  exact if_pos ⟨hlow, rfl⟩
theorem g_cv3 {v0 v1 v2 : Value} {rest : List Value} {b fk t hh ci : Nat} {Qc : Option Value → mg_I → Nat → Prop} (h : mg_f code pc = some (.invokevirtual fk, n)) (h1 : mi_cq.lookup (own, fk) = none) (h2 : mi_vp.lookup (own, fk) = some 3) (hk : 5 ≤ b ∧ mf_hd b = ci) (hb : b < 136) (ht : mi_vt own fk ci = some t) (hlow : mi_low rest = true) (hs : SP sc hh t [.ref b, v0, v1, v2] I nm Qc) (hd : hh ≤ d) (k : ∀ r I' nm', Qc r I' nm' → GG sc own ini rz code d n ls (r.toList ++ rest) I' nm' Q) : GG sc own ini rz code d pc ls (v2 :: v1 :: v0 :: .ref b :: rest) I nm Q := by
  refine g_call h rfl rfl rfl rfl rfl (fun _ => rfl) (fun f => ?_) hs hd k
  show mi_Zv f own fk _ _ = _
  have e : (mf_M I nm sc)[b]? = some (mf_c I nm b) := mf_get hk.1 hb
  unfold mi_Zv
  rw [h1]
  simp only
  rw [h2]
  show mi_cvt f own fk 3 (v2 :: v1 :: v0 :: .ref b :: rest) _ = _
  unfold mi_cvt
  simp only [List.getElem?_cons_zero, List.getElem?_cons_succ]
  rw [e, Option.bind_some, show (mf_c I nm b).1 = ci from hk.2, ht, Option.bind_some]
  exact if_pos ⟨hlow, rfl⟩
theorem g_cs3 {v0 v1 v2 : Value} {rest : List Value} {fk t hh : Nat} {x : Nat × Nat × Nat} {Qc : Option Value → mg_I → Nat → Prop} (h : mg_f code pc = some (.invokestatic fk, n)) (h1 : mi_cq.lookup (own, fk) = none) (h2 : mi_cs.lookup (own, fk) = some (t, 3, x)) (hlow : mi_low rest = true) (hs : SP sc hh t [v0, v1, v2] I nm Qc) (hd : hh ≤ d) (k : ∀ r I' nm', Qc r I' nm' → GG sc own ini rz code d n ls (r.toList ++ rest) I' nm' Q) : GG sc own ini rz code d pc ls (v2 :: v1 :: v0 :: rest) I nm Q := by
  refine g_call h rfl rfl rfl rfl rfl (fun _ => rfl) (fun f => ?_) hs hd k
  show mi_Zs f own fk _ _ = _
  unfold mi_Zs
  rw [h1]
  simp only
  rw [h2]
  show mi_sat f t 3 (v2 :: v1 :: v0 :: rest) _ = _
  exact if_pos ⟨hlow, rfl⟩
theorem g_cn3 {v0 v1 v2 : Value} {rest : List Value} {fk t hh : Nat} {x : Nat × Nat × Nat} {Qc : Option Value → mg_I → Nat → Prop} (h : mg_f code pc = some (.invokestatic fk, n)) (h1 : mi_cq.lookup (own, fk) = none) (h1b : mi_cs.lookup (own, fk) = none) (h2 : mi_cn.lookup (own, fk) = some (t, 3, x)) (hlow : mi_low rest = true) (hs : SP sc hh t [v0, v1, v2] I nm Qc) (hd : hh ≤ d) (k : ∀ r I' nm', Qc r I' nm' → GG sc own ini rz code d n ls (r.toList ++ rest) I' nm' Q) : GG sc own ini rz code d pc ls (v2 :: v1 :: v0 :: rest) I nm Q := by
  refine g_call h rfl rfl rfl rfl rfl (fun _ => rfl) (fun f => ?_) hs hd k
  show mi_Zs f own fk _ _ = _
  unfold mi_Zs
  rw [h1]
  simp only
  rw [h1b]
  simp only
  rw [h2]
  show mi_sat f t 3 (v2 :: v1 :: v0 :: rest) _ = _
  exact if_pos ⟨hlow, rfl⟩
theorem g_cv4 {v0 v1 v2 v3 : Value} {rest : List Value} {b fk t hh ci : Nat} {Qc : Option Value → mg_I → Nat → Prop} (h : mg_f code pc = some (.invokevirtual fk, n)) (h1 : mi_cq.lookup (own, fk) = none) (h2 : mi_vp.lookup (own, fk) = some 4) (hk : 5 ≤ b ∧ mf_hd b = ci) (hb : b < 136) (ht : mi_vt own fk ci = some t) (hlow : mi_low rest = true) (hs : SP sc hh t [.ref b, v0, v1, v2, v3] I nm Qc) (hd : hh ≤ d) (k : ∀ r I' nm', Qc r I' nm' → GG sc own ini rz code d n ls (r.toList ++ rest) I' nm' Q) : GG sc own ini rz code d pc ls (v3 :: v2 :: v1 :: v0 :: .ref b :: rest) I nm Q := by
  refine g_call h rfl rfl rfl rfl rfl (fun _ => rfl) (fun f => ?_) hs hd k
  show mi_Zv f own fk _ _ = _
  have e : (mf_M I nm sc)[b]? = some (mf_c I nm b) := mf_get hk.1 hb
  unfold mi_Zv
  rw [h1]
  simp only
  rw [h2]
  show mi_cvt f own fk 4 (v3 :: v2 :: v1 :: v0 :: .ref b :: rest) _ = _
  unfold mi_cvt
  simp only [List.getElem?_cons_zero, List.getElem?_cons_succ]
  rw [e, Option.bind_some, show (mf_c I nm b).1 = ci from hk.2, ht, Option.bind_some]
  exact if_pos ⟨hlow, rfl⟩
theorem g_cs4 {v0 v1 v2 v3 : Value} {rest : List Value} {fk t hh : Nat} {x : Nat × Nat × Nat} {Qc : Option Value → mg_I → Nat → Prop} (h : mg_f code pc = some (.invokestatic fk, n)) (h1 : mi_cq.lookup (own, fk) = none) (h2 : mi_cs.lookup (own, fk) = some (t, 4, x)) (hlow : mi_low rest = true) (hs : SP sc hh t [v0, v1, v2, v3] I nm Qc) (hd : hh ≤ d) (k : ∀ r I' nm', Qc r I' nm' → GG sc own ini rz code d n ls (r.toList ++ rest) I' nm' Q) : GG sc own ini rz code d pc ls (v3 :: v2 :: v1 :: v0 :: rest) I nm Q := by
  refine g_call h rfl rfl rfl rfl rfl (fun _ => rfl) (fun f => ?_) hs hd k
  show mi_Zs f own fk _ _ = _
  unfold mi_Zs
  rw [h1]
  simp only
  rw [h2]
  show mi_sat f t 4 (v3 :: v2 :: v1 :: v0 :: rest) _ = _
  exact if_pos ⟨hlow, rfl⟩
theorem g_cn4 {v0 v1 v2 v3 : Value} {rest : List Value} {fk t hh : Nat} {x : Nat × Nat × Nat} {Qc : Option Value → mg_I → Nat → Prop} (h : mg_f code pc = some (.invokestatic fk, n)) (h1 : mi_cq.lookup (own, fk) = none) (h1b : mi_cs.lookup (own, fk) = none) (h2 : mi_cn.lookup (own, fk) = some (t, 4, x)) (hlow : mi_low rest = true) (hs : SP sc hh t [v0, v1, v2, v3] I nm Qc) (hd : hh ≤ d) (k : ∀ r I' nm', Qc r I' nm' → GG sc own ini rz code d n ls (r.toList ++ rest) I' nm' Q) : GG sc own ini rz code d pc ls (v3 :: v2 :: v1 :: v0 :: rest) I nm Q := by
  refine g_call h rfl rfl rfl rfl rfl (fun _ => rfl) (fun f => ?_) hs hd k
  show mi_Zs f own fk _ _ = _
  unfold mi_Zs
  rw [h1]
  simp only
  rw [h1b]
  simp only
  rw [h2]
  show mi_sat f t 4 (v3 :: v2 :: v1 :: v0 :: rest) _ = _
  exact if_pos ⟨hlow, rfl⟩
theorem g_cv5 {v0 v1 v2 v3 v4 : Value} {rest : List Value} {b fk t hh ci : Nat} {Qc : Option Value → mg_I → Nat → Prop} (h : mg_f code pc = some (.invokevirtual fk, n)) (h1 : mi_cq.lookup (own, fk) = none) (h2 : mi_vp.lookup (own, fk) = some 5) (hk : 5 ≤ b ∧ mf_hd b = ci) (hb : b < 136) (ht : mi_vt own fk ci = some t) (hlow : mi_low rest = true) (hs : SP sc hh t [.ref b, v0, v1, v2, v3, v4] I nm Qc) (hd : hh ≤ d) (k : ∀ r I' nm', Qc r I' nm' → GG sc own ini rz code d n ls (r.toList ++ rest) I' nm' Q) : GG sc own ini rz code d pc ls (v4 :: v3 :: v2 :: v1 :: v0 :: .ref b :: rest) I nm Q := by
  refine g_call h rfl rfl rfl rfl rfl (fun _ => rfl) (fun f => ?_) hs hd k
  show mi_Zv f own fk _ _ = _
  have e : (mf_M I nm sc)[b]? = some (mf_c I nm b) := mf_get hk.1 hb
  unfold mi_Zv
  rw [h1]
  simp only
  rw [h2]
  show mi_cvt f own fk 5 (v4 :: v3 :: v2 :: v1 :: v0 :: .ref b :: rest) _ = _
  unfold mi_cvt
  simp only [List.getElem?_cons_zero, List.getElem?_cons_succ]
  rw [e, Option.bind_some, show (mf_c I nm b).1 = ci from hk.2, ht, Option.bind_some]
  exact if_pos ⟨hlow, rfl⟩
theorem g_cs5 {v0 v1 v2 v3 v4 : Value} {rest : List Value} {fk t hh : Nat} {x : Nat × Nat × Nat} {Qc : Option Value → mg_I → Nat → Prop} (h : mg_f code pc = some (.invokestatic fk, n)) (h1 : mi_cq.lookup (own, fk) = none) (h2 : mi_cs.lookup (own, fk) = some (t, 5, x)) (hlow : mi_low rest = true) (hs : SP sc hh t [v0, v1, v2, v3, v4] I nm Qc) (hd : hh ≤ d) (k : ∀ r I' nm', Qc r I' nm' → GG sc own ini rz code d n ls (r.toList ++ rest) I' nm' Q) : GG sc own ini rz code d pc ls (v4 :: v3 :: v2 :: v1 :: v0 :: rest) I nm Q := by
  refine g_call h rfl rfl rfl rfl rfl (fun _ => rfl) (fun f => ?_) hs hd k
  show mi_Zs f own fk _ _ = _
  unfold mi_Zs
  rw [h1]
  simp only
  rw [h2]
  show mi_sat f t 5 (v4 :: v3 :: v2 :: v1 :: v0 :: rest) _ = _
  exact if_pos ⟨hlow, rfl⟩
theorem g_cn5 {v0 v1 v2 v3 v4 : Value} {rest : List Value} {fk t hh : Nat} {x : Nat × Nat × Nat} {Qc : Option Value → mg_I → Nat → Prop} (h : mg_f code pc = some (.invokestatic fk, n)) (h1 : mi_cq.lookup (own, fk) = none) (h1b : mi_cs.lookup (own, fk) = none) (h2 : mi_cn.lookup (own, fk) = some (t, 5, x)) (hlow : mi_low rest = true) (hs : SP sc hh t [v0, v1, v2, v3, v4] I nm Qc) (hd : hh ≤ d) (k : ∀ r I' nm', Qc r I' nm' → GG sc own ini rz code d n ls (r.toList ++ rest) I' nm' Q) : GG sc own ini rz code d pc ls (v4 :: v3 :: v2 :: v1 :: v0 :: rest) I nm Q := by
  refine g_call h rfl rfl rfl rfl rfl (fun _ => rfl) (fun f => ?_) hs hd k
  show mi_Zs f own fk _ _ = _
  unfold mi_Zs
  rw [h1]
  simp only
  rw [h1b]
  simp only
  rw [h2]
  show mi_sat f t 5 (v4 :: v3 :: v2 :: v1 :: v0 :: rest) _ = _
  exact if_pos ⟨hlow, rfl⟩
theorem g_cp1 {v0 : Value} {rest : List Value} {b fk t hh : Nat} {x : Nat × Nat × Nat × Nat × Nat × Nat × Nat} {Qc : Option Value → mg_I → Nat → Prop} (h : mg_f code pc = some (.invokespecial fk, n)) (h1 : mi_cq.lookup (own, fk) = none) (h2 : mi_ci.lookup (own, fk) = none) (h3 : mi_cj.lookup (own, fk) = none) (h4 : mi_cz.lookup (own, fk) = some (t, 1, x)) (hk : 5 ≤ b ∧ b < 136) (hk2 : mf_hd b < 13) (hlow : mi_low rest = true) (hs : SP sc hh t [.ref b, v0] I nm Qc) (hd : hh ≤ d) (k : ∀ r I' nm', Qc r I' nm' → GG sc own ini rz code d n ls (r.toList ++ rest) I' nm' Q) : GG sc own ini rz code d pc ls (v0 :: .ref b :: rest) I nm Q := by
  refine g_call h rfl rfl rfl rfl rfl (fun _ => rfl) (fun f => ?_) hs hd k
  show mi_Zp f own fk _ _ = _
  have e : (mf_M I nm sc)[b]? = some (mf_c I nm b) := mf_get hk.1 hk.2
  unfold mi_Zp
  rw [h1]
  simp only
  rw [h2]
  simp only
  rw [h3]
  simp only
  rw [h4]
  show mi_csu f t 1 (v0 :: .ref b :: rest) _ = _
  unfold mi_csu
  simp only [List.getElem?_cons_zero, List.getElem?_cons_succ]
  rw [e, Option.bind_some, if_pos (show (mf_c I nm b).1 < 13 from hk2)]
  exact if_pos ⟨hlow, rfl⟩
theorem g_cp3 {v0 v1 v2 : Value} {rest : List Value} {b fk t hh : Nat} {x : Nat × Nat × Nat × Nat × Nat × Nat × Nat} {Qc : Option Value → mg_I → Nat → Prop} (h : mg_f code pc = some (.invokespecial fk, n)) (h1 : mi_cq.lookup (own, fk) = none) (h2 : mi_ci.lookup (own, fk) = none) (h3 : mi_cj.lookup (own, fk) = none) (h4 : mi_cz.lookup (own, fk) = some (t, 3, x)) (hk : 5 ≤ b ∧ b < 136) (hk2 : mf_hd b < 13) (hlow : mi_low rest = true) (hs : SP sc hh t [.ref b, v0, v1, v2] I nm Qc) (hd : hh ≤ d) (k : ∀ r I' nm', Qc r I' nm' → GG sc own ini rz code d n ls (r.toList ++ rest) I' nm' Q) : GG sc own ini rz code d pc ls (v2 :: v1 :: v0 :: .ref b :: rest) I nm Q := by
  refine g_call h rfl rfl rfl rfl rfl (fun _ => rfl) (fun f => ?_) hs hd k
  show mi_Zp f own fk _ _ = _
  have e : (mf_M I nm sc)[b]? = some (mf_c I nm b) := mf_get hk.1 hk.2
  unfold mi_Zp
  rw [h1]
  simp only
  rw [h2]
  simp only
  rw [h3]
  simp only
  rw [h4]
  show mi_csu f t 3 (v2 :: v1 :: v0 :: .ref b :: rest) _ = _
  unfold mi_csu
  simp only [List.getElem?_cons_zero, List.getElem?_cons_succ]
  rw [e, Option.bind_some, if_pos (show (mf_c I nm b).1 < 13 from hk2)]
  exact if_pos ⟨hlow, rfl⟩
theorem g_max {r : List Value} {x y : Int32} {fk pl : Nat} (h : mg_f code pc = some (.invokestatic fk, n)) (h1 : mi_cq.lookup (own, fk) = some (1, pl)) (hlow : mi_low r = true) (k : GG sc own ini rz code d n ls (.int (if x < y then y else x) :: r) I nm Q) : GG sc own ini rz code d pc ls (.int y :: .int x :: r) I nm Q := by
  obtain rfl := g_next h
  refine g_step h rfl (fun f => ?_) k
  have e : mi_Z f own (.invokestatic fk) (.int y :: .int x :: r) (mf_M I nm sc) = some (.int (if x < y then y else x) :: r, mf_M I nm sc) := by
    show mi_Zs f own fk _ _ = _
    unfold mi_Zs
    rw [h1]
    simp [mi_mx, hlow]
  simp only [mi_one, mi_A, mi_B, mi_L, mi_Y, e, Option.map_some]
  rfl
theorem g_min {r : List Value} {x y : Int32} {fk pl : Nat} (h : mg_f code pc = some (.invokestatic fk, n)) (h1 : mi_cq.lookup (own, fk) = some (2, pl)) (hlow : mi_low r = true) (k : GG sc own ini rz code d n ls (.int (if y < x then y else x) :: r) I nm Q) : GG sc own ini rz code d pc ls (.int y :: .int x :: r) I nm Q := by
  obtain rfl := g_next h
  refine g_step h rfl (fun f => ?_) k
  have e : mi_Z f own (.invokestatic fk) (.int y :: .int x :: r) (mf_M I nm sc) = some (.int (if y < x then y else x) :: r, mf_M I nm sc) := by
    show mi_Zs f own fk _ _ = _
    unfold mi_Zs
    rw [h1]
    simp [mi_mn, hlow]
  simp only [mi_one, mi_A, mi_B, mi_L, mi_Y, e, Option.map_some]
  rfl
end GC
/-- an index's range -/
def iR (x : Int32) (n : Nat) : Prop := 0 ≤ x.toInt ∧ x.toInt < (n : Int)
theorem iR_nI {x : Int32} {n : Nat} (h : iR x n) : ∃ k, k < n ∧ x = nI k ∧ x.toNatClampNeg = k := by
  have h1 : vp_in x n := vp_in_iff.mpr h
  by_cases hn : n < 2 ^ 31
  · obtain ⟨k, hk, rfl⟩ := vp_in_of h1 hn
    exact ⟨k, hk, rfl, nI_clamp (by omega)⟩
  · have h2 := x.toInt_lt
    have h3 := h.1
    have h4 : ¬ x < 0 := fun z => by
      have := Int32.lt_iff_toInt_lt.mp z
      simp at this
      omega
    obtain ⟨j, hj, rfl⟩ := nI_of h4
    exact ⟨j, by omega, rfl, nI_clamp hj⟩
theorem iR_clamp {x : Int32} {n : Nat} (h : iR x n) : x.toNatClampNeg < n ∧ x = nI x.toNatClampNeg ∧ x.toInt = (x.toNatClampNeg : Int) := by
  obtain ⟨k, hk, h1, h2⟩ := iR_nI h
  refine ⟨by omega, by rw [h2]; exact h1, ?_⟩
  have := h.1
  show x.toInt = ((x.toInt.toNat : Nat) : Int)
  omega
theorem iR_of {k n : Nat} (h : k < n) (hn : n < 2 ^ 31) : iR (nI k) n := by
  have := nI_toInt (n := k) (by omega)
  exact ⟨by omega, by omega⟩
