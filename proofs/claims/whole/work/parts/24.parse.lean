/-! the text's value, as the model works it out -/
abbrev pS : Type := Nat × Int32
def pHere (b : Nat → Int32) (n : Nat) (s : pS) : Int32 := if s.1 < n ∧ s.2 < 0 then b s.1 else -1
def pWrong (s : pS) : pS := (s.1, if s.2 < 0 then nI s.1 else s.2)
def pName (t c : Int32) : Int32 := if t = 0 then (if c = 108 then 0 else if c = 110 then 1 else if c = 98 then 2 else -1) else (if c = 108 then 0 else if c = 107 then 1 else if c = 116 then 2 else -1)
def pLp (ok : Int32 → Prop) [DecidablePred ok] (cb : Int32 → Int32 → Int32 → Int32) (b : Nat → Int32) (n : Nat) (u : pS → Int32 × pS) : Nat → Int32 → pS → Int32 × pS
  | 0, v, s => (v, s)
  | m + 1, v, s => if ok (pHere b n s) then pLp ok cb b n u m (cb (pHere b n s) v (u (s.1 + 1, s.2)).1) (u (s.1 + 1, s.2)).2 else (v, s)
abbrev kMul (c : Int32) : Prop := c = 42 ∨ c = 47 ∨ c = 37
def vMul (c v w : Int32) : Int32 := if c = 42 then v * w else if w = 0 then 0 else if c = 47 then v / w else v - v / w * w
abbrev kSum (c : Int32) : Prop := c = 43 ∨ c = 45
def vSum (c v w : Int32) : Int32 := if c = 43 then v + w else v - w
abbrev kCmp (c : Int32) : Prop := c = 60 ∨ c = 61 ∨ c = 62
def vCmp (c v w : Int32) : Int32 := if c = 60 then bI (v < w) else if c = 61 then bI (v = w) else bI (w < v)
abbrev kAnd (c : Int32) : Prop := c = 38
def vAnd (_ v w : Int32) : Int32 := bI (¬ v = 0 ∧ ¬ w = 0)
abbrev kOr (c : Int32) : Prop := c = 124
def vOr (_ v w : Int32) : Int32 := bI (¬ v = 0 ∨ ¬ w = 0)
def pLv (ok : Int32 → Prop) [DecidablePred ok] (cb : Int32 → Int32 → Int32 → Int32) (b : Nat → Int32) (n : Nat) (u : pS → Int32 × pS) (s : pS) : Int32 × pS := pLp ok cb b n u 51 (u s).1 (u s).2
def pMul (b : Nat → Int32) (n : Nat) (u : pS → Int32 × pS) : pS → Int32 × pS := pLv kMul vMul b n u
def pSum (b : Nat → Int32) (n : Nat) (u : pS → Int32 × pS) : pS → Int32 × pS := pLv kSum vSum b n (pMul b n u)
def pCmp (b : Nat → Int32) (n : Nat) (u : pS → Int32 × pS) (s : pS) : Int32 × pS :=
  if kCmp (pHere b n (pSum b n u s).2) then (vCmp (pHere b n (pSum b n u s).2) (pSum b n u s).1 (pSum b n u ((pSum b n u s).2.1 + 1, (pSum b n u s).2.2)).1, (pSum b n u ((pSum b n u s).2.1 + 1, (pSum b n u s).2.2)).2) else pSum b n u s
def pAnd (b : Nat → Int32) (n : Nat) (u : pS → Int32 × pS) : pS → Int32 × pS := pLv kAnd vAnd b n (pCmp b n u)
def pOr (b : Nat → Int32) (n : Nat) (u : pS → Int32 × pS) : pS → Int32 × pS := pLv kOr vOr b n (pAnd b n u)
def pDg (b : Nat → Int32) (n : Nat) : Nat → Nat → Int32 → pS → Int32 × Nat × pS
  | 0, k, v, s => (v, k, s)
  | m + 1, k, v, s => if 48 ≤ (pHere b n s).toInt ∧ (pHere b n s).toInt ≤ 57 then pDg b n m (k + 1) (10 * v + pHere b n s - 48) (s.1 + 1, s.2) else (v, k, s)
def pAtom (b : Nat → Int32) (n : Nat) (t : Int32) (nm3 : Nat → Int32) (s : pS) : Int32 × pS :=
  if pName t (pHere b n s) < 0 then (if (pDg b n 4 0 0 s).2.1 = 0 then (0, pWrong (pDg b n 4 0 0 s).2.2) else ((pDg b n 4 0 0 s).1, (pDg b n 4 0 0 s).2.2)) else (nm3 (pName t (pHere b n s)).toNatClampNeg, (s.1 + 1, s.2))
abbrev kOp (c : Int32) : Prop := c = 33 ∨ c = 40
def pU (b : Nat → Int32) (n : Nat) (t : Int32) (nm3 : Nat → Int32) : Nat → pS → Int32 × pS
  | 0, s => if kOp (pHere b n s) then (0, pWrong s) else pAtom b n t nm3 s
  | k + 1, s => if kOp (pHere b n s) then
      (if pHere b n s = 40 then (if pHere b n (pOr b n (pU b n t nm3 k) (s.1 + 1, s.2)).2 = 41 then ((pOr b n (pU b n t nm3 k) (s.1 + 1, s.2)).1, ((pOr b n (pU b n t nm3 k) (s.1 + 1, s.2)).2.1 + 1, (pOr b n (pU b n t nm3 k) (s.1 + 1, s.2)).2.2)) else (0, pWrong (pOr b n (pU b n t nm3 k) (s.1 + 1, s.2)).2))
      else (bI ((pU b n t nm3 k (s.1 + 1, s.2)).1 = 0), (pU b n t nm3 k (s.1 + 1, s.2)).2))
    else pAtom b n t nm3 s
/-- what is read goes on, and no further than the end -/
def pGo (n : Nat) (u : pS → Int32 × pS) : Prop := ∀ s, s.1 ≤ n → s.1 ≤ (u s).2.1 ∧ (u s).2.1 ≤ n ∧ (¬ s.2 < 0 → (u s).2.2 = s.2)
theorem pHere_lt {b : Nat → Int32} {n : Nat} {s : pS} (h : ¬ pHere b n s = -1) : s.1 < n ∧ s.2 < 0 := by
  by_cases hh : s.1 < n ∧ s.2 < 0
  · exact hh
  · exact absurd (if_neg hh) h
theorem pLp_go {ok : Int32 → Prop} [DecidablePred ok] {cb : Int32 → Int32 → Int32 → Int32} {b : Nat → Int32} {n : Nat} {u : pS → Int32 × pS} (hok : ¬ ok (-1)) (hu : pGo n u) : ∀ m v s, s.1 ≤ n → s.1 ≤ (pLp ok cb b n u m v s).2.1 ∧ (pLp ok cb b n u m v s).2.1 ≤ n ∧ (¬ s.2 < 0 → (pLp ok cb b n u m v s).2.2 = s.2) := by
  intro m
  induction m with
  | zero => intro v s h; exact ⟨Nat.le_refl _, h, fun _ => rfl⟩
  | succ m ih =>
    intro v s h
    unfold pLp
    by_cases hk : ok (pHere b n s)
    · rw [if_pos hk]
      have h1 := pHere_lt (b := b) (n := n) (s := s) (fun z => hok (z ▸ hk))
      have h2 := hu (s.1 + 1, s.2) (by show s.1 + 1 ≤ n; omega)
      have h3 := ih (cb (pHere b n s) v (u (s.1 + 1, s.2)).1) _ h2.2.1
      have h4 : s.1 + 1 ≤ (u (s.1 + 1, s.2)).2.1 := h2.1
      exact ⟨by omega, h3.2.1, fun z => absurd h1.2 z⟩
    · rw [if_neg hk]
      exact ⟨Nat.le_refl _, h, fun _ => rfl⟩
theorem pLv_go {ok : Int32 → Prop} [DecidablePred ok] {cb : Int32 → Int32 → Int32 → Int32} {b : Nat → Int32} {n : Nat} {u : pS → Int32 × pS} (hok : ¬ ok (-1)) (hu : pGo n u) : pGo n (pLv ok cb b n u) := by
  intro s h
  have h1 := hu s h
  have h2 := pLp_go (cb := cb) (b := b) hok hu 51 (u s).1 (u s).2 h1.2.1
  refine ⟨Nat.le_trans h1.1 h2.1, h2.2.1, fun z => ?_⟩
  have h3 := h1.2.2 z
  exact (h2.2.2 (by rw [h3]; exact z)).trans h3
theorem pMul_go {b : Nat → Int32} {n : Nat} {u : pS → Int32 × pS} (hu : pGo n u) : pGo n (pMul b n u) := pLv_go (by decide) hu
theorem pSum_go {b : Nat → Int32} {n : Nat} {u : pS → Int32 × pS} (hu : pGo n u) : pGo n (pSum b n u) := pLv_go (by decide) (pMul_go hu)
theorem pCmp_go {b : Nat → Int32} {n : Nat} {u : pS → Int32 × pS} (hu : pGo n u) : pGo n (pCmp b n u) := by
  intro s h
  have h1 := pSum_go (b := b) hu s h
  unfold pCmp
  by_cases hk : kCmp (pHere b n (pSum b n u s).2)
  · rw [if_pos hk]
    have h2 := pHere_lt (b := b) (n := n) (s := (pSum b n u s).2) (fun z => by rw [z] at hk; revert hk; decide)
    have h3 := pSum_go (b := b) hu ((pSum b n u s).2.1 + 1, (pSum b n u s).2.2) (by show (pSum b n u s).2.1 + 1 ≤ n; omega)
    have h4 : (pSum b n u s).2.1 + 1 ≤ _ := h3.1
    refine ⟨Nat.le_trans (show s.1 ≤ (pSum b n u s).2.1 + 1 by omega) h3.1, h3.2.1, fun z => ?_⟩
    exact absurd h2.2 (by rw [h1.2.2 z]; exact z)
  · rw [if_neg hk]
    exact h1
theorem pAnd_go {b : Nat → Int32} {n : Nat} {u : pS → Int32 × pS} (hu : pGo n u) : pGo n (pAnd b n u) := pLv_go (by decide) (pCmp_go hu)
theorem pOr_go {b : Nat → Int32} {n : Nat} {u : pS → Int32 × pS} (hu : pGo n u) : pGo n (pOr b n u) := pLv_go (by decide) (pAnd_go hu)
theorem pDg_go {b : Nat → Int32} {n : Nat} : ∀ m k v s, s.1 ≤ n → s.1 ≤ (pDg b n m k v s).2.2.1 ∧ (pDg b n m k v s).2.2.1 ≤ n ∧ (pDg b n m k v s).2.2.2 = s.2 := by
  intro m
  induction m with
  | zero => intro k v s h; exact ⟨Nat.le_refl _, h, rfl⟩
  | succ m ih =>
    intro k v s h
    unfold pDg
    by_cases hk : 48 ≤ (pHere b n s).toInt ∧ (pHere b n s).toInt ≤ 57
    · rw [if_pos hk]
      have h1 := pHere_lt (b := b) (n := n) (s := s) (fun z => by rw [z] at hk; revert hk; decide)
      have h3 := ih (k + 1) (10 * v + pHere b n s - 48) (s.1 + 1, s.2) (by show s.1 + 1 ≤ n; omega)
      have h4 : s.1 + 1 ≤ _ := h3.1
      exact ⟨by omega, h3.2.1, h3.2.2⟩
    · rw [if_neg hk]
      exact ⟨Nat.le_refl _, h, rfl⟩
theorem pWrong_go {s : pS} : (pWrong s).1 = s.1 ∧ (¬ s.2 < 0 → (pWrong s).2 = s.2) := ⟨rfl, fun z => if_neg z⟩
theorem pName_m1 {t : Int32} : pName t (-1) = -1 := by
  unfold pName
  split <;> rfl
theorem pAtom_go {b : Nat → Int32} {n : Nat} {t : Int32} {nm3 : Nat → Int32} : pGo n (pAtom b n t nm3) := by
  intro s h
  unfold pAtom
  have h1 := pDg_go (b := b) 4 0 0 s h
  by_cases hk : pName t (pHere b n s) < 0
  · rw [if_pos hk]
    split
    · refine ⟨h1.1, h1.2.1, fun z => ?_⟩
      rw [← h1.2.2] at z ⊢
      exact pWrong_go.2 z
    · exact ⟨h1.1, h1.2.1, fun _ => h1.2.2⟩
  · rw [if_neg hk]
    have h1 := pHere_lt (b := b) (n := n) (s := s) (fun z => by rw [z, pName_m1] at hk; exact hk (by decide))
    exact ⟨by show s.1 ≤ s.1 + 1; omega, by show s.1 + 1 ≤ n; omega, fun _ => rfl⟩
theorem pU_go {b : Nat → Int32} {n : Nat} {t : Int32} {nm3 : Nat → Int32} : ∀ k, pGo n (pU b n t nm3 k) := by
  intro k
  induction k with
  | zero =>
    intro s h
    unfold pU
    split
    · exact ⟨Nat.le_refl _, h, pWrong_go.2⟩
    · exact pAtom_go s h
  | succ k ih =>
    intro s h
    unfold pU
    split
    next hk =>
      have h1 := pHere_lt (b := b) (n := n) (s := s) (fun z => by rw [z] at hk; revert hk; decide)
      split
      · have h3 := pOr_go (b := b) ih (s.1 + 1, s.2) (by show s.1 + 1 ≤ n; omega)
        have h4 : s.1 + 1 ≤ _ := h3.1
        split
        next hc =>
          have h5 := pHere_lt (b := b) (n := n) (fun z => by rw [z] at hc; revert hc; decide)
          exact ⟨by show s.1 ≤ _ + 1; omega, h5.1, fun z => absurd h1.2 z⟩
        · exact ⟨by show s.1 ≤ _; rw [pWrong_go.1]; omega, by show (pWrong _).1 ≤ n; rw [pWrong_go.1]; exact h3.2.1, fun z => absurd h1.2 z⟩
      · have h3 := ih (s.1 + 1, s.2) (by show s.1 + 1 ≤ n; omega)
        have h4 : s.1 + 1 ≤ _ := h3.1
        exact ⟨Nat.le_trans (show s.1 ≤ s.1 + 1 by omega) h3.1, h3.2.1, fun z => absurd h1.2 z⟩
    · exact pAtom_go s h
/-- the memory in which a text is read -/
def pW (I : mg_I) (a f o : Int32) : mg_I := fun x j => if x = 124 then (if j = 6 then a else if j = 8 then f else if j = 9 then o else I x j) else I x j
theorem pW_self {I : mg_I} : pW I (I 124 6) (I 124 8) (I 124 9) = I := by
  funext x j
  unfold pW
  split
  next h =>
    subst h
    split
    next h => subst h; rfl
    · split
      next h => subst h; rfl
      · split
        next h => subst h; rfl
        · rfl
  · rfl
theorem pW_6 {I : mg_I} {a f o v : Int32} : mf_up (pW I a f o) 124 6 v = pW I v f o := by
  funext x j
  unfold mf_up pW
  by_cases hx : x = 124 <;> by_cases h6 : j = 6 <;> simp [hx, h6]
theorem pW_8 {I : mg_I} {a f o v : Int32} : mf_up (pW I a f o) 124 8 v = pW I a v o := by
  funext x j
  unfold mf_up pW
  by_cases hx : x = 124 <;> by_cases h6 : j = 6 <;> by_cases h8 : j = 8 <;> simp [hx, h6, h8]
theorem pW_9 {I : mg_I} {a f o v : Int32} : mf_up (pW I a f o) 124 9 v = pW I a f v := by
  funext x j
  unfold mf_up pW
  by_cases hx : x = 124 <;> by_cases h6 : j = 6 <;> by_cases h8 : j = 8 <;> by_cases h9 : j = 9 <;> simp [hx, h6, h8, h9] <;> omega
/-- where the text lies -/
def pH (I : mg_I) (base n : Nat) : Prop := I 124 5 = nI base ∧ I 124 7 = nI n ∧ n ≤ 50 ∧ base + n ≤ 286
abbrev pb (I : mg_I) (base : Nat) : Nat → Int32 := fun i => I 125 (base + i)
theorem g_getv {sc : List Value} {own : Nat} {ini rz : Bool} {code : List (Nat × Instr)} {d pc n : Nat} {ls : List Value} {I : mg_I} {nm : Nat} {Q : Option Value → mg_I → Nat → Prop} {r : List Value} {a fk ci j : Nat} {v : Int32} (hv : I a j = v) (h : mg_f code pc = some (.getfield fk, n)) (hg : mi_gf own fk = some (ci, j)) (hi : mg_int ci j = true) (hc : ci ≠ 20) (hk : 5 ≤ a ∧ mf_hd a = ci) (k : GG sc own ini rz code d n ls (.int v :: r) I nm Q) : GG sc own ini rz code d pc ls (.ref a :: r) I nm Q := by
  subst hv
  exact g_geti h hg hi hc hk k

theorem c_here {sc : List Value} {nm : Nat} {I : mg_I} {base n at_ : Nat} {f o : Int32} (hp : pH I base n) (ha : at_ ≤ n) : SP sc 1 149 [.ref 124] (pW I (nI at_) f o) nm (qE (pHere (pb I base) n (at_, f)) (pW I (nI at_) f o) nm) := by
  have hp3 := hp.2.2
  refine SP.of (h := 0) (t := 149) (q := (yX12_here, cX12_here, 1, (some .int), 12, 1185, mi_k149)) rfl (by decide) (show ¬ (1 : Nat) < 1 by decide) (fun d hd => ?_)
  show GG sc 12 false false mi_k149 d 0 [.ref 124] [] (pW I (nI at_) f o) nm (qE (pHere (pb I base) n (at_, f)) (pW I (nI at_) f o) nm)
  refine g_aload_n (n := 1) rfl rfl ?_
  refine g_getv (n := 4) (ci := 12) (j := 6) (v := nI at_) rfl rfl (by decide +kernel) rfl (by decide) (by decide) ?_
  refine g_aload_n (n := 5) rfl rfl ?_
  refine g_getv (n := 8) (ci := 12) (j := 7) (v := nI n) hp.2.1 rfl (by decide +kernel) rfl (by decide) (by decide) ?_
  refine g_icge (n := 11) 35 rfl (by decide) (fun h1 => ?_) (fun h1 => ?_)
  ·
    refine g_iconst (n := 36) (v := -1) rfl rfl ?_
    refine g_iret (n := 37) rfl (fun h => nomatch h) ?_
    exact ⟨congrArg (fun z => some (Value.int z)) (by unfold pHere; first | exact (if_pos ⟨fN_nle rfl (by omega) (by omega) h1, Int32.not_le.mp h2⟩).symm | exact (if_neg (fun z => absurd z.2 (Int32.not_lt.mpr h2))).symm | exact (if_neg (fun z => absurd z.1 (Nat.not_lt.mpr (fN_le rfl (by omega) (by omega) h1)))).symm), rfl, rfl⟩
  ·
    have hlt := fN_nle (n := n) (k := at_) rfl (by omega) (by omega) h1
    refine g_aload_n (n := 12) rfl rfl ?_
    refine g_getv (n := 15) (ci := 12) (j := 8) (v := f) rfl rfl (by decide +kernel) rfl (by decide) (by decide) ?_
    refine g_ifge (n := 18) 35 rfl (by decide) (fun h2 => ?_) (fun h2 => ?_)
    ·
      refine g_iconst (n := 36) (v := -1) rfl rfl ?_
      refine g_iret (n := 37) rfl (fun h => nomatch h) ?_
      exact ⟨congrArg (fun z => some (Value.int z)) (by unfold pHere; first | exact (if_pos ⟨fN_nle rfl (by omega) (by omega) h1, Int32.not_le.mp h2⟩).symm | exact (if_neg (fun z => absurd z.2 (Int32.not_lt.mpr h2))).symm | exact (if_neg (fun z => absurd z.1 (Nat.not_lt.mpr (fN_le rfl (by omega) (by omega) h1)))).symm), rfl, rfl⟩
    ·
      refine g_aload_n (n := 19) rfl rfl ?_
      refine g_getr (n := 22) (ci := 12) (j := 0) (b := 125) rfl (by decide +kernel) (by decide) (by decide) (by decide +kernel) ?_
      refine g_aload_n (n := 23) rfl rfl ?_
      refine g_getv (n := 26) (ci := 12) (j := 5) (v := nI base) hp.1 rfl (by decide +kernel) rfl (by decide) (by decide) ?_
      refine g_aload_n (n := 27) rfl rfl ?_
      refine g_getv (n := 30) (ci := 12) (j := 6) (v := nI at_) rfl rfl (by decide +kernel) rfl (by decide) (by decide) ?_
      refine g_iaddN (n := 31) (x := base) (y := at_) rfl ?_
      refine g_iald (n := 32) ((base + at_)) rfl (by decide) rfl (by show _ < 286; omega) ?_
      refine g_top (w := I 125 ((base + at_))) rfl ?_
      refine g_goto 36 rfl (by decide) ?_
      refine g_iret (n := 37) rfl (fun h => nomatch h) ?_
      exact ⟨congrArg (fun z => some (Value.int z)) (by unfold pHere; first | exact (if_pos ⟨fN_nle rfl (by omega) (by omega) h1, Int32.not_le.mp h2⟩).symm | exact (if_neg (fun z => absurd z.2 (Int32.not_lt.mpr h2))).symm | exact (if_neg (fun z => absurd z.1 (Nat.not_lt.mpr (fN_le rfl (by omega) (by omega) h1)))).symm), rfl, rfl⟩
theorem c_wrong {sc : List Value} {nm : Nat} {I : mg_I} {base n at_ : Nat} {f o : Int32} (hp : pH I base n) (ha : at_ ≤ n) : SP sc 1 150 [.ref 124] (pW I (nI at_) f o) nm (qE 0 (pW I (nI at_) (pWrong (at_, f)).2 o) nm) := by
  refine SP.of (h := 0) (t := 150) (q := (yX12_wrong, cX12_wrong, 1, (some .int), 12, 1189, mi_k150)) rfl (by decide) (show ¬ (1 : Nat) < 1 by decide) (fun d hd => ?_)
  show GG sc 12 false false mi_k150 d 0 [.ref 124] [] (pW I (nI at_) f o) nm (qE 0 (pW I (nI at_) (pWrong (at_, f)).2 o) nm)
  refine g_aload_n (n := 1) rfl rfl ?_
  refine g_aload_n (n := 2) rfl rfl ?_
  refine g_getv (n := 5) (ci := 12) (j := 8) (v := f) rfl rfl (by decide +kernel) rfl (by decide) (by decide) ?_
  refine g_ifge (n := 8) 15 rfl (by decide) (fun h1 => ?_) (fun h1 => ?_)
  ·
    refine g_aload_n (n := 16) rfl rfl ?_
    refine g_getv (n := 19) (ci := 12) (j := 8) (v := f) rfl rfl (by decide +kernel) rfl (by decide) (by decide) ?_
    refine g_puti (n := 22) (ci := 12) (j := 8) rfl (by decide +kernel) rfl (by decide) (by decide) (by decide +kernel) rfl ?_
    rw [pW_8]
    refine g_iconst (n := 23) (v := 0) rfl rfl ?_
    refine g_iret (n := 24) rfl (fun h => nomatch h) ?_
    exact ⟨rfl, congrArg (fun z => pW I (nI at_) z o) (by unfold pWrong; first | exact (if_pos (Int32.not_le.mp h1)).symm | exact (if_neg (Int32.not_lt.mpr h1)).symm), rfl⟩
  ·
    refine g_aload_n (n := 9) rfl rfl ?_
    refine g_getv (n := 12) (ci := 12) (j := 6) (v := nI at_) rfl rfl (by decide +kernel) rfl (by decide) (by decide) ?_
    refine g_goto 19 rfl (by decide) ?_
    refine g_puti (n := 22) (ci := 12) (j := 8) rfl (by decide +kernel) rfl (by decide) (by decide) (by decide +kernel) rfl ?_
    rw [pW_8]
    refine g_iconst (n := 23) (v := 0) rfl rfl ?_
    refine g_iret (n := 24) rfl (fun h => nomatch h) ?_
    exact ⟨rfl, congrArg (fun z => pW I (nI at_) z o) (by unfold pWrong; first | exact (if_pos (Int32.not_le.mp h1)).symm | exact (if_neg (Int32.not_lt.mpr h1)).symm), rfl⟩
theorem c_takes1 {sc : List Value} {nm : Nat} {I : mg_I} {base n at_ : Nat} {f o : Int32} (hp : pH I base n) (ha : at_ ≤ n) {c : Int32} (hc : pHere (pb I base) n (at_, f) = c) : SP sc 2 151 [.ref 124, .int c] (pW I (nI at_) f o) nm (qE 1 (pW I (nI (at_ + 1)) f o) nm) := by
  refine SP.of (h := 1) (t := 151) (q := (yX12_takes, cX12_takes, 2, (some .boolean), 12, 1193, mi_k151)) rfl (by decide) (show ¬ (2 : Nat) < 2 by decide) (fun d hd => ?_)
  show GG sc 12 false true mi_k151 d 0 [.ref 124, .int c] [] (pW I (nI at_) f o) nm (qE 1 (pW I (nI (at_ + 1)) f o) nm)
  refine g_aload_n (n := 1) rfl rfl ?_
  refine g_cv0 (n := 4) (t := 149) (ci := 12) rfl (by decide +kernel) (by decide +kernel) (by decide) (by decide) (by decide +kernel) (by rfl) (c_here hp (by omega)) (by omega) (g_E ?_)
  refine g_iload_n (n := 5) rfl rfl ?_
  refine g_iceq (n := 8) 10 rfl (by decide) (fun h1 => ?_) (fun h1 => ?_)
  ·
    refine g_aload_n (n := 11) rfl rfl ?_
    refine g_dupa (n := 12) rfl ?_
    refine g_getv (n := 15) (ci := 12) (j := 6) (v := nI at_) rfl rfl (by decide +kernel) rfl (by decide) (by decide) ?_
    refine g_iconst (n := 16) (v := 1) rfl rfl ?_
    refine g_iaddN (n := 17) (x := at_) (y := 1) rfl ?_
    refine g_puti (n := 20) (ci := 12) (j := 6) rfl (by decide +kernel) rfl (by decide) (by decide) (by decide +kernel) rfl ?_
    rw [pW_6]
    refine g_iconst (n := 21) (v := 1) rfl rfl ?_
    refine g_iret (n := 22) rfl (fun _ => by first | exact Or.inl rfl | exact Or.inr rfl | exact bI_01) ?_
    first | exact ⟨rfl, rfl, rfl⟩ | exact absurd hc h1 | exact absurd h1 hc
  ·
    refine g_iconst (n := 9) (v := 0) rfl rfl ?_
    refine g_iret (n := 10) rfl (fun _ => by first | exact Or.inl rfl | exact Or.inr rfl | exact bI_01) ?_
    first | exact ⟨rfl, rfl, rfl⟩ | exact absurd hc h1 | exact absurd h1 hc
theorem c_takes0 {sc : List Value} {nm : Nat} {I : mg_I} {base n at_ : Nat} {f o : Int32} (hp : pH I base n) (ha : at_ ≤ n) {c : Int32} (hc : ¬ pHere (pb I base) n (at_, f) = c) : SP sc 2 151 [.ref 124, .int c] (pW I (nI at_) f o) nm (qE 0 (pW I (nI at_) f o) nm) := by
  refine SP.of (h := 1) (t := 151) (q := (yX12_takes, cX12_takes, 2, (some .boolean), 12, 1193, mi_k151)) rfl (by decide) (show ¬ (2 : Nat) < 2 by decide) (fun d hd => ?_)
  show GG sc 12 false true mi_k151 d 0 [.ref 124, .int c] [] (pW I (nI at_) f o) nm (qE 0 (pW I (nI at_) f o) nm)
  refine g_aload_n (n := 1) rfl rfl ?_
  refine g_cv0 (n := 4) (t := 149) (ci := 12) rfl (by decide +kernel) (by decide +kernel) (by decide) (by decide) (by decide +kernel) (by rfl) (c_here hp (by omega)) (by omega) (g_E ?_)
  refine g_iload_n (n := 5) rfl rfl ?_
  refine g_iceq (n := 8) 10 rfl (by decide) (fun h1 => ?_) (fun h1 => ?_)
  ·
    refine g_aload_n (n := 11) rfl rfl ?_
    refine g_dupa (n := 12) rfl ?_
    refine g_getv (n := 15) (ci := 12) (j := 6) (v := nI at_) rfl rfl (by decide +kernel) rfl (by decide) (by decide) ?_
    refine g_iconst (n := 16) (v := 1) rfl rfl ?_
    refine g_iaddN (n := 17) (x := at_) (y := 1) rfl ?_
    refine g_puti (n := 20) (ci := 12) (j := 6) rfl (by decide +kernel) rfl (by decide) (by decide) (by decide +kernel) rfl ?_
    rw [pW_6]
    refine g_iconst (n := 21) (v := 1) rfl rfl ?_
    refine g_iret (n := 22) rfl (fun _ => by first | exact Or.inl rfl | exact Or.inr rfl | exact bI_01) ?_
    first | exact ⟨rfl, rfl, rfl⟩ | exact absurd hc h1 | exact absurd h1 hc
  ·
    refine g_iconst (n := 9) (v := 0) rfl rfl ?_
    refine g_iret (n := 10) rfl (fun _ => by first | exact Or.inl rfl | exact Or.inr rfl | exact bI_01) ?_
    first | exact ⟨rfl, rfl, rfl⟩ | exact absurd hc h1 | exact absurd h1 hc
theorem c_nameOf {sc : List Value} {nm : Nat} {I : mg_I} {at_ : Nat} {f o c : Int32} : SP sc 1 152 [.ref 124, .int c] (pW I (nI at_) f o) nm (qE (pName (I 124 10) c) (pW I (nI at_) f o) nm) := by
  refine SP.of (h := 0) (t := 152) (q := (yX12_nameOf, cX12_nameOf, 2, (some .int), 12, 1197, mi_k152)) rfl (by decide) (show ¬ (2 : Nat) < 2 by decide) (fun d hd => ?_)
  show GG sc 12 false false mi_k152 d 0 [.ref 124, .int c] [] (pW I (nI at_) f o) nm (qE (pName (I 124 10) c) (pW I (nI at_) f o) nm)
  refine g_aload_n (n := 1) rfl rfl ?_
  refine g_getv (n := 4) (ci := 12) (j := 10) (v := I 124 10) rfl rfl (by decide +kernel) rfl (by decide) (by decide) ?_
  refine g_ifeq (n := 7) 39 rfl (by decide) (fun h1 => ?_) (fun h1 => ?_)
  ·
    refine g_iload_n (n := 40) rfl rfl ?_
    refine g_bipush (n := 42) (v := 108) rfl rfl ?_
    refine g_icne (n := 45) 49 rfl (by decide) (fun h2 => ?_) (fun h2 => ?_)
    ·
      refine g_iload_n (n := 50) rfl rfl ?_
      refine g_bipush (n := 52) (v := 110) rfl rfl ?_
      refine g_icne (n := 55) 59 rfl (by decide) (fun h3 => ?_) (fun h3 => ?_)
      ·
        refine g_iload_n (n := 60) rfl rfl ?_
        refine g_bipush (n := 62) (v := 98) rfl rfl ?_
        refine g_icne (n := 65) 69 rfl (by decide) (fun h4 => ?_) (fun h4 => ?_)
        ·
          refine g_iconst (n := 70) (v := -1) rfl rfl ?_
          refine g_iret (n := 71) rfl (fun h => nomatch h) ?_
          exact ⟨congrArg (fun z => some (Value.int z)) (by unfold pName; simp_all), rfl, rfl⟩
        ·
          refine g_iconst (n := 66) (v := 2) rfl rfl ?_
          refine g_goto 70 rfl (by decide) ?_
          refine g_iret (n := 71) rfl (fun h => nomatch h) ?_
          exact ⟨congrArg (fun z => some (Value.int z)) (by unfold pName; simp_all), rfl, rfl⟩
      ·
        refine g_iconst (n := 56) (v := 1) rfl rfl ?_
        refine g_goto 70 rfl (by decide) ?_
        refine g_iret (n := 71) rfl (fun h => nomatch h) ?_
        exact ⟨congrArg (fun z => some (Value.int z)) (by unfold pName; simp_all), rfl, rfl⟩
    ·
      refine g_iconst (n := 46) (v := 0) rfl rfl ?_
      refine g_goto 70 rfl (by decide) ?_
      refine g_iret (n := 71) rfl (fun h => nomatch h) ?_
      exact ⟨congrArg (fun z => some (Value.int z)) (by unfold pName; simp_all), rfl, rfl⟩
  ·
    refine g_iload_n (n := 8) rfl rfl ?_
    refine g_bipush (n := 10) (v := 108) rfl rfl ?_
    refine g_icne (n := 13) 17 rfl (by decide) (fun h5 => ?_) (fun h5 => ?_)
    ·
      refine g_iload_n (n := 18) rfl rfl ?_
      refine g_bipush (n := 20) (v := 107) rfl rfl ?_
      refine g_icne (n := 23) 27 rfl (by decide) (fun h6 => ?_) (fun h6 => ?_)
      ·
        refine g_iload_n (n := 28) rfl rfl ?_
        refine g_bipush (n := 30) (v := 116) rfl rfl ?_
        refine g_icne (n := 33) 37 rfl (by decide) (fun h7 => ?_) (fun h7 => ?_)
        ·
          refine g_iconst (n := 38) (v := -1) rfl rfl ?_
          refine g_iret (n := 39) rfl (fun h => nomatch h) ?_
          exact ⟨congrArg (fun z => some (Value.int z)) (by unfold pName; simp_all), rfl, rfl⟩
        ·
          refine g_iconst (n := 34) (v := 2) rfl rfl ?_
          refine g_goto 38 rfl (by decide) ?_
          refine g_iret (n := 39) rfl (fun h => nomatch h) ?_
          exact ⟨congrArg (fun z => some (Value.int z)) (by unfold pName; simp_all), rfl, rfl⟩
      ·
        refine g_iconst (n := 24) (v := 1) rfl rfl ?_
        refine g_goto 38 rfl (by decide) ?_
        refine g_iret (n := 39) rfl (fun h => nomatch h) ?_
        exact ⟨congrArg (fun z => some (Value.int z)) (by unfold pName; simp_all), rfl, rfl⟩
    ·
      refine g_iconst (n := 14) (v := 0) rfl rfl ?_
      refine g_goto 38 rfl (by decide) ?_
      refine g_iret (n := 39) rfl (fun h => nomatch h) ?_
      exact ⟨congrArg (fun z => some (Value.int z)) (by unfold pName; simp_all), rfl, rfl⟩
def qP (I : mg_I) (nm : Nat) (op : Int32) (r : Int32 × pS) : Option Value → mg_I → Nat → Prop := fun a I' nm' => ∃ o', a = some (.int r.1) ∧ I' = pW I (nI r.2.1) r.2.2 o' ∧ nm' = nm ∧ (r.2.2 < 0 → o' = op)
/-- a method reads as u does, from depth h on -/
def PC (sc : List Value) (I : mg_I) (nm n h t : Nat) (op : Int32) (u : pS → Int32 × pS) : Prop := ∀ (s : pS) (o : Int32), s.1 ≤ n → (s.2 < 0 → o = op) → SP sc h t [.ref 124] (pW I (nI s.1) s.2 o) nm (qP I nm op (u s))
theorem g_P {sc : List Value} {own : Nat} {ini rz : Bool} {code : List (Nat × Instr)} {d n : Nat} {ls : List Value} {I : mg_I} {nm : Nat} {Q : Option Value → mg_I → Nat → Prop} {r : List Value} {op : Int32} {q : Int32 × pS} (k : ∀ o', (q.2.2 < 0 → o' = op) → GG sc own ini rz code d n ls (.int q.1 :: r) (pW I (nI q.2.1) q.2.2 o') nm Q) : ∀ a I2 nm2, qP I nm op q a I2 nm2 → GG sc own ini rz code d n ls (a.toList ++ r) I2 nm2 Q := by
  rintro a I2 nm2 ⟨o', rfl, rfl, rfl, h⟩
  exact k o' h
theorem g_loc1 {sc : List Value} {own : Nat} {ini rz : Bool} {code : List (Nat × Instr)} {d n : Nat} {ls st : List Value} {I : mg_I} {nm : Nat} {Q : Option Value → mg_I → Nat → Prop} {a : Value} {v w : Int32} (h : v = w) (k : GG sc own ini rz code d n (a :: .int w :: ls) st I nm Q) : GG sc own ini rz code d n (a :: .int v :: ls) st I nm Q := by
  rw [h]
  exact k
theorem c_either {sc : List Value} {I : mg_I} {nm base n h : Nat} {op : Int32} {u : pS → Int32 × pS} (hp : pH I base n) (hu : PC sc I nm n (h + 2) 154 op u) (hg : pGo n u) : PC sc I nm n (h + 3) 153 op (pLv kOr vOr (pb I base) n u) := by
  intro s0 o0 ha0 ho0
  have hp3 := hp.2.2
  refine SP.of (h := h + 2) (t := 153) (q := (yX12_either, cX12_either, 3, (some .int), 12, 1161, mi_k153)) rfl (by decide) (show ¬ (3 : Nat) < 1 by decide) (fun d hd => ?_)
  show GG sc 12 false false mi_k153 d 0 [.ref 124, .null, .null] [] (pW I (nI s0.1) s0.2 o0) nm (qP I nm op (pLv kOr vOr (pb I base) n u s0))
  have H : ∀ (m : Nat) (v : Int32) (s : pS) (o : Int32) (x2 : Value), n < m + s.1 → s.1 ≤ n → (s.2 < 0 → o = op) → GG sc 12 false false mi_k153 d 5 [.ref 124, .int v, x2] [] (pW I (nI s.1) s.2 o) nm (qP I nm op (pLp kOr vOr (pb I base) n u m v s)) := by
    intro m
    induction m with
    | zero => intro v s o x2 h1 h2; omega
    | succ m ih =>
      intro v s o x2 hm ha ho
      by_cases hk : kOr (pHere (pb I base) n s)
      · have hl := pHere_lt (b := pb I base) (n := n) (s := s) (fun z => absurd (z ▸ hk) (by decide))
        rw [pLp, if_pos hk]
        have hg1 := hg (s.1 + 1, s.2) (by show s.1 + 1 ≤ n; omega)
        have hu1 := fun o hh => hu (s.1 + 1, s.2) o (by show s.1 + 1 ≤ n; omega) hh
        generalize u (s.1 + 1, s.2) = r at hg1 hu1 ⊢
        have hg2 : s.1 + 1 ≤ r.2.1 := hg1.1
        refine g_aload_n (n := 6) rfl rfl ?_
        refine g_bipush (n := 8) (v := 124) rfl rfl ?_
        refine g_cv1 (n := 11) (t := 151) (ci := 12) rfl (by decide +kernel) (by decide +kernel) (by decide) (by decide) (by decide +kernel) (by rfl) (c_takes1 hp (by omega) hk) (by omega) (g_E ?_)
        refine g_ifeq1 (n := 14) 36 rfl (by decide) ?_
        refine g_aload_n (n := 15) rfl rfl ?_
        refine g_cv0 (n := 18) (t := 154) (ci := 12) rfl (by decide +kernel) (by decide +kernel) (by decide) (by decide) (by decide +kernel) (by rfl) (hu1 o (fun hh => ho hh)) (by omega) (g_P fun o1 ho1 => ?_)
        refine g_istore_n2 (n := 19) rfl rfl ?_
        refine g_iload_n (n := 20) rfl rfl ?_
        refine g_ifne (n := 23) 27 rfl (by decide) (fun h1 => ?_) (fun h1 => ?_)
        ·
          refine g_iconst (n := 28) (v := 1) rfl rfl ?_
          refine g_goto 32 rfl (by decide) ?_
          refine g_istore_n1 (n := 33) rfl rfl ?_
          refine g_goto 5 rfl (by decide) ?_
          refine g_loc1 (w := vOr (pHere (pb I base) n s) v r.1) (by unfold vOr; first | exact (bI_t (by simp_all)).symm | exact (bI_f (by simp_all)).symm | simp_all) ?_
          exact ih _ _ _ _ (by omega) hg1.2.1 ho1
        ·
          refine g_iload_n (n := 24) rfl rfl ?_
          refine g_ifeq (n := 27) 31 rfl (by decide) (fun h2 => ?_) (fun h2 => ?_)
          ·
            refine g_iconst (n := 32) (v := 0) rfl rfl ?_
            refine g_istore_n1 (n := 33) rfl rfl ?_
            refine g_goto 5 rfl (by decide) ?_
            refine g_loc1 (w := vOr (pHere (pb I base) n s) v r.1) (by unfold vOr; first | exact (bI_t (by simp_all)).symm | exact (bI_f (by simp_all)).symm | simp_all) ?_
            exact ih _ _ _ _ (by omega) hg1.2.1 ho1
          ·
            refine g_iconst (n := 28) (v := 1) rfl rfl ?_
            refine g_goto 32 rfl (by decide) ?_
            refine g_istore_n1 (n := 33) rfl rfl ?_
            refine g_goto 5 rfl (by decide) ?_
            refine g_loc1 (w := vOr (pHere (pb I base) n s) v r.1) (by unfold vOr; first | exact (bI_t (by simp_all)).symm | exact (bI_f (by simp_all)).symm | simp_all) ?_
            exact ih _ _ _ _ (by omega) hg1.2.1 ho1
      · rw [pLp, if_neg hk]
        refine g_aload_n (n := 6) rfl rfl ?_
        refine g_bipush (n := 8) (v := 124) rfl rfl ?_
        refine g_cv1 (n := 11) (t := 151) (ci := 12) rfl (by decide +kernel) (by decide +kernel) (by decide) (by decide) (by decide +kernel) (by rfl) (c_takes0 hp (by omega) hk) (by omega) (g_E ?_)
        refine g_ifeq0 (n := 14) 36 rfl (by decide) ?_
        refine g_iload_n (n := 37) rfl rfl ?_
        refine g_iret (n := 38) rfl (fun h => nomatch h) ?_
        first | exact ⟨o, rfl, rfl, rfl, ho⟩ | (exfalso; simp_all; done)
  have hg0 := hg s0 ha0
  refine g_aload_n (n := 1) rfl rfl ?_
  refine g_cv0 (n := 4) (t := 154) (ci := 12) rfl (by decide +kernel) (by decide +kernel) (by decide) (by decide) (by decide +kernel) (by rfl) (hu s0 o0 ha0 ho0) (by omega) (g_P fun o1 ho1 => ?_)
  refine g_istore_n1 (n := 5) rfl rfl ?_
  exact H 51 _ _ o1 _ (by omega) hg0.2.1 ho1
theorem c_both {sc : List Value} {I : mg_I} {nm base n h : Nat} {op : Int32} {u : pS → Int32 × pS} (hp : pH I base n) (hu : PC sc I nm n (h + 2) 155 op u) (hg : pGo n u) : PC sc I nm n (h + 3) 154 op (pLv kAnd vAnd (pb I base) n u) := by
  intro s0 o0 ha0 ho0
  have hp3 := hp.2.2
  refine SP.of (h := h + 2) (t := 154) (q := (yX12_both, cX12_both, 3, (some .int), 12, 1165, mi_k154)) rfl (by decide) (show ¬ (3 : Nat) < 1 by decide) (fun d hd => ?_)
  show GG sc 12 false false mi_k154 d 0 [.ref 124, .null, .null] [] (pW I (nI s0.1) s0.2 o0) nm (qP I nm op (pLv kAnd vAnd (pb I base) n u s0))
  have H : ∀ (m : Nat) (v : Int32) (s : pS) (o : Int32) (x2 : Value), n < m + s.1 → s.1 ≤ n → (s.2 < 0 → o = op) → GG sc 12 false false mi_k154 d 5 [.ref 124, .int v, x2] [] (pW I (nI s.1) s.2 o) nm (qP I nm op (pLp kAnd vAnd (pb I base) n u m v s)) := by
    intro m
    induction m with
    | zero => intro v s o x2 h1 h2; omega
    | succ m ih =>
      intro v s o x2 hm ha ho
      by_cases hk : kAnd (pHere (pb I base) n s)
      · have hl := pHere_lt (b := pb I base) (n := n) (s := s) (fun z => absurd (z ▸ hk) (by decide))
        rw [pLp, if_pos hk]
        have hg1 := hg (s.1 + 1, s.2) (by show s.1 + 1 ≤ n; omega)
        have hu1 := fun o hh => hu (s.1 + 1, s.2) o (by show s.1 + 1 ≤ n; omega) hh
        generalize u (s.1 + 1, s.2) = r at hg1 hu1 ⊢
        have hg2 : s.1 + 1 ≤ r.2.1 := hg1.1
        refine g_aload_n (n := 6) rfl rfl ?_
        refine g_bipush (n := 8) (v := 38) rfl rfl ?_
        refine g_cv1 (n := 11) (t := 151) (ci := 12) rfl (by decide +kernel) (by decide +kernel) (by decide) (by decide) (by decide +kernel) (by rfl) (c_takes1 hp (by omega) hk) (by omega) (g_E ?_)
        refine g_ifeq1 (n := 14) 36 rfl (by decide) ?_
        refine g_aload_n (n := 15) rfl rfl ?_
        refine g_cv0 (n := 18) (t := 155) (ci := 12) rfl (by decide +kernel) (by decide +kernel) (by decide) (by decide) (by decide +kernel) (by rfl) (hu1 o (fun hh => ho hh)) (by omega) (g_P fun o1 ho1 => ?_)
        refine g_istore_n2 (n := 19) rfl rfl ?_
        refine g_iload_n (n := 20) rfl rfl ?_
        refine g_ifeq (n := 23) 31 rfl (by decide) (fun h1 => ?_) (fun h1 => ?_)
        ·
          refine g_iconst (n := 32) (v := 0) rfl rfl ?_
          refine g_istore_n1 (n := 33) rfl rfl ?_
          refine g_goto 5 rfl (by decide) ?_
          refine g_loc1 (w := vAnd (pHere (pb I base) n s) v r.1) (by unfold vAnd; first | exact (bI_t (by simp_all)).symm | exact (bI_f (by simp_all)).symm | simp_all) ?_
          exact ih _ _ _ _ (by omega) hg1.2.1 ho1
        ·
          refine g_iload_n (n := 24) rfl rfl ?_
          refine g_ifeq (n := 27) 31 rfl (by decide) (fun h2 => ?_) (fun h2 => ?_)
          ·
            refine g_iconst (n := 32) (v := 0) rfl rfl ?_
            refine g_istore_n1 (n := 33) rfl rfl ?_
            refine g_goto 5 rfl (by decide) ?_
            refine g_loc1 (w := vAnd (pHere (pb I base) n s) v r.1) (by unfold vAnd; first | exact (bI_t (by simp_all)).symm | exact (bI_f (by simp_all)).symm | simp_all) ?_
            exact ih _ _ _ _ (by omega) hg1.2.1 ho1
          ·
            refine g_iconst (n := 28) (v := 1) rfl rfl ?_
            refine g_goto 32 rfl (by decide) ?_
            refine g_istore_n1 (n := 33) rfl rfl ?_
            refine g_goto 5 rfl (by decide) ?_
            refine g_loc1 (w := vAnd (pHere (pb I base) n s) v r.1) (by unfold vAnd; first | exact (bI_t (by simp_all)).symm | exact (bI_f (by simp_all)).symm | simp_all) ?_
            exact ih _ _ _ _ (by omega) hg1.2.1 ho1
      · rw [pLp, if_neg hk]
        refine g_aload_n (n := 6) rfl rfl ?_
        refine g_bipush (n := 8) (v := 38) rfl rfl ?_
        refine g_cv1 (n := 11) (t := 151) (ci := 12) rfl (by decide +kernel) (by decide +kernel) (by decide) (by decide) (by decide +kernel) (by rfl) (c_takes0 hp (by omega) hk) (by omega) (g_E ?_)
        refine g_ifeq0 (n := 14) 36 rfl (by decide) ?_
        refine g_iload_n (n := 37) rfl rfl ?_
        refine g_iret (n := 38) rfl (fun h => nomatch h) ?_
        first | exact ⟨o, rfl, rfl, rfl, ho⟩ | (exfalso; simp_all; done)
  have hg0 := hg s0 ha0
  refine g_aload_n (n := 1) rfl rfl ?_
  refine g_cv0 (n := 4) (t := 155) (ci := 12) rfl (by decide +kernel) (by decide +kernel) (by decide) (by decide) (by decide +kernel) (by rfl) (hu s0 o0 ha0 ho0) (by omega) (g_P fun o1 ho1 => ?_)
  refine g_istore_n1 (n := 5) rfl rfl ?_
  exact H 51 _ _ o1 _ (by omega) hg0.2.1 ho1
theorem c_sum {sc : List Value} {I : mg_I} {nm base n h : Nat} {op : Int32} {u : pS → Int32 × pS} (hp : pH I base n) (hu : PC sc I nm n (h + 2) 157 op u) (hg : pGo n u) : PC sc I nm n (h + 3) 156 op (pLv kSum vSum (pb I base) n u) := by
  intro s0 o0 ha0 ho0
  have hp3 := hp.2.2
  refine SP.of (h := h + 2) (t := 156) (q := (yX12_sum, cX12_sum, 4, (some .int), 12, 1173, mi_k156)) rfl (by decide) (show ¬ (4 : Nat) < 1 by decide) (fun d hd => ?_)
  show GG sc 12 false false mi_k156 d 0 [.ref 124, .null, .null, .null] [] (pW I (nI s0.1) s0.2 o0) nm (qP I nm op (pLv kSum vSum (pb I base) n u s0))
  have H : ∀ (m : Nat) (v : Int32) (s : pS) (o : Int32) (x2 x3 : Value), n < m + s.1 → s.1 ≤ n → (s.2 < 0 → o = op) → GG sc 12 false false mi_k156 d 5 [.ref 124, .int v, x2, x3] [] (pW I (nI s.1) s.2 o) nm (qP I nm op (pLp kSum vSum (pb I base) n u m v s)) := by
    intro m
    induction m with
    | zero => intro v s o x2 x3 h1 h2; omega
    | succ m ih =>
      intro v s o x2 x3 hm ha ho
      by_cases hk : kSum (pHere (pb I base) n s)
      · have hl := pHere_lt (b := pb I base) (n := n) (s := s) (fun z => absurd (z ▸ hk) (by decide))
        rw [pLp, if_pos hk]
        have hg1 := hg (s.1 + 1, s.2) (by show s.1 + 1 ≤ n; omega)
        have hu1 := fun o hh => hu (s.1 + 1, s.2) o (by show s.1 + 1 ≤ n; omega) hh
        generalize u (s.1 + 1, s.2) = r at hg1 hu1 ⊢
        have hg2 : s.1 + 1 ≤ r.2.1 := hg1.1
        generalize hc : pHere (pb I base) n s = c at hk ⊢
        refine g_aload_n (n := 6) rfl rfl ?_
        refine g_cv0 (n := 9) (t := 149) (ci := 12) rfl (by decide +kernel) (by decide +kernel) (by decide) (by decide) (by decide +kernel) (by rfl) (c_here hp (by omega)) (by omega) (g_E ?_)
        refine g_top hc ?_
        refine g_bipush (n := 11) (v := 43) rfl rfl ?_
        refine g_iceq (n := 14) 23 rfl (by decide) (fun h1 => ?_) (fun h1 => ?_)
        ·
          refine g_aload_n (n := 24) rfl rfl ?_
          refine g_cv0 (n := 27) (t := 149) (ci := 12) rfl (by decide +kernel) (by decide +kernel) (by decide) (by decide) (by decide +kernel) (by rfl) (c_here hp (by omega)) (by omega) (g_E ?_)
          refine g_top hc ?_
          refine g_istore_n2 (n := 28) rfl rfl ?_
          refine g_aload_n (n := 29) rfl rfl ?_
          refine g_dupa (n := 30) rfl ?_
          refine g_getv (n := 33) (ci := 12) (j := 6) (v := nI s.1) rfl rfl (by decide +kernel) rfl (by decide) (by decide) ?_
          refine g_iconst (n := 34) (v := 1) rfl rfl ?_
          refine g_iaddN (n := 35) (x := s.1) (y := 1) rfl ?_
          refine g_puti (n := 38) (ci := 12) (j := 6) rfl (by decide +kernel) rfl (by decide) (by decide) (by decide +kernel) rfl ?_
          rw [pW_6]
          refine g_aload_n (n := 39) rfl rfl ?_
          refine g_cv0 (n := 42) (t := 157) (ci := 12) rfl (by decide +kernel) (by decide +kernel) (by decide) (by decide) (by decide +kernel) (by rfl) (hu1 o (fun hh => ho hh)) (by omega) (g_P fun o1 ho1 => ?_)
          refine g_istore_n3 (n := 43) rfl rfl ?_
          refine g_iload_n (n := 44) rfl rfl ?_
          refine g_bipush (n := 46) (v := 43) rfl rfl ?_
          refine g_icne (n := 49) 55 rfl (by decide) (fun h2 => ?_) (fun h2 => ?_)
          ·
            refine g_iload_n (n := 56) rfl rfl ?_
            refine g_iload_n (n := 57) rfl rfl ?_
            refine g_isub (n := 58) rfl ?_
            refine g_istore_n1 (n := 59) rfl rfl ?_
            refine g_goto 5 rfl (by decide) ?_
            refine g_loc1 (w := vSum c v r.1) (by unfold vSum; first | exact (bI_t (by simp_all)).symm | exact (bI_f (by simp_all)).symm | simp_all) ?_
            exact ih _ _ _ _ _ (by omega) hg1.2.1 ho1
          ·
            refine g_iload_n (n := 50) rfl rfl ?_
            refine g_iload_n (n := 51) rfl rfl ?_
            refine g_iadd (n := 52) rfl ?_
            refine g_goto 58 rfl (by decide) ?_
            refine g_istore_n1 (n := 59) rfl rfl ?_
            refine g_goto 5 rfl (by decide) ?_
            refine g_loc1 (w := vSum c v r.1) (by unfold vSum; first | exact (bI_t (by simp_all)).symm | exact (bI_f (by simp_all)).symm | simp_all) ?_
            exact ih _ _ _ _ _ (by omega) hg1.2.1 ho1
        ·
          refine g_aload_n (n := 15) rfl rfl ?_
          refine g_cv0 (n := 18) (t := 149) (ci := 12) rfl (by decide +kernel) (by decide +kernel) (by decide) (by decide) (by decide +kernel) (by rfl) (c_here hp (by omega)) (by omega) (g_E ?_)
          refine g_top hc ?_
          refine g_bipush (n := 20) (v := 45) rfl rfl ?_
          refine g_icne (n := 23) 62 rfl (by decide) (fun h3 => ?_) (fun h3 => ?_)
          ·
            refine g_iload_n (n := 63) rfl rfl ?_
            refine g_iret (n := 64) rfl (fun h => nomatch h) ?_
            (exfalso; unfold kSum at hk; simp_all; done)
          ·
            refine g_aload_n (n := 24) rfl rfl ?_
            refine g_cv0 (n := 27) (t := 149) (ci := 12) rfl (by decide +kernel) (by decide +kernel) (by decide) (by decide) (by decide +kernel) (by rfl) (c_here hp (by omega)) (by omega) (g_E ?_)
            refine g_top hc ?_
            refine g_istore_n2 (n := 28) rfl rfl ?_
            refine g_aload_n (n := 29) rfl rfl ?_
            refine g_dupa (n := 30) rfl ?_
            refine g_getv (n := 33) (ci := 12) (j := 6) (v := nI s.1) rfl rfl (by decide +kernel) rfl (by decide) (by decide) ?_
            refine g_iconst (n := 34) (v := 1) rfl rfl ?_
            refine g_iaddN (n := 35) (x := s.1) (y := 1) rfl ?_
            refine g_puti (n := 38) (ci := 12) (j := 6) rfl (by decide +kernel) rfl (by decide) (by decide) (by decide +kernel) rfl ?_
            rw [pW_6]
            refine g_aload_n (n := 39) rfl rfl ?_
            refine g_cv0 (n := 42) (t := 157) (ci := 12) rfl (by decide +kernel) (by decide +kernel) (by decide) (by decide) (by decide +kernel) (by rfl) (hu1 o (fun hh => ho hh)) (by omega) (g_P fun o1 ho1 => ?_)
            refine g_istore_n3 (n := 43) rfl rfl ?_
            refine g_iload_n (n := 44) rfl rfl ?_
            refine g_bipush (n := 46) (v := 43) rfl rfl ?_
            refine g_icne (n := 49) 55 rfl (by decide) (fun h4 => ?_) (fun h4 => ?_)
            ·
              refine g_iload_n (n := 56) rfl rfl ?_
              refine g_iload_n (n := 57) rfl rfl ?_
              refine g_isub (n := 58) rfl ?_
              refine g_istore_n1 (n := 59) rfl rfl ?_
              refine g_goto 5 rfl (by decide) ?_
              refine g_loc1 (w := vSum c v r.1) (by unfold vSum; first | exact (bI_t (by simp_all)).symm | exact (bI_f (by simp_all)).symm | simp_all) ?_
              exact ih _ _ _ _ _ (by omega) hg1.2.1 ho1
            ·
              refine g_iload_n (n := 50) rfl rfl ?_
              refine g_iload_n (n := 51) rfl rfl ?_
              refine g_iadd (n := 52) rfl ?_
              refine g_goto 58 rfl (by decide) ?_
              refine g_istore_n1 (n := 59) rfl rfl ?_
              refine g_goto 5 rfl (by decide) ?_
              refine g_loc1 (w := vSum c v r.1) (by unfold vSum; first | exact (bI_t (by simp_all)).symm | exact (bI_f (by simp_all)).symm | simp_all) ?_
              exact ih _ _ _ _ _ (by omega) hg1.2.1 ho1
      · rw [pLp, if_neg hk]
        generalize hc : pHere (pb I base) n s = c at hk ⊢
        refine g_aload_n (n := 6) rfl rfl ?_
        refine g_cv0 (n := 9) (t := 149) (ci := 12) rfl (by decide +kernel) (by decide +kernel) (by decide) (by decide) (by decide +kernel) (by rfl) (c_here hp (by omega)) (by omega) (g_E ?_)
        refine g_top hc ?_
        refine g_bipush (n := 11) (v := 43) rfl rfl ?_
        refine g_iceq (n := 14) 23 rfl (by decide) (fun h1 => ?_) (fun h1 => ?_)
        ·
          (exfalso; unfold kSum at hk; simp_all; done)
        ·
          refine g_aload_n (n := 15) rfl rfl ?_
          refine g_cv0 (n := 18) (t := 149) (ci := 12) rfl (by decide +kernel) (by decide +kernel) (by decide) (by decide) (by decide +kernel) (by rfl) (c_here hp (by omega)) (by omega) (g_E ?_)
          refine g_top hc ?_
          refine g_bipush (n := 20) (v := 45) rfl rfl ?_
          refine g_icne (n := 23) 62 rfl (by decide) (fun h2 => ?_) (fun h2 => ?_)
          ·
            refine g_iload_n (n := 63) rfl rfl ?_
            refine g_iret (n := 64) rfl (fun h => nomatch h) ?_
            first | exact ⟨o, rfl, rfl, rfl, ho⟩ | (exfalso; simp_all; done)
          ·
            (exfalso; unfold kSum at hk; simp_all; done)
  have hg0 := hg s0 ha0
  refine g_aload_n (n := 1) rfl rfl ?_
  refine g_cv0 (n := 4) (t := 157) (ci := 12) rfl (by decide +kernel) (by decide +kernel) (by decide) (by decide) (by decide +kernel) (by rfl) (hu s0 o0 ha0 ho0) (by omega) (g_P fun o1 ho1 => ?_)
  refine g_istore_n1 (n := 5) rfl rfl ?_
  exact H 51 _ _ o1 _ _ (by omega) hg0.2.1 ho1
theorem c_product {sc : List Value} {I : mg_I} {nm base n h : Nat} {op : Int32} {u : pS → Int32 × pS} (hp : pH I base n) (hu : PC sc I nm n (h + 2) 158 op u) (hg : pGo n u) : PC sc I nm n (h + 3) 157 op (pLv kMul vMul (pb I base) n u) := by
  intro s0 o0 ha0 ho0
  have hp3 := hp.2.2
  refine SP.of (h := h + 2) (t := 157) (q := (yX12_product, cX12_product, 4, (some .int), 12, 1177, mi_k157)) rfl (by decide) (show ¬ (4 : Nat) < 1 by decide) (fun d hd => ?_)
  show GG sc 12 false false mi_k157 d 0 [.ref 124, .null, .null, .null] [] (pW I (nI s0.1) s0.2 o0) nm (qP I nm op (pLv kMul vMul (pb I base) n u s0))
  have H : ∀ (m : Nat) (v : Int32) (s : pS) (o : Int32) (x2 x3 : Value), n < m + s.1 → s.1 ≤ n → (s.2 < 0 → o = op) → GG sc 12 false false mi_k157 d 5 [.ref 124, .int v, x2, x3] [] (pW I (nI s.1) s.2 o) nm (qP I nm op (pLp kMul vMul (pb I base) n u m v s)) := by
    intro m
    induction m with
    | zero => intro v s o x2 x3 h1 h2; omega
    | succ m ih =>
      intro v s o x2 x3 hm ha ho
      by_cases hk : kMul (pHere (pb I base) n s)
      · have hl := pHere_lt (b := pb I base) (n := n) (s := s) (fun z => absurd (z ▸ hk) (by decide))
        rw [pLp, if_pos hk]
        have hg1 := hg (s.1 + 1, s.2) (by show s.1 + 1 ≤ n; omega)
        have hu1 := fun o hh => hu (s.1 + 1, s.2) o (by show s.1 + 1 ≤ n; omega) hh
        generalize u (s.1 + 1, s.2) = r at hg1 hu1 ⊢
        have hg2 : s.1 + 1 ≤ r.2.1 := hg1.1
        generalize hc : pHere (pb I base) n s = c at hk ⊢
        refine g_aload_n (n := 6) rfl rfl ?_
        refine g_cv0 (n := 9) (t := 149) (ci := 12) rfl (by decide +kernel) (by decide +kernel) (by decide) (by decide) (by decide +kernel) (by rfl) (c_here hp (by omega)) (by omega) (g_E ?_)
        refine g_top hc ?_
        refine g_bipush (n := 11) (v := 42) rfl rfl ?_
        refine g_iceq (n := 14) 32 rfl (by decide) (fun h1 => ?_) (fun h1 => ?_)
        ·
          refine g_aload_n (n := 33) rfl rfl ?_
          refine g_cv0 (n := 36) (t := 149) (ci := 12) rfl (by decide +kernel) (by decide +kernel) (by decide) (by decide) (by decide +kernel) (by rfl) (c_here hp (by omega)) (by omega) (g_E ?_)
          refine g_top hc ?_
          refine g_istore_n2 (n := 37) rfl rfl ?_
          refine g_aload_n (n := 38) rfl rfl ?_
          refine g_dupa (n := 39) rfl ?_
          refine g_getv (n := 42) (ci := 12) (j := 6) (v := nI s.1) rfl rfl (by decide +kernel) rfl (by decide) (by decide) ?_
          refine g_iconst (n := 43) (v := 1) rfl rfl ?_
          refine g_iaddN (n := 44) (x := s.1) (y := 1) rfl ?_
          refine g_puti (n := 47) (ci := 12) (j := 6) rfl (by decide +kernel) rfl (by decide) (by decide) (by decide +kernel) rfl ?_
          rw [pW_6]
          refine g_aload_n (n := 48) rfl rfl ?_
          refine g_cv0 (n := 51) (t := 158) (ci := 12) rfl (by decide +kernel) (by decide +kernel) (by decide) (by decide) (by decide +kernel) (by rfl) (hu1 o (fun hh => ho hh)) (by omega) (g_P fun o1 ho1 => ?_)
          refine g_istore_n3 (n := 52) rfl rfl ?_
          refine g_iload_n (n := 53) rfl rfl ?_
          refine g_bipush (n := 55) (v := 42) rfl rfl ?_
          refine g_icne (n := 58) 64 rfl (by decide) (fun h2 => ?_) (fun h2 => ?_)
          ·
            refine g_iload_n (n := 65) rfl rfl ?_
            refine g_ifne (n := 68) 72 rfl (by decide) (fun h3 => ?_) (fun h3 => ?_)
            ·
              refine g_iload_n (n := 73) rfl rfl ?_
              refine g_bipush (n := 75) (v := 47) rfl rfl ?_
              refine g_icne (n := 78) 84 rfl (by decide) (fun h4 => ?_) (fun h4 => ?_)
              ·
                refine g_iload_n (n := 85) rfl rfl ?_
                refine g_iload_n (n := 86) rfl rfl ?_
                refine g_irem (n := 87) rfl (by first | decide | assumption) ?_
                refine g_istore_n1 (n := 88) rfl rfl ?_
                refine g_goto 5 rfl (by decide) ?_
                refine g_loc1 (w := vMul c v r.1) (by unfold vMul; first | exact (bI_t (by simp_all)).symm | exact (bI_f (by simp_all)).symm | simp_all) ?_
                exact ih _ _ _ _ _ (by omega) hg1.2.1 ho1
              ·
                refine g_iload_n (n := 79) rfl rfl ?_
                refine g_iload_n (n := 80) rfl rfl ?_
                refine g_idiv (n := 81) rfl (by first | decide | assumption) ?_
                refine g_goto 87 rfl (by decide) ?_
                refine g_istore_n1 (n := 88) rfl rfl ?_
                refine g_goto 5 rfl (by decide) ?_
                refine g_loc1 (w := vMul c v r.1) (by unfold vMul; first | exact (bI_t (by simp_all)).symm | exact (bI_f (by simp_all)).symm | simp_all) ?_
                exact ih _ _ _ _ _ (by omega) hg1.2.1 ho1
            ·
              refine g_iconst (n := 69) (v := 0) rfl rfl ?_
              refine g_goto 87 rfl (by decide) ?_
              refine g_istore_n1 (n := 88) rfl rfl ?_
              refine g_goto 5 rfl (by decide) ?_
              refine g_loc1 (w := vMul c v r.1) (by unfold vMul; first | exact (bI_t (by simp_all)).symm | exact (bI_f (by simp_all)).symm | simp_all) ?_
              exact ih _ _ _ _ _ (by omega) hg1.2.1 ho1
          ·
            refine g_iload_n (n := 59) rfl rfl ?_
            refine g_iload_n (n := 60) rfl rfl ?_
            refine g_imul (n := 61) rfl ?_
            refine g_goto 87 rfl (by decide) ?_
            refine g_istore_n1 (n := 88) rfl rfl ?_
            refine g_goto 5 rfl (by decide) ?_
            refine g_loc1 (w := vMul c v r.1) (by unfold vMul; first | exact (bI_t (by simp_all)).symm | exact (bI_f (by simp_all)).symm | simp_all) ?_
            exact ih _ _ _ _ _ (by omega) hg1.2.1 ho1
        ·
          refine g_aload_n (n := 15) rfl rfl ?_
          refine g_cv0 (n := 18) (t := 149) (ci := 12) rfl (by decide +kernel) (by decide +kernel) (by decide) (by decide) (by decide +kernel) (by rfl) (c_here hp (by omega)) (by omega) (g_E ?_)
          refine g_top hc ?_
          refine g_bipush (n := 20) (v := 47) rfl rfl ?_
          refine g_iceq (n := 23) 32 rfl (by decide) (fun h5 => ?_) (fun h5 => ?_)
          ·
            refine g_aload_n (n := 33) rfl rfl ?_
            refine g_cv0 (n := 36) (t := 149) (ci := 12) rfl (by decide +kernel) (by decide +kernel) (by decide) (by decide) (by decide +kernel) (by rfl) (c_here hp (by omega)) (by omega) (g_E ?_)
            refine g_top hc ?_
            refine g_istore_n2 (n := 37) rfl rfl ?_
            refine g_aload_n (n := 38) rfl rfl ?_
            refine g_dupa (n := 39) rfl ?_
            refine g_getv (n := 42) (ci := 12) (j := 6) (v := nI s.1) rfl rfl (by decide +kernel) rfl (by decide) (by decide) ?_
            refine g_iconst (n := 43) (v := 1) rfl rfl ?_
            refine g_iaddN (n := 44) (x := s.1) (y := 1) rfl ?_
            refine g_puti (n := 47) (ci := 12) (j := 6) rfl (by decide +kernel) rfl (by decide) (by decide) (by decide +kernel) rfl ?_
            rw [pW_6]
            refine g_aload_n (n := 48) rfl rfl ?_
            refine g_cv0 (n := 51) (t := 158) (ci := 12) rfl (by decide +kernel) (by decide +kernel) (by decide) (by decide) (by decide +kernel) (by rfl) (hu1 o (fun hh => ho hh)) (by omega) (g_P fun o1 ho1 => ?_)
            refine g_istore_n3 (n := 52) rfl rfl ?_
            refine g_iload_n (n := 53) rfl rfl ?_
            refine g_bipush (n := 55) (v := 42) rfl rfl ?_
            refine g_icne (n := 58) 64 rfl (by decide) (fun h6 => ?_) (fun h6 => ?_)
            ·
              refine g_iload_n (n := 65) rfl rfl ?_
              refine g_ifne (n := 68) 72 rfl (by decide) (fun h7 => ?_) (fun h7 => ?_)
              ·
                refine g_iload_n (n := 73) rfl rfl ?_
                refine g_bipush (n := 75) (v := 47) rfl rfl ?_
                refine g_icne (n := 78) 84 rfl (by decide) (fun h8 => ?_) (fun h8 => ?_)
                ·
                  refine g_iload_n (n := 85) rfl rfl ?_
                  refine g_iload_n (n := 86) rfl rfl ?_
                  refine g_irem (n := 87) rfl (by first | decide | assumption) ?_
                  refine g_istore_n1 (n := 88) rfl rfl ?_
                  refine g_goto 5 rfl (by decide) ?_
                  refine g_loc1 (w := vMul c v r.1) (by unfold vMul; first | exact (bI_t (by simp_all)).symm | exact (bI_f (by simp_all)).symm | simp_all) ?_
                  exact ih _ _ _ _ _ (by omega) hg1.2.1 ho1
                ·
                  refine g_iload_n (n := 79) rfl rfl ?_
                  refine g_iload_n (n := 80) rfl rfl ?_
                  refine g_idiv (n := 81) rfl (by first | decide | assumption) ?_
                  refine g_goto 87 rfl (by decide) ?_
                  refine g_istore_n1 (n := 88) rfl rfl ?_
                  refine g_goto 5 rfl (by decide) ?_
                  refine g_loc1 (w := vMul c v r.1) (by unfold vMul; first | exact (bI_t (by simp_all)).symm | exact (bI_f (by simp_all)).symm | simp_all) ?_
                  exact ih _ _ _ _ _ (by omega) hg1.2.1 ho1
              ·
                refine g_iconst (n := 69) (v := 0) rfl rfl ?_
                refine g_goto 87 rfl (by decide) ?_
                refine g_istore_n1 (n := 88) rfl rfl ?_
                refine g_goto 5 rfl (by decide) ?_
                refine g_loc1 (w := vMul c v r.1) (by unfold vMul; first | exact (bI_t (by simp_all)).symm | exact (bI_f (by simp_all)).symm | simp_all) ?_
                exact ih _ _ _ _ _ (by omega) hg1.2.1 ho1
            ·
              refine g_iload_n (n := 59) rfl rfl ?_
              refine g_iload_n (n := 60) rfl rfl ?_
              refine g_imul (n := 61) rfl ?_
              refine g_goto 87 rfl (by decide) ?_
              refine g_istore_n1 (n := 88) rfl rfl ?_
              refine g_goto 5 rfl (by decide) ?_
              refine g_loc1 (w := vMul c v r.1) (by unfold vMul; first | exact (bI_t (by simp_all)).symm | exact (bI_f (by simp_all)).symm | simp_all) ?_
              exact ih _ _ _ _ _ (by omega) hg1.2.1 ho1
          ·
            refine g_aload_n (n := 24) rfl rfl ?_
            refine g_cv0 (n := 27) (t := 149) (ci := 12) rfl (by decide +kernel) (by decide +kernel) (by decide) (by decide) (by decide +kernel) (by rfl) (c_here hp (by omega)) (by omega) (g_E ?_)
            refine g_top hc ?_
            refine g_bipush (n := 29) (v := 37) rfl rfl ?_
            refine g_icne (n := 32) 91 rfl (by decide) (fun h9 => ?_) (fun h9 => ?_)
            ·
              refine g_iload_n (n := 92) rfl rfl ?_
              refine g_iret (n := 93) rfl (fun h => nomatch h) ?_
              (exfalso; unfold kMul at hk; simp_all; done)
            ·
              refine g_aload_n (n := 33) rfl rfl ?_
              refine g_cv0 (n := 36) (t := 149) (ci := 12) rfl (by decide +kernel) (by decide +kernel) (by decide) (by decide) (by decide +kernel) (by rfl) (c_here hp (by omega)) (by omega) (g_E ?_)
              refine g_top hc ?_
              refine g_istore_n2 (n := 37) rfl rfl ?_
              refine g_aload_n (n := 38) rfl rfl ?_
              refine g_dupa (n := 39) rfl ?_
              refine g_getv (n := 42) (ci := 12) (j := 6) (v := nI s.1) rfl rfl (by decide +kernel) rfl (by decide) (by decide) ?_
              refine g_iconst (n := 43) (v := 1) rfl rfl ?_
              refine g_iaddN (n := 44) (x := s.1) (y := 1) rfl ?_
              refine g_puti (n := 47) (ci := 12) (j := 6) rfl (by decide +kernel) rfl (by decide) (by decide) (by decide +kernel) rfl ?_
              rw [pW_6]
              refine g_aload_n (n := 48) rfl rfl ?_
              refine g_cv0 (n := 51) (t := 158) (ci := 12) rfl (by decide +kernel) (by decide +kernel) (by decide) (by decide) (by decide +kernel) (by rfl) (hu1 o (fun hh => ho hh)) (by omega) (g_P fun o1 ho1 => ?_)
              refine g_istore_n3 (n := 52) rfl rfl ?_
              refine g_iload_n (n := 53) rfl rfl ?_
              refine g_bipush (n := 55) (v := 42) rfl rfl ?_
              refine g_icne (n := 58) 64 rfl (by decide) (fun h10 => ?_) (fun h10 => ?_)
              ·
                refine g_iload_n (n := 65) rfl rfl ?_
                refine g_ifne (n := 68) 72 rfl (by decide) (fun h11 => ?_) (fun h11 => ?_)
                ·
                  refine g_iload_n (n := 73) rfl rfl ?_
                  refine g_bipush (n := 75) (v := 47) rfl rfl ?_
                  refine g_icne (n := 78) 84 rfl (by decide) (fun h12 => ?_) (fun h12 => ?_)
                  ·
                    refine g_iload_n (n := 85) rfl rfl ?_
                    refine g_iload_n (n := 86) rfl rfl ?_
                    refine g_irem (n := 87) rfl (by first | decide | assumption) ?_
                    refine g_istore_n1 (n := 88) rfl rfl ?_
                    refine g_goto 5 rfl (by decide) ?_
                    refine g_loc1 (w := vMul c v r.1) (by unfold vMul; first | exact (bI_t (by simp_all)).symm | exact (bI_f (by simp_all)).symm | simp_all) ?_
                    exact ih _ _ _ _ _ (by omega) hg1.2.1 ho1
                  ·
                    refine g_iload_n (n := 79) rfl rfl ?_
                    refine g_iload_n (n := 80) rfl rfl ?_
                    refine g_idiv (n := 81) rfl (by first | decide | assumption) ?_
                    refine g_goto 87 rfl (by decide) ?_
                    refine g_istore_n1 (n := 88) rfl rfl ?_
                    refine g_goto 5 rfl (by decide) ?_
                    refine g_loc1 (w := vMul c v r.1) (by unfold vMul; first | exact (bI_t (by simp_all)).symm | exact (bI_f (by simp_all)).symm | simp_all) ?_
                    exact ih _ _ _ _ _ (by omega) hg1.2.1 ho1
                ·
                  refine g_iconst (n := 69) (v := 0) rfl rfl ?_
                  refine g_goto 87 rfl (by decide) ?_
                  refine g_istore_n1 (n := 88) rfl rfl ?_
                  refine g_goto 5 rfl (by decide) ?_
                  refine g_loc1 (w := vMul c v r.1) (by unfold vMul; first | exact (bI_t (by simp_all)).symm | exact (bI_f (by simp_all)).symm | simp_all) ?_
                  exact ih _ _ _ _ _ (by omega) hg1.2.1 ho1
              ·
                refine g_iload_n (n := 59) rfl rfl ?_
                refine g_iload_n (n := 60) rfl rfl ?_
                refine g_imul (n := 61) rfl ?_
                refine g_goto 87 rfl (by decide) ?_
                refine g_istore_n1 (n := 88) rfl rfl ?_
                refine g_goto 5 rfl (by decide) ?_
                refine g_loc1 (w := vMul c v r.1) (by unfold vMul; first | exact (bI_t (by simp_all)).symm | exact (bI_f (by simp_all)).symm | simp_all) ?_
                exact ih _ _ _ _ _ (by omega) hg1.2.1 ho1
      · rw [pLp, if_neg hk]
        generalize hc : pHere (pb I base) n s = c at hk ⊢
        refine g_aload_n (n := 6) rfl rfl ?_
        refine g_cv0 (n := 9) (t := 149) (ci := 12) rfl (by decide +kernel) (by decide +kernel) (by decide) (by decide) (by decide +kernel) (by rfl) (c_here hp (by omega)) (by omega) (g_E ?_)
        refine g_top hc ?_
        refine g_bipush (n := 11) (v := 42) rfl rfl ?_
        refine g_iceq (n := 14) 32 rfl (by decide) (fun h1 => ?_) (fun h1 => ?_)
        ·
          (exfalso; unfold kMul at hk; simp_all; done)
        ·
          refine g_aload_n (n := 15) rfl rfl ?_
          refine g_cv0 (n := 18) (t := 149) (ci := 12) rfl (by decide +kernel) (by decide +kernel) (by decide) (by decide) (by decide +kernel) (by rfl) (c_here hp (by omega)) (by omega) (g_E ?_)
          refine g_top hc ?_
          refine g_bipush (n := 20) (v := 47) rfl rfl ?_
          refine g_iceq (n := 23) 32 rfl (by decide) (fun h2 => ?_) (fun h2 => ?_)
          ·
            (exfalso; unfold kMul at hk; simp_all; done)
          ·
            refine g_aload_n (n := 24) rfl rfl ?_
            refine g_cv0 (n := 27) (t := 149) (ci := 12) rfl (by decide +kernel) (by decide +kernel) (by decide) (by decide) (by decide +kernel) (by rfl) (c_here hp (by omega)) (by omega) (g_E ?_)
            refine g_top hc ?_
            refine g_bipush (n := 29) (v := 37) rfl rfl ?_
            refine g_icne (n := 32) 91 rfl (by decide) (fun h3 => ?_) (fun h3 => ?_)
            ·
              refine g_iload_n (n := 92) rfl rfl ?_
              refine g_iret (n := 93) rfl (fun h => nomatch h) ?_
              first | exact ⟨o, rfl, rfl, rfl, ho⟩ | (exfalso; simp_all; done)
            ·
              (exfalso; unfold kMul at hk; simp_all; done)
  have hg0 := hg s0 ha0
  refine g_aload_n (n := 1) rfl rfl ?_
  refine g_cv0 (n := 4) (t := 158) (ci := 12) rfl (by decide +kernel) (by decide +kernel) (by decide) (by decide) (by decide +kernel) (by rfl) (hu s0 o0 ha0 ho0) (by omega) (g_P fun o1 ho1 => ?_)
  refine g_istore_n1 (n := 5) rfl rfl ?_
  exact H 51 _ _ o1 _ _ (by omega) hg0.2.1 ho1
