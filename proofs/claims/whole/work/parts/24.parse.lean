/-! the text's value, as the model works it out -/
abbrev pS : Type := Nat × Int32
def pHere (b : Nat → Int32) (n : Nat) (s : pS) : Int32 := if s.1 < n ∧ s.2 < 0 then b s.1 else -1
def pWrong (s : pS) : pS := (s.1, if s.2 < 0 then nI s.1 else s.2)
def pName (t c : Int32) : Int32 := if t = 0 then (if c = 108 then 0 else if c = 110 then 1 else if c = 98 then 2 else -1) else (if c = 108 then 0 else if c = 107 then 1 else if c = 116 then 2 else -1)
def pLp (ok : Int32 → Prop) [DecidablePred ok] (cb : Int32 → Int32 → Int32 → Int32) (b : Nat → Int32) (n : Nat) (u : pS → Int32 × pS) : Nat → Int32 → pS → Int32 × pS
  | 0, v, s => (v, s)
  | m + 1, v, s => if ok (pHere b n s) then pLp ok cb b n u m (cb (pHere b n s) v (u (s.1 + 1, s.2)).1) (u (s.1 + 1, s.2)).2 else (v, s)
abbrev kMul (c : Int32) : Prop := c = 42 ∨ c = 47 ∨ c = 37
def vMul (c v w : Int32) : Int32 := if c = 42 then v * w else if w = 0 then 0 else if c = 47 then v / w else v - v / w * w
abbrev kSum (c : Int32) : Prop := c = 43 ∨ c = 45
def vSum (c v w : Int32) : Int32 := if c = 43 then v + w else v - w
abbrev kCmp (c : Int32) : Prop := c = 60 ∨ c = 61 ∨ c = 62
def vCmp (c v w : Int32) : Int32 := if c = 60 then bI (v < w) else if c = 61 then bI (v = w) else bI (w < v)
abbrev kAnd (c : Int32) : Prop := c = 38
def vAnd (_ v w : Int32) : Int32 := bI (¬ v = 0 ∧ ¬ w = 0)
abbrev kOr (c : Int32) : Prop := c = 124
def vOr (_ v w : Int32) : Int32 := bI (¬ v = 0 ∨ ¬ w = 0)
def pLv (ok : Int32 → Prop) [DecidablePred ok] (cb : Int32 → Int32 → Int32 → Int32) (b : Nat → Int32) (n : Nat) (u : pS → Int32 × pS) (s : pS) : Int32 × pS := pLp ok cb b n u 51 (u s).1 (u s).2
def pMul (b : Nat → Int32) (n : Nat) (u : pS → Int32 × pS) : pS → Int32 × pS := pLv kMul vMul b n u
def pSum (b : Nat → Int32) (n : Nat) (u : pS → Int32 × pS) : pS → Int32 × pS := pLv kSum vSum b n (pMul b n u)
def pCmp (b : Nat → Int32) (n : Nat) (u : pS → Int32 × pS) (s : pS) : Int32 × pS :=
  if kCmp (pHere b n (pSum b n u s).2) then (vCmp (pHere b n (pSum b n u s).2) (pSum b n u s).1 (pSum b n u ((pSum b n u s).2.1 + 1, (pSum b n u s).2.2)).1, (pSum b n u ((pSum b n u s).2.1 + 1, (pSum b n u s).2.2)).2) else pSum b n u s
def pAnd (b : Nat → Int32) (n : Nat) (u : pS → Int32 × pS) : pS → Int32 × pS := pLv kAnd vAnd b n (pCmp b n u)
def pOr (b : Nat → Int32) (n : Nat) (u : pS → Int32 × pS) : pS → Int32 × pS := pLv kOr vOr b n (pAnd b n u)
def pDg (b : Nat → Int32) (n : Nat) : Nat → Nat → Int32 → pS → Int32 × Nat × pS
  | 0, k, v, s => (v, k, s)
  | m + 1, k, v, s => if 48 ≤ (pHere b n s).toInt ∧ (pHere b n s).toInt ≤ 57 then pDg b n m (k + 1) (10 * v + pHere b n s - 48) (s.1 + 1, s.2) else (v, k, s)
def pAtom (b : Nat → Int32) (n : Nat) (t : Int32) (nm3 : Nat → Int32) (s : pS) : Int32 × pS :=
  if pName t (pHere b n s) < 0 then (if (pDg b n 4 0 0 s).2.1 = 0 then (0, pWrong (pDg b n 4 0 0 s).2.2) else ((pDg b n 4 0 0 s).1, (pDg b n 4 0 0 s).2.2)) else (nm3 (pName t (pHere b n s)).toNatClampNeg, (s.1 + 1, s.2))
abbrev kOp (c : Int32) : Prop := c = 33 ∨ c = 40
def pU (b : Nat → Int32) (n : Nat) (t : Int32) (nm3 : Nat → Int32) : Nat → pS → Int32 × pS
  | 0, s => if kOp (pHere b n s) then (0, pWrong s) else pAtom b n t nm3 s
  | k + 1, s => if kOp (pHere b n s) then
      (if pHere b n s = 40 then (if pHere b n (pOr b n (pU b n t nm3 k) (s.1 + 1, s.2)).2 = 41 then ((pOr b n (pU b n t nm3 k) (s.1 + 1, s.2)).1, ((pOr b n (pU b n t nm3 k) (s.1 + 1, s.2)).2.1 + 1, (pOr b n (pU b n t nm3 k) (s.1 + 1, s.2)).2.2)) else (0, pWrong (pOr b n (pU b n t nm3 k) (s.1 + 1, s.2)).2))
      else (bI ((pU b n t nm3 k (s.1 + 1, s.2)).1 = 0), (pU b n t nm3 k (s.1 + 1, s.2)).2))
    else pAtom b n t nm3 s
/-- what is read goes on, and no further than the end -/
def pGo (n : Nat) (u : pS → Int32 × pS) : Prop := ∀ s, s.1 ≤ n → s.1 ≤ (u s).2.1 ∧ (u s).2.1 ≤ n ∧ (¬ s.2 < 0 → (u s).2.2 = s.2)
theorem pHere_lt {b : Nat → Int32} {n : Nat} {s : pS} (h : ¬ pHere b n s = -1) : s.1 < n ∧ s.2 < 0 := by
  by_cases hh : s.1 < n ∧ s.2 < 0
  · exact hh
  · exact absurd (if_neg hh) h
theorem pLp_go {ok : Int32 → Prop} [DecidablePred ok] {cb : Int32 → Int32 → Int32 → Int32} {b : Nat → Int32} {n : Nat} {u : pS → Int32 × pS} (hok : ¬ ok (-1)) (hu : pGo n u) : ∀ m v s, s.1 ≤ n → s.1 ≤ (pLp ok cb b n u m v s).2.1 ∧ (pLp ok cb b n u m v s).2.1 ≤ n ∧ (¬ s.2 < 0 → (pLp ok cb b n u m v s).2.2 = s.2) := by
  intro m
  induction m with
  | zero => intro v s h; exact ⟨Nat.le_refl _, h, fun _ => rfl⟩
  | succ m ih =>
    intro v s h
    unfold pLp
    by_cases hk : ok (pHere b n s)
    · rw [if_pos hk]
      have h1 := pHere_lt (b := b) (n := n) (s := s) (fun z => hok (z ▸ hk))
      have h2 := hu (s.1 + 1, s.2) (by show s.1 + 1 ≤ n; omega)
      have h3 := ih (cb (pHere b n s) v (u (s.1 + 1, s.2)).1) _ h2.2.1
      have h4 : s.1 + 1 ≤ (u (s.1 + 1, s.2)).2.1 := h2.1
      exact ⟨by omega, h3.2.1, fun z => absurd h1.2 z⟩
    · rw [if_neg hk]
      exact ⟨Nat.le_refl _, h, fun _ => rfl⟩
theorem pLv_go {ok : Int32 → Prop} [DecidablePred ok] {cb : Int32 → Int32 → Int32 → Int32} {b : Nat → Int32} {n : Nat} {u : pS → Int32 × pS} (hok : ¬ ok (-1)) (hu : pGo n u) : pGo n (pLv ok cb b n u) := by
  intro s h
  have h1 := hu s h
  have h2 := pLp_go (cb := cb) (b := b) hok hu 51 (u s).1 (u s).2 h1.2.1
  refine ⟨Nat.le_trans h1.1 h2.1, h2.2.1, fun z => ?_⟩
  have h3 := h1.2.2 z
  exact (h2.2.2 (by rw [h3]; exact z)).trans h3
theorem pMul_go {b : Nat → Int32} {n : Nat} {u : pS → Int32 × pS} (hu : pGo n u) : pGo n (pMul b n u) := pLv_go (by decide) hu
theorem pSum_go {b : Nat → Int32} {n : Nat} {u : pS → Int32 × pS} (hu : pGo n u) : pGo n (pSum b n u) := pLv_go (by decide) (pMul_go hu)
theorem pCmp_go {b : Nat → Int32} {n : Nat} {u : pS → Int32 × pS} (hu : pGo n u) : pGo n (pCmp b n u) := by
  intro s h
  have h1 := pSum_go (b := b) hu s h
  unfold pCmp
  by_cases hk : kCmp (pHere b n (pSum b n u s).2)
  · rw [if_pos hk]
    have h2 := pHere_lt (b := b) (n := n) (s := (pSum b n u s).2) (fun z => by rw [z] at hk; revert hk; decide)
    have h3 := pSum_go (b := b) hu ((pSum b n u s).2.1 + 1, (pSum b n u s).2.2) (by show (pSum b n u s).2.1 + 1 ≤ n; omega)
    have h4 : (pSum b n u s).2.1 + 1 ≤ _ := h3.1
    refine ⟨Nat.le_trans (show s.1 ≤ (pSum b n u s).2.1 + 1 by omega) h3.1, h3.2.1, fun z => ?_⟩
    exact absurd h2.2 (by rw [h1.2.2 z]; exact z)
  · rw [if_neg hk]
    exact h1
theorem pAnd_go {b : Nat → Int32} {n : Nat} {u : pS → Int32 × pS} (hu : pGo n u) : pGo n (pAnd b n u) := pLv_go (by decide) (pCmp_go hu)
theorem pOr_go {b : Nat → Int32} {n : Nat} {u : pS → Int32 × pS} (hu : pGo n u) : pGo n (pOr b n u) := pLv_go (by decide) (pAnd_go hu)
theorem pDg_go {b : Nat → Int32} {n : Nat} : ∀ m k v s, s.1 ≤ n → s.1 ≤ (pDg b n m k v s).2.2.1 ∧ (pDg b n m k v s).2.2.1 ≤ n ∧ (pDg b n m k v s).2.2.2 = s.2 := by
  intro m
  induction m with
  | zero => intro k v s h; exact ⟨Nat.le_refl _, h, rfl⟩
  | succ m ih =>
    intro k v s h
    unfold pDg
    by_cases hk : 48 ≤ (pHere b n s).toInt ∧ (pHere b n s).toInt ≤ 57
    · rw [if_pos hk]
      have h1 := pHere_lt (b := b) (n := n) (s := s) (fun z => by rw [z] at hk; revert hk; decide)
      have h3 := ih (k + 1) (10 * v + pHere b n s - 48) (s.1 + 1, s.2) (by show s.1 + 1 ≤ n; omega)
      have h4 : s.1 + 1 ≤ _ := h3.1
      exact ⟨by omega, h3.2.1, h3.2.2⟩
    · rw [if_neg hk]
      exact ⟨Nat.le_refl _, h, rfl⟩
theorem pWrong_go {s : pS} : (pWrong s).1 = s.1 ∧ (¬ s.2 < 0 → (pWrong s).2 = s.2) := ⟨rfl, fun z => if_neg z⟩
theorem pName_m1 {t : Int32} : pName t (-1) = -1 := by
  unfold pName
  split <;> rfl
theorem pAtom_go {b : Nat → Int32} {n : Nat} {t : Int32} {nm3 : Nat → Int32} : pGo n (pAtom b n t nm3) := by
  intro s h
  unfold pAtom
  have h1 := pDg_go (b := b) 4 0 0 s h
  by_cases hk : pName t (pHere b n s) < 0
  · rw [if_pos hk]
    split
    · refine ⟨h1.1, h1.2.1, fun z => ?_⟩
      rw [← h1.2.2] at z ⊢
      exact pWrong_go.2 z
    · exact ⟨h1.1, h1.2.1, fun _ => h1.2.2⟩
  · rw [if_neg hk]
    have h1 := pHere_lt (b := b) (n := n) (s := s) (fun z => by rw [z, pName_m1] at hk; exact hk (by decide))
    exact ⟨by show s.1 ≤ s.1 + 1; omega, by show s.1 + 1 ≤ n; omega, fun _ => rfl⟩
theorem pU_go {b : Nat → Int32} {n : Nat} {t : Int32} {nm3 : Nat → Int32} : ∀ k, pGo n (pU b n t nm3 k) := by
  intro k
  induction k with
  | zero =>
    intro s h
    unfold pU
    split
    · exact ⟨Nat.le_refl _, h, pWrong_go.2⟩
    · exact pAtom_go s h
  | succ k ih =>
    intro s h
    unfold pU
    split
    next hk =>
      have h1 := pHere_lt (b := b) (n := n) (s := s) (fun z => by rw [z] at hk; revert hk; decide)
      split
      · have h3 := pOr_go (b := b) ih (s.1 + 1, s.2) (by show s.1 + 1 ≤ n; omega)
        have h4 : s.1 + 1 ≤ _ := h3.1
        split
        next hc =>
          have h5 := pHere_lt (b := b) (n := n) (fun z => by rw [z] at hc; revert hc; decide)
          exact ⟨by show s.1 ≤ _ + 1; omega, h5.1, fun z => absurd h1.2 z⟩
        · exact ⟨by show s.1 ≤ _; rw [pWrong_go.1]; omega, by show (pWrong _).1 ≤ n; rw [pWrong_go.1]; exact h3.2.1, fun z => absurd h1.2 z⟩
      · have h3 := ih (s.1 + 1, s.2) (by show s.1 + 1 ≤ n; omega)
        have h4 : s.1 + 1 ≤ _ := h3.1
        exact ⟨Nat.le_trans (show s.1 ≤ s.1 + 1 by omega) h3.1, h3.2.1, fun z => absurd h1.2 z⟩
    · exact pAtom_go s h
/-- the memory in which a text is read -/
def pW (I : mg_I) (a f o : Int32) : mg_I := fun x j => if x = 124 then (if j = 6 then a else if j = 8 then f else if j = 9 then o else I x j) else I x j
theorem pW_self {I : mg_I} : pW I (I 124 6) (I 124 8) (I 124 9) = I := by
  funext x j
  unfold pW
  split
  next h =>
    subst h
    split
    next h => subst h; rfl
    · split
      next h => subst h; rfl
      · split
        next h => subst h; rfl
        · rfl
  · rfl
theorem pW_6 {I : mg_I} {a f o v : Int32} : mf_up (pW I a f o) 124 6 v = pW I v f o := by
  funext x j
  unfold mf_up pW
  by_cases hx : x = 124 <;> by_cases h6 : j = 6 <;> simp [hx, h6]
theorem pW_8 {I : mg_I} {a f o v : Int32} : mf_up (pW I a f o) 124 8 v = pW I a v o := by
  funext x j
  unfold mf_up pW
  by_cases hx : x = 124 <;> by_cases h6 : j = 6 <;> by_cases h8 : j = 8 <;> simp [hx, h6, h8]
theorem pW_9 {I : mg_I} {a f o v : Int32} : mf_up (pW I a f o) 124 9 v = pW I a f v := by
  funext x j
  unfold mf_up pW
  by_cases hx : x = 124 <;> by_cases h6 : j = 6 <;> by_cases h8 : j = 8 <;> by_cases h9 : j = 9 <;> simp [hx, h6, h8, h9] <;> omega
/-- where the text lies -/
def pH (I : mg_I) (base n : Nat) : Prop := I 124 5 = nI base ∧ I 124 7 = nI n ∧ n ≤ 50 ∧ base + n ≤ 286
abbrev pb (I : mg_I) (base : Nat) : Nat → Int32 := fun i => I 125 (base + i)
theorem g_getv {sc : List Value} {own : Nat} {ini rz : Bool} {code : List (Nat × Instr)} {d pc n : Nat} {ls : List Value} {I : mg_I} {nm : Nat} {Q : Option Value → mg_I → Nat → Prop} {r : List Value} {a fk ci j : Nat} {v : Int32} (hv : I a j = v) (h : mg_f code pc = some (.getfield fk, n)) (hg : mi_gf own fk = some (ci, j)) (hi : mg_int ci j = true) (hc : ci ≠ 20) (hk : 5 ≤ a ∧ mf_hd a = ci) (k : GG sc own ini rz code d n ls (.int v :: r) I nm Q) : GG sc own ini rz code d pc ls (.ref a :: r) I nm Q := by
  subst hv
  exact g_geti h hg hi hc hk k

