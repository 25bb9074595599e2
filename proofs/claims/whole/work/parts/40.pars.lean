/-! the class's way to read a text, as a pure machine; and that it is the model's -/
def cRes (op l r : Int32) : Int32 :=
  if op = 124 then bI (¬ l = 0 ∨ ¬ r = 0) else if op = 38 then bI (¬ l = 0 ∧ ¬ r = 0) else if op = 60 then bI (l < r) else if op = 61 then bI (l = r) else if op = 62 then bI (r < l)
  else if op = 43 then l + r else if op = 45 then l - r else if op = 42 then l * r else if op = 47 then (if r = 0 then 0 else l / r) else if op = 37 then (if r = 0 then 0 else l - l / r * r) else 0
def lv (c : Int32) : Nat := if c = 124 then 1 else if c = 38 then 2 else if c = 60 ∨ c = 61 ∨ c = 62 then 3 else if c = 43 ∨ c = 45 then 4 else if c = 42 ∨ c = 47 ∨ c = 37 then 5 else if c = 33 then 6 else 0
theorem lv_or {c : Int32} : kOr c ↔ lv c = 1 := by
  unfold lv
  constructor
  · intro h; rw [if_pos h]
  · intro h; repeat' split at h
    all_goals first | assumption | (exfalso; omega)
theorem lv_and {c : Int32} : kAnd c ↔ lv c = 2 := by
  constructor
  · rintro rfl; rfl
  · unfold lv; intro h; repeat' split at h
    all_goals first | assumption | (exfalso; omega)
theorem lv_cmp {c : Int32} : kCmp c ↔ lv c = 3 := by
  constructor
  · rintro (rfl | rfl | rfl) <;> rfl
  · unfold lv; intro h; repeat' split at h
    all_goals first | assumption | (exfalso; omega)
theorem lv_sum {c : Int32} : kSum c ↔ lv c = 4 := by
  constructor
  · rintro (rfl | rfl) <;> rfl
  · unfold lv; intro h; repeat' split at h
    all_goals first | assumption | (exfalso; omega)
theorem lv_mul {c : Int32} : kMul c ↔ lv c = 5 := by
  constructor
  · rintro (rfl | rfl | rfl) <;> rfl
  · unfold lv; intro h; repeat' split at h
    all_goals first | assumption | (exfalso; omega)
theorem lv_not {c : Int32} (h : lv c = 6) : c = 33 := by
  unfold lv at h
  repeat' split at h
  all_goals first | assumption | (exfalso; omega)
theorem lv_le {c : Int32} : lv c ≤ 6 := by
  unfold lv
  repeat' split
  all_goals omega
def kDig (c : Int32) : Prop := 48 ≤ c.toInt ∧ c.toInt ≤ 57
theorem lv_dig {c : Int32} (h : kDig c) : lv c = 0 := by
  unfold kDig at h
  unfold lv
  have e : ∀ k : Int32, ¬ (48 ≤ k.toInt ∧ k.toInt ≤ 57) → ¬ c = k := fun k hk q => hk (q ▸ h)
  rw [if_neg (e 124 (by decide)), if_neg (e 38 (by decide)), if_neg (fun q => q.elim (e 60 (by decide)) (fun q => q.elim (e 61 (by decide)) (e 62 (by decide)))), if_neg (fun q => q.elim (e 43 (by decide)) (e 45 (by decide))), if_neg (fun q => q.elim (e 42 (by decide)) (fun q => q.elim (e 47 (by decide)) (e 37 (by decide)))), if_neg (e 33 (by decide))]
/-- what waits and binds at least as strongly goes over to the code -/
def kRel (L : Nat) : List Int32 → List Int32 → Int32 → List Int32 × List Int32 × Int32
  | [], cd, o => (cd, [], o)
  | c :: P, cd, o => if L ≤ lv c then kRel L P (cd ++ [-c]) (if c = 33 then o - 1 else o) else (cd, c :: P, o)
theorem kRel_rel {L M : Nat} (h : L ≤ M) : ∀ (P cd : List Int32) (o : Int32), kRel L (kRel M P cd o).2.1 (kRel M P cd o).1 (kRel M P cd o).2.2 = kRel L P cd o := by
  intro P
  induction P with
  | nil => intro cd o; rfl
  | cons c P ih =>
    intro cd o
    by_cases h1 : M ≤ lv c
    · rw [kRel, if_pos h1, ih, kRel, if_pos (Nat.le_trans h h1)]
    · rw [show kRel M (c :: P) cd o = (cd, c :: P, o) by rw [kRel, if_neg h1]]
theorem kRel_stop {L : Nat} {P : List Int32} (h : lv (P.headD 0) < L) {cd : List Int32} {o : Int32} : kRel L P cd o = (cd, P, o) := by
  cases P with
  | nil => rfl
  | cons c P => rw [kRel, if_neg (by have h2 : lv c < L := h; omega)]
theorem kRel_op {L : Nat} {c : Int32} {P cd : List Int32} {o : Int32} (h : lv c = L) (hL : L < 6) (hP : lv (P.headD 0) < L) : kRel L (c :: P) cd o = (cd ++ [-c], P, o) := by
  rw [kRel, if_pos (by omega), kRel_stop hP, if_neg]
  rintro rfl
  rw [show lv 33 = 6 from rfl] at h
  omega
/-- a text's state while it is read: code, what waits (the last first), how many are open, digits, whether an operand is due -/
abbrev kC : Type := List Int32 × List Int32 × Int32 × Int32 × Bool
noncomputable section
def kBeg (t c : Int32) (s : kC) : Option kC :=
  if c = 33 ∨ c = 40 then (if 5 < s.2.2.1 + 1 then none else some (s.1, c :: s.2.1, s.2.2.1 + 1, s.2.2.2.1, true))
  else if 48 ≤ c.toInt ∧ c.toInt ≤ 57 then some (s.1 ++ [c - 48], s.2.1, s.2.2.1, 1, false)
  else if pName t c < 0 then none else some (s.1 ++ [-1 - pName t c], s.2.1, s.2.2.1, 0, false)
def kAdd (cd : List Int32) (x : Int32) : List Int32 := cd.dropLast ++ [cd.getLastD 0 * 10 + x]
def kGn (c : Int32) (s : kC) : Option kC :=
  if 48 ≤ c.toInt ∧ c.toInt ≤ 57 then (if 1 ≤ s.2.2.2.1 ∧ s.2.2.2.1 < 4 then some (kAdd s.1 (c - 48), s.2.1, s.2.2.1, s.2.2.2.1 + 1, false) else none)
  else if c = 41 then (if (kRel 1 s.2.1 s.1 s.2.2.1).2.1.headD 0 = 40 then some ((kRel 1 s.2.1 s.1 s.2.2.1).1, (kRel 1 s.2.1 s.1 s.2.2.1).2.1.tail, (kRel 1 s.2.1 s.1 s.2.2.1).2.2 - 1, 0, false) else none)
  else if lv c = 0 ∨ lv c = 6 then none
  else if lv c = 3 then (if lv ((kRel 4 s.2.1 s.1 s.2.2.1).2.1.headD 0) = 3 then none else some ((kRel 4 s.2.1 s.1 s.2.2.1).1, c :: (kRel 4 s.2.1 s.1 s.2.2.1).2.1, (kRel 4 s.2.1 s.1 s.2.2.1).2.2, s.2.2.2.1, true))
  else some ((kRel (lv c) s.2.1 s.1 s.2.2.1).1, c :: (kRel (lv c) s.2.1 s.1 s.2.2.1).2.1, (kRel (lv c) s.2.1 s.1 s.2.2.1).2.2, s.2.2.2.1, true)
def kSt (t c : Int32) (s : kC) : Option kC := if s.2.2.2.2 = true then kBeg t c s else kGn c s
theorem kSt_f {t c : Int32} {cd P : List Int32} {o dg : Int32} : kSt t c (cd, P, o, dg, false) = kGn c (cd, P, o, dg, false) := if_neg (show ¬ (false = true) by decide)
theorem kSt_t {t c : Int32} {cd P : List Int32} {o dg : Int32} : kSt t c (cd, P, o, dg, true) = kBeg t c (cd, P, o, dg, true) := if_pos (show (true = true) from rfl)
def kFin (n : Nat) (s : kC) : Int32 × List Int32 :=
  if s.2.2.2.2 = true then (nI n, s.1) else if (kRel 1 s.2.1 s.1 s.2.2.1).2.1.length = 0 then (-1, (kRel 1 s.2.1 s.1 s.2.2.1).1) else (nI n, s.1)
def kRun (b : Nat → Int32) (n : Nat) (t : Int32) : Nat → Nat → kC → Int32 × List Int32
  | 0, _, s => kFin n s
  | m + 1, i, s => match kSt t (b i) s with
    | none => (nI i, s.1)
    | some s' => kRun b n t m (i + 1) s'
end
def kTo (b : Nat → Int32) (n : Nat) (t : Int32) (i : Nat) (s : kC) (j : Nat) (s' : kC) : Prop := i ≤ j ∧ j ≤ n ∧ ∀ m, kRun b n t (m + (j - i)) i s = kRun b n t m j s'
def kFl (b : Nat → Int32) (n : Nat) (t : Int32) (i : Nat) (s : kC) (f : Nat) : Prop := (kRun b n t (n - i) i s).1 = nI f
section KP
variable {b : Nat → Int32} {n : Nat} {t : Int32}
theorem kTo_rfl {i : Nat} {s : kC} (h : i ≤ n) : kTo b n t i s i s := ⟨Nat.le_refl _, h, fun m => by rw [Nat.sub_self]; rfl⟩
theorem kTo_trans {i j k : Nat} {s s1 s2 : kC} (h : kTo b n t i s j s1) (h2 : kTo b n t j s1 k s2) : kTo b n t i s k s2 := by
  refine ⟨Nat.le_trans h.1 h2.1, h2.2.1, fun m => ?_⟩
  have e := h.2.2 (m + (k - j))
  rw [show m + (k - j) + (j - i) = m + (k - i) by have := h.1; have := h2.1; omega] at e
  rw [e, h2.2.2 m]
theorem kTo_1 {i : Nat} {s s1 : kC} (hi : i < n) (h : kSt t (b i) s = some s1) : kTo b n t i s (i + 1) s1 := by
  refine ⟨by omega, hi, fun m => ?_⟩
  rw [show m + (i + 1 - i) = m + 1 by omega, kRun, h]
theorem kFl_to {i j f : Nat} {s s1 : kC} (h : kTo b n t i s j s1) (h2 : kFl b n t j s1 f) : kFl b n t i s f := by
  unfold kFl at h2 ⊢
  have e := h.2.2 (n - j)
  rw [show n - j + (j - i) = n - i by have := h.1; have := h.2.1; omega] at e
  rw [e]; exact h2
theorem kFl_none {i : Nat} {s : kC} (hi : i < n) (h : kSt t (b i) s = none) : kFl b n t i s i := by
  unfold kFl
  rw [show n - i = (n - i - 1) + 1 by omega, kRun, h]
theorem kFl_fin {s : kC} (h : (kFin n s).1 = nI n) : kFl b n t n s n := by
  unfold kFl
  rw [Nat.sub_self]
  exact h
/-- behind a part of a text: an operator that binds less, or a bracket, or nothing that goes on -/
def kEnd (b : Nat → Int32) (n : Nat) (t : Int32) (L j : Nat) (s : kC) : Prop := j < n → (1 ≤ lv (b j) ∧ lv (b j) < L) ∨ b j = 41 ∨ kSt t (b j) s = none
theorem kEnd_6 {j : Nat} {cd P : List Int32} {o dg : Int32} (h : j < n → kDig (b j) → ¬ (1 ≤ dg ∧ dg < 4)) : kEnd b n t 6 j (cd, P, o, dg, false) := by
  intro hj
  by_cases hd : 48 ≤ (b j).toInt ∧ (b j).toInt ≤ 57
  · right; right
    rw [kSt_f]
    unfold kGn
    rw [if_pos hd, if_neg (h hj hd)]
  · by_cases h41 : b j = 41
    · exact Or.inr (Or.inl h41)
    · by_cases h0 : lv (b j) = 0 ∨ lv (b j) = 6
      · right; right
        rw [kSt_f]
        unfold kGn
        rw [if_neg hd, if_neg h41, if_pos h0]
      · left
        have := @lv_le (b j)
        omega
/-- the values: the last first -/
def eS (nm3 : Nat → Int32) (st : List Int32) (op : Int32) : List Int32 :=
  if 0 ≤ op then op :: st
  else if -3 ≤ op then (if op = -1 then nm3 0 else if op = -3 then nm3 2 else nm3 1) :: st
  else if op = -33 then bI (st.headD 0 = 0) :: st.tail
  else cRes (-op) (st.tail.headD 0) (st.headD 0) :: st.tail.tail
def eE (nm3 : Nat → Int32) (cd : List Int32) : List Int32 := cd.foldl (eS nm3) []
theorem eE_1 {nm3 : Nat → Int32} {cd : List Int32} {x : Int32} : eE nm3 (cd ++ [x]) = eS nm3 (eE nm3 cd) x := by
  unfold eE
  rw [List.foldl_append]
  rfl
theorem eS_op {nm3 : Nat → Int32} {c v w : Int32} {st : List Int32} (h1 : 1 ≤ lv c) (h2 : lv c < 6) : eS nm3 (w :: v :: st) (-c) = cRes c v w :: st := by
  have hc : c = 124 ∨ c = 38 ∨ c = 60 ∨ c = 61 ∨ c = 62 ∨ c = 43 ∨ c = 45 ∨ c = 42 ∨ c = 47 ∨ c = 37 := by
    rcases (by omega : lv c = 1 ∨ lv c = 2 ∨ lv c = 3 ∨ lv c = 4 ∨ lv c = 5) with h | h | h | h | h
    · exact Or.inl (lv_or.mpr h)
    · exact Or.inr (Or.inl (lv_and.mpr h))
    · rcases lv_cmp.mpr h with h | h | h <;> simp [h]
    · rcases lv_sum.mpr h with h | h <;> simp [h]
    · rcases lv_mul.mpr h with h | h | h <;> simp [h]
  rcases hc with rfl | rfl | rfl | rfl | rfl | rfl | rfl | rfl | rfl | rfl <;> rfl
variable {nm3 : Nat → Int32}
/-- a part of a text that the model reads as r is read by the machine alike -/
def kOK (b : Nat → Int32) (n : Nat) (t : Int32) (nm3 : Nat → Int32) (L i : Nat) (C : kC) (r : Int32 × pS) : Prop :=
  (∃ f, f ≤ n ∧ r.2.2 = nI f ∧ kFl b n t i C f) ∨
  (r.2.2 = -1 ∧ ∃ (cd1 P1 : List Int32) (o1 dg1 : Int32), kTo b n t i C r.2.1 (cd1, P1, o1, dg1, false) ∧ eE nm3 (kRel L P1 cd1 o1).1 = r.1 :: eE nm3 C.1 ∧ (kRel L P1 cd1 o1).2.1 = C.2.1 ∧ (kRel L P1 cd1 o1).2.2 = C.2.2.1 ∧ kEnd b n t L r.2.1 (cd1, P1, o1, dg1, false))
def kLev (b : Nat → Int32) (n : Nat) (t : Int32) (nm3 : Nat → Int32) (o0 : Int32) (L : Nat) (u : pS → Int32 × pS) : Prop :=
  ∀ (i : Nat) (C : kC), i ≤ n → C.2.2.2.2 = true → C.2.2.1 = o0 → lv (C.2.1.headD 0) < L → kOK b n t nm3 L i C (u (i, -1))
theorem kOK_fault {L i : Nat} {C : kC} {v : Int32} {a f : Nat} (hf : f ≤ n) (h : kFl b n t i C f) : kOK b n t nm3 L i C (v, (a, nI f)) := Or.inl ⟨f, hf, rfl, h⟩
theorem pHere_m {j : Nat} : pHere b n (j, -1) = if j < n then b j else -1 := by
  unfold pHere
  by_cases h : j < n
  · rw [if_pos ⟨h, show (-1 : Int32) < 0 by decide⟩, if_pos h]
  · rw [if_neg (fun q => h q.1), if_neg h]
theorem pHere_f {s : pS} (h : ¬ s.2 < 0) : pHere b n s = -1 := if_neg (fun q => h q.2)
theorem nI_nn {f : Nat} (h : f < 2 ^ 31) : ¬ nI f < 0 := nI_pos h
/-- the machine behind an operator that binds as L, which isn't 3 -/
theorem kSt_op {L : Nat} {c : Int32} {cd P cdv Pv : List Int32} {o dg ov : Int32} (hc : lv c = L) (h1 : 1 ≤ L) (h5 : L ≤ 5) (h3 : L ≠ 3) (hr : kRel L P cd o = (cdv, Pv, ov)) : kSt t c (cd, P, o, dg, false) = some (cdv, c :: Pv, ov, dg, true) := by
  rw [kSt_f]
  unfold kGn
  have hd : ¬ (48 ≤ c.toInt ∧ c.toInt ≤ 57) := fun q => by have := lv_dig (c := c) q; omega
  have h41 : ¬ c = 41 := by rintro rfl; rw [show lv 41 = 0 from rfl] at hc; omega
  rw [if_neg hd, if_neg h41, if_neg (by omega), if_neg (by omega), hc]
  show some ((kRel L P cd o).1, c :: (kRel L P cd o).2.1, (kRel L P cd o).2.2, dg, true) = _
  rw [hr]
theorem kSt_cmp {c : Int32} {cd P cdv Pv : List Int32} {o dg ov : Int32} (hc : lv c = 3) (hr : kRel 4 P cd o = (cdv, Pv, ov)) : kSt t c (cd, P, o, dg, false) = if lv (Pv.headD 0) = 3 then none else some (cdv, c :: Pv, ov, dg, true) := by
  rw [kSt_f]
  unfold kGn
  have hd : ¬ (48 ≤ c.toInt ∧ c.toInt ≤ 57) := fun q => by have := lv_dig (c := c) q; omega
  have h41 : ¬ c = 41 := by rintro rfl; rw [show lv 41 = 0 from rfl] at hc; omega
  rw [if_neg hd, if_neg h41, if_neg (by omega), if_pos hc]
  show (if lv ((kRel 4 P cd o).2.1.headD 0) = 3 then none else some ((kRel 4 P cd o).1, c :: (kRel 4 P cd o).2.1, (kRel 4 P cd o).2.2, dg, true)) = _
  rw [hr]
theorem kLoop {L : Nat} {o0 : Int32} {ok : Int32 → Prop} [DecidablePred ok] {cb : Int32 → Int32 → Int32 → Int32} {u : pS → Int32 × pS} (h1 : 1 ≤ L) (h5 : L ≤ 5) (h3 : L ≠ 3) (hn : n < 2 ^ 31) (hok : ∀ c, ok c ↔ lv c = L) (hcb : ∀ c v w, lv c = L → cRes c v w = cb c v w) (hg : pGo n u) (hu : kLev b n t nm3 o0 (L + 1) u) :
    ∀ (m j i : Nat) (v : Int32) (C : kC) (cd1 P1 : List Int32) (o1 dg1 : Int32), n < m + j → C.2.2.1 = o0 → lv (C.2.1.headD 0) < L → kTo b n t i C j (cd1, P1, o1, dg1, false) → eE nm3 (kRel L P1 cd1 o1).1 = v :: eE nm3 C.1 → (kRel L P1 cd1 o1).2.1 = C.2.1 → (kRel L P1 cd1 o1).2.2 = C.2.2.1 → kEnd b n t (L + 1) j (cd1, P1, o1, dg1, false) → kOK b n t nm3 L i C (pLp ok cb b n u m v (j, -1)) := by
  intro m
  induction m with
  | zero => intro j i v C cd1 P1 o1 dg1 hm _ _ ht; exact absurd ht.2.1 (by omega)
  | succ m ih =>
    intro j i v C cd1 P1 o1 dg1 hm ho hP ht he hr1 hr2 hend
    rw [pLp]
    by_cases hk : ok (pHere b n (j, -1))
    · rw [if_pos hk]
      have hj : j < n := by
        by_cases hj : j < n
        · exact hj
        · rw [pHere_m, if_neg hj] at hk
          have := (hok _).mp hk
          rw [show lv (-1) = 0 from rfl] at this
          omega
      rw [pHere_m, if_pos hj] at hk ⊢
      have hc := (hok _).mp hk
      have hr : kRel L P1 cd1 o1 = ((kRel L P1 cd1 o1).1, C.2.1, C.2.2.1) := by
        rw [← hr1, ← hr2]
      generalize (kRel L P1 cd1 o1).1 = cdv at hr he
      have hs := kTo_1 (b := b) (t := t) hj (kSt_op (t := t) (dg := dg1) hc h1 h5 h3 hr)
      have ht2 := kTo_trans ht hs
      have hsub := hu (j + 1) (cdv, b j :: C.2.1, C.2.2.1, dg1, true) (by omega) rfl ho (by show lv (b j) < L + 1; omega)
      show kOK b n t nm3 L i C (pLp ok cb b n u m (cb (b j) v (u (j + 1, -1)).1) (u (j + 1, -1)).2)
      rcases hsub with ⟨f, hf, e, hfl⟩ | ⟨e, cd2, P2, o2, dg2, k1, k2, k3, k4, k5⟩
      · have hlt : ¬ (u (j + 1, -1)).2.2 < 0 := by rw [e]; exact nI_nn (by omega)
        have e2 : ∀ m v, pLp ok cb b n u m v (u (j + 1, -1)).2 = (v, (u (j + 1, -1)).2) := by
          intro m v
          cases m with
          | zero => rfl
          | succ m =>
            rw [pLp, if_neg]
            rw [pHere_f hlt]
            intro q
            have := (hok _).mp q
            rw [show lv (-1) = 0 from rfl] at this
            omega
        rw [e2]
        exact Or.inl ⟨f, hf, e, kFl_to ht2 hfl⟩
      · generalize hur : u (j + 1, -1) = r at *
        obtain ⟨w, a, fl⟩ := r
        have efl : fl = -1 := e
        subst efl
        have hrel : kRel L P2 cd2 o2 = ((kRel (L + 1) P2 cd2 o2).1 ++ [-(b j)], C.2.1, C.2.2.1) := by
          rw [← kRel_rel (show L ≤ L + 1 by omega), k3, k4]
          exact kRel_op hc (by omega) hP
        refine ih a i _ C cd2 P2 o2 dg2 ?_ ho hP (kTo_trans ht2 k1) ?_ (by rw [hrel]) (by rw [hrel]) ?_
        · have k0 : j + 1 ≤ a := k1.1
          omega
        · rw [hrel, eE_1, k2]
          show eS nm3 (w :: eE nm3 cdv) (-(b j)) = _
          rw [he, eS_op (by omega) (by omega), hcb _ _ _ hc]
        · exact k5
    · rw [if_neg hk]
      refine Or.inr ⟨rfl, cd1, P1, o1, dg1, ht, he, hr1, hr2, fun hj => ?_⟩
      rw [pHere_m, if_pos hj] at hk
      have hne : ¬ lv (b j) = L := fun q => hk ((hok _).mpr q)
      rcases hend hj with h | h | h
      · exact Or.inl ⟨h.1, by have h2 : lv (b j) < L + 1 := h.2; show lv (b j) < L; omega⟩
      · exact Or.inr (Or.inl h)
      · exact Or.inr (Or.inr h)
theorem kLv {L : Nat} {o0 : Int32} {ok : Int32 → Prop} [DecidablePred ok] {cb : Int32 → Int32 → Int32 → Int32} {u : pS → Int32 × pS} (h1 : 1 ≤ L) (h5 : L ≤ 5) (h3 : L ≠ 3) (hn : n ≤ 50) (hok : ∀ c, ok c ↔ lv c = L) (hcb : ∀ c v w, lv c = L → cRes c v w = cb c v w) (hg : pGo n u) (hu : kLev b n t nm3 o0 (L + 1) u) : kLev b n t nm3 o0 L (pLv ok cb b n u) := by
  intro i C hi hw ho hP
  unfold pLv
  rcases hu i C hi hw ho (by omega) with ⟨f, hf, e, hfl⟩ | ⟨e, cd2, P2, o2, dg2, k1, k2, k3, k4, k5⟩
  · have hlt : ¬ (u (i, -1)).2.2 < 0 := by rw [e]; exact nI_nn (by omega)
    have e2 : pLp ok cb b n u 51 (u (i, -1)).1 (u (i, -1)).2 = ((u (i, -1)).1, (u (i, -1)).2) := by
      rw [pLp, if_neg]
      rw [pHere_f hlt]
      intro q
      have := (hok _).mp q
      rw [show lv (-1) = 0 from rfl] at this
      omega
    rw [e2]
    exact Or.inl ⟨f, hf, e, hfl⟩
  · generalize hur : u (i, -1) = r at *
    obtain ⟨w, a, fl⟩ := r
    have efl : fl = -1 := e
    subst efl
    have hrel : kRel L P2 cd2 o2 = ((kRel (L + 1) P2 cd2 o2).1, C.2.1, C.2.2.1) := by
      rw [← kRel_rel (show L ≤ L + 1 by omega), k3, k4]
      exact kRel_stop hP
    exact kLoop h1 h5 h3 (by omega) hok hcb hg hu 51 a i w C cd2 P2 o2 dg2 (by omega) ho hP k1 (by rw [hrel]; exact k2) (by rw [hrel]) (by rw [hrel]) k5
theorem cmp_res {c v w : Int32} (h : kCmp c) : cRes c v w = vCmp c v w := by
  unfold cRes vCmp
  rcases h with rfl | rfl | rfl
  · rw [if_neg (by decide), if_neg (by decide), if_pos rfl, if_pos rfl]
  · rw [if_neg (by decide), if_neg (by decide), if_neg (by decide), if_pos rfl, if_neg (by decide), if_pos rfl]
  · rw [if_neg (by decide), if_neg (by decide), if_neg (by decide), if_neg (by decide), if_pos rfl, if_neg (by decide), if_neg (by decide)]
theorem cmp_m1 : ¬ kCmp (-1) := by decide
theorem kCmpL {o0 : Int32} {u : pS → Int32 × pS} (hn : n ≤ 50) (hu : kLev b n t nm3 o0 4 (pSum b n u)) : kLev b n t nm3 o0 3 (pCmp b n u) := by
  intro i C hi hw ho hP
  unfold pCmp
  rcases hu i C hi hw ho (by omega) with ⟨f, hf, e, hfl⟩ | ⟨e, cd2, P2, o2, dg2, k1, k2, k3, k4, k5⟩
  · have hlt : ¬ (pSum b n u (i, -1)).2.2 < 0 := by rw [e]; exact nI_nn (by omega)
    rw [if_neg]
    · exact Or.inl ⟨f, hf, e, hfl⟩
    · rw [pHere_f hlt]; exact cmp_m1
  · generalize hur : pSum b n u (i, -1) = r at *
    obtain ⟨v, j, fl⟩ := r
    have efl : fl = -1 := e
    subst efl
    have hr : kRel 4 P2 cd2 o2 = ((kRel 4 P2 cd2 o2).1, C.2.1, C.2.2.1) := by
      rw [← k3, ← k4]
    show kOK b n t nm3 3 i C (if kCmp (pHere b n (j, -1)) then (vCmp (pHere b n (j, -1)) v (pSum b n u (j + 1, -1)).1, (pSum b n u (j + 1, -1)).2) else (v, j, -1))
    by_cases hk : kCmp (pHere b n (j, -1))
    · rw [if_pos hk]
      have hj : j < n := by
        by_cases hj : j < n
        · exact hj
        · rw [pHere_m, if_neg hj] at hk
          exact absurd hk cmp_m1
      rw [pHere_m, if_pos hj] at hk ⊢
      have hc := lv_cmp.mp hk
      generalize (kRel 4 P2 cd2 o2).1 = cdv at hr k2
      have hst := kSt_cmp (t := t) (dg := dg2) hc hr
      rw [if_neg (show ¬ lv (C.2.1.headD 0) = 3 by omega)] at hst
      have ht2 := kTo_trans k1 (kTo_1 (b := b) (t := t) hj hst)
      rcases hu (j + 1) (cdv, b j :: C.2.1, C.2.2.1, dg2, true) (by omega) rfl ho (by show lv (b j) < 4; omega) with ⟨f, hf, e, hfl⟩ | ⟨e, cd3, P3, o3, dg3, l1, l2, l3, l4, l5⟩
      · exact Or.inl ⟨f, hf, e, kFl_to ht2 hfl⟩
      · generalize hur2 : pSum b n u (j + 1, -1) = r at *
        obtain ⟨w, a, fl⟩ := r
        have efl : fl = -1 := e
        subst efl
        have hrel : kRel 3 P3 cd3 o3 = ((kRel 4 P3 cd3 o3).1 ++ [-(b j)], C.2.1, C.2.2.1) := by
          rw [← kRel_rel (show 3 ≤ 4 by omega), l3, l4]
          exact kRel_op hc (by omega) hP
        have hr3 : kRel 4 P3 cd3 o3 = ((kRel 4 P3 cd3 o3).1, b j :: C.2.1, C.2.2.1) := by
          have e1 : (kRel 4 P3 cd3 o3).2.1 = b j :: C.2.1 := l3
          have e2 : (kRel 4 P3 cd3 o3).2.2 = C.2.2.1 := l4
          rw [← e1, ← e2]
        refine Or.inr ⟨rfl, cd3, P3, o3, dg3, kTo_trans ht2 l1, ?_, by rw [hrel], by rw [hrel], fun ha => ?_⟩
        · rw [hrel, eE_1, l2]
          show eS nm3 (w :: eE nm3 cdv) (-(b j)) = _
          rw [k2, eS_op (by omega) (by omega)]
          exact congrArg (fun z => z :: eE nm3 C.1) (cmp_res hk)
        · rcases l5 ha with h | h | h
          · by_cases h3 : lv (b a) = 3
            · right; right
              show kSt t (b a) (cd3, P3, o3, dg3, false) = none
              rw [kSt_cmp h3 hr3]
              exact if_pos hc
            · exact Or.inl ⟨h.1, by have : lv (b a) < 4 := h.2; show lv (b a) < 3; omega⟩
          · exact Or.inr (Or.inl h)
          · exact Or.inr (Or.inr h)
    · rw [if_neg hk]
      have hrel : kRel 3 P2 cd2 o2 = ((kRel 4 P2 cd2 o2).1, C.2.1, C.2.2.1) := by
        rw [← kRel_rel (show 3 ≤ 4 by omega), k3, k4]
        exact kRel_stop hP
      refine Or.inr ⟨rfl, cd2, P2, o2, dg2, k1, by rw [hrel]; exact k2, by rw [hrel], by rw [hrel], fun hj => ?_⟩
      have hj2 : j < n := hj
      rw [pHere_m, if_pos hj2] at hk
      have hne : ¬ lv (b j) = 3 := fun q => hk (lv_cmp.mpr q)
      rcases k5 hj with h | h | h
      · exact Or.inl ⟨h.1, by have : lv (b j) < 4 := h.2; show lv (b j) < 3; omega⟩
      · exact Or.inr (Or.inl h)
      · exact Or.inr (Or.inr h)
theorem kOrL {o0 : Int32} {u : pS → Int32 × pS} (hn : n ≤ 50) (hg : pGo n u) (hu : kLev b n t nm3 o0 6 u) : kLev b n t nm3 o0 1 (pOr b n u) := by
  have h5 := kLv (L := 5) (ok := kMul) (cb := vMul) (by omega) (by omega) (by omega) hn (fun c => lv_mul) (fun c v w h => by rcases lv_mul.mpr h with rfl | rfl | rfl <;> rfl) hg hu
  have h4 := kLv (L := 4) (ok := kSum) (cb := vSum) (by omega) (by omega) (by omega) hn (fun c => lv_sum) (fun c v w h => by rcases lv_sum.mpr h with rfl | rfl <;> rfl) (pMul_go hg) h5
  have h3 := kCmpL hn h4
  have h2 := kLv (L := 2) (ok := kAnd) (cb := vAnd) (by omega) (by omega) (by omega) hn (fun c => lv_and) (fun c v w h => by have e : c = 38 := lv_and.mpr h; subst e; rfl) (pCmp_go hg) h3
  exact kLv (L := 1) (ok := kOr) (cb := vOr) (by omega) (by omega) (by omega) hn (fun c => lv_or) (fun c v w h => by have e : c = 124 := lv_or.mpr h; subst e; rfl) (pAnd_go hg) h2
end KP
