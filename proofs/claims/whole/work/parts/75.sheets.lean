/-! the law's loop: sheets -/
theorem LI_sh {I J : mg_I} (hL : LI I) (hF : ∀ a j, ¬ (114 ≤ a ∧ a ≤ 122) → ¬ (132 ≤ a ∧ a ≤ 134) → ¬ (a = 127 ∨ a = 129 ∨ a = 130 ∨ a = 135 ∨ (a = 124 ∧ ¬ j = 3 ∧ ¬ j = 19)) → J a j = I a j) (hS : lS J) : LI J := by
  obtain ⟨l1, l2, l3, l4, l5, l6⟩ := hL
  have e125 : J 125 = I 125 := funext fun j => hF 125 j (by omega) (by omega) (by omega)
  refine ⟨?_, ?_, fun k h1 h2 => ?_, lM_cg (fun a j h => hF a j (by omega) (by omega) (by omega)) l4, lB_cg (fun a j h => hF a j (by omega) (by omega) (by omega)) l5, hS⟩
  · rw [e125]
    exact RC_cg (fun a j h1 h2 => hF a j (by omega) (by omega) (by omega)) l1
  · rw [e125]; exact l2
  · rw [hF 123 k (by omega) (by omega) (by omega), hF 128 k (by omega) (by omega) (by omega)]; exact l3 k h1 h2
theorem lS_w {I : mg_I} (hS : lS I) : wC I := fun s hs => by
  obtain ⟨-, n, n1, n2, -⟩ := hS s hs
  rw [n2]; exact iR_of (by omega) (by omega)
/-- the model's sheets, over a memory that has its rows -/
def sC (I I1 : mg_I) : Prop := ∀ s, s < 4 → I1 132 s = I 122 s ∧ I1 133 s = I (114 + 2 * s) 1
theorem sC_of {I I1 : mg_I} (hS : lS I) (h : ∀ a j, 132 ≤ a → a ≤ 133 → I1 a j = I a j) : sC I I1 := fun s hs => by
  obtain ⟨e, n, n1, n2, n3, -⟩ := hS s hs
  exact ⟨(h _ _ (by omega) (by omega)).trans e.symm, (h _ _ (by omega) (by omega)).trans (n3.trans n2.symm)⟩
theorem sC_w {I I1 : mg_I} (hS : lS I) (h : sC I I1) : wSh I1 := fun s hs => by
  rw [(h s hs).2]; exact lS_w hS s hs
theorem s4 {s : Int32} (h : 0 ≤ s.toInt ∧ s.toInt ≤ 3) : cl s < 4 := cl_lt h.1 (by omega)
theorem ePut_c {I I1 : mg_I} {s i : Int32} (h : sC I I1) : ePut I1 s i = ePutC I s i := by
  unfold ePut ePutC eShC
  by_cases h1 : 0 ≤ s.toInt ∧ s.toInt ≤ 3
  · obtain ⟨e1, e2⟩ := h (cl s) (s4 h1)
    rw [if_pos h1, if_pos h1, e1, e2]
    by_cases h2 : I 122 (cl s) = 0
    · rw [if_pos h2, if_pos h2, if_neg (by decide)]
    · rw [if_neg h2, if_neg h2, if_pos rfl]
  · rw [if_neg h1, if_neg h1, if_neg (by decide)]
theorem eSh_c {I I1 : mg_I} {s : Int32} (h : sC I I1) : eSh I1 s = eShC I s := by
  unfold eSh eShC
  by_cases h1 : 0 ≤ s.toInt ∧ s.toInt ≤ 3
  · rw [if_pos h1, if_pos h1, (h (cl s) (s4 h1)).1]
  · rw [if_neg h1, if_neg h1]
/-- sheet -/
theorem lsh_m {I : mg_I} {s b n : Int32} : True := trivial
theorem eSheet_0 {s b n : Int32} (h : eSheet s b n = 0) : (0 ≤ s.toInt ∧ s.toInt ≤ 3) ∧ (b = 0 ∨ ∃ k, k ≤ 40 ∧ n = nI k) := by
  unfold eSheet at h
  by_cases h1 : 0 ≤ s.toInt ∧ s.toInt ≤ 3
  · rw [if_pos h1] at h
    refine ⟨h1, ?_⟩
    by_cases h2 : b = 0
    · exact Or.inl h2
    · rw [if_neg h2] at h
      by_cases h3 : b = 8 ∨ b = 16 ∨ b = 32
      · rw [if_pos h3] at h
        by_cases h4 : 0 ≤ n
        · rw [if_pos h4] at h
          by_cases h5 : n ≤ 40
          · have q1 := Int32.le_iff_toInt_le.mp h4
            have q2 := Int32.le_iff_toInt_le.mp h5
            obtain ⟨k, hk, e, -⟩ := iR_nI (x := n) (n := 41) ⟨q1, Int.lt_of_le_of_lt q2 (by decide)⟩
            exact Or.inr ⟨k, by omega, e⟩
          · rw [if_neg h5] at h; exact absurd h (by decide)
        · rw [if_neg h4] at h; exact absurd h (by decide)
      · rw [if_neg h3] at h; exact absurd h (by decide)
  · rw [if_neg h1] at h; exact absurd h (by decide)
theorem LI_sheet {I J : mg_I} {s b n : Int32} (hL : LI I) (hX : mX (jE (if eSheet s b n = 0 then shC I (cl s) b (if b = 0 then 0 else cl n) else mf_up I 123 (eSheet s b n) (I 123 (eSheet s b n) + 1)) (eSheet s b n) (jSheet (if eSheet s b n = 0 then shC I (cl s) b (if b = 0 then 0 else cl n) else mf_up I 123 (eSheet s b n) (I 123 (eSheet s b n) + 1)) (cl s) b n)) J) : LI J := by
  by_cases h : eSheet s b n = 0
  · obtain ⟨h1, h2⟩ := eSheet_0 h
    have hs := s4 h1
    rw [if_pos h, h] at hX
    have hX2 : mX (jSheet (shC I (cl s) b (if b = 0 then 0 else cl n)) (cl s) b n) J := hX
    obtain ⟨k, hk, e1, e2⟩ : ∃ k, k ≤ 40 ∧ (if b = 0 then 0 else cl n) = k ∧ (if b = 0 then 0 else n) = nI k := by
      by_cases hb : b = 0
      · rw [if_pos hb, if_pos hb]; exact ⟨0, by omega, rfl, rfl⟩
      · rw [if_neg hb, if_neg hb]
        obtain ⟨k, k1, rfl⟩ := h2.resolve_left hb
        exact ⟨k, k1, nI_clamp (by omega), rfl⟩
    unfold jSheet at hX2
    rw [e1, e2] at hX2
    generalize cl s = t at hX2 hs
    have jz : ∀ a j, ¬ (a = 134 ∧ 40 * t ≤ j ∧ j < 40 * t + 40) → ¬ (a = 133 ∧ j = t) → ¬ (a = 132 ∧ j = t) → ¬ (a = 127 ∨ a = 129 ∨ a = 130 ∨ a = 135 ∨ (a = 124 ∧ ¬ j = 3 ∧ ¬ j = 19)) → J a j = shC I t b k a j := fun a j q1 q2 q3 q4 => (hX2 a j q4).trans ((if_neg q1).trans ((if_neg q2).trans (if_neg q3)))
    have sz : ∀ a j, ¬ (a = 114 + 2 * t + 1 ∧ j < k) → ¬ (a = 114 + 2 * t ∧ j = 1) → ¬ (a = 122 ∧ j = t) → shC I t b k a j = I a j := fun a j q1 q2 q3 => (if_neg q1).trans ((if_neg q2).trans (mf_ne q3))
    refine LI_sh hL (fun a j q1 q2 q3 => (jz a j (by omega) (by omega) (by omega) q3).trans (sz a j (by omega) (by omega) (by omega))) (fun v hv => ?_)
    by_cases e : v = t
    · subst e
      refine ⟨?_, k, hk, ?_, ?_, fun i hi => ?_⟩
      · rw [jz 122 v (by omega) (by omega) (by omega) (by omega), hX2 132 v (by omega)]
        refine ((if_neg (by omega)).trans ((if_neg (by omega)).trans mf_at)).trans ?_
        exact ((if_neg (by omega)).trans ((if_neg (by omega)).trans (if_pos ⟨rfl, rfl⟩))).symm
      · exact (jz _ 1 (by omega) (by omega) (by omega) (by omega)).trans ((if_neg (by omega)).trans (if_pos ⟨rfl, rfl⟩))
      · exact (hX2 133 v (by omega)).trans ((if_neg (by omega)).trans (if_pos ⟨rfl, rfl⟩))
      · refine ((jz _ i (by omega) (by omega) (by omega) (by omega)).trans (if_pos ⟨rfl, hi⟩)).trans ?_
        exact ((hX2 134 (40 * v + i) (by omega)).trans (if_pos ⟨rfl, by omega, by omega⟩)).symm
    · exact sK_cg ((jz _ _ (by omega) (by omega) (by omega) (by omega)).trans (sz _ _ (by omega) (by omega) (by omega))) ((jz _ _ (by omega) (by omega) (by omega) (by omega)).trans (sz _ _ (by omega) (by omega) (by omega))) ((jz _ _ (by omega) (by omega) (by omega) (by omega)).trans (sz _ _ (by omega) (by omega) (by omega))) ((jz _ _ (by omega) (by omega) (by omega) (by omega)).trans (sz _ _ (by omega) (by omega) (by omega))) (fun i => (jz _ _ (by omega) (by omega) (by omega) (by omega)).trans (sz _ _ (by omega) (by omega) (by omega))) (fun i hi => (jz _ _ (by omega) (by omega) (by omega) (by omega)).trans (sz _ _ (by omega) (by omega) (by omega))) (hL.2.2.2.2.2 v hv)
  · rw [if_neg h] at hX
    exact LI_e (e := eSheet s b n) h hL rfl (by rw [show jE _ (eSheet s b n) _ = mf_up _ 128 (eSheet s b n) _ from if_neg h] at hX; exact hX)
/-- put -/
def puM (I : mg_I) (s i x : Int32) : mg_I := if ePutC I s i = 0 then mf_up I (114 + 2 * cl s + 1) (cl i) (fLow (I 122 (cl s)) x) else mf_up I 123 (ePutC I s i) (I 123 (ePutC I s i) + 1)
theorem ePutC_0 {I : mg_I} {s i : Int32} (h : ePutC I s i = 0) : (0 ≤ s.toInt ∧ s.toInt ≤ 3) ∧ 0 ≤ i.toInt ∧ i.toInt < (cl (I (114 + 2 * cl s) 1) : Int) := by
  unfold ePutC at h
  by_cases h1 : eShC I s = 0
  · rw [if_pos h1] at h
    refine ⟨(eShC_0 h1).1, ?_⟩
    by_cases h2 : 0 ≤ i.toInt ∧ i.toInt < (cl (I (114 + 2 * cl s) 1) : Int)
    · exact h2
    · rw [if_neg h2] at h; exact absurd h (by decide)
  · rw [if_neg h1] at h; exact absurd h h1
theorem puM_r {I : mg_I} {s i x : Int32} {a j : Nat} (h1 : 123 < a) : puM I s i x a j = I a j := by
  unfold puM
  split
  next h =>
    have hs := s4 (ePutC_0 h).1
    exact mf_ne (by omega)
  · exact mf_ne (by omega)
theorem LI_put {I J : mg_I} {s i x : Int32} (hL : LI I) (hX : mX (jE (puM I s i x) (ePut (puM I s i x) s i) (jPut (puM I s i x) s i x)) J) : LI J := by
  have hS := hL.2.2.2.2.2
  rw [ePut_c (sC_of hS (fun a j q1 q2 => puM_r (by omega)))] at hX
  by_cases h : ePutC I s i = 0
  · obtain ⟨h1, h2⟩ := ePutC_0 h
    have hs := s4 h1
    rw [h] at hX
    have hX2 : mX (jPut (puM I s i x) s i x) J := hX
    unfold jPut at hX2
    rw [puM_r (by omega), ← (hS _ hs).1] at hX2
    rw [show puM I s i x = mf_up I (114 + 2 * cl s + 1) (cl i) (fLow (I 122 (cl s)) x) from if_pos h] at hX2
    obtain ⟨-, n, n1, n2, n3, n4⟩ := hS _ hs
    have hc : cl (I (114 + 2 * cl s) 1) = n := by rw [n2]; exact nI_clamp (by omega)
    rw [hc] at h2
    have hi := cl_lt h2.1 h2.2
    generalize fLow (I 122 (cl s)) x = y at hX2
    generalize cl s = t at hX2 hs n2 n3 n4
    generalize cl i = p at hX2 hi
    have jz : ∀ a j, ¬ (a = 134 ∧ j = 40 * t + p) → ¬ (a = 114 + 2 * t + 1 ∧ j = p) → ¬ (a = 127 ∨ a = 129 ∨ a = 130 ∨ a = 135 ∨ (a = 124 ∧ ¬ j = 3 ∧ ¬ j = 19)) → J a j = I a j := fun a j q1 q2 q3 => (hX2 a j q3).trans ((mf_ne q1).trans (mf_ne q2))
    refine LI_sh hL (fun a j q1 q2 q3 => jz a j (by omega) (by omega) q3) (fun v hv => ?_)
    by_cases e : v = t
    · subst e
      refine ⟨?_, n, n1, ?_, ?_, fun k hk => ?_⟩
      · rw [jz 122 v (by omega) (by omega) (by omega), jz 132 v (by omega) (by omega) (by omega)]; exact (hS v hv).1
      · exact (jz _ 1 (by omega) (by omega) (by omega)).trans n2
      · exact (jz 133 v (by omega) (by omega) (by omega)).trans n3
      · by_cases q : k = p
        · subst q
          rw [hX2 (114 + 2 * v + 1) k (by omega), hX2 134 (40 * v + k) (by omega), mf_at, mf_ne (by omega), mf_at]
        · rw [jz (114 + 2 * v + 1) k (by omega) (by omega) (by omega), jz 134 (40 * v + k) (by omega) (by omega) (by omega)]
          exact n4 k hk
    · exact sK_cg (jz _ _ (by omega) (by omega) (by omega)) (jz _ _ (by omega) (by omega) (by omega)) (jz _ _ (by omega) (by omega) (by omega)) (jz _ _ (by omega) (by omega) (by omega)) (fun k => jz _ _ (by omega) (by omega) (by omega)) (fun k hk => jz _ _ (by omega) (by omega) (by omega)) (hS v hv)
  · refine LI_e (e := ePutC I s i) (I1 := puM I s i x) h hL (if_neg h) ?_
    rw [show jE (puM I s i x) (ePutC I s i) (jPut (puM I s i x) s i x) = mf_up (puM I s i x) 128 (ePutC I s i) (puM I s i x 128 (ePutC I s i) + 1) from if_neg h] at hX
    exact hX
/-- move -/
def mvM (I : mg_I) (s i o j n : Int32) : mg_I := if eMoveC I s i o j n = 0 then pR I (114 + 2 * cl o) (114 + 2 * cl s) (cl j) (cl i) (cl n) else mf_up I 123 (eMoveC I s i o j n) (I 123 (eMoveC I s i o j n) + 1)
theorem mvI {a : Nat} {i n : Int32} (ha : a ≤ 40) (h0 : 0 ≤ i.toInt) : nI a - i < n ↔ ¬ i.toInt + n.toInt ≤ (a : Int) := by
  rw [Int32.lt_iff_toInt_lt, sub_toInt0 (by omega) h0]
  omega
theorem eMove_c {I I1 : mg_I} {s i o j n : Int32} (hS : lS I) (h : sC I I1) : eMove I1 s i o j n = eMoveC I s i o j n := by
  unfold eMove eMoveC
  by_cases h1 : 0 ≤ s.toInt ∧ s.toInt ≤ 3
  · by_cases h2 : 0 ≤ o.toInt ∧ o.toInt ≤ 3
    · obtain ⟨e1, e2⟩ := h (cl s) (s4 h1)
      obtain ⟨e3, e4⟩ := h (cl o) (s4 h2)
      obtain ⟨-, a, a1, a2, -⟩ := hS (cl s) (s4 h1)
      obtain ⟨-, b, b1, b2, -⟩ := hS (cl o) (s4 h2)
      rw [if_pos h1, if_pos h1, if_pos h2, if_pos h2, e1, e2, e3, e4, a2, b2, show cl (nI a) = a from nI_clamp (by omega), show cl (nI b) = b from nI_clamp (by omega)]
      refine congrArg (fun z => if I 122 (cl s) = 0 then 2 else if I 122 (cl o) = 0 then 2 else if I 122 (cl s) = I 122 (cl o) then z else 5) ?_
      have t0 : ∀ x : Int32, x < 0 ↔ x.toInt < 0 := fun x => by rw [Int32.lt_iff_toInt_lt]; exact Iff.rfl
      by_cases q1 : n < 0
      · have := (t0 n).mp q1
        rw [if_pos q1, if_neg (by omega)]
      · have r1 : ¬ n.toInt < 0 := fun z => q1 ((t0 n).mpr z)
        rw [if_neg q1]
        by_cases q2 : i < 0
        · have := (t0 i).mp q2
          rw [if_pos q2, if_neg (by omega)]
        · have r2 : ¬ i.toInt < 0 := fun z => q2 ((t0 i).mpr z)
          rw [if_neg q2]
          by_cases q3 : j < 0
          · have := (t0 j).mp q3
            rw [if_pos q3]
            split
            · rw [if_neg (by omega)]
            · rfl
          · have r3 : ¬ j.toInt < 0 := fun z => q3 ((t0 j).mpr z)
            rw [if_neg q3]
            have m1 := mvI (n := n) a1 (show 0 ≤ i.toInt by omega)
            have m2 := mvI (n := n) b1 (show 0 ≤ j.toInt by omega)
            by_cases q4 : nI a - i < n
            · have := m1.mp q4
              rw [if_pos q4, if_neg (by omega)]
            · have r4 : i.toInt + n.toInt ≤ (a : Int) := Decidable.byContradiction fun z => q4 (m1.mpr z)
              rw [if_neg q4, if_pos (c := 0 ≤ i.toInt ∧ 0 ≤ n.toInt ∧ i.toInt + n.toInt ≤ (a : Int)) ⟨by omega, by omega, r4⟩]
              by_cases q5 : n ≤ nI b - j
              · have r5 : j.toInt + n.toInt ≤ (b : Int) := Decidable.byContradiction fun z => absurd (m2.mpr z) (Int32.not_lt.mpr q5)
                rw [if_pos q5, if_pos (c := 0 ≤ j.toInt ∧ 0 ≤ n.toInt ∧ j.toInt + n.toInt ≤ (b : Int)) ⟨by omega, by omega, r5⟩]
              · have := m2.mp (Int32.not_le.mp q5)
                rw [if_neg q5, if_neg (by omega)]
    · rw [if_pos h1, if_pos h1, if_neg h2, if_neg h2]
  · rw [if_neg h1, if_neg h1]
theorem eMoveC_0 {I : mg_I} {s i o j n : Int32} (h : eMoveC I s i o j n = 0) : ((0 ≤ s.toInt ∧ s.toInt ≤ 3) ∧ (0 ≤ o.toInt ∧ o.toInt ≤ 3)) ∧ (0 ≤ i.toInt ∧ 0 ≤ n.toInt ∧ i.toInt + n.toInt ≤ (cl (I (114 + 2 * cl s) 1) : Int)) ∧ (0 ≤ j.toInt ∧ 0 ≤ n.toInt ∧ j.toInt + n.toInt ≤ (cl (I (114 + 2 * cl o) 1) : Int)) := by
  unfold eMoveC at h
  by_cases h1 : 0 ≤ s.toInt ∧ s.toInt ≤ 3
  · rw [if_pos h1] at h
    by_cases h2 : 0 ≤ o.toInt ∧ o.toInt ≤ 3
    · rw [if_pos h2] at h
      by_cases h3 : I 122 (cl s) = 0
      · rw [if_pos h3] at h; exact absurd h (by decide)
      · rw [if_neg h3] at h
        by_cases h4 : I 122 (cl o) = 0
        · rw [if_pos h4] at h; exact absurd h (by decide)
        · rw [if_neg h4] at h
          by_cases h5 : I 122 (cl s) = I 122 (cl o)
          · rw [if_pos h5] at h
            by_cases h6 : 0 ≤ i.toInt ∧ 0 ≤ n.toInt ∧ i.toInt + n.toInt ≤ (cl (I (114 + 2 * cl s) 1) : Int)
            · rw [if_pos h6] at h
              by_cases h7 : 0 ≤ j.toInt ∧ 0 ≤ n.toInt ∧ j.toInt + n.toInt ≤ (cl (I (114 + 2 * cl o) 1) : Int)
              · exact ⟨⟨h1, h2⟩, h6, h7⟩
              · rw [if_neg h7] at h; exact absurd h (by decide)
            · rw [if_neg h6] at h; exact absurd h (by decide)
          · rw [if_neg h5] at h; exact absurd h (by decide)
    · rw [if_neg h2] at h; exact absurd h (by decide)
  · rw [if_neg h1] at h; exact absurd h (by decide)
theorem mvM_r {I : mg_I} {s i o j n : Int32} {a k : Nat} (h1 : 123 < a) : mvM I s i o j n a k = I a k := by
  unfold mvM
  split
  next h =>
    have hs := s4 (eMoveC_0 h).1.2
    exact if_neg (by omega)
  · exact mf_ne (by omega)
theorem LI_move {I J : mg_I} {s i o j n : Int32} (hL : LI I) (hX : mX (jE (mvM I s i o j n) (eMove (mvM I s i o j n) s i o j n) (jMove (mvM I s i o j n) (cl s) (cl i) (cl o) (cl j) (cl n))) J) : LI J := by
  have hS := hL.2.2.2.2.2
  rw [eMove_c hS (sC_of hS (fun a j q1 q2 => mvM_r (by omega)))] at hX
  by_cases h : eMoveC I s i o j n = 0
  · obtain ⟨⟨h1, h2⟩, h3, h4⟩ := eMoveC_0 h
    have hs := s4 h1
    have ho := s4 h2
    rw [h] at hX
    have hX2 : mX (jMove (mvM I s i o j n) (cl s) (cl i) (cl o) (cl j) (cl n)) J := hX
    obtain ⟨-, a, a1, a2, a3, a4⟩ := hS _ hs
    obtain ⟨-, b, b1, b2, b3, b4⟩ := hS _ ho
    rw [a2, show cl (nI a) = a from nI_clamp (by omega)] at h3
    rw [b2, show cl (nI b) = b from nI_clamp (by omega)] at h4
    obtain ⟨ii, hii, rfl, ci⟩ := iR_nI (x := i) (n := 41) ⟨by omega, by omega⟩
    obtain ⟨jj, hjj, rfl, cj⟩ := iR_nI (x := j) (n := 41) ⟨by omega, by omega⟩
    obtain ⟨nn, hnn, rfl, cn⟩ := iR_nI (x := n) (n := 41) ⟨by omega, by omega⟩
    rw [nI_toInt (by omega), nI_toInt (by omega)] at h3 h4
    rw [show mvM I s (nI ii) o (nI jj) (nI nn) = pR I (114 + 2 * cl o) (114 + 2 * cl s) (cl (nI jj)) (cl (nI ii)) (cl (nI nn)) from if_pos h, show cl (nI ii) = ii from ci, show cl (nI jj) = jj from cj, show cl (nI nn) = nn from cn] at hX2
    generalize cl s = t at hX2 hs a2 a3 a4
    generalize cl o = v at hX2 ho b2 b3 b4
    have jm : ∀ c k, ¬ (c = 134 ∧ 40 * v + jj ≤ k ∧ k < 40 * v + jj + nn) → ¬ (c = 114 + 2 * v + 1 ∧ jj ≤ k ∧ k < jj + nn) → ¬ (c = 127 ∨ c = 129 ∨ c = 130 ∨ c = 135 ∨ (c = 124 ∧ ¬ k = 3 ∧ ¬ k = 19)) → J c k = I c k := fun c k q1 q2 q3 => (hX2 c k q3).trans ((if_neg q1).trans (if_neg q2))
    refine LI_sh hL (fun c k q1 q2 q3 => jm c k (by omega) (by omega) q3) (fun u hu => ?_)
    by_cases e : u = v
    · subst e
      refine ⟨?_, b, b1, ?_, ?_, fun k hk => ?_⟩
      · rw [jm 122 u (by omega) (by omega) (by omega), jm 132 u (by omega) (by omega) (by omega)]; exact (hS u hu).1
      · exact (jm _ 1 (by omega) (by omega) (by omega)).trans b2
      · exact (jm 133 u (by omega) (by omega) (by omega)).trans b3
      · by_cases q : jj ≤ k ∧ k < jj + nn
        · have e1 : J (114 + 2 * u + 1) k = I (114 + 2 * t + 1) (ii + (k - jj)) := (hX2 _ _ (by omega)).trans ((if_neg (by omega)).trans (if_pos ⟨rfl, q.1, q.2⟩))
          have e2 : J 134 (40 * u + k) = I 134 (40 * t + ii + (40 * u + k - (40 * u + jj))) := (hX2 _ _ (by omega)).trans ((if_pos ⟨rfl, by omega, by omega⟩).trans (if_neg (by omega)))
          rw [e1, e2, a4 (ii + (k - jj)) (by omega), show 40 * t + ii + (40 * u + k - (40 * u + jj)) = 40 * t + (ii + (k - jj)) by omega]
        · rw [jm (114 + 2 * u + 1) k (by omega) (by omega) (by omega), jm 134 (40 * u + k) (by omega) (by omega) (by omega)]
          exact b4 k hk
    · exact sK_cg (jm _ _ (by omega) (by omega) (by omega)) (jm _ _ (by omega) (by omega) (by omega)) (jm _ _ (by omega) (by omega) (by omega)) (jm _ _ (by omega) (by omega) (by omega)) (fun k => jm _ _ (by omega) (by omega) (by omega)) (fun k hk => jm _ _ (by omega) (by omega) (by omega)) (hS u hu)
  · refine LI_e (e := eMoveC I s i o j n) (I1 := mvM I s i o j n) h hL (if_neg h) ?_
    rw [show jE (mvM I s i o j n) (eMoveC I s i o j n) (jMove (mvM I s i o j n) (cl s) (cl i) (cl o) (cl j) (cl n)) = mf_up (mvM I s i o j n) 128 (eMoveC I s i o j n) (mvM I s i o j n 128 (eMoveC I s i o j n) + 1) from if_neg h] at hX
    exact hX
set_option maxRecDepth 20000 in
theorem lw_op24 {L i d nm : Nat} {xs : Nat → Int32} {I : mg_I} {Q : Option Value → mg_I → Nat → Prop} (hd : 60 ≤ d) (hi : i + 6 ≤ L) (hL3 : L ≤ 3072) (hL : LI I) (hk : lk L xs d i Q) : GG (mi_sc L xs) 13 false true mi_k231 d 920 [.ref 0, .ref 5, .ref 124, .int (nI i)] [] I nm Q := by
  have hC := hL.1
  have hg := hL.2.1
  have hw := hg.1
  have hv := hg.2.1
  have hm1 := hg.2.2.1
  have hS := hg.2.2.2.1
  have hLd := hg.2.2.2.2.1
  have h6 := hg.2.2.2.2.2.1
  have h7 := hg.2.2.2.2.2.2.1
  have hb := hg.2.2.2.2.2.2.2.1
  have hN := hw.1.1
  have h5 := hw.2.2.2
  refine g_aload_n (n := 921) rfl rfl ?_
  refine g_aload_n (n := 922) rfl rfl ?_
  refine g_iload_n (n := 923) rfl rfl ?_
  refine g_iconst (n := 924) (v := 1) rfl rfl ?_
  refine g_iaddN (n := 925) (x := i) (y := 1) rfl ?_
  refine g_sld (n := 926) ((i + 1)) rfl (by omega) (by omega) ?_
  refine g_aload_n (n := 927) rfl rfl ?_
  refine g_iload_n (n := 928) rfl rfl ?_
  refine g_iconst (n := 929) (v := 2) rfl rfl ?_
  refine g_iaddN (n := 930) (x := i) (y := 2) rfl ?_
  refine g_sld (n := 931) ((i + 2)) rfl (by omega) (by omega) ?_
  refine g_aload_n (n := 932) rfl rfl ?_
  refine g_iload_n (n := 933) rfl rfl ?_
  refine g_iconst (n := 934) (v := 3) rfl rfl ?_
  refine g_iaddN (n := 935) (x := i) (y := 3) rfl ?_
  refine g_sld (n := 936) ((i + 3)) rfl (by omega) (by omega) ?_
  refine g_cv3 (n := 939) (t := 115) (ci := 11) rfl (by decide +kernel) (by decide +kernel) (by decide) (by decide) (by decide +kernel) (by rfl) (c_kShS) (by omega) (g_E ?_)
  refine g_aload_n (n := 940) rfl rfl ?_
  refine g_aload_n (n := 941) rfl rfl ?_
  refine g_iload_n (n := 942) rfl rfl ?_
  refine g_iconst (n := 943) (v := 1) rfl rfl ?_
  refine g_iaddN (n := 944) (x := i) (y := 1) rfl ?_
  refine g_sld (n := 945) ((i + 1)) rfl (by omega) (by omega) ?_
  refine g_aload_n (n := 946) rfl rfl ?_
  refine g_iload_n (n := 947) rfl rfl ?_
  refine g_iconst (n := 948) (v := 2) rfl rfl ?_
  refine g_iaddN (n := 949) (x := i) (y := 2) rfl ?_
  refine g_sld (n := 950) ((i + 2)) rfl (by omega) (by omega) ?_
  refine g_aload_n (n := 951) rfl rfl ?_
  refine g_iload_n (n := 952) rfl rfl ?_
  refine g_iconst (n := 953) (v := 3) rfl rfl ?_
  refine g_iaddN (n := 954) (x := i) (y := 3) rfl ?_
  refine g_sld (n := 955) ((i + 3)) rfl (by omega) (by omega) ?_
  refine g_cv3 (n := 958) (t := 220) (ci := 12) rfl (by decide +kernel) (by decide +kernel) (by decide) (by decide) (by decide +kernel) (by rfl) (c_sheet) (by omega) (lw_S fun J hX => ?_)
  refine g_iceq (n := 961) 1223 rfl (by decide) (fun _ => ?_) (fun h => absurd rfl h)
  exact hk J _ (LI_sheet hL hX)
set_option maxRecDepth 20000 in
theorem lw_op25 {L i d nm : Nat} {xs : Nat → Int32} {I : mg_I} {Q : Option Value → mg_I → Nat → Prop} (hd : 60 ≤ d) (hi : i + 6 ≤ L) (hL3 : L ≤ 3072) (hL : LI I) (hk : lk L xs d i Q) : GG (mi_sc L xs) 13 false true mi_k231 d 963 [.ref 0, .ref 5, .ref 124, .int (nI i)] [] I nm Q := by
  have hC := hL.1
  have hg := hL.2.1
  have hw := hg.1
  have hv := hg.2.1
  have hm1 := hg.2.2.1
  have hS := hg.2.2.2.1
  have hLd := hg.2.2.2.2.1
  have h6 := hg.2.2.2.2.2.1
  have h7 := hg.2.2.2.2.2.2.1
  have hb := hg.2.2.2.2.2.2.2.1
  have hN := hw.1.1
  have h5 := hw.2.2.2
  refine g_aload_n (n := 964) rfl rfl ?_
  refine g_aload_n (n := 965) rfl rfl ?_
  refine g_iload_n (n := 966) rfl rfl ?_
  refine g_iconst (n := 967) (v := 1) rfl rfl ?_
  refine g_iaddN (n := 968) (x := i) (y := 1) rfl ?_
  refine g_sld (n := 969) ((i + 1)) rfl (by omega) (by omega) ?_
  refine g_aload_n (n := 970) rfl rfl ?_
  refine g_iload_n (n := 971) rfl rfl ?_
  refine g_iconst (n := 972) (v := 2) rfl rfl ?_
  refine g_iaddN (n := 973) (x := i) (y := 2) rfl ?_
  refine g_sld (n := 974) ((i + 2)) rfl (by omega) (by omega) ?_
  refine g_aload_n (n := 975) rfl rfl ?_
  refine g_iload_n (n := 976) rfl rfl ?_
  refine g_iconst (n := 977) (v := 3) rfl rfl ?_
  refine g_iaddN (n := 978) (x := i) (y := 3) rfl ?_
  refine g_sld (n := 979) ((i + 3)) rfl (by omega) (by omega) ?_
  refine g_cv3 (n := 982) (t := 116) (ci := 11) rfl (by decide +kernel) (by decide +kernel) (by decide) (by decide) (by decide +kernel) (by rfl) (show SP _ _ _ _ _ _ (qE _ (puM I _ _ _) _) from c_kPut (lS_w hL.2.2.2.2.2)) (by omega) (g_E ?_)
  refine g_aload_n (n := 983) rfl rfl ?_
  refine g_aload_n (n := 984) rfl rfl ?_
  refine g_iload_n (n := 985) rfl rfl ?_
  refine g_iconst (n := 986) (v := 1) rfl rfl ?_
  refine g_iaddN (n := 987) (x := i) (y := 1) rfl ?_
  refine g_sld (n := 988) ((i + 1)) rfl (by omega) (by omega) ?_
  refine g_aload_n (n := 989) rfl rfl ?_
  refine g_iload_n (n := 990) rfl rfl ?_
  refine g_iconst (n := 991) (v := 2) rfl rfl ?_
  refine g_iaddN (n := 992) (x := i) (y := 2) rfl ?_
  refine g_sld (n := 993) ((i + 2)) rfl (by omega) (by omega) ?_
  refine g_aload_n (n := 994) rfl rfl ?_
  refine g_iload_n (n := 995) rfl rfl ?_
  refine g_iconst (n := 996) (v := 3) rfl rfl ?_
  refine g_iaddN (n := 997) (x := i) (y := 3) rfl ?_
  refine g_sld (n := 998) ((i + 3)) rfl (by omega) (by omega) ?_
  refine g_cv3 (n := 1001) (t := 221) (ci := 12) rfl (by decide +kernel) (by decide +kernel) (by decide) (by decide) (by decide +kernel) (by rfl) (c_put (sC_w hL.2.2.2.2.2 (sC_of hL.2.2.2.2.2 (fun a j q1 q2 => puM_r (by omega))))) (by omega) (lw_S fun J hX => ?_)
  refine g_iceq (n := 1004) 1223 rfl (by decide) (fun _ => ?_) (fun h => absurd (congrArg (fun e => vE e 1) (ePut_c (sC_of hL.2.2.2.2.2 (fun a j q1 q2 => puM_r (by omega)))).symm) h)
  exact hk J _ (LI_put hL hX)
set_option maxRecDepth 20000 in
theorem lw_op26 {L i d nm : Nat} {xs : Nat → Int32} {I : mg_I} {Q : Option Value → mg_I → Nat → Prop} (hd : 60 ≤ d) (hi : i + 6 ≤ L) (hL3 : L ≤ 3072) (hL : LI I) (hk : lk L xs d i Q) : GG (mi_sc L xs) 13 false true mi_k231 d 1006 [.ref 0, .ref 5, .ref 124, .int (nI i)] [] I nm Q := by
  have hC := hL.1
  have hg := hL.2.1
  have hw := hg.1
  have hv := hg.2.1
  have hm1 := hg.2.2.1
  have hS := hg.2.2.2.1
  have hLd := hg.2.2.2.2.1
  have h6 := hg.2.2.2.2.2.1
  have h7 := hg.2.2.2.2.2.2.1
  have hb := hg.2.2.2.2.2.2.2.1
  have hN := hw.1.1
  have h5 := hw.2.2.2
  refine g_aload_n (n := 1007) rfl rfl ?_
  refine g_aload_n (n := 1008) rfl rfl ?_
  refine g_iload_n (n := 1009) rfl rfl ?_
  refine g_iconst (n := 1010) (v := 1) rfl rfl ?_
  refine g_iaddN (n := 1011) (x := i) (y := 1) rfl ?_
  refine g_sld (n := 1012) ((i + 1)) rfl (by omega) (by omega) ?_
  refine g_aload_n (n := 1013) rfl rfl ?_
  refine g_iload_n (n := 1014) rfl rfl ?_
  refine g_iconst (n := 1015) (v := 2) rfl rfl ?_
  refine g_iaddN (n := 1016) (x := i) (y := 2) rfl ?_
  refine g_sld (n := 1017) ((i + 2)) rfl (by omega) (by omega) ?_
  refine g_aload_n (n := 1018) rfl rfl ?_
  refine g_iload_n (n := 1019) rfl rfl ?_
  refine g_iconst (n := 1020) (v := 3) rfl rfl ?_
  refine g_iaddN (n := 1021) (x := i) (y := 3) rfl ?_
  refine g_sld (n := 1022) ((i + 3)) rfl (by omega) (by omega) ?_
  refine g_aload_n (n := 1023) rfl rfl ?_
  refine g_iload_n (n := 1024) rfl rfl ?_
  refine g_iconst (n := 1025) (v := 4) rfl rfl ?_
  refine g_iaddN (n := 1026) (x := i) (y := 4) rfl ?_
  refine g_sld (n := 1027) ((i + 4)) rfl (by omega) (by omega) ?_
  refine g_aload_n (n := 1028) rfl rfl ?_
  refine g_iload_n (n := 1029) rfl rfl ?_
  refine g_iconst (n := 1030) (v := 5) rfl rfl ?_
  refine g_iaddN (n := 1031) (x := i) (y := 5) rfl ?_
  refine g_sld (n := 1032) ((i + 5)) rfl (by omega) (by omega) ?_
  refine g_cv5 (n := 1035) (t := 117) (ci := 11) rfl (by decide +kernel) (by decide +kernel) (by decide) (by decide) (by decide +kernel) (by rfl) (show SP _ _ _ _ _ _ (qE _ (mvM I _ _ _ _ _) _) from c_kMove (lS_w hL.2.2.2.2.2)) (by omega) (g_E ?_)
  refine g_aload_n (n := 1036) rfl rfl ?_
  refine g_aload_n (n := 1037) rfl rfl ?_
  refine g_iload_n (n := 1038) rfl rfl ?_
  refine g_iconst (n := 1039) (v := 1) rfl rfl ?_
  refine g_iaddN (n := 1040) (x := i) (y := 1) rfl ?_
  refine g_sld (n := 1041) ((i + 1)) rfl (by omega) (by omega) ?_
  refine g_aload_n (n := 1042) rfl rfl ?_
  refine g_iload_n (n := 1043) rfl rfl ?_
  refine g_iconst (n := 1044) (v := 2) rfl rfl ?_
  refine g_iaddN (n := 1045) (x := i) (y := 2) rfl ?_
  refine g_sld (n := 1046) ((i + 2)) rfl (by omega) (by omega) ?_
  refine g_aload_n (n := 1047) rfl rfl ?_
  refine g_iload_n (n := 1048) rfl rfl ?_
  refine g_iconst (n := 1049) (v := 3) rfl rfl ?_
  refine g_iaddN (n := 1050) (x := i) (y := 3) rfl ?_
  refine g_sld (n := 1051) ((i + 3)) rfl (by omega) (by omega) ?_
  refine g_aload_n (n := 1052) rfl rfl ?_
  refine g_iload_n (n := 1053) rfl rfl ?_
  refine g_iconst (n := 1054) (v := 4) rfl rfl ?_
  refine g_iaddN (n := 1055) (x := i) (y := 4) rfl ?_
  refine g_sld (n := 1056) ((i + 4)) rfl (by omega) (by omega) ?_
  refine g_aload_n (n := 1057) rfl rfl ?_
  refine g_iload_n (n := 1058) rfl rfl ?_
  refine g_iconst (n := 1059) (v := 5) rfl rfl ?_
  refine g_iaddN (n := 1060) (x := i) (y := 5) rfl ?_
  refine g_sld (n := 1061) ((i + 5)) rfl (by omega) (by omega) ?_
  refine g_cv5 (n := 1064) (t := 222) (ci := 12) rfl (by decide +kernel) (by decide +kernel) (by decide) (by decide) (by decide +kernel) (by rfl) (c_move (sC_w hL.2.2.2.2.2 (sC_of hL.2.2.2.2.2 (fun a j q1 q2 => mvM_r (by omega))))) (by omega) (lw_S fun J hX => ?_)
  refine g_iceq (n := 1067) 1223 rfl (by decide) (fun _ => ?_) (fun h => absurd (congrArg (fun e => vE e (xs (i + 5))) (eMove_c hL.2.2.2.2.2 (sC_of hL.2.2.2.2.2 (fun a j q1 q2 => mvM_r (by omega)))).symm) h)
  exact hk J _ (LI_move hL hX)
