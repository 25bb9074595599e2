/-! the law's loop: what holds at its head, and stays -/
def lM (I : mg_I) : Prop := aK I 74 ∧ I 5 4 = I 124 3 ∧ (¬ I 5 4 = 0 → rK I 74 (I 126) ∧ tW I 74 (I 126) ∧ gI (I 126))
def lB (I : mg_I) : Prop := ∃ T, T ≤ 40 ∧ I 111 1 = nI T ∧ I 124 19 = nI T ∧ ∀ k, k < T → I 112 k = I 131 k
def sK (I : mg_I) (s : Nat) : Prop := I 122 s = I 132 s ∧ ∃ n, n ≤ 40 ∧ I (114 + 2 * s) 1 = nI n ∧ I 133 s = nI n ∧ ∀ i, i < n → I (114 + 2 * s + 1) i = I 134 (40 * s + i)
def lS (I : mg_I) : Prop := ∀ s, s < 4 → sK I s
def lE (I : mg_I) : Prop := ∀ k, 1 ≤ k → k < 6 → I 123 k = I 128 k
def LI (I : mg_I) : Prop := RC I (I 125) ∧ gI (I 125) ∧ lE I ∧ lM I ∧ lB I ∧ lS I
theorem lM_cg {I J : mg_I} (h : ∀ a j, (a = 5 ∧ j = 4) ∨ (74 ≤ a ∧ a < 104) ∨ (a = 124 ∧ j = 3) ∨ a = 126 → J a j = I a j) (hM : lM I) : lM J := by
  obtain ⟨m1, m2, m3⟩ := hM
  have e126 : J 126 = I 126 := funext fun j => h _ _ (by omega)
  refine ⟨aK_cg (fun a j h1 h2 => h a j (by omega)) m1, by rw [h 5 4 (by omega), h 124 3 (by omega)]; exact m2, fun q => ?_⟩
  rw [h 5 4 (by omega)] at q
  obtain ⟨c1, c2, c3⟩ := m3 q
  rw [e126]
  exact ⟨rK_cg (fun a j h1 h2 => h a j (by omega)) c1, tW_of (fun a j h1 h2 => h a j (by omega)) (fun _ _ => rfl) c2, c3⟩
theorem lB_cg {I J : mg_I} (h : ∀ a j, (a = 111 ∧ j = 1) ∨ a = 112 ∨ (a = 124 ∧ j = 19) ∨ a = 131 → J a j = I a j) (hB : lB I) : lB J := by
  obtain ⟨T, t1, t2, t3, t4⟩ := hB
  exact ⟨T, t1, (h _ _ (by omega)).trans t2, (h _ _ (by omega)).trans t3, fun k hk => (h _ _ (by omega)).trans ((t4 k hk).trans (h _ _ (by omega)).symm)⟩
theorem sK_cg {I J : mg_I} {s : Nat} (h1 : J 122 s = I 122 s) (h2 : J 132 s = I 132 s) (h3 : J (114 + 2 * s) 1 = I (114 + 2 * s) 1) (h4 : J 133 s = I 133 s) (h5 : ∀ i, J (114 + 2 * s + 1) i = I (114 + 2 * s + 1) i) (h6 : ∀ i, i < 40 → J 134 (40 * s + i) = I 134 (40 * s + i)) (hS : sK I s) : sK J s := by
  obtain ⟨e, n, n1, n2, n3, n4⟩ := hS
  exact ⟨h1.trans (e.trans h2.symm), n, n1, h3.trans n2, h4.trans n3, fun i hi => (h5 i).trans ((n4 i hi).trans (h6 i (by omega)).symm)⟩
theorem lS_cg {I J : mg_I} (h : ∀ a j, (114 ≤ a ∧ a ≤ 122) ∨ (132 ≤ a ∧ a ≤ 134) → J a j = I a j) (hS : lS I) : lS J :=
  fun s hs => sK_cg (h _ _ (by omega)) (h _ _ (by omega)) (h _ _ (by omega)) (h _ _ (by omega)) (fun i => h _ _ (by omega)) (fun i _ => h _ _ (by omega)) (hS s hs)
theorem kE_o {I : mg_I} {e a j : Nat} (h : a ≠ 123) : kE I e a j = I a j := by
  unfold kE
  split
  · rfl
  · exact mf_ne (by omega)
theorem fEr_o {I : mg_I} {e a j : Nat} (h : a ≠ 128) : fEr I e a j = I a j := by
  unfold fEr
  split
  · rfl
  · exact mf_ne (by omega)
theorem lE_k {I I1 : mg_I} {e k : Nat} (hE : lE I) (h128 : ∀ j, I1 128 j = I 128 j) (h1 : 1 ≤ k) (h2 : k < 6) : kE I e 123 k = fEr I1 e 128 k := by
  unfold kE fEr
  by_cases h : e = 0
  · rw [if_pos h, if_pos h, h128]; exact hE k h1 h2
  · rw [if_neg h, if_neg h]
    by_cases q : k = e
    · subst q; rw [mf_at, mf_at, h128, hE k h1 h2]
    · rw [mf_ne (by omega), mf_ne (by omega), h128]; exact hE k h1 h2
theorem LI_o {I I1 J : mg_I} {p : rD} (hL : LI I) (hC : RC I1 p.2.2) (hF : cF (kE I p.1) I1) (hX : mX (mR (fEr I1 p.1) p.2.2) J) (hg : gI p.2.2) : LI J := by
  obtain ⟨l1, l2, l3, l4, l5, l6⟩ := hL
  have e125 : J 125 = p.2.2 := funext fun j => (hX 125 j (by omega)).trans (if_pos rfl)
  have k1 : ∀ a j, a ≠ 125 → ¬ (a = 127 ∨ a = 129 ∨ a = 130 ∨ a = 135 ∨ (a = 124 ∧ ¬ j = 3 ∧ ¬ j = 19)) → J a j = fEr I1 p.1 a j := fun a j h1 h2 => (hX a j h2).trans (if_neg h1)
  have key : ∀ a j, (a < 14 ∨ (74 ≤ a ∧ a < 104) ∨ 111 ≤ a) → a ≠ 123 → a ≠ 125 → a ≠ 128 → ¬ (a = 127 ∨ a = 129 ∨ a = 130 ∨ a = 135 ∨ (a = 124 ∧ ¬ j = 3 ∧ ¬ j = 19)) → J a j = I a j := fun a j h1 h2 h3 h4 h5 => (k1 a j h3 h5).trans ((fEr_o h4).trans ((hF a j h1).trans (kE_o h2)))
  refine ⟨?_, ?_, fun k h1 h2 => ?_, lM_cg (fun a j h => key a j (by omega) (by omega) (by omega) (by omega) (by omega)) l4, lB_cg (fun a j h => key a j (by omega) (by omega) (by omega) (by omega) (by omega)) l5, lS_cg (fun a j h => key a j (by omega) (by omega) (by omega) (by omega) (by omega)) l6⟩
  · rw [e125]
    exact RC_cg (fun a j h1 h2 => (k1 a j (by omega) (by omega)).trans (fEr_o (by omega))) hC
  · rw [e125]; exact hg
  · rw [k1 123 k (by omega) (by omega), k1 128 k (by omega) (by omega), fEr_o (by omega), hF 123 k (by omega)]
    exact lE_k l3 (fun j => (hF 128 j (by omega)).trans (kE_o (by omega))) h1 h2
/-- an error on both sides -/
theorem LI_e {I I1 J : mg_I} {e : Nat} (he : ¬ e = 0) (hL : LI I) (h1 : I1 = mf_up I 123 e (I 123 e + 1)) (hX : mX (mf_up I1 128 e (I1 128 e + 1)) J) : LI J := by
  subst h1
  have e5 : mf_up (mf_up I 123 e (I 123 e + 1)) 128 e (mf_up I 123 e (I 123 e + 1) 128 e + 1) 125 = I 125 := by rw [mf_row (by omega), mf_row (by omega)]
  refine LI_o (I := I) (I1 := mf_up I 123 e (I 123 e + 1)) (J := J) (p := (e, 0, I 125)) hL (RC_cg (fun a j h1 h2 => mf_ne (by omega)) hL.1) ?_ ?_ hL.2.1
  · rw [show kE I e = mf_up I 123 e (I 123 e + 1) from if_neg he]; exact cF.rfl'
  · show mX (mR (fEr (mf_up I 123 e (I 123 e + 1)) e) (I 125)) J
    rw [show fEr (mf_up I 123 e (I 123 e + 1)) e = mf_up (mf_up I 123 e (I 123 e + 1)) 128 e (mf_up I 123 e (I 123 e + 1) 128 e + 1) from if_neg he, ← e5, mR_self]
    exact hX
/-- nothing changed -/
theorem LI_s {I J : mg_I} (hL : LI I) (hX : mX I J) : LI J := by
  refine LI_o (I := I) (I1 := I) (J := J) (p := (0, 0, I 125)) hL hL.1 cF.rfl' ?_ hL.2.1
  show mX (mR I (I 125)) J
  rw [mR_self]; exact hX
theorem SP_mR {sc : List Value} {h t : Nat} {as : List Value} {I : mg_I} {d : Nat → Int32} {nm : Nat} {Q : Option Value → mg_I → Nat → Prop} (hs : SP sc h t as (mR I d) nm Q) (e : I 125 = d) : SP sc h t as I nm Q := by
  subst e
  rw [mR_self] at hs
  exact hs
theorem cF_125 {I I1 : mg_I} {e : Nat} (h : cF (kE I e) I1) : I1 125 = I 125 := funext fun j => (h 125 j (by omega)).trans (kE_o (by omega))
/-- the script's ints -/
theorem g_sld {own : Nat} {ini rz : Bool} {code : List (Nat × Instr)} {d pc n L : Nat} {xs : Nat → Int32} {ls : List Value} {I : mg_I} {nm : Nat} {Q : Option Value → mg_I → Nat → Prop} {r : List Value} (x : Nat) (h : mg_f code pc = some (.iaload, n)) (hx : x < L) (hL : L ≤ 4000) (k : GG (mi_sc L xs) own ini rz code d n ls (.int (xs x) :: r) I nm Q) : GG (mi_sc L xs) own ini rz code d pc ls (.int (nI x) :: .ref 0 :: r) I nm Q := by
  obtain rfl := g_next h
  have hl : (mi_sc L xs).length = L := by unfold mi_sc; rw [List.length_map, List.length_range]
  obtain ⟨h1, h2⟩ := mg_ix (i := nI x) rfl hx (by omega)
  refine g_step h rfl (fun _ => ?_) k
  have e0 : (mf_M I nm (mi_sc L xs))[0]? = some (30, mi_sc L xs) := (mf_get4 (by omega)).trans rfl
  have ex : (mi_sc L xs)[x]? = some (.int (xs x)) := by
    unfold mi_sc
    rw [List.getElem?_map, List.getElem?_range hx]
    rfl
  have e : mi_ial (.int (nI x) :: .ref 0 :: r) (mf_M I nm (mi_sc L xs)) = some (.int (xs x) :: r, mf_M I nm (mi_sc L xs)) := by
    simp only [mi_ial, e0, Option.bind_some]
    rw [if_pos ⟨Or.inr (Or.inl trivial), by rw [hl]; exact h1⟩, h2, ex]
  simp only [mi_one, mi_A, mi_B, mi_L, mi_Y, e]
theorem g_slen {own : Nat} {ini rz : Bool} {code : List (Nat × Instr)} {d pc n L : Nat} {xs : Nat → Int32} {ls : List Value} {I : mg_I} {nm : Nat} {Q : Option Value → mg_I → Nat → Prop} {r : List Value} (h : mg_f code pc = some (.arraylength, n)) (k : GG (mi_sc L xs) own ini rz code d n ls (.int (nI L) :: r) I nm Q) : GG (mi_sc L xs) own ini rz code d pc ls (.ref 0 :: r) I nm Q := by
  obtain rfl := g_next h
  have hl : (mi_sc L xs).length = L := by unfold mi_sc; rw [List.length_map, List.length_range]
  refine g_step h rfl (fun _ => ?_) k
  have e0 : (mf_M I nm (mi_sc L xs))[0]? = some (30, mi_sc L xs) := (mf_get4 (by omega)).trans rfl
  have e : mi_aln (.ref 0 :: r) (mf_M I nm (mi_sc L xs)) = some (.int (nI L) :: r, mf_M I nm (mi_sc L xs)) := by
    simp only [mi_aln, e0, Option.bind_some]
    rw [if_pos (Or.inr trivial), hl]
    rfl
  simp only [mi_one, mi_A, mi_B, mi_L, mi_Y, e]
