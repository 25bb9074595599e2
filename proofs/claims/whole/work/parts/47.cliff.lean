/-! texts that agree on their bytes; a cliff that holds the model's numbers -/
section FC
variable {b b' : Nat → Int32} {n : Nat}
theorem pHere_c (h : ∀ i, i < n → b i = b' i) : pHere b n = pHere b' n := by
  funext s
  unfold pHere
  by_cases hs : s.1 < n ∧ s.2 < 0
  · rw [if_pos hs, if_pos hs, h _ hs.1]
  · rw [if_neg hs, if_neg hs]
theorem pLp_c {ok : Int32 → Prop} [DecidablePred ok] {cb : Int32 → Int32 → Int32 → Int32} {u u' : pS → Int32 × pS} (hp : pHere b n = pHere b' n) (hu : u = u') : ∀ m v s, pLp ok cb b n u m v s = pLp ok cb b' n u' m v s := by
  subst hu
  intro m
  induction m with
  | zero => intro v s; rfl
  | succ m ih => intro v s; rw [pLp, pLp, hp, ih]
theorem pLv_c {ok : Int32 → Prop} [DecidablePred ok] {cb : Int32 → Int32 → Int32 → Int32} {u u' : pS → Int32 × pS} (hp : pHere b n = pHere b' n) (hu : u = u') : pLv ok cb b n u = pLv ok cb b' n u' := by
  funext s
  unfold pLv
  rw [pLp_c hp hu, hu]
theorem pSum_c {u u' : pS → Int32 × pS} (hp : pHere b n = pHere b' n) (hu : u = u') : pSum b n u = pSum b' n u' := pLv_c hp (pLv_c hp hu)
theorem pCmp_c {u u' : pS → Int32 × pS} (hp : pHere b n = pHere b' n) (hu : u = u') : pCmp b n u = pCmp b' n u' := by
  funext s
  unfold pCmp
  rw [hp, pSum_c hp hu]
theorem pOr_c {u u' : pS → Int32 × pS} (hp : pHere b n = pHere b' n) (hu : u = u') : pOr b n u = pOr b' n u' := pLv_c hp (pLv_c hp (pCmp_c hp hu))
theorem pDg_c (hp : pHere b n = pHere b' n) : ∀ m k v s, pDg b n m k v s = pDg b' n m k v s := by
  intro m
  induction m with
  | zero => intro k v s; rfl
  | succ m ih => intro k v s; rw [pDg, pDg, hp, ih]
theorem pAtom_c {t : Int32} {nm3 : Nat → Int32} (hp : pHere b n = pHere b' n) : pAtom b n t nm3 = pAtom b' n t nm3 := by
  funext s
  unfold pAtom
  rw [hp, pDg_c hp]
theorem pU_c {t : Int32} {nm3 : Nat → Int32} (hp : pHere b n = pHere b' n) : ∀ k, pU b n t nm3 k = pU b' n t nm3 k := by
  intro k
  induction k with
  | zero => funext s; rw [pU, pU, hp, pAtom_c hp]
  | succ k ih => funext s; rw [pU, pU, hp, pAtom_c hp, ih, pOr_c hp rfl]
theorem fW_c {t : Int32} {nm3 : Nat → Int32} (h : ∀ i, i < n → b i = b' i) : fW b n t nm3 = fW b' n t nm3 := by
  have hp := pHere_c h
  unfold fW
  rw [pU_c hp, pOr_c hp rfl]
end FC
theorem fGive_c {d d' : Nat → Int32} {u : Nat} {a b c : Int32} (h : d' (114 + u) = d (114 + u)) (hb : ∀ i, i < cl (d (114 + u)) → d' (136 + 50 * u + i) = d (136 + 50 * u + i)) : fGive d' u a b c = fGive d u a b c := by
  unfold fGive
  rw [h]
  split
  · exact congrArg Prod.fst (fW_c hb)
  · rfl
def fTb (d : Nat → Int32) (g : Nat) : Int32 := bI ((cl (d 5)).testBit g = true)
theorem fTb_01 {d : Nat → Int32} {g : Nat} : fTb d g = 0 ∨ fTb d g = 1 := bI_01
/-- what never changes of a cliff -/
def aK (I : mg_I) (B : Nat) : Prop := (∀ g, g < 8 → I (B + 3 + g) 0 = nI g) ∧ I (B + 16) 0 = -2147483648 ∧ I (B + 16) 1 = 2147483647 ∧ I (B + 23) 0 = -99 ∧ I (B + 23) 1 = 99
def tK (I : mg_I) (T : Nat) (d : Nat → Int32) (u : Nat) : Prop := ∃ n, n ≤ 50 ∧ I (T + 1) 1 = nI n ∧ ∀ a b c, (cEv (I (T + 2)) (n3 a b c) n).headD 0 = fGive d u a b c
/-- a cliff holds the model's numbers (but for the tape, and the numbers that wait) -/
def rK (I : mg_I) (B : Nat) (d : Nat → Int32) : Prop :=
  (∀ j, j < 5 → I B (j + 2) = d j) ∧ (∀ y, y < 24 → I (B + 1) y = d (10 + y)) ∧ (∀ g, g < fN d → ∀ w, w < 10 → I (B + 3 + g) (w + 1) = fO d g w) ∧
  (∀ g, g < fN d → I (B + 3 + g) 11 = fTb d g ∧ I (B + 3 + g) 12 = fPace (fO d g 0) (fO d g 1) ∧ I (B + 3 + g) 13 = fLoad (fO d g 0) (fO d g 1) ∧ I (B + 3 + g) 14 = fBack (fO d g 0) (fO d g 1) ∧ I (B + 3 + g) 15 = fHears (fO d g 0)) ∧
  aK I B ∧ (∀ u, u < 2 → tK I (B + 16 + 7 * u) d u) ∧ iR (d 0) 9
section RK
variable {I : mg_I} {B : Nat} {d : Nat → Int32} (h : rK I B d)
theorem rK_n {I : mg_I} {B j : Nat} {d : Nat → Int32} (h : rK I B d) (hj : j < 5) : I B (j + 2) = d j := h.1 j hj
theorem rK_s {I : mg_I} {B y : Nat} {d : Nat → Int32} (h : rK I B d) (hy : y < 24) : I (B + 1) y = d (10 + y) := h.2.1 y hy
theorem rK_g {I : mg_I} {B g w : Nat} {d : Nat → Int32} (h : rK I B d) (hg : g < fN d) (hw : w < 10) : I (B + 3 + g) (w + 1) = fO d g w := h.2.2.1 g hg w hw
theorem rK_p11 {I : mg_I} {B g : Nat} {d : Nat → Int32} (h : rK I B d) (hg : g < fN d) : I (B + 3 + g) 11 = fTb d g := (h.2.2.2.1 g hg).1
theorem rK_p12 {I : mg_I} {B g : Nat} {d : Nat → Int32} (h : rK I B d) (hg : g < fN d) : I (B + 3 + g) 12 = fPace (fO d g 0) (fO d g 1) := (h.2.2.2.1 g hg).2.1
theorem rK_p13 {I : mg_I} {B g : Nat} {d : Nat → Int32} (h : rK I B d) (hg : g < fN d) : I (B + 3 + g) 13 = fLoad (fO d g 0) (fO d g 1) := (h.2.2.2.1 g hg).2.2.1
theorem rK_p14 {I : mg_I} {B g : Nat} {d : Nat → Int32} (h : rK I B d) (hg : g < fN d) : I (B + 3 + g) 14 = fBack (fO d g 0) (fO d g 1) := (h.2.2.2.1 g hg).2.2.2.1
theorem rK_p15 {I : mg_I} {B g : Nat} {d : Nat → Int32} (h : rK I B d) (hg : g < fN d) : I (B + 3 + g) 15 = fHears (fO d g 0) := (h.2.2.2.1 g hg).2.2.2.2
theorem rK_c {I : mg_I} {B g : Nat} {d : Nat → Int32} (h : rK I B d) (hg : g < 8) : I (B + 3 + g) 0 = nI g := h.2.2.2.2.1.1 g hg
theorem rK_a {I : mg_I} {B : Nat} {d : Nat → Int32} (h : rK I B d) : aK I B := h.2.2.2.2.1
theorem rK_t {I : mg_I} {B u : Nat} {d : Nat → Int32} (h : rK I B d) (hu : u < 2) : tK I (B + 16 + 7 * u) d u := h.2.2.2.2.2.1 u hu
theorem rK_N {I : mg_I} {B : Nat} {d : Nat → Int32} (h : rK I B d) : d 0 = nI (fN d) ∧ fN d ≤ 8 := fN_eq h.2.2.2.2.2.2
theorem rK_0 {I : mg_I} {B : Nat} {d : Nat → Int32} (h : rK I B d) : iR (d 0) 9 := h.2.2.2.2.2.2
end RK
/-- cells outside a cliff are as they were, and its tape and what waits -/
def bF (B : Nat) (I I' : mg_I) : Prop := ∀ a j, a < B ∨ B + 30 ≤ a ∨ (B + 11 ≤ a ∧ a ≤ B + 14) → I' a j = I a j
theorem bF.rfl' {B : Nat} {I : mg_I} : bF B I I := fun _ _ _ => rfl
theorem bF.trans {B : Nat} {I J K : mg_I} (h : bF B I J) (h2 : bF B J K) : bF B I K := fun a j x => (h2 a j x).trans (h a j x)
theorem bF_up {B : Nat} {I J : mg_I} (h : bF B I J) {a j : Nat} {x : Int32} (ha : (B ≤ a ∧ a < B + 11) ∨ (B + 15 ≤ a ∧ a < B + 30)) : bF B I (mf_up J a j x) := by
  intro b k hb
  unfold mf_up
  rw [if_neg (c := b = a ∧ k = j) (fun q => by omega)]
  exact h b k hb
theorem bF_v {B u : Nat} {I J : mg_I} (hu : u < 2) (h : vF (B + 16 + 7 * u + 3) I J) : bF B I J := fun a j x => h a j (by omega) (by omega)
/-- what texts leave behind doesn't matter -/
theorem rK_v {I J : mg_I} {B u : Nat} {d : Nat → Int32} (hu : u < 2) (h : rK I B d) (hv : vF (B + 16 + 7 * u + 3) I J) : rK J B d := by
  obtain ⟨h1, h2, h3, h4, ⟨h5, h6, h7, h8, h9⟩, h10, h11⟩ := h
  have e : ∀ a j, a ≤ B + 16 + 7 * u + 2 ∨ B + 16 + 7 * u + 5 ≤ a → J a j = I a j := fun a j ha => hv a j (by omega) (by omega)
  refine ⟨fun j hj => ?_, fun y hy => ?_, fun g hg w hw => ?_, fun g hg => ?_, ⟨fun g hg => ?_, ?_, ?_, ?_, ?_⟩, fun q hq => ?_, h11⟩
  · rw [e _ _ (by omega)]; exact h1 j hj
  · rw [e _ _ (by omega)]; exact h2 y hy
  · have := (fN_eq h11).2
    rw [e _ _ (by omega)]; exact h3 g hg w hw
  · have := (fN_eq h11).2
    rw [e _ _ (by omega), e _ _ (by omega), e _ _ (by omega), e _ _ (by omega), e _ _ (by omega)]; exact h4 g hg
  · rw [e _ _ (by omega)]; exact h5 g hg
  · rw [e _ _ (by omega)]; exact h6
  · rw [e _ _ (by omega)]; exact h7
  · rw [e _ _ (by omega)]; exact h8
  · rw [e _ _ (by omega)]; exact h9
  · obtain ⟨n, k1, k2, k3⟩ := h10 q hq
    refine ⟨n, k1, by rw [e _ _ (by omega)]; exact k2, fun a b c => ?_⟩
    have e2 : J (B + 16 + 7 * q + 2) = I (B + 16 + 7 * q + 2) := funext fun j => e _ j (by omega)
    rw [e2]
    exact k3 a b c
theorem cnt_0' {p : Nat → Prop} [DecidablePred p] {k : Nat} (h : ¬ p k) : cnt p (k + 1) = cnt p k := by
  rw [cnt_0 h]
  exact Int32.add_zero _
theorem c_sYard {sc : List Value} {nm : Nat} {I : mg_I} {y : Int32} : SP sc 1 131 [.int y] I nm (qE (bI (0 ≤ y.toInt ∧ y.toInt ≤ 23)) I nm) := by
  refine SP.of (h := 0) (t := 131) (q := (yX11_isYard, cX11_isYard, 1, (some .boolean), 11, 389, mi_k131)) rfl (by decide) (show ¬ (1 : Nat) < 1 by decide) (fun d hd => ?_)
  show GG sc 11 false true mi_k131 d 0 [.int y] [] I nm (qE (bI (0 ≤ y.toInt ∧ y.toInt ≤ 23)) I nm)
  refine g_iload_n (n := 1) rfl rfl ?_
  refine g_iflt (n := 4) 14 rfl (by decide) (fun h1 => ?_) (fun h1 => ?_)
  ·
    refine g_iconst (n := 15) (v := 0) rfl rfl ?_
    refine g_iret (n := 16) rfl (fun _ => by first | exact Or.inl rfl | exact Or.inr rfl | exact bI_01 | (rw [hb]; exact bP_01)) ?_
    exact ⟨congrArg (fun z => some (Value.int z)) (by first | exact (bI_t (by simp only [Int32.lt_iff_toInt_lt, Int32.le_iff_toInt_le, tI_0, tI_24, tI_23] at *; omega)).symm | exact (bI_f (by simp only [Int32.lt_iff_toInt_lt, Int32.le_iff_toInt_le, tI_0, tI_24, tI_23] at *; omega)).symm), rfl, rfl⟩
  ·
    refine g_iload_n (n := 5) rfl rfl ?_
    refine g_bipush (n := 7) (v := 24) rfl rfl ?_
    refine g_icge (n := 10) 14 rfl (by decide) (fun h2 => ?_) (fun h2 => ?_)
    ·
      refine g_iconst (n := 15) (v := 0) rfl rfl ?_
      refine g_iret (n := 16) rfl (fun _ => by first | exact Or.inl rfl | exact Or.inr rfl | exact bI_01 | (rw [hb]; exact bP_01)) ?_
      exact ⟨congrArg (fun z => some (Value.int z)) (by first | exact (bI_t (by simp only [Int32.lt_iff_toInt_lt, Int32.le_iff_toInt_le, tI_0, tI_24, tI_23] at *; omega)).symm | exact (bI_f (by simp only [Int32.lt_iff_toInt_lt, Int32.le_iff_toInt_le, tI_0, tI_24, tI_23] at *; omega)).symm), rfl, rfl⟩
    ·
      refine g_iconst (n := 11) (v := 1) rfl rfl ?_
      refine g_goto 15 rfl (by decide) ?_
      refine g_iret (n := 16) rfl (fun _ => by first | exact Or.inl rfl | exact Or.inr rfl | exact bI_01 | (rw [hb]; exact bP_01)) ?_
      exact ⟨congrArg (fun z => some (Value.int z)) (by first | exact (bI_t (by simp only [Int32.lt_iff_toInt_lt, Int32.le_iff_toInt_le, tI_0, tI_24, tI_23] at *; omega)).symm | exact (bI_f (by simp only [Int32.lt_iff_toInt_lt, Int32.le_iff_toInt_le, tI_0, tI_24, tI_23] at *; omega)).symm), rfl, rfl⟩
theorem c_cLedge {sc : List Value} {nm : Nat} {I : mg_I} {B : Nat} {d : Nat → Int32} (hB : isCliff B) (hR : rK I B d) {y : Int32} : SP sc 2 7 [.ref B, .int y] I nm (qE (bI ((0 ≤ y.toInt ∧ y.toInt ≤ 23) ∧ 1 < d (10 + cl y))) I nm) := by
  refine SP.of (h := 1) (t := 7) (q := (yX1_isLedge, cX1_isLedge, 2, (some .boolean), 1, 399, mi_k7)) rfl (by decide) (show ¬ (2 : Nat) < 2 by decide) (fun dd hd => ?_)
  show GG sc 1 false true mi_k7 dd 0 [.ref B, .int y] [] I nm (qE (bI ((0 ≤ y.toInt ∧ y.toInt ≤ 23) ∧ 1 < d (10 + cl y))) I nm)
  have hN8 := (rK_N hR).2
  refine g_iload_n (n := 1) rfl rfl ?_
  refine g_cn1 (n := 4) (t := 131) (x := (387, 388, 71)) rfl (by decide +kernel) (by decide +kernel) (by decide +kernel) (by rfl) c_sYard (by omega) (g_E ?_)
  refine g_split (fun hy => ?_) (fun hy => ?_)
  ·
    refine g_ifeq1 (n := 7) 21 rfl (by decide) ?_
    obtain ⟨yy, hyy, rfl, hcy⟩ := iR_nI (x := y) (n := 24) ⟨by omega, by omega⟩
    refine g_aload_n (n := 8) rfl rfl ?_
    refine g_getr (n := 11) (ci := 1) (j := 0) (b := (B + 1)) rfl (by decide +kernel) (cf_hd hB) (cf_lt hB (by decide)) (cf_r0 hB) ?_
    refine g_iload_n (n := 12) rfl rfl ?_
    refine g_iald (n := 13) (yy) rfl (cf_1h hB) rfl (by rw [cf_1s hB]; omega) ?_
    refine g_top (w := d (10 + yy)) (rK_s hR (by omega)) ?_
    refine g_iconst (n := 14) (v := 1) rfl rfl ?_
    refine g_icle (n := 17) 21 rfl (by decide) (fun h1 => ?_) (fun h1 => ?_)
    ·
      refine g_iconst (n := 22) (v := 0) rfl rfl ?_
      refine g_iret (n := 23) rfl (fun _ => by first | exact Or.inl rfl | exact Or.inr rfl | exact bI_01 | (rw [hb]; exact bP_01)) ?_
      exact ⟨congrArg (fun z => some (Value.int z)) (by first | exact (bI_t ⟨hy, by rw [show cl (nI yy) = yy from hcy]; exact Int32.not_le.mp (by assumption)⟩).symm | exact (bI_f (fun q => absurd (show 1 < d (10 + yy) by have := q.2; rw [show cl (nI yy) = yy from hcy] at this; exact this) (Int32.not_lt.mpr (by assumption)))).symm | exact (bI_f (fun q => hy q.1)).symm), rfl, rfl⟩
    ·
      refine g_iconst (n := 18) (v := 1) rfl rfl ?_
      refine g_goto 22 rfl (by decide) ?_
      refine g_iret (n := 23) rfl (fun _ => by first | exact Or.inl rfl | exact Or.inr rfl | exact bI_01 | (rw [hb]; exact bP_01)) ?_
      exact ⟨congrArg (fun z => some (Value.int z)) (by first | exact (bI_t ⟨hy, by rw [show cl (nI yy) = yy from hcy]; exact Int32.not_le.mp (by assumption)⟩).symm | exact (bI_f (fun q => absurd (show 1 < d (10 + yy) by have := q.2; rw [show cl (nI yy) = yy from hcy] at this; exact this) (Int32.not_lt.mpr (by assumption)))).symm | exact (bI_f (fun q => hy q.1)).symm), rfl, rfl⟩
  ·
    refine g_ifeq0 (n := 7) 21 rfl (by decide) ?_
    refine g_iconst (n := 22) (v := 0) rfl rfl ?_
    refine g_iret (n := 23) rfl (fun _ => by first | exact Or.inl rfl | exact Or.inr rfl | exact bI_01 | (rw [hb]; exact bP_01)) ?_
    exact ⟨congrArg (fun z => some (Value.int z)) (by first | exact (bI_t ⟨hy, by rw [show cl (nI yy) = yy from hcy]; exact Int32.not_le.mp (by assumption)⟩).symm | exact (bI_f (fun q => absurd (show 1 < d (10 + yy) by have := q.2; rw [show cl (nI yy) = yy from hcy] at this; exact this) (Int32.not_lt.mpr (by assumption)))).symm | exact (bI_f (fun q => hy q.1)).symm), rfl, rfl⟩
theorem c_cLedgeN {sc : List Value} {nm : Nat} {I : mg_I} {B y : Nat} {d : Nat → Int32} (hB : isCliff B) (hR : rK I B d) (hy : y < 24) : SP sc 2 7 [.ref B, .int (nI y)] I nm (qE (bI (1 < d (10 + y))) I nm) := by
  refine (c_cLedge hB hR (y := nI y)).mono fun r I' nm' hq => ⟨hq.1.trans (congrArg (fun z => some (Value.int z)) (bI_eq ?_)), hq.2⟩
  rw [show cl (nI y) = y from nI_clamp (by omega), nI_toInt (by omega)]
  exact ⟨fun q => q.2, fun q => ⟨by omega, q⟩⟩
theorem c_cBefore {sc : List Value} {nm : Nat} {I : mg_I} {B : Nat} {d : Nat → Int32} (hB : isCliff B) (hR : rK I B d) {y : Nat} (hy : y ≤ 24) : SP sc 1 9 [.ref B, .int (nI y)] I nm (qE (fBefore d y) I nm) := by
  refine SP.of (h := 0) (t := 9) (q := (yX1_ledgesBefore, cX1_ledgesBefore, 4, (some .int), 1, 407, mi_k9)) rfl (by decide) (show ¬ (4 : Nat) < 2 by decide) (fun dd hd => ?_)
  show GG sc 1 false false mi_k9 dd 0 [.ref B, .int (nI y), .null, .null] [] I nm (qE (fBefore d y) I nm)
  have hN8 := (rK_N hR).2
  have H : ∀ (m k : Nat), k + m = y → GG sc 1 false false mi_k9 dd 4 [.ref B, .int (nI y), .int (cnt (fun k => 1 < d (10 + k)) k), .int (nI k)] [] I nm (qE (fBefore d y) I nm) := by
    intro m
    induction m with
    | zero =>
      intro k  hk 
      refine g_iload_n (n := 5) rfl rfl ?_
      refine g_iload_n (n := 6) rfl rfl ?_
      refine g_icge (n := 9) 34 rfl (by decide) (fun h1 => ?_) (fun h1 => ?_)
      ·
        refine g_iload_n (n := 35) rfl rfl ?_
        refine g_iret (n := 36) rfl (fun h => nomatch h) ?_
        rw [show k = y by omega]; exact ⟨rfl, rfl, rfl⟩
      ·
        exact absurd (fN_nle rfl (by omega) (by omega) h1) (by omega)
    | succ m ih =>
      intro k  hk 
      refine g_iload_n (n := 5) rfl rfl ?_
      refine g_iload_n (n := 6) rfl rfl ?_
      refine g_icge (n := 9) 34 rfl (by decide) (fun h1 => ?_) (fun h1 => ?_)
      ·
        exact absurd (fN_le rfl (by omega) (by omega) h1) (by omega)
      ·
        refine g_iload_n (n := 10) rfl rfl ?_
        refine g_bipush (n := 12) (v := 24) rfl rfl ?_
        refine g_icge (n := 15) 34 rfl (by decide) (fun h2 => ?_) (fun h2 => ?_)
        ·
          exact absurd (fN_le (n := 24) rfl (by omega) (by omega) h2) (by omega)
        ·
          refine g_aload_n (n := 16) rfl rfl ?_
          refine g_getr (n := 19) (ci := 1) (j := 0) (b := (B + 1)) rfl (by decide +kernel) (cf_hd hB) (cf_lt hB (by decide)) (cf_r0 hB) ?_
          refine g_iload_n (n := 20) rfl rfl ?_
          refine g_iald (n := 21) (k) rfl (cf_1h hB) rfl (by rw [cf_1s hB]; omega) ?_
          refine g_top (w := d (10 + k)) (rK_s hR (by omega)) ?_
          refine g_iconst (n := 22) (v := 1) rfl rfl ?_
          refine g_icle (n := 25) 28 rfl (by decide) (fun h3 => ?_) (fun h3 => ?_)
          ·
            refine g_iinc3 (n := 31) rfl rfl (nI_inc _) ?_
            refine g_goto 4 rfl (by decide) ?_
            have hh := ih (k + 1) (by omega)
            rw [cnt_0' (p := (fun k => 1 < d (10 + k))) (k := k) (fun q => absurd q (Int32.not_lt.mpr h3))] at hh
            exact hh
          ·
            refine g_iinc2 (n := 28) rfl rfl (cnt_1 (p := (fun k => 1 < d (10 + k))) (k := k) (Int32.not_le.mp h3)).symm ?_
            refine g_iinc3 (n := 31) rfl rfl (nI_inc _) ?_
            refine g_goto 4 rfl (by decide) ?_
            exact ih (k + 1) (by omega)
  refine g_iconst (n := 1) (v := 0) rfl rfl ?_
  refine g_istore_n2 (n := 2) rfl rfl ?_
  refine g_iconst (n := 3) (v := 0) rfl rfl ?_
  refine g_istore_n3 (n := 4) rfl rfl ?_
  exact H y 0 (by omega)
theorem c_cMany {sc : List Value} {nm : Nat} {I : mg_I} {B : Nat} {d : Nat → Int32} (hB : isCliff B) (hR : rK I B d) : SP sc 2 8 [.ref B] I nm (qE (fBefore d 24) I nm) := by
  refine SP.of (h := 1) (t := 8) (q := (yX1_howManyLedges, cX1_howManyLedges, 1, (some .int), 1, 403, mi_k8)) rfl (by decide) (show ¬ (1 : Nat) < 1 by decide) (fun dd hd => ?_)
  show GG sc 1 false false mi_k8 dd 0 [.ref B] [] I nm (qE (fBefore d 24) I nm)
  have hN8 := (rK_N hR).2
  refine g_aload_n (n := 1) rfl rfl ?_
  refine g_bipush (n := 3) (v := 24) rfl rfl ?_
  refine g_cv1 (n := 6) (t := 9) (ci := 1) rfl (by decide +kernel) (by decide +kernel) (cf_hd hB) (cf_136 hB) (by decide +kernel) (by rfl) (c_cBefore (y := 24) hB hR (by omega)) (by omega) (g_E ?_)
  refine g_iret (n := 7) rfl (fun h => nomatch h) ?_
  exact ⟨rfl, rfl, rfl⟩
theorem c_cLedgeAt {sc : List Value} {nm : Nat} {I : mg_I} {B : Nat} {d : Nat → Int32} (hB : isCliff B) (hR : rK I B d) {y : Nat} (hy : y < 24) : SP sc 3 10 [.ref B, .int (nI y)] I nm (qE (if 1 < d (10 + y) then fBefore d y else -1) I nm) := by
  refine SP.of (h := 2) (t := 10) (q := (yX1_ledgeAt, cX1_ledgeAt, 2, (some .int), 1, 424, mi_k10)) rfl (by decide) (show ¬ (2 : Nat) < 2 by decide) (fun dd hd => ?_)
  show GG sc 1 false false mi_k10 dd 0 [.ref B, .int (nI y)] [] I nm (qE (if 1 < d (10 + y) then fBefore d y else -1) I nm)
  have hN8 := (rK_N hR).2
  refine g_aload_n (n := 1) rfl rfl ?_
  refine g_iload_n (n := 2) rfl rfl ?_
  refine g_cv1 (n := 5) (t := 7) (ci := 1) rfl (by decide +kernel) (by decide +kernel) (cf_hd hB) (cf_136 hB) (by decide +kernel) (by rfl) (c_cLedgeN hB hR (y := y) (by omega)) (by omega) (g_E ?_)
  refine g_split (fun hL1 => ?_) (fun hL0 => ?_)
  ·
    refine g_ifeq1 (n := 8) 16 rfl (by decide) ?_
    rw [if_pos hL1]
    refine g_aload_n (n := 9) rfl rfl ?_
    refine g_iload_n (n := 10) rfl rfl ?_
    refine g_cv1 (n := 13) (t := 9) (ci := 1) rfl (by decide +kernel) (by decide +kernel) (cf_hd hB) (cf_136 hB) (by decide +kernel) (by rfl) (c_cBefore (y := y) hB hR (by omega)) (by omega) (g_E ?_)
    refine g_goto 17 rfl (by decide) ?_
    refine g_iret (n := 18) rfl (fun h => nomatch h) ?_
    exact ⟨rfl, rfl, rfl⟩
  ·
    refine g_ifeq0 (n := 8) 16 rfl (by decide) ?_
    rw [if_neg hL0]
    refine g_iconst (n := 17) (v := -1) rfl rfl ?_
    refine g_iret (n := 18) rfl (fun h => nomatch h) ?_
    exact ⟨rfl, rfl, rfl⟩
theorem c_cYardOf {sc : List Value} {nm : Nat} {I : mg_I} {B : Nat} {d : Nat → Int32} (hB : isCliff B) (hR : rK I B d) {l : Int32} : SP sc 3 11 [.ref B, .int l] I nm (qE (fYard d l) I nm) := by
  refine SP.of (h := 2) (t := 11) (q := (yX1_yardOf, cX1_yardOf, 3, (some .int), 1, 875, mi_k11)) rfl (by decide) (show ¬ (3 : Nat) < 2 by decide) (fun dd hd => ?_)
  show GG sc 1 false false mi_k11 dd 0 [.ref B, .int l, .null] [] I nm (qE (fYard d l) I nm)
  have hN8 := (rK_N hR).2
  have H : ∀ (m k : Nat), k + m = 24 → fYd d l m k = fYard d l → GG sc 1 false false mi_k11 dd 2 [.ref B, .int l, .int (nI k)] [] I nm (qE (fYard d l) I nm) := by
    intro m
    induction m with
    | zero =>
      intro k  hk hf
      refine g_iload_n (n := 3) rfl rfl ?_
      refine g_bipush (n := 5) (v := 24) rfl rfl ?_
      refine g_icge (n := 8) 33 rfl (by decide) (fun h1 => ?_) (fun h1 => ?_)
      ·
        refine g_iconst (n := 34) (v := -1) rfl rfl ?_
        refine g_iret (n := 35) rfl (fun h => nomatch h) ?_
        rw [← hf]; exact ⟨rfl, rfl, rfl⟩
      ·
        exact absurd (fN_nle (n := 24) rfl (by omega) (by omega) h1) (by omega)
    | succ m ih =>
      intro k  hk hf
      rw [fYd] at hf
      refine g_iload_n (n := 3) rfl rfl ?_
      refine g_bipush (n := 5) (v := 24) rfl rfl ?_
      refine g_icge (n := 8) 33 rfl (by decide) (fun h1 => ?_) (fun h1 => ?_)
      ·
        exact absurd (fN_le (n := 24) rfl (by omega) (by omega) h1) (by omega)
      ·
        refine g_aload_n (n := 9) rfl rfl ?_
        refine g_iload_n (n := 10) rfl rfl ?_
        refine g_cv1 (n := 13) (t := 7) (ci := 1) rfl (by decide +kernel) (by decide +kernel) (cf_hd hB) (cf_136 hB) (by decide +kernel) (by rfl) (c_cLedgeN hB hR (y := k) (by omega)) (by omega) (g_E ?_)
        refine g_split (fun hL1 => ?_) (fun hL0 => ?_)
        ·
          refine g_ifeq1 (n := 16) 27 rfl (by decide) ?_
          refine g_aload_n (n := 17) rfl rfl ?_
          refine g_iload_n (n := 18) rfl rfl ?_
          refine g_cv1 (n := 21) (t := 9) (ci := 1) rfl (by decide +kernel) (by decide +kernel) (cf_hd hB) (cf_136 hB) (by decide +kernel) (by rfl) (c_cBefore (y := k) hB hR (by omega)) (by omega) (g_E ?_)
          refine g_iload_n (n := 22) rfl rfl ?_
          refine g_icne (n := 25) 27 rfl (by decide) (fun h2 => ?_) (fun h2 => ?_)
          ·
            rw [if_neg (fun q => h2 q.2)] at hf
            refine g_iinc2 (n := 30) rfl rfl (nI_inc _) ?_
            refine g_goto 2 rfl (by decide) ?_
            exact ih (k + 1) (by omega) hf
          ·
            rw [if_pos ⟨hL1, h2⟩] at hf
            refine g_iload_n (n := 26) rfl rfl ?_
            refine g_iret (n := 27) rfl (fun h => nomatch h) ?_
            rw [← hf]; exact ⟨rfl, rfl, rfl⟩
        ·
          refine g_ifeq0 (n := 16) 27 rfl (by decide) ?_
          rw [if_neg (fun q => hL0 q.1)] at hf
          refine g_iinc2 (n := 30) rfl rfl (nI_inc _) ?_
          refine g_goto 2 rfl (by decide) ?_
          exact ih (k + 1) (by omega) hf
  refine g_iconst (n := 1) (v := 0) rfl rfl ?_
  refine g_istore_n2 (n := 2) rfl rfl ?_
  exact H 24 0 (by omega) rfl
theorem c_crowd {sc : List Value} {nm : Nat} {I : mg_I} {B : Nat} {d : Nat → Int32} (hB : isCliff B) (hR : rK I B d) {y : Int32} : SP sc 1 12 [.ref B, .int y] I nm (qE (fAt d y) I nm) := by
  refine SP.of (h := 0) (t := 12) (q := (yX1_crowdAt, cX1_crowdAt, 4, (some .int), 1, 394, mi_k12)) rfl (by decide) (show ¬ (4 : Nat) < 2 by decide) (fun dd hd => ?_)
  show GG sc 1 false false mi_k12 dd 0 [.ref B, .int y, .null, .null] [] I nm (qE (fAt d y) I nm)
  have hN8 := (rK_N hR).2
  have H : ∀ (m k : Nat), k + m = fN d → GG sc 1 false false mi_k12 dd 4 [.ref B, .int y, .int (cnt (fun g => fO d g 5 = 1 ∧ fO d g 6 = y) k), .int (nI k)] [] I nm (qE (fAt d y) I nm) := by
    intro m
    induction m with
    | zero =>
      intro k  hk 
      refine g_iload_n (n := 5) rfl rfl ?_
      refine g_aload_n (n := 6) rfl rfl ?_
      refine g_getv (n := 9) (ci := 1) (j := 2) (v := nI (fN d)) ((rK_n hR (j := 0) (by omega)).trans (rK_N hR).1) rfl (by decide +kernel) rfl (by decide) (cf_hd hB) ?_
      refine g_icge (n := 12) 47 rfl (by decide) (fun h1 => ?_) (fun h1 => ?_)
      ·
        refine g_iload_n (n := 48) rfl rfl ?_
        refine g_iret (n := 49) rfl (fun h => nomatch h) ?_
        rw [show k = fN d by omega]; exact ⟨rfl, rfl, rfl⟩
      ·
        exact absurd (fN_nle rfl (by omega) (by omega) h1) (by omega)
    | succ m ih =>
      intro k  hk 
      refine g_iload_n (n := 5) rfl rfl ?_
      refine g_aload_n (n := 6) rfl rfl ?_
      refine g_getv (n := 9) (ci := 1) (j := 2) (v := nI (fN d)) ((rK_n hR (j := 0) (by omega)).trans (rK_N hR).1) rfl (by decide +kernel) rfl (by decide) (cf_hd hB) ?_
      refine g_icge (n := 12) 47 rfl (by decide) (fun h1 => ?_) (fun h1 => ?_)
      ·
        exact absurd (fN_le rfl (by omega) (by omega) h1) (by omega)
      ·
        refine g_aload_n (n := 13) rfl rfl ?_
        refine g_getr (n := 16) (ci := 1) (j := 1) (b := (B + 2)) rfl (by decide +kernel) (cf_hd hB) (cf_lt hB (by decide)) (cf_r1 hB) ?_
        refine g_iload_n (n := 17) rfl rfl ?_
        refine g_aald (n := 18) (b := (B + 3 + k)) (k) rfl (cf_2a hB) (cf_2h hB) rfl (cf_2x hB (by omega)) (cf_2r hB (by omega)) ?_
        refine g_getv (n := 21) (ci := 4) (j := 6) (v := fO d k 5) (rK_g hR (show k < fN d by omega) (w := 5) (by omega)) rfl (by decide +kernel) rfl (by decide) (cf_gh hB (show k < 8 by omega)) ?_
        refine g_iconst (n := 22) (v := 1) rfl rfl ?_
        refine g_icne (n := 25) 41 rfl (by decide) (fun h2 => ?_) (fun h2 => ?_)
        ·
          refine g_iinc3 (n := 44) rfl rfl (nI_inc _) ?_
          refine g_goto 4 rfl (by decide) ?_
          have hh := ih (k + 1) (by omega)
          rw [cnt_0' (p := (fun g => fO d g 5 = 1 ∧ fO d g 6 = y)) (k := k) (fun q => h2 q.1)] at hh
          exact hh
        ·
          refine g_aload_n (n := 26) rfl rfl ?_
          refine g_getr (n := 29) (ci := 1) (j := 1) (b := (B + 2)) rfl (by decide +kernel) (cf_hd hB) (cf_lt hB (by decide)) (cf_r1 hB) ?_
          refine g_iload_n (n := 30) rfl rfl ?_
          refine g_aald (n := 31) (b := (B + 3 + k)) (k) rfl (cf_2a hB) (cf_2h hB) rfl (cf_2x hB (by omega)) (cf_2r hB (by omega)) ?_
          refine g_getv (n := 34) (ci := 4) (j := 7) (v := fO d k 6) (rK_g hR (show k < fN d by omega) (w := 6) (by omega)) rfl (by decide +kernel) rfl (by decide) (cf_gh hB (show k < 8 by omega)) ?_
          refine g_iload_n (n := 35) rfl rfl ?_
          refine g_icne (n := 38) 41 rfl (by decide) (fun h3 => ?_) (fun h3 => ?_)
          ·
            refine g_iinc3 (n := 44) rfl rfl (nI_inc _) ?_
            refine g_goto 4 rfl (by decide) ?_
            have hh := ih (k + 1) (by omega)
            rw [cnt_0' (p := (fun g => fO d g 5 = 1 ∧ fO d g 6 = y)) (k := k) (fun q => h3 q.2)] at hh
            exact hh
          ·
            refine g_iinc2 (n := 41) rfl rfl (cnt_1 (p := (fun g => fO d g 5 = 1 ∧ fO d g 6 = y)) (k := k) (⟨h2, h3⟩)).symm ?_
            refine g_iinc3 (n := 44) rfl rfl (nI_inc _) ?_
            refine g_goto 4 rfl (by decide) ?_
            exact ih (k + 1) (by omega)
  refine g_iconst (n := 1) (v := 0) rfl rfl ?_
  refine g_istore_n2 (n := 2) rfl rfl ?_
  refine g_iconst (n := 3) (v := 0) rfl rfl ?_
  refine g_istore_n3 (n := 4) rfl rfl ?_
  exact H (fN d) 0 (by omega)
theorem c_cHow {sc : List Value} {nm : Nat} {I : mg_I} {B : Nat} {d : Nat → Int32} (hB : isCliff B) (hR : rK I B d) {how : Int32} : SP sc 1 13 [.ref B, .int how] I nm (qE (fMany d how) I nm) := by
  refine SP.of (h := 0) (t := 13) (q := (yX1_howMany, cX1_howMany, 4, (some .int), 1, 803, mi_k13)) rfl (by decide) (show ¬ (4 : Nat) < 2 by decide) (fun dd hd => ?_)
  show GG sc 1 false false mi_k13 dd 0 [.ref B, .int how, .null, .null] [] I nm (qE (fMany d how) I nm)
  have hN8 := (rK_N hR).2
  have H : ∀ (m k : Nat), k + m = fN d → GG sc 1 false false mi_k13 dd 4 [.ref B, .int how, .int (cnt (fun g => fO d g 5 = how) k), .int (nI k)] [] I nm (qE (fMany d how) I nm) := by
    intro m
    induction m with
    | zero =>
      intro k  hk 
      refine g_iload_n (n := 5) rfl rfl ?_
      refine g_aload_n (n := 6) rfl rfl ?_
      refine g_getv (n := 9) (ci := 1) (j := 2) (v := nI (fN d)) ((rK_n hR (j := 0) (by omega)).trans (rK_N hR).1) rfl (by decide +kernel) rfl (by decide) (cf_hd hB) ?_
      refine g_icge (n := 12) 34 rfl (by decide) (fun h1 => ?_) (fun h1 => ?_)
      ·
        refine g_iload_n (n := 35) rfl rfl ?_
        refine g_iret (n := 36) rfl (fun h => nomatch h) ?_
        rw [show k = fN d by omega]; exact ⟨rfl, rfl, rfl⟩
      ·
        exact absurd (fN_nle rfl (by omega) (by omega) h1) (by omega)
    | succ m ih =>
      intro k  hk 
      refine g_iload_n (n := 5) rfl rfl ?_
      refine g_aload_n (n := 6) rfl rfl ?_
      refine g_getv (n := 9) (ci := 1) (j := 2) (v := nI (fN d)) ((rK_n hR (j := 0) (by omega)).trans (rK_N hR).1) rfl (by decide +kernel) rfl (by decide) (cf_hd hB) ?_
      refine g_icge (n := 12) 34 rfl (by decide) (fun h1 => ?_) (fun h1 => ?_)
      ·
        exact absurd (fN_le rfl (by omega) (by omega) h1) (by omega)
      ·
        refine g_aload_n (n := 13) rfl rfl ?_
        refine g_getr (n := 16) (ci := 1) (j := 1) (b := (B + 2)) rfl (by decide +kernel) (cf_hd hB) (cf_lt hB (by decide)) (cf_r1 hB) ?_
        refine g_iload_n (n := 17) rfl rfl ?_
        refine g_aald (n := 18) (b := (B + 3 + k)) (k) rfl (cf_2a hB) (cf_2h hB) rfl (cf_2x hB (by omega)) (cf_2r hB (by omega)) ?_
        refine g_getv (n := 21) (ci := 4) (j := 6) (v := fO d k 5) (rK_g hR (show k < fN d by omega) (w := 5) (by omega)) rfl (by decide +kernel) rfl (by decide) (cf_gh hB (show k < 8 by omega)) ?_
        refine g_iload_n (n := 22) rfl rfl ?_
        refine g_icne (n := 25) 28 rfl (by decide) (fun h2 => ?_) (fun h2 => ?_)
        ·
          refine g_iinc3 (n := 31) rfl rfl (nI_inc _) ?_
          refine g_goto 4 rfl (by decide) ?_
          have hh := ih (k + 1) (by omega)
          rw [cnt_0' (p := (fun g => fO d g 5 = how)) (k := k) (h2)] at hh
          exact hh
        ·
          refine g_iinc2 (n := 28) rfl rfl (cnt_1 (p := (fun g => fO d g 5 = how)) (k := k) (h2)).symm ?_
          refine g_iinc3 (n := 31) rfl rfl (nI_inc _) ?_
          refine g_goto 4 rfl (by decide) ?_
          exact ih (k + 1) (by omega)
  refine g_iconst (n := 1) (v := 0) rfl rfl ?_
  refine g_istore_n2 (n := 2) rfl rfl ?_
  refine g_iconst (n := 3) (v := 0) rfl rfl ?_
  refine g_istore_n3 (n := 4) rfl rfl ?_
  exact H (fN d) 0 (by omega)
def vRef (k : Nat) : Int32 := if k = 0 then 0 else -1000000000 - nI k
theorem vRef_1 : vRef 1 = -1000000001 := by decide
theorem vRef_3 : vRef 3 = -1000000003 := by decide
theorem vRef_4 : vRef 4 = -1000000004 := by decide
theorem nine {d : Nat → Int32} (hL : nL d 24 ≤ 9) (h : ¬ fBefore d 24 < 9) : fBefore d 24 = 9 := by
  rw [fBefore_N] at h ⊢
  have h2 : ¬ nL d 24 < 9 := fun q => h ((nI_ltI (b := 9) (by omega) (by omega)).mpr q)
  rw [show nL d 24 = 9 by omega]
  rfl
theorem c_cRef {sc : List Value} {nm : Nat} {I : mg_I} {B : Nat} {d : Nat → Int32} (hB : isCliff B) (hR : rK I B d) {y v : Int32} (hL : nL d 24 ≤ 9) : SP sc 3 14 [.ref B, .int y, .int v] I nm (qE (vRef (fRf d y v)) I nm) := by
  refine SP.of (h := 2) (t := 14) (q := (yX1_refusesRoom, cX1_refusesRoom, 3, (some .int), 1, 386, mi_k14)) rfl (by decide) (show ¬ (3 : Nat) < 3 by decide) (fun dd hd => ?_)
  show GG sc 1 false false mi_k14 dd 0 [.ref B, .int y, .int v] [] I nm (qE (vRef (fRf d y v)) I nm)
  have hN8 := (rK_N hR).2
  refine g_iload_n (n := 1) rfl rfl ?_
  refine g_cn1 (n := 4) (t := 131) (x := (387, 388, 71)) rfl (by decide +kernel) (by decide +kernel) (by decide +kernel) (by rfl) c_sYard (by omega) (g_E ?_)
  refine g_split (fun hy => ?_) (fun hy => ?_)
  ·
    refine g_ifeq1 (n := 7) 17 rfl (by decide) ?_
    obtain ⟨yy, hyy, rfl, hcy⟩ := iR_nI (x := y) (n := 24) ⟨by omega, by omega⟩
    refine g_iload_n (n := 8) rfl rfl ?_
    refine g_iconst (n := 9) (v := 1) rfl rfl ?_
    refine g_iclt (n := 12) 17 rfl (by decide) (fun h1 => ?_) (fun h1 => ?_)
    ·
      have hv : ¬ (1 ≤ v.toInt ∧ v.toInt ≤ 5) := by simp only [Int32.lt_iff_toInt_lt, Int32.le_iff_toInt_le, tI_1, tI_5] at *; omega
      unfold fRf; rw [if_pos hy, if_neg hv]
      refine g_ldc (n := 19) (v := -1000000001) (pl := 390) rfl (by decide +kernel) ?_
      refine g_top (w := vRef 1) vRef_1.symm ?_
      refine g_iret (n := 20) rfl (fun h => nomatch h) ?_
      exact ⟨rfl, rfl, rfl⟩
    ·
      refine g_iload_n (n := 13) rfl rfl ?_
      refine g_iconst (n := 14) (v := 5) rfl rfl ?_
      refine g_icle (n := 17) 20 rfl (by decide) (fun h2 => ?_) (fun h2 => ?_)
      ·
        have hv : 1 ≤ v.toInt ∧ v.toInt ≤ 5 := by simp only [Int32.lt_iff_toInt_lt, Int32.le_iff_toInt_le, tI_1, tI_5] at *; omega
        unfold fRf; rw [if_pos hy, if_pos hv, show cl (nI yy) = yy from hcy]
        refine g_aload_n (n := 21) rfl rfl ?_
        refine g_iload_n (n := 22) rfl rfl ?_
        refine g_cv1 (n := 25) (t := 12) (ci := 1) rfl (by decide +kernel) (by decide +kernel) (cf_hd hB) (cf_136 hB) (by decide +kernel) (by rfl) (c_crowd hB hR) (by omega) (g_E ?_)
        refine g_iload_n (n := 26) rfl rfl ?_
        refine g_icle (n := 29) 32 rfl (by decide) (fun h3 => ?_) (fun h3 => ?_)
        ·
          rw [if_pos h3]
          refine g_iload_n (n := 33) rfl rfl ?_
          refine g_iconst (n := 34) (v := 1) rfl rfl ?_
          refine g_icle (n := 37) 59 rfl (by decide) (fun h4 => ?_) (fun h4 => ?_)
          ·
            rw [if_pos h4]
            refine g_iconst (n := 60) (v := 0) rfl rfl ?_
            refine g_iret (n := 61) rfl (fun h => nomatch h) ?_
            exact ⟨rfl, rfl, rfl⟩
          ·
            rw [if_neg h4]
            refine g_aload_n (n := 38) rfl rfl ?_
            refine g_iload_n (n := 39) rfl rfl ?_
            refine g_cv1 (n := 42) (t := 7) (ci := 1) rfl (by decide +kernel) (by decide +kernel) (cf_hd hB) (cf_136 hB) (by decide +kernel) (by rfl) (c_cLedgeN hB hR (y := yy) (by omega)) (by omega) (g_E ?_)
            refine g_split (fun hL1 => ?_) (fun hL0 => ?_)
            ·
              refine g_ifne1 (n := 45) 59 rfl (by decide) ?_
              rw [if_pos hL1]
              refine g_iconst (n := 60) (v := 0) rfl rfl ?_
              refine g_iret (n := 61) rfl (fun h => nomatch h) ?_
              exact ⟨rfl, rfl, rfl⟩
            ·
              refine g_ifne0 (n := 45) 59 rfl (by decide) ?_
              rw [if_neg hL0]
              refine g_aload_n (n := 46) rfl rfl ?_
              refine g_cv0 (n := 49) (t := 8) (ci := 1) rfl (by decide +kernel) (by decide +kernel) (cf_hd hB) (cf_136 hB) (by decide +kernel) (by rfl) (c_cMany hB hR) (by omega) (g_E ?_)
              refine g_bipush (n := 51) (v := 9) rfl rfl ?_
              refine g_iclt (n := 54) 59 rfl (by decide) (fun h5 => ?_) (fun h5 => ?_)
              ·
                rw [if_neg (fun q => absurd h5 (by rw [q]; decide))]
                refine g_iconst (n := 60) (v := 0) rfl rfl ?_
                refine g_iret (n := 61) rfl (fun h => nomatch h) ?_
                exact ⟨rfl, rfl, rfl⟩
              ·
                rw [if_pos (nine hL h5)]
                refine g_ldc (n := 56) (v := -1000000004) (pl := 408) rfl (by decide +kernel) ?_
                refine g_top (w := vRef 4) vRef_4.symm ?_
                refine g_goto 60 rfl (by decide) ?_
                refine g_iret (n := 61) rfl (fun h => nomatch h) ?_
                exact ⟨rfl, rfl, rfl⟩
        ·
          rw [if_neg h3]
          refine g_ldc (n := 31) (v := -1000000003) (pl := 395) rfl (by decide +kernel) ?_
          refine g_top (w := vRef 3) vRef_3.symm ?_
          refine g_iret (n := 32) rfl (fun h => nomatch h) ?_
          exact ⟨rfl, rfl, rfl⟩
      ·
        have hv : ¬ (1 ≤ v.toInt ∧ v.toInt ≤ 5) := by simp only [Int32.lt_iff_toInt_lt, Int32.le_iff_toInt_le, tI_1, tI_5] at *; omega
        unfold fRf; rw [if_pos hy, if_neg hv]
        refine g_ldc (n := 19) (v := -1000000001) (pl := 390) rfl (by decide +kernel) ?_
        refine g_top (w := vRef 1) vRef_1.symm ?_
        refine g_iret (n := 20) rfl (fun h => nomatch h) ?_
        exact ⟨rfl, rfl, rfl⟩
  ·
    refine g_ifeq0 (n := 7) 17 rfl (by decide) ?_
    unfold fRf; rw [if_neg hy]
    refine g_ldc (n := 19) (v := -1000000001) (pl := 390) rfl (by decide +kernel) ?_
    refine g_top (w := vRef 1) vRef_1.symm ?_
    refine g_iret (n := 20) rfl (fun h => nomatch h) ?_
    exact ⟨rfl, rfl, rfl⟩
theorem c_cFree {sc : List Value} {nm : Nat} {I : mg_I} {B : Nat} {d : Nat → Int32} (hB : isCliff B) (hR : rK I B d) {y : Int32} : SP sc 2 19 [.ref B, .int y] I nm (qE (bI ((0 ≤ y.toInt ∧ y.toInt ≤ 23) ∧ fAt d y < d (10 + cl y))) I nm) := by
  refine SP.of (h := 1) (t := 19) (q := (yX1_isFree, cX1_isFree, 2, (some .boolean), 1, 777, mi_k19)) rfl (by decide) (show ¬ (2 : Nat) < 2 by decide) (fun dd hd => ?_)
  show GG sc 1 false true mi_k19 dd 0 [.ref B, .int y] [] I nm (qE (bI ((0 ≤ y.toInt ∧ y.toInt ≤ 23) ∧ fAt d y < d (10 + cl y))) I nm)
  have hN8 := (rK_N hR).2
  refine g_iload_n (n := 1) rfl rfl ?_
  refine g_cn1 (n := 4) (t := 131) (x := (387, 388, 71)) rfl (by decide +kernel) (by decide +kernel) (by decide +kernel) (by rfl) c_sYard (by omega) (g_E ?_)
  refine g_split (fun hy => ?_) (fun hy => ?_)
  ·
    refine g_ifeq1 (n := 7) 25 rfl (by decide) ?_
    obtain ⟨yy, hyy, rfl, hcy⟩ := iR_nI (x := y) (n := 24) ⟨by omega, by omega⟩
    refine g_aload_n (n := 8) rfl rfl ?_
    refine g_iload_n (n := 9) rfl rfl ?_
    refine g_cv1 (n := 12) (t := 12) (ci := 1) rfl (by decide +kernel) (by decide +kernel) (cf_hd hB) (cf_136 hB) (by decide +kernel) (by rfl) (c_crowd hB hR) (by omega) (g_E ?_)
    refine g_aload_n (n := 13) rfl rfl ?_
    refine g_getr (n := 16) (ci := 1) (j := 0) (b := (B + 1)) rfl (by decide +kernel) (cf_hd hB) (cf_lt hB (by decide)) (cf_r0 hB) ?_
    refine g_iload_n (n := 17) rfl rfl ?_
    refine g_iald (n := 18) (yy) rfl (cf_1h hB) rfl (by rw [cf_1s hB]; omega) ?_
    refine g_top (w := d (10 + yy)) (rK_s hR (by omega)) ?_
    refine g_icge (n := 21) 25 rfl (by decide) (fun h1 => ?_) (fun h1 => ?_)
    ·
      refine g_iconst (n := 26) (v := 0) rfl rfl ?_
      refine g_iret (n := 27) rfl (fun _ => by first | exact Or.inl rfl | exact Or.inr rfl | exact bI_01 | (rw [hb]; exact bP_01)) ?_
      exact ⟨congrArg (fun z => some (Value.int z)) (by first | exact (bI_t ⟨hy, by rw [show cl (nI yy) = yy from hcy]; exact Int32.not_le.mp (by assumption)⟩).symm | exact (bI_f (fun q => absurd (show fAt d (nI yy) < d (10 + yy) by have := q.2; rw [show cl (nI yy) = yy from hcy] at this; exact this) (Int32.not_lt.mpr (by assumption)))).symm | exact (bI_f (fun q => hy q.1)).symm), rfl, rfl⟩
    ·
      refine g_iconst (n := 22) (v := 1) rfl rfl ?_
      refine g_goto 26 rfl (by decide) ?_
      refine g_iret (n := 27) rfl (fun _ => by first | exact Or.inl rfl | exact Or.inr rfl | exact bI_01 | (rw [hb]; exact bP_01)) ?_
      exact ⟨congrArg (fun z => some (Value.int z)) (by first | exact (bI_t ⟨hy, by rw [show cl (nI yy) = yy from hcy]; exact Int32.not_le.mp (by assumption)⟩).symm | exact (bI_f (fun q => absurd (show fAt d (nI yy) < d (10 + yy) by have := q.2; rw [show cl (nI yy) = yy from hcy] at this; exact this) (Int32.not_lt.mpr (by assumption)))).symm | exact (bI_f (fun q => hy q.1)).symm), rfl, rfl⟩
  ·
    refine g_ifeq0 (n := 7) 25 rfl (by decide) ?_
    refine g_iconst (n := 26) (v := 0) rfl rfl ?_
    refine g_iret (n := 27) rfl (fun _ => by first | exact Or.inl rfl | exact Or.inr rfl | exact bI_01 | (rw [hb]; exact bP_01)) ?_
    exact ⟨congrArg (fun z => some (Value.int z)) (by first | exact (bI_t ⟨hy, by rw [show cl (nI yy) = yy from hcy]; exact Int32.not_le.mp (by assumption)⟩).symm | exact (bI_f (fun q => absurd (show fAt d (nI yy) < d (10 + yy) by have := q.2; rw [show cl (nI yy) = yy from hcy] at this; exact this) (Int32.not_lt.mpr (by assumption)))).symm | exact (bI_f (fun q => hy q.1)).symm), rfl, rfl⟩
theorem c_cAll {sc : List Value} {nm : Nat} {I : mg_I} {B : Nat} {d : Nat → Int32} (hB : isCliff B) (hR : rK I B d) : SP sc 2 24 [.ref B] I nm (qE (bI (fMany d 2 = d 0)) I nm) := by
  refine SP.of (h := 1) (t := 24) (q := (yX1_allOver, cX1_allOver, 1, (some .boolean), 1, 839, mi_k24)) rfl (by decide) (show ¬ (1 : Nat) < 1 by decide) (fun dd hd => ?_)
  show GG sc 1 false true mi_k24 dd 0 [.ref B] [] I nm (qE (bI (fMany d 2 = d 0)) I nm)
  have hN8 := (rK_N hR).2
  refine g_aload_n (n := 1) rfl rfl ?_
  refine g_iconst (n := 2) (v := 2) rfl rfl ?_
  refine g_cv1 (n := 5) (t := 13) (ci := 1) rfl (by decide +kernel) (by decide +kernel) (cf_hd hB) (cf_136 hB) (by decide +kernel) (by rfl) (c_cHow hB hR) (by omega) (g_E ?_)
  refine g_aload_n (n := 6) rfl rfl ?_
  refine g_getv (n := 9) (ci := 1) (j := 2) (v := nI (fN d)) ((rK_n hR (j := 0) (by omega)).trans (rK_N hR).1) rfl (by decide +kernel) rfl (by decide) (cf_hd hB) ?_
  refine g_icne (n := 12) 16 rfl (by decide) (fun h1 => ?_) (fun h1 => ?_)
  ·
    refine g_iconst (n := 17) (v := 0) rfl rfl ?_
    refine g_iret (n := 18) rfl (fun _ => by first | exact Or.inl rfl | exact Or.inr rfl | exact bI_01 | (rw [hb]; exact bP_01)) ?_
    exact ⟨congrArg (fun z => some (Value.int z)) (by rw [(rK_N hR).1]; first | exact (bI_t (by assumption)).symm | exact (bI_f (by assumption)).symm), rfl, rfl⟩
  ·
    refine g_iconst (n := 13) (v := 1) rfl rfl ?_
    refine g_goto 17 rfl (by decide) ?_
    refine g_iret (n := 18) rfl (fun _ => by first | exact Or.inl rfl | exact Or.inr rfl | exact bI_01 | (rw [hb]; exact bP_01)) ?_
    exact ⟨congrArg (fun z => some (Value.int z)) (by rw [(rK_N hR).1]; first | exact (bI_t (by assumption)).symm | exact (bI_f (by assumption)).symm), rfl, rfl⟩
def pLater (d : Nat → Int32) (n : Nat) : Prop := ∃ g, g < n ∧ fO d g 5 = 0 ∧ d 1 < fO d g 4
theorem c_cLater {sc : List Value} {nm : Nat} {I : mg_I} {B : Nat} {d : Nat → Int32} (hB : isCliff B) (hR : rK I B d) : SP sc 1 25 [.ref B] I nm (qE (bP (pLater d (fN d))) I nm) := by
  refine SP.of (h := 0) (t := 25) (q := (yX1_someStartLater, cX1_someStartLater, 2, (some .boolean), 1, 845, mi_k25)) rfl (by decide) (show ¬ (2 : Nat) < 1 by decide) (fun dd hd => ?_)
  show GG sc 1 false true mi_k25 dd 0 [.ref B, .null] [] I nm (qE (bP (pLater d (fN d))) I nm)
  have hN8 := (rK_N hR).2
  have H : ∀ (m k : Nat), k + m = fN d → ¬ pLater d k → GG sc 1 false true mi_k25 dd 2 [.ref B, .int (nI k)] [] I nm (qE (bP (pLater d (fN d))) I nm) := by
    intro m
    induction m with
    | zero =>
      intro k  hk hno
      refine g_iload_n (n := 3) rfl rfl ?_
      refine g_aload_n (n := 4) rfl rfl ?_
      refine g_getv (n := 7) (ci := 1) (j := 2) (v := nI (fN d)) ((rK_n hR (j := 0) (by omega)).trans (rK_N hR).1) rfl (by decide +kernel) rfl (by decide) (cf_hd hB) ?_
      refine g_icge (n := 10) 46 rfl (by decide) (fun h1 => ?_) (fun h1 => ?_)
      ·
        refine g_iconst (n := 47) (v := 0) rfl rfl ?_
        refine g_iret (n := 48) rfl (fun _ => by first | exact Or.inl rfl | exact Or.inr rfl | exact bI_01 | (rw [hb]; exact bP_01)) ?_
        rw [bP_f (show ¬ pLater d (fN d) from fun q => hno (by rw [show k = fN d by omega]; exact q))]; exact ⟨rfl, rfl, rfl⟩
      ·
        exact absurd (fN_nle rfl (by omega) (by omega) h1) (by omega)
    | succ m ih =>
      intro k  hk hno
      refine g_iload_n (n := 3) rfl rfl ?_
      refine g_aload_n (n := 4) rfl rfl ?_
      refine g_getv (n := 7) (ci := 1) (j := 2) (v := nI (fN d)) ((rK_n hR (j := 0) (by omega)).trans (rK_N hR).1) rfl (by decide +kernel) rfl (by decide) (cf_hd hB) ?_
      refine g_icge (n := 10) 46 rfl (by decide) (fun h1 => ?_) (fun h1 => ?_)
      ·
        exact absurd (fN_le rfl (by omega) (by omega) h1) (by omega)
      ·
        refine g_aload_n (n := 11) rfl rfl ?_
        refine g_getr (n := 14) (ci := 1) (j := 1) (b := (B + 2)) rfl (by decide +kernel) (cf_hd hB) (cf_lt hB (by decide)) (cf_r1 hB) ?_
        refine g_iload_n (n := 15) rfl rfl ?_
        refine g_aald (n := 16) (b := (B + 3 + k)) (k) rfl (cf_2a hB) (cf_2h hB) rfl (cf_2x hB (by omega)) (cf_2r hB (by omega)) ?_
        refine g_getv (n := 19) (ci := 4) (j := 6) (v := fO d k 5) (rK_g hR (show k < fN d by omega) (w := 5) (by omega)) rfl (by decide +kernel) rfl (by decide) (cf_gh hB (show k < 8 by omega)) ?_
        refine g_ifne (n := 22) 40 rfl (by decide) (fun h2 => ?_) (fun h2 => ?_)
        ·
          refine g_iinc1 (n := 43) rfl rfl (nI_inc _) ?_
          refine g_goto 2 rfl (by decide) ?_
          refine ih (k + 1) (by omega) (fun q => ?_)
          obtain ⟨g, hg, q1, q2⟩ := q
          by_cases e : g = k
          · subst e; exact h2 q1
          · exact hno ⟨g, by omega, q1, q2⟩
        ·
          refine g_aload_n (n := 23) rfl rfl ?_
          refine g_getr (n := 26) (ci := 1) (j := 1) (b := (B + 2)) rfl (by decide +kernel) (cf_hd hB) (cf_lt hB (by decide)) (cf_r1 hB) ?_
          refine g_iload_n (n := 27) rfl rfl ?_
          refine g_aald (n := 28) (b := (B + 3 + k)) (k) rfl (cf_2a hB) (cf_2h hB) rfl (cf_2x hB (by omega)) (cf_2r hB (by omega)) ?_
          refine g_getv (n := 31) (ci := 4) (j := 5) (v := fO d k 4) (rK_g hR (show k < fN d by omega) (w := 4) (by omega)) rfl (by decide +kernel) rfl (by decide) (cf_gh hB (show k < 8 by omega)) ?_
          refine g_aload_n (n := 32) rfl rfl ?_
          refine g_getv (n := 35) (ci := 1) (j := 3) (v := d 1) (rK_n hR (j := 1) (by omega)) rfl (by decide +kernel) rfl (by decide) (cf_hd hB) ?_
          refine g_icle (n := 38) 40 rfl (by decide) (fun h3 => ?_) (fun h3 => ?_)
          ·
            refine g_iinc1 (n := 43) rfl rfl (nI_inc _) ?_
            refine g_goto 2 rfl (by decide) ?_
            refine ih (k + 1) (by omega) (fun q => ?_)
            obtain ⟨g, hg, q1, q2⟩ := q
            by_cases e : g = k
            · subst e; exact Int32.not_lt.mpr h3 q2
            · exact hno ⟨g, by omega, q1, q2⟩
          ·
            refine g_iconst (n := 39) (v := 1) rfl rfl ?_
            refine g_iret (n := 40) rfl (fun _ => by first | exact Or.inl rfl | exact Or.inr rfl | exact bI_01 | (rw [hb]; exact bP_01)) ?_
            rw [bP_t ⟨k, by omega, h2, Int32.not_le.mp h3⟩]; exact ⟨rfl, rfl, rfl⟩
  refine g_iconst (n := 1) (v := 0) rfl rfl ?_
  refine g_istore_n1 (n := 2) rfl rfl ?_
  exact H (fN d) 0 (by omega) (fun q => by obtain ⟨g, hg, _⟩ := q; exact absurd hg (Nat.not_lt_zero _))
theorem cMM_id {x : Int32} : cMM (-2147483648) 2147483647 x = x := by
  unfold cMM
  have h1 := Int32.le_toInt x
  have h2 := Int32.toInt_lt x
  have e1 : Int32.toInt (-2147483648) = -2147483648 := by decide
  have e2 : Int32.toInt 2147483647 = 2147483647 := by decide
  by_cases hx : x < 2147483647
  · rw [if_pos hx]
    split
    · rfl
    next h => exact Int32.toInt_inj.mp (by rw [Int32.lt_iff_toInt_lt] at h; omega)
  · rw [if_neg hx, if_pos (by decide)]
    exact Int32.toInt_inj.mp (by rw [Int32.lt_iff_toInt_lt] at hx; omega)
theorem cMM_held {x : Int32} : cMM (-99) 99 x = fHeld x (-99) 99 := by
  unfold cMM fHeld
  have e1 : Int32.toInt (-99) = -99 := by decide
  have e2 : Int32.toInt 99 = 99 := by decide
  by_cases hx : x < 99
  · rw [if_pos hx]
    by_cases hl : -99 < x
    · rw [if_pos hl, if_neg (fun q => by rw [Int32.lt_iff_toInt_lt] at q hl; omega), if_neg (fun q => by rw [Int32.lt_iff_toInt_lt] at q hx; omega)]
    · rw [if_neg hl]
      by_cases h3 : x < -99
      · rw [if_pos h3]
      · rw [if_neg h3, if_neg (fun q => by rw [Int32.lt_iff_toInt_lt] at q hx; omega)]
        exact Int32.toInt_inj.mp (by rw [Int32.lt_iff_toInt_lt] at hl h3; omega)
  · rw [if_neg hx, if_pos (by decide), if_neg (fun q => by rw [Int32.lt_iff_toInt_lt] at q hx; omega)]
    by_cases h3 : 99 < x
    · rw [if_pos h3]
    · rw [if_neg h3]
      exact Int32.toInt_inj.mp (by rw [Int32.lt_iff_toInt_lt] at hx h3; omega)
/-- what a use gives, in a cliff -/
theorem c_cText {sc : List Value} {nm : Nat} {I : mg_I} {B u : Nat} {d : Nat → Int32} {a b c : Int32} (hB : isCliff B) (hR : rK I B d) (hu : u < 2) : SP sc 3 67 [.ref (B + 16 + 7 * u), .int a, .int b, .int c] I nm (qVT (fText d u a b c) (B + 16 + 7 * u) I nm) := by
  obtain ⟨n, h1, h2, h3⟩ := rK_t hR hu
  refine (c_value (a := a) (b := b) (c := c) (cf_x hB hu) h2 h1).mono fun r I' nm' hq => ⟨hq.1.trans (congrArg (fun z => some (Value.int z)) ?_), hq.2⟩
  rw [h3]
  obtain ⟨_, k1, k2, k3, k4⟩ := rK_a hR
  unfold fText
  obtain rfl | rfl : u = 0 ∨ u = 1 := by omega
  · rw [if_pos rfl, show I (B + 16 + 7 * 0) 0 = -2147483648 from k1, show I (B + 16 + 7 * 0) 1 = 2147483647 from k2]
    exact cMM_id
  · rw [if_neg (by decide), show I (B + 16 + 7 * 1) 0 = -99 from k3, show I (B + 16 + 7 * 1) 1 = 99 from k4]
    exact cMM_held
theorem g_VT {sc : List Value} {own : Nat} {ini rz : Bool} {code : List (Nat × Instr)} {d n : Nat} {ls : List Value} {I : mg_I} {nm0 : Nat} {Q : Option Value → mg_I → Nat → Prop} {r : List Value} {v : Int32} {T : Nat} (k : ∀ I', vF (T + 3) I I' → GG sc own ini rz code d n ls (.int v :: r) I' nm0 Q) : ∀ a I2 nm2, qVT v T I nm0 a I2 nm2 → GG sc own ini rz code d n ls (a.toList ++ r) I2 nm2 Q := by
  rintro a I2 nm2 ⟨rfl, h1, rfl⟩
  exact k I2 h1
theorem c_cRank {sc : List Value} {nm : Nat} {I : mg_I} {B : Nat} {d : Nat → Int32} (hB : isCliff B) (hR : rK I B d) {g : Nat} (hg : g < fN d) : SP sc 4 15 [.ref B, .ref (B + 3 + g)] I nm (qVT (fRank d g) (B + 16 + 7 * 0) I nm) := by
  refine SP.of (h := 3) (t := 15) (q := (yX1_rankOf, cX1_rankOf, 2, (some .int), 1, 536, mi_k15)) rfl (by decide) (show ¬ (2 : Nat) < 2 by decide) (fun dd hd => ?_)
  show GG sc 1 false false mi_k15 dd 0 [.ref B, .ref (B + 3 + g)] [] I nm (qVT (fRank d g) (B + 16 + 7 * 0) I nm)
  have hN8 := (rK_N hR).2
  refine g_aload_n (n := 1) rfl rfl ?_
  refine g_getr (n := 4) (ci := 1) (j := 9) (b := (B + 15)) rfl (by decide +kernel) (cf_hd hB) (cf_lt hB (by decide)) (cf_r9 hB) ?_
  refine g_iconst (n := 5) (v := 0) rfl rfl ?_
  refine g_aald (n := 6) (b := (B + 16 + 7 * 0)) (0) rfl (cf_15a hB) (cf_15h hB) rfl (cf_15x hB (by omega)) (cf_15r hB (by omega)) ?_
  refine g_aload_n (n := 7) rfl rfl ?_
  refine g_getv (n := 10) (ci := 4) (j := 13) (v := fLoad (fO d g 0) (fO d g 1)) (rK_p13 hR (show g < fN d by omega)) rfl (by decide +kernel) rfl (by decide) (cf_gh hB (show g < 8 by omega)) ?_
  refine g_aload_n (n := 11) rfl rfl ?_
  refine g_getv (n := 14) (ci := 4) (j := 0) (v := nI g) (rK_c hR (show g < 8 by omega)) rfl (by decide +kernel) rfl (by decide) (cf_gh hB (show g < 8 by omega)) ?_
  refine g_aload_n (n := 15) rfl rfl ?_
  refine g_getv (n := 18) (ci := 4) (j := 10) (v := fO d g 9) (rK_g hR (show g < fN d by omega) (w := 9) (by omega)) rfl (by decide +kernel) rfl (by decide) (cf_gh hB (show g < 8 by omega)) ?_
  refine g_cv3 (n := 21) (t := 67) (ci := 8) rfl (by decide +kernel) (by decide +kernel) (tx_hd (cf_x hB (u := 0) (by omega))) (tx_136 (cf_x hB (u := 0) (by omega))) (by decide +kernel) (by rfl) (c_cText (u := 0) hB hR (by omega)) (by omega) (g_VT fun I1 hv => ?_)
  refine g_iret (n := 22) rfl (fun h => nomatch h) ?_
  exact ⟨rfl, hv, rfl⟩
theorem c_cDraw {sc : List Value} {nm : Nat} {I : mg_I} {B : Nat} {d : Nat → Int32} (hB : isCliff B) (hR : rK I B d) : SP sc 1 16 [.ref B] I nm (qE (fZr (d 4 * 1103515245 + 12345)) (mf_up I B 6 (d 4 * 1103515245 + 12345)) nm) := by
  refine SP.of (h := 0) (t := 16) (q := (yX1_draw, cX1_draw, 1, (some .int), 1, 811, mi_k16)) rfl (by decide) (show ¬ (1 : Nat) < 1 by decide) (fun dd hd => ?_)
  show GG sc 1 false false mi_k16 dd 0 [.ref B] [] I nm (qE (fZr (d 4 * 1103515245 + 12345)) (mf_up I B 6 (d 4 * 1103515245 + 12345)) nm)
  have hN8 := (rK_N hR).2
  refine g_aload_n (n := 1) rfl rfl ?_
  refine g_aload_n (n := 2) rfl rfl ?_
  refine g_getv (n := 5) (ci := 1) (j := 6) (v := d 4) (rK_n hR (j := 4) (by omega)) rfl (by decide +kernel) rfl (by decide) (cf_hd hB) ?_
  refine g_ldc (n := 7) (v := 1103515245) (pl := 812) rfl (by decide +kernel) ?_
  refine g_imul (n := 8) rfl ?_
  refine g_sipush (n := 11) (v := 12345) rfl rfl ?_
  refine g_iadd (n := 12) rfl ?_
  refine g_puti (n := 15) (ci := 1) (j := 6) rfl (by decide +kernel) rfl (by decide) (cf_hd hB) (by decide +kernel) rfl ?_
  refine g_aload_n (n := 16) rfl rfl ?_
  refine g_getv (n := 19) (ci := 1) (j := 6) (v := d 4 * 1103515245 + 12345) (if_pos ⟨rfl, rfl⟩) rfl (by decide +kernel) rfl (by decide) (cf_hd hB) ?_
  refine g_bipush (n := 21) (v := 8) rfl rfl ?_
  refine g_iushr (n := 22) rfl ?_
  refine g_iret (n := 23) rfl (fun h => nomatch h) ?_
  exact ⟨rfl, rfl, rfl⟩
