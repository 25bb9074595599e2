/-! what a cliff holds, when it changes -/
theorem mf_ne {I : mg_I} {a j b k : Nat} {x : Int32} (h : ¬ (b = a ∧ k = j)) : mf_up I a j x b k = I b k := if_neg h
theorem mf_at {I : mg_I} {a j : Nat} {x : Int32} : mf_up I a j x a j = x := if_pos ⟨rfl, rfl⟩
theorem mf_row {I : mg_I} {a j b : Nat} {x : Int32} (h : b ≠ a) : mf_up I a j x b = I b := funext fun _ => if_neg (fun q => h q.1)
theorem fTb_c {d d' : Nat → Int32} {g : Nat} (h : d' 5 = d 5) : fTb d' g = fTb d g := by unfold fTb; rw [h]
theorem fN_c {d d' : Nat → Int32} (h : d' 0 = d 0) : fN d' = fN d := by unfold fN; rw [h]
theorem rK_eq {I : mg_I} {B : Nat} {d d' : Nat → Int32} (h : rK I B d) (e : d = d') : rK I B d' := e ▸ h
theorem up_comm {d : Nat → Int32} {i j : Nat} {a b : Int32} (h : i ≠ j) : up (up d i a) j b = up (up d j b) i a := by
  funext k
  unfold up
  by_cases h1 : k = i <;> by_cases h2 : k = j <;> simp_all
theorem up_same {d : Nat → Int32} {j : Nat} {v : Int32} (h : d j = v) : up d j v = d := by
  subst h
  exact up_self
theorem rK_put {I : mg_I} {B : Nat} {d : Nat → Int32} {g w : Nat} {x : Int32} (h : rK I B d) (hg : g < fN d) (hw : 2 ≤ w ∧ w < 10) : rK (mf_up I (B + 3 + g) (w + 1) x) B (up d (34 + 10 * g + w) x) := by
  obtain ⟨h1, h2, h3, h4, ⟨h5, h6, h7, h8, h9⟩, h10, h11⟩ := h
  have hN := (fN_eq h11).2
  have eN : fN (up d (34 + 10 * g + w) x) = fN d := fN_c (up_ne (by omega))
  refine ⟨fun j hj => ?_, fun y hy => ?_, fun k hk v hv => ?_, fun k hk => ?_, ⟨fun k hk => ?_, ?_, ?_, ?_, ?_⟩, fun u hu => ?_, by rw [up_ne (by omega)]; exact h11⟩
  · rw [mf_ne (by omega), up_ne (by omega)]; exact h1 j hj
  · rw [mf_ne (by omega), up_ne (by omega)]; exact h2 y hy
  · rw [eN] at hk
    by_cases e : k = g ∧ v = w
    · obtain ⟨rfl, rfl⟩ := e
      rw [mf_at, fO_at]
    · rw [mf_ne (by omega), fO_up (by omega)]; exact h3 k hk v hv
  · rw [eN] at hk
    rw [mf_ne (by omega), mf_ne (by omega), mf_ne (by omega), mf_ne (by omega), mf_ne (by omega), fTb_c (d := d) (up_ne (by omega)), fO_up (by omega), fO_up (by omega)]; exact h4 k hk
  · rw [mf_ne (by omega)]; exact h5 k hk
  · rw [mf_ne (by omega)]; exact h6
  · rw [mf_ne (by omega)]; exact h7
  · rw [mf_ne (by omega)]; exact h8
  · rw [mf_ne (by omega)]; exact h9
  · obtain ⟨n, k1, k2, k3⟩ := h10 u hu
    refine ⟨n, k1, by rw [mf_ne (by omega)]; exact k2, fun a b c => ?_⟩
    rw [mf_row (by omega), k3]
    exact (fGive_c (up_ne (by omega)) (fun i hi => up_ne (by omega))).symm
theorem rK_num {I : mg_I} {B : Nat} {d : Nat → Int32} {q : Nat} {x : Int32} (h : rK I B d) (hq : 1 ≤ q ∧ q < 5) : rK (mf_up I (B) (q + 2) x) B (up d (q) x) := by
  obtain ⟨h1, h2, h3, h4, ⟨h5, h6, h7, h8, h9⟩, h10, h11⟩ := h
  have hN := (fN_eq h11).2
  have eN : fN (up d (q) x) = fN d := fN_c (up_ne (by omega))
  refine ⟨fun j hj => ?_, fun y hy => ?_, fun k hk v hv => ?_, fun k hk => ?_, ⟨fun k hk => ?_, ?_, ?_, ?_, ?_⟩, fun u hu => ?_, by rw [up_ne (by omega)]; exact h11⟩
  · by_cases e : j = q
    · subst e; rw [mf_at, up_at]
    · rw [mf_ne (by omega), up_ne (by omega)]; exact h1 j hj
  · rw [mf_ne (by omega), up_ne (by omega)]; exact h2 y hy
  · rw [eN] at hk; rw [mf_ne (by omega), fO_up (by omega)]; exact h3 k hk v hv
  · rw [eN] at hk
    rw [mf_ne (by omega), mf_ne (by omega), mf_ne (by omega), mf_ne (by omega), mf_ne (by omega), fTb_c (d := d) (up_ne (by omega)), fO_up (by omega), fO_up (by omega)]; exact h4 k hk
  · rw [mf_ne (by omega)]; exact h5 k hk
  · rw [mf_ne (by omega)]; exact h6
  · rw [mf_ne (by omega)]; exact h7
  · rw [mf_ne (by omega)]; exact h8
  · rw [mf_ne (by omega)]; exact h9
  · obtain ⟨n, k1, k2, k3⟩ := h10 u hu
    refine ⟨n, k1, by rw [mf_ne (by omega)]; exact k2, fun a b c => ?_⟩
    rw [mf_row (by omega), k3]
    exact (fGive_c (up_ne (by omega)) (fun i hi => up_ne (by omega))).symm
theorem rK_space {I : mg_I} {B : Nat} {d : Nat → Int32} {q : Nat} {x : Int32} (h : rK I B d) (hq : q < 24) : rK (mf_up I (B + 1) (q) x) B (up d (10 + q) x) := by
  obtain ⟨h1, h2, h3, h4, ⟨h5, h6, h7, h8, h9⟩, h10, h11⟩ := h
  have hN := (fN_eq h11).2
  have eN : fN (up d (10 + q) x) = fN d := fN_c (up_ne (by omega))
  refine ⟨fun j hj => ?_, fun y hy => ?_, fun k hk v hv => ?_, fun k hk => ?_, ⟨fun k hk => ?_, ?_, ?_, ?_, ?_⟩, fun u hu => ?_, by rw [up_ne (by omega)]; exact h11⟩
  · rw [mf_ne (by omega), up_ne (by omega)]; exact h1 j hj
  · by_cases e : y = q
    · subst e; rw [mf_at, up_at]
    · rw [mf_ne (by omega), up_ne (by omega)]; exact h2 y hy
  · rw [eN] at hk; rw [mf_ne (by omega), fO_up (by omega)]; exact h3 k hk v hv
  · rw [eN] at hk
    rw [mf_ne (by omega), mf_ne (by omega), mf_ne (by omega), mf_ne (by omega), mf_ne (by omega), fTb_c (d := d) (up_ne (by omega)), fO_up (by omega), fO_up (by omega)]; exact h4 k hk
  · rw [mf_ne (by omega)]; exact h5 k hk
  · rw [mf_ne (by omega)]; exact h6
  · rw [mf_ne (by omega)]; exact h7
  · rw [mf_ne (by omega)]; exact h8
  · rw [mf_ne (by omega)]; exact h9
  · obtain ⟨n, k1, k2, k3⟩ := h10 u hu
    refine ⟨n, k1, by rw [mf_ne (by omega)]; exact k2, fun a b c => ?_⟩
    rw [mf_row (by omega), k3]
    exact (fGive_c (up_ne (by omega)) (fun i hi => up_ne (by omega))).symm
theorem fTb_or {d : Nat → Int32} {g h : Nat} {d' : Nat → Int32} (h5 : iR (d 5) 256) (hg : g < 8) (hd : d' 5 = (d 5 ||| fBit g)) : fTb d' h = if h = g then 1 else fTb d h := by
  obtain ⟨f, hf, e, _⟩ := iR_nI h5
  obtain ⟨e2, hl⟩ := fb_or f hf g hg
  unfold fTb
  rw [hd, e, e2, show cl (nI (f ||| 2 ^ g)) = f ||| 2 ^ g from nI_clamp (by omega), show cl (nI f) = f from nI_clamp (by omega)]
  by_cases hh : h = g
  · subst hh
    rw [if_pos rfl]
    exact bI_t (by rw [Nat.testBit_or, Nat.testBit_two_pow_self]; simp)
  · rw [if_neg hh]
    exact bI_eq (by rw [Nat.testBit_or, Nat.testBit_two_pow_of_ne (Ne.symm hh)]; simp)
theorem tb255 : ∀ g, g < 8 → ∀ h, h < 8 → (255 - 2 ^ g).testBit h = decide (h ≠ g) := by decide +kernel
theorem fTb_and {d : Nat → Int32} {g h : Nat} {d' : Nat → Int32} (h5 : iR (d 5) 256) (hg : g < 8) (hh : h < 8) (hd : d' 5 = (d 5 &&& (fBit g ^^^ -1))) : fTb d' h = if h = g then 0 else fTb d h := by
  obtain ⟨f, hf, e, _⟩ := iR_nI h5
  obtain ⟨e2, hl⟩ := fb_and f hf g hg
  unfold fTb
  rw [hd, e, e2, show cl (nI (f &&& (255 - 2 ^ g))) = f &&& (255 - 2 ^ g) from nI_clamp (by omega), show cl (nI f) = f from nI_clamp (by omega)]
  by_cases e3 : h = g
  · subst e3
    rw [if_pos rfl]
    exact bI_f (by rw [Nat.testBit_and, tb255 h hg h hg]; simp)
  · rw [if_neg e3]
    exact bI_eq (by rw [Nat.testBit_and, tb255 g hg h hh]; simp [e3])
theorem rK_flt {I : mg_I} {B : Nat} {d : Nat → Int32} {g : Nat} {x y : Int32} (h : rK I B d) (hg : g < fN d) (hf : ∀ k, k < fN d → fTb (up d 5 y) k = if k = g then x else fTb d k) : rK (mf_up I (B + 3 + g) 11 x) B (up d 5 y) := by
  obtain ⟨h1, h2, h3, h4, ⟨h5, h6, h7, h8, h9⟩, h10, h11⟩ := h
  have hN := (fN_eq h11).2
  have eN : fN (up d 5 y) = fN d := fN_c (up_ne (by omega))
  refine ⟨fun j hj => ?_, fun y hy => ?_, fun k hk v hv => ?_, fun k hk => ?_, ⟨fun k hk => ?_, ?_, ?_, ?_, ?_⟩, fun u hu => ?_, by rw [up_ne (by omega)]; exact h11⟩
  · rw [mf_ne (by omega), up_ne (by omega)]; exact h1 j hj
  · rw [mf_ne (by omega), up_ne (by omega)]; exact h2 y hy
  · rw [eN] at hk; rw [mf_ne (by omega), fO_up (by omega)]; exact h3 k hk v hv
  · rw [eN] at hk
    rw [hf k hk, mf_ne (j := 11) (k := 12) (by omega), mf_ne (j := 11) (k := 13) (by omega), mf_ne (j := 11) (k := 14) (by omega), mf_ne (j := 11) (k := 15) (by omega), fO_up (by omega), fO_up (by omega)]
    refine ⟨?_, (h4 k hk).2⟩
    by_cases e : k = g
    · subst e; rw [mf_at, if_pos rfl]
    · rw [mf_ne (by omega), if_neg e]; exact (h4 k hk).1
  · rw [mf_ne (by omega)]; exact h5 k hk
  · rw [mf_ne (by omega)]; exact h6
  · rw [mf_ne (by omega)]; exact h7
  · rw [mf_ne (by omega)]; exact h8
  · rw [mf_ne (by omega)]; exact h9
  · obtain ⟨n, k1, k2, k3⟩ := h10 u hu
    refine ⟨n, k1, by rw [mf_ne (by omega)]; exact k2, fun a b c => ?_⟩
    rw [mf_row (by omega), k3]
    exact (fGive_c (up_ne (by omega)) (fun i hi => up_ne (by omega))).symm
theorem fN_up {d : Nat → Int32} {j : Nat} {v : Int32} (h : j ≠ 0) : fN (up d j v) = fN d := fN_c (up_ne (Ne.symm h))
/-- leaving -/
theorem rK_lv {I : mg_I} {B g : Nat} {d : Nat → Int32} {x : Int32} (h : rK I B d) (hg : g < fN d) (h5 : iR (d 5) 256) : rK (lvM I (B + 3 + g) x) B (up (up (up (up (up d (34 + 10 * g + 5) x) (34 + 10 * g + 6) (-1)) (34 + 10 * g + 7) 0) (34 + 10 * g + 8) 0) 5 (d 5 &&& (fBit g ^^^ -1))) := by
  have hN := (rK_N h).2
  have a1 := rK_put (w := 5) (x := x) h hg (by omega)
  have a2 := rK_put (w := 6) (x := -1) a1 (by rw [fN_up (by omega)]; exact hg) (by omega)
  have a3 := rK_put (w := 7) (x := 0) a2 (by rw [fN_up (by omega), fN_up (by omega)]; exact hg) (by omega)
  have a4 := rK_put (w := 8) (x := 0) a3 (by rw [fN_up (by omega), fN_up (by omega), fN_up (by omega)]; exact hg) (by omega)
  refine rK_flt a4 (by rw [fN_up (by omega), fN_up (by omega), fN_up (by omega), fN_up (by omega)]; exact hg) (fun k hk => ?_)
  rw [fN_up (by omega), fN_up (by omega), fN_up (by omega), fN_up (by omega)] at hk
  have e5 : up (up (up (up d (34 + 10 * g + 5) x) (34 + 10 * g + 6) (-1)) (34 + 10 * g + 7) 0) (34 + 10 * g + 8) 0 5 = d 5 := by
    rw [up_ne (by omega), up_ne (by omega), up_ne (by omega), up_ne (by omega)]
  exact fTb_and (g := g) (d := up (up (up (up d (34 + 10 * g + 5) x) (34 + 10 * g + 6) (-1)) (34 + 10 * g + 7) 0) (34 + 10 * g + 8) 0) (by rw [e5]; exact h5) (by omega) (by omega) (by rw [up_at, e5])
theorem rK_over {I : mg_I} {B g : Nat} {d : Nat → Int32} (h : rK I B d) (hg : g < fN d) (h5 : iR (d 5) 256) (hw : fO d g 7 = 0) (hb : fO d g 8 = 0) : rK (lvM I (B + 3 + g) 2) B (fOver d g) := by
  refine rK_eq (rK_lv h hg h5) ?_
  unfold fOver
  have e1 : up (up (up d (34 + 10 * g + 5) 2) (34 + 10 * g + 6) (-1)) (34 + 10 * g + 7) 0 = up (up d (34 + 10 * g + 5) 2) (34 + 10 * g + 6) (-1) := up_same (by rw [up_ne (by omega), up_ne (by omega)]; exact hw)
  rw [e1, up_same (j := 34 + 10 * g + 8) (by rw [up_ne (by omega), up_ne (by omega)]; exact hb), up_ne (by omega), up_ne (by omega)]
theorem rK_home {I : mg_I} {B g : Nat} {d : Nat → Int32} (h : rK I B d) (hg : g < fN d) (h5 : iR (d 5) 256) : rK (hoM I (B + 3 + g)) B (fHome d g) := by
  have hN := (rK_N h).2
  have a := rK_put (w := 9) (x := 0) (rK_lv (x := 0) h hg h5) (by rw [fN_up (by omega), fN_up (by omega), fN_up (by omega), fN_up (by omega), fN_up (by omega)]; exact hg) (by omega)
  refine rK_eq a ?_
  unfold fHome
  rw [up_comm (i := 5) (by omega), up_ne (by omega), up_ne (by omega), up_ne (by omega), up_ne (by omega), up_ne (by omega)]
theorem rK_enter {I : mg_I} {B g : Nat} {d : Nat → Int32} (h : rK I B d) (hg : g < fN d) : rK (enM I (B + 3 + g)) B (up (up (up (up d (34 + 10 * g + 5) 1) (34 + 10 * g + 6) (fO d g 2)) (34 + 10 * g + 7) 0) (34 + 10 * g + 8) 0) := by
  have hN := (rK_N h).2
  have a1 := rK_put (w := 5) (x := 1) h hg (by omega)
  have a2 := rK_put (w := 6) (x := I (B + 3 + g) 3) a1 (by rw [fN_up (by omega)]; exact hg) (by omega)
  have a3 := rK_put (w := 7) (x := 0) a2 (by rw [fN_up (by omega), fN_up (by omega)]; exact hg) (by omega)
  have a4 := rK_put (w := 8) (x := 0) a3 (by rw [fN_up (by omega), fN_up (by omega), fN_up (by omega)]; exact hg) (by omega)
  rw [show I (B + 3 + g) 3 = fO d g 2 from rK_g h hg (w := 2) (by omega)] at a4
  unfold enM
  rw [show I (B + 3 + g) 3 = fO d g 2 from rK_g h hg (w := 2) (by omega)]
  exact a4
theorem rK_way {I : mg_I} {B g : Nat} {d : Nat → Int32} (h : rK I B d) (hg : g < fN d) : wy I (B + 3 + g) = fFaces d g := by
  unfold wy fFaces
  rw [show I (B + 3 + g) 3 = fO d g 2 from rK_g h hg (w := 2) (by omega), show I (B + 3 + g) 4 = fO d g 3 from rK_g h hg (w := 3) (by omega)]
theorem rK_ca {I : mg_I} {B g k : Nat} {d : Nat → Int32} (h : rK I B d) (hg : g < fN d) (hk : k < fN d) : bI (I (B + 3 + k) 6 = 1 ∧ I (B + 3 + k) 9 = 0 ∧ ¬ wy I (B + 3 + k) = wy I (B + 3 + g)) = bI (fO d k 5 = 1 ∧ fO d k 8 = 0 ∧ ¬ fFaces d k = fFaces d g) := by
  rw [rK_way h hg, rK_way h hk, show I (B + 3 + k) 6 = fO d k 5 from rK_g h hk (w := 5) (by omega), show I (B + 3 + k) 9 = fO d k 8 from rK_g h hk (w := 8) (by omega)]
/-! whether one is heard -/
theorem fFirst_none {p : Nat → Prop} [DecidablePred p] {n : Nat} (hn : n ≤ 8) : ∀ f k, n ≤ f + k → fFirst p n f k < 0 → ∀ j, k ≤ j → j < n → ¬ p j := by
  intro f
  induction f with
  | zero => intro k hk _ j h1 h2; omega
  | succ f ih =>
    intro k hk h j h1 h2
    rw [fFirst] at h
    by_cases hkn : n ≤ k
    · omega
    · rw [if_neg hkn] at h
      by_cases hp : p k
      · rw [if_pos hp] at h
        exact absurd h (nI_pos (by omega))
      · rw [if_neg hp] at h
        by_cases e : j = k
        · subst e; exact hp
        · exact ih (k + 1) (by omega) h j (by omega) h2
theorem fAgainst_none {d : Nat → Int32} {g : Nat} {y : Int32} (hN : iR (d 0) 9) (h : fAgainst d g y < 0) : ∀ j, j < fN d → ¬ gFace d g y j := fun j hj => fFirst_none (fN_eq hN).2 9 0 (by have := (fN_eq hN).2; omega) h j (Nat.zero_le _) hj
theorem pos_toInt {k c : Nat} {f : Int32} (hk : k < 24) (hc : c ≤ 27) (hf : f = 1 ∨ f = -1) : (nI k + nI c * f).toInt = (k : Int) + (c : Int) * f.toInt := by
  rcases hf with rfl | rfl
  · exact (show ∀ k, k < 24 → ∀ c, c < 28 → (nI k + nI c * 1).toInt = (k : Int) + (c : Int) * Int32.toInt 1 by decide +kernel) k hk c (by omega)
  · exact (show ∀ k, k < 24 → ∀ c, c < 28 → (nI k + nI c * -1).toInt = (k : Int) + (c : Int) * Int32.toInt (-1) by decide +kernel) k hk c (by omega)
theorem ap_toInt {a k : Nat} {f : Int32} (ha : a < 24) (hk : k < 24) (hf : f = 1 ∨ f = -1) : ((nI a - nI k) * f).toInt = ((a : Int) - (k : Int)) * f.toInt := by
  rcases hf with rfl | rfl
  · exact (show ∀ a, a < 24 → ∀ k, k < 24 → ((nI a - nI k) * 1).toInt = ((a : Int) - (k : Int)) * Int32.toInt 1 by decide +kernel) a ha k hk
  · exact (show ∀ a, a < 24 → ∀ k, k < 24 → ((nI a - nI k) * -1).toInt = ((a : Int) - (k : Int)) * Int32.toInt (-1) by decide +kernel) a ha k hk
theorem pos_1 {k c : Nat} {f : Int32} (hf : f = 1 ∨ f = -1) : nI k + nI c * f + f = nI k + nI (c + 1) * f := by
  rcases hf with rfl | rfl
  · rw [Int32.mul_one, Int32.mul_one, Int32.add_assoc, nI_1]
  · rw [← nI_1]
    apply Int32.toBitVec_inj.mp
    simp [BitVec.add_assoc, BitVec.add_mul]
/-- the c-th yard on is on the path, and no ledge -/
def pQ (d : Nat → Int32) (k : Nat) (f : Int32) (c : Nat) : Prop := (0 ≤ (nI k + nI c * f).toInt ∧ (nI k + nI c * f).toInt ≤ 23) ∧ ¬ 1 < d (10 + cl (nI k + nI c * f))
theorem pQ_lt {d : Nat → Int32} {k c : Nat} {f : Int32} (hk : k < 24) (hc : c ≤ 27) (hf : f = 1 ∨ f = -1) (h : pQ d k f c) : c < 24 := by
  have h1 := h.1
  rw [pos_toInt hk hc hf] at h1
  rcases hf with rfl | rfl
  · rw [show Int32.toInt 1 = 1 from rfl] at h1; omega
  · rw [show Int32.toInt (-1) = -1 from rfl] at h1; omega
def pHr (d : Nat → Int32) (g k : Nat) (c0 : Nat) : Prop := ∃ c, c0 ≤ c ∧ c ≤ 26 ∧ (∀ j, c0 ≤ j → j ≤ c → pQ d k (fFaces d g) j) ∧ ∃ h, h < fN d ∧ gFace d g (nI k + nI c * fFaces d g) h
theorem fHr_iff {d : Nat → Int32} {g k : Nat} (hk : k < 24) (hN : iR (d 0) 9) : ∀ m c, 26 ≤ m + c → c ≤ 26 → fHr d g m (nI k + nI c * fFaces d g) = bP (pHr d g k c) := by
  intro m
  induction m with
  | zero =>
    intro c h1 h2
    refine (bP_f ?_).symm
    rintro ⟨c', q1, q2, q3, _⟩
    have := pQ_lt hk (by omega) fFaces_in (q3 c (Nat.le_refl _) q1)
    omega
  | succ m ih =>
    intro c h1 h2
    rw [fHr]
    by_cases hr : 0 ≤ (nI k + nI c * fFaces d g).toInt ∧ (nI k + nI c * fFaces d g).toInt ≤ 23
    · rw [if_pos hr]
      by_cases hl : 1 < d (10 + (nI k + nI c * fFaces d g).toNatClampNeg)
      · rw [if_pos hl]
        refine (bP_f ?_).symm
        rintro ⟨c', q1, q2, q3, _⟩
        exact (q3 c (Nat.le_refl _) q1).2 hl
      · rw [if_neg hl]
        have hq : pQ d k (fFaces d g) c := ⟨hr, hl⟩
        have hc24 := pQ_lt hk (by omega) fFaces_in hq
        by_cases ha : fAgainst d g (nI k + nI c * fFaces d g) < 0
        · rw [if_pos ha, pos_1 fFaces_in, ih (c + 1) (by omega) (by omega)]
          refine bP_eq ⟨?_, ?_⟩
          · rintro ⟨c', q1, q2, q3, q4⟩
            refine ⟨c', by omega, q2, fun j hj1 hj2 => ?_, q4⟩
            by_cases e : j = c
            · subst e; exact hq
            · exact q3 j (by omega) hj2
          · rintro ⟨c', q1, q2, q3, h, hh, q4⟩
            have hne : c' ≠ c := fun e => fAgainst_none hN ha h hh (e ▸ q4)
            exact ⟨c', by omega, q2, fun j hj1 hj2 => q3 j (by omega) hj2, h, hh, q4⟩
        · rw [if_neg ha]
          obtain ⟨j, hj, _, hj2⟩ := fAgainst_in hN ha
          refine (bP_t ⟨c, Nat.le_refl _, h2, fun i i1 i2 => ?_, j, hj, hj2⟩).symm
          rw [show i = c by omega]
          exact hq
    · rw [if_neg hr]
      refine (bP_f ?_).symm
      rintro ⟨c', q1, q2, q3, _⟩
      exact hr (q3 c (Nat.le_refl _) q1).1
theorem fHeard_iff {d : Nat → Int32} {g k : Nat} (hk : k < 24) (hN : iR (d 0) 9) (hy : fO d g 6 = nI k) : fHeard d g = bP (pHr d g k 1) := by
  unfold fHeard
  have e : fO d g 6 + fFaces d g = nI k + nI 1 * fFaces d g := by
    rw [hy]
    refine congrArg (nI k + ·) ?_
    rcases @fFaces_in d g with h | h <;> rw [h] <;> rfl
  rw [e]
  exact fHr_iff hk hN 26 1 (by omega) (by omega)
def pHc (d : Nat → Int32) (g k c n : Nat) : Prop := ∃ h, h < n ∧ (fO d h 5 = 1 ∧ fO d h 8 = 0 ∧ ¬ fFaces d h = fFaces d g) ∧ 0 < (fO d h 6 - nI k) * fFaces d g ∧ (fO d h 6 - nI k) * fFaces d g < nI c
theorem pHc_iff {d : Nat → Int32} {g k c : Nat} (hw : gW d) (hk : k < 24) (hc1 : 1 ≤ c) (hc24 : c ≤ 24) (ha : ∀ j, 1 ≤ j → j < c → pQ d k (fFaces d g) j) (hb : c = 24 ∨ ¬ pQ d k (fFaces d g) c) : pHc d g k c (fN d) ↔ pHr d g k 1 := by
  have hN8 := (fN_eq hw.1.1).2
  have hf := @fFaces_in d g
  have key : ∀ a x : Nat, a < 24 → x ≤ 26 → (nI a = nI k + nI x * fFaces d g ↔ ((a : Int) - k) * (fFaces d g).toInt = x) := by
    intro a x ha hx
    have e1 := pos_toInt (k := k) (c := x) hk (by omega) hf
    constructor
    · intro q
      have e2 : (a : Int) = (nI k + nI x * fFaces d g).toInt := by rw [← q, nI_toInt (by omega)]
      rw [e2, e1]
      rcases hf with h | h <;> rw [h]
      · rw [show Int32.toInt 1 = 1 from rfl]; omega
      · rw [show Int32.toInt (-1) = -1 from rfl]; omega
    · intro q
      apply Int32.toInt_inj.mp
      rw [e1, nI_toInt (by omega)]
      rcases hf with h | h <;> rw [h] at q ⊢
      · rw [show Int32.toInt 1 = 1 from rfl] at q ⊢; omega
      · rw [show Int32.toInt (-1) = -1 from rfl] at q ⊢; omega
  constructor
  · rintro ⟨h, hh, ⟨q1, q2, q3⟩, q4, q5⟩
    obtain ⟨a, ha24, ea, _⟩ := iR_nI ((hw.1.2.2.2 h (by omega)).2.2 q1)
    rw [ea, Int32.lt_iff_toInt_lt, ap_toInt ha24 hk hf] at q4 q5
    rw [show Int32.toInt 0 = 0 from rfl] at q4
    rw [nI_toInt (by omega)] at q5
    obtain ⟨x, hx⟩ : ∃ x : Nat, ((a : Int) - k) * (fFaces d g).toInt = x := ⟨(((a : Int) - k) * (fFaces d g).toInt).toNat, by omega⟩
    rw [hx] at q4 q5
    exact ⟨x, by omega, by omega, fun j j1 j2 => ha j j1 (by omega), h, hh, q1, by rw [ea]; exact (key a x ha24 (by omega)).mpr hx, q2, q3⟩
  · rintro ⟨x, x1, x2, x3, h, hh, q1, q2, q3, q4⟩
    have hxc : x < c := by
      rcases Nat.lt_or_ge x c with hlt | hge
      · exact hlt
      · rcases hb with hb | hb
        · have := pQ_lt hk (by omega) hf (x3 x x1 (Nat.le_refl _)); omega
        · exact absurd (x3 c hc1 hge) hb
    obtain ⟨a, ha24, ea, _⟩ := iR_nI ((hw.1.2.2.2 h (by omega)).2.2 q1)
    have hx := (key a x ha24 (by omega)).mp (ea.symm.trans q2)
    refine ⟨h, hh, ⟨q1, q3, q4⟩, ?_, ?_⟩
    · rw [ea, Int32.lt_iff_toInt_lt, ap_toInt ha24 hk hf, hx, show Int32.toInt 0 = 0 from rfl]; omega
    · rw [ea, Int32.lt_iff_toInt_lt, ap_toInt ha24 hk hf, hx, nI_toInt (by omega)]; omega
theorem c_hears2 {sc : List Value} {nm : Nat} {I : mg_I} {B : Nat} {d : Nat → Int32} {g k c dd : Nat} (hB : isCliff B) (hR : rK I B d) (hw : gW d) (hg : g < fN d) (hk : k < 24) (hyk : fO d g 6 = nI k) (hc1 : 1 ≤ c) (hc24 : c ≤ 24) (ha : ∀ j, 1 ≤ j → j < c → pQ d k (fFaces d g) j) (hb : c = 24 ∨ ¬ pQ d k (fFaces d g) c) (hd : 4 ≤ dd) : GG sc 1 false true mi_k21 dd 48 [.ref B, .ref (B + 3 + g), .int (fFaces d g), .int (nI c), .null, .null] [] I nm (qE (fHeard d g) I nm) := by
  have hN8 := (rK_N hR).2
  have hheard : fHeard d g = bP (pHc d g k c (fN d)) := (fHeard_iff hk hw.1.1 hyk).trans (bP_eq (pHc_iff hw hk hc1 hc24 ha hb).symm)
  have H2 : ∀ (m k_ : Nat) {x5 : Value}, k_ + m = fN d → ¬ pHc d g k c k_ → GG sc 1 false true mi_k21 dd 51 [.ref B, .ref (B + 3 + g), .int (fFaces d g), .int (nI c), .int (nI k_), x5] [] I nm (qE (fHeard d g) I nm) := by
    intro m
    induction m with
    | zero =>
      intro k_ x5 hk_ hno
      refine g_iload (n := 53) rfl rfl ?_
      refine g_aload_n (n := 54) rfl rfl ?_
      refine g_getv (n := 57) (ci := 1) (j := 2) (v := nI (fN d)) ((rK_n hR (j := 0) (by omega)).trans (rK_N hR).1) rfl (by decide +kernel) rfl (by decide) (cf_hd hB) ?_
      refine g_icge (n := 60) 112 rfl (by decide) (fun h1 => ?_) (fun h1 => ?_)
      ·
        refine g_iconst (n := 113) (v := 0) rfl rfl ?_
        refine g_iret (n := 114) rfl (fun _ => by first | exact Or.inl rfl | exact Or.inr rfl | exact bI_01 | (rw [hb]; exact bP_01)) ?_
        rw [hheard, bP_f (show ¬ pHc d g k c (fN d) from fun q => hno (by rw [show k_ = fN d by omega]; exact q))]; exact ⟨rfl, rfl, rfl⟩
      ·
        exact absurd (fN_nle rfl (by omega) (by omega) h1) (by omega)
    | succ m ih =>
      intro k_ x5 hk_ hno
      refine g_iload (n := 53) rfl rfl ?_
      refine g_aload_n (n := 54) rfl rfl ?_
      refine g_getv (n := 57) (ci := 1) (j := 2) (v := nI (fN d)) ((rK_n hR (j := 0) (by omega)).trans (rK_N hR).1) rfl (by decide +kernel) rfl (by decide) (cf_hd hB) ?_
      refine g_icge (n := 60) 112 rfl (by decide) (fun h1 => ?_) (fun h1 => ?_)
      ·
        exact absurd (fN_le rfl (by omega) (by omega) h1) (by omega)
      ·
        refine g_aload_n (n := 61) rfl rfl ?_
        refine g_getr (n := 64) (ci := 1) (j := 1) (b := (B + 2)) rfl (by decide +kernel) (cf_hd hB) (cf_lt hB (by decide)) (cf_r1 hB) ?_
        refine g_iload (n := 66) rfl rfl ?_
        refine g_aald (n := 67) (b := (B + 3 + k_)) (k_) rfl (cf_2a hB) (cf_2h hB) rfl (cf_2x hB (by omega)) (cf_2r hB (by omega)) ?_
        refine g_getv (n := 70) (ci := 4) (j := 7) (v := fO d k_ 6) (rK_g hR (show k_ < fN d by omega) (w := 6) (by omega)) rfl (by decide +kernel) rfl (by decide) (cf_gh hB (show k_ < 8 by omega)) ?_
        refine g_aload_n (n := 71) rfl rfl ?_
        refine g_getv (n := 74) (ci := 4) (j := 7) (v := nI k) ((rK_g hR hg (w := 6) (by omega)).trans hyk) rfl (by decide +kernel) rfl (by decide) (cf_gh hB (by omega)) ?_
        refine g_isub (n := 75) rfl ?_
        refine g_iload_n (n := 76) rfl rfl ?_
        refine g_imul (n := 77) rfl ?_
        refine g_istore5 (n := 79) rfl rfl ?_
        refine g_aload_n (n := 80) rfl rfl ?_
        refine g_getr (n := 83) (ci := 1) (j := 1) (b := (B + 2)) rfl (by decide +kernel) (cf_hd hB) (cf_lt hB (by decide)) (cf_r1 hB) ?_
        refine g_iload (n := 85) rfl rfl ?_
        refine g_aald (n := 86) (b := (B + 3 + k_)) (k_) rfl (cf_2a hB) (cf_2h hB) rfl (cf_2x hB (by omega)) (cf_2r hB (by omega)) ?_
        refine g_aload_n (n := 87) rfl rfl ?_
        refine g_cv1 (n := 90) (t := 42) (ci := 4) rfl (by decide +kernel) (by decide +kernel) (cf_gh hB (by omega)) (cf_g1 hB (by omega)) (by decide +kernel) (by rfl) (c_comesA (cf_G hB (by omega)) (cf_G hB (by omega))) (by omega) (g_E ?_)
        refine g_top (rK_ca hR hg (by omega)) ?_
        refine g_split (fun hc1 => ?_) (fun hc0 => ?_)
        ·
          refine g_ifeq1 (n := 93) 106 rfl (by decide) ?_
          refine g_iload (n := 95) rfl rfl ?_
          refine g_ifle (n := 98) 106 rfl (by decide) (fun h2 => ?_) (fun h2 => ?_)
          ·
            refine g_iinc4 (n := 109) rfl rfl (nI_inc _) ?_
            refine g_goto 51 rfl (by decide) ?_
            refine ih (k_ + 1) (by omega) (fun q => ?_)
            obtain ⟨h, hh, q1, q2, q3⟩ := q
            by_cases e : h = k_
            · subst e; exact Int32.not_le.mpr q2 h2
            · exact hno ⟨h, by omega, q1, q2, q3⟩
          ·
            refine g_iload (n := 100) rfl rfl ?_
            refine g_iload_n (n := 101) rfl rfl ?_
            refine g_icge (n := 104) 106 rfl (by decide) (fun h3 => ?_) (fun h3 => ?_)
            ·
              refine g_iinc4 (n := 109) rfl rfl (nI_inc _) ?_
              refine g_goto 51 rfl (by decide) ?_
              refine ih (k_ + 1) (by omega) (fun q => ?_)
              obtain ⟨h, hh, q1, q2, q3⟩ := q
              by_cases e : h = k_
              · subst e; exact Int32.not_lt.mpr h3 q3
              · exact hno ⟨h, by omega, q1, q2, q3⟩
            ·
              refine g_iconst (n := 105) (v := 1) rfl rfl ?_
              refine g_iret (n := 106) rfl (fun _ => by first | exact Or.inl rfl | exact Or.inr rfl | exact bI_01 | (rw [hb]; exact bP_01)) ?_
              rw [hheard, bP_t ⟨k_, by omega, hc1, Int32.not_le.mp h2, Int32.not_le.mp h3⟩]; exact ⟨rfl, rfl, rfl⟩
        ·
          refine g_ifeq0 (n := 93) 106 rfl (by decide) ?_
          refine g_iinc4 (n := 109) rfl rfl (nI_inc _) ?_
          refine g_goto 51 rfl (by decide) ?_
          refine ih (k_ + 1) (by omega) (fun q => ?_)
          obtain ⟨h, hh, q1, q2, q3⟩ := q
          by_cases e : h = k_
          · subst e; exact hc0 q1
          · exact hno ⟨h, by omega, q1, q2, q3⟩
  refine g_iconst (n := 49) (v := 0) rfl rfl ?_
  refine g_istore4 (n := 51) rfl rfl ?_
  exact H2 (fN d) 0 (by omega) (fun q => by obtain ⟨h, hh, _⟩ := q; exact absurd hh (Nat.not_lt_zero _))
theorem c_cHears {sc : List Value} {nm : Nat} {I : mg_I} {B : Nat} {d : Nat → Int32} (hB : isCliff B) (hR : rK I B d) {g k : Nat} (hw : gW d) (hg : g < fN d) (hk : k < 24) (hyk : fO d g 6 = nI k) : SP sc 5 21 [.ref B, .ref (B + 3 + g)] I nm (qE (fHeard d g) I nm) := by
  refine SP.of (h := 4) (t := 21) (q := (yX1_hearsSomebody, cX1_hearsSomebody, 6, (some .boolean), 1, 764, mi_k21)) rfl (by decide) (show ¬ (6 : Nat) < 2 by decide) (fun dd hd => ?_)
  show GG sc 1 false true mi_k21 dd 0 [.ref B, .ref (B + 3 + g), .null, .null, .null, .null] [] I nm (qE (fHeard d g) I nm)
  have hN8 := (rK_N hR).2
  have H : ∀ (m c : Nat), c + m = 24 → 1 ≤ c → (∀ j, 1 ≤ j → j < c → pQ d k (fFaces d g) j) → GG sc 1 false true mi_k21 dd 7 [.ref B, .ref (B + 3 + g), .int (fFaces d g), .int (nI c), .null, .null] [] I nm (qE (fHeard d g) I nm) := by
    intro m
    induction m with
    | zero =>
      intro c hc hc1 ha
      refine g_iload_n (n := 8) rfl rfl ?_
      refine g_bipush (n := 10) (v := 24) rfl rfl ?_
      refine g_icge (n := 13) 48 rfl (by decide) (fun h1 => ?_) (fun h1 => ?_)
      ·
        exact c_hears2 hB hR hw hg hk hyk hc1 (by omega) ha (Or.inl (by omega)) (by omega)
      ·
        exact absurd (fN_nle (n := 24) rfl (by omega) (by omega) h1) (by omega)
    | succ m ih =>
      intro c hc hc1 ha
      refine g_iload_n (n := 8) rfl rfl ?_
      refine g_bipush (n := 10) (v := 24) rfl rfl ?_
      refine g_icge (n := 13) 48 rfl (by decide) (fun h1 => ?_) (fun h1 => ?_)
      ·
        exact absurd (fN_le (n := 24) rfl (by omega) (by omega) h1) (by omega)
      ·
        refine g_aload_n (n := 14) rfl rfl ?_
        refine g_getv (n := 17) (ci := 4) (j := 7) (v := nI k) ((rK_g hR hg (w := 6) (by omega)).trans hyk) rfl (by decide +kernel) rfl (by decide) (cf_gh hB (by omega)) ?_
        refine g_iload_n (n := 18) rfl rfl ?_
        refine g_iload_n (n := 19) rfl rfl ?_
        refine g_imul (n := 20) rfl ?_
        refine g_iadd (n := 21) rfl ?_
        refine g_cn1 (n := 24) (t := 131) (x := (387, 388, 71)) rfl (by decide +kernel) (by decide +kernel) (by decide +kernel) (by rfl) c_sYard (by omega) (g_E ?_)
        refine g_split (fun hy => ?_) (fun hy => ?_)
        ·
          refine g_ifeq1 (n := 27) 48 rfl (by decide) ?_
          refine g_aload_n (n := 28) rfl rfl ?_
          refine g_aload_n (n := 29) rfl rfl ?_
          refine g_getv (n := 32) (ci := 4) (j := 7) (v := nI k) ((rK_g hR hg (w := 6) (by omega)).trans hyk) rfl (by decide +kernel) rfl (by decide) (cf_gh hB (by omega)) ?_
          refine g_iload_n (n := 33) rfl rfl ?_
          refine g_iload_n (n := 34) rfl rfl ?_
          refine g_imul (n := 35) rfl ?_
          refine g_iadd (n := 36) rfl ?_
          refine g_cv1 (n := 39) (t := 7) (ci := 1) rfl (by decide +kernel) (by decide +kernel) (cf_hd hB) (cf_136 hB) (by decide +kernel) (by rfl) (c_cLedge hB hR) (by omega) (g_E ?_)
          refine g_split (fun hl => ?_) (fun hl => ?_)
          ·
            refine g_ifne1 (n := 42) 48 rfl (by decide) ?_
            exact c_hears2 hB hR hw hg hk hyk hc1 (by omega) ha (Or.inr (fun q => q.2 hl.2)) (by omega)
          ·
            refine g_ifne0 (n := 42) 48 rfl (by decide) ?_
            refine g_iinc3 (n := 45) rfl rfl (nI_inc _) ?_
            refine g_goto 7 rfl (by decide) ?_
            refine ih (c + 1) (by omega) (by omega) (fun j j1 j2 => ?_)
            by_cases e : j = c
            · subst e; exact ⟨hy, fun q => hl ⟨hy, q⟩⟩
            · exact ha j j1 (by omega)
        ·
          refine g_ifeq0 (n := 27) 48 rfl (by decide) ?_
          exact c_hears2 hB hR hw hg hk hyk hc1 (by omega) ha (Or.inr (fun q => hy q.1)) (by omega)
  refine g_aload_n (n := 1) rfl rfl ?_
  refine g_cv0 (n := 4) (t := 41) (ci := 4) rfl (by decide +kernel) (by decide +kernel) (cf_gh hB (by omega)) (cf_g1 hB (by omega)) (by decide +kernel) (by rfl) (c_way (cf_G hB (by omega))) (by omega) (g_E ?_)
  refine g_top (w := fFaces d g) (rK_way hR (by omega)) ?_
  refine g_istore_n2 (n := 5) rfl rfl ?_
  refine g_iconst (n := 6) (v := 1) rfl rfl ?_
  refine g_istore_n3 (n := 7) rfl rfl ?_
  exact H 23 1 (by omega) (by omega) (fun j j1 j2 => absurd j2 (by omega))
