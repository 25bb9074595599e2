/-! a minute in which nothing changes is followed by its like -/
theorem cnt_c {p q : Nat → Prop} [DecidablePred p] [DecidablePred q] (h : ∀ k, p k ↔ q k) : ∀ k, cnt p k = cnt q k := by
  intro k
  induction k with
  | zero => rfl
  | succ k ih => rw [cnt, cnt, ih, bI_eq (h k)]
theorem fFirst_c {p q : Nat → Prop} [DecidablePred p] [DecidablePred q] {n : Nat} (h : ∀ k, p k ↔ q k) : ∀ f k, fFirst p n f k = fFirst q n f k := by
  intro f
  induction f with
  | zero => intro k; rfl
  | succ f ih =>
    intro k
    rw [fFirst, fFirst, ih]
    by_cases hn : n ≤ k
    · rw [if_pos hn, if_pos hn]
    · rw [if_neg hn, if_neg hn]
      by_cases hp : p k
      · rw [if_pos hp, if_pos ((h k).mp hp)]
      · rw [if_neg hp, if_neg (fun z => hp ((h k).mpr z))]
/-- alike but for MINUTE and who is AT FAULT -/
def sE (d e : Nat → Int32) : Prop := ∀ k, k ≠ 1 → k ≠ 5 → e k = d k
section SE
variable {d e : Nat → Int32} (h : sE d e)
theorem sE_fO {d e : Nat → Int32} {g w : Nat} (h : sE d e) : fO e g w = fO d g w := h _ (by omega) (by omega)
theorem sE_10 {d e : Nat → Int32} {y : Nat} (h : sE d e) : e (10 + y) = d (10 + y) := h _ (by omega) (by omega)
theorem sE_N {d e : Nat → Int32} (h : sE d e) : fN e = fN d := fN_c (h 0 (by omega) (by omega))
theorem sE_At {d e : Nat → Int32} {y : Int32} (h : sE d e) : fAt e y = fAt d y := by
  unfold fAt
  rw [sE_N h]
  exact cnt_c (fun k => by rw [sE_fO h, sE_fO h]) _
theorem sE_Many {d e : Nat → Int32} {y : Int32} (h : sE d e) : fMany e y = fMany d y := by
  unfold fMany
  rw [sE_N h]
  exact cnt_c (fun k => by rw [sE_fO h]) _
theorem sE_Faces {d e : Nat → Int32} {g : Nat} (h : sE d e) : fFaces e g = fFaces d g := by
  unfold fFaces
  rw [sE_fO h, sE_fO h]
theorem sE_Ag {d e : Nat → Int32} {g : Nat} {y : Int32} (h : sE d e) : fAgainst e g y = fAgainst d g y := by
  unfold fAgainst
  rw [sE_N h]
  exact fFirst_c (fun k => by show (fO e k 5 = 1 ∧ fO e k 6 = y ∧ fO e k 8 = 0 ∧ ¬ fFaces e k = fFaces e g) ↔ _; rw [sE_fO h, sE_fO h, sE_fO h, sE_Faces h, sE_Faces h]) _ _
theorem sE_Hr {d e : Nat → Int32} {g : Nat} (h : sE d e) : ∀ m y, fHr e g m y = fHr d g m y := by
  intro m
  induction m with
  | zero => intro y; rfl
  | succ m ih =>
    intro y
    rw [fHr, fHr, sE_10 h, sE_Ag h, sE_Faces h, ih]
theorem sE_Heard {d e : Nat → Int32} {g : Nat} (h : sE d e) : fHeard e g = fHeard d g := by
  unfold fHeard
  rw [sE_fO h, sE_Faces h, sE_Hr h]
theorem sE_Rank {d e : Nat → Int32} {g : Nat} (h : sE d e) : fRank e g = fRank d g := by
  unfold fRank fText
  rw [sE_fO h, sE_fO h, sE_fO h, fGive_c (d := d) (h _ (by omega) (by omega)) (fun i hi => h _ (by omega) (by omega))]
theorem sE_chMeets {d e : Nat → Int32} {g k : Nat} (h : sE d e) : chMeets e g k ↔ chMeets d g k := by
  unfold chMeets
  rw [sE_Rank h, sE_Rank h, sE_fO h, sE_fO h]
theorem sE_chM {d e : Nat → Int32} {g : Nat} {x : Int32} (h : sE d e) : chM e g x ↔ chM d g x := by
  unfold chM
  rw [sE_Ag h, sE_chMeets h]
theorem sE_chGo {d e : Nat → Int32} {g : Nat} {b x : Int32} (h : sE d e) : chGo e g b x ↔ chGo d g b x := by
  unfold chGo
  rw [sE_At h, sE_10 h, sE_fO h, sE_10 h, sE_chM h]
theorem sE_chGoes {d e : Nat → Int32} {g : Nat} {fog : Int32} (h : sE d e) : chGoes e g fog ↔ chGoes d g fog := by
  unfold chGoes
  rw [sE_fO h, sE_fO h, sE_fO h, sE_fO h, sE_Faces h, sE_chGo h, sE_chGo h, sE_10 h, sE_Heard h]
theorem sE_chW {d e : Nat → Int32} {g : Nat} {fog : Int32} (h : sE d e) : chW e g fog ↔ chW d g fog := by
  unfold chW
  rw [sE_fO h, sE_chGoes h]
end SE
theorem still_meets {d : Nat → Int32} {g k : Nat} (h : ¬ chMeets d g k) : fMeets d g k = d ∨ ∃ v, fMeets d g k = up d 5 v := by
  unfold fMeets
  by_cases h1 : fRank d k < fRank d g ∨ (fRank d g = fRank d k ∧ g < k)
  · rw [if_pos h1]; exact Or.inl rfl
  · rw [if_neg h1]
    by_cases h2 : fBack (fO d g 0) (fO d g 1) = 0
    · rw [if_pos h2]; exact Or.inr ⟨_, rfl⟩
    · exact absurd ⟨h1, h2⟩ h
theorem still_go {d : Nat → Int32} {g : Nat} {b x : Int32} (hb : b = 0 ∨ b = 1) (h : ¬ chGo d g b x) : fGo d g b x = d ∨ ∃ v, fGo d g b x = up d 5 v := by
  by_cases hr : 0 ≤ x.toInt ∧ x.toInt ≤ 23
  · have hf : ¬ fAt d x < d (10 + cl x) := fun q => h ⟨hr, Or.inl q⟩
    rcases hb with rfl | rfl
    · by_cases hl : 1 < d (10 + cl (fO d g 6))
      · rw [fGo_l hr hf hl]; exact Or.inl rfl
      · rw [fGo_m hr hf hl]
        unfold sM
        by_cases ha : fAgainst d g x < 0
        · rw [if_pos ha]; exact Or.inl rfl
        · rw [if_neg ha]
          exact still_meets (fun q => h ⟨hr, Or.inr ⟨rfl, hl, ha, q⟩⟩)
    · rw [fGo_1 hr hf (by decide)]; exact Or.inl rfl
  · rw [fGo_n hr]; exact Or.inl rfl
theorem still_goes {d : Nat → Int32} {g : Nat} {fog : Int32} (h : ¬ chGoes d g fog) : fGoes d g fog = d ∨ ∃ v, fGoes d g fog = up d 5 v := by
  by_cases hb : fO d g 8 = 1
  · rw [fGoes_1 hb]
    exact still_go (Or.inr rfl) (fun q => h ((chGoes_1 hb).mpr q))
  · have hne : ¬ fO d g 6 = fO d g 3 := fun q => h (Or.inr ⟨hb, Or.inl q⟩)
    by_cases hn : 1 < d (10 + cl (fO d g 6)) ∧ fog = 0 ∧ ¬ fHears (fO d g 0) = 0 ∧ ¬ fHeard d g = 0
    · rw [fGoes_h hb hne hn]; exact Or.inl rfl
    · rw [fGoes_0 hb hne hn]
      exact still_go (Or.inl rfl) (fun q => h ((chGoes_0 hb hne hn).mpr q))
theorem still_step {d : Nat → Int32} {g : Nat} {fog : Int32} (h : ¬ chStep d g fog) : fStep d g fog = d ∨ ∃ v, fStep d g fog = up d 5 v := by
  by_cases h1 : fO d g 5 = 1
  · have hc : ¬ chW d g fog := fun q => h (Or.inl ⟨h1, q⟩)
    have hle : fO d g 7 ≤ 0 := Classical.byContradiction (fun q => hc (Or.inl q))
    rw [fStep_1 h1, sW_le hle]
    exact still_goes (fun q => hc (Or.inr q))
  · by_cases h0 : fO d g 5 = 0
    · by_cases hs : d 1 < fO d g 4
      · rw [fStep_s h0 hs]; exact Or.inl rfl
      · by_cases hf : d (10 + cl (fO d g 2)) ≤ fAt d (fO d g 2)
        · rw [fStep_f h0 hs hf]; exact Or.inl rfl
        · exact absurd (Or.inr ⟨h0, hs, hf⟩) h
    · rw [fStep_x h1 h0]; exact Or.inl rfl
theorem sE_rfl {d : Nat → Int32} : sE d d := fun _ _ _ => rfl
theorem sE_5 {d e : Nat → Int32} {v : Int32} (h : sE d e) : sE d (up e 5 v) := fun k h1 h5 => (up_ne h5).trans (h k h1 h5)
theorem sE_5' {d e : Nat → Int32} {v : Int32} (h : sE d e) : sE (up d 5 v) e := fun k h1 h5 => (h k h1 h5).trans (up_ne h5).symm
theorem sE_1 {d e : Nat → Int32} {v : Int32} (h : sE d e) : sE d (up e 1 v) := fun k h1 h5 => (up_ne h1).trans (h k h1 h5)
theorem sE_1' {d e : Nat → Int32} {v : Int32} (h : sE d e) : sE (up d 1 v) e := fun k h1 h5 => (h k h1 h5).trans (up_ne h1).symm
theorem sE_tr {a b c : Nat → Int32} (h : sE a b) (h2 : sE b c) : sE a c := fun k h1 h5 => (h2 k h1 h5).trans (h k h1 h5)
theorem still_st {fog : Int32} : ∀ m k (d : Nat → Int32), ¬ chSt fog m k d → sE d (fSt fog m k d) ∧ fSt fog m k d 1 = d 1 := by
  intro m
  induction m with
  | zero => intro k d _; exact ⟨sE_rfl, rfl⟩
  | succ m ih =>
    intro k d h
    have h1 : ¬ chStep d k fog := fun q => h (Or.inl q)
    have h2 : ¬ chSt fog m (k + 1) (fStep d k fog) := fun q => h (Or.inr q)
    have h3 := ih (k + 1) _ h2
    rw [fSt]
    rcases still_step h1 with e | ⟨v, e⟩
    · rw [e] at h3 ⊢; exact h3
    · rw [e] at h3 ⊢
      exact ⟨sE_tr (sE_5 sE_rfl) h3.1, h3.2.trans (up_ne (by omega))⟩
/-- the same again: where all starts have come -/
theorem again_st {fog : Int32} : ∀ m k (d e : Nat → Int32), sE d e → (∀ g, fO d g 5 = 0 → k ≤ g → g < k + m → ¬ d 1 < fO d g 4 ∧ ¬ e 1 < fO d g 4) → ¬ chSt fog m k d → ¬ chSt fog m k e := by
  intro m
  induction m with
  | zero => intro k d e _ _ _ q; exact q
  | succ m ih =>
    intro k d e h hs hc
    have h1 : ¬ chStep d k fog := fun q => hc (Or.inl q)
    have h2 : ¬ chSt fog m (k + 1) (fStep d k fog) := fun q => hc (Or.inr q)
    have h1e : ¬ chStep e k fog := by
      rintro (⟨q1, q2⟩ | ⟨q0, q1, q2⟩)
      · exact h1 (Or.inl ⟨(sE_fO h).symm.trans q1, (sE_chW h).mp q2⟩)
      · rw [sE_fO h] at q0
        rw [sE_fO h, sE_10 h, sE_At h] at q2
        exact h1 (Or.inr ⟨q0, (hs k q0 (Nat.le_refl _) (by omega)).1, q2⟩)
    rintro (q | q)
    · exact h1e q
    · refine ih (k + 1) (fStep d k fog) (fStep e k fog) ?_ ?_ h2 q
      · rcases still_step h1 with e1 | ⟨v, e1⟩ <;> rcases still_step h1e with e2 | ⟨v2, e2⟩ <;> rw [e1, e2]
        · exact h
        · exact sE_5 h
        · exact sE_5' h
        · exact sE_5 (sE_5' h)
      · intro g hg0 hg1 hg2
        have a1 : fStep d k fog 1 = d 1 := by
          rcases still_step h1 with e1 | ⟨v, e1⟩ <;> rw [e1]
          exact up_ne (by omega)
        have a2 : fStep e k fog 1 = e 1 := by
          rcases still_step h1e with e1 | ⟨v, e1⟩ <;> rw [e1]
          exact up_ne (by omega)
        have a3 : ∀ w, fO (fStep d k fog) g w = fO d g w := by
          intro w
          rcases still_step h1 with e1 | ⟨v, e1⟩ <;> rw [e1]
          exact fO_up (by omega)
        rw [a3] at hg0
        rw [a1, a2, a3]
        exact hs g hg0 (by omega) (by omega)
theorem fN_min {d : Nat → Int32} {fog : Int32} : fN (fMin d fog) = fN d := fMin_N
theorem still_min {d : Nat → Int32} {fog : Int32} (h : ¬ chMin d fog) : sE d (fMin d fog) := by
  have h2 := (still_st _ _ _ h).1
  exact fun k h1 h5 => (h2 k h1 h5).trans (up_ne h1)
theorem i32_1 {x : Int32} (h : iR x 100000) : (x + 1).toInt = x.toInt + 1 := by
  obtain ⟨k, hk, rfl, _⟩ := iR_nI h
  rw [nI_1, nI_toInt (by omega), nI_toInt (by omega)]
  rfl
/-- nothing changed, all starts have come: so it stays -/
def pStl (d : Nat → Int32) : Prop := ¬ chMin d 0 ∧ ¬ pLater (fMin d 0) (fN d)
theorem stl_next {d : Nat → Int32} (h1 : iR (d 1) 90000) (h : pStl d) : pStl (fMin d 0) ∧ fMany (fMin d 0) 2 = fMany d 2 := by
  obtain ⟨hc, hl⟩ := h
  have hs := still_min hc
  have em : fMin d 0 1 = d 1 + 1 := fMin_1
  have em2 : fMin (fMin d 0) 0 1 = d 1 + 1 + 1 := by rw [fMin_1, em]
  have t1 : (d 1 + 1).toInt = (d 1).toInt + 1 := i32_1 ⟨h1.1, by have := h1.2; omega⟩
  have t2 : (d 1 + 1 + 1).toInt = (d 1).toInt + 2 := by
    rw [i32_1 ⟨by rw [t1]; have := h1.1; omega, by rw [t1]; have := h1.2; omega⟩, t1]; omega
  have hst : ∀ g, g < fN d → fO d g 5 = 0 → ¬ d 1 + 1 < fO d g 4 := by
    intro g hg h0 q
    refine hl ⟨g, hg, by rw [sE_fO hs]; exact h0, ?_⟩
    rw [em, sE_fO hs]
    exact q
  have hst2 : ∀ g, g < fN d → fO d g 5 = 0 → ¬ d 1 + 1 + 1 < fO d g 4 := by
    intro g hg h0 q
    refine hst g hg h0 ?_
    rw [Int32.lt_iff_toInt_lt] at q ⊢
    omega
  have hc2 : ¬ chMin (fMin d 0) 0 := by
    unfold chMin
    rw [fN_min]
    refine again_st (fN d) 0 (up d 1 (d 1 + 1)) _ (sE_1 (sE_1' hs)) (fun g h0 _ hg => ?_) hc
    rw [fO_up (by omega)] at h0 ⊢
    rw [up_at, up_at, em]
    exact ⟨hst g (by omega) h0, hst2 g (by omega) h0⟩
  refine ⟨⟨hc2, ?_⟩, sE_Many hs⟩
  have hs2 := sE_tr hs (still_min hc2)
  rintro ⟨g, hg, q0, q1⟩
  rw [fN_min] at hg
  rw [sE_fO hs2] at q0 q1
  rw [em2] at q1
  exact hst2 g hg q0 q1
theorem fMany_le {d : Nat → Int32} {w : Int32} : ∃ k, k ≤ fN d ∧ fMany d w = nI k := ⟨cN (fun g => fO d g 5 = w) (fN d), (cnt_N _).2, (cnt_N _).1⟩
theorem many_lt {d : Nat → Int32} (hN : iR (d 0) 9) : d 0 ≤ fMany d 2 ↔ fMany d 2 = d 0 := by
  obtain ⟨e, hn⟩ := fN_eq hN
  obtain ⟨k, hk, e2⟩ := @fMany_le d 2
  rw [e2, e, nI_leI (by omega) (by omega), nI_eq (by omega) (by omega)]
  omega
theorem fOv_still : ∀ f n (d : Nat → Int32), iR (d 1) (80000 - f) → f ≤ 301 → ¬ d 0 ≤ fMany d 2 → pStl d → (fOv f n (fMin d 0)).1 = -1 := by
  intro f
  induction f with
  | zero => intro n d _ _ _ _; rfl
  | succ f ih =>
    intro n d h1 hf hno hs
    have h1' : iR (d 1) 90000 := ⟨h1.1, by have := h1.2; omega⟩
    obtain ⟨hs2, e⟩ := stl_next h1' hs
    have hno2 : ¬ fMin d 0 0 ≤ fMany (fMin d 0) 2 := by rw [fMin_0, e]; exact hno
    rw [fOv, if_neg hno2]
    refine ih (n + 1) (fMin d 0) ?_ (by omega) hno2 hs2
    rw [fMin_1]
    have t1 : (d 1 + 1).toInt = (d 1).toInt + 1 := i32_1 ⟨h1.1, by have := h1.2; omega⟩
    exact ⟨by rw [t1]; have := h1.1; omega, by rw [t1]; have := h1.2; omega⟩
/-! what changed shows -/
theorem ne_1 {x f : Int32} (hf : f = 1 ∨ f = -1) : ¬ x + f = x ∧ ¬ x - f = x := by
  have key : ∀ y : Int32, ¬ y = 0 → ¬ x + y = x := fun y hy q => hy (by
    have h := congrArg (fun z => z - x) ((Int32.add_comm y x).trans q)
    simpa using h)
  constructor
  · rcases hf with rfl | rfl
    · exact key 1 (by decide)
    · exact key (-1) (by decide)
  · rw [Int32.sub_eq_add_neg]
    rcases hf with rfl | rfl
    · exact key (-1) (by decide)
    · exact key (- -1) (by decide)
def pDif (d d' : Nat → Int32) (g : Nat) : Prop := ∃ w, 5 ≤ w ∧ w < 9 ∧ ¬ fO d' g w = fO d g w
theorem dif_comes {d : Nat → Int32} {g : Nat} {x : Int32} (hr : 0 ≤ x.toInt ∧ x.toInt ≤ 23) (hx : ¬ x = fO d g 6) : pDif d (fComes d g (cl x)) g := by
  obtain ⟨k, hk, ex, hc⟩ := iR_nI (x := x) (n := 24) ⟨hr.1, by omega⟩
  refine ⟨6, by omega, by omega, fun q => hx ?_⟩
  rw [← q]
  unfold fComes
  split
  · rw [fO_up (by omega)]
    unfold fC2 fC1
    rw [fO_up (by omega), fO_up (by omega), fO_at]
    rw [show cl x = k from hc]; exact ex
  · unfold fC1
    rw [fO_up (by omega), fO_at]
    rw [show cl x = k from hc]; exact ex
theorem dif_go {d : Nat → Int32} {g : Nat} {b x : Int32} (hb : b = 0 → ¬ fO d g 8 = 1) (hx : ¬ x = fO d g 6) (h : chGo d g b x) : pDif d (fGo d g b x) g := by
  obtain ⟨hr, h | ⟨rfl, hl, ha, hm⟩⟩ := h
  · rw [fGo_c hr h]; exact dif_comes hr hx
  · by_cases hf : fAt d x < d (10 + cl x)
    · rw [fGo_c hr hf]; exact dif_comes hr hx
    · rw [fGo_m hr hf hl]
      unfold sM
      rw [if_neg ha]
      unfold fMeets
      rw [if_neg hm.1, if_neg hm.2]
      refine ⟨8, by omega, by omega, ?_⟩
      rw [fO_up (by omega), fO_up (by omega), fO_at]
      exact fun q => hb rfl q.symm
theorem dif_step {d : Nat → Int32} {g : Nat} {fog : Int32} (hg : g < 8) (h : chStep d g fog) : pDif d (fStep d g fog) g := by
  rcases h with ⟨h1, h⟩ | ⟨h0, h1, h2⟩
  · rw [fStep_1 h1]
    unfold sW
    by_cases hle : fO d g 7 ≤ 0
    · rw [if_pos hle]
      have hc := h.resolve_left (fun q => q hle)
      rcases hc with ⟨hb, hgo⟩ | ⟨hb, hc⟩
      · rw [fGoes_1 hb]
        exact dif_go (fun q => absurd q (by decide)) (ne_1 fFaces_in).2 hgo
      · rcases hc with he | ⟨hn, hne, hgo⟩
        · rw [show fGoes d g fog = fOver d g from (if_neg hb).trans (if_pos he)]
          refine ⟨5, by omega, by omega, ?_⟩
          unfold fOver
          rw [fO_up (by omega), fO_up (by omega), fO_at, h1]
          decide
        · rw [fGoes_0 hb hne hn]
          exact dif_go (fun _ => hb) (ne_1 fFaces_in).1 hgo
    · rw [if_neg hle]
      refine ⟨7, by omega, by omega, ?_⟩
      rw [fO_at]
      intro q
      exact (ne_1 (x := fO d g 7) (f := 1) (Or.inl rfl)).2 q
  · rw [fStep_e h0 h1 h2]
    refine ⟨5, by omega, by omega, ?_⟩
    rw [fO_up (by omega), fO_up (by omega), fO_up (by omega), fO_at, h0]
    decide
theorem fSt_low {fog : Int32} {g w : Nat} (hw : w < 10) : ∀ m k (d : Nat → Int32), g < k → fO (fSt fog m k d) g w = fO d g w := by
  intro m
  induction m with
  | zero => intro k d _; rfl
  | succ m ih =>
    intro k d hg
    rw [fSt, ih (k + 1) _ (by omega)]
    exact sD_fO sD_step hw (Or.inl (by omega))
theorem dif_st {fog : Int32} : ∀ m k (d : Nat → Int32), k + m ≤ 8 → chSt fog m k d → ∃ g, k ≤ g ∧ g < k + m ∧ pDif d (fSt fog m k d) g := by
  intro m
  induction m with
  | zero => intro k d _ h; exact absurd h (fun q => q)
  | succ m ih =>
    intro k d hk h
    by_cases h1 : chStep d k fog
    · obtain ⟨w, w1, w2, hw⟩ := dif_step (by omega) h1
      refine ⟨k, Nat.le_refl _, by omega, w, w1, w2, ?_⟩
      rw [fSt, fSt_low (by omega) m (k + 1) _ (by omega)]
      exact hw
    · have h2 := h.resolve_left h1
      obtain ⟨g, g1, g2, w, w1, w2, hw⟩ := ih (k + 1) _ (by omega) h2
      refine ⟨g, by omega, by omega, w, w1, w2, ?_⟩
      rw [fSt]
      intro q
      refine hw (q.trans ?_)
      exact (sD_fO sD_step (by omega) (Or.inl (by omega))).symm
theorem same_iff {d : Nat → Int32} (hN : iR (d 0) 9) : pSame d (fMin d 0) ↔ ¬ chMin d 0 := by
  have hn8 := (fN_eq hN).2
  constructor
  · intro h hc
    obtain ⟨g, g1, g2, w, w1, w2, hw⟩ := dif_st _ _ _ (by omega) hc
    rw [fO_up (by omega)] at hw
    have e := h (4 * g + (w - 5)) (by omega)
    rw [sF_eq (by omega), sF_eq (by omega), show 5 + (w - 5) = w by omega] at e
    exact hw e.symm
  · intro h j hj
    unfold sF
    exact (sE_fO (still_min h)).symm
theorem may_iff {d : Nat → Int32} (hN : iR (d 0) 9) : pMay d (fN d) ↔ ¬ fMany d 2 = d 0 ∧ ¬ pLater d (fN d) := by
  unfold pMay
  constructor
  · rintro ⟨h1, h2⟩
    refine ⟨fun q => ?_, ?_⟩
    · exact absurd ((many_lt hN).mpr q) (Int32.not_le.mpr h1)
    · rintro ⟨g, hg, q0, q1⟩
      exact (h2 g hg).elim (fun z => z q0) (fun z => absurd q1 (Int32.not_lt.mpr z))
  · rintro ⟨h1, h2⟩
    refine ⟨Int32.not_le.mp (fun q => h1 ((many_lt hN).mp q)), fun g hg => ?_⟩
    by_cases h0 : fO d g 5 = 0
    · exact Or.inr (Int32.not_lt.mp (fun q => h2 ⟨g, hg, h0, q⟩))
    · exact Or.inl h0
