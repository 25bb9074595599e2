/-! the model's minute: all goers, one after another -/
def fStep (d : Nat → Int32) (g : Nat) (fog : Int32) : Nat → Int32 :=
  if fO d g 5 = 0 then
    (if d 1 < fO d g 4 then d
    else if d (10 + cl (fO d g 2)) ≤ fAt d (fO d g 2) then d
    else up (up (up (up d (34 + 10 * g + 5) 1) (34 + 10 * g + 6) (fO d g 2)) (34 + 10 * g + 7) 0) (34 + 10 * g + 8) 0)
  else if fO d g 5 = 1 then (if fO d g 7 ≤ 0 then fGoes d g fog else up d (34 + 10 * g + 7) (fO d g 7 - 1))
  else d
def fSt (fog : Int32) : Nat → Nat → (Nat → Int32) → Nat → Int32
  | 0, _, d => d
  | m + 1, k, d => fSt fog m (k + 1) (fStep d k fog)
def fMin (d : Nat → Int32) (fog : Int32) : Nat → Int32 := fSt fog (fN d) 0 (up d 1 (d 1 + 1))
/-- alike but for what a step of goer g may change -/
def sD (d d' : Nat → Int32) (g : Nat) : Prop := ∀ k, ¬ (34 + 10 * g + 5 ≤ k ∧ k < 34 + 10 * g + 10) → k ≠ 2 → k ≠ 3 → k ≠ 5 → d' k = d k
theorem sD_rfl {d : Nat → Int32} {g : Nat} : sD d d g := fun _ _ _ _ _ => rfl
theorem sD_up {d d' : Nat → Int32} {g j : Nat} {v : Int32} (h : sD d d' g) (hj : (34 + 10 * g + 5 ≤ j ∧ j < 34 + 10 * g + 10) ∨ j = 2 ∨ j = 3 ∨ j = 5) : sD d (up d' j v) g := by
  intro k h1 h2 h3 h4
  rw [up_ne (by omega)]
  exact h k h1 h2 h3 h4
theorem sD_meets {d : Nat → Int32} {g h : Nat} : sD d (fMeets d g h) g := by
  unfold fMeets
  split
  · exact sD_rfl
  · split
    · exact sD_up sD_rfl (by omega)
    · exact sD_up (sD_up (sD_up sD_rfl (by omega)) (by omega)) (by omega)
theorem sD_comes {d : Nat → Int32} {g y : Nat} : sD d (fComes d g y) g := by
  unfold fComes fC2 fC1
  split
  · exact sD_up (sD_up (sD_up (sD_up sD_rfl (by omega)) (by omega)) (by omega)) (by omega)
  · exact sD_up (sD_up sD_rfl (by omega)) (by omega)
theorem sD_over {d : Nat → Int32} {g : Nat} : sD d (fOver d g) g := sD_up (sD_up (sD_up sD_rfl (by omega)) (by omega)) (by omega)
theorem sD_go {d : Nat → Int32} {g : Nat} {b x : Int32} : sD d (fGo d g b x) g := by
  unfold fGo
  repeat' split
  all_goals first | exact sD_rfl | exact sD_meets | exact sD_comes
theorem sD_goes {d : Nat → Int32} {g : Nat} {fog : Int32} : sD d (fGoes d g fog) g := by
  unfold fGoes
  repeat' split
  all_goals first | exact sD_rfl | exact sD_go | exact sD_over
theorem sD_step {d : Nat → Int32} {g : Nat} {fog : Int32} : sD d (fStep d g fog) g := by
  unfold fStep
  repeat' split
  all_goals first | exact sD_rfl | exact sD_goes | exact sD_up sD_rfl (by omega) | exact sD_up (sD_up (sD_up (sD_up sD_rfl (by omega)) (by omega)) (by omega)) (by omega)
theorem sD_fO {d d' : Nat → Int32} {g h w : Nat} (hs : sD d d' g) (hw : w < 10) (hh : h ≠ g ∨ w < 5) : fO d' h w = fO d h w := hs _ (by omega) (by omega) (by omega) (by omega)
/-- what a goer's numbers keep to -/
def gG (d : Nat → Int32) (g : Nat) : Prop := (fO d g 5 = 1 → iR (fO d g 6) 24) ∧ (fO d g 8 = 0 ∨ fO d g 8 = 1)
def gW (d : Nat → Int32) : Prop := fWF d ∧ (∀ g, g < 8 → fO d g 8 = 0 ∨ fO d g 8 = 1) ∧ iR (d 3) 10000 ∧ iR (d 5) 256
theorem fb_or : ∀ f, f < 256 → ∀ g, g < 8 → (nI f ||| fBit g) = nI (f ||| 2 ^ g) ∧ (f ||| 2 ^ g) < 256 := by decide +kernel
theorem fb_and : ∀ f, f < 256 → ∀ g, g < 8 → (nI f &&& (fBit g ^^^ -1)) = nI (f &&& (255 - 2 ^ g)) ∧ (f &&& (255 - 2 ^ g)) < 256 := by decide +kernel
theorem iR_or {x : Int32} {g : Nat} (h : iR x 256) (hg : g < 8) : iR (x ||| fBit g) 256 := by
  obtain ⟨f, hf, rfl, _⟩ := iR_nI h
  obtain ⟨e, hl⟩ := fb_or f hf g hg
  rw [e]
  exact iR_of hl (by omega)
theorem iR_and {x : Int32} {g : Nat} (h : iR x 256) (hg : g < 8) : iR (x &&& (fBit g ^^^ -1)) 256 := by
  obtain ⟨f, hf, rfl, _⟩ := iR_nI h
  obtain ⟨e, hl⟩ := fb_and f hf g hg
  rw [e]
  exact iR_of hl (by omega)
theorem iR_held {x : Int32} : iR (fHeld x 0 9999) 10000 := by
  unfold fHeld
  split
  · exact ⟨by decide, by decide⟩
  · split
    · exact ⟨by decide, by decide⟩
    next h1 h2 =>
      simp only [Int32.lt_iff_toInt_lt] at h1 h2
      have e1 : Int32.toInt 0 = 0 := by decide
      have e2 : Int32.toInt 9999 = 9999 := by decide
      exact ⟨by omega, by omega⟩
theorem fO_at {d : Nat → Int32} {g w : Nat} {v : Int32} : fO (up d (34 + 10 * g + w) v) g w = v := if_pos rfl
/-- the local part of what is kept to -/
def lG (d : Nat → Int32) (g : Nat) : Prop := (fO d g 5 = 1 → iR (fO d g 6) 24) ∧ (fO d g 8 = 0 ∨ fO d g 8 = 1) ∧ iR (d 3) 10000 ∧ iR (d 5) 256
theorem gW_lG {d : Nat → Int32} {g : Nat} (h : gW d) (hg : g < 8) : lG d g := ⟨(h.1.2.2.2 g hg).2.2, h.2.1 g hg, h.2.2⟩
theorem gW_of {d d' : Nat → Int32} {g : Nat} (h : gW d) (hg : g < 8) (hs : sD d d' g) (hl : lG d' g) : gW d' := by
  obtain ⟨⟨h0, h1, h2, h3⟩, h4, h5, h6⟩ := h
  refine ⟨⟨?_, ?_, ?_, fun j hj => ⟨?_, ?_, ?_⟩⟩, fun j hj => ?_, hl.2.2.1, hl.2.2.2⟩
  · rw [hs 0 (by omega) (by omega) (by omega) (by omega)]; exact h0
  · rw [hs 114 (by omega) (by omega) (by omega) (by omega)]; exact h1
  · rw [hs 115 (by omega) (by omega) (by omega) (by omega)]; exact h2
  · rw [sD_fO hs (by omega) (Or.inr (by omega))]; exact (h3 j hj).1
  · rw [sD_fO hs (by omega) (Or.inr (by omega))]; exact (h3 j hj).2.1
  · by_cases e : j = g
    · subst e; exact hl.1
    · rw [sD_fO hs (by omega) (Or.inl e), sD_fO hs (by omega) (Or.inl e)]; exact (h3 j hj).2.2
  · by_cases e : j = g
    · subst e; exact hl.2.1
    · rw [sD_fO hs (by omega) (Or.inl e)]; exact h4 j hj
theorem lG_meets {d : Nat → Int32} {g h : Nat} (hl : lG d g) (hg : g < 8) : lG (fMeets d g h) g := by
  unfold fMeets
  split
  · exact hl
  · split
    · refine ⟨?_, ?_, ?_, ?_⟩
      · rw [fO_up (by omega), fO_up (by omega)]; exact hl.1
      · rw [fO_up (by omega)]; exact hl.2.1
      · rw [up_ne (by omega)]; exact hl.2.2.1
      · rw [up_at]; exact iR_or hl.2.2.2 hg
    · refine ⟨?_, ?_, ?_, ?_⟩
      · rw [fO_up (by omega), fO_up (by omega), fO_up (by omega), fO_up (by omega), fO_up (by omega), fO_up (by omega)]; exact hl.1
      · rw [fO_up (by omega), fO_up (by omega), fO_at]; exact Or.inr rfl
      · rw [up_at]; exact iR_held
      · rw [up_ne (by omega), up_ne (by omega), up_ne (by omega)]; exact hl.2.2.2
theorem lG_comes {d : Nat → Int32} {g y : Nat} (hl : lG d g) (hy : y < 24) : lG (fComes d g y) g := by
  unfold fComes
  split
  · refine ⟨fun _ => ?_, ?_, ?_, ?_⟩
    · unfold fC2 fC1
      rw [fO_up (by omega), fO_up (by omega), fO_up (by omega), fO_at]
      exact iR_of hy (by omega)
    · rw [fO_up (by omega)]; unfold fC2; rw [fO_at]; exact Or.inl rfl
    · unfold fC2 fC1
      rw [up_ne (by omega), up_ne (by omega), up_ne (by omega), up_ne (by omega)]; exact hl.2.2.1
    · unfold fC2 fC1
      rw [up_ne (by omega), up_ne (by omega), up_ne (by omega), up_ne (by omega)]; exact hl.2.2.2
  · unfold fC1
    refine ⟨fun _ => ?_, ?_, ?_, ?_⟩
    · rw [fO_up (by omega), fO_at]; exact iR_of hy (by omega)
    · rw [fO_up (by omega), fO_up (by omega)]; exact hl.2.1
    · rw [up_ne (by omega), up_ne (by omega)]; exact hl.2.2.1
    · rw [up_ne (by omega), up_ne (by omega)]; exact hl.2.2.2
theorem lG_over {d : Nat → Int32} {g : Nat} (hl : lG d g) (hg : g < 8) : lG (fOver d g) g := by
  unfold fOver
  refine ⟨?_, ?_, ?_, ?_⟩
  · rw [fO_up (by omega), fO_up (by omega), fO_at]; exact fun z => absurd z (by decide)
  · rw [fO_up (by omega), fO_up (by omega), fO_up (by omega)]; exact hl.2.1
  · rw [up_ne (by omega), up_ne (by omega), up_ne (by omega)]; exact hl.2.2.1
  · rw [up_at, up_ne (by omega), up_ne (by omega)]; exact iR_and hl.2.2.2 hg
theorem cl_lt {x : Int32} {n : Nat} (h : 0 ≤ x.toInt) (h2 : x.toInt < (n : Int)) : cl x < n := (iR_clamp ⟨h, h2⟩).1
theorem lG_go {d : Nat → Int32} {g : Nat} {b x : Int32} (hl : lG d g) (hg : g < 8) : lG (fGo d g b x) g := by
  unfold fGo
  split
  next hx =>
    split
    · repeat' split
      all_goals first | exact hl | exact lG_meets hl hg
    · exact lG_comes hl (cl_lt hx.1 (by omega))
  · exact hl
theorem lG_goes {d : Nat → Int32} {g : Nat} {fog : Int32} (hl : lG d g) (hg : g < 8) : lG (fGoes d g fog) g := by
  unfold fGoes
  repeat' split
  all_goals first | exact hl | exact lG_go hl hg | exact lG_over hl hg
theorem lG_step {d : Nat → Int32} {g : Nat} {fog : Int32} (h : gW d) (hg : g < 8) : lG (fStep d g fog) g := by
  have hl := gW_lG h hg
  unfold fStep
  split
  · split
    · exact hl
    · split
      · exact hl
      · refine ⟨fun _ => ?_, ?_, ?_, ?_⟩
        · rw [fO_up (by omega), fO_up (by omega), fO_at]; exact (h.1.2.2.2 g hg).2.1
        · rw [fO_at]; exact Or.inl rfl
        · rw [up_ne (by omega), up_ne (by omega), up_ne (by omega), up_ne (by omega)]; exact hl.2.2.1
        · rw [up_ne (by omega), up_ne (by omega), up_ne (by omega), up_ne (by omega)]; exact hl.2.2.2
  · split
    · split
      · exact lG_goes hl hg
      · refine ⟨?_, ?_, ?_, ?_⟩
        · rw [fO_up (by omega), fO_up (by omega)]; exact hl.1
        · rw [fO_up (by omega)]; exact hl.2.1
        · rw [up_ne (by omega)]; exact hl.2.2.1
        · rw [up_ne (by omega)]; exact hl.2.2.2
    · exact hl
theorem gW_step {d : Nat → Int32} {g : Nat} {fog : Int32} (h : gW d) (hg : g < 8) : gW (fStep d g fog) := gW_of h hg sD_step (lG_step h hg)
theorem fSt_ne {fog : Int32} : ∀ m k (d : Nat → Int32) j, ¬ (34 ≤ j ∧ j < 34 + 10 * (k + m)) → j ≠ 2 → j ≠ 3 → j ≠ 5 → fSt fog m k d j = d j := by
  intro m
  induction m with
  | zero => intro k d j _ _ _ _; rfl
  | succ m ih =>
    intro k d j h1 h2 h3 h4
    rw [fSt, ih (k + 1) _ j (by omega) h2 h3 h4]
    exact sD_step j (by omega) h2 h3 h4
theorem fSt_w {fog : Int32} {w : Nat} (hw : w < 5) {h : Nat} : ∀ m k (d : Nat → Int32), fO (fSt fog m k d) h w = fO d h w := by
  intro m
  induction m with
  | zero => intro k d; rfl
  | succ m ih =>
    intro k d
    rw [fSt, ih]
    exact sD_fO sD_step (by omega) (Or.inr hw)
theorem gW_st {fog : Int32} : ∀ m k (d : Nat → Int32), gW d → k + m ≤ 8 → gW (fSt fog m k d) := by
  intro m
  induction m with
  | zero => intro k d h _; exact h
  | succ m ih => intro k d h hk; exact ih (k + 1) _ (gW_step h (by omega)) (by omega)
theorem gW_1 {d : Nat → Int32} {v : Int32} (h : gW d) : gW (up d 1 v) := by
  obtain ⟨⟨h0, h1, h2, h3⟩, h4, h5, h6⟩ := h
  refine ⟨⟨?_, ?_, ?_, fun j hj => ⟨?_, ?_, ?_⟩⟩, fun j hj => ?_, ?_, ?_⟩
  · rw [up_ne (by omega)]; exact h0
  · rw [up_ne (by omega)]; exact h1
  · rw [up_ne (by omega)]; exact h2
  · rw [fO_up (by omega)]; exact (h3 j hj).1
  · rw [fO_up (by omega)]; exact (h3 j hj).2.1
  · rw [fO_up (by omega), fO_up (by omega)]; exact (h3 j hj).2.2
  · rw [fO_up (by omega)]; exact h4 j hj
  · rw [up_ne (by omega)]; exact h5
  · rw [up_ne (by omega)]; exact h6
theorem gW_min {d : Nat → Int32} {fog : Int32} (h : gW d) : gW (fMin d fog) := gW_st _ _ _ (gW_1 h) (by have := (fN_eq h.1.1).2; omega)
theorem fMin_0 {d : Nat → Int32} {fog : Int32} : fMin d fog 0 = d 0 := by
  unfold fMin
  rw [fSt_ne _ _ _ 0 (by omega) (by omega) (by omega) (by omega), up_ne (by omega)]
theorem fMin_N {d : Nat → Int32} {fog : Int32} : fN (fMin d fog) = fN d := by
  unfold fN
  rw [fMin_0]
theorem fMin_1 {d : Nat → Int32} {fog : Int32} : fMin d fog 1 = d 1 + 1 := by
  unfold fMin
  rw [fSt_ne _ _ _ 1 (by omega) (by omega) (by omega) (by omega), up_at]
theorem fMin_hi {d : Nat → Int32} {fog : Int32} (h : gW d) {j : Nat} (hj : j = 4 ∨ (6 ≤ j ∧ j < 34) ∨ 114 ≤ j) : fMin d fog j = d j := by
  have := (fN_eq h.1.1).2
  unfold fMin
  rw [fSt_ne _ _ _ j (by omega) (by omega) (by omega) (by omega), up_ne (by omega)]
theorem fMin_w {d : Nat → Int32} {fog : Int32} {g w : Nat} (hw : w < 5) : fO (fMin d fog) g w = fO d g w := by
  unfold fMin
  rw [fSt_w hw, fO_up (by omega)]
theorem c_aMinute {sc : List Value} {nm : Nat} {I : mg_I} {d0 : Nat → Int32} {fog : Int32} (hw : gW d0) : SP sc 46 189 [.ref 124, .int fog] (mR I d0) nm (qN (mR I (fMin d0 fog)) nm) := by
  refine SP.of (h := 45) (t := 189) (q := (yX12_aMinute, cX12_aMinute, 5, none, 12, 1325, mi_k189)) rfl (by decide) (show ¬ (5 : Nat) < 2 by decide) (fun d hd => ?_)
  show GG sc 12 false false mi_k189 d 0 [.ref 124, .int fog, .null, .null, .null] [] (mR I d0) nm (qN (mR I (fMin d0 fog)) nm)
  generalize hn : fN d0 = n
  have hn8 : n ≤ 8 := by rw [← hn]; exact (fN_eq hw.1.1).2
  have H : ∀ (m k : Nat) (d0 : Nat → Int32) (J : mg_I) {x3 x4 : Value}, gW d0 → fN d0 = n → k + m = n → GG sc 12 false false mi_k189 d 12 [.ref 124, .int fog, .int (nI k), x3, x4] [] (mR J d0) nm (qN (mR J (fSt fog m k d0)) nm) := by
    intro m
    induction m with
    | zero =>
      intro k d0 J x3 x4 hw hn hk
      have hN := hw.1.1
      refine g_iload_n (n := 13) rfl rfl ?_
      refine g_aload_n (n := 14) rfl rfl ?_
      refine g_getr (n := 17) (ci := 12) (j := 0) (b := 125) rfl (by decide +kernel) (by decide) (by decide) (by decide +kernel) ?_
      refine g_iconst (n := 18) (v := 0) rfl rfl ?_
      refine g_iald (n := 19) (0) rfl (by decide) rfl (by show _ < 286; omega) ?_
      try simp only [mR_125, mR_up]
      refine g_icge (n := 22) 161 rfl (by decide) (fun h1 => ?_) (fun h1 => ?_)
      ·
        refine g_vret (n := 162) rfl ?_
        exact ⟨rfl, mE.rfl', rfl⟩
      ·
        exact absurd (fN_nle (fN_eq hN).1 (by omega) (by omega) h1) (by omega)
    | succ m ih =>
      intro k d0 J x3 x4 hw hn hk
      have hN := hw.1.1
      have hgw := gW_step (g := k) (fog := fog) hw (by omega)
      have hd1 : fN (fStep d0 k fog) = n := by
        have e : fStep d0 k fog 0 = d0 0 := sD_step 0 (by omega) (by omega) (by omega) (by omega)
        unfold fN at hn ⊢
        rw [e]; exact hn
      obtain ⟨j, hj, hfj, _⟩ := iR_nI (hw.1.2.2.2 k (by omega)).2.1
      have hcj : cl (nI j) = j := nI_clamp (by omega)
      rw [fSt]
      unfold fStep at hgw hd1 ⊢
      rw [hfj, hcj] at hgw hd1 ⊢
      refine g_iload_n (n := 13) rfl rfl ?_
      refine g_aload_n (n := 14) rfl rfl ?_
      refine g_getr (n := 17) (ci := 12) (j := 0) (b := 125) rfl (by decide +kernel) (by decide) (by decide) (by decide +kernel) ?_
      refine g_iconst (n := 18) (v := 0) rfl rfl ?_
      refine g_iald (n := 19) (0) rfl (by decide) rfl (by show _ < 286; omega) ?_
      try simp only [mR_125, mR_up]
      refine g_icge (n := 22) 161 rfl (by decide) (fun h1 => ?_) (fun h1 => ?_)
      ·
        exact absurd (fN_le (fN_eq hN).1 (by omega) (by omega) h1) (by omega)
      ·
        refine g_aload_n (n := 23) rfl rfl ?_
        refine g_iload_n (n := 24) rfl rfl ?_
        refine g_iconst (n := 25) (v := 5) rfl rfl ?_
        refine g_cv2 (n := 28) (t := 145) (ci := 12) rfl (by decide +kernel) (by decide +kernel) (by decide) (by decide) (by decide +kernel) (by rfl) (c_of (g := k) (w := 5) (by omega) (by omega)) (by omega) (g_E ?_)
        try simp only [mR_125, mR_up]
        refine g_istore_n3 (n := 29) rfl rfl ?_
        refine g_aload_n (n := 30) rfl rfl ?_
        refine g_iload_n (n := 31) rfl rfl ?_
        refine g_iconst (n := 32) (v := 2) rfl rfl ?_
        refine g_cv2 (n := 35) (t := 145) (ci := 12) rfl (by decide +kernel) (by decide +kernel) (by decide) (by decide) (by decide +kernel) (by rfl) (c_of (g := k) (w := 2) (by omega) (by omega)) (by omega) (g_E ?_)
        refine g_top (w := nI j) hfj ?_
        refine g_istore4 (n := 37) rfl rfl ?_
        refine g_iload_n (n := 38) rfl rfl ?_
        refine g_ifne (n := 41) 110 rfl (by decide) (fun h2 => ?_) (fun h2 => ?_)
        ·
          rw [if_neg h2] at hgw hd1 ⊢
          refine g_iload_n (n := 111) rfl rfl ?_
          refine g_iconst (n := 112) (v := 1) rfl rfl ?_
          refine g_icne (n := 115) 144 rfl (by decide) (fun h3 => ?_) (fun h3 => ?_)
          ·
            rw [if_neg h3] at hgw hd1 ⊢
            refine g_iload_n (n := 145) rfl rfl ?_
            refine g_iconst (n := 146) (v := 1) rfl rfl ?_
            refine g_icne (n := 149) 155 rfl (by decide) (fun h4 => ?_) (fun h4 => ?_)
            ·
              refine g_iinc2 (n := 158) rfl rfl (nI_inc _) ?_
              refine g_goto 12 rfl (by decide) ?_
              exact ih (k + 1) _ J hgw hd1 (by omega)
            ·
              exact absurd h4 h3
          ·
            rw [if_pos h3] at hgw hd1 ⊢
            refine g_aload_n (n := 116) rfl rfl ?_
            refine g_iload_n (n := 117) rfl rfl ?_
            refine g_bipush (n := 119) (v := 7) rfl rfl ?_
            refine g_cv2 (n := 122) (t := 145) (ci := 12) rfl (by decide +kernel) (by decide +kernel) (by decide) (by decide) (by decide +kernel) (by rfl) (c_of (g := k) (w := 7) (by omega) (by omega)) (by omega) (g_E ?_)
            try simp only [mR_125, mR_up]
            refine g_ifle (n := 125) 144 rfl (by decide) (fun h5 => ?_) (fun h5 => ?_)
            ·
              rw [if_pos h5] at hgw hd1 ⊢
              refine g_iload_n (n := 145) rfl rfl ?_
              refine g_iconst (n := 146) (v := 1) rfl rfl ?_
              refine g_icne (n := 149) 155 rfl (by decide) (fun h6 => ?_) (fun h6 => ?_)
              ·
                exact absurd h3 h6
              ·
                refine g_aload_n (n := 150) rfl rfl ?_
                refine g_iload_n (n := 151) rfl rfl ?_
                refine g_iload_n (n := 152) rfl rfl ?_
                refine g_cv2 (n := 155) (t := 188) (ci := 12) rfl (by decide +kernel) (by decide +kernel) (by decide) (by decide) (by decide +kernel) (by rfl) (c_goesOn (g := k) hw.1 (by omega) (by assumption)) (by omega) (g_N fun I1 he => ?_)
                obtain ⟨J1, rfl, hJ1⟩ := mR_mE he
                clear he
                refine g_iinc2 (n := 158) rfl rfl (nI_inc _) ?_
                refine g_goto 12 rfl (by decide) ?_
                exact (ih (k + 1) _ J1 hgw hd1 (by omega)).mono (fun r I2 nm2 hq => ⟨hq.1, (mE_mR hJ1).trans hq.2.1, hq.2.2⟩)
            ·
              rw [if_neg h5] at hgw hd1 ⊢
              refine g_aload_n (n := 126) rfl rfl ?_
              refine g_iload_n (n := 127) rfl rfl ?_
              refine g_bipush (n := 129) (v := 7) rfl rfl ?_
              refine g_aload_n (n := 130) rfl rfl ?_
              refine g_iload_n (n := 131) rfl rfl ?_
              refine g_bipush (n := 133) (v := 7) rfl rfl ?_
              refine g_cv2 (n := 136) (t := 145) (ci := 12) rfl (by decide +kernel) (by decide +kernel) (by decide) (by decide) (by decide +kernel) (by rfl) (c_of (g := k) (w := 7) (by omega) (by omega)) (by omega) (g_E ?_)
              try simp only [mR_125, mR_up]
              refine g_iconst (n := 137) (v := 1) rfl rfl ?_
              refine g_isub (n := 138) rfl ?_
              refine g_cv3 (n := 141) (t := 146) (ci := 12) rfl (by decide +kernel) (by decide +kernel) (by decide) (by decide) (by decide +kernel) (by rfl) (c_sets (g := k) (w := 7) (by omega) (by omega)) (by omega) (g_Z ?_)
              try simp only [mR_125, mR_up]
              refine g_goto 155 rfl (by decide) ?_
              refine g_iinc2 (n := 158) rfl rfl (nI_inc _) ?_
              refine g_goto 12 rfl (by decide) ?_
              exact ih (k + 1) _ J hgw hd1 (by omega)
        ·
          rw [if_pos h2] at hgw hd1 ⊢
          refine g_aload_n (n := 42) rfl rfl ?_
          refine g_iload_n (n := 43) rfl rfl ?_
          refine g_iconst (n := 44) (v := 4) rfl rfl ?_
          refine g_cv2 (n := 47) (t := 145) (ci := 12) rfl (by decide +kernel) (by decide +kernel) (by decide) (by decide) (by decide +kernel) (by rfl) (c_of (g := k) (w := 4) (by omega) (by omega)) (by omega) (g_E ?_)
          try simp only [mR_125, mR_up]
          refine g_aload_n (n := 48) rfl rfl ?_
          refine g_getr (n := 51) (ci := 12) (j := 0) (b := 125) rfl (by decide +kernel) (by decide) (by decide) (by decide +kernel) ?_
          refine g_iconst (n := 52) (v := 1) rfl rfl ?_
          refine g_iald (n := 53) (1) rfl (by decide) rfl (by show _ < 286; omega) ?_
          try simp only [mR_125, mR_up]
          refine g_icgt (n := 56) 110 rfl (by decide) (fun h7 => ?_) (fun h7 => ?_)
          ·
            rw [if_pos h7] at hgw hd1 ⊢
            refine g_iload_n (n := 111) rfl rfl ?_
            refine g_iconst (n := 112) (v := 1) rfl rfl ?_
            refine g_icne (n := 115) 144 rfl (by decide) (fun h8 => ?_) (fun h8 => ?_)
            ·
              refine g_iload_n (n := 145) rfl rfl ?_
              refine g_iconst (n := 146) (v := 1) rfl rfl ?_
              refine g_icne (n := 149) 155 rfl (by decide) (fun h9 => ?_) (fun h9 => ?_)
              ·
                refine g_iinc2 (n := 158) rfl rfl (nI_inc _) ?_
                refine g_goto 12 rfl (by decide) ?_
                exact ih (k + 1) _ J hgw hd1 (by omega)
              ·
                exact absurd h9 h8
            ·
              exact absurd (h2.symm.trans h8) (by decide)
          ·
            rw [if_neg h7] at hgw hd1 ⊢
            refine g_aload_n (n := 57) rfl rfl ?_
            refine g_iload (n := 59) rfl rfl ?_
            refine g_cv1 (n := 62) (t := 165) (ci := 12) rfl (by decide +kernel) (by decide +kernel) (by decide) (by decide) (by decide +kernel) (by rfl) (c_atYard hN) (by omega) (g_E ?_)
            try simp only [mR_125, mR_up]
            refine g_aload_n (n := 63) rfl rfl ?_
            refine g_getr (n := 66) (ci := 12) (j := 0) (b := 125) rfl (by decide +kernel) (by decide) (by decide) (by decide +kernel) ?_
            refine g_bipush (n := 68) (v := 10) rfl rfl ?_
            refine g_iload (n := 70) rfl rfl ?_
            refine g_iaddN (n := 71) (x := 10) (y := j) rfl ?_
            refine g_iald (n := 72) ((10 + j)) rfl (by decide) rfl (by show _ < 286; omega) ?_
            try simp only [mR_125, mR_up]
            refine g_icge (n := 75) 110 rfl (by decide) (fun h10 => ?_) (fun h10 => ?_)
            ·
              rw [if_pos h10] at hgw hd1 ⊢
              refine g_iload_n (n := 111) rfl rfl ?_
              refine g_iconst (n := 112) (v := 1) rfl rfl ?_
              refine g_icne (n := 115) 144 rfl (by decide) (fun h11 => ?_) (fun h11 => ?_)
              ·
                refine g_iload_n (n := 145) rfl rfl ?_
                refine g_iconst (n := 146) (v := 1) rfl rfl ?_
                refine g_icne (n := 149) 155 rfl (by decide) (fun h12 => ?_) (fun h12 => ?_)
                ·
                  refine g_iinc2 (n := 158) rfl rfl (nI_inc _) ?_
                  refine g_goto 12 rfl (by decide) ?_
                  exact ih (k + 1) _ J hgw hd1 (by omega)
                ·
                  exact absurd h12 h11
              ·
                exact absurd (h2.symm.trans h11) (by decide)
            ·
              rw [if_neg h10] at hgw hd1 ⊢
              refine g_aload_n (n := 76) rfl rfl ?_
              refine g_iload_n (n := 77) rfl rfl ?_
              refine g_iconst (n := 78) (v := 5) rfl rfl ?_
              refine g_iconst (n := 79) (v := 1) rfl rfl ?_
              refine g_cv3 (n := 82) (t := 146) (ci := 12) rfl (by decide +kernel) (by decide +kernel) (by decide) (by decide) (by decide +kernel) (by rfl) (c_sets (g := k) (w := 5) (by omega) (by omega)) (by omega) (g_Z ?_)
              try simp only [mR_125, mR_up]
              refine g_aload_n (n := 83) rfl rfl ?_
              refine g_iload_n (n := 84) rfl rfl ?_
              refine g_bipush (n := 86) (v := 6) rfl rfl ?_
              refine g_iload (n := 88) rfl rfl ?_
              refine g_cv3 (n := 91) (t := 146) (ci := 12) rfl (by decide +kernel) (by decide +kernel) (by decide) (by decide) (by decide +kernel) (by rfl) (c_sets (g := k) (w := 6) (by omega) (by omega)) (by omega) (g_Z ?_)
              try simp only [mR_125, mR_up]
              refine g_aload_n (n := 92) rfl rfl ?_
              refine g_iload_n (n := 93) rfl rfl ?_
              refine g_bipush (n := 95) (v := 7) rfl rfl ?_
              refine g_iconst (n := 96) (v := 0) rfl rfl ?_
              refine g_cv3 (n := 99) (t := 146) (ci := 12) rfl (by decide +kernel) (by decide +kernel) (by decide) (by decide) (by decide +kernel) (by rfl) (c_sets (g := k) (w := 7) (by omega) (by omega)) (by omega) (g_Z ?_)
              try simp only [mR_125, mR_up]
              refine g_aload_n (n := 100) rfl rfl ?_
              refine g_iload_n (n := 101) rfl rfl ?_
              refine g_bipush (n := 103) (v := 8) rfl rfl ?_
              refine g_iconst (n := 104) (v := 0) rfl rfl ?_
              refine g_cv3 (n := 107) (t := 146) (ci := 12) rfl (by decide +kernel) (by decide +kernel) (by decide) (by decide) (by decide +kernel) (by rfl) (c_sets (g := k) (w := 8) (by omega) (by omega)) (by omega) (g_Z ?_)
              try simp only [mR_125, mR_up]
              refine g_goto 155 rfl (by decide) ?_
              refine g_iinc2 (n := 158) rfl rfl (nI_inc _) ?_
              refine g_goto 12 rfl (by decide) ?_
              exact ih (k + 1) _ J hgw hd1 (by omega)
  have hn1 : fN (up d0 1 (d0 1 + 1)) = n := by
    unfold fN at hn ⊢
    rw [up_ne (by omega)]; exact hn
  subst hn
  unfold fMin
  refine g_aload_n (n := 1) rfl rfl ?_
  refine g_getr (n := 4) (ci := 12) (j := 0) (b := 125) rfl (by decide +kernel) (by decide) (by decide) (by decide +kernel) ?_
  refine g_iconst (n := 5) (v := 1) rfl rfl ?_
  refine g_dup2 (n := 6) rfl ?_
  refine g_iald (n := 7) (1) rfl (by decide) rfl (by show _ < 286; omega) ?_
  try simp only [mR_125, mR_up]
  refine g_iconst (n := 8) (v := 1) rfl rfl ?_
  refine g_iadd (n := 9) rfl ?_
  refine g_iast (n := 10) (1) rfl (by decide) rfl (by show _ < 286; omega) ?_
  try simp only [mR_125, mR_up]
  refine g_iconst (n := 11) (v := 0) rfl rfl ?_
  refine g_istore_n2 (n := 12) rfl rfl ?_
  exact H (fN d0) 0 _ I (gW_1 hw) hn1 (by omega)
