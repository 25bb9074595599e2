/-! what the numbers keep to, act by act -/
def gF (d : Nat → Int32) : Prop := ∀ h, fN d ≤ h → h < 8 → fTb d h = 0
def gI (d : Nat → Int32) : Prop := gW d ∧ gV d ∧ iR (d 1) 10000 ∧ (∀ g, g < 8 → iR (fO d g 4) 1000) ∧ nL d 24 ≤ 9 ∧ iR (d 6) 51 ∧ iR (d 7) 21 ∧ (∀ k, k < 50 → iR (d (236 + k)) 256) ∧ gF d
theorem flt_2 : ∀ f, f < 256 → ∀ n, n ≤ 8 → (∀ h, h < 8 → n ≤ h → ¬ f.testBit h = true) → f < 2 ^ n := by decide +kernel
theorem gF_lt {d : Nat → Int32} (h5 : iR (d 5) 256) (h0 : iR (d 0) 9) (h : gF d) : cl (d 5) < 2 ^ fN d :=
  flt_2 _ (iR_clamp h5).1 _ (fN_eq h0).2 fun k hk hn => fTb_f (h k hn hk)
/-- faults of others stay -/
def fX (d d' : Nat → Int32) (g : Nat) : Prop := ∀ h, h < 8 → h ≠ g → fTb d' h = fTb d h
theorem fX_r {d : Nat → Int32} {g : Nat} : fX d d g := fun _ _ _ => rfl
theorem fX_c {d d' : Nat → Int32} {g : Nat} (h : d' 5 = d 5) : fX d d' g := fun _ _ _ => fTb_c h
theorem fX_meets {d : Nat → Int32} {g h : Nat} (h5 : iR (d 5) 256) (hg : g < 8) : fX d (fMeets d g h) g := by
  unfold fMeets
  split
  · exact fX_r
  · split
    · exact fun j _ hn => (fTb_or h5 hg up_at).trans (if_neg hn)
    · exact fX_c (by rw [up_ne (by omega), up_ne (by omega), up_ne (by omega)])
theorem fX_comes {d : Nat → Int32} {g y : Nat} : fX d (fComes d g y) g := by
  refine fX_c ?_
  unfold fComes
  split
  · unfold fC2 fC1
    rw [up_ne (by omega), up_ne (by omega), up_ne (by omega), up_ne (by omega)]
  · unfold fC1
    rw [up_ne (by omega), up_ne (by omega)]
theorem fX_over {d : Nat → Int32} {g : Nat} (h5 : iR (d 5) 256) (hg : g < 8) : fX d (fOver d g) g := by
  unfold fOver
  intro j hj hn
  refine (fTb_and h5 hg hj ?_).trans (if_neg hn)
  rw [up_at, up_ne (by omega), up_ne (by omega)]
theorem fX_home {d : Nat → Int32} {g : Nat} (h5 : iR (d 5) 256) (hg : g < 8) : fX d (fHome d g) g := by
  unfold fHome
  intro j hj hn
  refine (fTb_and h5 hg hj ?_).trans (if_neg hn)
  rw [up_at, up_ne (by omega), up_ne (by omega), up_ne (by omega), up_ne (by omega), up_ne (by omega)]
theorem fX_go {d : Nat → Int32} {g : Nat} {b x : Int32} (h5 : iR (d 5) 256) (hg : g < 8) : fX d (fGo d g b x) g := by
  unfold fGo
  split
  · split
    · split
      · split
        · exact fX_r
        · split
          · exact fX_r
          · exact fX_meets h5 hg
      · exact fX_r
    · exact fX_comes
  · exact fX_r
theorem fX_goes {d : Nat → Int32} {g : Nat} {fog : Int32} (h5 : iR (d 5) 256) (hg : g < 8) : fX d (fGoes d g fog) g := by
  unfold fGoes
  split
  · exact fX_go h5 hg
  · split
    · exact fX_over h5 hg
    · split
      · split
        · split
          · exact fX_go h5 hg
          · split
            · exact fX_go h5 hg
            · exact fX_r
        · exact fX_go h5 hg
      · exact fX_go h5 hg
theorem fX_step {d : Nat → Int32} {g : Nat} {fog : Int32} (h5 : iR (d 5) 256) (hg : g < 8) : fX d (fStep d g fog) g := by
  unfold fStep
  split
  · split
    · exact fX_r
    · split
      · exact fX_r
      · exact fX_c (by rw [up_ne (by omega), up_ne (by omega), up_ne (by omega), up_ne (by omega)])
  · split
    · split
      · exact fX_goes h5 hg
      · exact fX_c (by rw [up_ne (by omega)])
    · exact fX_r
theorem fX_st {fog : Int32} : ∀ m k (d : Nat → Int32), gW d → k + m ≤ 8 → ∀ h, k + m ≤ h → h < 8 → fTb (fSt fog m k d) h = fTb d h := by
  intro m
  induction m with
  | zero => intro k d _ _ h _ _; rfl
  | succ m ih =>
    intro k d hw hk h h1 h2
    rw [fSt, ih (k + 1) _ (gW_step hw (by omega)) (by omega) h (by omega) h2]
    exact fX_step hw.2.2.2 (by omega) h h2 (by omega)
theorem gF_min {d : Nat → Int32} {fog : Int32} (hw : gW d) (h : gF d) : gF (fMin d fog) := by
  intro j h1 h2
  rw [fMin_N] at h1
  have hN := (fN_eq hw.1.1).2
  unfold fMin
  rw [fX_st _ _ _ (gW_1 hw) (by omega) j (by omega) h2, fTb_c (d := d) (up_ne (by omega))]
  exact h j h1 h2
theorem gF_up {d : Nat → Int32} {j : Nat} {v : Int32} (h : gF d) (hj : j ≠ 0 ∧ j ≠ 5) : gF (up d j v) := by
  intro k h1 h2
  have e : fN (up d j v) = fN d := by unfold fN; rw [up_ne (by omega)]
  rw [e] at h1
  rw [fTb_c (d := d) (up_ne (by omega))]
  exact h k h1 h2
theorem nL_c {d d' : Nat → Int32} (h : ∀ y, y < 24 → d' (10 + y) = d (10 + y)) : nL d' 24 = nL d 24 := by
  have key : ∀ m, m ≤ 24 → nL d' m = nL d m := by
    intro m
    induction m with
    | zero => intro _; rw [show nL d' 0 = 0 from nL_z, show nL d 0 = 0 from nL_z]
    | succ m ih =>
      intro hm
      have e := h m (by omega)
      by_cases q : 1 < d (10 + m)
      · rw [nL_1 q, nL_1 (show 1 < d' (10 + m) by rw [e]; exact q), ih (by omega)]
      · rw [nL_0 q, nL_0 (show ¬ 1 < d' (10 + m) by rw [e]; exact q), ih (by omega)]
  exact key 24 (Nat.le_refl _)
/-- one minute: all but the minute's number -/
def gJ (d : Nat → Int32) : Prop := gW d ∧ gV d ∧ (∀ g, g < 8 → iR (fO d g 4) 1000) ∧ nL d 24 ≤ 9 ∧ iR (d 6) 51 ∧ iR (d 7) 21 ∧ (∀ k, k < 50 → iR (d (236 + k)) 256) ∧ gF d
theorem gI_J {d : Nat → Int32} (h : gI d) : gJ d := ⟨h.1, h.2.1, h.2.2.2⟩
theorem gJ_I {d : Nat → Int32} (h : gJ d) (h1 : iR (d 1) 10000) : gI d := ⟨h.1, h.2.1, h1, h.2.2⟩
theorem gJ_min {d : Nat → Int32} {fog : Int32} (h : gJ d) : gJ (fMin d fog) := by
  obtain ⟨h1, h2, h3, h4, h5, h6, h7, h8⟩ := h
  refine ⟨gW_min h1, gV_min h1 h2, fun g hg => ?_, ?_, ?_, ?_, fun k hk => ?_, gF_min h1 h8⟩
  · rw [fMin_w (by omega)]; exact h3 g hg
  · rw [nL_c (d := d) (fun y hy => fMin_hi h1 (by omega))]; exact h4
  · rw [fMin_hi h1 (by omega)]; exact h5
  · rw [fMin_hi h1 (by omega)]; exact h6
  · rw [fMin_hi h1 (by omega)]; exact h7 k hk
/-- a place that few things speak of -/
theorem gJ_up {d : Nat → Int32} {j : Nat} {v : Int32} (h : gJ d) (hj : j = 1 ∨ j = 2 ∨ j = 4 ∨ (116 ≤ j ∧ j < 236)) : gJ (up d j v) := by
  obtain ⟨h1, h2, h3, h4, h5, h6, h7, h8⟩ := h
  refine ⟨gW_up h1 (by omega), gV_up h2 (by omega), fun g hg => ?_, ?_, ?_, ?_, fun k hk => ?_, gF_up h8 (by omega)⟩
  · rw [fO_up (by omega)]; exact h3 g hg
  · rw [nL_c (d := d) (fun y hy => up_ne (by omega))]; exact h4
  · rw [up_ne (by omega)]; exact h5
  · rw [up_ne (by omega)]; exact h6
  · rw [up_ne (by omega)]; exact h7 k hk
theorem gI_up {d : Nat → Int32} {j : Nat} {v : Int32} (h : gI d) (hj : j = 2 ∨ j = 4 ∨ (116 ≤ j ∧ j < 236)) : gI (up d j v) := gJ_I (gJ_up (gI_J h) (by omega)) (by rw [up_ne (by omega)]; exact h.2.2.1)
theorem gJ_ps {dr : Int32} : ∀ m (d : Nat → Int32), gJ d → gJ (fPs dr m d) ∧ fPs dr m d 1 = d 1 + nI m := by
  intro m
  induction m with
  | zero => intro d h; exact ⟨h, (Int32.add_zero _).symm⟩
  | succ m ih =>
    intro d h
    have key : ∀ d', gJ d' → d' 1 = d 1 + 1 → gJ (fPs dr m d') ∧ fPs dr m d' 1 = d 1 + nI (m + 1) := fun d' h' e => by
      obtain ⟨i1, i2⟩ := ih d' h'
      refine ⟨i1, ?_⟩
      rw [i2, e, Int32.add_assoc, Int32.add_comm 1 (nI m)]
      exact congrArg (fun z => d 1 + z) (show nI m + nI 1 = nI (m + 1) from nI_plus _ _)
    rw [fPs]
    by_cases q : dr = 0
    · rw [if_pos q]; exact key _ (gJ_min h) fMin_1
    · rw [if_neg q]
      refine key _ (gJ_min (gJ_up h (by omega))) ?_
      rw [fMin_1]
      exact congrArg (fun z => z + 1) (up_ne (by omega))
theorem gI_pass {d : Nat → Int32} {n dr : Int32} (h : gI d) : gI (oPass d n dr).2.2 := by
  unfold oPass
  split
  next h1 =>
    split
    next h2 =>
      obtain ⟨i1, i2⟩ := gJ_ps (dr := dr) (cl n) d (gI_J h)
      refine gJ_I i1 ?_
      show iR (fPs dr (cl n) d 1) 10000
      rw [i2]
      obtain ⟨k, hk, e, -⟩ := iR_nI h.2.2.1
      obtain ⟨m, hm, rfl, hc⟩ := iR_nI (x := n) (n := 301) ⟨by omega, by omega⟩
      rw [show cl (nI m) = m from hc, e, nI_plus]
      rw [e, nI_plus] at h2
      exact iR_of (by have := (nI_leI (b := 9999) (by omega) (by omega)).mp h2; omega) (by omega)
    · exact h
  · exact h
theorem gI_space {d : Nat → Int32} {y v : Int32} (h : gI d) (h0 : fRf d y v = 0) : gI (up d (10 + cl y) v) := by
  obtain ⟨h1, h2, h3, h4, h5, h6, h7, h8, h9⟩ := h
  have hy := fRf_0 h0
  have hc : cl y < 24 := cl_lt hy.1 (by omega)
  refine ⟨gW_up h1 (by omega), gV_up h2 (by omega), ?_, fun g hg => ?_, nL_rf h5 h0, ?_, ?_, fun k hk => ?_, gF_up h9 (by omega)⟩
  · rw [up_ne (by omega)]; exact h3
  · rw [fO_up (by omega)]; exact h4 g hg
  · rw [up_ne (by omega)]; exact h6
  · rw [up_ne (by omega)]; exact h7
  · rw [up_ne (by omega)]; exact h8 k hk
theorem gI_room {d : Nat → Int32} {y v : Int32} (h : gI d) : gI (oRoom d y v).2.2 := by
  unfold oRoom
  split
  next h0 => exact gI_space h h0
  · exact h
theorem gI_rm {f : Nat → Int32} : ∀ m k (d : Nat → Int32), k + m ≤ 50 → gI d → gI (fRm f m k d).2 := by
  intro m
  induction m with
  | zero => intro k d _ h; exact h
  | succ m ih =>
    intro k d hk h
    rw [fRm]
    by_cases h0 : fRf d (nI k) (f k) = 0
    · rw [if_pos h0]
      have hs := gI_space h h0
      rw [show cl (nI k) = k from nI_clamp (by omega)] at hs
      exact ih (k + 1) _ (by omega) hs
    · rw [if_neg h0]; exact h
/-- a goer's numbers: all that is asked of them -/
theorem gI_goer {d d' : Nat → Int32} {g : Nat} (h : gI d) (hg : g < 8) (hd : ∀ j, (j = 1 ∨ j = 3 ∨ (6 ≤ j ∧ j < 34) ∨ 114 ≤ j) → d' j = d j) (h0 : iR (d' 0) 9)
    (ho : ∀ k, k < 8 → k ≠ g → ∀ w, w < 10 → fO d' k w = fO d k w) (k0 : fK (fO d' g 0)) (k1 : iR (fO d' g 1) 10) (k2 : iR (fO d' g 2) 24) (k4 : iR (fO d' g 4) 1000) (k6 : fO d' g 5 = 1 → iR (fO d' g 6) 24) (k7 : 0 ≤ (fO d' g 7).toInt) (k8 : fO d' g 8 = 0 ∨ fO d' g 8 = 1) (h5 : iR (d' 5) 256) (hF : gF d') : gI d' := by
  obtain ⟨⟨⟨a0, a1, a2, a3⟩, a4, a5, a6⟩, h2, h3, h4, hL, h6, h7, h8, h9⟩ := h
  refine ⟨⟨⟨h0, ?_, ?_, fun k hk => ?_⟩, fun k hk => ?_, ?_, h5⟩, fun k hk => ?_, ?_, fun k hk => ?_, ?_, ?_, ?_, fun k hk => ?_, hF⟩
  · rw [hd _ (by omega)]; exact a1
  · rw [hd _ (by omega)]; exact a2
  · by_cases e : k = g
    · subst e; exact ⟨k0, k2, k6⟩
    · rw [ho k hk e _ (by omega), ho k hk e _ (by omega), ho k hk e _ (by omega), ho k hk e _ (by omega)]; exact a3 k hk
  · by_cases e : k = g
    · subst e; exact k8
    · rw [ho k hk e _ (by omega)]; exact a4 k hk
  · rw [hd _ (by omega)]; exact a5
  · by_cases e : k = g
    · subst e; exact ⟨k1, k7⟩
    · rw [ho k hk e _ (by omega), ho k hk e _ (by omega)]; exact h2 k hk
  · rw [hd _ (by omega)]; exact h3
  · by_cases e : k = g
    · subst e; exact k4
    · rw [ho k hk e _ (by omega)]; exact h4 k hk
  · rw [nL_c (d := d) (fun y hy => hd _ (by omega))]; exact hL
  · rw [hd _ (by omega)]; exact h6
  · rw [hd _ (by omega)]; exact h7
  · rw [hd _ (by omega)]; exact h8 k hk
theorem km_k : ∀ k, k < 70 → fK (nI k / 10) ∧ iR (nI k - nI k / 10 * 10) 10 := by
  have key : ∀ k, k < 70 → ((nI k / 10 = 0 ∨ nI k / 10 = 1 ∨ nI k / 10 = 2 ∨ nI k / 10 = 3 ∨ nI k / 10 = 4 ∨ nI k / 10 = 5 ∨ nI k / 10 = 6) ∧ 0 ≤ (nI k - nI k / 10 * 10).toInt ∧ (nI k - nI k / 10 * 10).toInt < 10) := by decide +kernel
  exact fun k hk => ⟨(key k hk).1, (key k hk).2⟩
theorem km_r {km : Int32} (h : 0 ≤ km.toInt ∧ km.toInt ≤ 69) : fK (km / 10) ∧ iR (km - km / 10 * 10) 10 := by
  obtain ⟨k, hk, rfl, -⟩ := iR_nI (x := km) (n := 70) ⟨by omega, by omega⟩
  exact km_k k hk
theorem cl_g {d : Nat → Int32} {g : Int32} (h0 : iR (d 0) 9) (h : 0 ≤ g.toInt ∧ g.toInt < (fN d : Int)) : cl g < fN d ∧ cl g < 8 := by
  have h1 := cl_lt h.1 h.2
  have h2 := (fN_eq h0).2
  exact ⟨h1, by omega⟩
theorem gI_become {d : Nat → Int32} {g km : Int32} (h : gI d) : gI (oBecome d g km).2.2 := by
  unfold oBecome
  split
  next hg =>
    split
    next hk =>
      obtain ⟨g1, g8⟩ := cl_g h.1.1.1 hg
      show gI (sKm d (cl g) km)
      obtain ⟨q1, q2⟩ := km_r hk
      have hv := h.2.1 (cl g) g8
      have hw := h.1.1.2.2.2 (cl g) g8
      unfold sKm
      refine gI_goer h g8 (fun j hj => by rw [up_ne (by omega), up_ne (by omega)]) ?_ (fun k hk hn w hw => by rw [fO_up (by omega), fO_up (by omega)]) ?_ ?_ ?_ ?_ ?_ ?_ ?_ ?_ ?_
      · rw [up_ne (by omega), up_ne (by omega)]; exact h.1.1.1
      · rw [fO_up (by omega), fO_at]; exact q1
      · rw [fO_at]; exact q2
      · rw [fO_up (by omega), fO_up (by omega)]; exact hw.2.1
      · rw [fO_up (by omega), fO_up (by omega)]; exact h.2.2.2.1 _ g8
      · rw [fO_up (by omega), fO_up (by omega), fO_up (by omega), fO_up (by omega)]; exact hw.2.2
      · rw [fO_up (by omega), fO_up (by omega)]; exact hv.2
      · rw [fO_up (by omega), fO_up (by omega)]; exact h.1.2.1 _ g8
      · rw [up_ne (by omega), up_ne (by omega)]; exact h.1.2.2.2
      · exact gF_up (gF_up h.2.2.2.2.2.2.2.2 (by omega)) (by omega)
    · exact h
  · exact h
theorem gI_start {d : Nat → Int32} {g z : Int32} (h : gI d) : gI (oStart d g z).2.2 := by
  unfold oStart
  split
  next hg =>
    split
    next hz =>
      split
      · obtain ⟨g1, g8⟩ := cl_g h.1.1.1 hg
        show gI (up d (34 + 10 * cl g + 4) z)
        have hv := h.2.1 (cl g) g8
        have hw := h.1.1.2.2.2 (cl g) g8
        refine gI_goer h g8 (fun j hj => by rw [up_ne (by omega)]) ?_ (fun k hk hn w hw => by rw [fO_up (by omega)]) ?_ ?_ ?_ ?_ ?_ ?_ ?_ ?_ ?_
        · rw [up_ne (by omega)]; exact h.1.1.1
        · rw [fO_up (by omega)]; exact hw.1
        · rw [fO_up (by omega)]; exact hv.1
        · rw [fO_up (by omega)]; exact hw.2.1
        · rw [fO_at]; exact ⟨hz.1, by omega⟩
        · rw [fO_up (by omega), fO_up (by omega)]; exact hw.2.2
        · rw [fO_up (by omega)]; exact hv.2
        · rw [fO_up (by omega)]; exact h.1.2.1 _ g8
        · rw [up_ne (by omega)]; exact h.1.2.2.2
        · exact gF_up h.2.2.2.2.2.2.2.2 (by omega)
      · exact h
    · exact h
  · exact h
theorem fHome_j {d : Nat → Int32} {g j : Nat} (hg : g < 8) (h : ¬ (34 + 10 * g + 5 ≤ j ∧ j < 34 + 10 * g + 10)) (h5 : j ≠ 5) : fHome d g j = d j := by
  unfold fHome
  rw [up_ne (by omega), up_ne (by omega), up_ne (by omega), up_ne (by omega), up_ne (by omega), up_ne (by omega)]
theorem fHome_o {d : Nat → Int32} {g k w : Nat} (hg : g < 8) (hw : w < 10) (h : k ≠ g ∨ w < 5) : fO (fHome d g) k w = fO d k w ∨ ¬ k < 8 := by
  by_cases hk : k < 8
  · exact Or.inl (fHome_j hg (by omega) (by omega))
  · exact Or.inr hk
theorem fHome_5 {d : Nat → Int32} {g : Nat} (hg : g < 8) : fO (fHome d g) g 5 = 0 := by
  unfold fHome
  rw [fO_up (by omega), fO_up (by omega), fO_up (by omega), fO_up (by omega), fO_up (by omega), fO_at]
theorem fHome_7 {d : Nat → Int32} {g : Nat} (hg : g < 8) : fO (fHome d g) g 7 = 0 := by
  unfold fHome
  rw [fO_up (by omega), fO_up (by omega), fO_up (by omega), fO_at]
theorem fHome_8 {d : Nat → Int32} {g : Nat} (hg : g < 8) : fO (fHome d g) g 8 = 0 := by
  unfold fHome
  rw [fO_up (by omega), fO_up (by omega), fO_at]
theorem fHome_d5 {d : Nat → Int32} {g : Nat} (h5 : iR (d 5) 256) (hg : g < 8) : iR (fHome d g 5) 256 := by
  unfold fHome
  rw [up_at, up_ne (by omega), up_ne (by omega), up_ne (by omega), up_ne (by omega), up_ne (by omega)]
  exact iR_and h5 hg
theorem gF_home {d : Nat → Int32} {g : Nat} (h5 : iR (d 5) 256) (hg : g < fN d) (h8 : fN d ≤ 8) (h : gF d) : gF (fHome d g) := by
  intro k h1 h2
  have e : fN (fHome d g) = fN d := by unfold fN; rw [fHome_j (by omega) (by omega) (by omega)]
  rw [e] at h1
  rw [fX_home h5 (by omega) k h2 (by omega)]
  exact h k h1 h2
theorem gI_homeG {d : Nat → Int32} {g : Nat} (h : gI d) (hg : g < fN d) : gI (fHome d g) := by
  have h8 := (fN_eq h.1.1.1).2
  have g8 : g < 8 := by omega
  have hv := h.2.1 g g8
  have hw := h.1.1.2.2.2 g g8
  refine gI_goer h g8 (fun j hj => fHome_j g8 (by omega) (by omega)) ?_ (fun k hk hn w hw => (fHome_o g8 hw (Or.inl hn)).resolve_right (fun q => q hk)) ?_ ?_ ?_ ?_ (fun q => ?_) ?_ ?_ (fHome_d5 h.1.2.2.2 g8) (gF_home h.1.2.2.2 hg h8 h.2.2.2.2.2.2.2.2)
  · rw [fHome_j g8 (by omega) (by omega)]; exact h.1.1.1
  · rw [(fHome_o g8 (by omega) (Or.inr (by omega))).resolve_right (fun q => q g8)]; exact hw.1
  · rw [(fHome_o g8 (by omega) (Or.inr (by omega))).resolve_right (fun q => q g8)]; exact hv.1
  · rw [(fHome_o g8 (by omega) (Or.inr (by omega))).resolve_right (fun q => q g8)]; exact hw.2.1
  · rw [(fHome_o g8 (by omega) (Or.inr (by omega))).resolve_right (fun q => q g8)]; exact h.2.2.2.1 _ g8
  · rw [fHome_5 g8] at q; exact absurd q (by decide)
  · rw [fHome_7 g8]; decide
  · rw [fHome_8 g8]; exact Or.inl rfl
theorem gI_home {d : Nat → Int32} {g : Int32} (h : gI d) : gI (oHome d g).2.2 := by
  unfold oHome
  split
  next hg => exact gI_homeG h (cl_g h.1.1.1 hg).1
  · exact h
theorem gI_goerN {d : Nat → Int32} {km a b s : Int32} (h : gI d) : gI (oGoer d km a b s).2.2 := by
  unfold oGoer
  split
  next hk =>
    split
    next ha =>
      split
      next hb =>
        split
        · exact h
        · split
          next hs =>
            split
            · exact h
            next hn8 =>
              obtain ⟨e0, hN⟩ := fN_eq h.1.1.1
              have hN8 : fN d < 8 := by
                rcases Nat.lt_or_ge (fN d) 8 with q | q
                · exact q
                · exact absurd (e0.trans (by rw [show fN d = 8 by omega]; rfl)) hn8
              show gI (sNew d (fN d) km a b s)
              obtain ⟨q1, q2⟩ := km_r hk
              unfold sNew sKm
              generalize hx : up (up (up (up (up (up d 0 (nI (fN d + 1))) (34 + 10 * fN d + 0) (km / 10)) (34 + 10 * fN d + 1) (km - km / 10 * 10)) (34 + 10 * fN d + 2) a) (34 + 10 * fN d + 3) b) (34 + 10 * fN d + 4) s = x
              have xj : ∀ j, j ≠ 0 → ¬ (34 + 10 * fN d ≤ j ∧ j < 34 + 10 * fN d + 5) → x j = d j := fun j h1 h2 => by
                rw [← hx, up_ne (by omega), up_ne (by omega), up_ne (by omega), up_ne (by omega), up_ne (by omega), up_ne (by omega)]
              have x0 : x 0 = nI (fN d + 1) := by
                rw [← hx, up_ne (by omega), up_ne (by omega), up_ne (by omega), up_ne (by omega), up_ne (by omega), up_at]
              have xk : fO x (fN d) 0 = km / 10 := by rw [← hx, fO_up (by omega), fO_up (by omega), fO_up (by omega), fO_up (by omega), fO_at]
              have xm : fO x (fN d) 1 = km - km / 10 * 10 := by rw [← hx, fO_up (by omega), fO_up (by omega), fO_up (by omega), fO_at]
              have xa : fO x (fN d) 2 = a := by rw [← hx, fO_up (by omega), fO_up (by omega), fO_at]
              have xs : fO x (fN d) 4 = s := by rw [← hx, fO_at]
              have x5 : x 5 = d 5 := xj _ (by omega) (by omega)
              have g8 := hN8
              refine gI_goer h g8 (fun j hj => (fHome_j g8 (by omega) (by omega)).trans (xj j (by omega) (by omega))) ?_ (fun k hk hn w hw => ((fHome_o g8 hw (Or.inl hn)).resolve_right (fun q => q hk)).trans (xj _ (by omega) (by omega))) ?_ ?_ ?_ ?_ (fun q => ?_) ?_ ?_ (fHome_d5 (by rw [x5]; exact h.1.2.2.2) g8) (fun k k1 k2 => ?_)
              · rw [fHome_j g8 (by omega) (by omega), x0]; exact iR_of (by omega) (by omega)
              · rw [(fHome_o g8 (by omega) (Or.inr (by omega))).resolve_right (fun q => q g8), xk]; exact q1
              · rw [(fHome_o g8 (by omega) (Or.inr (by omega))).resolve_right (fun q => q g8), xm]; exact q2
              · rw [(fHome_o g8 (by omega) (Or.inr (by omega))).resolve_right (fun q => q g8), xa]; exact ⟨ha.1, by omega⟩
              · rw [(fHome_o g8 (by omega) (Or.inr (by omega))).resolve_right (fun q => q g8), xs]; exact ⟨hs.1, by omega⟩
              · rw [fHome_5 g8] at q; exact absurd q (by decide)
              · rw [fHome_7 g8]; decide
              · rw [fHome_8 g8]; exact Or.inl rfl
              · have eN : fN (fHome x (fN d)) = fN d + 1 := by
                  show cl (fHome x (fN d) 0) = fN d + 1
                  rw [fHome_j g8 (by omega) (by omega), x0]; exact nI_clamp (by omega)
                rw [eN] at k1
                rw [fX_home (by rw [x5]; exact h.1.2.2.2) g8 k k2 (by omega), fTb_c x5]
                exact h.2.2.2.2.2.2.2.2 k (by omega) k2
          · exact h
      · exact h
    · exact h
  · exact h
theorem gI_67 {d d' : Nat → Int32} (h : gI d) (hd : ∀ j, j < 116 → j ≠ 6 → j ≠ 7 → d' j = d j) (h6 : iR (d' 6) 51) (h7 : iR (d' 7) 21) (hb : ∀ k, k < 50 → iR (d' (236 + k)) 256) : gI d' := by
  obtain ⟨⟨⟨a0, a1, a2, a3⟩, a4, a5, a6⟩, h2, h3, h4, hL, -, -, -, h9⟩ := h
  have ho : ∀ k w, k < 8 → w < 10 → fO d' k w = fO d k w := fun k w hk hw => hd _ (by omega) (by omega) (by omega)
  have eN : fN d' = fN d := by unfold fN; rw [hd _ (by omega) (by omega) (by omega)]
  refine ⟨⟨⟨?_, ?_, ?_, fun k hk => ?_⟩, fun k hk => ?_, ?_, ?_⟩, fun k hk => ?_, ?_, fun k hk => ?_, ?_, h6, h7, hb, fun k k1 k2 => ?_⟩
  · rw [hd _ (by omega) (by omega) (by omega)]; exact a0
  · rw [hd _ (by omega) (by omega) (by omega)]; exact a1
  · rw [hd _ (by omega) (by omega) (by omega)]; exact a2
  · rw [ho k _ hk (by omega), ho k _ hk (by omega), ho k _ hk (by omega), ho k _ hk (by omega)]; exact a3 k hk
  · rw [ho k _ hk (by omega)]; exact a4 k hk
  · rw [hd _ (by omega) (by omega) (by omega)]; exact a5
  · rw [hd _ (by omega) (by omega) (by omega)]; exact a6
  · rw [ho k _ hk (by omega), ho k _ hk (by omega)]; exact h2 k hk
  · rw [hd _ (by omega) (by omega) (by omega)]; exact h3
  · rw [ho k _ hk (by omega)]; exact h4 k hk
  · rw [nL_c (d := d) (fun y hy => hd _ (by omega) (by omega) (by omega))]; exact hL
  · rw [eN] at k1
    rw [fTb_c (d := d) (hd _ (by omega) (by omega) (by omega))]
    exact h9 k k1 k2
theorem fBy_r {w : Int64} {k : Nat} : iR (fBy w k) 256 := by
  unfold fBy
  generalize (w >>> ((nI (8 * k)).toInt64 &&& 63)) = z
  have hb : (z &&& 255).toBitVec.toNat < 256 := by
    show (z.toBitVec &&& (255 : Int64).toBitVec).toNat < 256
    rw [BitVec.toNat_and]
    exact Nat.lt_of_le_of_lt Nat.and_le_right (by decide)
  have e : ((z &&& 255).toInt32).toBitVec.toNat = (z &&& 255).toBitVec.toNat := by
    rw [Int64.toBitVec_toInt32, BitVec.signExtend_eq_setWidth_of_le _ (by decide), BitVec.toNat_setWidth]
    omega
  have e2 : ((z &&& 255).toInt32).toInt = ((z &&& 255).toBitVec.toNat : Int) := by
    show ((z &&& 255).toInt32).toBitVec.toInt = _
    rw [BitVec.toInt_eq_toNat_of_lt (by rw [e]; omega), e]
  unfold iR
  rw [e2]
  exact ⟨by omega, by omega⟩
theorem gI_fd {w : Int64} : ∀ m k s (d : Nat → Int32), s + m ≤ 50 → gI d → d 6 = nI s → gI (fFd w m k s d) := by
  intro m
  induction m with
  | zero => intro k s d _ h _; exact h
  | succ m ih =>
    intro k s d hs h h6
    rw [fFd]
    refine ih (k + 1) (s + 1) _ (by omega) (gI_67 h (fun j h1 h2 h3 => by rw [up_ne (by omega), up_ne (by omega)]) ?_ ?_ (fun j hj => ?_)) up_at
    · rw [up_at]; exact iR_of (by omega) (by omega)
    · rw [up_ne (by omega), up_ne (by omega)]; exact h.2.2.2.2.2.2.1
    · rw [up_ne (by omega)]
      by_cases e : j = s
      · subst e; rw [up_at]; exact fBy_r
      · rw [up_ne (by omega)]; exact h.2.2.2.2.2.2.2.1 j hj
theorem gI_feed {d : Nat → Int32} {w : Int64} {n : Int32} (h : gI d) : gI (oFeed d w n).2.2 := by
  unfold oFeed
  split
  next h1 =>
    split
    next h2 =>
      obtain ⟨k, hk, e, hc⟩ := iR_nI h.2.2.2.2.2.1
      obtain ⟨m, hm, rfl, hcm⟩ := iR_nI (x := n) (n := 9) ⟨by omega, by omega⟩
      rw [e, nI_plus] at h2
      have h3 := (nI_leI (b := 50) (by omega) (by omega)).mp h2
      show gI (fFd w (cl (nI m)) 0 (cl (d 6)) d)
      rw [show cl (nI m) = m from hcm, show cl (d 6) = k from hc]
      exact gI_fd m 0 k d (by omega) h e
    · exact h
  · exact h
theorem gI_text {d : Nat → Int32} {u : Int32} (h : gI d) : gI (oText d u).2.2 := by
  unfold oText
  split
  next h1 =>
    have hu : cl u < 2 := cl_lt h1.1 (by omega)
    have h50 := (iR_clamp h.2.2.2.2.2.1).1
    have hc : cl (d 6) < 51 := h50
    split
    · show gI (dTx d (cl u) (cl (d 6)) (cl (d 6)))
      have h114 : ∀ v, v < 2 → iR (dTx d (cl u) (cl (d 6)) (cl (d 6)) (114 + v)) 51 := fun v hv => by
        by_cases e : v = cl u
        · subst e
          unfold dTx
          rw [if_neg (by omega), if_pos rfl]; exact iR_of hc (by omega)
        · rw [dTx_o (by omega) (by omega) (by omega)]
          rcases (show v = 0 ∨ v = 1 by omega) with rfl | rfl
          · exact h.1.1.2.1
          · exact h.1.1.2.2.1
      have h' : gI (up d 6 0) := gI_67 h (fun j h1 h2 h3 => up_ne (by omega)) (by rw [up_at]; exact iR_of (k := 0) (by omega) (by omega)) (by rw [up_ne (by omega)]; exact h.2.2.2.2.2.2.1) (fun k hk => by rw [up_ne (by omega)]; exact h.2.2.2.2.2.2.2.1 k hk)
      obtain ⟨⟨⟨a0, a1, a2, a3⟩, a4, a5, a6⟩, h2, h3, h4, hL, h6, h7, h8, h9⟩ := h'
      have hd : ∀ j, ¬ (114 ≤ j ∧ j < 236) → dTx d (cl u) (cl (d 6)) (cl (d 6)) j = up d 6 0 j := fun j hj => by
        by_cases e : j = 6
        · subst e; unfold dTx; rw [if_neg (by omega), if_neg (by omega), if_pos rfl, up_at]
        · rw [dTx_o (by omega) (by omega) e, up_ne e]
      have ho : ∀ k w, k < 8 → w < 10 → fO (dTx d (cl u) (cl (d 6)) (cl (d 6))) k w = fO (up d 6 0) k w := fun k w hk hw => hd _ (by omega)
      have eN : fN (dTx d (cl u) (cl (d 6)) (cl (d 6))) = fN (up d 6 0) := by unfold fN; rw [hd _ (by omega)]
      refine ⟨⟨⟨?_, h114 0 (by omega), h114 1 (by omega), fun k hk => ?_⟩, fun k hk => ?_, ?_, ?_⟩, fun k hk => ?_, ?_, fun k hk => ?_, ?_, ?_, ?_, fun k hk => ?_, fun k k1 k2 => ?_⟩
      · rw [hd _ (by omega)]; exact a0
      · rw [ho k _ hk (by omega), ho k _ hk (by omega), ho k _ hk (by omega), ho k _ hk (by omega)]; exact a3 k hk
      · rw [ho k _ hk (by omega)]; exact a4 k hk
      · rw [hd _ (by omega)]; exact a5
      · rw [hd _ (by omega)]; exact a6
      · rw [ho k _ hk (by omega), ho k _ hk (by omega)]; exact h2 k hk
      · rw [hd _ (by omega)]; exact h3
      · rw [ho k _ hk (by omega)]; exact h4 k hk
      · rw [nL_c (d := up d 6 0) (fun y hy => hd _ (by omega))]; exact hL
      · rw [hd _ (by omega)]; exact h6
      · rw [hd _ (by omega)]; exact h7
      · rw [hd _ (by omega)]; exact h8 k hk
      · rw [eN] at k1
        rw [fTb_c (d := up d 6 0) (hd _ (by omega))]
        exact h9 k k1 k2
    · exact gI_67 h (fun j h1 h2 h3 => up_ne (by omega)) (by show iR (up d 6 0 6) 51; rw [up_at]; exact iR_of (k := 0) (by omega) (by omega)) (by show iR (up d 6 0 7) 21; rw [up_ne (by omega)]; exact h.2.2.2.2.2.2.1) (fun k hk => by show iR (up d 6 0 (236 + k)) 256; rw [up_ne (by omega)]; exact h.2.2.2.2.2.2.2.1 k hk)
  · exact h
theorem gI_tell {d : Nat → Int32} {x : Int32} (h : gI d) : gI (oTell d x).2.2 := by
  unfold oTell
  split
  · exact h
  next h20 =>
    obtain ⟨k, hk, e, hc⟩ := iR_nI h.2.2.2.2.2.2.1
    have hk20 : k < 20 := by
      rcases Nat.lt_or_ge k 20 with q | q
      · exact q
      · exact absurd (e.trans (by rw [show k = 20 by omega]; rfl)) h20
    show gI (up (up d (116 + cl (d 7)) x) 7 (nI (cl (d 7) + 1)))
    rw [show cl (d 7) = k from hc]
    refine gI_67 h (fun j h1 h2 h3 => by rw [up_ne (by omega), up_ne (by omega)]) ?_ ?_ (fun j hj => ?_)
    · rw [up_ne (by omega), up_ne (by omega)]; exact h.2.2.2.2.2.1
    · rw [up_at]; exact iR_of (by omega) (by omega)
    · rw [up_ne (by omega), up_ne (by omega)]; exact h.2.2.2.2.2.2.2.1 j hj
theorem gI_check {d : Nat → Int32} (h : gI d) : gI (oCheck d).2.2 := gI_67 h (fun j h1 h2 h3 => up_ne (by omega)) (by show iR (up d 7 0 6) 51; rw [up_ne (by omega)]; exact h.2.2.2.2.2.1) (by show iR (up d 7 0 7) 21; rw [up_at]; exact iR_of (k := 0) (by omega) (by omega)) (fun k hk => by show iR (up d 7 0 (236 + k)) 256; rw [up_ne (by omega)]; exact h.2.2.2.2.2.2.2.1 k hk)
theorem gI_seed {d : Nat → Int32} {z : Int32} (h : gI d) : gI (oSeed d z).2.2 := gI_up h (by omega)
theorem sm_OfYard {d : Nat → Int32} {y w : Int32} : (oOfYard d y w).2.2 = d := by
  unfold oOfYard
  repeat' split
  all_goals rfl
theorem sm_OfGoer {d : Nat → Int32} {g w : Int32} : (oOfGoer d g w).2.2 = d := by
  unfold oOfGoer
  repeat' split
  all_goals rfl
theorem sm_As {d : Nat → Int32} {g k : Int32} : (oAs d g k).2.2 = d := by
  unfold oAs
  repeat' split
  all_goals rfl
theorem sm_Law {d : Nat → Int32} {u a b c : Int32} : (oLaw d u a b c).2.2 = d := by
  unfold oLaw
  repeat' split
  all_goals rfl
theorem sm_Then {d : Nat → Int32} {n g w : Int32} : (oThen d n g w).2.2 = d := by
  unfold oThen
  repeat' split
  all_goals rfl
theorem sm_OverBy {d : Nat → Int32}  : (oOverBy d ).2.2 = d := by
  unfold oOverBy
  repeat' split
  all_goals rfl
theorem sm_Stuck {d : Nat → Int32}  : (oStuck d ).2.2 = d := by
  unfold oStuck
  repeat' split
  all_goals rfl
theorem sm_Best {d : Nat → Int32} {g w : Int32} : (oBest d g w).2.2 = d := by
  unfold oBest
  repeat' split
  all_goals rfl
theorem sm_Spare {d : Nat → Int32} {g : Int32} : (oSpare d g).2.2 = d := by
  unfold oSpare
  repeat' split
  all_goals rfl
theorem sm_Without {d : Nat → Int32} {l : Int32} : (oWithout d l).2.2 = d := by
  unfold oWithout
  repeat' split
  all_goals rfl
theorem sm_New {d : Nat → Int32} {w : Int32} : (oNew d w).2.2 = d := by
  unfold oNew
  repeat' split
  all_goals rfl
theorem sm_Faults {d : Nat → Int32}  : (oFaults d ).2.2 = d := by
  unfold oFaults
  repeat' split
  all_goals rfl
