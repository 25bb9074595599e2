/-! the class: a minute -/
def gV (d : Nat → Int32) : Prop := ∀ g, g < 8 → iR (fO d g 1) 10 ∧ 0 ≤ (fO d g 7).toInt
theorem fPace_pos {k m : Int32} (hk : fK k) (hm : iR m 10) : 0 ≤ (fPace k m - 1).toInt := by
  obtain ⟨q, hq, rfl, _⟩ := iR_nI hm
  rcases hk with rfl | rfl | rfl | rfl | rfl | rfl | rfl
  · exact (show ∀ q, q < 10 → 0 ≤ (fPace 0 (nI q) - 1).toInt by decide +kernel) q hq
  · exact (show ∀ q, q < 10 → 0 ≤ (fPace 1 (nI q) - 1).toInt by decide +kernel) q hq
  · exact (show ∀ q, q < 10 → 0 ≤ (fPace 2 (nI q) - 1).toInt by decide +kernel) q hq
  · exact (show ∀ q, q < 10 → 0 ≤ (fPace 3 (nI q) - 1).toInt by decide +kernel) q hq
  · exact (show ∀ q, q < 10 → 0 ≤ (fPace 4 (nI q) - 1).toInt by decide +kernel) q hq
  · exact (show ∀ q, q < 10 → 0 ≤ (fPace 5 (nI q) - 1).toInt by decide +kernel) q hq
  · exact (show ∀ q, q < 10 → 0 ≤ (fPace 6 (nI q) - 1).toInt by decide +kernel) q hq
def uG (d : Nat → Int32) (g : Nat) : Prop := 0 ≤ (fO d g 7).toInt
theorem uG_up {d : Nat → Int32} {g j : Nat} {v : Int32} (h : uG d g) (hj : j ≠ 34 + 10 * g + 7) : uG (up d j v) g := by
  unfold uG
  rw [fO_up (by omega)]; exact h
theorem uG_comes {d : Nat → Int32} {g y : Nat} (hp : 0 ≤ (fPace (fO d g 0) (fO d g 1) - 1).toInt) : uG (fComes d g y) g := by
  have h1 : uG (fC1 d g y) g := by
    unfold uG fC1
    rw [fO_at]; exact hp
  unfold fComes
  split
  · exact uG_up (uG_up h1 (by omega)) (by omega)
  · exact h1
theorem uG_meets {d : Nat → Int32} {g h : Nat} (hl : uG d g) : uG (fMeets d g h) g := by
  unfold fMeets
  split
  · exact hl
  · split
    · exact uG_up hl (by omega)
    · exact uG_up (uG_up (uG_up hl (by omega)) (by omega)) (by omega)
theorem uG_go {d : Nat → Int32} {g : Nat} {b x : Int32} (hl : uG d g) (hp : 0 ≤ (fPace (fO d g 0) (fO d g 1) - 1).toInt) : uG (fGo d g b x) g := by
  unfold fGo
  split
  next hx =>
    split
    · repeat' split
      all_goals first | exact hl | exact uG_meets hl
    · exact uG_comes hp
  · exact hl
theorem uG_over {d : Nat → Int32} {g : Nat} (hl : uG d g) (hg : g < 8) : uG (fOver d g) g := by
  unfold fOver
  exact uG_up (uG_up (uG_up hl (by omega)) (by omega)) (by omega)
theorem uG_goes {d : Nat → Int32} {g : Nat} {fog : Int32} (hl : uG d g) (hp : 0 ≤ (fPace (fO d g 0) (fO d g 1) - 1).toInt) (hg : g < 8) : uG (fGoes d g fog) g := by
  have hgo : ∀ b x, uG (fGo d g b x) g := fun b x => uG_go hl hp
  unfold fGoes
  split
  · exact hgo _ _
  · split
    · exact uG_over hl hg
    · split
      · split
        · split
          · exact hgo _ _
          · split
            · exact hgo _ _
            · exact hl
        · exact hgo _ _
      · exact hgo _ _
theorem uG_dec {d : Nat → Int32} {g : Nat} (hl : uG d g) (h : ¬ fO d g 7 ≤ 0) : uG (up d (34 + 10 * g + 7) (fO d g 7 - 1)) g := by
  unfold uG at hl ⊢
  rw [fO_at]
  rw [Int32.le_iff_toInt_le, show Int32.toInt 0 = 0 from rfl] at h
  obtain ⟨q, hq, e2⟩ := nI_of (x := fO d g 7) (fun z => by rw [Int32.lt_iff_toInt_lt, show Int32.toInt 0 = 0 from rfl] at z; omega)
  rw [e2] at h ⊢
  rw [nI_toInt hq] at h
  obtain ⟨q', rfl⟩ : ∃ q', q = q' + 1 := ⟨q - 1, by omega⟩
  rw [nI_pred, nI_toInt (by omega)]
  omega
theorem uG_in {d : Nat → Int32} {g : Nat} : uG (up (up (up (up d (34 + 10 * g + 5) 1) (34 + 10 * g + 6) (fO d g 2)) (34 + 10 * g + 7) 0) (34 + 10 * g + 8) 0) g := by
  refine uG_up ?_ (by omega)
  unfold uG
  rw [fO_at]; decide
theorem uG_step {d : Nat → Int32} {g : Nat} {fog : Int32} (hw : gW d) (hl : uG d g) (hp : 0 ≤ (fPace (fO d g 0) (fO d g 1) - 1).toInt) (hg : g < 8) : uG (fStep d g fog) g := by
  unfold fStep
  split
  · split
    · exact hl
    · split
      · exact hl
      · exact uG_in
  · split
    · split
      · exact uG_goes hl hp hg
      · exact uG_dec hl (by assumption)
    · exact hl
theorem gV_step {d : Nat → Int32} {g : Nat} {fog : Int32} (hw : gW d) (h : gV d) (hg : g < 8) : gV (fStep d g fog) := by
  intro j hj
  refine ⟨by rw [sD_fO sD_step (by omega) (Or.inr (by omega))]; exact (h j hj).1, ?_⟩
  by_cases e : j = g
  · subst e
    exact uG_step hw (h j hj).2 (fPace_pos (hw.1.2.2.2 j hj).1 (h j hj).1) hg
  · rw [sD_fO sD_step (by omega) (Or.inl e)]; exact (h j hj).2
theorem gV_up {d : Nat → Int32} {j : Nat} {v : Int32} (h : gV d) (hj : j < 34 ∨ 114 ≤ j) : gV (up d j v) := fun g hg => by
  rw [fO_up (by omega), fO_up (by omega)]
  exact h g hg
theorem gV_st {fog : Int32} : ∀ m k (d : Nat → Int32), gW d → gV d → k + m ≤ 8 → gV (fSt fog m k d) := by
  intro m
  induction m with
  | zero => intro k d _ h _; exact h
  | succ m ih => intro k d hw h hk; exact ih (k + 1) _ (gW_step hw (by omega)) (gV_step hw h (by omega)) (by omega)
theorem gV_min {d : Nat → Int32} {fog : Int32} (hw : gW d) (h : gV d) : gV (fMin d fog) := gV_st _ _ _ (gW_1 hw) (gV_up h (by omega)) (by have := (fN_eq hw.1.1).2; omega)
theorem fGoes_1 {d : Nat → Int32} {g : Nat} {fog : Int32} (h : fO d g 8 = 1) : fGoes d g fog = fGo d g 1 (fO d g 6 - fFaces d g) := if_pos h
theorem chGoes_1 {d : Nat → Int32} {g : Nat} {fog : Int32} (h : fO d g 8 = 1) : chGoes d g fog ↔ chGo d g 1 (fO d g 6 - fFaces d g) := ⟨fun q => q.elim (fun q => q.2) (fun q => absurd h q.1), fun q => Or.inl ⟨h, q⟩⟩
theorem fGoes_0 {d : Nat → Int32} {g : Nat} {fog : Int32} (h : ¬ fO d g 8 = 1) (hne : ¬ fO d g 6 = fO d g 3) (hn : ¬ (1 < d (10 + cl (fO d g 6)) ∧ fog = 0 ∧ ¬ fHears (fO d g 0) = 0 ∧ ¬ fHeard d g = 0)) : fGoes d g fog = fGo d g 0 (fO d g 6 + fFaces d g) := by
  unfold fGoes
  rw [if_neg h, if_neg hne]
  by_cases h1 : 1 < d (10 + cl (fO d g 6))
  · rw [if_pos h1]
    by_cases h2 : fog = 0
    · rw [if_pos h2]
      by_cases h3 : fHears (fO d g 0) = 0
      · rw [if_pos h3]
      · rw [if_neg h3]
        by_cases h4 : fHeard d g = 0
        · rw [if_pos h4]
        · exact absurd ⟨h1, h2, h3, h4⟩ hn
    · rw [if_neg h2]
  · rw [if_neg h1]
theorem chGoes_0 {d : Nat → Int32} {g : Nat} {fog : Int32} (h : ¬ fO d g 8 = 1) (hne : ¬ fO d g 6 = fO d g 3) (hn : ¬ (1 < d (10 + cl (fO d g 6)) ∧ fog = 0 ∧ ¬ fHears (fO d g 0) = 0 ∧ ¬ fHeard d g = 0)) : chGoes d g fog ↔ chGo d g 0 (fO d g 6 + fFaces d g) :=
  ⟨fun q => q.elim (fun q => absurd q.1 h) (fun q => q.2.elim (fun z => absurd z hne) (fun z => z.2.2)), fun q => Or.inr ⟨h, Or.inr ⟨hn, hne, q⟩⟩⟩
theorem fGoes_h {d : Nat → Int32} {g : Nat} {fog : Int32} (h : ¬ fO d g 8 = 1) (hne : ¬ fO d g 6 = fO d g 3) (hn : 1 < d (10 + cl (fO d g 6)) ∧ fog = 0 ∧ ¬ fHears (fO d g 0) = 0 ∧ ¬ fHeard d g = 0) : fGoes d g fog = d := by
  unfold fGoes
  rw [if_neg h, if_neg hne, if_pos hn.1, if_pos hn.2.1, if_neg hn.2.2.1, if_neg hn.2.2.2]
theorem chGoes_h {d : Nat → Int32} {g : Nat} {fog : Int32} (h : ¬ fO d g 8 = 1) (hne : ¬ fO d g 6 = fO d g 3) (hn : 1 < d (10 + cl (fO d g 6)) ∧ fog = 0 ∧ ¬ fHears (fO d g 0) = 0 ∧ ¬ fHeard d g = 0) : ¬ chGoes d g fog :=
  fun q => q.elim (fun q => h q.1) (fun q => q.2.elim hne (fun z => z.1 hn))
def chW (d : Nat → Int32) (g : Nat) (fog : Int32) : Prop := ¬ fO d g 7 ≤ 0 ∨ chGoes d g fog
def sW (d : Nat → Int32) (g : Nat) (fog : Int32) : Nat → Int32 := if fO d g 7 ≤ 0 then fGoes d g fog else up d (34 + 10 * g + 7) (fO d g 7 - 1)
theorem chW_le {d : Nat → Int32} {g : Nat} {fog : Int32} (h : fO d g 7 ≤ 0) : chW d g fog ↔ chGoes d g fog := ⟨fun q => q.resolve_left (fun z => z h), Or.inr⟩
theorem sW_le {d : Nat → Int32} {g : Nat} {fog : Int32} (h : fO d g 7 ≤ 0) : sW d g fog = fGoes d g fog := if_pos h
theorem c_walkE {sc : List Value} {own : Nat} {ini rz : Bool} {code : List (Nat × Instr)} {dd pc : Nat} {ls st : List Value} {I : mg_I} {nm : Nat} {B g : Nat} {d : Nat → Int32} {fog b x : Int32} (h : GG sc own ini rz code dd pc ls st I nm (qRB (bP (chGo d g b x)) (fGo d g b x) B I nm)) (hle : fO d g 7 ≤ 0) (e : fGoes d g fog = fGo d g b x) (hc : chGoes d g fog ↔ chGo d g b x) : GG sc own ini rz code dd pc ls st I nm (qRB (bP (chW d g fog)) (sW d g fog) B I nm) := by
  rw [sW_le hle, e, bP_eq ((chW_le hle).trans hc)]
  exact h
theorem c_walk {sc : List Value} {nm : Nat} {I : mg_I} {B : Nat} {d : Nat → Int32} (hB : isCliff B) (hR : rK I B d) {g : Nat} {fog : Int32} (hw : gW d) (hv : gV d) (hg : g < fN d) (hon : fO d g 5 = 1) : SP sc 9 18 [.ref B, .ref (B + 3 + g), .int fog] I nm (qRB (bP (chW d g fog)) (sW d g fog) B I nm) := by
  refine SP.of (h := 8) (t := 18) (q := (yX1_walk, cX1_walk, 5, (some .boolean), 1, 759, mi_k18)) rfl (by decide) (show ¬ (5 : Nat) < 3 by decide) (fun dd hd => ?_)
  show GG sc 1 false true mi_k18 dd 0 [.ref B, .ref (B + 3 + g), .int fog, .null, .null] [] I nm (qRB (bP (chW d g fog)) (sW d g fog) B I nm)
  have hN8 := (rK_N hR).2
  obtain ⟨k, hk, hyk, hkc⟩ := iR_nI ((hw.1.2.2.2 g (by omega)).2.2 hon)
  have hck : cl (nI k) = k := nI_clamp (by omega)
  refine g_aload_n (n := 1) rfl rfl ?_
  refine g_getv (n := 4) (ci := 4) (j := 8) (v := fO d g 7) (rK_g hR (show g < fN d by omega) (w := 7) (by omega)) rfl (by decide +kernel) rfl (by decide) (cf_gh hB (show g < 8 by omega)) ?_
  refine g_ifle (n := 7) 19 rfl (by decide) (fun h1 => ?_) (fun h1 => ?_)
  ·
    have hle : fO d g 7 ≤ 0 := by assumption
    have hw0 : fO d g 7 = 0 := Int32.toInt_inj.mp (by rw [Int32.le_iff_toInt_le] at hle; have := (hv g (by omega)).2; rw [show Int32.toInt 0 = 0 from rfl] at hle ⊢; omega)
    rcases hw.2.1 g (by omega) with hb | hb
    ·
      have hb1 : ¬ fO d g 8 = 1 := fun q => absurd (hb.symm.trans q) (by decide)
      refine g_aload_n (n := 20) rfl rfl ?_
      refine g_getv (n := 23) (ci := 4) (j := 7) (v := fO d g 6) (rK_g hR (show g < fN d by omega) (w := 6) (by omega)) rfl (by decide +kernel) rfl (by decide) (cf_gh hB (show g < 8 by omega)) ?_
      refine g_aload_n (n := 24) rfl rfl ?_
      refine g_getv (n := 27) (ci := 4) (j := 4) (v := fO d g 3) (rK_g hR (show g < fN d by omega) (w := 3) (by omega)) rfl (by decide +kernel) rfl (by decide) (cf_gh hB (show g < 8 by omega)) ?_
      refine g_icne (n := 30) 44 rfl (by decide) (fun h1 => ?_) (fun h1 => ?_)
      ·
        refine g_aload_n (n := 45) rfl rfl ?_
        refine g_aload_n (n := 46) rfl rfl ?_
        refine g_getv (n := 49) (ci := 4) (j := 7) (v := nI k) ((rK_g hR hg (w := 6) (by omega)).trans hyk) rfl (by decide +kernel) rfl (by decide) (cf_gh hB (by omega)) ?_
        refine g_cv1 (n := 52) (t := 7) (ci := 1) rfl (by decide +kernel) (by decide +kernel) (cf_hd hB) (cf_136 hB) (by decide +kernel) (by rfl) (c_cLedgeN hB hR (y := k) hk) (by omega) (g_E ?_)
        have hlb : bI (1 < d (10 + k)) = bI (1 < d (10 + cl (fO d g 6))) := by rw [hyk, hck]
        refine g_istore_n3 (n := 53) rfl rfl ?_
        refine g_iload_n (n := 54) rfl rfl ?_
        refine g_ifeq (n := 57) 85 rfl (by decide) (fun h2 => ?_) (fun h2 => ?_)
        ·
          refine g_aload_n (n := 86) rfl rfl ?_
          refine g_getv (n := 89) (ci := 4) (j := 9) (v := 0) ((rK_g hR hg (w := 8) (by omega)).trans hb) rfl (by decide +kernel) rfl (by decide) (cf_gh hB (by omega)) ?_
          refine g_ifeq0 (n := 92) 104 rfl (by decide) ?_
          refine g_aload_n (n := 105) rfl rfl ?_
          refine g_getv (n := 108) (ci := 4) (j := 7) (v := fO d g 6) (rK_g hR (show g < fN d by omega) (w := 6) (by omega)) rfl (by decide +kernel) rfl (by decide) (cf_gh hB (show g < 8 by omega)) ?_
          refine g_aload_n (n := 109) rfl rfl ?_
          refine g_cv0 (n := 112) (t := 41) (ci := 4) rfl (by decide +kernel) (by decide +kernel) (cf_gh hB (by omega)) (cf_g1 hB (by omega)) (by decide +kernel) (by rfl) (c_way (cf_G hB (by omega))) (by omega) (g_E ?_)
          refine g_top (w := fFaces d g) (rK_way hR (by omega)) ?_
          refine g_iadd (n := 113) rfl ?_
          refine g_istore4 (n := 115) rfl rfl ?_
          have hn : ¬ (1 < d (10 + cl (fO d g 6)) ∧ fog = 0 ∧ ¬ fHears (fO d g 0) = 0 ∧ ¬ fHeard d g = 0) := fun q => bI_0 (hlb.symm.trans h2) q.1
          exact c_walkE (c_walkT0 hB hR hw hg hb hlb (by omega)) hle (fGoes_0 hb1 h1 hn) (chGoes_0 hb1 h1 hn)
        ·
          refine g_aload_n (n := 58) rfl rfl ?_
          refine g_getv (n := 61) (ci := 4) (j := 9) (v := 0) ((rK_g hR hg (w := 8) (by omega)).trans hb) rfl (by decide +kernel) rfl (by decide) (cf_gh hB (by omega)) ?_
          refine g_ifne0 (n := 64) 85 rfl (by decide) ?_
          refine g_aload_n (n := 65) rfl rfl ?_
          refine g_getv (n := 68) (ci := 4) (j := 15) (v := fHears (fO d g 0)) (rK_p15 hR (show g < fN d by omega)) rfl (by decide +kernel) rfl (by decide) (cf_gh hB (show g < 8 by omega)) ?_
          refine g_ifeq (n := 71) 85 rfl (by decide) (fun h3 => ?_) (fun h3 => ?_)
          ·
            refine g_aload_n (n := 86) rfl rfl ?_
            refine g_getv (n := 89) (ci := 4) (j := 9) (v := 0) ((rK_g hR hg (w := 8) (by omega)).trans hb) rfl (by decide +kernel) rfl (by decide) (cf_gh hB (by omega)) ?_
            refine g_ifeq0 (n := 92) 104 rfl (by decide) ?_
            refine g_aload_n (n := 105) rfl rfl ?_
            refine g_getv (n := 108) (ci := 4) (j := 7) (v := fO d g 6) (rK_g hR (show g < fN d by omega) (w := 6) (by omega)) rfl (by decide +kernel) rfl (by decide) (cf_gh hB (show g < 8 by omega)) ?_
            refine g_aload_n (n := 109) rfl rfl ?_
            refine g_cv0 (n := 112) (t := 41) (ci := 4) rfl (by decide +kernel) (by decide +kernel) (cf_gh hB (by omega)) (cf_g1 hB (by omega)) (by decide +kernel) (by rfl) (c_way (cf_G hB (by omega))) (by omega) (g_E ?_)
            refine g_top (w := fFaces d g) (rK_way hR (by omega)) ?_
            refine g_iadd (n := 113) rfl ?_
            refine g_istore4 (n := 115) rfl rfl ?_
            have hn : ¬ (1 < d (10 + cl (fO d g 6)) ∧ fog = 0 ∧ ¬ fHears (fO d g 0) = 0 ∧ ¬ fHeard d g = 0) := fun q => q.2.2.1 h3
            exact c_walkE (c_walkT0 hB hR hw hg hb hlb (by omega)) hle (fGoes_0 hb1 h1 hn) (chGoes_0 hb1 h1 hn)
          ·
            refine g_iload_n (n := 72) rfl rfl ?_
            refine g_ifne (n := 75) 85 rfl (by decide) (fun h4 => ?_) (fun h4 => ?_)
            ·
              refine g_aload_n (n := 86) rfl rfl ?_
              refine g_getv (n := 89) (ci := 4) (j := 9) (v := 0) ((rK_g hR hg (w := 8) (by omega)).trans hb) rfl (by decide +kernel) rfl (by decide) (cf_gh hB (by omega)) ?_
              refine g_ifeq0 (n := 92) 104 rfl (by decide) ?_
              refine g_aload_n (n := 105) rfl rfl ?_
              refine g_getv (n := 108) (ci := 4) (j := 7) (v := fO d g 6) (rK_g hR (show g < fN d by omega) (w := 6) (by omega)) rfl (by decide +kernel) rfl (by decide) (cf_gh hB (show g < 8 by omega)) ?_
              refine g_aload_n (n := 109) rfl rfl ?_
              refine g_cv0 (n := 112) (t := 41) (ci := 4) rfl (by decide +kernel) (by decide +kernel) (cf_gh hB (by omega)) (cf_g1 hB (by omega)) (by decide +kernel) (by rfl) (c_way (cf_G hB (by omega))) (by omega) (g_E ?_)
              refine g_top (w := fFaces d g) (rK_way hR (by omega)) ?_
              refine g_iadd (n := 113) rfl ?_
              refine g_istore4 (n := 115) rfl rfl ?_
              have hn : ¬ (1 < d (10 + cl (fO d g 6)) ∧ fog = 0 ∧ ¬ fHears (fO d g 0) = 0 ∧ ¬ fHeard d g = 0) := fun q => h4 q.2.1
              exact c_walkE (c_walkT0 hB hR hw hg hb hlb (by omega)) hle (fGoes_0 hb1 h1 hn) (chGoes_0 hb1 h1 hn)
            ·
              refine g_aload_n (n := 76) rfl rfl ?_
              refine g_aload_n (n := 77) rfl rfl ?_
              refine g_cv1 (n := 80) (t := 21) (ci := 1) rfl (by decide +kernel) (by decide +kernel) (cf_hd hB) (cf_136 hB) (by decide +kernel) (by rfl) (c_cHears hB hR hw hg hk hyk) (by omega) (g_E ?_)
              refine g_ifeq (n := 83) 85 rfl (by decide) (fun h5 => ?_) (fun h5 => ?_)
              ·
                refine g_aload_n (n := 86) rfl rfl ?_
                refine g_getv (n := 89) (ci := 4) (j := 9) (v := 0) ((rK_g hR hg (w := 8) (by omega)).trans hb) rfl (by decide +kernel) rfl (by decide) (cf_gh hB (by omega)) ?_
                refine g_ifeq0 (n := 92) 104 rfl (by decide) ?_
                refine g_aload_n (n := 105) rfl rfl ?_
                refine g_getv (n := 108) (ci := 4) (j := 7) (v := fO d g 6) (rK_g hR (show g < fN d by omega) (w := 6) (by omega)) rfl (by decide +kernel) rfl (by decide) (cf_gh hB (show g < 8 by omega)) ?_
                refine g_aload_n (n := 109) rfl rfl ?_
                refine g_cv0 (n := 112) (t := 41) (ci := 4) rfl (by decide +kernel) (by decide +kernel) (cf_gh hB (by omega)) (cf_g1 hB (by omega)) (by decide +kernel) (by rfl) (c_way (cf_G hB (by omega))) (by omega) (g_E ?_)
                refine g_top (w := fFaces d g) (rK_way hR (by omega)) ?_
                refine g_iadd (n := 113) rfl ?_
                refine g_istore4 (n := 115) rfl rfl ?_
                have hn : ¬ (1 < d (10 + cl (fO d g 6)) ∧ fog = 0 ∧ ¬ fHears (fO d g 0) = 0 ∧ ¬ fHeard d g = 0) := fun q => q.2.2.2 h5
                exact c_walkE (c_walkT0 hB hR hw hg hb hlb (by omega)) hle (fGoes_0 hb1 h1 hn) (chGoes_0 hb1 h1 hn)
              ·
                refine g_iconst (n := 84) (v := 0) rfl rfl ?_
                refine g_iret (n := 85) rfl (fun _ => by first | exact Or.inl rfl | exact Or.inr rfl | exact bI_01 | exact bP_01) ?_
                have hn := And.intro (bI_n (fun q => h2 (hlb.trans q))) (And.intro h4 (And.intro h3 h5)); rw [bP_f (fun q : chW d g fog => chGoes_h hb1 h1 hn ((chW_le hle).mp q)), sW_le hle, fGoes_h hb1 h1 hn]; exact ⟨rfl, hR, bF.rfl', rfl⟩
      ·
        refine g_aload_n (n := 31) rfl rfl ?_
        refine g_getv (n := 34) (ci := 4) (j := 9) (v := 0) ((rK_g hR hg (w := 8) (by omega)).trans hb) rfl (by decide +kernel) rfl (by decide) (cf_gh hB (by omega)) ?_
        refine g_ifne0 (n := 37) 44 rfl (by decide) ?_
        refine g_aload_n (n := 38) rfl rfl ?_
        refine g_iconst (n := 39) (v := 2) rfl rfl ?_
        refine g_cv1 (n := 42) (t := 39) (ci := 4) rfl (by decide +kernel) (by decide +kernel) (cf_gh hB (by omega)) (cf_g1 hB (by omega)) (by decide +kernel) (by rfl) (c_leave (cf_G hB (by omega))) (by omega) (g_Z ?_)
        refine g_iconst (n := 43) (v := 1) rfl rfl ?_
        refine g_iret (n := 44) rfl (fun _ => by first | exact Or.inl rfl | exact Or.inr rfl | exact bI_01 | exact bP_01) ?_
        rw [bP_t (show chW d g fog from Or.inr (Or.inr ⟨hb1, Or.inl h1⟩)), sW_le hle, show fGoes d g fog = fOver d g from (if_neg hb1).trans (if_pos h1)]; exact ⟨rfl, rK_over hR hg hw.2.2.2 hw0 hb, fun a j ha => by unfold lvM; rw [mf_ne (by omega), mf_ne (by omega), mf_ne (by omega), mf_ne (by omega), mf_ne (by omega)], rfl⟩
    ·
      refine g_aload_n (n := 20) rfl rfl ?_
      refine g_getv (n := 23) (ci := 4) (j := 7) (v := fO d g 6) (rK_g hR (show g < fN d by omega) (w := 6) (by omega)) rfl (by decide +kernel) rfl (by decide) (cf_gh hB (show g < 8 by omega)) ?_
      refine g_aload_n (n := 24) rfl rfl ?_
      refine g_getv (n := 27) (ci := 4) (j := 4) (v := fO d g 3) (rK_g hR (show g < fN d by omega) (w := 3) (by omega)) rfl (by decide +kernel) rfl (by decide) (cf_gh hB (show g < 8 by omega)) ?_
      refine g_icne (n := 30) 44 rfl (by decide) (fun h1 => ?_) (fun h1 => ?_)
      ·
        refine g_aload_n (n := 45) rfl rfl ?_
        refine g_aload_n (n := 46) rfl rfl ?_
        refine g_getv (n := 49) (ci := 4) (j := 7) (v := nI k) ((rK_g hR hg (w := 6) (by omega)).trans hyk) rfl (by decide +kernel) rfl (by decide) (cf_gh hB (by omega)) ?_
        refine g_cv1 (n := 52) (t := 7) (ci := 1) rfl (by decide +kernel) (by decide +kernel) (cf_hd hB) (cf_136 hB) (by decide +kernel) (by rfl) (c_cLedgeN hB hR (y := k) hk) (by omega) (g_E ?_)
        have hlb : bI (1 < d (10 + k)) = bI (1 < d (10 + cl (fO d g 6))) := by rw [hyk, hck]
        refine g_istore_n3 (n := 53) rfl rfl ?_
        refine g_iload_n (n := 54) rfl rfl ?_
        refine g_ifeq (n := 57) 85 rfl (by decide) (fun h2 => ?_) (fun h2 => ?_)
        ·
          refine g_aload_n (n := 86) rfl rfl ?_
          refine g_getv (n := 89) (ci := 4) (j := 9) (v := 1) ((rK_g hR hg (w := 8) (by omega)).trans hb) rfl (by decide +kernel) rfl (by decide) (cf_gh hB (by omega)) ?_
          refine g_ifeq1 (n := 92) 104 rfl (by decide) ?_
          refine g_aload_n (n := 93) rfl rfl ?_
          refine g_getv (n := 96) (ci := 4) (j := 7) (v := fO d g 6) (rK_g hR (show g < fN d by omega) (w := 6) (by omega)) rfl (by decide +kernel) rfl (by decide) (cf_gh hB (show g < 8 by omega)) ?_
          refine g_aload_n (n := 97) rfl rfl ?_
          refine g_cv0 (n := 100) (t := 41) (ci := 4) rfl (by decide +kernel) (by decide +kernel) (cf_gh hB (by omega)) (cf_g1 hB (by omega)) (by decide +kernel) (by rfl) (c_way (cf_G hB (by omega))) (by omega) (g_E ?_)
          refine g_top (w := fFaces d g) (rK_way hR (by omega)) ?_
          refine g_isub (n := 101) rfl ?_
          refine g_goto 113 rfl (by decide) ?_
          refine g_istore4 (n := 115) rfl rfl ?_
          exact c_walkE (c_walkT1 hB hR hw hg hb hlb (by omega)) hle (fGoes_1 hb) (chGoes_1 hb)
        ·
          refine g_aload_n (n := 58) rfl rfl ?_
          refine g_getv (n := 61) (ci := 4) (j := 9) (v := 1) ((rK_g hR hg (w := 8) (by omega)).trans hb) rfl (by decide +kernel) rfl (by decide) (cf_gh hB (by omega)) ?_
          refine g_ifne1 (n := 64) 85 rfl (by decide) ?_
          refine g_aload_n (n := 86) rfl rfl ?_
          refine g_getv (n := 89) (ci := 4) (j := 9) (v := 1) ((rK_g hR hg (w := 8) (by omega)).trans hb) rfl (by decide +kernel) rfl (by decide) (cf_gh hB (by omega)) ?_
          refine g_ifeq1 (n := 92) 104 rfl (by decide) ?_
          refine g_aload_n (n := 93) rfl rfl ?_
          refine g_getv (n := 96) (ci := 4) (j := 7) (v := fO d g 6) (rK_g hR (show g < fN d by omega) (w := 6) (by omega)) rfl (by decide +kernel) rfl (by decide) (cf_gh hB (show g < 8 by omega)) ?_
          refine g_aload_n (n := 97) rfl rfl ?_
          refine g_cv0 (n := 100) (t := 41) (ci := 4) rfl (by decide +kernel) (by decide +kernel) (cf_gh hB (by omega)) (cf_g1 hB (by omega)) (by decide +kernel) (by rfl) (c_way (cf_G hB (by omega))) (by omega) (g_E ?_)
          refine g_top (w := fFaces d g) (rK_way hR (by omega)) ?_
          refine g_isub (n := 101) rfl ?_
          refine g_goto 113 rfl (by decide) ?_
          refine g_istore4 (n := 115) rfl rfl ?_
          exact c_walkE (c_walkT1 hB hR hw hg hb hlb (by omega)) hle (fGoes_1 hb) (chGoes_1 hb)
      ·
        refine g_aload_n (n := 31) rfl rfl ?_
        refine g_getv (n := 34) (ci := 4) (j := 9) (v := 1) ((rK_g hR hg (w := 8) (by omega)).trans hb) rfl (by decide +kernel) rfl (by decide) (cf_gh hB (by omega)) ?_
        refine g_ifne1 (n := 37) 44 rfl (by decide) ?_
        refine g_aload_n (n := 45) rfl rfl ?_
        refine g_aload_n (n := 46) rfl rfl ?_
        refine g_getv (n := 49) (ci := 4) (j := 7) (v := nI k) ((rK_g hR hg (w := 6) (by omega)).trans hyk) rfl (by decide +kernel) rfl (by decide) (cf_gh hB (by omega)) ?_
        refine g_cv1 (n := 52) (t := 7) (ci := 1) rfl (by decide +kernel) (by decide +kernel) (cf_hd hB) (cf_136 hB) (by decide +kernel) (by rfl) (c_cLedgeN hB hR (y := k) hk) (by omega) (g_E ?_)
        have hlb : bI (1 < d (10 + k)) = bI (1 < d (10 + cl (fO d g 6))) := by rw [hyk, hck]
        refine g_istore_n3 (n := 53) rfl rfl ?_
        refine g_iload_n (n := 54) rfl rfl ?_
        refine g_ifeq (n := 57) 85 rfl (by decide) (fun h3 => ?_) (fun h3 => ?_)
        ·
          refine g_aload_n (n := 86) rfl rfl ?_
          refine g_getv (n := 89) (ci := 4) (j := 9) (v := 1) ((rK_g hR hg (w := 8) (by omega)).trans hb) rfl (by decide +kernel) rfl (by decide) (cf_gh hB (by omega)) ?_
          refine g_ifeq1 (n := 92) 104 rfl (by decide) ?_
          refine g_aload_n (n := 93) rfl rfl ?_
          refine g_getv (n := 96) (ci := 4) (j := 7) (v := fO d g 6) (rK_g hR (show g < fN d by omega) (w := 6) (by omega)) rfl (by decide +kernel) rfl (by decide) (cf_gh hB (show g < 8 by omega)) ?_
          refine g_aload_n (n := 97) rfl rfl ?_
          refine g_cv0 (n := 100) (t := 41) (ci := 4) rfl (by decide +kernel) (by decide +kernel) (cf_gh hB (by omega)) (cf_g1 hB (by omega)) (by decide +kernel) (by rfl) (c_way (cf_G hB (by omega))) (by omega) (g_E ?_)
          refine g_top (w := fFaces d g) (rK_way hR (by omega)) ?_
          refine g_isub (n := 101) rfl ?_
          refine g_goto 113 rfl (by decide) ?_
          refine g_istore4 (n := 115) rfl rfl ?_
          exact c_walkE (c_walkT1 hB hR hw hg hb hlb (by omega)) hle (fGoes_1 hb) (chGoes_1 hb)
        ·
          refine g_aload_n (n := 58) rfl rfl ?_
          refine g_getv (n := 61) (ci := 4) (j := 9) (v := 1) ((rK_g hR hg (w := 8) (by omega)).trans hb) rfl (by decide +kernel) rfl (by decide) (cf_gh hB (by omega)) ?_
          refine g_ifne1 (n := 64) 85 rfl (by decide) ?_
          refine g_aload_n (n := 86) rfl rfl ?_
          refine g_getv (n := 89) (ci := 4) (j := 9) (v := 1) ((rK_g hR hg (w := 8) (by omega)).trans hb) rfl (by decide +kernel) rfl (by decide) (cf_gh hB (by omega)) ?_
          refine g_ifeq1 (n := 92) 104 rfl (by decide) ?_
          refine g_aload_n (n := 93) rfl rfl ?_
          refine g_getv (n := 96) (ci := 4) (j := 7) (v := fO d g 6) (rK_g hR (show g < fN d by omega) (w := 6) (by omega)) rfl (by decide +kernel) rfl (by decide) (cf_gh hB (show g < 8 by omega)) ?_
          refine g_aload_n (n := 97) rfl rfl ?_
          refine g_cv0 (n := 100) (t := 41) (ci := 4) rfl (by decide +kernel) (by decide +kernel) (cf_gh hB (by omega)) (cf_g1 hB (by omega)) (by decide +kernel) (by rfl) (c_way (cf_G hB (by omega))) (by omega) (g_E ?_)
          refine g_top (w := fFaces d g) (rK_way hR (by omega)) ?_
          refine g_isub (n := 101) rfl ?_
          refine g_goto 113 rfl (by decide) ?_
          refine g_istore4 (n := 115) rfl rfl ?_
          exact c_walkE (c_walkT1 hB hR hw hg hb hlb (by omega)) hle (fGoes_1 hb) (chGoes_1 hb)
  ·
    refine g_aload_n (n := 8) rfl rfl ?_
    refine g_dupa (n := 9) rfl ?_
    refine g_getv (n := 12) (ci := 4) (j := 8) (v := fO d g 7) (rK_g hR (show g < fN d by omega) (w := 7) (by omega)) rfl (by decide +kernel) rfl (by decide) (cf_gh hB (show g < 8 by omega)) ?_
    refine g_iconst (n := 13) (v := 1) rfl rfl ?_
    refine g_isub (n := 14) rfl ?_
    refine g_puti (n := 17) (ci := 4) (j := 8) rfl (by decide +kernel) rfl (by decide) (cf_gh hB (by omega)) (by decide +kernel) rfl ?_
    have hR2 := rK_put (w := 7) (x := fO d g 7 - 1) hR hg (by omega)
    refine g_iconst (n := 18) (v := 1) rfl rfl ?_
    refine g_iret (n := 19) rfl (fun _ => by first | exact Or.inl rfl | exact Or.inr rfl | exact bI_01 | exact bP_01) ?_
    rw [bP_t (show chW d g fog from Or.inl h1), show sW d g fog = _ from if_neg h1]; exact ⟨rfl, hR2, bF_g bF.rfl' (by omega), rfl⟩
def chStep (d : Nat → Int32) (g : Nat) (fog : Int32) : Prop := (fO d g 5 = 1 ∧ chW d g fog) ∨ (fO d g 5 = 0 ∧ ¬ d 1 < fO d g 4 ∧ ¬ d (10 + cl (fO d g 2)) ≤ fAt d (fO d g 2))
def chSt (fog : Int32) : Nat → Nat → (Nat → Int32) → Prop
  | 0, _, _ => False
  | m + 1, k, d => chStep d k fog ∨ chSt fog m (k + 1) (fStep d k fog)
def chMin (d : Nat → Int32) (fog : Int32) : Prop := chSt fog (fN d) 0 (up d 1 (d 1 + 1))
theorem fStep_1 {d : Nat → Int32} {g : Nat} {fog : Int32} (h : fO d g 5 = 1) : fStep d g fog = sW d g fog := (if_neg (fun q => absurd (h.symm.trans q) (by decide))).trans (if_pos h)
theorem fStep_x {d : Nat → Int32} {g : Nat} {fog : Int32} (h : ¬ fO d g 5 = 1) (h0 : ¬ fO d g 5 = 0) : fStep d g fog = d := (if_neg h0).trans (if_neg h)
theorem fStep_s {d : Nat → Int32} {g : Nat} {fog : Int32} (h0 : fO d g 5 = 0) (h : d 1 < fO d g 4) : fStep d g fog = d := (if_pos h0).trans (if_pos h)
theorem fStep_f {d : Nat → Int32} {g : Nat} {fog : Int32} (h0 : fO d g 5 = 0) (h : ¬ d 1 < fO d g 4) (h2 : d (10 + cl (fO d g 2)) ≤ fAt d (fO d g 2)) : fStep d g fog = d := (if_pos h0).trans ((if_neg h).trans (if_pos h2))
theorem fStep_e {d : Nat → Int32} {g : Nat} {fog : Int32} (h0 : fO d g 5 = 0) (h : ¬ d 1 < fO d g 4) (h2 : ¬ d (10 + cl (fO d g 2)) ≤ fAt d (fO d g 2)) : fStep d g fog = up (up (up (up d (34 + 10 * g + 5) 1) (34 + 10 * g + 6) (fO d g 2)) (34 + 10 * g + 7) 0) (34 + 10 * g + 8) 0 := (if_pos h0).trans ((if_neg h).trans (if_neg h2))
theorem bP_or {p q : Prop} : (bP p ||| bP q) = bP (p ∨ q) := by
  by_cases hp : p <;> by_cases hq : q
  · rw [bP_t hp, bP_t hq, bP_t (Or.inl hp)]; rfl
  · rw [bP_t hp, bP_f hq, bP_t (Or.inl hp)]; rfl
  · rw [bP_f hp, bP_t hq, bP_t (Or.inr hq)]; rfl
  · rw [bP_f hp, bP_f hq, bP_f (fun z => z.elim hp hq)]; rfl
theorem c_pass {sc : List Value} {nm : Nat} {I0 : mg_I} {B : Nat} {d0 : Nat → Int32} (hB : isCliff B) (hR : rK I0 B d0) {fog : Int32} (hw : gW d0) (hv : gV d0) : SP sc 10 17 [.ref B, .int fog] I0 nm (qRB (bP (chMin d0 fog)) (fMin d0 fog) B I0 nm) := by
  refine SP.of (h := 9) (t := 17) (q := (yX1_passMinute, cX1_passMinute, 5, (some .boolean), 1, 755, mi_k17)) rfl (by decide) (show ¬ (5 : Nat) < 2 by decide) (fun dd hd => ?_)
  show GG sc 1 false true mi_k17 dd 0 [.ref B, .int fog, .null, .null, .null] [] I0 nm (qRB (bP (chMin d0 fog)) (fMin d0 fog) B I0 nm)
  have hN8 := (rK_N hR).2
  have hf0 : fSt fog (fN d0) 0 (up d0 1 (d0 1 + 1)) = fMin d0 fog := rfl
  have hv0 : bP (chSt fog (fN d0) 0 (up d0 1 (d0 1 + 1))) = bP (chMin d0 fog) := rfl
  generalize fMin d0 fog = dF at hf0 ⊢
  generalize bP (chMin d0 fog) = vF at hv0 ⊢
  generalize hn : fN d0 = n at hf0 hv0 hN8
  have H : ∀ (m k : Nat) (d : Nat → Int32) (I1 : mg_I) (A : Prop) (acc : Int32) {x4 : Value}, k + m = n → rK I1 B d → gW d → gV d → fN d = n → bF B I0 I1 → acc = bP A → fSt fog m k d = dF → bP (A ∨ chSt fog m k d) = vF → GG sc 1 false true mi_k17 dd 14 [.ref B, .int fog, .int acc, .int (nI k), x4] [] I1 nm (qRB vF dF B I0 nm) := by
    intro m
    induction m with
    | zero =>
      intro k d I1 A acc x4 hk hR hw hv hn hF hacc hf hvF
      have hN8 := (rK_N hR).2
      refine g_iload_n (n := 15) rfl rfl ?_
      refine g_aload_n (n := 16) rfl rfl ?_
      refine g_getv (n := 19) (ci := 1) (j := 2) (v := nI (fN d)) ((rK_n hR (j := 0) (by omega)).trans (rK_N hR).1) rfl (by decide +kernel) rfl (by decide) (cf_hd hB) ?_
      refine g_icge (n := 22) 97 rfl (by decide) (fun h1 => ?_) (fun h1 => ?_)
      ·
        refine g_iload_n (n := 98) rfl rfl ?_
        refine g_iret (n := 99) rfl (fun _ => by first | exact Or.inl rfl | exact Or.inr rfl | exact bI_01 | exact bP_01 | (rw [hacc]; exact bP_01)) ?_
        have ev : vF = acc := by rw [← hvF, hacc]; exact bP_eq ⟨fun q => q.resolve_right (fun z => z), Or.inl⟩
        rw [ev, ← hf]; exact ⟨rfl, hR, hF, rfl⟩
      ·
        exact absurd (fN_nle rfl (by omega) (by omega) h1) (by omega)
    | succ m ih =>
      intro k d I1 A acc x4 hk hR hw hv hn hF hacc hf hvF
      have hN8 := (rK_N hR).2
      have hNs : fN (fStep d k fog) = n := by rw [← hn]; exact fN_c (sD_step 0 (by omega) (by omega) (by omega) (by omega))
      refine g_iload_n (n := 15) rfl rfl ?_
      refine g_aload_n (n := 16) rfl rfl ?_
      refine g_getv (n := 19) (ci := 1) (j := 2) (v := nI (fN d)) ((rK_n hR (j := 0) (by omega)).trans (rK_N hR).1) rfl (by decide +kernel) rfl (by decide) (cf_hd hB) ?_
      refine g_icge (n := 22) 97 rfl (by decide) (fun h1 => ?_) (fun h1 => ?_)
      ·
        exact absurd (fN_le rfl (by omega) (by omega) h1) (by omega)
      ·
        refine g_aload_n (n := 23) rfl rfl ?_
        refine g_getr (n := 26) (ci := 1) (j := 1) (b := (B + 2)) rfl (by decide +kernel) (cf_hd hB) (cf_lt hB (by decide)) (cf_r1 hB) ?_
        refine g_iload_n (n := 27) rfl rfl ?_
        refine g_aald (n := 28) (b := (B + 3 + k)) (k) rfl (cf_2a hB) (cf_2h hB) rfl (cf_2x hB (by omega)) (cf_2r hB (by omega)) ?_
        refine g_astore4 (n := 30) rfl rfl ?_
        refine g_aload (n := 32) rfl rfl ?_
        refine g_getv (n := 35) (ci := 4) (j := 6) (v := fO d k 5) (rK_g hR (show k < fN d by omega) (w := 5) (by omega)) rfl (by decide +kernel) rfl (by decide) (cf_gh hB (show k < 8 by omega)) ?_
        refine g_iconst (n := 36) (v := 1) rfl rfl ?_
        refine g_icne (n := 39) 52 rfl (by decide) (fun h2 => ?_) (fun h2 => ?_)
        ·
          refine g_aload (n := 54) rfl rfl ?_
          refine g_getv (n := 57) (ci := 4) (j := 6) (v := fO d k 5) (rK_g hR (show k < fN d by omega) (w := 5) (by omega)) rfl (by decide +kernel) rfl (by decide) (cf_gh hB (show k < 8 by omega)) ?_
          refine g_ifne (n := 60) 91 rfl (by decide) (fun h3 => ?_) (fun h3 => ?_)
          ·
            refine g_iinc3 (n := 94) rfl rfl (nI_inc _) ?_
            refine g_goto 14 rfl (by decide) ?_
            have hst : fStep d k fog = d := fStep_x h2 h3
            have hch : ¬ chStep d k fog := fun q => q.elim (fun q => h2 q.1) (fun q => h3 q.1)
            exact ih (k + 1) (fStep d k fog) I1 (A ∨ chStep d k fog) _ (by omega) (hst.symm ▸ hR) (gW_step hw (by omega)) (gV_step hw hv (by omega)) hNs hF (hacc.trans (bP_eq ⟨Or.inl, fun q => q.resolve_right hch⟩)) (show fSt fog m (k + 1) (fStep d k fog) = dF from hf) (by rw [← hvF]; exact bP_eq (show (A ∨ chStep d k fog) ∨ chSt fog m (k + 1) (fStep d k fog) ↔ A ∨ (chStep d k fog ∨ chSt fog m (k + 1) (fStep d k fog)) from or_assoc))
          ·
            refine g_aload (n := 62) rfl rfl ?_
            refine g_getv (n := 65) (ci := 4) (j := 5) (v := fO d k 4) (rK_g hR (show k < fN d by omega) (w := 4) (by omega)) rfl (by decide +kernel) rfl (by decide) (cf_gh hB (show k < 8 by omega)) ?_
            refine g_aload_n (n := 66) rfl rfl ?_
            refine g_getv (n := 69) (ci := 1) (j := 3) (v := d 1) (rK_n hR (j := 1) (by omega)) rfl (by decide +kernel) rfl (by decide) (cf_hd hB) ?_
            refine g_icgt (n := 72) 91 rfl (by decide) (fun h4 => ?_) (fun h4 => ?_)
            ·
              refine g_iinc3 (n := 94) rfl rfl (nI_inc _) ?_
              refine g_goto 14 rfl (by decide) ?_
              have hst : fStep d k fog = d := fStep_s h3 h4
              have hch : ¬ chStep d k fog := fun q => q.elim (fun q => h2 q.1) (fun q => q.2.1 h4)
              exact ih (k + 1) (fStep d k fog) I1 (A ∨ chStep d k fog) _ (by omega) (hst.symm ▸ hR) (gW_step hw (by omega)) (gV_step hw hv (by omega)) hNs hF (hacc.trans (bP_eq ⟨Or.inl, fun q => q.resolve_right hch⟩)) (show fSt fog m (k + 1) (fStep d k fog) = dF from hf) (by rw [← hvF]; exact bP_eq (show (A ∨ chStep d k fog) ∨ chSt fog m (k + 1) (fStep d k fog) ↔ A ∨ (chStep d k fog ∨ chSt fog m (k + 1) (fStep d k fog)) from or_assoc))
            ·
              refine g_aload_n (n := 73) rfl rfl ?_
              refine g_aload (n := 75) rfl rfl ?_
              refine g_getv (n := 78) (ci := 4) (j := 3) (v := fO d k 2) (rK_g hR (by omega) (w := 2) (by omega)) rfl (by decide +kernel) rfl (by decide) (cf_gh hB (by omega)) ?_
              refine g_cv1 (n := 81) (t := 19) (ci := 1) rfl (by decide +kernel) (by decide +kernel) (cf_hd hB) (cf_136 hB) (by decide +kernel) (by rfl) (c_cFree hB hR) (by omega) (g_E ?_)
              refine g_split (fun hf1 => ?_) (fun hf0 => ?_)
              ·
                refine g_ifeq1 (n := 84) 91 rfl (by decide) ?_
                refine g_aload (n := 86) rfl rfl ?_
                refine g_cv0 (n := 89) (t := 40) (ci := 4) rfl (by decide +kernel) (by decide +kernel) (cf_gh hB (by omega)) (cf_g1 hB (by omega)) (by decide +kernel) (by rfl) (c_enter (cf_G hB (by omega))) (by omega) (g_Z ?_)
                refine g_iconst (n := 90) (v := 1) rfl rfl ?_
                refine g_istore_n2 (n := 91) rfl rfl ?_
                refine g_iinc3 (n := 94) rfl rfl (nI_inc _) ?_
                refine g_goto 14 rfl (by decide) ?_
                have hst := fStep_e (fog := fog) h3 h4 (Int32.not_le.mpr hf1.2)
                have hch : chStep d k fog := Or.inr ⟨h3, h4, Int32.not_le.mpr hf1.2⟩
                exact ih (k + 1) (fStep d k fog) _ (A ∨ chStep d k fog) _ (by omega) (hst.symm ▸ rK_enter hR (by omega)) (gW_step hw (by omega)) (gV_step hw hv (by omega)) hNs (hF.trans (fun a j ha => by unfold enM; rw [mf_ne (by omega), mf_ne (by omega), mf_ne (by omega), mf_ne (by omega)])) (bP_t (Or.inr hch)).symm (show fSt fog m (k + 1) (fStep d k fog) = dF from hf) (by rw [← hvF]; exact bP_eq (show (A ∨ chStep d k fog) ∨ chSt fog m (k + 1) (fStep d k fog) ↔ A ∨ (chStep d k fog ∨ chSt fog m (k + 1) (fStep d k fog)) from or_assoc))
              ·
                refine g_ifeq0 (n := 84) 91 rfl (by decide) ?_
                have hfr := (hw.1.2.2.2 k (by omega)).2.1
                have hnf : d (10 + cl (fO d k 2)) ≤ fAt d (fO d k 2) := Int32.not_lt.mp (fun q => hf0 ⟨⟨hfr.1, by have := hfr.2; omega⟩, q⟩)
                refine g_iinc3 (n := 94) rfl rfl (nI_inc _) ?_
                refine g_goto 14 rfl (by decide) ?_
                have hst : fStep d k fog = d := fStep_f h3 h4 hnf
                have hch : ¬ chStep d k fog := fun q => q.elim (fun q => h2 q.1) (fun q => q.2.2 hnf)
                exact ih (k + 1) (fStep d k fog) I1 (A ∨ chStep d k fog) _ (by omega) (hst.symm ▸ hR) (gW_step hw (by omega)) (gV_step hw hv (by omega)) hNs hF (hacc.trans (bP_eq ⟨Or.inl, fun q => q.resolve_right hch⟩)) (show fSt fog m (k + 1) (fStep d k fog) = dF from hf) (by rw [← hvF]; exact bP_eq (show (A ∨ chStep d k fog) ∨ chSt fog m (k + 1) (fStep d k fog) ↔ A ∨ (chStep d k fog ∨ chSt fog m (k + 1) (fStep d k fog)) from or_assoc))
        ·
          refine g_iload_n (n := 40) rfl rfl ?_
          refine g_aload_n (n := 41) rfl rfl ?_
          refine g_aload (n := 43) rfl rfl ?_
          refine g_iload_n (n := 44) rfl rfl ?_
          refine g_cv2 (n := 47) (t := 18) (ci := 1) rfl (by decide +kernel) (by decide +kernel) (cf_hd hB) (cf_136 hB) (by decide +kernel) (by rfl) (c_walk hB hR hw hv (g := k) (by omega) (by assumption)) (by omega) (g_RB fun I2 hR2 hF2 => ?_)
          refine g_ior (n := 48) rfl ?_
          refine g_top (w := bP (A ∨ chW d k fog)) (by rw [hacc]; exact bP_or) ?_
          refine g_istore_n2 (n := 49) rfl rfl ?_
          refine g_goto 91 rfl (by decide) ?_
          refine g_iinc3 (n := 94) rfl rfl (nI_inc _) ?_
          refine g_goto 14 rfl (by decide) ?_
          have hst : fStep d k fog = sW d k fog := fStep_1 h2
          have hch : chStep d k fog ↔ chW d k fog := ⟨fun q => q.elim (fun q => q.2) (fun q => absurd (h2.symm.trans q.1) (by decide)), fun q => Or.inl ⟨h2, q⟩⟩
          exact ih (k + 1) (fStep d k fog) I2 (A ∨ chStep d k fog) _ (by omega) (hst.symm ▸ hR2) (gW_step hw (by omega)) (gV_step hw hv (by omega)) hNs (hF.trans hF2) (bP_eq (or_congr_right hch.symm)) (show fSt fog m (k + 1) (fStep d k fog) = dF from hf) (by rw [← hvF]; exact bP_eq (show (A ∨ chStep d k fog) ∨ chSt fog m (k + 1) (fStep d k fog) ↔ A ∨ (chStep d k fog ∨ chSt fog m (k + 1) (fStep d k fog)) from or_assoc))
  refine g_aload_n (n := 1) rfl rfl ?_
  refine g_dupa (n := 2) rfl ?_
  refine g_getv (n := 5) (ci := 1) (j := 3) (v := d0 1) (rK_n hR (j := 1) (by omega)) rfl (by decide +kernel) rfl (by decide) (cf_hd hB) ?_
  refine g_iconst (n := 6) (v := 1) rfl rfl ?_
  refine g_iadd (n := 7) rfl ?_
  refine g_puti (n := 10) (ci := 1) (j := 3) rfl (by decide +kernel) rfl (by decide) (cf_hd hB) (by decide +kernel) rfl ?_
  have hR2 := rK_num (q := 1) (x := d0 1 + 1) hR (by omega)
  refine g_iconst (n := 11) (v := 0) rfl rfl ?_
  refine g_istore_n2 (n := 12) rfl rfl ?_
  refine g_iconst (n := 13) (v := 0) rfl rfl ?_
  refine g_istore_n3 (n := 14) rfl rfl ?_
  exact H n 0 _ _ False 0 (by omega) hR2 (gW_1 hw) (gV_up hv (by omega)) (by rw [fN_up (by omega)]; exact hn) (bF_b bF.rfl') (bP_f (fun q => q)).symm hf0 (by rw [← hv0]; exact bP_eq ⟨fun q => q.resolve_left (fun z => z), Or.inr⟩)
