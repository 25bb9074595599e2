/-! the model's minute: a goer goes on -/
def cl (x : Int32) : Nat := x.toNatClampNeg
def fOver (d : Nat → Int32) (g : Nat) : Nat → Int32 := up (up (up d (34 + 10 * g + 5) 2) (34 + 10 * g + 6) (-1)) 5 (up (up d (34 + 10 * g + 5) 2) (34 + 10 * g + 6) (-1) 5 &&& (fBit g ^^^ -1))
def fGo (d : Nat → Int32) (g : Nat) (b : Int32) (x : Int32) : Nat → Int32 :=
  if 0 ≤ x.toInt ∧ x.toInt ≤ 23 then
    (if d (10 + cl x) ≤ fAt d x then
      (if b = 0 then (if 1 < d (10 + cl (fO d g 6)) then d else if fAgainst d g x < 0 then d else fMeets d g (cl (fAgainst d g x))) else d)
    else fComes d g (cl x))
  else d
def fGoes (d : Nat → Int32) (g : Nat) (fog : Int32) : Nat → Int32 :=
  if fO d g 8 = 1 then fGo d g 1 (fO d g 6 - fFaces d g)
  else if fO d g 6 = fO d g 3 then fOver d g
  else if 1 < d (10 + cl (fO d g 6)) then
    (if fog = 0 then (if fHears (fO d g 0) = 0 then fGo d g 0 (fO d g 6 + fFaces d g) else if fHeard d g = 0 then fGo d g 0 (fO d g 6 + fFaces d g) else d) else fGo d g 0 (fO d g 6 + fFaces d g))
  else fGo d g 0 (fO d g 6 + fFaces d g)
theorem fFirst_in {p : Nat → Prop} [DecidablePred p] {n : Nat} (hn : n ≤ 8) : ∀ f k, fFirst p n f k = -1 ∨ ∃ j, j < n ∧ fFirst p n f k = nI j ∧ p j := by
  intro f
  induction f with
  | zero => intro k; exact Or.inl rfl
  | succ f ih =>
    intro k
    unfold fFirst
    split
    · exact Or.inl rfl
    next h =>
      split
      next h2 => exact Or.inr ⟨k, by omega, rfl, h2⟩
      · exact ih (k + 1)
theorem fAgainst_in {d : Nat → Int32} {g : Nat} {y : Int32} (hN : iR (d 0) 9) (h : ¬ fAgainst d g y < 0) : ∃ j, j < fN d ∧ fAgainst d g y = nI j ∧ gFace d g y j := by
  rcases fFirst_in (p := gFace d g y) (n := fN d) (fN_eq hN).2 9 0 with e | e
  · exact absurd (show fAgainst d g y < 0 by unfold fAgainst; rw [e]; decide) h
  · exact e
/-- what the model's numbers keep to -/
def fWF (d : Nat → Int32) : Prop := iR (d 0) 9 ∧ iR (d 114) 51 ∧ iR (d 115) 51 ∧ ∀ g, g < 8 → fK (fO d g 0) ∧ iR (fO d g 2) 24 ∧ (fO d g 5 = 1 → iR (fO d g 6) 24)
theorem c_go {sc : List Value} {nm : Nat} {I : mg_I} {d0 : Nat → Int32} {g k dd : Nat} {b fog x : Int32} {x6 : Value} (hw : fWF d0) (hg : g < 8) (hb : b = 0 ∨ b = 1) (hyk : fO d0 g 6 = nI k) (hk : k < 24) (hd : 44 ≤ dd) : GG sc 12 false false mi_k188 dd 130 [.ref 124, .int (nI g), .int fog, .int b, .int (nI k), .int x, x6] [] (mR I d0) nm (qN (mR I (fGo d0 g b x)) nm) := by
  obtain ⟨hN, hs, hs1, hW⟩ := hw
  have hck : cl (nI k) = k := nI_clamp (by omega)
  refine g_iload (n := 132) rfl rfl ?_
  refine g_cs1 (n := 135) (t := 144) (x := (1219, 1220, 84)) rfl (by decide +kernel) (by decide +kernel) (by rfl) c_isYard (by omega) (g_E ?_)
  try simp only [mR_125, mR_up]
  refine g_split (fun h1 => ?_) (fun h1 => ?_)
  ·
    refine g_ifne1 (n := 138) 139 rfl (by decide) ?_
    obtain ⟨j, hj, rfl, hjc⟩ := iR_nI (x := x) (n := 24) ⟨h1.1, by omega⟩
    have hj2 : cl (nI j) = j := hjc
    unfold fGo
    rw [if_pos h1, hj2, hyk, hck]
    refine g_aload_n (n := 140) rfl rfl ?_
    refine g_iload (n := 142) rfl rfl ?_
    refine g_cv1 (n := 145) (t := 165) (ci := 12) rfl (by decide +kernel) (by decide +kernel) (by decide) (by decide) (by decide +kernel) (by rfl) (c_atYard hN) (by omega) (g_E ?_)
    try simp only [mR_125, mR_up]
    refine g_aload_n (n := 146) rfl rfl ?_
    refine g_getr (n := 149) (ci := 12) (j := 0) (b := 125) rfl (by decide +kernel) (by decide) (by decide) (by decide +kernel) ?_
    refine g_bipush (n := 151) (v := 10) rfl rfl ?_
    refine g_iload (n := 153) rfl rfl ?_
    refine g_iaddN (n := 154) (x := 10) (y := j) rfl ?_
    refine g_iald (n := 155) ((10 + j)) rfl (by decide) rfl (by show _ < 286; omega) ?_
    try simp only [mR_125, mR_up]
    refine g_icge (n := 158) 166 rfl (by decide) (fun h2 => ?_) (fun h2 => ?_)
    ·
      rw [if_pos h2]
      refine g_aload_n (n := 167) rfl rfl ?_
      refine g_iload_n (n := 168) rfl rfl ?_
      refine g_iload (n := 170) rfl rfl ?_
      refine g_cv2 (n := 173) (t := 184) (ci := 12) rfl (by decide +kernel) (by decide +kernel) (by decide) (by decide) (by decide +kernel) (by rfl) (c_against (g := g) (by omega) hN) (by omega) (g_E ?_)
      try simp only [mR_125, mR_up]
      refine g_istore6 (n := 175) rfl rfl ?_
      refine g_iload_n (n := 176) rfl rfl ?_
      refine g_ifne (n := 179) 200 rfl (by decide) (fun h3 => ?_) (fun h3 => ?_)
      ·
        rw [if_neg h3]
        refine g_vret (n := 201) rfl ?_
        first | exact ⟨rfl, he, rfl⟩ | exact ⟨rfl, mE.rfl', rfl⟩
      ·
        rw [if_pos h3]
        refine g_aload_n (n := 180) rfl rfl ?_
        refine g_iload (n := 182) rfl rfl ?_
        refine g_cv1 (n := 185) (t := 164) (ci := 12) rfl (by decide +kernel) (by decide +kernel) (by decide) (by decide) (by decide +kernel) (by rfl) (c_isLedge (y := k) (by omega)) (by omega) (g_E ?_)
        try simp only [mR_125, mR_up]
        refine g_split (fun h4 => ?_) (fun h4 => ?_)
        ·
          refine g_ifne1 (n := 188) 200 rfl (by decide) ?_
          rw [if_pos h4]
          refine g_vret (n := 201) rfl ?_
          first | exact ⟨rfl, he, rfl⟩ | exact ⟨rfl, mE.rfl', rfl⟩
        ·
          refine g_ifne0 (n := 188) 200 rfl (by decide) ?_
          rw [if_neg h4]
          refine g_iload (n := 190) rfl rfl ?_
          refine g_iflt (n := 193) 200 rfl (by decide) (fun h5 => ?_) (fun h5 => ?_)
          ·
            rw [if_pos h5]
            refine g_vret (n := 201) rfl ?_
            first | exact ⟨rfl, he, rfl⟩ | exact ⟨rfl, mE.rfl', rfl⟩
          ·
            rw [if_neg h5]
            have hc := h5
            obtain ⟨w, hw1, hw2, _⟩ := fAgainst_in hN hc
            rw [hw2, show cl (nI w) = w from nI_clamp (by have := (fN_eq hN).2; omega)]
            refine g_aload_n (n := 194) rfl rfl ?_
            refine g_iload_n (n := 195) rfl rfl ?_
            refine g_iload (n := 197) rfl rfl ?_
            have hn8 := (fN_eq hN).2
            refine g_cv2 (n := 200) (t := 186) (ci := 12) rfl (by decide +kernel) (by decide +kernel) (by decide) (by decide) (by decide +kernel) (by rfl) (c_meets (g := g) (h := w) hg (by omega) (hW g hg).1 (hW w (by omega)).1 hs) (by omega) (g_N fun I1 he => ?_)
            refine g_vret (n := 201) rfl ?_
            first | exact ⟨rfl, he, rfl⟩ | exact ⟨rfl, mE.rfl', rfl⟩
    ·
      rw [if_neg h2]
      refine g_aload_n (n := 159) rfl rfl ?_
      refine g_iload_n (n := 160) rfl rfl ?_
      refine g_iload (n := 162) rfl rfl ?_
      refine g_cv2 (n := 165) (t := 187) (ci := 12) rfl (by decide +kernel) (by decide +kernel) (by decide) (by decide) (by decide +kernel) (by rfl) (c_comes (g := g) (y := j) hg hj (hW g hg).1 hs1) (by omega) (g_N fun I1 he => ?_)
      refine g_vret (n := 166) rfl ?_
      first | exact ⟨rfl, he, rfl⟩ | exact ⟨rfl, mE.rfl', rfl⟩
  ·
    refine g_ifne0 (n := 138) 139 rfl (by decide) ?_
    unfold fGo; rw [if_neg h1]
    refine g_vret (n := 139) rfl ?_
    first | exact ⟨rfl, he, rfl⟩ | exact ⟨rfl, mE.rfl', rfl⟩
theorem c_goesOn {sc : List Value} {nm : Nat} {I : mg_I} {d0 : Nat → Int32} {g : Nat} {fog : Int32} (hw : fWF d0) (hg : g < 8) (hon : fO d0 g 5 = 1) : SP sc 45 188 [.ref 124, .int (nI g), .int fog] (mR I d0) nm (qN (mR I (fGoes d0 g fog)) nm) := by
  obtain ⟨k, hk, hyk, hkc⟩ := iR_nI ((hw.2.2.2 g hg).2.2 hon)
  have hck : cl (nI k) = k := nI_clamp (by omega)
  have hN := hw.1
  refine SP.of (h := 44) (t := 188) (q := (yX12_goesOn, cX12_goesOn, 7, none, 12, 1329, mi_k188)) rfl (by decide) (show ¬ (7 : Nat) < 3 by decide) (fun d hd => ?_)
  show GG sc 12 false false mi_k188 d 0 [.ref 124, .int (nI g), .int fog, .null, .null, .null, .null] [] (mR I d0) nm (qN (mR I (fGoes d0 g fog)) nm)
  unfold fGoes
  rw [hyk, hck]
  refine g_aload_n (n := 1) rfl rfl ?_
  refine g_iload_n (n := 2) rfl rfl ?_
  refine g_bipush (n := 4) (v := 8) rfl rfl ?_
  refine g_cv2 (n := 7) (t := 145) (ci := 12) rfl (by decide +kernel) (by decide +kernel) (by decide) (by decide) (by decide +kernel) (by rfl) (c_of (g := g) (w := 8) (by omega) (by omega)) (by omega) (g_E ?_)
  try simp only [mR_125, mR_up]
  refine g_iconst (n := 8) (v := 1) rfl rfl ?_
  refine g_icne (n := 11) 15 rfl (by decide) (fun h1 => ?_) (fun h1 => ?_)
  ·
    rw [if_neg h1]
    refine g_iconst (n := 16) (v := 0) rfl rfl ?_
    refine g_istore_n3 (n := 17) rfl rfl ?_
    refine g_aload_n (n := 18) rfl rfl ?_
    refine g_iload_n (n := 19) rfl rfl ?_
    refine g_bipush (n := 21) (v := 6) rfl rfl ?_
    refine g_cv2 (n := 24) (t := 145) (ci := 12) rfl (by decide +kernel) (by decide +kernel) (by decide) (by decide) (by decide +kernel) (by rfl) (c_of (g := g) (w := 6) (by omega) (by omega)) (by omega) (g_E ?_)
    refine g_top (w := nI k) hyk ?_
    refine g_istore4 (n := 26) rfl rfl ?_
    refine g_iload_n (n := 27) rfl rfl ?_
    refine g_ifne0 (n := 30) 71 rfl (by decide) ?_
    refine g_iload (n := 32) rfl rfl ?_
    refine g_aload_n (n := 33) rfl rfl ?_
    refine g_iload_n (n := 34) rfl rfl ?_
    refine g_iconst (n := 35) (v := 3) rfl rfl ?_
    refine g_cv2 (n := 38) (t := 145) (ci := 12) rfl (by decide +kernel) (by decide +kernel) (by decide) (by decide) (by decide +kernel) (by rfl) (c_of (g := g) (w := 3) (by omega) (by omega)) (by omega) (g_E ?_)
    try simp only [mR_125, mR_up]
    refine g_icne (n := 41) 71 rfl (by decide) (fun h2 => ?_) (fun h2 => ?_)
    ·
      rw [if_neg h2]
      refine g_iload_n (n := 72) rfl rfl ?_
      refine g_ifne0 (n := 75) 105 rfl (by decide) ?_
      refine g_aload_n (n := 76) rfl rfl ?_
      refine g_iload (n := 78) rfl rfl ?_
      refine g_cv1 (n := 81) (t := 164) (ci := 12) rfl (by decide +kernel) (by decide +kernel) (by decide) (by decide) (by decide +kernel) (by rfl) (c_isLedge (y := k) (by omega)) (by omega) (g_E ?_)
      try simp only [mR_125, mR_up]
      refine g_split (fun h3 => ?_) (fun h3 => ?_)
      ·
        refine g_ifeq1 (n := 84) 105 rfl (by decide) ?_
        rw [if_pos h3]
        refine g_iload_n (n := 85) rfl rfl ?_
        refine g_ifne (n := 88) 105 rfl (by decide) (fun h4 => ?_) (fun h4 => ?_)
        ·
          rw [if_neg h4]
          refine g_iload_n (n := 106) rfl rfl ?_
          refine g_ifeq0 (n := 109) 120 rfl (by decide) ?_
          refine g_iload (n := 122) rfl rfl ?_
          refine g_aload_n (n := 123) rfl rfl ?_
          refine g_iload_n (n := 124) rfl rfl ?_
          refine g_cv1 (n := 127) (t := 183) (ci := 12) rfl (by decide +kernel) (by decide +kernel) (by decide) (by decide) (by decide +kernel) (by rfl) (c_faces (g := g) (by omega)) (by omega) (g_E ?_)
          try simp only [mR_125, mR_up]
          refine g_iadd (n := 128) rfl ?_
          refine g_istore5 (n := 130) rfl rfl ?_
          exact c_go (b := 0) hw hg (by first | exact Or.inl rfl | exact Or.inr rfl) hyk hk hd
        ·
          rw [if_pos h4]
          refine g_aload_n (n := 89) rfl rfl ?_
          refine g_iload_n (n := 90) rfl rfl ?_
          refine g_cv1 (n := 93) (t := 173) (ci := 12) rfl (by decide +kernel) (by decide +kernel) (by decide) (by decide) (by decide +kernel) (by rfl) (c_hears (g := g) (by omega)) (by omega) (g_E ?_)
          try simp only [mR_125, mR_up]
          refine g_ifeq (n := 96) 105 rfl (by decide) (fun h5 => ?_) (fun h5 => ?_)
          ·
            rw [if_pos h5]
            refine g_iload_n (n := 106) rfl rfl ?_
            refine g_ifeq0 (n := 109) 120 rfl (by decide) ?_
            refine g_iload (n := 122) rfl rfl ?_
            refine g_aload_n (n := 123) rfl rfl ?_
            refine g_iload_n (n := 124) rfl rfl ?_
            refine g_cv1 (n := 127) (t := 183) (ci := 12) rfl (by decide +kernel) (by decide +kernel) (by decide) (by decide) (by decide +kernel) (by rfl) (c_faces (g := g) (by omega)) (by omega) (g_E ?_)
            try simp only [mR_125, mR_up]
            refine g_iadd (n := 128) rfl ?_
            refine g_istore5 (n := 130) rfl rfl ?_
            exact c_go (b := 0) hw hg (by first | exact Or.inl rfl | exact Or.inr rfl) hyk hk hd
          ·
            rw [if_neg h5]
            refine g_aload_n (n := 97) rfl rfl ?_
            refine g_iload_n (n := 98) rfl rfl ?_
            refine g_cv1 (n := 101) (t := 185) (ci := 12) rfl (by decide +kernel) (by decide +kernel) (by decide) (by decide) (by decide +kernel) (by rfl) (c_isHeard (g := g) (by omega) hN) (by omega) (g_E ?_)
            try simp only [mR_125, mR_up]
            refine g_ifeq (n := 104) 105 rfl (by decide) (fun h6 => ?_) (fun h6 => ?_)
            ·
              rw [if_pos h6]
              refine g_iload_n (n := 106) rfl rfl ?_
              refine g_ifeq0 (n := 109) 120 rfl (by decide) ?_
              refine g_iload (n := 122) rfl rfl ?_
              refine g_aload_n (n := 123) rfl rfl ?_
              refine g_iload_n (n := 124) rfl rfl ?_
              refine g_cv1 (n := 127) (t := 183) (ci := 12) rfl (by decide +kernel) (by decide +kernel) (by decide) (by decide) (by decide +kernel) (by rfl) (c_faces (g := g) (by omega)) (by omega) (g_E ?_)
              try simp only [mR_125, mR_up]
              refine g_iadd (n := 128) rfl ?_
              refine g_istore5 (n := 130) rfl rfl ?_
              exact c_go (b := 0) hw hg (by first | exact Or.inl rfl | exact Or.inr rfl) hyk hk hd
            ·
              rw [if_neg h6]
              refine g_vret (n := 105) rfl ?_
              first | exact ⟨rfl, mE.rfl', rfl⟩
      ·
        refine g_ifeq0 (n := 84) 105 rfl (by decide) ?_
        rw [if_neg h3]
        refine g_iload_n (n := 106) rfl rfl ?_
        refine g_ifeq0 (n := 109) 120 rfl (by decide) ?_
        refine g_iload (n := 122) rfl rfl ?_
        refine g_aload_n (n := 123) rfl rfl ?_
        refine g_iload_n (n := 124) rfl rfl ?_
        refine g_cv1 (n := 127) (t := 183) (ci := 12) rfl (by decide +kernel) (by decide +kernel) (by decide) (by decide) (by decide +kernel) (by rfl) (c_faces (g := g) (by omega)) (by omega) (g_E ?_)
        try simp only [mR_125, mR_up]
        refine g_iadd (n := 128) rfl ?_
        refine g_istore5 (n := 130) rfl rfl ?_
        exact c_go (b := 0) hw hg (by first | exact Or.inl rfl | exact Or.inr rfl) hyk hk hd
    ·
      rw [if_pos h2]
      refine g_aload_n (n := 42) rfl rfl ?_
      refine g_iload_n (n := 43) rfl rfl ?_
      refine g_iconst (n := 44) (v := 5) rfl rfl ?_
      refine g_iconst (n := 45) (v := 2) rfl rfl ?_
      refine g_cv3 (n := 48) (t := 146) (ci := 12) rfl (by decide +kernel) (by decide +kernel) (by decide) (by decide) (by decide +kernel) (by rfl) (c_sets (g := g) (w := 5) (by omega) (by omega)) (by omega) (g_Z ?_)
      try simp only [mR_125, mR_up]
      refine g_aload_n (n := 49) rfl rfl ?_
      refine g_iload_n (n := 50) rfl rfl ?_
      refine g_bipush (n := 52) (v := 6) rfl rfl ?_
      refine g_iconst (n := 53) (v := -1) rfl rfl ?_
      refine g_cv3 (n := 56) (t := 146) (ci := 12) rfl (by decide +kernel) (by decide +kernel) (by decide) (by decide) (by decide +kernel) (by rfl) (c_sets (g := g) (w := 6) (by omega) (by omega)) (by omega) (g_Z ?_)
      try simp only [mR_125, mR_up]
      refine g_aload_n (n := 57) rfl rfl ?_
      refine g_getr (n := 60) (ci := 12) (j := 0) (b := 125) rfl (by decide +kernel) (by decide) (by decide) (by decide +kernel) ?_
      refine g_iconst (n := 61) (v := 5) rfl rfl ?_
      refine g_dup2 (n := 62) rfl ?_
      refine g_iald (n := 63) (5) rfl (by decide) rfl (by show _ < 286; omega) ?_
      try simp only [mR_125, mR_up]
      refine g_iconst (n := 64) (v := 1) rfl rfl ?_
      refine g_iload_n (n := 65) rfl rfl ?_
      refine g_ishl (n := 66) rfl ?_
      refine g_iconst (n := 67) (v := -1) rfl rfl ?_
      refine g_ixor (n := 68) rfl ?_
      refine g_iand (n := 69) rfl ?_
      refine g_iast (n := 70) (5) rfl (by decide) rfl (by show _ < 286; omega) ?_
      try simp only [mR_125, mR_up]
      refine g_vret (n := 71) rfl ?_
      first | exact ⟨rfl, mE.rfl', rfl⟩
  ·
    rw [if_pos h1]
    refine g_iconst (n := 12) (v := 1) rfl rfl ?_
    refine g_goto 16 rfl (by decide) ?_
    refine g_istore_n3 (n := 17) rfl rfl ?_
    refine g_aload_n (n := 18) rfl rfl ?_
    refine g_iload_n (n := 19) rfl rfl ?_
    refine g_bipush (n := 21) (v := 6) rfl rfl ?_
    refine g_cv2 (n := 24) (t := 145) (ci := 12) rfl (by decide +kernel) (by decide +kernel) (by decide) (by decide) (by decide +kernel) (by rfl) (c_of (g := g) (w := 6) (by omega) (by omega)) (by omega) (g_E ?_)
    refine g_top (w := nI k) hyk ?_
    refine g_istore4 (n := 26) rfl rfl ?_
    refine g_iload_n (n := 27) rfl rfl ?_
    refine g_ifne1 (n := 30) 71 rfl (by decide) ?_
    refine g_iload_n (n := 72) rfl rfl ?_
    refine g_ifne1 (n := 75) 105 rfl (by decide) ?_
    refine g_iload_n (n := 106) rfl rfl ?_
    refine g_ifeq1 (n := 109) 120 rfl (by decide) ?_
    refine g_iload (n := 111) rfl rfl ?_
    refine g_aload_n (n := 112) rfl rfl ?_
    refine g_iload_n (n := 113) rfl rfl ?_
    refine g_cv1 (n := 116) (t := 183) (ci := 12) rfl (by decide +kernel) (by decide +kernel) (by decide) (by decide) (by decide +kernel) (by rfl) (c_faces (g := g) (by omega)) (by omega) (g_E ?_)
    try simp only [mR_125, mR_up]
    refine g_isub (n := 117) rfl ?_
    refine g_goto 128 rfl (by decide) ?_
    refine g_istore5 (n := 130) rfl rfl ?_
    exact c_go (b := 1) hw hg (by first | exact Or.inl rfl | exact Or.inr rfl) hyk hk hd
