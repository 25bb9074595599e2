/-! the model: whether all are stuck -/
theorem bI_0 {p : Prop} [Decidable p] (h : bI p = 0) : ¬ p := fun z => by rw [bI_t z] at h; exact absurd h (by decide)
theorem bI_n {p : Prop} [Decidable p] (h : ¬ bI p = 0) : p := by
  by_cases z : p
  · exact z
  · exact absurd (bI_f z) h
def pMay (d : Nat → Int32) (k : Nat) : Prop := fMany d 2 < d 0 ∧ ∀ g, g < k → (¬ fO d g 5 = 0 ∨ fO d g 4 ≤ d 1)
noncomputable def pD (p : Prop) : Decidable p := Classical.propDecidable p
noncomputable def bP (p : Prop) : Int32 := @bI p (pD p)
theorem bP_t {p : Prop} (h : p) : bP p = 1 := @bI_t p (pD p) h
theorem bP_f {p : Prop} (h : ¬ p) : bP p = 0 := @bI_f p (pD p) h
theorem bP_0 {p : Prop} (h : bP p = 0) : ¬ p := @bI_0 p (pD p) h
theorem bP_n {p : Prop} (h : ¬ bP p = 0) : p := @bI_n p (pD p) h
theorem bP_01 {p : Prop} : bP p = 0 ∨ bP p = 1 := @bI_01 p (pD p)
theorem bP_bI {p : Prop} [Decidable p] : bI p = bP p := by
  by_cases h : p
  · rw [bI_t h, bP_t h]
  · rw [bI_f h, bP_f h]
theorem bP_eq {p q : Prop} (h : p ↔ q) : bP p = bP q := by rw [propext h]
theorem pMay_s {d : Nat → Int32} {k : Nat} : pMay d (k + 1) ↔ pMay d k ∧ (¬ fO d k 5 = 0 ∨ fO d k 4 ≤ d 1) := by
  constructor
  · intro h
    exact ⟨⟨h.1, fun g hg => h.2 g (by omega)⟩, h.2 k (by omega)⟩
  · rintro ⟨h1, h2⟩
    refine ⟨h1.1, fun g hg => ?_⟩
    by_cases e : g = k
    · subst e; exact h2
    · exact h1.2 g (by omega)
theorem c_may {sc : List Value} {nm : Nat} {I : mg_I} {d0 : Nat → Int32} (hN : iR (d0 0) 9) : SP sc 4 200 [.ref 124] (mR I d0) nm (qE (bP (pMay d0 (fN d0))) (mR I d0) nm) := by
  refine SP.of (h := 3) (t := 200) (q := (yX12_mayBeStuck, cX12_mayBeStuck, 3, (some .boolean), 12, 1388, mi_k200)) rfl (by decide) (show ¬ (3 : Nat) < 1 by decide) (fun d hd => ?_)
  show GG sc 12 false true mi_k200 d 0 [.ref 124, .null, .null] [] (mR I d0) nm (qE (bP (pMay d0 (fN d0))) (mR I d0) nm)
  generalize hn : fN d0 = n
  have hn8 : n ≤ 8 := by rw [← hn]; exact (fN_eq hN).2
  have H : ∀ (m k : Nat) (b : Int32), k + m = n → b = bP (pMay d0 k) → GG sc 12 false true mi_k200 d 22 [.ref 124, .int b, .int (nI k)] [] (mR I d0) nm (qE (bP (pMay d0 n)) (mR I d0) nm) := by
    intro m
    induction m with
    | zero =>
      intro k b hk hb
      refine g_iload_n (n := 23) rfl rfl ?_
      refine g_aload_n (n := 24) rfl rfl ?_
      refine g_getr (n := 27) (ci := 12) (j := 0) (b := 125) rfl (by decide +kernel) (by decide) (by decide) (by decide +kernel) ?_
      refine g_iconst (n := 28) (v := 0) rfl rfl ?_
      refine g_iald (n := 29) (0) rfl (by decide) rfl (by show _ < 286; omega) ?_
      try simp only [mR_125, mR_up, mR_w124, mR_r124, mR_w126, mR_r126, mR_w128, mR_r128, mR_w130, mR_r130, mR_w131, mR_r131, mR_w132, mR_r132, mR_w133, mR_r133, mR_w134, mR_r134, mR_w135, mR_r135]
      refine g_icge (n := 32) 72 rfl (by decide) (fun h1 => ?_) (fun h1 => ?_)
      ·
        refine g_iload_n (n := 73) rfl rfl ?_
        refine g_iret (n := 74) rfl (fun _ => by first | exact Or.inl rfl | exact Or.inr rfl | exact bI_01 | (rw [hb]; exact bP_01)) ?_
        rw [hb, show k = n by omega]; exact ⟨rfl, rfl, rfl⟩
      ·
        exact absurd (fN_nle (fN_eq hN).1 (by omega) (by omega) h1) (by omega)
    | succ m ih =>
      intro k b hk hb
      refine g_iload_n (n := 23) rfl rfl ?_
      refine g_aload_n (n := 24) rfl rfl ?_
      refine g_getr (n := 27) (ci := 12) (j := 0) (b := 125) rfl (by decide +kernel) (by decide) (by decide) (by decide +kernel) ?_
      refine g_iconst (n := 28) (v := 0) rfl rfl ?_
      refine g_iald (n := 29) (0) rfl (by decide) rfl (by show _ < 286; omega) ?_
      try simp only [mR_125, mR_up, mR_w124, mR_r124, mR_w126, mR_r126, mR_w128, mR_r128, mR_w130, mR_r130, mR_w131, mR_r131, mR_w132, mR_r132, mR_w133, mR_r133, mR_w134, mR_r134, mR_w135, mR_r135]
      refine g_icge (n := 32) 72 rfl (by decide) (fun h1 => ?_) (fun h1 => ?_)
      ·
        exact absurd (fN_le (fN_eq hN).1 (by omega) (by omega) h1) (by omega)
      ·
        refine g_iload_n (n := 33) rfl rfl ?_
        refine g_ifeq (n := 36) 64 rfl (by decide) (fun h2 => ?_) (fun h2 => ?_)
        ·
          refine g_iconst (n := 65) (v := 0) rfl rfl ?_
          refine g_istore_n1 (n := 66) rfl rfl ?_
          refine g_iinc2 (n := 69) rfl rfl (nI_inc _) ?_
          refine g_goto 22 rfl (by decide) ?_
          exact ih (k + 1) _ (by omega) (bP_f (fun q => bP_0 (hb.symm.trans h2) (pMay_s.mp q).1)).symm
        ·
          refine g_aload_n (n := 37) rfl rfl ?_
          refine g_iload_n (n := 38) rfl rfl ?_
          refine g_iconst (n := 39) (v := 5) rfl rfl ?_
          refine g_cv2 (n := 42) (t := 145) (ci := 12) rfl (by decide +kernel) (by decide +kernel) (by decide) (by decide) (by decide +kernel) (by rfl) (c_of (g := k) (w := 5) (by omega) (by omega)) (by omega) (g_E ?_)
          try simp only [mR_125, mR_up, mR_w124, mR_r124, mR_w126, mR_r126, mR_w128, mR_r128, mR_w130, mR_r130, mR_w131, mR_r131, mR_w132, mR_r132, mR_w133, mR_r133, mR_w134, mR_r134, mR_w135, mR_r135]
          refine g_ifne (n := 45) 60 rfl (by decide) (fun h3 => ?_) (fun h3 => ?_)
          ·
            refine g_iconst (n := 61) (v := 1) rfl rfl ?_
            refine g_goto 65 rfl (by decide) ?_
            refine g_istore_n1 (n := 66) rfl rfl ?_
            refine g_iinc2 (n := 69) rfl rfl (nI_inc _) ?_
            refine g_goto 22 rfl (by decide) ?_
            exact ih (k + 1) _ (by omega) (bP_t (pMay_s.mpr ⟨(bP_n (fun z => h2 (hb.trans z))), Or.inl h3⟩)).symm
          ·
            refine g_aload_n (n := 46) rfl rfl ?_
            refine g_iload_n (n := 47) rfl rfl ?_
            refine g_iconst (n := 48) (v := 4) rfl rfl ?_
            refine g_cv2 (n := 51) (t := 145) (ci := 12) rfl (by decide +kernel) (by decide +kernel) (by decide) (by decide) (by decide +kernel) (by rfl) (c_of (g := k) (w := 4) (by omega) (by omega)) (by omega) (g_E ?_)
            try simp only [mR_125, mR_up, mR_w124, mR_r124, mR_w126, mR_r126, mR_w128, mR_r128, mR_w130, mR_r130, mR_w131, mR_r131, mR_w132, mR_r132, mR_w133, mR_r133, mR_w134, mR_r134, mR_w135, mR_r135]
            refine g_aload_n (n := 52) rfl rfl ?_
            refine g_getr (n := 55) (ci := 12) (j := 0) (b := 125) rfl (by decide +kernel) (by decide) (by decide) (by decide +kernel) ?_
            refine g_iconst (n := 56) (v := 1) rfl rfl ?_
            refine g_iald (n := 57) (1) rfl (by decide) rfl (by show _ < 286; omega) ?_
            try simp only [mR_125, mR_up, mR_w124, mR_r124, mR_w126, mR_r126, mR_w128, mR_r128, mR_w130, mR_r130, mR_w131, mR_r131, mR_w132, mR_r132, mR_w133, mR_r133, mR_w134, mR_r134, mR_w135, mR_r135]
            refine g_icgt (n := 60) 64 rfl (by decide) (fun h4 => ?_) (fun h4 => ?_)
            ·
              refine g_iconst (n := 65) (v := 0) rfl rfl ?_
              refine g_istore_n1 (n := 66) rfl rfl ?_
              refine g_iinc2 (n := 69) rfl rfl (nI_inc _) ?_
              refine g_goto 22 rfl (by decide) ?_
              exact ih (k + 1) _ (by omega) (bP_f (fun q => (pMay_s.mp q).2.elim (fun z => z h3) (Int32.not_le.mpr h4))).symm
            ·
              refine g_iconst (n := 61) (v := 1) rfl rfl ?_
              refine g_goto 65 rfl (by decide) ?_
              refine g_istore_n1 (n := 66) rfl rfl ?_
              refine g_iinc2 (n := 69) rfl rfl (nI_inc _) ?_
              refine g_goto 22 rfl (by decide) ?_
              exact ih (k + 1) _ (by omega) (bP_t (pMay_s.mpr ⟨(bP_n (fun z => h2 (hb.trans z))), Or.inr (Int32.not_lt.mp h4)⟩)).symm
  refine g_aload_n (n := 1) rfl rfl ?_
  refine g_iconst (n := 2) (v := 2) rfl rfl ?_
  refine g_cv1 (n := 5) (t := 190) (ci := 12) rfl (by decide +kernel) (by decide +kernel) (by decide) (by decide) (by decide +kernel) (by rfl) (c_howMany (by assumption)) (by omega) (g_E ?_)
  try simp only [mR_125, mR_up, mR_w124, mR_r124, mR_w126, mR_r126, mR_w128, mR_r128, mR_w130, mR_r130, mR_w131, mR_r131, mR_w132, mR_r132, mR_w133, mR_r133, mR_w134, mR_r134, mR_w135, mR_r135]
  refine g_aload_n (n := 6) rfl rfl ?_
  refine g_getr (n := 9) (ci := 12) (j := 0) (b := 125) rfl (by decide +kernel) (by decide) (by decide) (by decide +kernel) ?_
  refine g_iconst (n := 10) (v := 0) rfl rfl ?_
  refine g_iald (n := 11) (0) rfl (by decide) rfl (by show _ < 286; omega) ?_
  try simp only [mR_125, mR_up, mR_w124, mR_r124, mR_w126, mR_r126, mR_w128, mR_r128, mR_w130, mR_r130, mR_w131, mR_r131, mR_w132, mR_r132, mR_w133, mR_r133, mR_w134, mR_r134, mR_w135, mR_r135]
  refine g_icge (n := 14) 18 rfl (by decide) (fun h1 => ?_) (fun h1 => ?_)
  ·
    refine g_iconst (n := 19) (v := 0) rfl rfl ?_
    refine g_istore_n1 (n := 20) rfl rfl ?_
    refine g_iconst (n := 21) (v := 0) rfl rfl ?_
    refine g_istore_n2 (n := 22) rfl rfl ?_
    exact H n 0 _ (by omega) (bP_f (fun q => Int32.not_lt.mpr h1 q.1)).symm
  ·
    refine g_iconst (n := 15) (v := 1) rfl rfl ?_
    refine g_goto 19 rfl (by decide) ?_
    refine g_istore_n1 (n := 20) rfl rfl ?_
    refine g_iconst (n := 21) (v := 0) rfl rfl ?_
    refine g_istore_n2 (n := 22) rfl rfl ?_
    exact H n 0 _ (by omega) (bP_t ⟨Int32.not_le.mp h1, fun g hg => absurd hg (by omega)⟩).symm
/-- row 130 holds where the goers stood: the first c of those numbers -/
def sF (d : Nat → Int32) (j : Nat) : Int32 := fO d (j / 4) (5 + j % 4)
theorem sF_eq {d : Nat → Int32} {g k : Nat} (hk : k < 4) : sF d (4 * g + k) = fO d g (5 + k) := by
  unfold sF
  rw [show (4 * g + k) / 4 = g by omega, show (4 * g + k) % 4 = k by omega]
def stU (J : mg_I) (d : Nat → Int32) (c : Nat) : mg_I := fun a j => if a = 130 ∧ j < c then sF d j else J a j
theorem stU_0 {J : mg_I} {d : Nat → Int32} : stU J d 0 = J := by
  funext a j
  unfold stU
  rw [if_neg (by omega)]
theorem stU_s {J : mg_I} {d : Nat → Int32} {c : Nat} {v : Int32} (h : v = sF d c) : mf_up (stU J d c) 130 c v = stU J d (c + 1) := by
  funext a j
  unfold mf_up stU
  by_cases h1 : a = 130 ∧ j = c
  · rw [if_pos h1, if_pos ⟨h1.1, by omega⟩, h1.2, h]
  · rw [if_neg h1]
    by_cases h2 : a = 130 ∧ j < c
    · rw [if_pos h2, if_pos ⟨h2.1, by omega⟩]
    · rw [if_neg h2, if_neg (by omega)]
theorem stU_mX {J : mg_I} {d : Nat → Int32} {c : Nat} : mX J (stU J d c) := by
  intro a j hx
  exact if_neg (by omega)
theorem stU_kK {J : mg_I} {d d1 dd : Nat → Int32} {c : Nat} (h : kK J d dd) : kK (stU J d1 c) d dd := ⟨fun j hj => (if_neg (by omega)).trans (h.1 j hj), h.2⟩
theorem c_keepStood {sc : List Value} {nm : Nat} {I : mg_I} {d0 : Nat → Int32} (hN : iR (d0 0) 9) : SP sc 3 198 [.ref 124] (mR I d0) nm (qZ (mR (stU I d0 (4 * fN d0)) d0) nm) := by
  refine SP.of (h := 2) (t := 198) (q := (yX12_keepStood, cX12_keepStood, 3, none, 12, 1392, mi_k198)) rfl (by decide) (show ¬ (3 : Nat) < 1 by decide) (fun d hd => ?_)
  show GG sc 12 false false mi_k198 d 0 [.ref 124, .null, .null] [] (mR I d0) nm (qZ (mR (stU I d0 (4 * fN d0)) d0) nm)
  generalize hn : fN d0 = n
  have hn8 : n ≤ 8 := by rw [← hn]; exact (fN_eq hN).2
  have H : ∀ (m g : Nat) {x2 : Value}, g + m = n → GG sc 12 false false mi_k198 d 2 [.ref 124, .int (nI g), x2] [] (mR (stU I d0 (4 * g)) d0) nm (qZ (mR (stU I d0 (4 * n)) d0) nm) := by
    intro m
    induction m with
    | zero =>
      intro g x2 hg
      refine g_iload_n (n := 3) rfl rfl ?_
      refine g_aload_n (n := 4) rfl rfl ?_
      refine g_getr (n := 7) (ci := 12) (j := 0) (b := 125) rfl (by decide +kernel) (by decide) (by decide) (by decide +kernel) ?_
      refine g_iconst (n := 8) (v := 0) rfl rfl ?_
      refine g_iald (n := 9) (0) rfl (by decide) rfl (by show _ < 286; omega) ?_
      try simp only [mR_125, mR_up, mR_w124, mR_r124, mR_w126, mR_r126, mR_w128, mR_r128, mR_w130, mR_r130, mR_w131, mR_r131, mR_w132, mR_r132, mR_w133, mR_r133, mR_w134, mR_r134, mR_w135, mR_r135]
      refine g_icge (n := 12) 49 rfl (by decide) (fun h1 => ?_) (fun h1 => ?_)
      ·
        refine g_vret (n := 50) rfl ?_
        rw [show g = n by omega]; exact ⟨rfl, rfl, rfl⟩
      ·
        exact absurd (fN_nle (fN_eq hN).1 (by omega) (by omega) h1) (by omega)
    | succ m ih =>
      intro g x2 hg
      have H2 : ∀ (m2 k : Nat), k + m2 = 4 → GG sc 12 false false mi_k198 d 14 [.ref 124, .int (nI g), .int (nI k)] [] (mR (stU I d0 (4 * g + k)) d0) nm (qZ (mR (stU I d0 (4 * n)) d0) nm) := by
        intro m2
        induction m2 with
        | zero =>
          intro k hk
          refine g_iload_n (n := 15) rfl rfl ?_
          refine g_iconst (n := 16) (v := 4) rfl rfl ?_
          refine g_icge (n := 19) 43 rfl (by decide) (fun h1 => ?_) (fun h1 => ?_)
          ·
            refine g_iinc1 (n := 46) rfl rfl (nI_inc _) ?_
            refine g_goto 2 rfl (by decide) ?_
            rw [show 4 * g + k = 4 * (g + 1) by omega]
            exact ih (g + 1) (by omega)
          ·
            exact absurd (fN_nle (n := 4) rfl (by omega) (by omega) h1) (by omega)
        | succ m2 ih2 =>
          intro k hk
          refine g_iload_n (n := 15) rfl rfl ?_
          refine g_iconst (n := 16) (v := 4) rfl rfl ?_
          refine g_icge (n := 19) 43 rfl (by decide) (fun h1 => ?_) (fun h1 => ?_)
          ·
            exact absurd (fN_le (n := 4) rfl (by omega) (by omega) h1) (by omega)
          ·
            refine g_aload_n (n := 20) rfl rfl ?_
            refine g_getr (n := 23) (ci := 12) (j := 14) (b := 130) rfl (by decide +kernel) (by decide) (by decide) (by decide +kernel) ?_
            refine g_iconst (n := 24) (v := 4) rfl rfl ?_
            refine g_iload_n (n := 25) rfl rfl ?_
            refine g_imulN (n := 26) (x := 4) (y := g) rfl ?_
            refine g_iload_n (n := 27) rfl rfl ?_
            refine g_iaddN (n := 28) (x := (4 * g)) (y := k) rfl ?_
            refine g_aload_n (n := 29) rfl rfl ?_
            refine g_iload_n (n := 30) rfl rfl ?_
            refine g_iconst (n := 31) (v := 5) rfl rfl ?_
            refine g_iload_n (n := 32) rfl rfl ?_
            refine g_iaddN (n := 33) (x := 5) (y := k) rfl ?_
            refine g_cv2 (n := 36) (t := 145) (ci := 12) rfl (by decide +kernel) (by decide +kernel) (by decide) (by decide) (by decide +kernel) (by rfl) (c_of (g := g) (w := 5 + k) (by omega) (by omega)) (by omega) (g_E ?_)
            try simp only [mR_125, mR_up, mR_w124, mR_r124, mR_w126, mR_r126, mR_w128, mR_r128, mR_w130, mR_r130, mR_w131, mR_r131, mR_w132, mR_r132, mR_w133, mR_r133, mR_w134, mR_r134, mR_w135, mR_r135]
            refine g_iast (n := 37) (4 * g + k) rfl (by decide) rfl (by show _ < 32; omega) ?_
            try simp only [mR_125, mR_up, mR_w124, mR_r124, mR_w126, mR_r126, mR_w128, mR_r128, mR_w130, mR_r130, mR_w131, mR_r131, mR_w132, mR_r132, mR_w133, mR_r133, mR_w134, mR_r134, mR_w135, mR_r135]
            rw [stU_s (sF_eq (by omega)).symm]
            refine g_iinc2 (n := 40) rfl rfl (nI_inc _) ?_
            refine g_goto 14 rfl (by decide) ?_
            exact ih2 (k + 1) (by omega)
      refine g_iload_n (n := 3) rfl rfl ?_
      refine g_aload_n (n := 4) rfl rfl ?_
      refine g_getr (n := 7) (ci := 12) (j := 0) (b := 125) rfl (by decide +kernel) (by decide) (by decide) (by decide +kernel) ?_
      refine g_iconst (n := 8) (v := 0) rfl rfl ?_
      refine g_iald (n := 9) (0) rfl (by decide) rfl (by show _ < 286; omega) ?_
      try simp only [mR_125, mR_up, mR_w124, mR_r124, mR_w126, mR_r126, mR_w128, mR_r128, mR_w130, mR_r130, mR_w131, mR_r131, mR_w132, mR_r132, mR_w133, mR_r133, mR_w134, mR_r134, mR_w135, mR_r135]
      refine g_icge (n := 12) 49 rfl (by decide) (fun h1 => ?_) (fun h1 => ?_)
      ·
        exact absurd (fN_le (fN_eq hN).1 (by omega) (by omega) h1) (by omega)
      ·
        refine g_iconst (n := 13) (v := 0) rfl rfl ?_
        refine g_istore_n2 (n := 14) rfl rfl ?_
        exact H2 4 0 (by omega)
  refine g_iconst (n := 1) (v := 0) rfl rfl ?_
  refine g_istore_n1 (n := 2) rfl rfl ?_
  have hh := H n 0 (x2 := .null) (by omega)
  rw [Nat.mul_zero, stU_0] at hh
  exact hh
def pSt (J : mg_I) (d : Nat → Int32) (c : Nat) : Prop := ∀ j, j < c → J 130 j = sF d j
theorem pSt_s {J : mg_I} {d : Nat → Int32} {c : Nat} : pSt J d (c + 1) ↔ pSt J d c ∧ J 130 c = sF d c := by
  constructor
  · intro h
    exact ⟨fun j hj => h j (by omega), h c (by omega)⟩
  · rintro ⟨h1, h2⟩ j hj
    by_cases e : j = c
    · subst e; exact h2
    · exact h1 j (by omega)
theorem c_asStood {sc : List Value} {nm : Nat} {I : mg_I} {d0 : Nat → Int32} (hN : iR (d0 0) 9) : SP sc 3 199 [.ref 124] (mR I d0) nm (qE (bP (pSt I d0 (4 * fN d0))) (mR I d0) nm) := by
  refine SP.of (h := 2) (t := 199) (q := (yX12_isAsItStood, cX12_isAsItStood, 4, (some .boolean), 12, 1396, mi_k199)) rfl (by decide) (show ¬ (4 : Nat) < 1 by decide) (fun d hd => ?_)
  show GG sc 12 false true mi_k199 d 0 [.ref 124, .null, .null, .null] [] (mR I d0) nm (qE (bP (pSt I d0 (4 * fN d0))) (mR I d0) nm)
  generalize hn : fN d0 = n
  have hn8 : n ≤ 8 := by rw [← hn]; exact (fN_eq hN).2
  have H : ∀ (m g : Nat) (b : Int32) {x3 : Value}, g + m = n → b = bP (pSt I d0 (4 * g)) → GG sc 12 false true mi_k199 d 4 [.ref 124, .int b, .int (nI g), x3] [] (mR I d0) nm (qE (bP (pSt I d0 (4 * n))) (mR I d0) nm) := by
    intro m
    induction m with
    | zero =>
      intro g b x3 hg hb
      refine g_iload_n (n := 5) rfl rfl ?_
      refine g_aload_n (n := 6) rfl rfl ?_
      refine g_getr (n := 9) (ci := 12) (j := 0) (b := 125) rfl (by decide +kernel) (by decide) (by decide) (by decide +kernel) ?_
      refine g_iconst (n := 10) (v := 0) rfl rfl ?_
      refine g_iald (n := 11) (0) rfl (by decide) rfl (by show _ < 286; omega) ?_
      try simp only [mR_125, mR_up, mR_w124, mR_r124, mR_w126, mR_r126, mR_w128, mR_r128, mR_w130, mR_r130, mR_w131, mR_r131, mR_w132, mR_r132, mR_w133, mR_r133, mR_w134, mR_r134, mR_w135, mR_r135]
      refine g_icge (n := 14) 64 rfl (by decide) (fun h1 => ?_) (fun h1 => ?_)
      ·
        refine g_iload_n (n := 65) rfl rfl ?_
        refine g_iret (n := 66) rfl (fun _ => by first | exact Or.inl rfl | exact Or.inr rfl | exact bI_01 | (rw [hb]; exact bP_01)) ?_
        rw [hb, show g = n by omega]; exact ⟨rfl, rfl, rfl⟩
      ·
        exact absurd (fN_nle (fN_eq hN).1 (by omega) (by omega) h1) (by omega)
    | succ m ih =>
      intro g b x3 hg hb
      have H2 : ∀ (m2 k : Nat) (b : Int32), k + m2 = 4 → b = bP (pSt I d0 (4 * g + k)) → GG sc 12 false true mi_k199 d 16 [.ref 124, .int b, .int (nI g), .int (nI k)] [] (mR I d0) nm (qE (bP (pSt I d0 (4 * n))) (mR I d0) nm) := by
        intro m2
        induction m2 with
        | zero =>
          intro k b hk hb
          refine g_iload_n (n := 17) rfl rfl ?_
          refine g_iconst (n := 18) (v := 4) rfl rfl ?_
          refine g_icge (n := 21) 58 rfl (by decide) (fun h1 => ?_) (fun h1 => ?_)
          ·
            refine g_iinc2 (n := 61) rfl rfl (nI_inc _) ?_
            refine g_goto 4 rfl (by decide) ?_
            exact ih (g + 1) b (by omega) (by rw [hb, show 4 * g + k = 4 * (g + 1) by omega])
          ·
            exact absurd (fN_nle (n := 4) rfl (by omega) (by omega) h1) (by omega)
        | succ m2 ih2 =>
          intro k b hk hb
          refine g_iload_n (n := 17) rfl rfl ?_
          refine g_iconst (n := 18) (v := 4) rfl rfl ?_
          refine g_icge (n := 21) 58 rfl (by decide) (fun h1 => ?_) (fun h1 => ?_)
          ·
            exact absurd (fN_le (n := 4) rfl (by omega) (by omega) h1) (by omega)
          ·
            refine g_iload_n (n := 22) rfl rfl ?_
            refine g_ifeq (n := 25) 50 rfl (by decide) (fun h2 => ?_) (fun h2 => ?_)
            ·
              refine g_iconst (n := 51) (v := 0) rfl rfl ?_
              refine g_istore_n1 (n := 52) rfl rfl ?_
              refine g_iinc3 (n := 55) rfl rfl (nI_inc _) ?_
              refine g_goto 16 rfl (by decide) ?_
              exact ih2 (k + 1) _ (by omega) (bP_f (fun q => bP_0 (hb.symm.trans h2) (pSt_s.mp q).1)).symm
            ·
              refine g_aload_n (n := 26) rfl rfl ?_
              refine g_getr (n := 29) (ci := 12) (j := 14) (b := 130) rfl (by decide +kernel) (by decide) (by decide) (by decide +kernel) ?_
              refine g_iconst (n := 30) (v := 4) rfl rfl ?_
              refine g_iload_n (n := 31) rfl rfl ?_
              refine g_imulN (n := 32) (x := 4) (y := g) rfl ?_
              refine g_iload_n (n := 33) rfl rfl ?_
              refine g_iaddN (n := 34) (x := (4 * g)) (y := k) rfl ?_
              refine g_iald (n := 35) (4 * g + k) rfl (by decide) rfl (by show _ < 32; omega) ?_
              try simp only [mR_125, mR_up, mR_w124, mR_r124, mR_w126, mR_r126, mR_w128, mR_r128, mR_w130, mR_r130, mR_w131, mR_r131, mR_w132, mR_r132, mR_w133, mR_r133, mR_w134, mR_r134, mR_w135, mR_r135]
              refine g_aload_n (n := 36) rfl rfl ?_
              refine g_iload_n (n := 37) rfl rfl ?_
              refine g_iconst (n := 38) (v := 5) rfl rfl ?_
              refine g_iload_n (n := 39) rfl rfl ?_
              refine g_iaddN (n := 40) (x := 5) (y := k) rfl ?_
              refine g_cv2 (n := 43) (t := 145) (ci := 12) rfl (by decide +kernel) (by decide +kernel) (by decide) (by decide) (by decide +kernel) (by rfl) (c_of (g := g) (w := 5 + k) (by omega) (by omega)) (by omega) (g_E ?_)
              try simp only [mR_125, mR_up, mR_w124, mR_r124, mR_w126, mR_r126, mR_w128, mR_r128, mR_w130, mR_r130, mR_w131, mR_r131, mR_w132, mR_r132, mR_w133, mR_r133, mR_w134, mR_r134, mR_w135, mR_r135]
              refine g_icne (n := 46) 50 rfl (by decide) (fun h3 => ?_) (fun h3 => ?_)
              ·
                refine g_iconst (n := 51) (v := 0) rfl rfl ?_
                refine g_istore_n1 (n := 52) rfl rfl ?_
                refine g_iinc3 (n := 55) rfl rfl (nI_inc _) ?_
                refine g_goto 16 rfl (by decide) ?_
                exact ih2 (k + 1) _ (by omega) (bP_f (fun q => h3 ((pSt_s.mp q).2.trans (sF_eq (by omega))))).symm
              ·
                refine g_iconst (n := 47) (v := 1) rfl rfl ?_
                refine g_goto 51 rfl (by decide) ?_
                refine g_istore_n1 (n := 52) rfl rfl ?_
                refine g_iinc3 (n := 55) rfl rfl (nI_inc _) ?_
                refine g_goto 16 rfl (by decide) ?_
                exact ih2 (k + 1) _ (by omega) (bP_t (pSt_s.mpr ⟨(bP_n (fun z => h2 (hb.trans z))), h3.trans (sF_eq (by omega)).symm⟩)).symm
      refine g_iload_n (n := 5) rfl rfl ?_
      refine g_aload_n (n := 6) rfl rfl ?_
      refine g_getr (n := 9) (ci := 12) (j := 0) (b := 125) rfl (by decide +kernel) (by decide) (by decide) (by decide +kernel) ?_
      refine g_iconst (n := 10) (v := 0) rfl rfl ?_
      refine g_iald (n := 11) (0) rfl (by decide) rfl (by show _ < 286; omega) ?_
      try simp only [mR_125, mR_up, mR_w124, mR_r124, mR_w126, mR_r126, mR_w128, mR_r128, mR_w130, mR_r130, mR_w131, mR_r131, mR_w132, mR_r132, mR_w133, mR_r133, mR_w134, mR_r134, mR_w135, mR_r135]
      refine g_icge (n := 14) 64 rfl (by decide) (fun h1 => ?_) (fun h1 => ?_)
      ·
        exact absurd (fN_le (fN_eq hN).1 (by omega) (by omega) h1) (by omega)
      ·
        refine g_iconst (n := 15) (v := 0) rfl rfl ?_
        refine g_istore_n3 (n := 16) rfl rfl ?_
        exact H2 4 0 b (by omega) (by rw [hb]; rfl)
  refine g_iconst (n := 1) (v := 1) rfl rfl ?_
  refine g_istore_n1 (n := 2) rfl rfl ?_
  refine g_iconst (n := 3) (v := 0) rfl rfl ?_
  refine g_istore_n2 (n := 4) rfl rfl ?_
  exact H n 0 _ (by omega) (bP_t (fun j hj => absurd hj (by omega))).symm
/-- all goers are as they were: where they are, WAIT, BACK -/
def pSame (d d' : Nat → Int32) : Prop := ∀ j, j < 4 * fN d → sF d j = sF d' j
noncomputable def fStk : Nat → Nat → (Nat → Int32) → Int32
  | 0, _, _ => -1
  | f + 1, n, d => @ite _ (pMay d (fN d) ∧ pSame d (fMin d 0)) (pD _) (nI n) (fStk f (n + 1) (fMin d 0))
theorem fStk_t {f n : Nat} {d : Nat → Int32} (h : pMay d (fN d) ∧ pSame d (fMin d 0)) : fStk (f + 1) n d = nI n := by rw [fStk]; exact if_pos h
theorem fStk_f {f n : Nat} {d : Nat → Int32} (h : ¬ (pMay d (fN d) ∧ pSame d (fMin d 0))) : fStk (f + 1) n d = fStk f (n + 1) (fMin d 0) := by rw [fStk]; exact if_neg h
noncomputable def oStuck (d : Nat → Int32) : rD := if 0 ≤ fStk 301 0 d then (0, fStk 301 0 d, d) else fE d 2
theorem c_stuckBy {sc : List Value} {nm : Nat} {I : mg_I} {d0 : Nat → Int32} (hw : gW d0) : SP sc 47 201 [.ref 124] (mR I d0) nm (qD I (oStuck d0) nm) := by
  refine SP.of (h := 46) (t := 201) (q := (yX12_stuckBy, cX12_stuckBy, 4, (some .int), 12, 1384, mi_k201)) rfl (by decide) (show ¬ (4 : Nat) < 1 by decide) (fun d hd => ?_)
  show GG sc 12 false false mi_k201 d 0 [.ref 124, .null, .null, .null] [] (mR I d0) nm (qD I (oStuck d0) nm)
  unfold oStuck
  refine g_aload_n (n := 1) rfl rfl ?_
  refine g_cv0 (n := 4) (t := 147) (ci := 12) rfl (by decide +kernel) (by decide +kernel) (by decide) (by decide) (by decide +kernel) (by rfl) c_keep (by omega) (g_Z ?_)
  try simp only [mR_125, mR_up, mR_w124, mR_r124, mR_w126, mR_r126, mR_w128, mR_r128, mR_w130, mR_r130, mR_w131, mR_r131, mR_w132, mR_r132, mR_w133, mR_r133, mR_w134, mR_r134, mR_w135, mR_r135]
  refine g_iconst (n := 5) (v := -1) rfl rfl ?_
  refine g_istore_n1 (n := 6) rfl rfl ?_
  refine g_iconst (n := 7) (v := 0) rfl rfl ?_
  refine g_istore_n2 (n := 8) rfl rfl ?_
  have HE : ∀ (k : Nat) (a : Int32) (d1 : Nat → Int32) (J : mg_I) {x3 : Value}, k ≤ 301 → (k ≤ 300 → 0 ≤ a) → mX I J → kK J d1 d0 → fStk 301 0 d0 = a → GG sc 12 false false mi_k201 d 8 [.ref 124, .int a, .int (nI k), x3] [] (mR J d1) nm (qD I (if 0 ≤ fStk 301 0 d0 then (0, fStk 301 0 d0, d0) else fE d0 2) nm) := by
    intro k a d1 J x3 hk ha hJ hk2 hf
    rw [hf]
    refine g_iload_n (n := 9) rfl rfl ?_
    refine g_sipush (n := 12) (v := 300) rfl rfl ?_
    refine g_icgt (n := 15) 56 rfl (by decide) (fun h1 => ?_) (fun h1 => ?_)
    ·
      refine g_aload_n (n := 57) rfl rfl ?_
      refine g_cv0 (n := 60) (t := 148) (ci := 12) rfl (by decide +kernel) (by decide +kernel) (by decide) (by decide) (by decide +kernel) (by rfl) (c_back hk2) (by omega) (g_Z ?_)
      refine g_iload_n (n := 61) rfl rfl ?_
      refine g_ifge (n := 64) 72 rfl (by decide) (fun h2 => ?_) (fun h2 => ?_)
      ·
        rw [if_pos h2]
        refine g_iload_n (n := 73) rfl rfl ?_
        refine g_iret (n := 74) rfl (fun h => nomatch h) ?_
        first | exact qD_v hJ | exact qD_e (by decide) hJ
      ·
        rw [if_neg h2]
        refine g_aload_n (n := 65) rfl rfl ?_
        refine g_iconst (n := 66) (v := 2) rfl rfl ?_
        refine g_cv1 (n := 69) (t := 140) (ci := 12) rfl (by decide +kernel) (by decide +kernel) (by decide) (by decide) (by decide +kernel) (by rfl) (c_finds (k := 2) (by omega)) (by omega) (g_E ?_)
        try simp only [mR_125, mR_up, mR_w124, mR_r124, mR_w126, mR_r126, mR_w128, mR_r128, mR_w130, mR_r130, mR_w131, mR_r131, mR_w132, mR_r132, mR_w133, mR_r133, mR_w134, mR_r134, mR_w135, mR_r135]
        refine g_goto 73 rfl (by decide) ?_
        refine g_iret (n := 74) rfl (fun h => nomatch h) ?_
        first | exact qD_v hJ | exact qD_e (by decide) hJ
    ·
      refine g_iload_n (n := 16) rfl rfl ?_
      refine g_ifge (n := 19) 56 rfl (by decide) (fun h3 => ?_) (fun h3 => ?_)
      ·
        refine g_aload_n (n := 57) rfl rfl ?_
        refine g_cv0 (n := 60) (t := 148) (ci := 12) rfl (by decide +kernel) (by decide +kernel) (by decide) (by decide) (by decide +kernel) (by rfl) (c_back hk2) (by omega) (g_Z ?_)
        refine g_iload_n (n := 61) rfl rfl ?_
        refine g_ifge (n := 64) 72 rfl (by decide) (fun h4 => ?_) (fun h4 => ?_)
        ·
          rw [if_pos h4]
          refine g_iload_n (n := 73) rfl rfl ?_
          refine g_iret (n := 74) rfl (fun h => nomatch h) ?_
          first | exact qD_v hJ | exact qD_e (by decide) hJ
        ·
          rw [if_neg h4]
          refine g_aload_n (n := 65) rfl rfl ?_
          refine g_iconst (n := 66) (v := 2) rfl rfl ?_
          refine g_cv1 (n := 69) (t := 140) (ci := 12) rfl (by decide +kernel) (by decide +kernel) (by decide) (by decide) (by decide +kernel) (by rfl) (c_finds (k := 2) (by omega)) (by omega) (g_E ?_)
          try simp only [mR_125, mR_up, mR_w124, mR_r124, mR_w126, mR_r126, mR_w128, mR_r128, mR_w130, mR_r130, mR_w131, mR_r131, mR_w132, mR_r132, mR_w133, mR_r133, mR_w134, mR_r134, mR_w135, mR_r135]
          refine g_goto 73 rfl (by decide) ?_
          refine g_iret (n := 74) rfl (fun h => nomatch h) ?_
          first | exact qD_v hJ | exact qD_e (by decide) hJ
      ·
        exact absurd (ha ((nI_leI (a := k) (b := 300) (by omega) (by omega)).mp (Int32.not_lt.mp h1))) h3
  have H : ∀ (m k : Nat) (d1 : Nat → Int32) (J : mg_I) {x3 : Value}, k + m = 301 → gW d1 → mX I J → kK J d1 d0 → fStk m k d1 = fStk 301 0 d0 → GG sc 12 false false mi_k201 d 8 [.ref 124, .int (-1), .int (nI k), x3] [] (mR J d1) nm (qD I (if 0 ≤ fStk 301 0 d0 then (0, fStk 301 0 d0, d0) else fE d0 2) nm) := by
    intro m
    induction m with
    | zero =>
      intro k d1 J x3 hk hw hJ hk2 hf
      exact HE k (-1) d1 J (by omega) (by omega) hJ hk2 hf.symm
    | succ m ih =>
      intro k d1 J x3 hk hw hJ hk2 hf
      have hN := hw.1.1
      refine g_iload_n (n := 9) rfl rfl ?_
      refine g_sipush (n := 12) (v := 300) rfl rfl ?_
      refine g_icgt (n := 15) 56 rfl (by decide) (fun h1 => ?_) (fun h1 => ?_)
      ·
        exact absurd ((nI_ltI (a := 300) (b := k) (by omega) (by omega)).mp h1) (by omega)
      ·
        refine g_iload_n (n := 16) rfl rfl ?_
        refine g_ifge (n := 19) 56 rfl (by decide) (fun h2 => ?_) (fun h2 => ?_)
        ·
          exact absurd h2 (by decide)
        ·
          refine g_aload_n (n := 20) rfl rfl ?_
          refine g_cv0 (n := 23) (t := 200) (ci := 12) rfl (by decide +kernel) (by decide +kernel) (by decide) (by decide) (by decide +kernel) (by rfl) (c_may hN) (by omega) (g_E ?_)
          refine g_istore_n3 (n := 24) rfl rfl ?_
          refine g_aload_n (n := 25) rfl rfl ?_
          refine g_cv0 (n := 28) (t := 198) (ci := 12) rfl (by decide +kernel) (by decide +kernel) (by decide) (by decide) (by decide +kernel) (by rfl) (c_keepStood hN) (by omega) (g_Z ?_)
          refine g_aload_n (n := 29) rfl rfl ?_
          refine g_iconst (n := 30) (v := 0) rfl rfl ?_
          refine g_cv1 (n := 33) (t := 189) (ci := 12) rfl (by decide +kernel) (by decide +kernel) (by decide) (by decide) (by decide +kernel) (by rfl) (c_aMinute (d0 := d1) (fog := 0) hw) (by omega) (g_N fun I1 he => ?_)
          obtain ⟨J1, rfl, hJ1⟩ := mR_mE he
          clear he
          have hmx : mX I J1 := (hJ.trans stU_mX).trans hJ1.x
          have hkk : kK J1 (fMin d1 0) d0 := kK_min (stU_kK hk2) hw hJ1
          have hst : pSt J1 (fMin d1 0) (4 * fN (fMin d1 0)) ↔ pSame d1 (fMin d1 0) := by
            rw [fMin_N]
            have e : ∀ j, j < 4 * fN d1 → J1 130 j = sF d1 j := fun j hj => (hJ1 130 j (by omega)).trans (if_pos ⟨rfl, hj⟩)
            exact ⟨fun h j hj => (e j hj).symm.trans (h j hj), fun h j hj => (e j hj).trans (h j hj)⟩
          refine g_iload_n (n := 34) rfl rfl ?_
          refine g_ifeq (n := 37) 48 rfl (by decide) (fun h3 => ?_) (fun h3 => ?_)
          ·
            refine g_iconst (n := 49) (v := -1) rfl rfl ?_
            refine g_istore_n1 (n := 50) rfl rfl ?_
            refine g_iinc2 (n := 53) rfl rfl (nI_inc _) ?_
            refine g_goto 8 rfl (by decide) ?_
            exact ih (k + 1) _ J1 (by omega) (gW_min hw) hmx hkk ((fStk_f (fun q => bP_0 h3 q.1)).symm.trans hf)
          ·
            refine g_aload_n (n := 38) rfl rfl ?_
            refine g_cv0 (n := 41) (t := 199) (ci := 12) rfl (by decide +kernel) (by decide +kernel) (by decide) (by decide) (by decide +kernel) (by rfl) (c_asStood (gW_min hw).1.1) (by omega) (g_E ?_)
            refine g_ifeq (n := 44) 48 rfl (by decide) (fun h4 => ?_) (fun h4 => ?_)
            ·
              refine g_iconst (n := 49) (v := -1) rfl rfl ?_
              refine g_istore_n1 (n := 50) rfl rfl ?_
              refine g_iinc2 (n := 53) rfl rfl (nI_inc _) ?_
              refine g_goto 8 rfl (by decide) ?_
              exact ih (k + 1) _ J1 (by omega) (gW_min hw) hmx hkk ((fStk_f (fun q => bP_0 h4 (hst.mpr q.2))).symm.trans hf)
            ·
              refine g_iload_n (n := 45) rfl rfl ?_
              refine g_goto 49 rfl (by decide) ?_
              refine g_istore_n1 (n := 50) rfl rfl ?_
              refine g_iinc2 (n := 53) rfl rfl (nI_inc _) ?_
              refine g_goto 8 rfl (by decide) ?_
              exact HE (k + 1) (nI k) _ J1 (by omega) (fun _ => nI_pos' (by omega)) hmx hkk (hf.symm.trans (fStk_t ⟨(bP_n h3), hst.mp (bP_n h4)⟩))
  exact H 301 0 d0 (kA I d0) (by omega) hw kA_mF.x kK_A rfl
