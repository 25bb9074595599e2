/-! the class: cliffs, goers, kinds -/
def isCliff (B : Nat) : Prop := B = 14 ∨ B = 44 ∨ B = 74
theorem c14 : isCliff 14 := Or.inl rfl
theorem c44 : isCliff 44 := Or.inr (Or.inl rfl)
theorem c74 : isCliff 74 := Or.inr (Or.inr rfl)
theorem cf_30 {B : Nat} (h : isCliff B) : B + 30 ≤ 104 ∧ 14 ≤ B := by rcases h with rfl | rfl | rfl <;> decide
theorem cf_hd {B : Nat} (h : isCliff B) : 5 ≤ B ∧ mf_hd B = 1 := by rcases h with rfl | rfl | rfl <;> decide +kernel
theorem cf_136 {B : Nat} (h : isCliff B) : B < 136 := by rcases h with rfl | rfl | rfl <;> decide +kernel
theorem cf_sz {B : Nat} (h : isCliff B) : mf_sz B = 10 := by rcases h with rfl | rfl | rfl <;> decide +kernel
theorem cf_lt {B j : Nat} (h : isCliff B) (hj : j < 10) : B < 136 ∧ j < mf_sz B := ⟨cf_136 h, by rw [cf_sz h]; exact hj⟩
theorem cf_r0 {B : Nat} (h : isCliff B) : mf_rf B 0 = some (B + 1) := by rcases h with rfl | rfl | rfl <;> decide +kernel
theorem cf_r1 {B : Nat} (h : isCliff B) : mf_rf B 1 = some (B + 2) := by rcases h with rfl | rfl | rfl <;> decide +kernel
theorem cf_r7 {B : Nat} (h : isCliff B) : mf_rf B 7 = some (B + 11) := by rcases h with rfl | rfl | rfl <;> decide +kernel
theorem cf_r8 {B : Nat} (h : isCliff B) : mf_rf B 8 = some (B + 13) := by rcases h with rfl | rfl | rfl <;> decide +kernel
theorem cf_r9 {B : Nat} (h : isCliff B) : mf_rf B 9 = some (B + 15) := by rcases h with rfl | rfl | rfl <;> decide +kernel
theorem cf_1h {B : Nat} (h : isCliff B) : 5 ≤ B + 1 ∧ mf_hd (B + 1) = 20 := by rcases h with rfl | rfl | rfl <;> decide +kernel
theorem cf_1s {B : Nat} (h : isCliff B) : mf_sz (B + 1) = 24 := by rcases h with rfl | rfl | rfl <;> decide +kernel
theorem cf_2a {B : Nat} (h : isCliff B) : 5 ≤ B + 2 ∧ B + 2 < 136 := by rcases h with rfl | rfl | rfl <;> decide +kernel
theorem cf_2h {B : Nat} (h : isCliff B) : 20 < mf_hd (B + 2) ∧ mf_hd (B + 2) < 25 := by rcases h with rfl | rfl | rfl <;> decide +kernel
theorem cf_2x {B x : Nat} (h : isCliff B) (hx : x < 8) : x < mf_sz (B + 2) ∧ mf_sz (B + 2) ≤ 4000 := by
  rcases h with rfl | rfl | rfl
  · exact (show ∀ x, x < 8 → (x < mf_sz (14 + 2) ∧ mf_sz (14 + 2) ≤ 4000) by decide +kernel) x hx
  · exact (show ∀ x, x < 8 → (x < mf_sz (44 + 2) ∧ mf_sz (44 + 2) ≤ 4000) by decide +kernel) x hx
  · exact (show ∀ x, x < 8 → (x < mf_sz (74 + 2) ∧ mf_sz (74 + 2) ≤ 4000) by decide +kernel) x hx
theorem cf_2r {B x : Nat} (h : isCliff B) (hx : x < 8) : mf_rf (B + 2) x = some (B + 3 + x) := by
  rcases h with rfl | rfl | rfl
  · exact (show ∀ x, x < 8 → (mf_rf (14 + 2) x = some (14 + 3 + x)) by decide +kernel) x hx
  · exact (show ∀ x, x < 8 → (mf_rf (44 + 2) x = some (44 + 3 + x)) by decide +kernel) x hx
  · exact (show ∀ x, x < 8 → (mf_rf (74 + 2) x = some (74 + 3 + x)) by decide +kernel) x hx
theorem cf_gh {B x : Nat} (h : isCliff B) (hx : x < 8) : 5 ≤ B + 3 + x ∧ mf_hd (B + 3 + x) = 4 := by
  rcases h with rfl | rfl | rfl
  · exact (show ∀ x, x < 8 → (5 ≤ 14 + 3 + x ∧ mf_hd (14 + 3 + x) = 4) by decide +kernel) x hx
  · exact (show ∀ x, x < 8 → (5 ≤ 44 + 3 + x ∧ mf_hd (44 + 3 + x) = 4) by decide +kernel) x hx
  · exact (show ∀ x, x < 8 → (5 ≤ 74 + 3 + x ∧ mf_hd (74 + 3 + x) = 4) by decide +kernel) x hx
theorem cf_g1 {B x : Nat} (h : isCliff B) (hx : x < 8) : B + 3 + x < 136 := by
  rcases h with rfl | rfl | rfl
  · exact (show ∀ x, x < 8 → (14 + 3 + x < 136) by decide +kernel) x hx
  · exact (show ∀ x, x < 8 → (44 + 3 + x < 136) by decide +kernel) x hx
  · exact (show ∀ x, x < 8 → (74 + 3 + x < 136) by decide +kernel) x hx
theorem cf_15a {B : Nat} (h : isCliff B) : 5 ≤ B + 15 ∧ B + 15 < 136 := by rcases h with rfl | rfl | rfl <;> decide +kernel
theorem cf_15h {B : Nat} (h : isCliff B) : 20 < mf_hd (B + 15) ∧ mf_hd (B + 15) < 25 := by rcases h with rfl | rfl | rfl <;> decide +kernel
theorem cf_15x {B x : Nat} (h : isCliff B) (hx : x < 2) : x < mf_sz (B + 15) ∧ mf_sz (B + 15) ≤ 4000 := by
  rcases h with rfl | rfl | rfl
  · exact (show ∀ x, x < 2 → (x < mf_sz (14 + 15) ∧ mf_sz (14 + 15) ≤ 4000) by decide +kernel) x hx
  · exact (show ∀ x, x < 2 → (x < mf_sz (44 + 15) ∧ mf_sz (44 + 15) ≤ 4000) by decide +kernel) x hx
  · exact (show ∀ x, x < 2 → (x < mf_sz (74 + 15) ∧ mf_sz (74 + 15) ≤ 4000) by decide +kernel) x hx
theorem cf_15r {B x : Nat} (h : isCliff B) (hx : x < 2) : mf_rf (B + 15) x = some (B + 16 + 7 * x) := by
  rcases h with rfl | rfl | rfl
  · exact (show ∀ x, x < 2 → (mf_rf (14 + 15) x = some (14 + 16 + 7 * x)) by decide +kernel) x hx
  · exact (show ∀ x, x < 2 → (mf_rf (44 + 15) x = some (44 + 16 + 7 * x)) by decide +kernel) x hx
  · exact (show ∀ x, x < 2 → (mf_rf (74 + 15) x = some (74 + 16 + 7 * x)) by decide +kernel) x hx
theorem cf_t0 {B : Nat} (h : isCliff B) : 5 ≤ B + 11 ∧ B + 11 < 136 ∧ mf_hd (B + 11) = 6 ∧ mf_sz (B + 11) = 2 ∧ mf_rf (B + 11) 0 = some (B + 11 + 1) ∧ mf_hd (B + 11 + 1) = 20 ∧ mf_sz (B + 11 + 1) = 50 ∧ 50 ≤ 50 := by rcases h with rfl | rfl | rfl <;> decide +kernel
theorem cf_w0 {B : Nat} (h : isCliff B) : 5 ≤ B + 13 ∧ B + 13 < 136 ∧ mf_hd (B + 13) = 6 ∧ mf_sz (B + 13) = 2 ∧ mf_rf (B + 13) 0 = some (B + 13 + 1) ∧ mf_hd (B + 13 + 1) = 20 ∧ mf_sz (B + 13 + 1) = 20 ∧ 20 ≤ 50 := by rcases h with rfl | rfl | rfl <;> decide +kernel
theorem cf_t {B : Nat} (h : isCliff B) : isRow (B + 11) 50 := cf_t0 h
theorem cf_w {B : Nat} (h : isCliff B) : isRow (B + 13) 20 := cf_w0 h
theorem cf_x {B u : Nat} (h : isCliff B) (hu : u < 2) : isText (B + 16 + 7 * u) := by
  unfold isText
  rcases h with rfl | rfl | rfl <;> omega
def isG (G : Nat) : Prop := 5 ≤ G ∧ G < 136 ∧ mf_hd G = 4
theorem gr_hd {G : Nat} (h : isG G) : 5 ≤ G ∧ mf_hd G = 4 := ⟨h.1, h.2.2⟩
theorem gr_136 {G : Nat} (h : isG G) : G < 136 := h.2.1
theorem cf_G {B x : Nat} (h : isCliff B) (hx : x < 8) : isG (B + 3 + x) := ⟨(cf_gh h hx).1, cf_g1 h hx, (cf_gh h hx).2⟩
def lvM (I : mg_I) (G : Nat) (v : Int32) : mg_I := mf_up (mf_up (mf_up (mf_up (mf_up I G 6 v) G 7 (-1)) G 8 0) G 9 0) G 11 0
def hoM (I : mg_I) (G : Nat) : mg_I := mf_up (lvM I G 0) G 10 0
def enM (I : mg_I) (G : Nat) : mg_I := mf_up (mf_up (mf_up (mf_up I G 6 1) G 7 (I G 3)) G 8 0) G 9 0
def wy (I : mg_I) (G : Nat) : Int32 := if I G 3 < I G 4 then 1 else -1
theorem c_leave {sc : List Value} {nm : Nat} {I : mg_I} {G : Nat} {x : Int32} (hG : isG G) : SP sc 1 39 [.ref G, .int x] I nm (qZ (lvM I G x) nm) := by
  refine SP.of (h := 0) (t := 39) (q := (yX4_leave, cX4_leave, 2, none, 4, 524, mi_k39)) rfl (by decide) (show ¬ (2 : Nat) < 2 by decide) (fun d hd => ?_)
  show GG sc 4 false false mi_k39 d 0 [.ref G, .int x] [] I nm (qZ (lvM I G x) nm)
  refine g_aload_n (n := 1) rfl rfl ?_
  refine g_iload_n (n := 2) rfl rfl ?_
  refine g_puti (n := 5) (ci := 4) (j := 6) rfl (by decide +kernel) rfl (by decide) (gr_hd hG) (by decide +kernel) rfl ?_
  refine g_aload_n (n := 6) rfl rfl ?_
  refine g_iconst (n := 7) (v := -1) rfl rfl ?_
  refine g_puti (n := 10) (ci := 4) (j := 7) rfl (by decide +kernel) rfl (by decide) (gr_hd hG) (by decide +kernel) rfl ?_
  refine g_aload_n (n := 11) rfl rfl ?_
  refine g_iconst (n := 12) (v := 0) rfl rfl ?_
  refine g_puti (n := 15) (ci := 4) (j := 8) rfl (by decide +kernel) rfl (by decide) (gr_hd hG) (by decide +kernel) rfl ?_
  refine g_aload_n (n := 16) rfl rfl ?_
  refine g_iconst (n := 17) (v := 0) rfl rfl ?_
  refine g_puti (n := 20) (ci := 4) (j := 9) rfl (by decide +kernel) rfl (by decide) (gr_hd hG) (by decide +kernel) (by first | rfl | exact bI_fit) ?_
  refine g_aload_n (n := 21) rfl rfl ?_
  refine g_iconst (n := 22) (v := 0) rfl rfl ?_
  refine g_puti (n := 25) (ci := 4) (j := 11) rfl (by decide +kernel) rfl (by decide) (gr_hd hG) (by decide +kernel) (by first | rfl | exact bI_fit) ?_
  refine g_vret (n := 26) rfl ?_
  exact ⟨rfl, rfl, rfl⟩
theorem c_sendH {sc : List Value} {nm : Nat} {I : mg_I} {G : Nat} (hG : isG G) : SP sc 2 38 [.ref G] I nm (qZ (hoM I G) nm) := by
  refine SP.of (h := 1) (t := 38) (q := (yX4_sendHome, cX4_sendHome, 1, none, 4, 520, mi_k38)) rfl (by decide) (show ¬ (1 : Nat) < 1 by decide) (fun d hd => ?_)
  show GG sc 4 false false mi_k38 d 0 [.ref G] [] I nm (qZ (hoM I G) nm)
  refine g_aload_n (n := 1) rfl rfl ?_
  refine g_iconst (n := 2) (v := 0) rfl rfl ?_
  refine g_cv1 (n := 5) (t := 39) (ci := 4) rfl (by decide +kernel) (by decide +kernel) (gr_hd hG) (gr_136 hG) (by decide +kernel) (by rfl) (c_leave hG) (by omega) (g_Z ?_)
  refine g_aload_n (n := 6) rfl rfl ?_
  refine g_iconst (n := 7) (v := 0) rfl rfl ?_
  refine g_puti (n := 10) (ci := 4) (j := 10) rfl (by decide +kernel) rfl (by decide) (gr_hd hG) (by decide +kernel) rfl ?_
  refine g_vret (n := 11) rfl ?_
  exact ⟨rfl, rfl, rfl⟩
theorem c_enter {sc : List Value} {nm : Nat} {I : mg_I} {G : Nat} (hG : isG G) : SP sc 1 40 [.ref G] I nm (qZ (enM I G) nm) := by
  refine SP.of (h := 0) (t := 40) (q := (yX4_enter, cX4_enter, 1, none, 4, 799, mi_k40)) rfl (by decide) (show ¬ (1 : Nat) < 1 by decide) (fun d hd => ?_)
  show GG sc 4 false false mi_k40 d 0 [.ref G] [] I nm (qZ (enM I G) nm)
  refine g_aload_n (n := 1) rfl rfl ?_
  refine g_iconst (n := 2) (v := 1) rfl rfl ?_
  refine g_puti (n := 5) (ci := 4) (j := 6) rfl (by decide +kernel) rfl (by decide) (gr_hd hG) (by decide +kernel) rfl ?_
  refine g_aload_n (n := 6) rfl rfl ?_
  refine g_aload_n (n := 7) rfl rfl ?_
  refine g_getv (n := 10) (ci := 4) (j := 3) (v := I G 3) (if_neg (by omega)) rfl (by decide +kernel) rfl (by decide) (gr_hd hG) ?_
  refine g_puti (n := 13) (ci := 4) (j := 7) rfl (by decide +kernel) rfl (by decide) (gr_hd hG) (by decide +kernel) rfl ?_
  refine g_aload_n (n := 14) rfl rfl ?_
  refine g_iconst (n := 15) (v := 0) rfl rfl ?_
  refine g_puti (n := 18) (ci := 4) (j := 8) rfl (by decide +kernel) rfl (by decide) (gr_hd hG) (by decide +kernel) rfl ?_
  refine g_aload_n (n := 19) rfl rfl ?_
  refine g_iconst (n := 20) (v := 0) rfl rfl ?_
  refine g_puti (n := 23) (ci := 4) (j := 9) rfl (by decide +kernel) rfl (by decide) (gr_hd hG) (by decide +kernel) (by first | rfl | exact bI_fit) ?_
  refine g_vret (n := 24) rfl ?_
  exact ⟨rfl, rfl, rfl⟩
theorem c_way {sc : List Value} {nm : Nat} {I : mg_I} {G : Nat} (hG : isG G) : SP sc 1 41 [.ref G] I nm (qE (wy I G) I nm) := by
  refine SP.of (h := 0) (t := 41) (q := (yX4_way, cX4_way, 1, (some .int), 4, 768, mi_k41)) rfl (by decide) (show ¬ (1 : Nat) < 1 by decide) (fun d hd => ?_)
  show GG sc 4 false false mi_k41 d 0 [.ref G] [] I nm (qE (wy I G) I nm)
  refine g_aload_n (n := 1) rfl rfl ?_
  refine g_geti (n := 4) (ci := 4) (j := 4) rfl (by decide +kernel) rfl (by decide) (gr_hd hG) ?_
  refine g_aload_n (n := 5) rfl rfl ?_
  refine g_geti (n := 8) (ci := 4) (j := 3) rfl (by decide +kernel) rfl (by decide) (gr_hd hG) ?_
  refine g_icle (n := 11) 15 rfl (by decide) (fun h1 => ?_) (fun h1 => ?_)
  ·
    refine g_iconst (n := 16) (v := -1) rfl rfl ?_
    refine g_iret (n := 17) rfl (fun h => nomatch h) ?_
    exact ⟨congrArg (fun z => some (Value.int z)) (by unfold wy; first | exact (if_pos (Int32.not_le.mp (by assumption))).symm | exact (if_neg (Int32.not_lt.mpr (by assumption))).symm), rfl, rfl⟩
  ·
    refine g_iconst (n := 12) (v := 1) rfl rfl ?_
    refine g_goto 16 rfl (by decide) ?_
    refine g_iret (n := 17) rfl (fun h => nomatch h) ?_
    exact ⟨congrArg (fun z => some (Value.int z)) (by unfold wy; first | exact (if_pos (Int32.not_le.mp (by assumption))).symm | exact (if_neg (Int32.not_lt.mpr (by assumption))).symm), rfl, rfl⟩
theorem c_comesA {sc : List Value} {nm : Nat} {I : mg_I} {G H : Nat} (hG : isG G) (hH : isG H) : SP sc 2 42 [.ref G, .ref H] I nm (qE (bI (I G 6 = 1 ∧ I G 9 = 0 ∧ ¬ wy I G = wy I H)) I nm) := by
  refine SP.of (h := 1) (t := 42) (q := (yX4_comesAgainst, cX4_comesAgainst, 2, (some .boolean), 4, 772, mi_k42)) rfl (by decide) (show ¬ (2 : Nat) < 2 by decide) (fun d hd => ?_)
  show GG sc 4 false true mi_k42 d 0 [.ref G, .ref H] [] I nm (qE (bI (I G 6 = 1 ∧ I G 9 = 0 ∧ ¬ wy I G = wy I H)) I nm)
  refine g_aload_n (n := 1) rfl rfl ?_
  refine g_geti (n := 4) (ci := 4) (j := 6) rfl (by decide +kernel) rfl (by decide) (gr_hd hG) ?_
  refine g_iconst (n := 5) (v := 1) rfl rfl ?_
  refine g_icne (n := 8) 30 rfl (by decide) (fun h1 => ?_) (fun h1 => ?_)
  ·
    refine g_iconst (n := 31) (v := 0) rfl rfl ?_
    refine g_iret (n := 32) rfl (fun _ => by first | exact Or.inl rfl | exact Or.inr rfl | exact bI_01 | (rw [hb]; exact bP_01)) ?_
    exact ⟨congrArg (fun z => some (Value.int z)) (by first | exact (bI_t ⟨by assumption, by assumption, by assumption⟩).symm | exact (bI_f (fun q => by first | exact absurd q.1 (by assumption) | exact absurd q.2.1 (by assumption) | exact absurd (by assumption) q.2.2)).symm), rfl, rfl⟩
  ·
    refine g_aload_n (n := 9) rfl rfl ?_
    refine g_geti (n := 12) (ci := 4) (j := 9) rfl (by decide +kernel) rfl (by decide) (gr_hd hG) ?_
    refine g_ifne (n := 15) 30 rfl (by decide) (fun h2 => ?_) (fun h2 => ?_)
    ·
      refine g_iconst (n := 31) (v := 0) rfl rfl ?_
      refine g_iret (n := 32) rfl (fun _ => by first | exact Or.inl rfl | exact Or.inr rfl | exact bI_01 | (rw [hb]; exact bP_01)) ?_
      exact ⟨congrArg (fun z => some (Value.int z)) (by first | exact (bI_t ⟨by assumption, by assumption, by assumption⟩).symm | exact (bI_f (fun q => by first | exact absurd q.1 (by assumption) | exact absurd q.2.1 (by assumption) | exact absurd (by assumption) q.2.2)).symm), rfl, rfl⟩
    ·
      refine g_aload_n (n := 16) rfl rfl ?_
      refine g_cv0 (n := 19) (t := 41) (ci := 4) rfl (by decide +kernel) (by decide +kernel) (gr_hd hG) (gr_136 hG) (by decide +kernel) (by rfl) (c_way hG) (by omega) (g_E ?_)
      refine g_aload_n (n := 20) rfl rfl ?_
      refine g_cv0 (n := 23) (t := 41) (ci := 4) rfl (by decide +kernel) (by decide +kernel) (gr_hd hH) (gr_136 hH) (by decide +kernel) (by rfl) (c_way hH) (by omega) (g_E ?_)
      refine g_iceq (n := 26) 30 rfl (by decide) (fun h3 => ?_) (fun h3 => ?_)
      ·
        refine g_iconst (n := 31) (v := 0) rfl rfl ?_
        refine g_iret (n := 32) rfl (fun _ => by first | exact Or.inl rfl | exact Or.inr rfl | exact bI_01 | (rw [hb]; exact bP_01)) ?_
        exact ⟨congrArg (fun z => some (Value.int z)) (by first | exact (bI_t ⟨by assumption, by assumption, by assumption⟩).symm | exact (bI_f (fun q => by first | exact absurd q.1 (by assumption) | exact absurd q.2.1 (by assumption) | exact absurd (by assumption) q.2.2)).symm), rfl, rfl⟩
      ·
        refine g_iconst (n := 27) (v := 1) rfl rfl ?_
        refine g_goto 31 rfl (by decide) ?_
        refine g_iret (n := 32) rfl (fun _ => by first | exact Or.inl rfl | exact Or.inr rfl | exact bI_01 | (rw [hb]; exact bP_01)) ?_
        exact ⟨congrArg (fun z => some (Value.int z)) (by first | exact (bI_t ⟨by assumption, by assumption, by assumption⟩).symm | exact (bI_f (fun q => by first | exact absurd q.1 (by assumption) | exact absurd q.2.1 (by assumption) | exact absurd (by assumption) q.2.2)).symm), rfl, rfl⟩
def gcM (I : mg_I) (G H c : Nat) : mg_I := fun a j => if a = G ∧ 1 ≤ j ∧ j < 1 + c then I H j else I a j
theorem gcM_s {I : mg_I} {G H c : Nat} {x : Int32} (h : x = I H (1 + c)) : mf_up (gcM I G H c) G (1 + c) x = gcM I G H (c + 1) := by
  funext a j
  unfold mf_up gcM
  by_cases h1 : a = G ∧ j = 1 + c
  · rw [if_pos h1, if_pos (by omega), h1.2, h]
  · rw [if_neg h1]
    by_cases h2 : a = G ∧ 1 ≤ j ∧ j < 1 + c
    · rw [if_pos h2, if_pos (by omega)]
    · rw [if_neg h2, if_neg (c := a = G ∧ 1 ≤ j ∧ j < 1 + (c + 1)) (by omega)]
theorem gcM_0 {I : mg_I} {G H : Nat} : I = gcM I G H 0 := by
  funext a j
  unfold gcM
  exact (if_neg (by omega)).symm
theorem gcM_H {I : mg_I} {G H c j : Nat} (h : H ≠ G) : gcM I G H c H j = I H j := if_neg (fun q => h q.1)
theorem c_gcopy {sc : List Value} {nm : Nat} {I : mg_I} {G H : Nat} (hG : isG G) (hH : isG H) (hGH : H ≠ G) (hz9 : I H 9 = 0 ∨ I H 9 = 1) (hz11 : I H 11 = 0 ∨ I H 11 = 1) (hz14 : I H 14 = 0 ∨ I H 14 = 1) (hz15 : I H 15 = 0 ∨ I H 15 = 1) : SP sc 1 44 [.ref G, .ref H] I nm (qZ (gcM I G H 15) nm) := by
  refine SP.of (h := 0) (t := 44) (q := (yX4_copyFrom, cX4_copyFrom, 2, none, 4, 825, mi_k44)) rfl (by decide) (show ¬ (2 : Nat) < 2 by decide) (fun d hd => ?_)
  show GG sc 4 false false mi_k44 d 0 [.ref G, .ref H] [] I nm (qZ (gcM I G H 15) nm)
  have e0 := gcM_0 (I := I) (G := G) (H := H)
  show GG _ _ _ _ _ _ _ _ _ _ _ _
  suffices hh : GG sc 4 false false mi_k44 d 0 [.ref G, .ref H] [] (gcM I G H 0) nm (qZ (gcM I G H 15) nm) by
    rw [← e0] at hh; exact hh
  refine g_aload_n (n := 1) rfl rfl ?_
  refine g_aload_n (n := 2) rfl rfl ?_
  refine g_getv (n := 5) (ci := 4) (j := 1) (v := I H 1) (gcM_H hGH) rfl (by decide +kernel) rfl (by decide) (gr_hd hH) ?_
  refine g_puti (n := 8) (ci := 4) (j := 1) rfl (by decide +kernel) rfl (by decide) (gr_hd hG) (by decide +kernel) rfl ?_
  rw [gcM_s (c := 0) rfl]
  refine g_aload_n (n := 9) rfl rfl ?_
  refine g_aload_n (n := 10) rfl rfl ?_
  refine g_getv (n := 13) (ci := 4) (j := 2) (v := I H 2) (gcM_H hGH) rfl (by decide +kernel) rfl (by decide) (gr_hd hH) ?_
  refine g_puti (n := 16) (ci := 4) (j := 2) rfl (by decide +kernel) rfl (by decide) (gr_hd hG) (by decide +kernel) rfl ?_
  rw [gcM_s (c := 1) rfl]
  refine g_aload_n (n := 17) rfl rfl ?_
  refine g_aload_n (n := 18) rfl rfl ?_
  refine g_getv (n := 21) (ci := 4) (j := 3) (v := I H 3) (gcM_H hGH) rfl (by decide +kernel) rfl (by decide) (gr_hd hH) ?_
  refine g_puti (n := 24) (ci := 4) (j := 3) rfl (by decide +kernel) rfl (by decide) (gr_hd hG) (by decide +kernel) rfl ?_
  rw [gcM_s (c := 2) rfl]
  refine g_aload_n (n := 25) rfl rfl ?_
  refine g_aload_n (n := 26) rfl rfl ?_
  refine g_getv (n := 29) (ci := 4) (j := 4) (v := I H 4) (gcM_H hGH) rfl (by decide +kernel) rfl (by decide) (gr_hd hH) ?_
  refine g_puti (n := 32) (ci := 4) (j := 4) rfl (by decide +kernel) rfl (by decide) (gr_hd hG) (by decide +kernel) rfl ?_
  rw [gcM_s (c := 3) rfl]
  refine g_aload_n (n := 33) rfl rfl ?_
  refine g_aload_n (n := 34) rfl rfl ?_
  refine g_getv (n := 37) (ci := 4) (j := 5) (v := I H 5) (gcM_H hGH) rfl (by decide +kernel) rfl (by decide) (gr_hd hH) ?_
  refine g_puti (n := 40) (ci := 4) (j := 5) rfl (by decide +kernel) rfl (by decide) (gr_hd hG) (by decide +kernel) rfl ?_
  rw [gcM_s (c := 4) rfl]
  refine g_aload_n (n := 41) rfl rfl ?_
  refine g_aload_n (n := 42) rfl rfl ?_
  refine g_getv (n := 45) (ci := 4) (j := 6) (v := I H 6) (gcM_H hGH) rfl (by decide +kernel) rfl (by decide) (gr_hd hH) ?_
  refine g_puti (n := 48) (ci := 4) (j := 6) rfl (by decide +kernel) rfl (by decide) (gr_hd hG) (by decide +kernel) rfl ?_
  rw [gcM_s (c := 5) rfl]
  refine g_aload_n (n := 49) rfl rfl ?_
  refine g_aload_n (n := 50) rfl rfl ?_
  refine g_getv (n := 53) (ci := 4) (j := 7) (v := I H 7) (gcM_H hGH) rfl (by decide +kernel) rfl (by decide) (gr_hd hH) ?_
  refine g_puti (n := 56) (ci := 4) (j := 7) rfl (by decide +kernel) rfl (by decide) (gr_hd hG) (by decide +kernel) rfl ?_
  rw [gcM_s (c := 6) rfl]
  refine g_aload_n (n := 57) rfl rfl ?_
  refine g_aload_n (n := 58) rfl rfl ?_
  refine g_getv (n := 61) (ci := 4) (j := 8) (v := I H 8) (gcM_H hGH) rfl (by decide +kernel) rfl (by decide) (gr_hd hH) ?_
  refine g_puti (n := 64) (ci := 4) (j := 8) rfl (by decide +kernel) rfl (by decide) (gr_hd hG) (by decide +kernel) rfl ?_
  rw [gcM_s (c := 7) rfl]
  refine g_aload_n (n := 65) rfl rfl ?_
  refine g_aload_n (n := 66) rfl rfl ?_
  refine g_getv (n := 69) (ci := 4) (j := 9) (v := I H 9) (gcM_H hGH) rfl (by decide +kernel) rfl (by decide) (gr_hd hH) ?_
  refine g_puti (n := 72) (ci := 4) (j := 9) rfl (by decide +kernel) rfl (by decide) (gr_hd hG) (by decide +kernel) (decide_eq_true hz9) ?_
  rw [gcM_s (c := 8) rfl]
  refine g_aload_n (n := 73) rfl rfl ?_
  refine g_aload_n (n := 74) rfl rfl ?_
  refine g_getv (n := 77) (ci := 4) (j := 10) (v := I H 10) (gcM_H hGH) rfl (by decide +kernel) rfl (by decide) (gr_hd hH) ?_
  refine g_puti (n := 80) (ci := 4) (j := 10) rfl (by decide +kernel) rfl (by decide) (gr_hd hG) (by decide +kernel) rfl ?_
  rw [gcM_s (c := 9) rfl]
  refine g_aload_n (n := 81) rfl rfl ?_
  refine g_aload_n (n := 82) rfl rfl ?_
  refine g_getv (n := 85) (ci := 4) (j := 11) (v := I H 11) (gcM_H hGH) rfl (by decide +kernel) rfl (by decide) (gr_hd hH) ?_
  refine g_puti (n := 88) (ci := 4) (j := 11) rfl (by decide +kernel) rfl (by decide) (gr_hd hG) (by decide +kernel) (decide_eq_true hz11) ?_
  rw [gcM_s (c := 10) rfl]
  refine g_aload_n (n := 89) rfl rfl ?_
  refine g_aload_n (n := 90) rfl rfl ?_
  refine g_getv (n := 93) (ci := 4) (j := 12) (v := I H 12) (gcM_H hGH) rfl (by decide +kernel) rfl (by decide) (gr_hd hH) ?_
  refine g_puti (n := 96) (ci := 4) (j := 12) rfl (by decide +kernel) rfl (by decide) (gr_hd hG) (by decide +kernel) rfl ?_
  rw [gcM_s (c := 11) rfl]
  refine g_aload_n (n := 97) rfl rfl ?_
  refine g_aload_n (n := 98) rfl rfl ?_
  refine g_getv (n := 101) (ci := 4) (j := 13) (v := I H 13) (gcM_H hGH) rfl (by decide +kernel) rfl (by decide) (gr_hd hH) ?_
  refine g_puti (n := 104) (ci := 4) (j := 13) rfl (by decide +kernel) rfl (by decide) (gr_hd hG) (by decide +kernel) rfl ?_
  rw [gcM_s (c := 12) rfl]
  refine g_aload_n (n := 105) rfl rfl ?_
  refine g_aload_n (n := 106) rfl rfl ?_
  refine g_getv (n := 109) (ci := 4) (j := 14) (v := I H 14) (gcM_H hGH) rfl (by decide +kernel) rfl (by decide) (gr_hd hH) ?_
  refine g_puti (n := 112) (ci := 4) (j := 14) rfl (by decide +kernel) rfl (by decide) (gr_hd hG) (by decide +kernel) (decide_eq_true hz14) ?_
  rw [gcM_s (c := 13) rfl]
  refine g_aload_n (n := 113) rfl rfl ?_
  refine g_aload_n (n := 114) rfl rfl ?_
  refine g_getv (n := 117) (ci := 4) (j := 15) (v := I H 15) (gcM_H hGH) rfl (by decide +kernel) rfl (by decide) (gr_hd hH) ?_
  refine g_puti (n := 120) (ci := 4) (j := 15) rfl (by decide +kernel) rfl (by decide) (gr_hd hG) (by decide +kernel) (decide_eq_true hz15) ?_
  rw [gcM_s (c := 14) rfl]
  refine g_vret (n := 121) rfl ?_
  exact ⟨rfl, rfl, rfl⟩
def isK (K : Nat) : Prop := 5 ≤ K ∧ K < 136 ∧ mf_hd K < 13
theorem k_p78 {sc : List Value} {nm : Nat} {I : mg_I} {K m : Nat} (hK : isK K) (hm : m < 10) : SP sc 1 78 [.ref K, .int (nI m)] I nm (qE (1) I nm) := by
  refine SP.of (h := 0) (t := 78) (q := (yX9_paceOf, cX9_paceOf, 2, (some .int), 9, 460, mi_k78)) rfl (by decide) (show ¬ (2 : Nat) < 2 by decide) (fun d hd => ?_)
  show GG sc 9 false false mi_k78 d 0 [.ref K, .int (nI m)] [] I nm (qE (1) I nm)
  refine g_iconst (n := 1) (v := 1) rfl rfl ?_
  refine g_iret (n := 2) rfl (fun h => nomatch h) ?_
  exact ⟨rfl, rfl, rfl⟩
theorem k_p29 {sc : List Value} {nm : Nat} {I : mg_I} {K m : Nat} (hK : isK K) (hm : m < 10) : SP sc 1 29 [.ref K, .int (nI m)] I nm (qE (2) I nm) := by
  refine SP.of (h := 0) (t := 29) (q := (yX2_paceOf, cX2_paceOf, 2, (some .int), 2, 447, mi_k29)) rfl (by decide) (show ¬ (2 : Nat) < 2 by decide) (fun d hd => ?_)
  show GG sc 2 false false mi_k29 d 0 [.ref K, .int (nI m)] [] I nm (qE (2) I nm)
  refine g_iconst (n := 1) (v := 2) rfl rfl ?_
  refine g_iret (n := 2) rfl (fun h => nomatch h) ?_
  exact ⟨rfl, rfl, rfl⟩
theorem k_p62 {sc : List Value} {nm : Nat} {I : mg_I} {K m : Nat} (hK : isK K) (hm : m < 10) : SP sc 2 62 [.ref K, .int (nI m)] I nm (qE (3) I nm) := by
  refine SP.of (h := 1) (t := 62) (q := (yX7_paceOf, cX7_paceOf, 2, (some .int), 7, 457, mi_k62)) rfl (by decide) (show ¬ (2 : Nat) < 2 by decide) (fun d hd => ?_)
  show GG sc 7 false false mi_k62 d 0 [.ref K, .int (nI m)] [] I nm (qE (3) I nm)
  refine g_aload_n (n := 1) rfl rfl ?_
  refine g_iload_n (n := 2) rfl rfl ?_
  refine g_cp1 (n := 5) (t := 29) (x := (2, 458, 1514, 134, 113, 446, 73)) rfl (by decide +kernel) (by decide +kernel) (by decide +kernel) rfl ⟨hK.1, hK.2.1⟩ hK.2.2 (by rfl) (k_p29 hK hm) (by omega) (g_E ?_)
  refine g_iconst (n := 6) (v := 1) rfl rfl ?_
  refine g_iadd (n := 7) rfl ?_
  refine g_iret (n := 8) rfl (fun h => nomatch h) ?_
  exact ⟨rfl, rfl, rfl⟩
theorem k_p46 {sc : List Value} {nm : Nat} {I : mg_I} {K m : Nat} (hK : isK K) (hm : m < 10) : SP sc 2 46 [.ref K, .int (nI m)] I nm (qE (1 + (nI m - nI m / 3 * 3)) I nm) := by
  refine SP.of (h := 1) (t := 46) (q := (yX5_paceOf, cX5_paceOf, 2, (some .int), 5, 451, mi_k46)) rfl (by decide) (show ¬ (2 : Nat) < 2 by decide) (fun d hd => ?_)
  show GG sc 5 false false mi_k46 d 0 [.ref K, .int (nI m)] [] I nm (qE (1 + (nI m - nI m / 3 * 3)) I nm)
  refine g_aload_n (n := 1) rfl rfl ?_
  refine g_iload_n (n := 2) rfl rfl ?_
  refine g_cp1 (n := 5) (t := 78) (x := (3, 452, 453, 141, 120, 441, 72)) rfl (by decide +kernel) (by decide +kernel) (by decide +kernel) rfl ⟨hK.1, hK.2.1⟩ hK.2.2 (by rfl) (k_p78 hK hm) (by omega) (g_E ?_)
  refine g_iload_n (n := 6) rfl rfl ?_
  refine g_iconst (n := 7) (v := 3) rfl rfl ?_
  refine g_irem (n := 8) rfl (by first | decide | assumption) ?_
  refine g_iadd (n := 9) rfl ?_
  refine g_iret (n := 10) rfl (fun h => nomatch h) ?_
  exact ⟨rfl, rfl, rfl⟩
theorem k_l79 {sc : List Value} {nm : Nat} {I : mg_I} {K m : Nat} (hK : isK K) (hm : m < 10) : SP sc 1 79 [.ref K, .int (nI m)] I nm (qE (nI m) I nm) := by
  refine SP.of (h := 0) (t := 79) (q := (yX9_loadOf, cX9_loadOf, 2, (some .int), 9, 486, mi_k79)) rfl (by decide) (show ¬ (2 : Nat) < 2 by decide) (fun d hd => ?_)
  show GG sc 9 false false mi_k79 d 0 [.ref K, .int (nI m)] [] I nm (qE (nI m) I nm)
  refine g_iload_n (n := 1) rfl rfl ?_
  refine g_iret (n := 2) rfl (fun h => nomatch h) ?_
  exact ⟨rfl, rfl, rfl⟩
theorem k_l30 {sc : List Value} {nm : Nat} {I : mg_I} {K m : Nat} (hK : isK K) (hm : m < 10) : SP sc 1 30 [.ref K, .int (nI m)] I nm (qE (20) I nm) := by
  refine SP.of (h := 0) (t := 30) (q := (yX2_loadOf, cX2_loadOf, 2, (some .int), 2, 474, mi_k30)) rfl (by decide) (show ¬ (2 : Nat) < 2 by decide) (fun d hd => ?_)
  show GG sc 2 false false mi_k30 d 0 [.ref K, .int (nI m)] [] I nm (qE (20) I nm)
  refine g_bipush (n := 2) (v := 20) rfl rfl ?_
  refine g_iret (n := 3) rfl (fun h => nomatch h) ?_
  exact ⟨rfl, rfl, rfl⟩
theorem k_l34 {sc : List Value} {nm : Nat} {I : mg_I} {K m : Nat} (hK : isK K) (hm : m < 10) : SP sc 2 34 [.ref K, .int (nI m)] I nm (qE (fGoat (nI m)) I nm) := by
  refine SP.of (h := 1) (t := 34) (q := (yX3_loadOf, cX3_loadOf, 2, (some .int), 3, 477, mi_k34)) rfl (by decide) (show ¬ (2 : Nat) < 2 by decide) (fun d hd => ?_)
  show GG sc 3 false false mi_k34 d 0 [.ref K, .int (nI m)] [] I nm (qE (fGoat (nI m)) I nm)
  refine g_iconst (n := 1) (v := 0) rfl rfl ?_
  refine g_aload_n (n := 2) rfl rfl ?_
  refine g_iload_n (n := 3) rfl rfl ?_
  refine g_cp1 (n := 6) (t := 79) (x := (9, 478, 464, 120, 106, 462, 72)) rfl (by decide +kernel) (by decide +kernel) (by decide +kernel) rfl ⟨hK.1, hK.2.1⟩ hK.2.2 (by rfl) (k_l79 hK hm) (by omega) (g_E ?_)
  refine g_iconst (n := 7) (v := 3) rfl rfl ?_
  refine g_isub (n := 8) rfl ?_
  refine g_max (n := 11) (pl := 479) rfl (by decide +kernel) rfl ?_
  refine g_iret (n := 12) rfl (fun h => nomatch h) ?_
  exact ⟨congrArg (fun z => some (Value.int z)) ((show ∀ m, m < 10 → ((if 0 < nI m - 3 then nI m - 3 else 0) = fGoat (nI m)) by decide +kernel) m hm), rfl, rfl⟩
theorem k_l87 {sc : List Value} {nm : Nat} {I : mg_I} {K m : Nat} (hK : isK K) (hm : m < 10) : SP sc 2 87 [.ref K, .int (nI m)] I nm (qE (nI m + 9) I nm) := by
  refine SP.of (h := 1) (t := 87) (q := (yX10_loadOf, cX10_loadOf, 2, (some .int), 10, 470, mi_k87)) rfl (by decide) (show ¬ (2 : Nat) < 2 by decide) (fun d hd => ?_)
  show GG sc 10 false false mi_k87 d 0 [.ref K, .int (nI m)] [] I nm (qE (nI m + 9) I nm)
  refine g_aload_n (n := 1) rfl rfl ?_
  refine g_iload_n (n := 2) rfl rfl ?_
  refine g_cp1 (n := 5) (t := 79) (x := (9, 471, 464, 127, 106, 462, 72)) rfl (by decide +kernel) (by decide +kernel) (by decide +kernel) rfl ⟨hK.1, hK.2.1⟩ hK.2.2 (by rfl) (k_l79 hK hm) (by omega) (g_E ?_)
  refine g_bipush (n := 7) (v := 9) rfl rfl ?_
  refine g_iadd (n := 8) rfl ?_
  refine g_iret (n := 9) rfl (fun h => nomatch h) ?_
  exact ⟨rfl, rfl, rfl⟩
theorem k_l1 {sc : List Value} {nm : Nat} {I : mg_I} {K m : Nat} (hK : isK K) (hm : m < 10) : SP sc 3 1 [.ref K, .int (nI m)] I nm (qE (9) I nm) := by
  refine SP.of (h := 2) (t := 1) (q := (yX0_loadOf, cX0_loadOf, 2, (some .int), 0, 467, mi_k1)) rfl (by decide) (show ¬ (2 : Nat) < 2 by decide) (fun d hd => ?_)
  show GG sc 0 false false mi_k1 d 0 [.ref K, .int (nI m)] [] I nm (qE (9) I nm)
  refine g_aload_n (n := 1) rfl rfl ?_
  refine g_iload_n (n := 2) rfl rfl ?_
  refine g_cp1 (n := 5) (t := 87) (x := (10, 468, 1515, 148, 127, 469, 75)) rfl (by decide +kernel) (by decide +kernel) (by decide +kernel) rfl ⟨hK.1, hK.2.1⟩ hK.2.2 (by rfl) (k_l87 hK hm) (by omega) (g_E ?_)
  refine g_iload_n (n := 6) rfl rfl ?_
  refine g_isub (n := 7) rfl ?_
  refine g_iret (n := 8) rfl (fun h => nomatch h) ?_
  exact ⟨congrArg (fun z => some (Value.int z)) ((show ∀ m, m < 10 → (nI m + 9 - nI m = 9) by decide +kernel) m hm), rfl, rfl⟩
theorem k_l47 {sc : List Value} {nm : Nat} {I : mg_I} {K m : Nat} (hK : isK K) (hm : m < 10) : SP sc 3 47 [.ref K, .int (nI m)] I nm (qE (fGoat (nI m) * 2) I nm) := by
  refine SP.of (h := 2) (t := 47) (q := (yX5_loadOf, cX5_loadOf, 2, (some .int), 5, 482, mi_k47)) rfl (by decide) (show ¬ (2 : Nat) < 2 by decide) (fun d hd => ?_)
  show GG sc 5 false false mi_k47 d 0 [.ref K, .int (nI m)] [] I nm (qE (fGoat (nI m) * 2) I nm)
  refine g_aload_n (n := 1) rfl rfl ?_
  refine g_iload_n (n := 2) rfl rfl ?_
  refine g_cp1 (n := 5) (t := 34) (x := (3, 483, 1516, 141, 120, 476, 74)) rfl (by decide +kernel) (by decide +kernel) (by decide +kernel) rfl ⟨hK.1, hK.2.1⟩ hK.2.2 (by rfl) (k_l34 hK hm) (by omega) (g_E ?_)
  refine g_iconst (n := 6) (v := 2) rfl rfl ?_
  refine g_imul (n := 7) rfl ?_
  refine g_iret (n := 8) rfl (fun h => nomatch h) ?_
  exact ⟨rfl, rfl, rfl⟩
theorem k_c80 {sc : List Value} {nm : Nat} {I : mg_I} {K m : Nat} (hK : isK K) (hm : m < 10) : SP sc 1 80 [.ref K, .int (nI m)] I nm (qE (1) I nm) := by
  refine SP.of (h := 0) (t := 80) (q := (yX9_canBack, cX9_canBack, 2, (some .boolean), 9, 501, mi_k80)) rfl (by decide) (show ¬ (2 : Nat) < 2 by decide) (fun d hd => ?_)
  show GG sc 9 false true mi_k80 d 0 [.ref K, .int (nI m)] [] I nm (qE (1) I nm)
  refine g_iconst (n := 1) (v := 1) rfl rfl ?_
  refine g_iret (n := 2) rfl (fun _ => by first | exact Or.inl rfl | exact Or.inr rfl | exact bI_01 | (rw [hb]; exact bP_01)) ?_
  exact ⟨rfl, rfl, rfl⟩
theorem k_c31 {sc : List Value} {nm : Nat} {I : mg_I} {K m : Nat} (hK : isK K) (hm : m < 10) : SP sc 1 31 [.ref K, .int (nI m)] I nm (qE (0) I nm) := by
  refine SP.of (h := 0) (t := 31) (q := (yX2_canBack, cX2_canBack, 2, (some .boolean), 2, 496, mi_k31)) rfl (by decide) (show ¬ (2 : Nat) < 2 by decide) (fun d hd => ?_)
  show GG sc 2 false true mi_k31 d 0 [.ref K, .int (nI m)] [] I nm (qE (0) I nm)
  refine g_iconst (n := 1) (v := 0) rfl rfl ?_
  refine g_iret (n := 2) rfl (fun _ => by first | exact Or.inl rfl | exact Or.inr rfl | exact bI_01 | (rw [hb]; exact bP_01)) ?_
  exact ⟨rfl, rfl, rfl⟩
theorem k88 {m : Nat} (hm : m < 10) (h : ¬ nI m - nI m / 2 * 2 = 0) : nI m - nI m / 2 * 2 = 1 := ((show ∀ m, m < 10 → (nI m - nI m / 2 * 2 = 0 ∨ nI m - nI m / 2 * 2 = 1) by decide +kernel) m hm).resolve_left h
theorem k88n {m : Nat} (_ : m < 10) (h : nI m - nI m / 2 * 2 = 0) : ¬ nI m - nI m / 2 * 2 = 1 := fun q => absurd (h.symm.trans q) (by decide)
theorem k_c88 {sc : List Value} {nm : Nat} {I : mg_I} {K m : Nat} (hK : isK K) (hm : m < 10) : SP sc 1 88 [.ref K, .int (nI m)] I nm (qE (bI (nI m - nI m / 2 * 2 = 1)) I nm) := by
  refine SP.of (h := 0) (t := 88) (q := (yX10_canBack, cX10_canBack, 2, (some .boolean), 10, 493, mi_k88)) rfl (by decide) (show ¬ (2 : Nat) < 2 by decide) (fun d hd => ?_)
  show GG sc 10 false true mi_k88 d 0 [.ref K, .int (nI m)] [] I nm (qE (bI (nI m - nI m / 2 * 2 = 1)) I nm)
  refine g_iload_n (n := 1) rfl rfl ?_
  refine g_iconst (n := 2) (v := 2) rfl rfl ?_
  refine g_irem (n := 3) rfl (by first | decide | assumption) ?_
  refine g_ifeq (n := 6) 10 rfl (by decide) (fun h1 => ?_) (fun h1 => ?_)
  ·
    refine g_iconst (n := 11) (v := 0) rfl rfl ?_
    refine g_iret (n := 12) rfl (fun _ => by first | exact Or.inl rfl | exact Or.inr rfl | exact bI_01 | (rw [hb]; exact bP_01)) ?_
    exact ⟨congrArg (fun z => some (Value.int z)) (by first | exact (bI_t (k88 hm (by assumption))).symm | exact (bI_f (k88n hm (by assumption))).symm), rfl, rfl⟩
  ·
    refine g_iconst (n := 7) (v := 1) rfl rfl ?_
    refine g_goto 11 rfl (by decide) ?_
    refine g_iret (n := 12) rfl (fun _ => by first | exact Or.inl rfl | exact Or.inr rfl | exact bI_01 | (rw [hb]; exact bP_01)) ?_
    exact ⟨congrArg (fun z => some (Value.int z)) (by first | exact (bI_t (k88 hm (by assumption))).symm | exact (bI_f (k88n hm (by assumption))).symm), rfl, rfl⟩
theorem k_h81 {sc : List Value} {nm : Nat} {I : mg_I} {K : Nat} : SP sc 1 81 [.ref K] I nm (qE (1) I nm) := by
  refine SP.of (h := 0) (t := 81) (q := (yX9_hears, cX9_hears, 1, (some .boolean), 9, 516, mi_k81)) rfl (by decide) (show ¬ (1 : Nat) < 1 by decide) (fun d hd => ?_)
  show GG sc 9 false true mi_k81 d 0 [.ref K] [] I nm (qE (1) I nm)
  refine g_iconst (n := 1) (v := 1) rfl rfl ?_
  refine g_iret (n := 2) rfl (fun _ => by first | exact Or.inl rfl | exact Or.inr rfl | exact bI_01 | (rw [hb]; exact bP_01)) ?_
  exact ⟨rfl, rfl, rfl⟩
theorem k_h63 {sc : List Value} {nm : Nat} {I : mg_I} {K : Nat} : SP sc 1 63 [.ref K] I nm (qE (0) I nm) := by
  refine SP.of (h := 0) (t := 63) (q := (yX7_hears, cX7_hears, 1, (some .boolean), 7, 514, mi_k63)) rfl (by decide) (show ¬ (1 : Nat) < 1 by decide) (fun d hd => ?_)
  show GG sc 7 false true mi_k63 d 0 [.ref K] [] I nm (qE (0) I nm)
  refine g_iconst (n := 1) (v := 0) rfl rfl ?_
  refine g_iret (n := 2) rfl (fun _ => by first | exact Or.inl rfl | exact Or.inr rfl | exact bI_01 | (rw [hb]; exact bP_01)) ?_
  exact ⟨rfl, rfl, rfl⟩
theorem k_h2 {sc : List Value} {nm : Nat} {I : mg_I} {K : Nat} : SP sc 1 2 [.ref K] I nm (qE (0) I nm) := by
  refine SP.of (h := 0) (t := 2) (q := (yX0_hears, cX0_hears, 1, (some .boolean), 0, 508, mi_k2)) rfl (by decide) (show ¬ (1 : Nat) < 1 by decide) (fun d hd => ?_)
  show GG sc 0 false true mi_k2 d 0 [.ref K] [] I nm (qE (0) I nm)
  refine g_iconst (n := 1) (v := 0) rfl rfl ?_
  refine g_iret (n := 2) rfl (fun _ => by first | exact Or.inl rfl | exact Or.inr rfl | exact bI_01 | (rw [hb]; exact bP_01)) ?_
  exact ⟨rfl, rfl, rfl⟩
theorem bI_1 {p : Prop} [Decidable p] (h : p) : (1 : Int32) = bI p := (bI_t h).symm
def tnM (I : mg_I) (G k m : Nat) : mg_I := mf_up (mf_up (mf_up (mf_up (mf_up (mf_up I G 1 (nI k)) G 2 (nI m)) G 12 (fPace (nI k) (nI m))) G 13 (fLoad (nI k) (nI m))) G 14 (fBack (nI k) (nI m))) G 15 (fHears (nI k))
theorem fHears_01 {k : Int32} : fHears k = 0 ∨ fHears k = 1 := bI_01
theorem c_turn_0 {sc : List Value} {nm : Nat} {I : mg_I} {G m : Nat} (hG : isG G) (hm : m < 10) : SP sc 4 37 [.ref G, .ref 7, .int (nI 0), .int (nI m)] I nm (qZ (tnM I G 0 m) nm) := by
  refine SP.of (h := 3) (t := 37) (q := (yX4_turnInto, cX4_turnInto, 4, none, 4, 439, mi_k37)) rfl (by decide) (show ¬ (4 : Nat) < 4 by decide) (fun d hd => ?_)
  show GG sc 4 false false mi_k37 d 0 [.ref G, .ref 7, .int (nI 0), .int (nI m)] [] I nm (qZ (tnM I G 0 m) nm)
  refine g_aload_n (n := 1) rfl rfl ?_
  refine g_iload_n (n := 2) rfl rfl ?_
  refine g_puti (n := 5) (ci := 4) (j := 1) rfl (by decide +kernel) rfl (by decide) (gr_hd hG) (by decide +kernel) rfl ?_
  refine g_aload_n (n := 6) rfl rfl ?_
  refine g_iload_n (n := 7) rfl rfl ?_
  refine g_puti (n := 10) (ci := 4) (j := 2) rfl (by decide +kernel) rfl (by decide) (gr_hd hG) (by decide +kernel) rfl ?_
  refine g_aload_n (n := 11) rfl rfl ?_
  refine g_aload_n (n := 12) rfl rfl ?_
  refine g_aload_n (n := 13) rfl rfl ?_
  refine g_getv (n := 16) (ci := 4) (j := 2) (v := nI m) (by first | exact if_pos ⟨rfl, rfl⟩ | exact (if_neg (by omega)).trans (if_pos ⟨rfl, rfl⟩) | exact (if_neg (by omega)).trans ((if_neg (by omega)).trans (if_pos ⟨rfl, rfl⟩))) rfl (by decide +kernel) rfl (by decide) (gr_hd hG) ?_
  refine g_cv1 (n := 19) (t := 78) (ci := 9) rfl (by decide +kernel) (by decide +kernel) (by decide) (by decide) (by decide +kernel) (by rfl) (k_p78 (K := 7) (⟨by decide, by decide, by decide⟩ : isK 7) hm) (by omega) (g_E ?_)
  refine g_top (w := fPace (nI 0) (nI m)) ((show ∀ m, m < 10 → (1 = fPace (nI 0) (nI m)) by decide +kernel) m hm) ?_
  refine g_puti (n := 22) (ci := 4) (j := 12) rfl (by decide +kernel) rfl (by decide) (gr_hd hG) (by decide +kernel) rfl ?_
  refine g_aload_n (n := 23) rfl rfl ?_
  refine g_aload_n (n := 24) rfl rfl ?_
  refine g_aload_n (n := 25) rfl rfl ?_
  refine g_getv (n := 28) (ci := 4) (j := 2) (v := nI m) (by first | exact if_pos ⟨rfl, rfl⟩ | exact (if_neg (by omega)).trans (if_pos ⟨rfl, rfl⟩) | exact (if_neg (by omega)).trans ((if_neg (by omega)).trans (if_pos ⟨rfl, rfl⟩))) rfl (by decide +kernel) rfl (by decide) (gr_hd hG) ?_
  refine g_cv1 (n := 31) (t := 79) (ci := 9) rfl (by decide +kernel) (by decide +kernel) (by decide) (by decide) (by decide +kernel) (by rfl) (k_l79 (K := 7) (⟨by decide, by decide, by decide⟩ : isK 7) hm) (by omega) (g_E ?_)
  refine g_top (w := fLoad (nI 0) (nI m)) ((show ∀ m, m < 10 → (nI m = fLoad (nI 0) (nI m)) by decide +kernel) m hm) ?_
  refine g_puti (n := 34) (ci := 4) (j := 13) rfl (by decide +kernel) rfl (by decide) (gr_hd hG) (by decide +kernel) rfl ?_
  refine g_aload_n (n := 35) rfl rfl ?_
  refine g_aload_n (n := 36) rfl rfl ?_
  refine g_aload_n (n := 37) rfl rfl ?_
  refine g_getv (n := 40) (ci := 4) (j := 2) (v := nI m) (by first | exact if_pos ⟨rfl, rfl⟩ | exact (if_neg (by omega)).trans (if_pos ⟨rfl, rfl⟩) | exact (if_neg (by omega)).trans ((if_neg (by omega)).trans (if_pos ⟨rfl, rfl⟩))) rfl (by decide +kernel) rfl (by decide) (gr_hd hG) ?_
  refine g_cv1 (n := 43) (t := 80) (ci := 9) rfl (by decide +kernel) (by decide +kernel) (by decide) (by decide) (by decide +kernel) (by rfl) (k_c80 (K := 7) (⟨by decide, by decide, by decide⟩ : isK 7) hm) (by omega) (g_E ?_)
  refine g_top (w := fBack (nI 0) (nI m)) ((show ∀ m, m < 10 → (1 = fBack (nI 0) (nI m)) by decide +kernel) m hm) ?_
  refine g_puti (n := 46) (ci := 4) (j := 14) rfl (by decide +kernel) rfl (by decide) (gr_hd hG) (by decide +kernel) (decide_eq_true (fBack_01 (k := nI 0) (m := nI m))) ?_
  refine g_aload_n (n := 47) rfl rfl ?_
  refine g_aload_n (n := 48) rfl rfl ?_
  refine g_cv0 (n := 51) (t := 81) (ci := 9) rfl (by decide +kernel) (by decide +kernel) (by decide) (by decide) (by decide +kernel) (by rfl) (k_h81 (K := 7)) (by omega) (g_E ?_)
  refine g_top (w := fHears (nI 0)) ((show (1 : Int32) = fHears (nI 0) by decide +kernel)) ?_
  refine g_puti (n := 54) (ci := 4) (j := 15) rfl (by decide +kernel) rfl (by decide) (gr_hd hG) (by decide +kernel) (decide_eq_true (fHears_01 (k := nI 0))) ?_
  refine g_vret (n := 55) rfl ?_
  exact ⟨rfl, rfl, rfl⟩
theorem c_turn_1 {sc : List Value} {nm : Nat} {I : mg_I} {G m : Nat} (hG : isG G) (hm : m < 10) : SP sc 4 37 [.ref G, .ref 8, .int (nI 1), .int (nI m)] I nm (qZ (tnM I G 1 m) nm) := by
  refine SP.of (h := 3) (t := 37) (q := (yX4_turnInto, cX4_turnInto, 4, none, 4, 439, mi_k37)) rfl (by decide) (show ¬ (4 : Nat) < 4 by decide) (fun d hd => ?_)
  show GG sc 4 false false mi_k37 d 0 [.ref G, .ref 8, .int (nI 1), .int (nI m)] [] I nm (qZ (tnM I G 1 m) nm)
  refine g_aload_n (n := 1) rfl rfl ?_
  refine g_iload_n (n := 2) rfl rfl ?_
  refine g_puti (n := 5) (ci := 4) (j := 1) rfl (by decide +kernel) rfl (by decide) (gr_hd hG) (by decide +kernel) rfl ?_
  refine g_aload_n (n := 6) rfl rfl ?_
  refine g_iload_n (n := 7) rfl rfl ?_
  refine g_puti (n := 10) (ci := 4) (j := 2) rfl (by decide +kernel) rfl (by decide) (gr_hd hG) (by decide +kernel) rfl ?_
  refine g_aload_n (n := 11) rfl rfl ?_
  refine g_aload_n (n := 12) rfl rfl ?_
  refine g_aload_n (n := 13) rfl rfl ?_
  refine g_getv (n := 16) (ci := 4) (j := 2) (v := nI m) (by first | exact if_pos ⟨rfl, rfl⟩ | exact (if_neg (by omega)).trans (if_pos ⟨rfl, rfl⟩) | exact (if_neg (by omega)).trans ((if_neg (by omega)).trans (if_pos ⟨rfl, rfl⟩))) rfl (by decide +kernel) rfl (by decide) (gr_hd hG) ?_
  refine g_cv1 (n := 19) (t := 29) (ci := 2) rfl (by decide +kernel) (by decide +kernel) (by decide) (by decide) (by decide +kernel) (by rfl) (k_p29 (K := 8) (⟨by decide, by decide, by decide⟩ : isK 8) hm) (by omega) (g_E ?_)
  refine g_top (w := fPace (nI 1) (nI m)) ((show ∀ m, m < 10 → (2 = fPace (nI 1) (nI m)) by decide +kernel) m hm) ?_
  refine g_puti (n := 22) (ci := 4) (j := 12) rfl (by decide +kernel) rfl (by decide) (gr_hd hG) (by decide +kernel) rfl ?_
  refine g_aload_n (n := 23) rfl rfl ?_
  refine g_aload_n (n := 24) rfl rfl ?_
  refine g_aload_n (n := 25) rfl rfl ?_
  refine g_getv (n := 28) (ci := 4) (j := 2) (v := nI m) (by first | exact if_pos ⟨rfl, rfl⟩ | exact (if_neg (by omega)).trans (if_pos ⟨rfl, rfl⟩) | exact (if_neg (by omega)).trans ((if_neg (by omega)).trans (if_pos ⟨rfl, rfl⟩))) rfl (by decide +kernel) rfl (by decide) (gr_hd hG) ?_
  refine g_cv1 (n := 31) (t := 30) (ci := 2) rfl (by decide +kernel) (by decide +kernel) (by decide) (by decide) (by decide +kernel) (by rfl) (k_l30 (K := 8) (⟨by decide, by decide, by decide⟩ : isK 8) hm) (by omega) (g_E ?_)
  refine g_top (w := fLoad (nI 1) (nI m)) ((show ∀ m, m < 10 → (20 = fLoad (nI 1) (nI m)) by decide +kernel) m hm) ?_
  refine g_puti (n := 34) (ci := 4) (j := 13) rfl (by decide +kernel) rfl (by decide) (gr_hd hG) (by decide +kernel) rfl ?_
  refine g_aload_n (n := 35) rfl rfl ?_
  refine g_aload_n (n := 36) rfl rfl ?_
  refine g_aload_n (n := 37) rfl rfl ?_
  refine g_getv (n := 40) (ci := 4) (j := 2) (v := nI m) (by first | exact if_pos ⟨rfl, rfl⟩ | exact (if_neg (by omega)).trans (if_pos ⟨rfl, rfl⟩) | exact (if_neg (by omega)).trans ((if_neg (by omega)).trans (if_pos ⟨rfl, rfl⟩))) rfl (by decide +kernel) rfl (by decide) (gr_hd hG) ?_
  refine g_cv1 (n := 43) (t := 31) (ci := 2) rfl (by decide +kernel) (by decide +kernel) (by decide) (by decide) (by decide +kernel) (by rfl) (k_c31 (K := 8) (⟨by decide, by decide, by decide⟩ : isK 8) hm) (by omega) (g_E ?_)
  refine g_top (w := fBack (nI 1) (nI m)) ((show ∀ m, m < 10 → (0 = fBack (nI 1) (nI m)) by decide +kernel) m hm) ?_
  refine g_puti (n := 46) (ci := 4) (j := 14) rfl (by decide +kernel) rfl (by decide) (gr_hd hG) (by decide +kernel) (decide_eq_true (fBack_01 (k := nI 1) (m := nI m))) ?_
  refine g_aload_n (n := 47) rfl rfl ?_
  refine g_aload_n (n := 48) rfl rfl ?_
  refine g_cv0 (n := 51) (t := 81) (ci := 2) rfl (by decide +kernel) (by decide +kernel) (by decide) (by decide) (by decide +kernel) (by rfl) (k_h81 (K := 8)) (by omega) (g_E ?_)
  refine g_top (w := fHears (nI 1)) ((show (1 : Int32) = fHears (nI 1) by decide +kernel)) ?_
  refine g_puti (n := 54) (ci := 4) (j := 15) rfl (by decide +kernel) rfl (by decide) (gr_hd hG) (by decide +kernel) (decide_eq_true (fHears_01 (k := nI 1))) ?_
  refine g_vret (n := 55) rfl ?_
  exact ⟨rfl, rfl, rfl⟩
theorem c_turn_2 {sc : List Value} {nm : Nat} {I : mg_I} {G m : Nat} (hG : isG G) (hm : m < 10) : SP sc 4 37 [.ref G, .ref 9, .int (nI 2), .int (nI m)] I nm (qZ (tnM I G 2 m) nm) := by
  refine SP.of (h := 3) (t := 37) (q := (yX4_turnInto, cX4_turnInto, 4, none, 4, 439, mi_k37)) rfl (by decide) (show ¬ (4 : Nat) < 4 by decide) (fun d hd => ?_)
  show GG sc 4 false false mi_k37 d 0 [.ref G, .ref 9, .int (nI 2), .int (nI m)] [] I nm (qZ (tnM I G 2 m) nm)
  refine g_aload_n (n := 1) rfl rfl ?_
  refine g_iload_n (n := 2) rfl rfl ?_
  refine g_puti (n := 5) (ci := 4) (j := 1) rfl (by decide +kernel) rfl (by decide) (gr_hd hG) (by decide +kernel) rfl ?_
  refine g_aload_n (n := 6) rfl rfl ?_
  refine g_iload_n (n := 7) rfl rfl ?_
  refine g_puti (n := 10) (ci := 4) (j := 2) rfl (by decide +kernel) rfl (by decide) (gr_hd hG) (by decide +kernel) rfl ?_
  refine g_aload_n (n := 11) rfl rfl ?_
  refine g_aload_n (n := 12) rfl rfl ?_
  refine g_aload_n (n := 13) rfl rfl ?_
  refine g_getv (n := 16) (ci := 4) (j := 2) (v := nI m) (by first | exact if_pos ⟨rfl, rfl⟩ | exact (if_neg (by omega)).trans (if_pos ⟨rfl, rfl⟩) | exact (if_neg (by omega)).trans ((if_neg (by omega)).trans (if_pos ⟨rfl, rfl⟩))) rfl (by decide +kernel) rfl (by decide) (gr_hd hG) ?_
  refine g_cv1 (n := 19) (t := 78) (ci := 3) rfl (by decide +kernel) (by decide +kernel) (by decide) (by decide) (by decide +kernel) (by rfl) (k_p78 (K := 9) (⟨by decide, by decide, by decide⟩ : isK 9) hm) (by omega) (g_E ?_)
  refine g_top (w := fPace (nI 2) (nI m)) ((show ∀ m, m < 10 → (1 = fPace (nI 2) (nI m)) by decide +kernel) m hm) ?_
  refine g_puti (n := 22) (ci := 4) (j := 12) rfl (by decide +kernel) rfl (by decide) (gr_hd hG) (by decide +kernel) rfl ?_
  refine g_aload_n (n := 23) rfl rfl ?_
  refine g_aload_n (n := 24) rfl rfl ?_
  refine g_aload_n (n := 25) rfl rfl ?_
  refine g_getv (n := 28) (ci := 4) (j := 2) (v := nI m) (by first | exact if_pos ⟨rfl, rfl⟩ | exact (if_neg (by omega)).trans (if_pos ⟨rfl, rfl⟩) | exact (if_neg (by omega)).trans ((if_neg (by omega)).trans (if_pos ⟨rfl, rfl⟩))) rfl (by decide +kernel) rfl (by decide) (gr_hd hG) ?_
  refine g_cv1 (n := 31) (t := 34) (ci := 3) rfl (by decide +kernel) (by decide +kernel) (by decide) (by decide) (by decide +kernel) (by rfl) (k_l34 (K := 9) (⟨by decide, by decide, by decide⟩ : isK 9) hm) (by omega) (g_E ?_)
  refine g_top (w := fLoad (nI 2) (nI m)) ((show ∀ m, m < 10 → (fGoat (nI m) = fLoad (nI 2) (nI m)) by decide +kernel) m hm) ?_
  refine g_puti (n := 34) (ci := 4) (j := 13) rfl (by decide +kernel) rfl (by decide) (gr_hd hG) (by decide +kernel) rfl ?_
  refine g_aload_n (n := 35) rfl rfl ?_
  refine g_aload_n (n := 36) rfl rfl ?_
  refine g_aload_n (n := 37) rfl rfl ?_
  refine g_getv (n := 40) (ci := 4) (j := 2) (v := nI m) (by first | exact if_pos ⟨rfl, rfl⟩ | exact (if_neg (by omega)).trans (if_pos ⟨rfl, rfl⟩) | exact (if_neg (by omega)).trans ((if_neg (by omega)).trans (if_pos ⟨rfl, rfl⟩))) rfl (by decide +kernel) rfl (by decide) (gr_hd hG) ?_
  refine g_cv1 (n := 43) (t := 80) (ci := 3) rfl (by decide +kernel) (by decide +kernel) (by decide) (by decide) (by decide +kernel) (by rfl) (k_c80 (K := 9) (⟨by decide, by decide, by decide⟩ : isK 9) hm) (by omega) (g_E ?_)
  refine g_top (w := fBack (nI 2) (nI m)) ((show ∀ m, m < 10 → (1 = fBack (nI 2) (nI m)) by decide +kernel) m hm) ?_
  refine g_puti (n := 46) (ci := 4) (j := 14) rfl (by decide +kernel) rfl (by decide) (gr_hd hG) (by decide +kernel) (decide_eq_true (fBack_01 (k := nI 2) (m := nI m))) ?_
  refine g_aload_n (n := 47) rfl rfl ?_
  refine g_aload_n (n := 48) rfl rfl ?_
  refine g_cv0 (n := 51) (t := 81) (ci := 3) rfl (by decide +kernel) (by decide +kernel) (by decide) (by decide) (by decide +kernel) (by rfl) (k_h81 (K := 9)) (by omega) (g_E ?_)
  refine g_top (w := fHears (nI 2)) ((show (1 : Int32) = fHears (nI 2) by decide +kernel)) ?_
  refine g_puti (n := 54) (ci := 4) (j := 15) rfl (by decide +kernel) rfl (by decide) (gr_hd hG) (by decide +kernel) (decide_eq_true (fHears_01 (k := nI 2))) ?_
  refine g_vret (n := 55) rfl ?_
  exact ⟨rfl, rfl, rfl⟩
theorem c_turn_3 {sc : List Value} {nm : Nat} {I : mg_I} {G m : Nat} (hG : isG G) (hm : m < 10) : SP sc 4 37 [.ref G, .ref 10, .int (nI 3), .int (nI m)] I nm (qZ (tnM I G 3 m) nm) := by
  refine SP.of (h := 3) (t := 37) (q := (yX4_turnInto, cX4_turnInto, 4, none, 4, 439, mi_k37)) rfl (by decide) (show ¬ (4 : Nat) < 4 by decide) (fun d hd => ?_)
  show GG sc 4 false false mi_k37 d 0 [.ref G, .ref 10, .int (nI 3), .int (nI m)] [] I nm (qZ (tnM I G 3 m) nm)
  refine g_aload_n (n := 1) rfl rfl ?_
  refine g_iload_n (n := 2) rfl rfl ?_
  refine g_puti (n := 5) (ci := 4) (j := 1) rfl (by decide +kernel) rfl (by decide) (gr_hd hG) (by decide +kernel) rfl ?_
  refine g_aload_n (n := 6) rfl rfl ?_
  refine g_iload_n (n := 7) rfl rfl ?_
  refine g_puti (n := 10) (ci := 4) (j := 2) rfl (by decide +kernel) rfl (by decide) (gr_hd hG) (by decide +kernel) rfl ?_
  refine g_aload_n (n := 11) rfl rfl ?_
  refine g_aload_n (n := 12) rfl rfl ?_
  refine g_aload_n (n := 13) rfl rfl ?_
  refine g_getv (n := 16) (ci := 4) (j := 2) (v := nI m) (by first | exact if_pos ⟨rfl, rfl⟩ | exact (if_neg (by omega)).trans (if_pos ⟨rfl, rfl⟩) | exact (if_neg (by omega)).trans ((if_neg (by omega)).trans (if_pos ⟨rfl, rfl⟩))) rfl (by decide +kernel) rfl (by decide) (gr_hd hG) ?_
  refine g_cv1 (n := 19) (t := 78) (ci := 10) rfl (by decide +kernel) (by decide +kernel) (by decide) (by decide) (by decide +kernel) (by rfl) (k_p78 (K := 10) (⟨by decide, by decide, by decide⟩ : isK 10) hm) (by omega) (g_E ?_)
  refine g_top (w := fPace (nI 3) (nI m)) ((show ∀ m, m < 10 → (1 = fPace (nI 3) (nI m)) by decide +kernel) m hm) ?_
  refine g_puti (n := 22) (ci := 4) (j := 12) rfl (by decide +kernel) rfl (by decide) (gr_hd hG) (by decide +kernel) rfl ?_
  refine g_aload_n (n := 23) rfl rfl ?_
  refine g_aload_n (n := 24) rfl rfl ?_
  refine g_aload_n (n := 25) rfl rfl ?_
  refine g_getv (n := 28) (ci := 4) (j := 2) (v := nI m) (by first | exact if_pos ⟨rfl, rfl⟩ | exact (if_neg (by omega)).trans (if_pos ⟨rfl, rfl⟩) | exact (if_neg (by omega)).trans ((if_neg (by omega)).trans (if_pos ⟨rfl, rfl⟩))) rfl (by decide +kernel) rfl (by decide) (gr_hd hG) ?_
  refine g_cv1 (n := 31) (t := 87) (ci := 10) rfl (by decide +kernel) (by decide +kernel) (by decide) (by decide) (by decide +kernel) (by rfl) (k_l87 (K := 10) (⟨by decide, by decide, by decide⟩ : isK 10) hm) (by omega) (g_E ?_)
  refine g_top (w := fLoad (nI 3) (nI m)) ((show ∀ m, m < 10 → (nI m + 9 = fLoad (nI 3) (nI m)) by decide +kernel) m hm) ?_
  refine g_puti (n := 34) (ci := 4) (j := 13) rfl (by decide +kernel) rfl (by decide) (gr_hd hG) (by decide +kernel) rfl ?_
  refine g_aload_n (n := 35) rfl rfl ?_
  refine g_aload_n (n := 36) rfl rfl ?_
  refine g_aload_n (n := 37) rfl rfl ?_
  refine g_getv (n := 40) (ci := 4) (j := 2) (v := nI m) (by first | exact if_pos ⟨rfl, rfl⟩ | exact (if_neg (by omega)).trans (if_pos ⟨rfl, rfl⟩) | exact (if_neg (by omega)).trans ((if_neg (by omega)).trans (if_pos ⟨rfl, rfl⟩))) rfl (by decide +kernel) rfl (by decide) (gr_hd hG) ?_
  refine g_cv1 (n := 43) (t := 88) (ci := 10) rfl (by decide +kernel) (by decide +kernel) (by decide) (by decide) (by decide +kernel) (by rfl) (k_c88 (K := 10) (⟨by decide, by decide, by decide⟩ : isK 10) hm) (by omega) (g_E ?_)
  refine g_top (w := fBack (nI 3) (nI m)) ((show ∀ m, m < 10 → (bI (nI m - nI m / 2 * 2 = 1) = fBack (nI 3) (nI m)) by decide +kernel) m hm) ?_
  refine g_puti (n := 46) (ci := 4) (j := 14) rfl (by decide +kernel) rfl (by decide) (gr_hd hG) (by decide +kernel) (decide_eq_true (fBack_01 (k := nI 3) (m := nI m))) ?_
  refine g_aload_n (n := 47) rfl rfl ?_
  refine g_aload_n (n := 48) rfl rfl ?_
  refine g_cv0 (n := 51) (t := 81) (ci := 10) rfl (by decide +kernel) (by decide +kernel) (by decide) (by decide) (by decide +kernel) (by rfl) (k_h81 (K := 10)) (by omega) (g_E ?_)
  refine g_top (w := fHears (nI 3)) ((show (1 : Int32) = fHears (nI 3) by decide +kernel)) ?_
  refine g_puti (n := 54) (ci := 4) (j := 15) rfl (by decide +kernel) rfl (by decide) (gr_hd hG) (by decide +kernel) (decide_eq_true (fHears_01 (k := nI 3))) ?_
  refine g_vret (n := 55) rfl ?_
  exact ⟨rfl, rfl, rfl⟩
theorem c_turn_4 {sc : List Value} {nm : Nat} {I : mg_I} {G m : Nat} (hG : isG G) (hm : m < 10) : SP sc 4 37 [.ref G, .ref 11, .int (nI 4), .int (nI m)] I nm (qZ (tnM I G 4 m) nm) := by
  refine SP.of (h := 3) (t := 37) (q := (yX4_turnInto, cX4_turnInto, 4, none, 4, 439, mi_k37)) rfl (by decide) (show ¬ (4 : Nat) < 4 by decide) (fun d hd => ?_)
  show GG sc 4 false false mi_k37 d 0 [.ref G, .ref 11, .int (nI 4), .int (nI m)] [] I nm (qZ (tnM I G 4 m) nm)
  refine g_aload_n (n := 1) rfl rfl ?_
  refine g_iload_n (n := 2) rfl rfl ?_
  refine g_puti (n := 5) (ci := 4) (j := 1) rfl (by decide +kernel) rfl (by decide) (gr_hd hG) (by decide +kernel) rfl ?_
  refine g_aload_n (n := 6) rfl rfl ?_
  refine g_iload_n (n := 7) rfl rfl ?_
  refine g_puti (n := 10) (ci := 4) (j := 2) rfl (by decide +kernel) rfl (by decide) (gr_hd hG) (by decide +kernel) rfl ?_
  refine g_aload_n (n := 11) rfl rfl ?_
  refine g_aload_n (n := 12) rfl rfl ?_
  refine g_aload_n (n := 13) rfl rfl ?_
  refine g_getv (n := 16) (ci := 4) (j := 2) (v := nI m) (by first | exact if_pos ⟨rfl, rfl⟩ | exact (if_neg (by omega)).trans (if_pos ⟨rfl, rfl⟩) | exact (if_neg (by omega)).trans ((if_neg (by omega)).trans (if_pos ⟨rfl, rfl⟩))) rfl (by decide +kernel) rfl (by decide) (gr_hd hG) ?_
  refine g_cv1 (n := 19) (t := 62) (ci := 7) rfl (by decide +kernel) (by decide +kernel) (by decide) (by decide) (by decide +kernel) (by rfl) (k_p62 (K := 11) (⟨by decide, by decide, by decide⟩ : isK 11) hm) (by omega) (g_E ?_)
  refine g_top (w := fPace (nI 4) (nI m)) ((show ∀ m, m < 10 → (3 = fPace (nI 4) (nI m)) by decide +kernel) m hm) ?_
  refine g_puti (n := 22) (ci := 4) (j := 12) rfl (by decide +kernel) rfl (by decide) (gr_hd hG) (by decide +kernel) rfl ?_
  refine g_aload_n (n := 23) rfl rfl ?_
  refine g_aload_n (n := 24) rfl rfl ?_
  refine g_aload_n (n := 25) rfl rfl ?_
  refine g_getv (n := 28) (ci := 4) (j := 2) (v := nI m) (by first | exact if_pos ⟨rfl, rfl⟩ | exact (if_neg (by omega)).trans (if_pos ⟨rfl, rfl⟩) | exact (if_neg (by omega)).trans ((if_neg (by omega)).trans (if_pos ⟨rfl, rfl⟩))) rfl (by decide +kernel) rfl (by decide) (gr_hd hG) ?_
  refine g_cv1 (n := 31) (t := 30) (ci := 7) rfl (by decide +kernel) (by decide +kernel) (by decide) (by decide) (by decide +kernel) (by rfl) (k_l30 (K := 11) (⟨by decide, by decide, by decide⟩ : isK 11) hm) (by omega) (g_E ?_)
  refine g_top (w := fLoad (nI 4) (nI m)) ((show ∀ m, m < 10 → (20 = fLoad (nI 4) (nI m)) by decide +kernel) m hm) ?_
  refine g_puti (n := 34) (ci := 4) (j := 13) rfl (by decide +kernel) rfl (by decide) (gr_hd hG) (by decide +kernel) rfl ?_
  refine g_aload_n (n := 35) rfl rfl ?_
  refine g_aload_n (n := 36) rfl rfl ?_
  refine g_aload_n (n := 37) rfl rfl ?_
  refine g_getv (n := 40) (ci := 4) (j := 2) (v := nI m) (by first | exact if_pos ⟨rfl, rfl⟩ | exact (if_neg (by omega)).trans (if_pos ⟨rfl, rfl⟩) | exact (if_neg (by omega)).trans ((if_neg (by omega)).trans (if_pos ⟨rfl, rfl⟩))) rfl (by decide +kernel) rfl (by decide) (gr_hd hG) ?_
  refine g_cv1 (n := 43) (t := 31) (ci := 7) rfl (by decide +kernel) (by decide +kernel) (by decide) (by decide) (by decide +kernel) (by rfl) (k_c31 (K := 11) (⟨by decide, by decide, by decide⟩ : isK 11) hm) (by omega) (g_E ?_)
  refine g_top (w := fBack (nI 4) (nI m)) ((show ∀ m, m < 10 → (0 = fBack (nI 4) (nI m)) by decide +kernel) m hm) ?_
  refine g_puti (n := 46) (ci := 4) (j := 14) rfl (by decide +kernel) rfl (by decide) (gr_hd hG) (by decide +kernel) (decide_eq_true (fBack_01 (k := nI 4) (m := nI m))) ?_
  refine g_aload_n (n := 47) rfl rfl ?_
  refine g_aload_n (n := 48) rfl rfl ?_
  refine g_cv0 (n := 51) (t := 63) (ci := 7) rfl (by decide +kernel) (by decide +kernel) (by decide) (by decide) (by decide +kernel) (by rfl) (k_h63 (K := 11)) (by omega) (g_E ?_)
  refine g_top (w := fHears (nI 4)) ((show (0 : Int32) = fHears (nI 4) by decide +kernel)) ?_
  refine g_puti (n := 54) (ci := 4) (j := 15) rfl (by decide +kernel) rfl (by decide) (gr_hd hG) (by decide +kernel) (decide_eq_true (fHears_01 (k := nI 4))) ?_
  refine g_vret (n := 55) rfl ?_
  exact ⟨rfl, rfl, rfl⟩
theorem c_turn_5 {sc : List Value} {nm : Nat} {I : mg_I} {G m : Nat} (hG : isG G) (hm : m < 10) : SP sc 4 37 [.ref G, .ref 12, .int (nI 5), .int (nI m)] I nm (qZ (tnM I G 5 m) nm) := by
  refine SP.of (h := 3) (t := 37) (q := (yX4_turnInto, cX4_turnInto, 4, none, 4, 439, mi_k37)) rfl (by decide) (show ¬ (4 : Nat) < 4 by decide) (fun d hd => ?_)
  show GG sc 4 false false mi_k37 d 0 [.ref G, .ref 12, .int (nI 5), .int (nI m)] [] I nm (qZ (tnM I G 5 m) nm)
  refine g_aload_n (n := 1) rfl rfl ?_
  refine g_iload_n (n := 2) rfl rfl ?_
  refine g_puti (n := 5) (ci := 4) (j := 1) rfl (by decide +kernel) rfl (by decide) (gr_hd hG) (by decide +kernel) rfl ?_
  refine g_aload_n (n := 6) rfl rfl ?_
  refine g_iload_n (n := 7) rfl rfl ?_
  refine g_puti (n := 10) (ci := 4) (j := 2) rfl (by decide +kernel) rfl (by decide) (gr_hd hG) (by decide +kernel) rfl ?_
  refine g_aload_n (n := 11) rfl rfl ?_
  refine g_aload_n (n := 12) rfl rfl ?_
  refine g_aload_n (n := 13) rfl rfl ?_
  refine g_getv (n := 16) (ci := 4) (j := 2) (v := nI m) (by first | exact if_pos ⟨rfl, rfl⟩ | exact (if_neg (by omega)).trans (if_pos ⟨rfl, rfl⟩) | exact (if_neg (by omega)).trans ((if_neg (by omega)).trans (if_pos ⟨rfl, rfl⟩))) rfl (by decide +kernel) rfl (by decide) (gr_hd hG) ?_
  refine g_cv1 (n := 19) (t := 46) (ci := 5) rfl (by decide +kernel) (by decide +kernel) (by decide) (by decide) (by decide +kernel) (by rfl) (k_p46 (K := 12) (⟨by decide, by decide, by decide⟩ : isK 12) hm) (by omega) (g_E ?_)
  refine g_top (w := fPace (nI 5) (nI m)) ((show ∀ m, m < 10 → (1 + (nI m - nI m / 3 * 3) = fPace (nI 5) (nI m)) by decide +kernel) m hm) ?_
  refine g_puti (n := 22) (ci := 4) (j := 12) rfl (by decide +kernel) rfl (by decide) (gr_hd hG) (by decide +kernel) rfl ?_
  refine g_aload_n (n := 23) rfl rfl ?_
  refine g_aload_n (n := 24) rfl rfl ?_
  refine g_aload_n (n := 25) rfl rfl ?_
  refine g_getv (n := 28) (ci := 4) (j := 2) (v := nI m) (by first | exact if_pos ⟨rfl, rfl⟩ | exact (if_neg (by omega)).trans (if_pos ⟨rfl, rfl⟩) | exact (if_neg (by omega)).trans ((if_neg (by omega)).trans (if_pos ⟨rfl, rfl⟩))) rfl (by decide +kernel) rfl (by decide) (gr_hd hG) ?_
  refine g_cv1 (n := 31) (t := 47) (ci := 5) rfl (by decide +kernel) (by decide +kernel) (by decide) (by decide) (by decide +kernel) (by rfl) (k_l47 (K := 12) (⟨by decide, by decide, by decide⟩ : isK 12) hm) (by omega) (g_E ?_)
  refine g_top (w := fLoad (nI 5) (nI m)) ((show ∀ m, m < 10 → (fGoat (nI m) * 2 = fLoad (nI 5) (nI m)) by decide +kernel) m hm) ?_
  refine g_puti (n := 34) (ci := 4) (j := 13) rfl (by decide +kernel) rfl (by decide) (gr_hd hG) (by decide +kernel) rfl ?_
  refine g_aload_n (n := 35) rfl rfl ?_
  refine g_aload_n (n := 36) rfl rfl ?_
  refine g_aload_n (n := 37) rfl rfl ?_
  refine g_getv (n := 40) (ci := 4) (j := 2) (v := nI m) (by first | exact if_pos ⟨rfl, rfl⟩ | exact (if_neg (by omega)).trans (if_pos ⟨rfl, rfl⟩) | exact (if_neg (by omega)).trans ((if_neg (by omega)).trans (if_pos ⟨rfl, rfl⟩))) rfl (by decide +kernel) rfl (by decide) (gr_hd hG) ?_
  refine g_cv1 (n := 43) (t := 80) (ci := 5) rfl (by decide +kernel) (by decide +kernel) (by decide) (by decide) (by decide +kernel) (by rfl) (k_c80 (K := 12) (⟨by decide, by decide, by decide⟩ : isK 12) hm) (by omega) (g_E ?_)
  refine g_top (w := fBack (nI 5) (nI m)) ((show ∀ m, m < 10 → (1 = fBack (nI 5) (nI m)) by decide +kernel) m hm) ?_
  refine g_puti (n := 46) (ci := 4) (j := 14) rfl (by decide +kernel) rfl (by decide) (gr_hd hG) (by decide +kernel) (decide_eq_true (fBack_01 (k := nI 5) (m := nI m))) ?_
  refine g_aload_n (n := 47) rfl rfl ?_
  refine g_aload_n (n := 48) rfl rfl ?_
  refine g_cv0 (n := 51) (t := 81) (ci := 5) rfl (by decide +kernel) (by decide +kernel) (by decide) (by decide) (by decide +kernel) (by rfl) (k_h81 (K := 12)) (by omega) (g_E ?_)
  refine g_top (w := fHears (nI 5)) ((show (1 : Int32) = fHears (nI 5) by decide +kernel)) ?_
  refine g_puti (n := 54) (ci := 4) (j := 15) rfl (by decide +kernel) rfl (by decide) (gr_hd hG) (by decide +kernel) (decide_eq_true (fHears_01 (k := nI 5))) ?_
  refine g_vret (n := 55) rfl ?_
  exact ⟨rfl, rfl, rfl⟩
theorem c_turn_6 {sc : List Value} {nm : Nat} {I : mg_I} {G m : Nat} (hG : isG G) (hm : m < 10) : SP sc 4 37 [.ref G, .ref 13, .int (nI 6), .int (nI m)] I nm (qZ (tnM I G 6 m) nm) := by
  refine SP.of (h := 3) (t := 37) (q := (yX4_turnInto, cX4_turnInto, 4, none, 4, 439, mi_k37)) rfl (by decide) (show ¬ (4 : Nat) < 4 by decide) (fun d hd => ?_)
  show GG sc 4 false false mi_k37 d 0 [.ref G, .ref 13, .int (nI 6), .int (nI m)] [] I nm (qZ (tnM I G 6 m) nm)
  refine g_aload_n (n := 1) rfl rfl ?_
  refine g_iload_n (n := 2) rfl rfl ?_
  refine g_puti (n := 5) (ci := 4) (j := 1) rfl (by decide +kernel) rfl (by decide) (gr_hd hG) (by decide +kernel) rfl ?_
  refine g_aload_n (n := 6) rfl rfl ?_
  refine g_iload_n (n := 7) rfl rfl ?_
  refine g_puti (n := 10) (ci := 4) (j := 2) rfl (by decide +kernel) rfl (by decide) (gr_hd hG) (by decide +kernel) rfl ?_
  refine g_aload_n (n := 11) rfl rfl ?_
  refine g_aload_n (n := 12) rfl rfl ?_
  refine g_aload_n (n := 13) rfl rfl ?_
  refine g_getv (n := 16) (ci := 4) (j := 2) (v := nI m) (by first | exact if_pos ⟨rfl, rfl⟩ | exact (if_neg (by omega)).trans (if_pos ⟨rfl, rfl⟩) | exact (if_neg (by omega)).trans ((if_neg (by omega)).trans (if_pos ⟨rfl, rfl⟩))) rfl (by decide +kernel) rfl (by decide) (gr_hd hG) ?_
  refine g_cv1 (n := 19) (t := 78) (ci := 0) rfl (by decide +kernel) (by decide +kernel) (by decide) (by decide) (by decide +kernel) (by rfl) (k_p78 (K := 13) (⟨by decide, by decide, by decide⟩ : isK 13) hm) (by omega) (g_E ?_)
  refine g_top (w := fPace (nI 6) (nI m)) ((show ∀ m, m < 10 → (1 = fPace (nI 6) (nI m)) by decide +kernel) m hm) ?_
  refine g_puti (n := 22) (ci := 4) (j := 12) rfl (by decide +kernel) rfl (by decide) (gr_hd hG) (by decide +kernel) rfl ?_
  refine g_aload_n (n := 23) rfl rfl ?_
  refine g_aload_n (n := 24) rfl rfl ?_
  refine g_aload_n (n := 25) rfl rfl ?_
  refine g_getv (n := 28) (ci := 4) (j := 2) (v := nI m) (by first | exact if_pos ⟨rfl, rfl⟩ | exact (if_neg (by omega)).trans (if_pos ⟨rfl, rfl⟩) | exact (if_neg (by omega)).trans ((if_neg (by omega)).trans (if_pos ⟨rfl, rfl⟩))) rfl (by decide +kernel) rfl (by decide) (gr_hd hG) ?_
  refine g_cv1 (n := 31) (t := 1) (ci := 0) rfl (by decide +kernel) (by decide +kernel) (by decide) (by decide) (by decide +kernel) (by rfl) (k_l1 (K := 13) (⟨by decide, by decide, by decide⟩ : isK 13) hm) (by omega) (g_E ?_)
  refine g_top (w := fLoad (nI 6) (nI m)) ((show ∀ m, m < 10 → (9 = fLoad (nI 6) (nI m)) by decide +kernel) m hm) ?_
  refine g_puti (n := 34) (ci := 4) (j := 13) rfl (by decide +kernel) rfl (by decide) (gr_hd hG) (by decide +kernel) rfl ?_
  refine g_aload_n (n := 35) rfl rfl ?_
  refine g_aload_n (n := 36) rfl rfl ?_
  refine g_aload_n (n := 37) rfl rfl ?_
  refine g_getv (n := 40) (ci := 4) (j := 2) (v := nI m) (by first | exact if_pos ⟨rfl, rfl⟩ | exact (if_neg (by omega)).trans (if_pos ⟨rfl, rfl⟩) | exact (if_neg (by omega)).trans ((if_neg (by omega)).trans (if_pos ⟨rfl, rfl⟩))) rfl (by decide +kernel) rfl (by decide) (gr_hd hG) ?_
  refine g_cv1 (n := 43) (t := 88) (ci := 0) rfl (by decide +kernel) (by decide +kernel) (by decide) (by decide) (by decide +kernel) (by rfl) (k_c88 (K := 13) (⟨by decide, by decide, by decide⟩ : isK 13) hm) (by omega) (g_E ?_)
  refine g_top (w := fBack (nI 6) (nI m)) ((show ∀ m, m < 10 → (bI (nI m - nI m / 2 * 2 = 1) = fBack (nI 6) (nI m)) by decide +kernel) m hm) ?_
  refine g_puti (n := 46) (ci := 4) (j := 14) rfl (by decide +kernel) rfl (by decide) (gr_hd hG) (by decide +kernel) (decide_eq_true (fBack_01 (k := nI 6) (m := nI m))) ?_
  refine g_aload_n (n := 47) rfl rfl ?_
  refine g_aload_n (n := 48) rfl rfl ?_
  refine g_cv0 (n := 51) (t := 2) (ci := 0) rfl (by decide +kernel) (by decide +kernel) (by decide) (by decide) (by decide +kernel) (by rfl) (k_h2 (K := 13)) (by omega) (g_E ?_)
  refine g_top (w := fHears (nI 6)) ((show (0 : Int32) = fHears (nI 6) by decide +kernel)) ?_
  refine g_puti (n := 54) (ci := 4) (j := 15) rfl (by decide +kernel) rfl (by decide) (gr_hd hG) (by decide +kernel) (decide_eq_true (fHears_01 (k := nI 6))) ?_
  refine g_vret (n := 55) rfl ?_
  exact ⟨rfl, rfl, rfl⟩
theorem c_turn {sc : List Value} {nm : Nat} {I : mg_I} {G k m : Nat} (hG : isG G) (hk : k < 7) (hm : m < 10) : SP sc 4 37 [.ref G, .ref (7 + k), .int (nI k), .int (nI m)] I nm (qZ (tnM I G k m) nm) := by
  obtain rfl | rfl | rfl | rfl | rfl | rfl | rfl : k = 0 ∨ k = 1 ∨ k = 2 ∨ k = 3 ∨ k = 4 ∨ k = 5 ∨ k = 6 := by omega
  · exact c_turn_0 hG hm
  · exact c_turn_1 hG hm
  · exact c_turn_2 hG hm
  · exact c_turn_3 hG hm
  · exact c_turn_4 hG hm
  · exact c_turn_5 hG hm
  · exact c_turn_6 hG hm
