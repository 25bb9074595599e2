/-! the law's loop, from its start to its end -/
set_option maxRecDepth 20000 in
theorem lw_acts {L i d nm : Nat} {xs : Nat → Int32} {I : mg_I} {Q : Option Value → mg_I → Nat → Prop} (hd : 60 ≤ d) (hi : i + 6 ≤ L) (hL3 : L ≤ 3072) (hL : LI I) (hk : lk L xs d i Q) : GG (mi_sc L xs) 13 false true mi_k231 d 27 [.ref 0, .ref 5, .ref 124, .int (nI i)] [] I nm Q := by
  refine g_aload_n (n := 28) rfl rfl ?_
  refine g_iload_n (n := 29) rfl rfl ?_
  refine g_sld (n := 30) i rfl (by omega) (by omega) ?_
  refine g_bipush (n := 32) (v := 63) rfl rfl ?_
  refine g_iand (n := 33) rfl ?_
  by_cases h : 0 ≤ (xs i &&& 63).toInt ∧ (xs i &&& 63).toInt ≤ 34
  · obtain ⟨k, hk35, e, -⟩ := iR_nI (x := xs i &&& 63) (n := 35) ⟨by omega, by omega⟩
    rcases (show k = 0 ∨ k = 1 ∨ k = 2 ∨ k = 3 ∨ k = 4 ∨ k = 5 ∨ k = 6 ∨ k = 7 ∨ k = 8 ∨ k = 9 ∨ k = 10 ∨ k = 11 ∨ k = 12 ∨ k = 13 ∨ k = 14 ∨ k = 15 ∨ k = 16 ∨ k = 17 ∨ k = 18 ∨ k = 19 ∨ k = 20 ∨ k = 21 ∨ k = 22 ∨ k = 23 ∨ k = 24 ∨ k = 25 ∨ k = 26 ∨ k = 27 ∨ k = 28 ∨ k = 29 ∨ k = 30 ∨ k = 31 ∨ k = 32 ∨ k = 33 ∨ k = 34 by omega) with rfl | rfl | rfl | rfl | rfl | rfl | rfl | rfl | rfl | rfl | rfl | rfl | rfl | rfl | rfl | rfl | rfl | rfl | rfl | rfl | rfl | rfl | rfl | rfl | rfl | rfl | rfl | rfl | rfl | rfl | rfl | rfl | rfl | rfl | rfl
    · refine g_top (w := 0) e ?_
      refine g_tab 188 rfl (by decide) (by decide) rfl (by decide) ?_
      exact lw_op0 hd hi hL3 hL hk
    · refine g_top (w := 1) e ?_
      refine g_tab 221 rfl (by decide) (by decide) rfl (by decide) ?_
      exact lw_op1 hd hi hL3 hL hk
    · refine g_top (w := 2) e ?_
      refine g_tab 254 rfl (by decide) (by decide) rfl (by decide) ?_
      exact lw_op2 hd hi hL3 hL hk
    · refine g_top (w := 3) e ?_
      refine g_tab 307 rfl (by decide) (by decide) rfl (by decide) ?_
      exact lw_op3 hd hi hL3 hL hk
    · refine g_top (w := 4) e ?_
      refine g_tab 340 rfl (by decide) (by decide) rfl (by decide) ?_
      exact lw_op4 hd hi hL3 hL hk
    · refine g_top (w := 5) e ?_
      refine g_tab 373 rfl (by decide) (by decide) rfl (by decide) ?_
      exact lw_op5 hd hi hL3 hL hk
    · refine g_top (w := 6) e ?_
      refine g_tab 406 rfl (by decide) (by decide) rfl (by decide) ?_
      exact lw_op6 hd hi hL3 hL hk
    · refine g_top (w := 7) e ?_
      refine g_tab 439 rfl (by decide) (by decide) rfl (by decide) ?_
      exact lw_op7 hd hi hL3 hL hk
    · refine g_top (w := 8) e ?_
      refine g_tab 462 rfl (by decide) (by decide) rfl (by decide) ?_
      exact lw_op8 hd hi hL3 hL hk
    · refine g_top (w := 9) e ?_
      refine g_tab 525 rfl (by decide) (by decide) rfl (by decide) ?_
      exact lw_op9 hd hi hL3 hL hk
    · refine g_top (w := 10) e ?_
      refine g_tab 548 rfl (by decide) (by decide) rfl (by decide) ?_
      exact lw_op10 hd hi hL3 hL hk
    · refine g_top (w := 11) e ?_
      refine g_tab 601 rfl (by decide) (by decide) rfl (by decide) ?_
      exact lw_op11 hd hi hL3 hL hk
    · refine g_top (w := 12) e ?_
      refine g_tab 624 rfl (by decide) (by decide) rfl (by decide) ?_
      exact lw_op12 hd hi hL3 hL hk
    · refine g_top (w := 13) e ?_
      refine g_tab 647 rfl (by decide) (by decide) rfl (by decide) ?_
      exact lw_op13 hd hi hL3 hL hk
    · refine g_top (w := 14) e ?_
      refine g_tab 690 rfl (by decide) (by decide) rfl (by decide) ?_
      exact lw_op14 hd hi hL3 hL hk
    · refine g_top (w := 15) e ?_
      refine g_tab 703 rfl (by decide) (by decide) rfl (by decide) ?_
      exact lw_op15 hd hi hL3 hL hk
    · refine g_top (w := 16) e ?_
      refine g_tab 716 rfl (by decide) (by decide) rfl (by decide) ?_
      exact lw_op16 hd hi hL3 hL hk
    · refine g_top (w := 17) e ?_
      refine g_tab 749 rfl (by decide) (by decide) rfl (by decide) ?_
      exact lw_op17 hd hi hL3 hL hk
    · refine g_top (w := 18) e ?_
      refine g_tab 772 rfl (by decide) (by decide) rfl (by decide) ?_
      exact lw_op18 hd hi hL3 hL hk
    · refine g_top (w := 19) e ?_
      refine g_tab 795 rfl (by decide) (by decide) rfl (by decide) ?_
      exact lw_op19 hd hi hL3 hL hk
    · refine g_top (w := 20) e ?_
      refine g_tab 818 rfl (by decide) (by decide) rfl (by decide) ?_
      exact lw_op20 hd hi hL3 hL hk
    · refine g_top (w := 21) e ?_
      refine g_tab 831 rfl (by decide) (by decide) rfl (by decide) ?_
      exact lw_op21 hd hi hL3 hL hk
    · refine g_top (w := 22) e ?_
      refine g_tab 854 rfl (by decide) (by decide) rfl (by decide) ?_
      exact lw_op22 hd hi hL3 hL hk
    · refine g_top (w := 23) e ?_
      refine g_tab 897 rfl (by decide) (by decide) rfl (by decide) ?_
      exact lw_op23 hd hi hL3 hL hk
    · refine g_top (w := 24) e ?_
      refine g_tab 920 rfl (by decide) (by decide) rfl (by decide) ?_
      exact lw_op24 hd hi hL3 hL hk
    · refine g_top (w := 25) e ?_
      refine g_tab 963 rfl (by decide) (by decide) rfl (by decide) ?_
      exact lw_op25 hd hi hL3 hL hk
    · refine g_top (w := 26) e ?_
      refine g_tab 1006 rfl (by decide) (by decide) rfl (by decide) ?_
      exact lw_op26 hd hi hL3 hL hk
    · refine g_top (w := 27) e ?_
      refine g_tab 1069 rfl (by decide) (by decide) rfl (by decide) ?_
      exact lw_op27 hd hi hL3 hL hk
    · refine g_top (w := 28) e ?_
      refine g_tab 1092 rfl (by decide) (by decide) rfl (by decide) ?_
      exact lw_op28 hd hi hL3 hL hk
    · refine g_top (w := 29) e ?_
      refine g_tab 1115 rfl (by decide) (by decide) rfl (by decide) ?_
      exact lw_op29 hd hi hL3 hL hk
    · refine g_top (w := 30) e ?_
      refine g_tab 1128 rfl (by decide) (by decide) rfl (by decide) ?_
      exact lw_op30 hd hi hL3 hL hk
    · refine g_top (w := 31) e ?_
      refine g_tab 1141 rfl (by decide) (by decide) rfl (by decide) ?_
      exact lw_op31 hd hi hL3 hL hk
    · refine g_top (w := 32) e ?_
      refine g_tab 1164 rfl (by decide) (by decide) rfl (by decide) ?_
      exact lw_op32 hd hi hL3 hL hk
    · refine g_top (w := 33) e ?_
      refine g_tab 1177 rfl (by decide) (by decide) rfl (by decide) ?_
      exact lw_op33 hd hi hL3 hL hk
    · refine g_top (w := 34) e ?_
      refine g_tab 1200 rfl (by decide) (by decide) rfl (by decide) ?_
      exact lw_op34 hd hi hL3 hL hk
  · refine g_tabo 1223 rfl (by omega) (by decide) ?_
    exact hk I nm hL
theorem sub6 {L : Nat} (h : L ≤ 3072) : (nI L - 6).toInt = (L : Int) - 6 := by
  rw [Int32.toInt_sub, nI_toInt (by omega)]
  exact Int.bmod_eq_of_le (by show -((2 ^ 32 : Nat) / 2 : Int) ≤ (L : Int) - 6; omega) (by show (L : Int) - 6 < ((2 ^ 32 : Nat) + 1) / 2; omega)
set_option maxRecDepth 20000 in
theorem lw_loop {L d : Nat} {xs : Nat → Int32} (hd : 60 ≤ d) (hL3 : L ≤ 3072) : ∀ (m i : Nat) (I : mg_I) (nm : Nat), LI I → i ≤ L + 6 → L < i + 6 * m → GG (mi_sc L xs) 13 false true mi_k231 d 18 [.ref 0, .ref 5, .ref 124, .int (nI i)] [] I nm (fun r _ _ => r = some (.int 1)) := by
  intro m
  induction m with
  | zero =>
    intro i I nm hL hi hm
    refine g_iload_n (n := 19) rfl rfl ?_
    refine g_aload_n (n := 20) rfl rfl ?_
    refine g_slen (n := 21) rfl ?_
    refine g_bipush (n := 23) (v := 6) rfl rfl ?_
    refine g_isub (n := 24) rfl ?_
    refine g_icgt (n := 27) 1229 rfl (by decide) (fun h1 => ?_) (fun h1 => ?_)
    · refine g_iconst (n := 1230) (v := 1) rfl rfl ?_
      refine g_iret (n := 1231) rfl (fun _ => by first | exact Or.inl rfl | exact Or.inr rfl) ?_
      rfl
    · refine absurd (Int32.lt_iff_toInt_lt.mpr ?_) h1
      rw [sub6 hL3, nI_toInt (by omega)]; omega
  | succ m ih =>
    intro i I nm hL hi hm
    refine g_iload_n (n := 19) rfl rfl ?_
    refine g_aload_n (n := 20) rfl rfl ?_
    refine g_slen (n := 21) rfl ?_
    refine g_bipush (n := 23) (v := 6) rfl rfl ?_
    refine g_isub (n := 24) rfl ?_
    refine g_icgt (n := 27) 1229 rfl (by decide) (fun h1 => ?_) (fun h1 => ?_)
    · refine g_iconst (n := 1230) (v := 1) rfl rfl ?_
      refine g_iret (n := 1231) rfl (fun _ => by first | exact Or.inl rfl | exact Or.inr rfl) ?_
      rfl
    · have h2 := Int32.le_iff_toInt_le.mp (Int32.not_lt.mp h1)
      rw [sub6 hL3, nI_toInt (by omega)] at h2
      refine lw_acts hd (by omega) hL3 hL (fun J nm' hJ => ?_)
      refine g_iinc3 (n := 1226) (y := nI (i + 6)) rfl rfl (nI_plus i 6) ?_
      refine g_goto 18 rfl (by decide) ?_
      exact ih (i + 6) J nm' hJ (by omega) (by omega)
/-- the start -/
theorem z0 : ∀ j, j < 286 → 34 ≤ j → mf_0 125 j = 0 := by decide +kernel
theorem z1 : ∀ j, j < 10 → j ≠ 4 → mf_0 125 j = 0 := by decide +kernel
theorem z2 : ∀ y, y < 24 → mf_0 125 (10 + y) = 1 := by decide +kernel
theorem zO {g w : Nat} (hg : g < 8) (hw : w < 10) : fO (mf_0 125) g w = 0 := z0 _ (by omega) (by omega)
theorem iR_z {n : Nat} (h : 0 < n) : iR 0 n := ⟨by decide, by rw [show Int32.toInt 0 = 0 by decide]; omega⟩
theorem zN : fN (mf_0 125) = 0 := by
  show cl (mf_0 125 0) = 0
  rw [z1 0 (by omega) (by omega)]
  rfl
theorem zL : ∀ m, m ≤ 24 → nL (mf_0 125) m = 0 := by
  intro m
  induction m with
  | zero => intro _; exact nL_z
  | succ m ih =>
    intro hm
    rw [nL_0 (show ¬ 1 < mf_0 125 (10 + m) by rw [z2 m (by omega)]; decide)]
    exact ih (by omega)
theorem gI_0 : gI (mf_0 125) := by
  refine ⟨⟨⟨?_, ?_, ?_, fun g hg => ⟨?_, ?_, fun q => ?_⟩⟩, fun g hg => ?_, ?_, ?_⟩, fun g hg => ⟨?_, ?_⟩, ?_, fun g hg => ?_, ?_, ?_, ?_, fun k hk => ?_, fun h h1 h2 => ?_⟩
  · rw [z1 0 (by omega) (by omega)]; exact iR_z (by omega)
  · rw [z0 114 (by omega) (by omega)]; exact iR_z (by omega)
  · rw [z0 115 (by omega) (by omega)]; exact iR_z (by omega)
  · rw [zO hg (by omega)]; exact Or.inl rfl
  · rw [zO hg (by omega)]; exact iR_z (by omega)
  · rw [zO hg (by omega)]; exact iR_z (by omega)
  · rw [zO hg (by omega)]; exact Or.inl rfl
  · rw [z1 3 (by omega) (by omega)]; exact iR_z (by omega)
  · rw [z1 5 (by omega) (by omega)]; exact iR_z (by omega)
  · rw [zO hg (by omega)]; exact iR_z (by omega)
  · rw [zO hg (by omega)]; decide
  · rw [z1 1 (by omega) (by omega)]; exact iR_z (by omega)
  · rw [zO hg (by omega)]; exact iR_z (by omega)
  · rw [zL 24 (by omega)]; omega
  · rw [z1 6 (by omega) (by omega)]; exact iR_z (by omega)
  · rw [z1 7 (by omega) (by omega)]; exact iR_z (by omega)
  · rw [z0 (236 + k) (by omega) (by omega)]; exact iR_z (by omega)
  · unfold fTb
    rw [z1 5 (by omega) (by omega)]
    exact bI_f (by rw [show cl 0 = 0 from rfl, Nat.zero_testBit]; decide)
theorem aK_14 : aK mf_0 14 := by unfold aK; decide +kernel
theorem aK_44 : aK mf_0 44 := by unfold aK; decide +kernel
theorem aK_74 : aK mf_0 74 := by unfold aK; decide +kernel
theorem tK_0 {u : Nat} (hu : u < 2) : tK mf_0 (14 + 16 + 7 * u) (mf_0 125) u := by
  refine ⟨1, by omega, (show ∀ u, u < 2 → mf_0 (14 + 16 + 7 * u + 1) 1 = nI 1 by decide +kernel) u hu, fun a b c => ?_⟩
  rw [show cEv (mf_0 (14 + 16 + 7 * u + 2)) (n3 a b c) 1 = eS (n3 a b c) [] (mf_0 (14 + 16 + 7 * u + 2) 0) from rfl, (show ∀ u, u < 2 → mf_0 (14 + 16 + 7 * u + 2) 0 = -1 by decide +kernel) u hu]
  unfold eS fGive
  rw [if_neg (show ¬ (0 : Int32) ≤ -1 by decide), if_pos (show (-3 : Int32) ≤ -1 by decide), if_pos rfl, z0 (114 + u) (by omega) (by omega), if_neg (by decide)]
  rfl
theorem RC_0 : RC mf_0 (mf_0 125) := by
  refine ⟨⟨(show ∀ j, j < 5 → mf_0 14 (j + 2) = mf_0 125 j by decide +kernel), (show ∀ y, y < 24 → mf_0 (14 + 1) y = mf_0 125 (10 + y) by decide +kernel), fun g hg => ?_, fun g hg => ?_, aK_14, fun u hu => tK_0 hu, gI_0.1.1.1⟩, ⟨0, 0, by omega, by omega, z1 6 (by omega) (by omega), z1 7 (by omega) (by omega), (by decide +kernel), (by decide +kernel), fun k hk => absurd hk (by omega), fun k hk => absurd hk (by omega)⟩, aK_44⟩
  · rw [zN] at hg; exact absurd hg (by omega)
  · rw [zN] at hg; exact absurd hg (by omega)
theorem LI_0 : LI mf_0 := by
  refine ⟨RC_0, gI_0, fun k h1 h2 => (show ∀ k, k < 6 → mf_0 123 k = mf_0 128 k by decide +kernel) k h2, ⟨aK_74, by decide +kernel, fun q => absurd (show mf_0 5 4 = 0 by decide +kernel) q⟩, ⟨0, by omega, by decide +kernel, by decide +kernel, fun k hk => absurd hk (by omega)⟩, fun s hs => ⟨(show ∀ s, s < 4 → mf_0 122 s = mf_0 132 s by decide +kernel) s hs, 0, by omega, (show ∀ s, s < 4 → mf_0 (114 + 2 * s) 1 = nI 0 by decide +kernel) s hs, (show ∀ s, s < 4 → mf_0 133 s = nI 0 by decide +kernel) s hs, fun i hi => absurd hi (by omega)⟩⟩
theorem mi_st_le {f g : mi_F} (h : mi_le f g) {own : Nat} {ini rz : Bool} {code : List (Nat × Instr)} : ∀ (k pc : Nat) (ls st : List Value) (mem : mi_M) (q : Nat × List Value × List Value × mi_M), mi_st f own ini rz code k pc ls st mem = some q → mi_st g own ini rz code k pc ls st mem = some q := by
  intro k
  induction k with
  | zero => intro pc ls st mem q hq; exact hq
  | succ k ih =>
    intro pc ls st mem q hq
    unfold mi_st at hq ⊢
    obtain ⟨i, hi, h2⟩ := Option.bind_eq_some_iff.mp hq
    rw [hi, Option.bind_some]
    split at h2
    · cases h2
    next hr =>
      obtain ⟨y, hy, h3⟩ := Option.bind_eq_some_iff.mp h2
      rw [mi_one_le h hy, Option.bind_some]
      exact ih _ _ _ _ q h3
theorem mf_room : ((List.range 131).map (fun k => mf_sz (k + 5))).sum ≤ 100000 := by decide +kernel
theorem mf_sl {I : mg_I} {nm L : Nat} {xs : Nat → Int32} : mi_sl (mf_M I nm (mi_sc L xs)) = L + 13 + ((List.range 131).map (fun k => mf_sz (k + 5))).sum := by
  unfold mi_sl mf_M
  rw [List.map_append, List.sum_append, List.map_map]
  have hl : (mi_sc L xs).length = L := by unfold mi_sc; rw [List.length_map, List.length_range]
  have e1 : (List.map (fun c : Nat × List Value => c.2.length) (mi_spec (mi_sc L xs))).sum = L + 13 := by
    show (mi_sc L xs).length + (0 + (3 + (3 + (7 + 0)))) = L + 13
    rw [hl]
  rw [e1]
  refine congrArg (fun z => L + 13 + z) (congrArg List.sum (List.map_congr_left fun k _ => ?_))
  exact mf_clen
theorem whole_pure (L : Nat) (xs : Nat → Int32) (hL3 : L ≤ 3072) : mi_pure L xs := by
  obtain ⟨N, n, r, I', nm', h1, rfl⟩ := lw_loop (L := L) (d := 1000) (xs := xs) (by omega) hL3 (L + 1) 0 mf_0 1 LI_0 (by omega) (by omega)
  refine ⟨N + n + 410, mf_M I' nm' (mi_sc L xs), ?_, by rw [mf_len]; omega, by rw [mf_sl]; have := mf_room; omega⟩
  have h2 := mi_st_le (mi_run_le (N := 400) (N' := N + n + 410) (by omega) 8 1000 (by omega)) _ _ _ _ _ _ (mf_begin (mi_sc L xs))
  have h3 := mi_st_go 10 n _ _ _ _ _ h2
  have h4 := mi_go_le (mi_run_le (N := N) (N' := N + n + 410) (by omega) 1000 1000 (Nat.le_refl _)) n n _ _ _ _ _ (Nat.le_refl _) h1
  exact mi_go_le (fun _ _ _ _ hq => hq) (n + 10) (N + n + 410) _ _ _ _ _ (by omega) (h3.trans h4)
