/-! the class: a text taken -/
theorem kRun_len {b : Nat → Int32} {n : Nat} {t : Int32} : ∀ m i s, i + m = n → kInv i s → (kRun b n t m i s).2.length ≤ n := by
  intro m
  induction m with
  | zero =>
    rintro i ⟨cd, P, o, dg, wt⟩ hi hk
    have h1 : cd.length + P.length ≤ i := hk.1
    have h2 := (kRel_len (L := 1) P cd o).1
    show (kFin n (cd, P, o, dg, wt)).2.length ≤ n
    unfold kFin
    split
    · show cd.length ≤ n; omega
    · split
      · show (kRel 1 P cd o).1.length ≤ n; omega
      · show cd.length ≤ n; omega
  | succ m ih =>
    intro i s hi hk
    rw [kRun]
    cases hs : kSt t (b i) s with
    | none => have h1 := hk.1; show s.1.length ≤ n; omega
    | some s' => exact ih (i + 1) s' (by omega) (kInv_s hs hk)
theorem kInv_0 : kInv 0 kC0 := ⟨Nat.le_refl _, fun q => absurd (show (1 : Int32) ≤ 0 from q) (by decide)⟩
theorem kRun_n0 {b : Nat → Int32} {t : Int32} : (kRun b 0 t 0 0 kC0).1 = 0 := rfl
/-- the text's value, once taken -/
theorem tK_new {M : mg_I} {T u n : Nat} {d : Nat → Int32} {q : Int32 × List Int32} (hu : u < 2) (hn : n ≤ 50) (hq : kRun (fun i => d (236 + i)) n (nI u) n 0 kC0 = q) (h1 : q.1 = -1) (e1 : M (T + 1) 1 = nI q.2.length) (e2 : ∀ i, i < q.2.length → M (T + 2) i = q.2.getD i 0) : tK M T (dTx d u n n) u := by
  have hl : q.2.length ≤ n := by rw [← hq]; exact kRun_len n 0 kC0 (by omega) kInv_0
  have hn0 : 0 < n := by
    rcases Nat.eq_zero_or_pos n with e | e
    · subst e
      rw [← hq] at h1
      exact absurd (kRun_n0.symm.trans h1) (by decide)
    · exact e
  refine ⟨q.2.length, by omega, e1, fun a b c => ?_⟩
  rw [cEv_eE e2, ← hq]
  rw [(kText (b := fun i => d (236 + i)) (t := nI u) (nm3 := n3 a b c) hn).2 (by rw [hq]; exact h1)]
  have e114 : dTx d u n n (114 + u) = nI n := by
    unfold dTx
    rw [if_neg (by omega), if_pos rfl]
  unfold fGive
  rw [e114, if_pos (show (0 : Int32) < nI n from nI_lt (a := 0) hn0 (by omega)), show (nI n).toNatClampNeg = n from nI_clamp (by omega)]
  refine congrArg Prod.fst (fW_c fun i hi => ?_)
  show d (236 + i) = dTx d u n n (136 + 50 * u + i)
  unfold dTx
  rw [if_pos (by omega), show 136 + 50 * u + i - (136 + 50 * u) = i by omega]
theorem dTx_o {d : Nat → Int32} {u n c j : Nat} (h1 : ¬ (136 + 50 * u ≤ j ∧ j < 136 + 50 * u + c)) (h2 : j ≠ 114 + u) (h3 : j ≠ 6) : dTx d u n c j = d j := by
  unfold dTx
  rw [if_neg h1, if_neg h2, if_neg h3]
/-- the class with the tape cleared and a text taken -/
theorem RC_text {I M : mg_I} {u n : Nat} {d : Nat → Int32} (hw : gW d) (hC : RC I d) (hu : u < 2) (hn : n ≤ 50) (h25 : M 25 1 = 0) (hK : tK M (14 + 16 + 7 * u) (dTx d u n n) u) (hF : ∀ a j, 14 ≤ a → a < 74 → ¬ (a = 25 ∧ j = 1) → a ≠ 14 + 16 + 7 * u + 1 → a ≠ 14 + 16 + 7 * u + 2 → M a j = I a j) : RC M (dTx d u n n) := by
  obtain ⟨⟨h1, h2, h3, h4, ⟨h5, h6, h7, h8, h9⟩, h10, h11⟩, ⟨a6, a7, hn6, hn7, e6, e7, t1, t2, t3, t4⟩, hA⟩ := hC
  have hN := (fN_eq h11).2
  have eO : ∀ g w, g < 8 → w < 10 → fO (dTx d u n n) g w = fO d g w := fun g w hg hw => dTx_o (by omega) (by omega) (by omega)
  have eN : fN (dTx d u n n) = fN d := by unfold fN; rw [dTx_o (by omega) (by omega) (by omega)]
  refine ⟨⟨fun j hj => ?_, fun y hy => ?_, fun k hk v hv => ?_, fun k hk => ?_, ⟨fun k hk => ?_, ?_, ?_, ?_, ?_⟩, fun v hv => ?_, ?_⟩, ⟨0, a7, by omega, hn7, ?_, ?_, h25, ?_, fun k hk => absurd hk (by omega), fun k hk => ?_⟩, aK_cg (fun a j q1 q2 => hF a j (by omega) (by omega) (by omega) (by omega) (by omega)) hA⟩
  · rw [dTx_o (by omega) (by omega) (by omega)]; exact (hF _ _ (by omega) (by omega) (by omega) (by omega) (by omega)).trans (h1 j hj)
  · rw [dTx_o (by omega) (by omega) (by omega)]; exact (hF _ _ (by omega) (by omega) (by omega) (by omega) (by omega)).trans (h2 y hy)
  · rw [eN] at hk; rw [eO _ _ (by omega) hv]; exact (hF _ _ (by omega) (by omega) (by omega) (by omega) (by omega)).trans (h3 k hk v hv)
  · rw [eN] at hk
    rw [eO _ _ (by omega) (by omega), eO _ _ (by omega) (by omega), show fTb (dTx d u n n) k = fTb d k by unfold fTb; rw [dTx_o (by omega) (by omega) (by omega)]]
    obtain ⟨q1, q2, q3, q4, q5⟩ := h4 k hk
    exact ⟨(hF _ _ (by omega) (by omega) (by omega) (by omega) (by omega)).trans q1, (hF _ _ (by omega) (by omega) (by omega) (by omega) (by omega)).trans q2, (hF _ _ (by omega) (by omega) (by omega) (by omega) (by omega)).trans q3, (hF _ _ (by omega) (by omega) (by omega) (by omega) (by omega)).trans q4, (hF _ _ (by omega) (by omega) (by omega) (by omega) (by omega)).trans q5⟩
  · exact (hF _ _ (by omega) (by omega) (by omega) (by omega) (by omega)).trans (h5 k hk)
  · exact (hF _ _ (by omega) (by omega) (by omega) (by omega) (by omega)).trans h6
  · exact (hF _ _ (by omega) (by omega) (by omega) (by omega) (by omega)).trans h7
  · exact (hF _ _ (by omega) (by omega) (by omega) (by omega) (by omega)).trans h8
  · exact (hF _ _ (by omega) (by omega) (by omega) (by omega) (by omega)).trans h9
  · by_cases e : v = u
    · subst e; exact hK
    · obtain ⟨n', k1, k2, k3⟩ := h10 v hv
      refine ⟨n', k1, (hF _ _ (by omega) (by omega) (by omega) (by omega) (by omega)).trans k2, fun a b c => ?_⟩
      rw [show M (14 + 16 + 7 * v + 2) = I (14 + 16 + 7 * v + 2) from funext fun j => hF _ _ (by omega) (by omega) (by omega) (by omega) (by omega)]
      rw [k3 a b c]
      have hc : cl (d (114 + v)) ≤ 50 := by
        obtain ⟨s1, s2⟩ := gW_s hw
        rcases (show v = 0 ∨ v = 1 by omega) with rfl | rfl
        · exact Nat.le_of_lt_succ (iR_clamp s1).1
        · exact Nat.le_of_lt_succ (iR_clamp s2).1
      exact (fGive_c (dTx_o (by omega) (by omega) (by omega)) fun i hi => dTx_o (by omega) (by omega) (by omega)).symm
  · rw [dTx_o (by omega) (by omega) (by omega)]; exact h11
  · unfold dTx; rw [if_neg (by omega), if_neg (by omega), if_pos rfl]; rfl
  · rw [dTx_o (by omega) (by omega) (by omega)]; exact e7
  · exact (hF _ _ (by omega) (by omega) (by omega) (by omega) (by omega)).trans t2
  · rw [dTx_o (by omega) (by omega) (by omega)]; exact (hF _ _ (by omega) (by omega) (by omega) (by omega) (by omega)).trans (t4 k hk)
theorem tW_clt {I : mg_I} {d : Nat → Int32} (h : tW I 14 d) : tW (mf_up I (14 + 11) 1 0) 14 (up d 6 0) := by
  obtain ⟨n, m, hn, hm, e6, e7, t1, t2, t3, t4⟩ := h
  refine ⟨0, m, by omega, hm, up_at, by rw [up_ne (by omega)]; exact e7, mf_at, ?_, fun k hk => absurd hk (by omega), fun k hk => ?_⟩
  · rw [mf_ne (by omega)]; exact t2
  · rw [mf_ne (by omega), up_ne (by omega)]; exact t4 k hk
theorem RC_clt {I : mg_I} {d : Nat → Int32} (hs : iR (d 114) 51 ∧ iR (d 115) 51) (hC : RC I d) : RC (mf_up I (14 + 11) 1 0) (up d 6 0) := by
  refine ⟨rK_d hs (fun j a1 a2 a3 a4 => up_ne (by omega)) ?_, tW_clt hC.2.1, aK_cg (fun a j h1 h2 => mf_ne (by omega)) hC.2.2⟩
  obtain ⟨h1, h2, h3, h4, ⟨h5, h6, h7, h8, h9⟩, h10, h11⟩ := hC.1
  have hN := (fN_eq h11).2
  refine ⟨fun j hj => ?_, fun y hy => ?_, fun k hk v hv => ?_, fun k hk => ?_, ⟨fun k hk => ?_, ?_, ?_, ?_, ?_⟩, fun u hu => ?_, h11⟩
  · rw [mf_ne (by omega)]; exact h1 j hj
  · rw [mf_ne (by omega)]; exact h2 y hy
  · rw [mf_ne (by omega)]; exact h3 k hk v hv
  · rw [mf_row (by omega)]; exact h4 k hk
  · rw [mf_ne (by omega)]; exact h5 k hk
  · rw [mf_ne (by omega)]; exact h6
  · rw [mf_ne (by omega)]; exact h7
  · rw [mf_ne (by omega)]; exact h8
  · rw [mf_ne (by omega)]; exact h9
  · obtain ⟨n', k1, k2, k3⟩ := h10 u hu
    refine ⟨n', k1, by rw [mf_ne (by omega)]; exact k2, fun a b c => ?_⟩
    rw [mf_row (by omega)]; exact k3 a b c
/-- as qC, whatever text is named -/
def qCx (I : mg_I) (p : rD) : Option Value → mg_I → Nat → Prop := fun r I' _ => r = some (.int (ans p)) ∧ (RC I' p.2.2 ∧ cF (kE I p.1) I')
theorem qC_x {I : mg_I} {p : rD} {nm : Nat} {r : Option Value} {I' : mg_I} {nm' : Nat} (h : qC I p nm r I' nm') : qCx I p r I' nm' := ⟨h.1, h.2.1⟩
theorem u01 {u : Int32} (h : 0 ≤ u.toInt ∧ u.toInt ≤ 1) : u = 0 ∨ u = 1 := by
  obtain ⟨k, hk, rfl, -⟩ := iR_nI (x := u) (n := 2) ⟨by omega, by omega⟩
  rcases (show k = 0 ∨ k = 1 by omega) with rfl | rfl
  · exact Or.inl rfl
  · exact Or.inr rfl
theorem c_kText {sc : List Value} {nm : Nat} {I : mg_I} {d : Nat → Int32} (hC : RC I d) (hw : gW d) (hb : ∀ k, k < 50 → iR (d (236 + k)) 256) {u : Int32} : SP sc 9 100 [.ref 5, .int u] I nm (qCx I (oText d u)) := by
  refine SP.of (h := 8) (t := 100) (q := (yX11_text, cX11_text, 3, (some .int), 11, 600, mi_k100)) rfl (by decide) (show ¬ (3 : Nat) < 2 by decide) (fun dd hd => ?_)
  show GG sc 11 false false mi_k100 dd 0 [.ref 5, .int u, .null] [] I nm (qCx I (oText d u))
  have hR := hC.1
  have hN8 := (rK_N hR).2
  obtain ⟨n, mw, hn, hmw, e6, e7, t1, t2, t3, t4⟩ := hC.2.1
  have hcn : cl (d 6) = n := by rw [e6]; exact nI_clamp (by omega)
  refine g_iload_n (n := 1) rfl rfl ?_
  refine g_cs1 (n := 4) (t := 134) (x := (601, 602, 71)) rfl (by decide +kernel) (by decide +kernel) (by rfl) c_kUse (by omega) (g_E ?_)
  refine g_split (fun h1 => ?_) (fun h1 => ?_)
  ·
    refine g_ifne1 (n := 7) 14 rfl (by decide) ?_
    rcases u01 h1 with rfl | rfl
    ·
      have hq0 : kTx d (cl 0) = kRun (fun i => d (236 + i)) n (nI 0) n 0 kC0 := by
        unfold kTx; rw [hcn]; rfl
      have hqi := kRun_in (b := fun i => d (236 + i)) (n := n) (t := nI 0) n 0 kC0 (by omega)
      generalize hqq : kRun (fun i => d (236 + i)) n (nI 0) n 0 kC0 = q at hq0 hqi
      refine g_aload_n (n := 15) rfl rfl ?_
      refine g_getr (n := 18) (ci := 11) (j := 5) (b := (104)) rfl (by decide +kernel) (by decide) (by decide) (by decide +kernel) ?_
      refine g_aload_n (n := 19) rfl rfl ?_
      refine g_getr (n := 22) (ci := 11) (j := 1) (b := (14)) rfl (by decide +kernel) (by decide) (by decide) (by decide +kernel) ?_
      refine g_getr (n := 25) (ci := 1) (j := 7) (b := ((14) + 11)) rfl (by decide +kernel) (cf_hd c14) (cf_lt c14 (by decide)) (cf_r7 c14) ?_
      refine g_iload_n (n := 26) rfl rfl ?_
      refine g_ifne0 (n := 29) 34 rfl (by decide) ?_
      refine g_ldcs (n := 31) (v := 2) rfl (by decide +kernel) (by decide +kernel) ?_
      refine g_goto 36 rfl (by decide) ?_
      refine g_cv2 (n := 39) (t := 69) (ci := 8) rfl (by decide +kernel) (by decide +kernel) (by decide) (by decide) (by decide +kernel) (by rfl) (c_faultOf (b := fun i => d (236 + i)) (n := n) (nm := 2) (t := nI 0) (cf_t c14) ⟨by omega, by omega⟩ t1 hn t3 (fun i hi => hb i (by omega)) (by decide)) (by omega) (fun a I2 nm2 hq => ?_)
      rw [hqq] at hq
      obtain ⟨rfl, hls, hF, rfl⟩ := hq
      refine g_istore_n2 (n := 40) rfl rfl ?_
      refine g_aload_n (n := 41) rfl rfl ?_
      refine g_getr (n := 44) (ci := 11) (j := 1) (b := (14)) rfl (by decide +kernel) (by decide) (by decide) (by decide +kernel) ?_
      refine g_getr (n := 47) (ci := 1) (j := 7) (b := ((14) + 11)) rfl (by decide +kernel) (cf_hd c14) (cf_lt c14 (by decide)) (cf_r7 c14) ?_
      refine g_cv0 (n := 50) (t := 57) (ci := 6) rfl (by decide +kernel) (by decide +kernel) (rw_hd (cf_t c14)) (rw_136 (cf_t c14)) (by decide +kernel) (by rfl) (c_rclear (cf_t c14)) (by omega) (g_Z ?_)
      refine g_iload_n (n := 51) rfl rfl ?_
      refine g_iflt (n := 54) 59 rfl (by decide) (fun h2 => ?_) (fun h2 => ?_)
      ·
        have h2i : Int32.toInt _ < 0 := Int32.lt_iff_toInt_lt.mp (h2)
        refine g_aload_n (n := 60) rfl rfl ?_
        refine g_getr (n := 63) (ci := 11) (j := 1) (b := (14)) rfl (by decide +kernel) (by decide) (by decide) (by decide +kernel) ?_
        refine g_getr (n := 66) (ci := 1) (j := 9) (b := ((14) + 15)) rfl (by decide +kernel) (cf_hd c14) (cf_lt c14 (by decide)) (cf_r9 c14) ?_
        refine g_iload_n (n := 67) rfl rfl ?_
        refine g_aald (n := 68) (b := ((14) + 16 + 7 * 0)) (0) rfl (cf_15a c14) (cf_15h c14) rfl (cf_15x c14 (by omega)) (cf_15r c14 (by omega)) ?_
        refine g_aload_n (n := 69) rfl rfl ?_
        refine g_getr (n := 72) (ci := 11) (j := 5) (b := (104)) rfl (by decide +kernel) (by decide) (by decide) (by decide +kernel) ?_
        have hq1 : q.1 = -1 := hqi.resolve_right (fun ⟨f, hf, ef⟩ => nI_nn (f := f) (by omega) (ef ▸ h2))
        have hl : q.2.length ≤ n := by rw [← hqq]; exact kRun_len n 0 kC0 (by omega) kInv_0
        have hls1 := hls hq1
        refine g_cv1 (n := 75) (t := 66) (ci := 8) rfl (by decide +kernel) (by decide +kernel) (tx_hd (cf_x c14 (show 0 < 2 by omega))) (tx_136 (cf_x c14 (show 0 < 2 by omega))) (by decide +kernel) (by rfl) (c_tcopy (n := q.2.length) (cf_x c14 (show 0 < 2 by omega)) t104 (by omega) ((mf_ne (by omega)).trans hls1.1)) (by omega) (g_Z ?_)
        refine g_iconst (n := 76) (v := 1) rfl rfl ?_
        refine g_iret (n := 77) rfl (fun h => nomatch h) ?_
        unfold oText
        rw [if_pos (c := _ ∧ _) (by decide), hq0, hcn]
        rw [if_pos h2]
        rw [show cl 0 = 0 from rfl]
        refine qC_x (nm := 2) (qC_v (RC_text hw hC (u := 0) (by omega) hn ?_ (tK_new (by omega) hn hqq hq1 ?_ (fun i hi => ?_)) (fun a j a1 a2 a3 a4 a5 => ?_)) (fun a j ha => ?_))
        · rw [cR_o (by omega) (by omega)]; exact mf_at
        · exact cR_r
        · rw [cR_x hi, mf_ne (by omega)]; exact hls1.2 i hi
        · rw [cR_o (by omega) (by omega), mf_ne (by omega)]; exact hF a j (by omega)
        · rw [cR_o (by omega) (by omega), mf_ne (by omega)]; exact hF a j (by omega)
      ·
        have h2i : 0 ≤ Int32.toInt _ := Int32.le_iff_toInt_le.mp (Int32.not_lt.mp h2)
        refine g_bipush (n := 56) (v := -10) rfl rfl ?_
        refine g_iload_n (n := 57) rfl rfl ?_
        refine g_isub (n := 58) rfl ?_
        refine g_iret (n := 59) rfl (fun h => nomatch h) ?_
        unfold oText
        rw [if_pos (c := _ ∧ _) (by decide), hq0, hcn]
        rw [if_neg h2]
        exact qC_x (nm := 2) (qC_v (RC_clt (gW_s hw) (RC_cg (fun a j a1 a2 => hF a j (by omega)) hC)) (cF_mf (fun a j ha => hF a j (by omega)) (by omega)))
    ·
      have hq0 : kTx d (cl 1) = kRun (fun i => d (236 + i)) n (nI 1) n 0 kC0 := by
        unfold kTx; rw [hcn]; rfl
      have hqi := kRun_in (b := fun i => d (236 + i)) (n := n) (t := nI 1) n 0 kC0 (by omega)
      generalize hqq : kRun (fun i => d (236 + i)) n (nI 1) n 0 kC0 = q at hq0 hqi
      refine g_aload_n (n := 15) rfl rfl ?_
      refine g_getr (n := 18) (ci := 11) (j := 5) (b := (104)) rfl (by decide +kernel) (by decide) (by decide) (by decide +kernel) ?_
      refine g_aload_n (n := 19) rfl rfl ?_
      refine g_getr (n := 22) (ci := 11) (j := 1) (b := (14)) rfl (by decide +kernel) (by decide) (by decide) (by decide +kernel) ?_
      refine g_getr (n := 25) (ci := 1) (j := 7) (b := ((14) + 11)) rfl (by decide +kernel) (cf_hd c14) (cf_lt c14 (by decide)) (cf_r7 c14) ?_
      refine g_iload_n (n := 26) rfl rfl ?_
      refine g_ifne1 (n := 29) 34 rfl (by decide) ?_
      refine g_ldcs (n := 36) (v := 3) rfl (by decide +kernel) (by decide +kernel) ?_
      refine g_cv2 (n := 39) (t := 69) (ci := 8) rfl (by decide +kernel) (by decide +kernel) (by decide) (by decide) (by decide +kernel) (by rfl) (c_faultOf (b := fun i => d (236 + i)) (n := n) (nm := 3) (t := nI 1) (cf_t c14) ⟨by omega, by omega⟩ t1 hn t3 (fun i hi => hb i (by omega)) (by decide)) (by omega) (fun a I2 nm2 hq => ?_)
      rw [hqq] at hq
      obtain ⟨rfl, hls, hF, rfl⟩ := hq
      refine g_istore_n2 (n := 40) rfl rfl ?_
      refine g_aload_n (n := 41) rfl rfl ?_
      refine g_getr (n := 44) (ci := 11) (j := 1) (b := (14)) rfl (by decide +kernel) (by decide) (by decide) (by decide +kernel) ?_
      refine g_getr (n := 47) (ci := 1) (j := 7) (b := ((14) + 11)) rfl (by decide +kernel) (cf_hd c14) (cf_lt c14 (by decide)) (cf_r7 c14) ?_
      refine g_cv0 (n := 50) (t := 57) (ci := 6) rfl (by decide +kernel) (by decide +kernel) (rw_hd (cf_t c14)) (rw_136 (cf_t c14)) (by decide +kernel) (by rfl) (c_rclear (cf_t c14)) (by omega) (g_Z ?_)
      refine g_iload_n (n := 51) rfl rfl ?_
      refine g_iflt (n := 54) 59 rfl (by decide) (fun h2 => ?_) (fun h2 => ?_)
      ·
        have h2i : Int32.toInt _ < 0 := Int32.lt_iff_toInt_lt.mp (h2)
        refine g_aload_n (n := 60) rfl rfl ?_
        refine g_getr (n := 63) (ci := 11) (j := 1) (b := (14)) rfl (by decide +kernel) (by decide) (by decide) (by decide +kernel) ?_
        refine g_getr (n := 66) (ci := 1) (j := 9) (b := ((14) + 15)) rfl (by decide +kernel) (cf_hd c14) (cf_lt c14 (by decide)) (cf_r9 c14) ?_
        refine g_iload_n (n := 67) rfl rfl ?_
        refine g_aald (n := 68) (b := ((14) + 16 + 7 * 1)) (1) rfl (cf_15a c14) (cf_15h c14) rfl (cf_15x c14 (by omega)) (cf_15r c14 (by omega)) ?_
        refine g_aload_n (n := 69) rfl rfl ?_
        refine g_getr (n := 72) (ci := 11) (j := 5) (b := (104)) rfl (by decide +kernel) (by decide) (by decide) (by decide +kernel) ?_
        have hq1 : q.1 = -1 := hqi.resolve_right (fun ⟨f, hf, ef⟩ => nI_nn (f := f) (by omega) (ef ▸ h2))
        have hl : q.2.length ≤ n := by rw [← hqq]; exact kRun_len n 0 kC0 (by omega) kInv_0
        have hls1 := hls hq1
        refine g_cv1 (n := 75) (t := 66) (ci := 8) rfl (by decide +kernel) (by decide +kernel) (tx_hd (cf_x c14 (show 1 < 2 by omega))) (tx_136 (cf_x c14 (show 1 < 2 by omega))) (by decide +kernel) (by rfl) (c_tcopy (n := q.2.length) (cf_x c14 (show 1 < 2 by omega)) t104 (by omega) ((mf_ne (by omega)).trans hls1.1)) (by omega) (g_Z ?_)
        refine g_iconst (n := 76) (v := 1) rfl rfl ?_
        refine g_iret (n := 77) rfl (fun h => nomatch h) ?_
        unfold oText
        rw [if_pos (c := _ ∧ _) (by decide), hq0, hcn]
        rw [if_pos h2]
        rw [show cl 1 = 1 from rfl]
        refine qC_x (nm := 3) (qC_v (RC_text hw hC (u := 1) (by omega) hn ?_ (tK_new (by omega) hn hqq hq1 ?_ (fun i hi => ?_)) (fun a j a1 a2 a3 a4 a5 => ?_)) (fun a j ha => ?_))
        · rw [cR_o (by omega) (by omega)]; exact mf_at
        · exact cR_r
        · rw [cR_x hi, mf_ne (by omega)]; exact hls1.2 i hi
        · rw [cR_o (by omega) (by omega), mf_ne (by omega)]; exact hF a j (by omega)
        · rw [cR_o (by omega) (by omega), mf_ne (by omega)]; exact hF a j (by omega)
      ·
        have h2i : 0 ≤ Int32.toInt _ := Int32.le_iff_toInt_le.mp (Int32.not_lt.mp h2)
        refine g_bipush (n := 56) (v := -10) rfl rfl ?_
        refine g_iload_n (n := 57) rfl rfl ?_
        refine g_isub (n := 58) rfl ?_
        refine g_iret (n := 59) rfl (fun h => nomatch h) ?_
        unfold oText
        rw [if_pos (c := _ ∧ _) (by decide), hq0, hcn]
        rw [if_neg h2]
        exact qC_x (nm := 3) (qC_v (RC_clt (gW_s hw) (RC_cg (fun a j a1 a2 => hF a j (by omega)) hC)) (cF_mf (fun a j ha => hF a j (by omega)) (by omega)))
  ·
    refine g_ifne0 (n := 7) 14 rfl (by decide) ?_
    refine g_aload_n (n := 8) rfl rfl ?_
    refine g_ldc (n := 10) (v := -1000000001) (pl := 419) rfl (by decide +kernel) ?_
    refine g_top (w := -1000000000 - nI 1) (by decide) ?_
    refine g_cv1 (n := 13) (t := 126) (ci := 11) rfl (by decide +kernel) (by decide +kernel) (by decide) (by decide) (by decide +kernel) (by rfl) (c_fail (k := 1) (by omega)) (by omega) (g_E ?_)
    refine g_iret (n := 14) rfl (fun h => nomatch h) ?_
    unfold oText
    rw [if_neg h1]
    exact qC_x (nm := nm) (qC_e (by omega) hC cF.rfl')
