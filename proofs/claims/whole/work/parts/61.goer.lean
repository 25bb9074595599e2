/-! the class: a new goer -/
def nwX (d : Nat → Int32) (n : Nat) (k m a b z : Int32) : Nat → Int32 := up (up (up (up (up (up d 0 (nI (n + 1))) (34 + 10 * n + 0) k) (34 + 10 * n + 1) m) (34 + 10 * n + 2) a) (34 + 10 * n + 3) b) (34 + 10 * n + 4) z
theorem nwX_d {d : Nat → Int32} {n : Nat} {k m a b z : Int32} {j : Nat} (h0 : j ≠ 0) (h : ¬ (34 + 10 * n ≤ j ∧ j < 34 + 10 * n + 5)) : nwX d n k m a b z j = d j := by
  unfold nwX
  rw [up_ne (by omega), up_ne (by omega), up_ne (by omega), up_ne (by omega), up_ne (by omega), up_ne (by omega)]
theorem nwD_d {d : Nat → Int32} {n : Nat} {k m a b z : Int32} {j : Nat} (hn : n < 8) (h0 : j ≠ 0) (h5 : j ≠ 5) (h : ¬ (34 + 10 * n ≤ j ∧ j < 34 + 10 * n + 10)) : fHome (nwX d n k m a b z) n j = d j := by
  unfold fHome
  rw [up_ne (by omega), up_ne (by omega), up_ne (by omega), up_ne (by omega), up_ne (by omega), up_ne (by omega)]
  exact nwX_d h0 (by omega)
theorem nwD_0 {d : Nat → Int32} {n : Nat} {k m a b z : Int32} : fHome (nwX d n k m a b z) n 0 = nI (n + 1) := by
  unfold fHome nwX
  rw [up_ne (by omega), up_ne (by omega), up_ne (by omega), up_ne (by omega), up_ne (by omega), up_ne (by omega), up_ne (by omega), up_ne (by omega), up_ne (by omega), up_ne (by omega), up_ne (by omega)]
  exact up_at
theorem nwD_5 {d : Nat → Int32} {n : Nat} {k m a b z : Int32} (hn : n < 8) : fHome (nwX d n k m a b z) n 5 = (d 5 &&& (fBit n ^^^ -1)) := by
  unfold fHome
  rw [up_at, up_ne (by omega), up_ne (by omega), up_ne (by omega), up_ne (by omega), up_ne (by omega), nwX_d (by omega) (by omega)]
theorem nwD_w {d : Nat → Int32} {n : Nat} {k m a b z : Int32} : fO (fHome (nwX d n k m a b z) n) n 0 = k ∧ fO (fHome (nwX d n k m a b z) n) n 1 = m ∧ fO (fHome (nwX d n k m a b z) n) n 2 = a ∧ fO (fHome (nwX d n k m a b z) n) n 3 = b ∧ fO (fHome (nwX d n k m a b z) n) n 4 = z ∧ fO (fHome (nwX d n k m a b z) n) n 5 = 0 ∧ fO (fHome (nwX d n k m a b z) n) n 6 = -1 ∧ fO (fHome (nwX d n k m a b z) n) n 7 = 0 ∧ fO (fHome (nwX d n k m a b z) n) n 8 = 0 ∧ fO (fHome (nwX d n k m a b z) n) n 9 = 0 := by
  unfold fHome nwX
  refine ⟨?_, ?_, ?_, ?_, ?_, ?_, ?_, ?_, ?_, ?_⟩
  · rw [fO_up (by omega), fO_up (by omega), fO_up (by omega), fO_up (by omega), fO_up (by omega), fO_up (by omega), fO_up (by omega), fO_up (by omega), fO_up (by omega), fO_up (by omega)]; exact fO_at
  · rw [fO_up (by omega), fO_up (by omega), fO_up (by omega), fO_up (by omega), fO_up (by omega), fO_up (by omega), fO_up (by omega), fO_up (by omega), fO_up (by omega)]; exact fO_at
  · rw [fO_up (by omega), fO_up (by omega), fO_up (by omega), fO_up (by omega), fO_up (by omega), fO_up (by omega), fO_up (by omega), fO_up (by omega)]; exact fO_at
  · rw [fO_up (by omega), fO_up (by omega), fO_up (by omega), fO_up (by omega), fO_up (by omega), fO_up (by omega), fO_up (by omega)]; exact fO_at
  · rw [fO_up (by omega), fO_up (by omega), fO_up (by omega), fO_up (by omega), fO_up (by omega), fO_up (by omega)]; exact fO_at
  · rw [fO_up (by omega), fO_up (by omega), fO_up (by omega), fO_up (by omega), fO_up (by omega)]; exact fO_at
  · rw [fO_up (by omega), fO_up (by omega), fO_up (by omega), fO_up (by omega)]; exact fO_at
  · rw [fO_up (by omega), fO_up (by omega), fO_up (by omega)]; exact fO_at
  · rw [fO_up (by omega), fO_up (by omega)]; exact fO_at
  · rw [fO_up (by omega)]; exact fO_at
def nwM (I : mg_I) (n k m : Nat) (a b z : Int32) : mg_I := mf_up (hoM (mf_up (mf_up (mf_up (tnM I (14 + 3 + n) k m) (14 + 3 + n) 3 a) (14 + 3 + n) 4 b) (14 + 3 + n) 5 z) (14 + 3 + n)) 14 2 (nI (n + 1))
theorem nwM_o {I : mg_I} {n k m : Nat} {a b z : Int32} {x j : Nat} (h : x ≠ 14 + 3 + n) (h2 : ¬ (x = 14 ∧ j = 2)) : nwM I n k m a b z x j = I x j := by
  unfold nwM
  rw [mf_ne (by omega), hoM_ne (by omega), mf_ne (by omega), mf_ne (by omega), mf_ne (by omega), tnM_n (by omega)]
theorem hoM_g {I : mg_I} {G j : Nat} (h : j < 6 ∨ 12 ≤ j) : hoM I G G j = I G j := by
  unfold hoM lvM
  rw [mf_ne (by omega), mf_ne (by omega), mf_ne (by omega), mf_ne (by omega), mf_ne (by omega), mf_ne (by omega)]
theorem hoM_w {I : mg_I} {G : Nat} : hoM I G G 6 = 0 ∧ hoM I G G 7 = -1 ∧ hoM I G G 8 = 0 ∧ hoM I G G 9 = 0 ∧ hoM I G G 10 = 0 ∧ hoM I G G 11 = 0 := by
  unfold hoM lvM
  refine ⟨?_, ?_, ?_, ?_, ?_, ?_⟩
  · rw [mf_ne (by omega), mf_ne (by omega), mf_ne (by omega), mf_ne (by omega), mf_ne (by omega)]; exact mf_at
  · rw [mf_ne (by omega), mf_ne (by omega), mf_ne (by omega), mf_ne (by omega)]; exact mf_at
  · rw [mf_ne (by omega), mf_ne (by omega), mf_ne (by omega)]; exact mf_at
  · rw [mf_ne (by omega), mf_ne (by omega)]; exact mf_at
  · exact mf_at
  · rw [mf_ne (by omega)]; exact mf_at
theorem nwM_g {I : mg_I} {n k m : Nat} {a b z : Int32} {j : Nat} : nwM I n k m a b z (14 + 3 + n) j = hoM (mf_up (mf_up (mf_up (tnM I (14 + 3 + n) k m) (14 + 3 + n) 3 a) (14 + 3 + n) 4 b) (14 + 3 + n) 5 z) (14 + 3 + n) (14 + 3 + n) j := by
  unfold nwM
  exact mf_ne (by omega)
theorem rK_new {I : mg_I} {d : Nat → Int32} {n k m : Nat} {a b z : Int32} (h : rK I 14 d) (hn : fN d = n) (hn8 : n < 8) (hd5 : iR (d 5) 256) (hs : iR (d 114) 51 ∧ iR (d 115) 51) : rK (nwM I n k m a b z) 14 (fHome (nwX d n (nI k) (nI m) a b z) n) := by
  obtain ⟨h1, h2, h3, h4, ⟨h5, h6, h7, h8, h9⟩, h10, h11⟩ := h
  have eN : fN (fHome (nwX d n (nI k) (nI m) a b z) n) = n + 1 := by
    unfold fN
    rw [nwD_0]; exact nI_clamp (by omega)
  have eF : ∀ g, g < 8 → fTb (fHome (nwX d n (nI k) (nI m) a b z) n) g = if g = n then 0 else fTb d g := fun g hg => fTb_and hd5 hn8 hg (nwD_5 hn8)
  obtain ⟨w0, w1, w2, w3, w4, w5, w6, w7, w8, w9⟩ := @nwD_w d n (nI k) (nI m) a b z
  obtain ⟨v6, v7, v8, v9, v10, v11⟩ := @hoM_w (mf_up (mf_up (mf_up (tnM I (14 + 3 + n) k m) (14 + 3 + n) 3 a) (14 + 3 + n) 4 b) (14 + 3 + n) 5 z) (14 + 3 + n)
  refine ⟨fun j hj => ?_, fun y hy => ?_, fun q hq v hv => ?_, fun q hq => ?_, ⟨fun q hq => ?_, ?_, ?_, ?_, ?_⟩, fun u hu => ?_, ?_⟩
  · by_cases e : j = 0
    · subst e; rw [nwD_0]; exact mf_at
    · rw [nwM_o (by omega) (by omega), nwD_d hn8 e (by omega) (by omega)]; exact h1 j hj
  · rw [nwM_o (by omega) (by omega), nwD_d hn8 (by omega) (by omega) (by omega)]; exact h2 y hy
  · rw [eN] at hq
    by_cases e : q = n
    · subst e
      rw [nwM_g]
      rcases (show v = 0 ∨ v = 1 ∨ v = 2 ∨ v = 3 ∨ v = 4 ∨ v = 5 ∨ v = 6 ∨ v = 7 ∨ v = 8 ∨ v = 9 by omega) with rfl | rfl | rfl | rfl | rfl | rfl | rfl | rfl | rfl | rfl
      · rw [w0, hoM_g (by omega), mf_ne (by omega), mf_ne (by omega), mf_ne (by omega)]; exact tnM_1
      · rw [w1, hoM_g (by omega), mf_ne (by omega), mf_ne (by omega), mf_ne (by omega)]; exact tnM_2
      · rw [w2, hoM_g (by omega), mf_ne (by omega), mf_ne (by omega)]; exact mf_at
      · rw [w3, hoM_g (by omega), mf_ne (by omega)]; exact mf_at
      · rw [w4, hoM_g (by omega)]; exact mf_at
      · rw [w5]; exact v6
      · rw [w6]; exact v7
      · rw [w7]; exact v8
      · rw [w8]; exact v9
      · rw [w9]; exact v10
    · rw [nwM_o (by omega) (by omega), show fO (fHome (nwX d n (nI k) (nI m) a b z) n) q v = fO d q v from nwD_d hn8 (by omega) (by omega) (by omega)]; exact h3 q (by omega) v hv
  · rw [eN] at hq
    by_cases e : q = n
    · subst e
      rw [nwM_g, nwM_g, nwM_g, nwM_g, nwM_g, eF q (by omega), if_pos rfl, w0, w1, v11]
      refine ⟨rfl, ?_, ?_, ?_, ?_⟩
      · rw [hoM_g (by omega), mf_ne (by omega), mf_ne (by omega), mf_ne (by omega)]; exact tnM_12
      · rw [hoM_g (by omega), mf_ne (by omega), mf_ne (by omega), mf_ne (by omega)]; exact tnM_13
      · rw [hoM_g (by omega), mf_ne (by omega), mf_ne (by omega), mf_ne (by omega)]; exact tnM_14
      · rw [hoM_g (by omega), mf_ne (by omega), mf_ne (by omega), mf_ne (by omega)]; exact tnM_15
    · rw [nwM_o (by omega) (by omega), nwM_o (by omega) (by omega), nwM_o (by omega) (by omega), nwM_o (by omega) (by omega), nwM_o (by omega) (by omega), eF q (by omega), if_neg e, show fO (fHome (nwX d n (nI k) (nI m) a b z) n) q 0 = fO d q 0 from nwD_d hn8 (by omega) (by omega) (by omega), show fO (fHome (nwX d n (nI k) (nI m) a b z) n) q 1 = fO d q 1 from nwD_d hn8 (by omega) (by omega) (by omega)]
      exact h4 q (by omega)
  · by_cases e : q = n
    · subst e
      rw [nwM_g, hoM_g (by omega), mf_ne (by omega), mf_ne (by omega), mf_ne (by omega), tnM_n (by omega)]; exact h5 q hq
    · rw [nwM_o (by omega) (by omega)]; exact h5 q hq
  · rw [nwM_o (by omega) (by omega)]; exact h6
  · rw [nwM_o (by omega) (by omega)]; exact h7
  · rw [nwM_o (by omega) (by omega)]; exact h8
  · rw [nwM_o (by omega) (by omega)]; exact h9
  · obtain ⟨n', k1, k2, k3⟩ := h10 u hu
    refine ⟨n', k1, by rw [nwM_o (by omega) (by omega)]; exact k2, fun x y c => ?_⟩
    rw [show nwM I n k m a b z (14 + 16 + 7 * u + 2) = I (14 + 16 + 7 * u + 2) from funext fun j => nwM_o (by omega) (by omega), k3]
    exact (fGive_c (nwD_d hn8 (by omega) (by omega) (by omega)) (fun i hi => nwD_d hn8 (by omega) (by omega) (by omega))).symm
  · rw [nwD_0]; exact iR_of (by omega) (by omega)
theorem c_kGoerNew {sc : List Value} {nm : Nat} {I : mg_I} {d : Nat → Int32} (hC : RC I d) (hw : gW d) {km a b z : Int32} : SP sc 6 93 [.ref 5, .int km, .int a, .int b, .int z] I nm (qC I (oGoer d km a b z) nm) := by
  refine SP.of (h := 5) (t := 93) (q := (yX11_goer, cX11_goer, 7, (some .int), 11, 428, mi_k93)) rfl (by decide) (show ¬ (7 : Nat) < 5 by decide) (fun dd hd => ?_)
  show GG sc 11 false false mi_k93 dd 0 [.ref 5, .int km, .int a, .int b, .int z, .null, .null] [] I nm (qC I (oGoer d km a b z) nm)
  have hR := hC.1
  have hN8 := (rK_N hR).2
  refine g_iload_n (n := 1) rfl rfl ?_
  refine g_cs1 (n := 4) (t := 133) (x := (429, 430, 71)) rfl (by decide +kernel) (by decide +kernel) (by rfl) c_kKm (by omega) (g_E ?_)
  refine g_split (fun h1 => ?_) (fun h1 => ?_)
  ·
    refine g_ifeq1 (n := 7) 34 rfl (by decide) ?_
    refine g_iload_n (n := 8) rfl rfl ?_
    refine g_cs1 (n := 11) (t := 131) (x := (418, 388, 71)) rfl (by decide +kernel) (by decide +kernel) (by rfl) c_kYard (by omega) (g_E ?_)
    refine g_split (fun h2 => ?_) (fun h2 => ?_)
    ·
      refine g_ifeq1 (n := 14) 34 rfl (by decide) ?_
      refine g_iload_n (n := 15) rfl rfl ?_
      refine g_cs1 (n := 18) (t := 131) (x := (418, 388, 71)) rfl (by decide +kernel) (by decide +kernel) (by rfl) c_kYard (by omega) (g_E ?_)
      refine g_split (fun h3 => ?_) (fun h3 => ?_)
      ·
        refine g_ifeq1 (n := 21) 34 rfl (by decide) ?_
        refine g_iload_n (n := 22) rfl rfl ?_
        refine g_iload_n (n := 23) rfl rfl ?_
        refine g_iceq (n := 26) 34 rfl (by decide) (fun h4 => ?_) (fun h4 => ?_)
        ·
          refine g_aload_n (n := 35) rfl rfl ?_
          refine g_ldc (n := 37) (v := -1000000001) (pl := 419) rfl (by decide +kernel) ?_
          refine g_top (w := -1000000000 - nI 1) (by decide) ?_
          refine g_cv1 (n := 40) (t := 126) (ci := 11) rfl (by decide +kernel) (by decide +kernel) (by decide) (by decide) (by decide +kernel) (by rfl) (c_fail (k := 1) (by omega)) (by omega) (g_E ?_)
          refine g_iret (n := 41) rfl (fun h => nomatch h) ?_
          unfold oGoer
          first
            | rw [if_neg h1]
            | rw [if_pos h1, if_neg h2]
            | rw [if_pos h1, if_pos h2, if_neg h3]
            | rw [if_pos h1, if_pos h2, if_pos h3, if_pos (c := a = b) (by assumption)]
            | rw [if_pos h1, if_pos h2, if_pos h3, if_neg (c := a = b) (by assumption), if_neg (c := 0 ≤ z.toInt ∧ z.toInt ≤ 999) (by assumption)]
          exact qC_e (by omega) hC cF.rfl'
        ·
          refine g_iload (n := 28) rfl rfl ?_
          refine g_cs1 (n := 31) (t := 132) (x := (432, 433, 71)) rfl (by decide +kernel) (by decide +kernel) (by rfl) c_kStart (by omega) (g_E ?_)
          refine g_split (fun h5 => ?_) (fun h5 => ?_)
          ·
            refine g_ifne1 (n := 34) 41 rfl (by decide) ?_
            refine g_aload_n (n := 42) rfl rfl ?_
            refine g_getr (n := 45) (ci := 11) (j := 1) (b := (14)) rfl (by decide +kernel) (by decide) (by decide) (by decide +kernel) ?_
            refine g_getv (n := 48) (ci := 1) (j := 2) (v := nI (fN d)) ((rK_n hR (j := 0) (by omega)).trans (rK_N hR).1) rfl (by decide +kernel) rfl (by decide) (cf_hd c14) ?_
            refine g_bipush (n := 50) (v := 8) rfl rfl ?_
            refine g_iclt (n := 53) 60 rfl (by decide) (fun h6 => ?_) (fun h6 => ?_)
            ·
              have hn8 : fN d < 8 := (nI_ltI (b := 8) (by omega) (by omega)).mp h6
              have h8 : ¬ d 0 = 8 := fun q => absurd ((nI_eq (b := 8) (by omega) (by omega)).mp ((rK_N hR).1.symm.trans q)) (by omega)
              obtain ⟨kq, hkq, rfl, hck⟩ := iR_nI (x := km) (n := 70) ⟨by omega, by omega⟩
              refine g_aload_n (n := 61) rfl rfl ?_
              refine g_getr (n := 64) (ci := 11) (j := 1) (b := (14)) rfl (by decide +kernel) (by decide) (by decide) (by decide +kernel) ?_
              refine g_getv (n := 67) (ci := 1) (j := 2) (v := nI (fN d)) ((rK_n hR (j := 0) (by omega)).trans (rK_N hR).1) rfl (by decide +kernel) rfl (by decide) (cf_hd c14) ?_
              refine g_istore5 (n := 69) rfl rfl ?_
              refine g_aload_n (n := 70) rfl rfl ?_
              refine g_getr (n := 73) (ci := 11) (j := 1) (b := (14)) rfl (by decide +kernel) (by decide) (by decide) (by decide +kernel) ?_
              refine g_getr (n := 76) (ci := 1) (j := 1) (b := ((14) + 2)) rfl (by decide +kernel) (cf_hd c14) (cf_lt c14 (by decide)) (cf_r1 c14) ?_
              refine g_iload (n := 78) rfl rfl ?_
              refine g_aald (n := 79) (b := ((14) + 3 + (fN d))) ((fN d)) rfl (cf_2a c14) (cf_2h c14) rfl (cf_2x c14 (by omega)) (cf_2r c14 (by omega)) ?_
              refine g_astore6 (n := 81) rfl rfl ?_
              refine g_aload (n := 83) rfl rfl ?_
              refine g_aload_n (n := 84) rfl rfl ?_
              refine g_getr (n := 87) (ci := 11) (j := 0) (b := 6) rfl (by decide +kernel) (by decide) (by decide) (by decide +kernel) ?_
              refine g_iload_n (n := 88) rfl rfl ?_
              refine g_bipush (n := 90) (v := 10) rfl rfl ?_
              refine g_idiv (n := 91) rfl (by decide) ?_
              refine g_top (w := nI (kq / 10)) (km_dr kq hkq).1 ?_
              refine g_aald (n := 92) (b := 7 + kq / 10) (kq / 10) rfl (by decide) (by decide) rfl ⟨by show _ < 7; omega, by decide⟩ (kind_r _ (by omega)) ?_
              refine g_iload_n (n := 93) rfl rfl ?_
              refine g_bipush (n := 95) (v := 10) rfl rfl ?_
              refine g_idiv (n := 96) rfl (by decide) ?_
              refine g_top (w := nI (kq / 10)) (km_dr kq hkq).1 ?_
              refine g_iload_n (n := 97) rfl rfl ?_
              refine g_bipush (n := 99) (v := 10) rfl rfl ?_
              refine g_irem (n := 100) rfl (by decide) ?_
              refine g_top (w := nI (kq % 10)) (km_dr kq hkq).2 ?_
              refine g_cv3 (n := 103) (t := 37) (ci := 4) rfl (by decide +kernel) (by decide +kernel) (cf_gh c14 (by omega)) (cf_g1 c14 (by omega)) (by decide +kernel) (by rfl) (c_turn (cf_G c14 (x := fN d) (by omega)) (k := kq / 10) (m := kq % 10) (by omega) (by omega)) (by omega) (g_Z ?_)
              refine g_aload (n := 105) rfl rfl ?_
              refine g_iload_n (n := 106) rfl rfl ?_
              refine g_puti (n := 109) (ci := 4) (j := 3) rfl (by decide +kernel) rfl (by decide) (cf_gh c14 (show (fN d) < 8 by omega)) (by decide +kernel) rfl ?_
              refine g_aload (n := 111) rfl rfl ?_
              refine g_iload_n (n := 112) rfl rfl ?_
              refine g_puti (n := 115) (ci := 4) (j := 4) rfl (by decide +kernel) rfl (by decide) (cf_gh c14 (show (fN d) < 8 by omega)) (by decide +kernel) rfl ?_
              refine g_aload (n := 117) rfl rfl ?_
              refine g_iload (n := 119) rfl rfl ?_
              refine g_puti (n := 122) (ci := 4) (j := 5) rfl (by decide +kernel) rfl (by decide) (cf_gh c14 (show (fN d) < 8 by omega)) (by decide +kernel) rfl ?_
              refine g_aload (n := 124) rfl rfl ?_
              refine g_cv0 (n := 127) (t := 38) (ci := 4) rfl (by decide +kernel) (by decide +kernel) (cf_gh c14 (by omega)) (cf_g1 c14 (by omega)) (by decide +kernel) (by rfl) (c_sendH (cf_G c14 (by omega))) (by omega) (g_Z ?_)
              refine g_aload_n (n := 128) rfl rfl ?_
              refine g_getr (n := 131) (ci := 11) (j := 1) (b := (14)) rfl (by decide +kernel) (by decide) (by decide) (by decide +kernel) ?_
              refine g_dupa (n := 132) rfl ?_
              refine g_getv (n := 135) (ci := 1) (j := 2) (v := nI (fN d)) ((show hoM (mf_up (mf_up (mf_up (tnM I (14 + 3 + fN d) (kq / 10) (kq % 10)) (14 + 3 + fN d) 3 a) (14 + 3 + fN d) 4 b) (14 + 3 + fN d) 5 z) (14 + 3 + fN d) 14 2 = I 14 2 by rw [hoM_ne (by omega), mf_ne (by omega), mf_ne (by omega), mf_ne (by omega), tnM_n (by omega)]).trans ((rK_n hR (j := 0) (by omega)).trans (rK_N hR).1)) rfl (by decide +kernel) rfl (by decide) (cf_hd c14) ?_
              refine g_iconst (n := 136) (v := 1) rfl rfl ?_
              refine g_iaddN (n := 137) (x := (fN d)) (y := 1) rfl ?_
              refine g_puti (n := 140) (ci := 1) (j := 2) rfl (by decide +kernel) rfl (by decide) (cf_hd c14) (by decide +kernel) rfl ?_
              refine g_iload (n := 142) rfl rfl ?_
              refine g_iret (n := 143) rfl (fun h => nomatch h) ?_
              unfold oGoer
              rw [if_pos h1, if_pos h2, if_pos h3, if_neg (c := a = b) (by assumption), if_pos (c := 0 ≤ z.toInt ∧ z.toInt ≤ 999) (by assumption), if_neg h8]
              unfold sNew sKm
              rw [(km_dr kq hkq).1, show nI kq - nI (kq / 10) * 10 = nI (kq % 10) from (km_dr kq hkq).1 ▸ (km_dr kq hkq).2]
              exact qC_v (RC_of (rK_new hR rfl hn8 hw.2.2.2 (gW_s hw)) (fun a j ha => nwM_o (by omega) (by omega)) (fun j hj => nwD_d hn8 (by omega) (by omega) (by omega)) hC) (fun a j ha => nwM_o (by omega) (by omega))
            ·
              have h8 : d 0 = 8 := by have hz : ¬ fN d < 8 := fun q => h6 ((nI_ltI (a := fN d) (b := 8) (by omega) (by omega)).mpr q); rw [(rK_N hR).1, show fN d = 8 by omega]; rfl
              refine g_aload_n (n := 54) rfl rfl ?_
              refine g_ldc (n := 56) (v := -1000000004) (pl := 435) rfl (by decide +kernel) ?_
              refine g_top (w := -1000000000 - nI 4) (by decide) ?_
              refine g_cv1 (n := 59) (t := 126) (ci := 11) rfl (by decide +kernel) (by decide +kernel) (by decide) (by decide) (by decide +kernel) (by rfl) (c_fail (k := 4) (by omega)) (by omega) (g_E ?_)
              refine g_iret (n := 60) rfl (fun h => nomatch h) ?_
              unfold oGoer
              rw [if_pos h1, if_pos h2, if_pos h3, if_neg (c := a = b) (by assumption), if_pos (c := 0 ≤ z.toInt ∧ z.toInt ≤ 999) (by assumption), if_pos h8]
              exact qC_e (by omega) hC cF.rfl'
          ·
            refine g_ifne0 (n := 34) 41 rfl (by decide) ?_
            refine g_aload_n (n := 35) rfl rfl ?_
            refine g_ldc (n := 37) (v := -1000000001) (pl := 419) rfl (by decide +kernel) ?_
            refine g_top (w := -1000000000 - nI 1) (by decide) ?_
            refine g_cv1 (n := 40) (t := 126) (ci := 11) rfl (by decide +kernel) (by decide +kernel) (by decide) (by decide) (by decide +kernel) (by rfl) (c_fail (k := 1) (by omega)) (by omega) (g_E ?_)
            refine g_iret (n := 41) rfl (fun h => nomatch h) ?_
            unfold oGoer
            first
              | rw [if_neg h1]
              | rw [if_pos h1, if_neg h2]
              | rw [if_pos h1, if_pos h2, if_neg h3]
              | rw [if_pos h1, if_pos h2, if_pos h3, if_pos (c := a = b) (by assumption)]
              | rw [if_pos h1, if_pos h2, if_pos h3, if_neg (c := a = b) (by assumption), if_neg (c := 0 ≤ z.toInt ∧ z.toInt ≤ 999) (by assumption)]
            exact qC_e (by omega) hC cF.rfl'
      ·
        refine g_ifeq0 (n := 21) 34 rfl (by decide) ?_
        refine g_aload_n (n := 35) rfl rfl ?_
        refine g_ldc (n := 37) (v := -1000000001) (pl := 419) rfl (by decide +kernel) ?_
        refine g_top (w := -1000000000 - nI 1) (by decide) ?_
        refine g_cv1 (n := 40) (t := 126) (ci := 11) rfl (by decide +kernel) (by decide +kernel) (by decide) (by decide) (by decide +kernel) (by rfl) (c_fail (k := 1) (by omega)) (by omega) (g_E ?_)
        refine g_iret (n := 41) rfl (fun h => nomatch h) ?_
        unfold oGoer
        first
          | rw [if_neg h1]
          | rw [if_pos h1, if_neg h2]
          | rw [if_pos h1, if_pos h2, if_neg h3]
          | rw [if_pos h1, if_pos h2, if_pos h3, if_pos (c := a = b) (by assumption)]
          | rw [if_pos h1, if_pos h2, if_pos h3, if_neg (c := a = b) (by assumption), if_neg (c := 0 ≤ z.toInt ∧ z.toInt ≤ 999) (by assumption)]
        exact qC_e (by omega) hC cF.rfl'
    ·
      refine g_ifeq0 (n := 14) 34 rfl (by decide) ?_
      refine g_aload_n (n := 35) rfl rfl ?_
      refine g_ldc (n := 37) (v := -1000000001) (pl := 419) rfl (by decide +kernel) ?_
      refine g_top (w := -1000000000 - nI 1) (by decide) ?_
      refine g_cv1 (n := 40) (t := 126) (ci := 11) rfl (by decide +kernel) (by decide +kernel) (by decide) (by decide) (by decide +kernel) (by rfl) (c_fail (k := 1) (by omega)) (by omega) (g_E ?_)
      refine g_iret (n := 41) rfl (fun h => nomatch h) ?_
      unfold oGoer
      first
        | rw [if_neg h1]
        | rw [if_pos h1, if_neg h2]
        | rw [if_pos h1, if_pos h2, if_neg h3]
        | rw [if_pos h1, if_pos h2, if_pos h3, if_pos (c := a = b) (by assumption)]
        | rw [if_pos h1, if_pos h2, if_pos h3, if_neg (c := a = b) (by assumption), if_neg (c := 0 ≤ z.toInt ∧ z.toInt ≤ 999) (by assumption)]
      exact qC_e (by omega) hC cF.rfl'
  ·
    refine g_ifeq0 (n := 7) 34 rfl (by decide) ?_
    refine g_aload_n (n := 35) rfl rfl ?_
    refine g_ldc (n := 37) (v := -1000000001) (pl := 419) rfl (by decide +kernel) ?_
    refine g_top (w := -1000000000 - nI 1) (by decide) ?_
    refine g_cv1 (n := 40) (t := 126) (ci := 11) rfl (by decide +kernel) (by decide +kernel) (by decide) (by decide) (by decide +kernel) (by rfl) (c_fail (k := 1) (by omega)) (by omega) (g_E ?_)
    refine g_iret (n := 41) rfl (fun h => nomatch h) ?_
    unfold oGoer
    first
      | rw [if_neg h1]
      | rw [if_pos h1, if_neg h2]
      | rw [if_pos h1, if_pos h2, if_neg h3]
      | rw [if_pos h1, if_pos h2, if_pos h3, if_pos (c := a = b) (by assumption)]
      | rw [if_pos h1, if_pos h2, if_pos h3, if_neg (c := a = b) (by assumption), if_neg (c := 0 ≤ z.toInt ∧ z.toInt ≤ 999) (by assumption)]
    exact qC_e (by omega) hC cF.rfl'
