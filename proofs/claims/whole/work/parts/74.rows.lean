/-! the law's loop: what other rows an act may change -/
theorem trM_o {I : mg_I} {T : List Int32} {a j : Nat} (h1 : a ≠ 131) (h2 : ¬ (a = 124 ∧ j = 19)) : trM I T a j = I a j := by
  unfold trM
  rw [if_neg h2, if_neg (fun q => h1 q.1)]
/-- all but the bodies -/
theorem LI_b {I J : mg_I} (hL : LI I) (hF : ∀ a j, a ≠ 111 → a ≠ 112 → a ≠ 131 → ¬ (a = 127 ∨ a = 129 ∨ a = 130 ∨ a = 135 ∨ (a = 124 ∧ ¬ j = 3)) → J a j = I a j) (hB : lB J) : LI J := by
  obtain ⟨l1, l2, l3, l4, l5, l6⟩ := hL
  have e125 : J 125 = I 125 := funext fun j => hF 125 j (by omega) (by omega) (by omega) (by omega)
  refine ⟨?_, ?_, fun k h1 h2 => ?_, lM_cg (fun a j h => hF a j (by omega) (by omega) (by omega) (by omega)) l4, hB, lS_cg (fun a j h => hF a j (by omega) (by omega) (by omega) (by omega)) l6⟩
  · rw [e125]
    exact RC_cg (fun a j h1 h2 => hF a j (by omega) (by omega) (by omega) (by omega)) l1
  · rw [e125]; exact l2
  · rw [hF 123 k (by omega) (by omega) (by omega) (by omega), hF 128 k (by omega) (by omega) (by omega) (by omega)]; exact l3 k h1 h2
theorem vVo_le {d : Nat → Int32} {g : Nat} {a x : Int32} : (vVoice d g a x).2.length ≤ 40 := by
  unfold vVoice
  split
  · exact vGo_le (Nat.zero_le _)
  · split
    · exact vBl_le (Nat.zero_le _)
    · split
      · exact vYi_le (Nat.zero_le _)
      · exact vTe_le (Nat.zero_le _)
theorem eVo_01 {d : Nat → Int32} {g a : Int32} (h : ¬ eVoice d g a = 0) : eVoice d g a = 1 := by
  unfold eVoice at h ⊢
  split
  next h1 =>
    rw [if_pos h1] at h
    split
    next h2 => rw [if_pos h2] at h; exact absurd rfl h
    · rfl
  · rfl
theorem vcM_125 {I : mg_I} {d : Nat → Int32} {g a x : Int32} : vcM I d g a x 125 = I 125 := by
  funext j
  unfold vcM
  split
  · exact brM_o (by omega)
  · exact mf_ne (by omega)
theorem SP_voice {sc : List Value} {nm : Nat} {I1 : mg_I} {d : Nat → Int32} {g a x : Int32} (e : I1 125 = d) (hw : gW d) : SP sc 12 217 [.ref 124, .int g, .int a, .int x] I1 nm (qS (vE (eVoice d g a) (vVoice d (cl g) a x).1) (jE I1 (eVoice d g a) (trM I1 (vVoice d (cl g) a x).2)) nm) := by
  subst e
  exact c_voice hw.1.1 (fun g hg => (hw.1.2.2.2 g hg).1)
theorem LI_voice {I J : mg_I} {g a x : Int32} (hL : LI I) (hX : mX (jE (vcM I (I 125) g a x) (eVoice (I 125) g a) (trM (vcM I (I 125) g a x) (vVoice (I 125) (cl g) a x).2)) J) : LI J := by
  by_cases h : eVoice (I 125) g a = 0
  · have e1 : vcM I (I 125) g a x = brM I (vVoice (I 125) (cl g) a x).2 := if_pos h
    rw [e1] at hX
    have hX2 : mX (trM (brM I (vVoice (I 125) (cl g) a x).2) (vVoice (I 125) (cl g) a x).2) J := by
      have e2 : jE (brM I (vVoice (I 125) (cl g) a x).2) (eVoice (I 125) g a) (trM (brM I (vVoice (I 125) (cl g) a x).2) (vVoice (I 125) (cl g) a x).2) = trM (brM I (vVoice (I 125) (cl g) a x).2) (vVoice (I 125) (cl g) a x).2 := if_pos h
      rw [e2] at hX; exact hX
    have hT := @vVo_le (I 125) (cl g) a x
    generalize (vVoice (I 125) (cl g) a x).2 = T at hX2 hT
    refine LI_b hL (fun b j h1 h2 h3 h4 => (hX2 b j (by omega)).trans ((trM_o h3 (by omega)).trans (brM_o (by omega)))) ⟨T.length, hT, ?_, ?_, fun k hk => ?_⟩
    · exact (hX2 111 1 (by omega)).trans ((trM_o (by omega) (by omega)).trans brM_n)
    · exact (hX2 124 19 (by omega)).trans (if_pos ⟨rfl, rfl⟩)
    · have e1 : J 112 k = T.getD k 0 := (hX2 112 k (by omega)).trans ((trM_o (by omega) (by omega)).trans ((if_neg (by omega)).trans (if_pos ⟨rfl, hk⟩)))
      have e2 : J 131 k = T.getD k 0 := (hX2 131 k (by omega)).trans ((if_neg (by omega)).trans (if_pos ⟨rfl, hk⟩))
      rw [e1, e2]
  · have h1 := eVo_01 h
    have e1 : vcM I (I 125) g a x = mf_up I 123 1 (I 123 1 + 1) := if_neg h
    rw [e1, h1] at hX
    exact LI_e (e := 1) (by decide) hL rfl hX
/-- trace -/
theorem lt_v {I : mg_I} {T : Nat} {k : Int32} (hT : T ≤ 40) (h2 : I 124 19 = nI T) (h4 : ∀ k, k < T → I 112 k = I 131 k) : (if 0 ≤ k.toInt ∧ k.toInt < (T : Int) then I 112 (cl k) else -1000000000 - nI 2) = vTr (if 0 ≤ k.toInt ∧ k.toInt < (T : Int) then I else jK1 I 2) k := by
  have hc : cl (I 124 19) = T := by rw [h2]; exact nI_clamp (by omega)
  by_cases c : 0 ≤ k.toInt ∧ k.toInt < (T : Int)
  · rw [if_pos c, if_pos c]
    unfold vTr
    rw [hc, if_pos c]
    exact h4 _ (cl_lt c.1 c.2)
  · rw [if_neg c, if_neg c]
    unfold vTr
    rw [show jK1 I 2 124 19 = I 124 19 from mf_ne (by omega), hc, if_neg c]
theorem LI_tr {I J : mg_I} {T : Nat} {k : Int32} (hL : LI I) (hT : T ≤ 40) (h2 : I 124 19 = nI T) (hX : mX (jTr (if 0 ≤ k.toInt ∧ k.toInt < (T : Int) then I else jK1 I 2) k) J) : LI J := by
  have hc : cl (I 124 19) = T := by rw [h2]; exact nI_clamp (by omega)
  by_cases c : 0 ≤ k.toInt ∧ k.toInt < (T : Int)
  · rw [if_pos c] at hX
    unfold jTr at hX
    rw [hc, if_pos c] at hX
    exact LI_s hL hX
  · rw [if_neg c] at hX
    unfold jTr at hX
    rw [show jK1 I 2 124 19 = I 124 19 from mf_ne (by omega), hc, if_neg c] at hX
    exact LI_e (e := 2) (by decide) hL rfl hX
theorem lt_19 {I : mg_I} {T e : Nat} {p : Prop} [Decidable p] (hT : T ≤ 40) (h2 : I 124 19 = nI T) : iR ((if p then I else jK1 I e) 124 19) 41 := by
  have h3 : iR (I 124 19) 41 := by rw [h2]; exact iR_of (by omega) (by omega)
  split
  · exact h3
  · rw [show jK1 I e 124 19 = I 124 19 from mf_ne (by omega)]; exact h3
/-- count -/
theorem ctI_s {I : mg_I} (hB : lB I) : ctI I (I 125) = I := by
  obtain ⟨T, t1, t2, t3, t4⟩ := hB
  funext a j
  unfold ctI
  by_cases h : a = 125
  · rw [if_pos h, h]
  · rw [if_neg h]
    by_cases h2 : a = 124 ∧ j = 19
    · rw [if_pos h2, h2.1, h2.2, t2, t3]
    · rw [if_neg h2]
theorem lc_v {I : mg_I} {w : Int32} (hB : lB I) : vCt (ctI I (I 125)) w = vCt (if 0 ≤ w.toInt ∧ w.toInt ≤ 10 then I else jK1 I 1) w := by
  rw [ctI_s hB]
  by_cases c : 0 ≤ w.toInt ∧ w.toInt ≤ 10
  · rw [if_pos c]
  · rw [if_neg c, vCt_e c, vCt_e c]
theorem lc_0 {I : mg_I} {e : Nat} {p : Prop} [Decidable p] (h : iR (I 125 0) 9) : iR ((if p then I else jK1 I e) 125 0) 9 := by
  split
  · exact h
  · rw [show jK1 I e 125 0 = I 125 0 from mf_ne (by omega)]; exact h
theorem LI_ct {I J : mg_I} {w : Int32} (hL : LI I) (hX : mX (jCt (if 0 ≤ w.toInt ∧ w.toInt ≤ 10 then I else jK1 I 1) w) J) : LI J := by
  unfold jCt at hX
  by_cases c : 0 ≤ w.toInt ∧ w.toInt ≤ 10
  · rw [if_pos c, if_pos c] at hX; exact LI_s hL hX
  · rw [if_neg c, if_neg c] at hX; exact LI_e (e := 1) (by decide) hL rfl hX
/-- told -/
theorem ld_v {I : mg_I} {k : Int32} (hE : lE I) : (if 1 ≤ k.toInt ∧ k.toInt ≤ 5 then I 123 (cl k) else -1000000000 - nI 1) = vTold (if 1 ≤ k.toInt ∧ k.toInt ≤ 5 then I else jK1 I 1) k := by
  unfold vTold
  by_cases c : 1 ≤ k.toInt ∧ k.toInt ≤ 5
  · rw [if_pos c, if_pos c, if_pos c]
    obtain ⟨m, hm, rfl, hc⟩ := iR_nI (x := k) (n := 6) ⟨by omega, by omega⟩
    rw [nI_toInt (by omega)] at c
    rw [show cl (nI m) = m from hc]
    exact hE m (by omega) (by omega)
  · rw [if_neg c, if_neg c]
theorem LI_td {I J : mg_I} {k : Int32} (hL : LI I) (hX : mX (jTold (if 1 ≤ k.toInt ∧ k.toInt ≤ 5 then I else jK1 I 1) k) J) : LI J := by
  unfold jTold at hX
  by_cases c : 1 ≤ k.toInt ∧ k.toInt ≤ 5
  · rw [if_pos c, if_pos c] at hX; exact LI_s hL hX
  · rw [if_neg c, if_neg c] at hX; exact LI_e (e := 1) (by decide) hL rfl hX
set_option maxRecDepth 20000 in
theorem lw_op22 {L i d nm : Nat} {xs : Nat → Int32} {I : mg_I} {Q : Option Value → mg_I → Nat → Prop} (hd : 60 ≤ d) (hi : i + 6 ≤ L) (hL3 : L ≤ 3072) (hL : LI I) (hk : lk L xs d i Q) : GG (mi_sc L xs) 13 false true mi_k231 d 854 [.ref 0, .ref 5, .ref 124, .int (nI i)] [] I nm Q := by
  have hC := hL.1
  have hg := hL.2.1
  have hw := hg.1
  have hv := hg.2.1
  have hm1 := hg.2.2.1
  have hS := hg.2.2.2.1
  have hLd := hg.2.2.2.2.1
  have h6 := hg.2.2.2.2.2.1
  have h7 := hg.2.2.2.2.2.2.1
  have hb := hg.2.2.2.2.2.2.2.1
  have hN := hw.1.1
  have h5 := hw.2.2.2
  refine g_aload_n (n := 855) rfl rfl ?_
  refine g_aload_n (n := 856) rfl rfl ?_
  refine g_iload_n (n := 857) rfl rfl ?_
  refine g_iconst (n := 858) (v := 1) rfl rfl ?_
  refine g_iaddN (n := 859) (x := i) (y := 1) rfl ?_
  refine g_sld (n := 860) ((i + 1)) rfl (by omega) (by omega) ?_
  refine g_aload_n (n := 861) rfl rfl ?_
  refine g_iload_n (n := 862) rfl rfl ?_
  refine g_iconst (n := 863) (v := 2) rfl rfl ?_
  refine g_iaddN (n := 864) (x := i) (y := 2) rfl ?_
  refine g_sld (n := 865) ((i + 2)) rfl (by omega) (by omega) ?_
  refine g_aload_n (n := 866) rfl rfl ?_
  refine g_iload_n (n := 867) rfl rfl ?_
  refine g_iconst (n := 868) (v := 3) rfl rfl ?_
  refine g_iaddN (n := 869) (x := i) (y := 3) rfl ?_
  refine g_sld (n := 870) ((i + 3)) rfl (by omega) (by omega) ?_
  refine g_cv3 (n := 873) (t := 113) (ci := 11) rfl (by decide +kernel) (by decide +kernel) (by decide) (by decide) (by decide +kernel) (by rfl) (c_kVoice hC hw) (by omega) (g_E ?_)
  refine g_aload_n (n := 874) rfl rfl ?_
  refine g_aload_n (n := 875) rfl rfl ?_
  refine g_iload_n (n := 876) rfl rfl ?_
  refine g_iconst (n := 877) (v := 1) rfl rfl ?_
  refine g_iaddN (n := 878) (x := i) (y := 1) rfl ?_
  refine g_sld (n := 879) ((i + 1)) rfl (by omega) (by omega) ?_
  refine g_aload_n (n := 880) rfl rfl ?_
  refine g_iload_n (n := 881) rfl rfl ?_
  refine g_iconst (n := 882) (v := 2) rfl rfl ?_
  refine g_iaddN (n := 883) (x := i) (y := 2) rfl ?_
  refine g_sld (n := 884) ((i + 2)) rfl (by omega) (by omega) ?_
  refine g_aload_n (n := 885) rfl rfl ?_
  refine g_iload_n (n := 886) rfl rfl ?_
  refine g_iconst (n := 887) (v := 3) rfl rfl ?_
  refine g_iaddN (n := 888) (x := i) (y := 3) rfl ?_
  refine g_sld (n := 889) ((i + 3)) rfl (by omega) (by omega) ?_
  refine g_cv3 (n := 892) (t := 217) (ci := 12) rfl (by decide +kernel) (by decide +kernel) (by decide) (by decide) (by decide +kernel) (by rfl) (SP_voice vcM_125 hw) (by omega) (lw_S fun J hX => ?_)
  refine g_iceq (n := 895) 1223 rfl (by decide) (fun _ => ?_) (fun h => absurd rfl h)
  exact hk J _ (LI_voice hL hX)
set_option maxRecDepth 20000 in
theorem lw_op23 {L i d nm : Nat} {xs : Nat → Int32} {I : mg_I} {Q : Option Value → mg_I → Nat → Prop} (hd : 60 ≤ d) (hi : i + 6 ≤ L) (hL3 : L ≤ 3072) (hL : LI I) (hk : lk L xs d i Q) : GG (mi_sc L xs) 13 false true mi_k231 d 897 [.ref 0, .ref 5, .ref 124, .int (nI i)] [] I nm Q := by
  have hC := hL.1
  have hg := hL.2.1
  have hw := hg.1
  have hv := hg.2.1
  have hm1 := hg.2.2.1
  have hS := hg.2.2.2.1
  have hLd := hg.2.2.2.2.1
  have h6 := hg.2.2.2.2.2.1
  have h7 := hg.2.2.2.2.2.2.1
  have hb := hg.2.2.2.2.2.2.2.1
  have hN := hw.1.1
  have h5 := hw.2.2.2
  obtain ⟨T, t1, t2, t3, t4⟩ := hL.2.2.2.2.1
  refine g_aload_n (n := 898) rfl rfl ?_
  refine g_aload_n (n := 899) rfl rfl ?_
  refine g_iload_n (n := 900) rfl rfl ?_
  refine g_iconst (n := 901) (v := 1) rfl rfl ?_
  refine g_iaddN (n := 902) (x := i) (y := 1) rfl ?_
  refine g_sld (n := 903) ((i + 1)) rfl (by omega) (by omega) ?_
  refine g_cv1 (n := 906) (t := 114) (ci := 11) rfl (by decide +kernel) (by decide +kernel) (by decide) (by decide) (by decide +kernel) (by rfl) (c_kTrace t2 t1) (by omega) (g_E ?_)
  refine g_aload_n (n := 907) rfl rfl ?_
  refine g_aload_n (n := 908) rfl rfl ?_
  refine g_iload_n (n := 909) rfl rfl ?_
  refine g_iconst (n := 910) (v := 1) rfl rfl ?_
  refine g_iaddN (n := 911) (x := i) (y := 1) rfl ?_
  refine g_sld (n := 912) ((i + 1)) rfl (by omega) (by omega) ?_
  refine g_cv1 (n := 915) (t := 218) (ci := 12) rfl (by decide +kernel) (by decide +kernel) (by decide) (by decide) (by decide +kernel) (by rfl) (c_trace (lt_19 t1 t3)) (by omega) (lw_S fun J hX => ?_)
  refine g_iceq (n := 918) 1223 rfl (by decide) (fun _ => ?_) (fun h => absurd (lt_v t1 t3 t4) h)
  exact hk J _ (LI_tr hL t1 t3 hX)
set_option maxRecDepth 20000 in
theorem lw_op33 {L i d nm : Nat} {xs : Nat → Int32} {I : mg_I} {Q : Option Value → mg_I → Nat → Prop} (hd : 60 ≤ d) (hi : i + 6 ≤ L) (hL3 : L ≤ 3072) (hL : LI I) (hk : lk L xs d i Q) : GG (mi_sc L xs) 13 false true mi_k231 d 1177 [.ref 0, .ref 5, .ref 124, .int (nI i)] [] I nm Q := by
  have hC := hL.1
  have hg := hL.2.1
  have hw := hg.1
  have hv := hg.2.1
  have hm1 := hg.2.2.1
  have hS := hg.2.2.2.1
  have hLd := hg.2.2.2.2.1
  have h6 := hg.2.2.2.2.2.1
  have h7 := hg.2.2.2.2.2.2.1
  have hb := hg.2.2.2.2.2.2.2.1
  have hN := hw.1.1
  have h5 := hw.2.2.2
  refine g_aload_n (n := 1178) rfl rfl ?_
  refine g_aload_n (n := 1179) rfl rfl ?_
  refine g_iload_n (n := 1180) rfl rfl ?_
  refine g_iconst (n := 1181) (v := 1) rfl rfl ?_
  refine g_iaddN (n := 1182) (x := i) (y := 1) rfl ?_
  refine g_sld (n := 1183) ((i + 1)) rfl (by omega) (by omega) ?_
  refine g_cv1 (n := 1186) (t := 124) (ci := 11) rfl (by decide +kernel) (by decide +kernel) (by decide) (by decide) (by decide +kernel) (by rfl) (c_kCount hC) (by omega) (g_E ?_)
  refine g_aload_n (n := 1187) rfl rfl ?_
  refine g_aload_n (n := 1188) rfl rfl ?_
  refine g_iload_n (n := 1189) rfl rfl ?_
  refine g_iconst (n := 1190) (v := 1) rfl rfl ?_
  refine g_iaddN (n := 1191) (x := i) (y := 1) rfl ?_
  refine g_sld (n := 1192) ((i + 1)) rfl (by omega) (by omega) ?_
  refine g_cv1 (n := 1195) (t := 229) (ci := 12) rfl (by decide +kernel) (by decide +kernel) (by decide) (by decide) (by decide +kernel) (by rfl) (c_count (lc_0 hN)) (by omega) (lw_S fun J hX => ?_)
  refine g_iceq (n := 1198) 1223 rfl (by decide) (fun _ => ?_) (fun h => absurd (lc_v hL.2.2.2.2.1) h)
  exact hk J _ (LI_ct hL hX)
set_option maxRecDepth 20000 in
theorem lw_op34 {L i d nm : Nat} {xs : Nat → Int32} {I : mg_I} {Q : Option Value → mg_I → Nat → Prop} (hd : 60 ≤ d) (hi : i + 6 ≤ L) (hL3 : L ≤ 3072) (hL : LI I) (hk : lk L xs d i Q) : GG (mi_sc L xs) 13 false true mi_k231 d 1200 [.ref 0, .ref 5, .ref 124, .int (nI i)] [] I nm Q := by
  have hC := hL.1
  have hg := hL.2.1
  have hw := hg.1
  have hv := hg.2.1
  have hm1 := hg.2.2.1
  have hS := hg.2.2.2.1
  have hLd := hg.2.2.2.2.1
  have h6 := hg.2.2.2.2.2.1
  have h7 := hg.2.2.2.2.2.2.1
  have hb := hg.2.2.2.2.2.2.2.1
  have hN := hw.1.1
  have h5 := hw.2.2.2
  refine g_aload_n (n := 1201) rfl rfl ?_
  refine g_aload_n (n := 1202) rfl rfl ?_
  refine g_iload_n (n := 1203) rfl rfl ?_
  refine g_iconst (n := 1204) (v := 1) rfl rfl ?_
  refine g_iaddN (n := 1205) (x := i) (y := 1) rfl ?_
  refine g_sld (n := 1206) ((i + 1)) rfl (by omega) (by omega) ?_
  refine g_cv1 (n := 1209) (t := 125) (ci := 11) rfl (by decide +kernel) (by decide +kernel) (by decide) (by decide) (by decide +kernel) (by rfl) (c_kTold) (by omega) (g_E ?_)
  refine g_aload_n (n := 1210) rfl rfl ?_
  refine g_aload_n (n := 1211) rfl rfl ?_
  refine g_iload_n (n := 1212) rfl rfl ?_
  refine g_iconst (n := 1213) (v := 1) rfl rfl ?_
  refine g_iaddN (n := 1214) (x := i) (y := 1) rfl ?_
  refine g_sld (n := 1215) ((i + 1)) rfl (by omega) (by omega) ?_
  refine g_cv1 (n := 1218) (t := 230) (ci := 12) rfl (by decide +kernel) (by decide +kernel) (by decide) (by decide) (by decide +kernel) (by rfl) (c_told) (by omega) (lw_S fun J hX => ?_)
  refine g_iceq (n := 1221) 1223 rfl (by decide) (fun _ => ?_) (fun h => absurd (ld_v hL.2.2.1) h)
  exact hk J _ (LI_td hL hX)
