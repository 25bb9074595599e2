/-! the law's loop: judge, rooms, images -/
theorem fJd_c {f f' d : Nat → Int32} : ∀ m k, (∀ i, k ≤ i → i < k + m → f i = f' i) → fJd f d m k = fJd f' d m k := by
  intro m
  induction m with
  | zero => intro k _; rfl
  | succ m ih =>
    intro k h
    rw [fJd, fJd, h k (by omega) (by omega), ih (k + 1) (fun i h1 h2 => h i (by omega) (by omega))]
theorem fRm_c {f f' : Nat → Int32} : ∀ m k (d : Nat → Int32), (∀ i, k ≤ i → i < k + m → f i = f' i) → fRm f m k d = fRm f' m k d := by
  intro m
  induction m with
  | zero => intro k d _; rfl
  | succ m ih =>
    intro k d h
    rw [fRm, fRm, h k (by omega) (by omega), ih (k + 1) _ (fun i h1 h2 => h i (by omega) (by omega))]
def jdM (I : mg_I) (s : Int32) : mg_I := if eShC I s = 0 then I else mf_up I 123 (eShC I s) (I 123 (eShC I s) + 1)
theorem jdM_r {I : mg_I} {s : Int32} {a j : Nat} (h1 : 123 < a) : jdM I s a j = I a j := by
  unfold jdM
  split
  · rfl
  · exact mf_ne (by omega)
theorem lj_v {I : mg_I} {s : Int32} (hS : lS I) : (if eShC I s = 0 then vJC I (I 125) (cl s) (cl (I (114 + 2 * cl s) 1)) else vE (eShC I s) 1) = vE (eSh (jdM I s) s) (vJudge (jdM I s) (cl s)) := by
  rw [eSh_c (sC_of hS (fun a j q1 q2 => jdM_r (by omega)))]
  by_cases h : eShC I s = 0
  · have hs := s4 (eShC_0 h).1
    obtain ⟨-, a, a1, a2, a3, a4⟩ := hS _ hs
    rw [if_pos h, show jdM I s = I from if_pos h, h, show vE 0 (vJudge I (cl s)) = vJudge I (cl s) from if_pos rfl]
    unfold vJudge rJudge vJC
    rw [a2, a3, show cl (nI a) = a from nI_clamp (by omega), fJd_c (f := fun k => I 134 (40 * cl s + k)) (f' := fun k => I (114 + 2 * cl s + 1) k) a 0 (fun i q1 q2 => (a4 i (by omega)).symm)]
  · rw [if_neg h]
    unfold vE
    rw [if_neg h, if_neg h]
theorem LI_jd {I J : mg_I} {s : Int32} (hL : LI I) (hX : mX (jE (jdM I s) (eSh (jdM I s) s) (jdM I s)) J) : LI J := by
  rw [eSh_c (sC_of hL.2.2.2.2.2 (fun a j q1 q2 => jdM_r (by omega)))] at hX
  by_cases h : eShC I s = 0
  · rw [h, show jdM I s = I from if_pos h] at hX
    exact LI_s hL hX
  · refine LI_e (e := eShC I s) (I1 := jdM I s) h hL (if_neg h) ?_
    rw [show jE (jdM I s) (eShC I s) (jdM I s) = mf_up (jdM I s) 128 (eShC I s) (jdM I s 128 (eShC I s) + 1) from if_neg h] at hX
    exact hX
theorem jd_0 {I : mg_I} {s : Int32} (h : iR (I 125 0) 9) : iR (jdM I s 125 0) 9 := by rw [jdM_r (by omega)]; exact h
/-- rooms -/
theorem rm_1 {I I1 : mg_I} {s : Int32} (hS : lS I) (h0 : eShC I s = 0) (hF : cF I I1) : rRooms I1 (cl s) = fRm (fun k => I (114 + 2 * cl s + 1) k) (cl (I (114 + 2 * cl s) 1)) 0 (I 125) := by
  have hs := s4 (eShC_0 h0).1
  obtain ⟨-, a, a1, a2, a3, a4⟩ := hS _ hs
  unfold rRooms
  rw [show I1 125 = I 125 from funext fun j => hF 125 j (by omega), hF 133 _ (by omega), a2, a3, show cl (nI a) = a from nI_clamp (by omega)]
  exact fRm_c a 0 _ fun i q1 q2 => (hF 134 _ (by omega)).trans (a4 i (by omega)).symm
theorem gI_rooms {I : mg_I} {s : Int32} (hL : LI I) (h0 : eShC I s = 0) : gI (fRm (fun k => I (114 + 2 * cl s + 1) k) (cl (I (114 + 2 * cl s) 1)) 0 (I 125)).2 := by
  have hs := s4 (eShC_0 h0).1
  obtain ⟨-, a, a1, a2, -, -⟩ := hL.2.2.2.2.2 _ hs
  rw [a2, show cl (nI a) = a from nI_clamp (by omega)]
  exact gI_rm a 0 _ (by omega) hL.2.1
theorem LI_rm {I I1 J : mg_I} {s : Int32} (hL : LI I) (h0 : eShC I s = 0) (hC : RC I1 (fRm (fun k => I (114 + 2 * cl s + 1) k) (cl (I (114 + 2 * cl s) 1)) 0 (I 125)).2) (hF : cF I I1) (hX : mX (jE I1 (eSh I1 s) (mR I1 (rRooms I1 (cl s)).2)) J) : LI J := by
  rw [eSh_c (sC_of hL.2.2.2.2.2 (fun a j q1 q2 => hF a j (by omega))), h0, rm_1 hL.2.2.2.2.2 h0 hF] at hX
  exact LI_o (I1 := I1) (p := (0, 0, (fRm (fun k => I (114 + 2 * cl s + 1) k) (cl (I (114 + 2 * cl s) 1)) 0 (I 125)).2)) hL hC hF hX (gI_rooms hL h0)
theorem rm_v {I I1 : mg_I} {s : Int32} (hS : lS I) (h0 : eShC I s = 0) (hF : cF I I1) : nI (fRm (fun k => I (114 + 2 * cl s + 1) k) (cl (I (114 + 2 * cl s) 1)) 0 (I 125)).1 = vE (eSh I1 s) (nI (rRooms I1 (cl s)).1) := by
  rw [eSh_c (sC_of hS (fun a j q1 q2 => hF a j (by omega))), h0, rm_1 hS h0 hF]
  exact (if_pos rfl).symm
theorem rm_ev {I : mg_I} {s y : Int32} (hS : lS I) (h0 : ¬ eShC I s = 0) : vE (eShC I s) 1 = vE (eSh (mf_up I 123 (eShC I s) (I 123 (eShC I s) + 1)) s) y := by
  rw [eSh_c (sC_of hS (fun a j q1 q2 => mf_ne (by omega)))]
  unfold vE
  rw [if_neg h0, if_neg h0]
theorem LI_rme {I J X : mg_I} {s : Int32} (hL : LI I) (h0 : ¬ eShC I s = 0) (hX : mX (jE (mf_up I 123 (eShC I s) (I 123 (eShC I s) + 1)) (eSh (mf_up I 123 (eShC I s) (I 123 (eShC I s) + 1)) s) X) J) : LI J := by
  rw [eSh_c (sC_of hL.2.2.2.2.2 (fun a j q1 q2 => mf_ne (by omega)))] at hX
  refine LI_e (e := eShC I s) h0 hL rfl ?_
  rw [show jE (mf_up I 123 (eShC I s) (I 123 (eShC I s) + 1)) (eShC I s) X = mf_up (mf_up I 123 (eShC I s) (I 123 (eShC I s) + 1)) 128 (eShC I s) (mf_up I 123 (eShC I s) (I 123 (eShC I s) + 1) 128 (eShC I s) + 1) from if_neg h0] at hX
  exact hX
/-- images -/
theorem LI_im {I I1 J : mg_I} (hL : LI I) (hK : rK I1 74 (I 125)) (hT : tW I1 74 (I 125)) (h5 : I1 5 4 = I 5 4 + 1) (hF : ∀ a j, (a < 74 ∨ 104 ≤ a) → ¬ (a = 5 ∧ j = 4) → I1 a j = I a j) (hX : mX (jIm I1) J) : LI J := by
  obtain ⟨l1, l2, l3, ⟨m1, m2, m3⟩, l5, l6⟩ := hL
  have jz : ∀ a j, a ≠ 126 → ¬ (a = 124 ∧ j = 3) → ¬ (a = 127 ∨ a = 129 ∨ a = 130 ∨ a = 135 ∨ (a = 124 ∧ ¬ j = 3 ∧ ¬ j = 19)) → J a j = I1 a j := fun a j q1 q2 q3 => (hX a j q3).trans ((mf_ne q2).trans (if_neg q1))
  have key : ∀ a j, (a < 74 ∨ 104 ≤ a) → ¬ (a = 5 ∧ j = 4) → a ≠ 126 → ¬ (a = 124 ∧ j = 3) → ¬ (a = 127 ∨ a = 129 ∨ a = 130 ∨ a = 135 ∨ (a = 124 ∧ ¬ j = 3 ∧ ¬ j = 19)) → J a j = I a j := fun a j q1 q2 q3 q4 q5 => (jz a j q3 q4 q5).trans (hF a j q1 q2)
  have e125 : J 125 = I 125 := funext fun j => key 125 j (by omega) (by omega) (by omega) (by omega) (by omega)
  have e126 : J 126 = I 125 := funext fun j => (hX 126 j (by omega)).trans ((mf_ne (by omega)).trans ((if_pos rfl).trans (hF 125 j (by omega) (by omega))))
  have kk : ∀ a j, 74 ≤ a → a < 104 → J a j = I1 a j := fun a j q1 q2 => jz a j (by omega) (by omega) (by omega)
  have hK2 : rK J 74 (I 125) := rK_cg (fun a j q1 q2 => kk a j (by omega) (by omega)) hK
  refine ⟨?_, ?_, fun k h1 h2 => ?_, ⟨rK_a hK2, ?_, fun _ => ?_⟩, lB_cg (fun a j h => key a j (by omega) (by omega) (by omega) (by omega) (by omega)) l5, lS_cg (fun a j h => key a j (by omega) (by omega) (by omega) (by omega) (by omega)) l6⟩
  · rw [e125]
    exact RC_cg (fun a j h1 h2 => key a j (by omega) (by omega) (by omega) (by omega) (by omega)) l1
  · rw [e125]; exact l2
  · rw [key 123 k (by omega) (by omega) (by omega) (by omega) (by omega), key 128 k (by omega) (by omega) (by omega) (by omega) (by omega)]; exact l3 k h1 h2
  · have e1 : J 5 4 = I 5 4 + 1 := (jz 5 4 (by omega) (by omega) (by omega)).trans h5
    have e2 : J 124 3 = I 124 3 + 1 := (hX 124 3 (by omega)).trans (mf_at.trans (congrArg (fun z => z + 1) (hF 124 3 (by omega) (by omega))))
    rw [e1, e2, m2]
  · rw [e126]
    exact ⟨hK2, tW_of (fun a j q1 q2 => kk a j (by omega) (by omega)) (fun _ _ => rfl) hT, l2⟩
theorem LI_re {I I1 J : mg_I} (hL : LI I) (h0 : ¬ I 5 4 = 0) (hK : rK I1 14 (I 126)) (hT : tW I1 14 (I 126)) (hF : bH 14 I I1) (hX : mX (jRs I1) J) : LI J := by
  obtain ⟨l1, l2, l3, ⟨m1, m2, m3⟩, l5, l6⟩ := hL
  have e3 : ¬ I1 124 3 = 0 := by rw [hF 124 3 (by omega), ← m2]; exact h0
  have hX2 : mX (rP I1 125 (I1 126)) J := by
    rw [show jRs I1 = rP I1 125 (I1 126) from if_neg e3] at hX; exact hX
  have jz : ∀ a j, a ≠ 125 → ¬ (a = 127 ∨ a = 129 ∨ a = 130 ∨ a = 135 ∨ (a = 124 ∧ ¬ j = 3 ∧ ¬ j = 19)) → J a j = I1 a j := fun a j q1 q3 => (hX2 a j q3).trans (if_neg q1)
  have key : ∀ a j, (a < 14 ∨ 44 ≤ a) → a ≠ 125 → ¬ (a = 127 ∨ a = 129 ∨ a = 130 ∨ a = 135 ∨ (a = 124 ∧ ¬ j = 3 ∧ ¬ j = 19)) → J a j = I a j := fun a j q1 q3 q5 => (jz a j q3 q5).trans (hF a j (by omega))
  have e125 : J 125 = I 126 := funext fun j => (hX2 125 j (by omega)).trans ((if_pos rfl).trans (hF 126 j (by omega)))
  refine ⟨?_, ?_, fun k h1 h2 => ?_, lM_cg (fun a j h => key a j (by omega) (by omega) (by omega)) ⟨m1, m2, m3⟩, lB_cg (fun a j h => key a j (by omega) (by omega) (by omega)) l5, lS_cg (fun a j h => key a j (by omega) (by omega) (by omega)) l6⟩
  · rw [e125]
    exact ⟨rK_cg (fun a j q1 q2 => jz a j (by omega) (by omega)) hK, tW_of (fun a j q1 q2 => jz a j (by omega) (by omega)) (fun _ _ => rfl) hT, aK_cg (fun a j q1 q2 => key a j (by omega) (by omega) (by omega)) l1.2.2⟩
  · rw [e125]; exact (m3 h0).2.2
  · rw [key 123 k (by omega) (by omega) (by omega), key 128 k (by omega) (by omega) (by omega)]; exact l3 k h1 h2
theorem re_v {I I1 : mg_I} (hL : LI I) (h0 : ¬ I 5 4 = 0) (hF : bH 14 I I1) : I 126 1 = vRs I1 := by
  unfold vRs
  have m2 := hL.2.2.2.1.2.1
  rw [hF 124 3 (by omega), ← m2, if_neg h0, hF 126 1 (by omega)]
theorem re_v0 {I : mg_I} (hL : LI I) (h0 : I 5 4 = 0) : -1000000000 - nI 2 = vRs (jK1 I 2) := by
  unfold vRs
  have m2 := hL.2.2.2.1.2.1
  rw [show jK1 I 2 124 3 = I 124 3 from mf_ne (by omega), ← m2, if_pos h0]
theorem LI_re0 {I J : mg_I} (hL : LI I) (h0 : I 5 4 = 0) (hX : mX (jRs (jK1 I 2)) J) : LI J := by
  have m2 := hL.2.2.2.1.2.1
  have e : jRs (jK1 I 2) = mf_up (jK1 I 2) 128 2 (jK1 I 2 128 2 + 1) := if_pos (by rw [show jK1 I 2 124 3 = I 124 3 from mf_ne (by omega), ← m2]; exact h0)
  rw [e] at hX
  exact LI_e (e := 2) (by decide) hL rfl hX
section U
variable {sc : List Value} {own : Nat} {ini rz : Bool} {code : List (Nat × Instr)} {d n : Nat} {ls r : List Value} {I : mg_I} {nm0 : Nat} {Q : Option Value → mg_I → Nat → Prop}
theorem lw_M {p : Nat × (Nat → Int32)} (k : ∀ I1, RC I1 p.2 → cF I I1 → GG sc own ini rz code d n ls (.int (nI p.1) :: r) I1 nm0 Q) : ∀ a I2 nm2, qRm I p nm0 a I2 nm2 → GG sc own ini rz code d n ls (a.toList ++ r) I2 nm2 Q := by
  rintro a I2 nm2 ⟨rfl, ⟨h1, h2⟩, rfl⟩
  exact k I2 h1 h2
theorem lw_I {dk : Nat → Int32} (k : ∀ I1, rK I1 74 dk → tW I1 74 dk → I1 5 4 = I 5 4 + 1 → (∀ a j, (a < 74 ∨ 104 ≤ a) → ¬ (a = 5 ∧ j = 4) → I1 a j = I a j) → GG sc own ini rz code d n ls (.int (I 5 4 + 1) :: r) I1 nm0 Q) : ∀ a I2 nm2, qIM dk I nm0 a I2 nm2 → GG sc own ini rz code d n ls (a.toList ++ r) I2 nm2 Q := by
  rintro a I2 nm2 ⟨rfl, ⟨h1, h2, h3, h4⟩, rfl⟩
  exact k I2 h1 h2 h3 h4
theorem lw_R {dk : Nat → Int32} (k : ∀ I1, rK I1 14 dk → tW I1 14 dk → bH 14 I I1 → GG sc own ini rz code d n ls (.int (dk 1) :: r) I1 nm0 Q) : ∀ a I2 nm2, qRS dk I nm0 a I2 nm2 → GG sc own ini rz code d n ls (a.toList ++ r) I2 nm2 Q := by
  rintro a I2 nm2 ⟨rfl, ⟨h1, h2, h3⟩, rfl⟩
  exact k I2 h1 h2 h3
end U
set_option maxRecDepth 20000 in
theorem lw_op28 {L i d nm : Nat} {xs : Nat → Int32} {I : mg_I} {Q : Option Value → mg_I → Nat → Prop} (hd : 60 ≤ d) (hi : i + 6 ≤ L) (hL3 : L ≤ 3072) (hL : LI I) (hk : lk L xs d i Q) : GG (mi_sc L xs) 13 false true mi_k231 d 1092 [.ref 0, .ref 5, .ref 124, .int (nI i)] [] I nm Q := by
  have hC := hL.1
  have hg := hL.2.1
  have hw := hg.1
  have hv := hg.2.1
  have hm1 := hg.2.2.1
  have hS := hg.2.2.2.1
  have hLd := hg.2.2.2.2.1
  have h6 := hg.2.2.2.2.2.1
  have h7 := hg.2.2.2.2.2.2.1
  have hb := hg.2.2.2.2.2.2.2.1
  have hN := hw.1.1
  have h5 := hw.2.2.2
  refine g_aload_n (n := 1093) rfl rfl ?_
  refine g_aload_n (n := 1094) rfl rfl ?_
  refine g_iload_n (n := 1095) rfl rfl ?_
  refine g_iconst (n := 1096) (v := 1) rfl rfl ?_
  refine g_iaddN (n := 1097) (x := i) (y := 1) rfl ?_
  refine g_sld (n := 1098) ((i + 1)) rfl (by omega) (by omega) ?_
  refine g_cv1 (n := 1101) (t := 119) (ci := 11) rfl (by decide +kernel) (by decide +kernel) (by decide) (by decide) (by decide +kernel) (by rfl) (show SP _ _ _ _ _ _ (qE _ (jdM I _) _) from c_kJudge hC (lS_w hL.2.2.2.2.2)) (by omega) (g_E ?_)
  refine g_aload_n (n := 1102) rfl rfl ?_
  refine g_aload_n (n := 1103) rfl rfl ?_
  refine g_iload_n (n := 1104) rfl rfl ?_
  refine g_iconst (n := 1105) (v := 1) rfl rfl ?_
  refine g_iaddN (n := 1106) (x := i) (y := 1) rfl ?_
  refine g_sld (n := 1107) ((i + 1)) rfl (by omega) (by omega) ?_
  refine g_cv1 (n := 1110) (t := 224) (ci := 12) rfl (by decide +kernel) (by decide +kernel) (by decide) (by decide) (by decide +kernel) (by rfl) (c_judge (sC_w hL.2.2.2.2.2 (sC_of hL.2.2.2.2.2 (fun a j q1 q2 => jdM_r (by omega)))) (jd_0 hN)) (by omega) (lw_S fun J hX => ?_)
  refine g_iceq (n := 1113) 1223 rfl (by decide) (fun _ => ?_) (fun h => absurd (lj_v hL.2.2.2.2.2) h)
  exact hk J _ (LI_jd hL hX)
set_option maxRecDepth 20000 in
theorem lw_op29 {L i d nm : Nat} {xs : Nat → Int32} {I : mg_I} {Q : Option Value → mg_I → Nat → Prop} (hd : 60 ≤ d) (hi : i + 6 ≤ L) (hL3 : L ≤ 3072) (hL : LI I) (hk : lk L xs d i Q) : GG (mi_sc L xs) 13 false true mi_k231 d 1115 [.ref 0, .ref 5, .ref 124, .int (nI i)] [] I nm Q := by
  have hC := hL.1
  have hg := hL.2.1
  have hw := hg.1
  have hv := hg.2.1
  have hm1 := hg.2.2.1
  have hS := hg.2.2.2.1
  have hLd := hg.2.2.2.2.1
  have h6 := hg.2.2.2.2.2.1
  have h7 := hg.2.2.2.2.2.2.1
  have hb := hg.2.2.2.2.2.2.2.1
  have hN := hw.1.1
  have h5 := hw.2.2.2
  refine g_aload_n (n := 1116) rfl rfl ?_
  refine g_cv0 (n := 1119) (t := 120) (ci := 11) rfl (by decide +kernel) (by decide +kernel) (by decide) (by decide) (by decide +kernel) (by rfl) (c_kImage hC hw hL.2.2.2.1.1) (by omega) (lw_I fun I1 hK hT h54 hF => ?_)
  refine g_aload_n (n := 1120) rfl rfl ?_
  refine g_cv0 (n := 1123) (t := 225) (ci := 12) rfl (by decide +kernel) (by decide +kernel) (by decide) (by decide) (by decide +kernel) (by rfl) (c_image) (by omega) (lw_S fun J hX => ?_)
  refine g_iceq (n := 1126) 1223 rfl (by decide) (fun _ => ?_) (fun h => absurd (congrArg (fun z => z + 1) (hL.2.2.2.1.2.1.trans (hF 124 3 (by omega) (by omega)).symm)) h)
  exact hk J _ (LI_im hL hK hT h54 hF hX)
set_option maxRecDepth 20000 in
theorem lw_op27a {L i d nm : Nat} {xs : Nat → Int32} {I : mg_I} {Q : Option Value → mg_I → Nat → Prop} (hd : 60 ≤ d) (hi : i + 6 ≤ L) (hL3 : L ≤ 3072) (hL : LI I) (hk : lk L xs d i Q) (h0 : eShC I (xs (i + 1)) = 0) : GG (mi_sc L xs) 13 false true mi_k231 d 1069 [.ref 0, .ref 5, .ref 124, .int (nI i)] [] I nm Q := by
  have hC := hL.1
  have hg := hL.2.1
  have hw := hg.1
  have hv := hg.2.1
  have hm1 := hg.2.2.1
  have hS := hg.2.2.2.1
  have hLd := hg.2.2.2.2.1
  have h6 := hg.2.2.2.2.2.1
  have h7 := hg.2.2.2.2.2.2.1
  have hb := hg.2.2.2.2.2.2.2.1
  have hN := hw.1.1
  have h5 := hw.2.2.2
  refine g_aload_n (n := 1070) rfl rfl ?_
  refine g_aload_n (n := 1071) rfl rfl ?_
  refine g_iload_n (n := 1072) rfl rfl ?_
  refine g_iconst (n := 1073) (v := 1) rfl rfl ?_
  refine g_iaddN (n := 1074) (x := i) (y := 1) rfl ?_
  refine g_sld (n := 1075) ((i + 1)) rfl (by omega) (by omega) ?_
  refine g_cv1 (n := 1078) (t := 118) (ci := 11) rfl (by decide +kernel) (by decide +kernel) (by decide) (by decide) (by decide +kernel) (by rfl) (c_kRooms1 hC hLd (lS_w hL.2.2.2.2.2) h0) (by omega) (lw_M fun I1 hC1 hF1 => ?_)
  refine g_aload_n (n := 1079) rfl rfl ?_
  refine g_aload_n (n := 1080) rfl rfl ?_
  refine g_iload_n (n := 1081) rfl rfl ?_
  refine g_iconst (n := 1082) (v := 1) rfl rfl ?_
  refine g_iaddN (n := 1083) (x := i) (y := 1) rfl ?_
  refine g_sld (n := 1084) ((i + 1)) rfl (by omega) (by omega) ?_
  refine g_cv1 (n := 1087) (t := 223) (ci := 12) rfl (by decide +kernel) (by decide +kernel) (by decide) (by decide) (by decide +kernel) (by rfl) (c_rooms (sC_w hL.2.2.2.2.2 (sC_of hL.2.2.2.2.2 (fun a j q1 q2 => hF1 a j (by omega)))) (by rw [hF1 125 0 (by omega)]; exact hN)) (by omega) (lw_S fun J hX => ?_)
  refine g_iceq (n := 1090) 1223 rfl (by decide) (fun _ => ?_) (fun h => absurd (rm_v hL.2.2.2.2.2 h0 hF1) h)
  exact hk J _ (LI_rm hL h0 hC1 hF1 hX)
set_option maxRecDepth 20000 in
theorem lw_op27b {L i d nm : Nat} {xs : Nat → Int32} {I : mg_I} {Q : Option Value → mg_I → Nat → Prop} (hd : 60 ≤ d) (hi : i + 6 ≤ L) (hL3 : L ≤ 3072) (hL : LI I) (hk : lk L xs d i Q) (h0 : ¬ eShC I (xs (i + 1)) = 0) : GG (mi_sc L xs) 13 false true mi_k231 d 1069 [.ref 0, .ref 5, .ref 124, .int (nI i)] [] I nm Q := by
  have hC := hL.1
  have hg := hL.2.1
  have hw := hg.1
  have hv := hg.2.1
  have hm1 := hg.2.2.1
  have hS := hg.2.2.2.1
  have hLd := hg.2.2.2.2.1
  have h6 := hg.2.2.2.2.2.1
  have h7 := hg.2.2.2.2.2.2.1
  have hb := hg.2.2.2.2.2.2.2.1
  have hN := hw.1.1
  have h5 := hw.2.2.2
  refine g_aload_n (n := 1070) rfl rfl ?_
  refine g_aload_n (n := 1071) rfl rfl ?_
  refine g_iload_n (n := 1072) rfl rfl ?_
  refine g_iconst (n := 1073) (v := 1) rfl rfl ?_
  refine g_iaddN (n := 1074) (x := i) (y := 1) rfl ?_
  refine g_sld (n := 1075) ((i + 1)) rfl (by omega) (by omega) ?_
  refine g_cv1 (n := 1078) (t := 118) (ci := 11) rfl (by decide +kernel) (by decide +kernel) (by decide) (by decide) (by decide +kernel) (by rfl) (c_kRooms0 h0) (by omega) (g_E ?_)
  refine g_aload_n (n := 1079) rfl rfl ?_
  refine g_aload_n (n := 1080) rfl rfl ?_
  refine g_iload_n (n := 1081) rfl rfl ?_
  refine g_iconst (n := 1082) (v := 1) rfl rfl ?_
  refine g_iaddN (n := 1083) (x := i) (y := 1) rfl ?_
  refine g_sld (n := 1084) ((i + 1)) rfl (by omega) (by omega) ?_
  refine g_cv1 (n := 1087) (t := 223) (ci := 12) rfl (by decide +kernel) (by decide +kernel) (by decide) (by decide) (by decide +kernel) (by rfl) (c_rooms (sC_w hL.2.2.2.2.2 (sC_of hL.2.2.2.2.2 (fun a j q1 q2 => mf_ne (by omega)))) (by rw [mf_ne (by omega)]; exact hN)) (by omega) (lw_S fun J hX => ?_)
  refine g_iceq (n := 1090) 1223 rfl (by decide) (fun _ => ?_) (fun h => absurd (rm_ev hL.2.2.2.2.2 h0) h)
  exact hk J _ (LI_rme hL h0 hX)
theorem lw_op27 {L i d nm : Nat} {xs : Nat → Int32} {I : mg_I} {Q : Option Value → mg_I → Nat → Prop} (hd : 60 ≤ d) (hi : i + 6 ≤ L) (hL3 : L ≤ 3072) (hL : LI I) (hk : lk L xs d i Q) : GG (mi_sc L xs) 13 false true mi_k231 d 1069 [.ref 0, .ref 5, .ref 124, .int (nI i)] [] I nm Q := by
  by_cases h0 : eShC I (xs (i + 1)) = 0
  · exact lw_op27a hd hi hL3 hL hk h0
  · exact lw_op27b hd hi hL3 hL hk h0
set_option maxRecDepth 20000 in
theorem lw_op30a {L i d nm : Nat} {xs : Nat → Int32} {I : mg_I} {Q : Option Value → mg_I → Nat → Prop} (hd : 60 ≤ d) (hi : i + 6 ≤ L) (hL3 : L ≤ 3072) (hL : LI I) (hk : lk L xs d i Q) (h0 : I 5 4 = 0) : GG (mi_sc L xs) 13 false true mi_k231 d 1128 [.ref 0, .ref 5, .ref 124, .int (nI i)] [] I nm Q := by
  have hC := hL.1
  have hg := hL.2.1
  have hw := hg.1
  have hv := hg.2.1
  have hm1 := hg.2.2.1
  have hS := hg.2.2.2.1
  have hLd := hg.2.2.2.2.1
  have h6 := hg.2.2.2.2.2.1
  have h7 := hg.2.2.2.2.2.2.1
  have hb := hg.2.2.2.2.2.2.2.1
  have hN := hw.1.1
  have h5 := hw.2.2.2
  refine g_aload_n (n := 1129) rfl rfl ?_
  refine g_cv0 (n := 1132) (t := 121) (ci := 11) rfl (by decide +kernel) (by decide +kernel) (by decide) (by decide) (by decide +kernel) (by rfl) (c_kRestore0 h0) (by omega) (g_E ?_)
  refine g_aload_n (n := 1133) rfl rfl ?_
  refine g_cv0 (n := 1136) (t := 226) (ci := 12) rfl (by decide +kernel) (by decide +kernel) (by decide) (by decide) (by decide +kernel) (by rfl) (c_restore) (by omega) (lw_S fun J hX => ?_)
  refine g_iceq (n := 1139) 1223 rfl (by decide) (fun _ => ?_) (fun h => absurd (re_v0 hL h0) h)
  exact hk J _ (LI_re0 hL h0 hX)
set_option maxRecDepth 20000 in
theorem lw_op30b {L i d nm : Nat} {xs : Nat → Int32} {I : mg_I} {Q : Option Value → mg_I → Nat → Prop} (hd : 60 ≤ d) (hi : i + 6 ≤ L) (hL3 : L ≤ 3072) (hL : LI I) (hk : lk L xs d i Q) (h0 : ¬ I 5 4 = 0) : GG (mi_sc L xs) 13 false true mi_k231 d 1128 [.ref 0, .ref 5, .ref 124, .int (nI i)] [] I nm Q := by
  have hC := hL.1
  have hg := hL.2.1
  have hw := hg.1
  have hv := hg.2.1
  have hm1 := hg.2.2.1
  have hS := hg.2.2.2.1
  have hLd := hg.2.2.2.2.1
  have h6 := hg.2.2.2.2.2.1
  have h7 := hg.2.2.2.2.2.2.1
  have hb := hg.2.2.2.2.2.2.2.1
  have hN := hw.1.1
  have h5 := hw.2.2.2
  refine g_aload_n (n := 1129) rfl rfl ?_
  refine g_cv0 (n := 1132) (t := 121) (ci := 11) rfl (by decide +kernel) (by decide +kernel) (by decide) (by decide) (by decide +kernel) (by rfl) (c_kRestore1 h0 (rK_a hC.1) (hL.2.2.2.1.2.2 h0).1 (hL.2.2.2.1.2.2 h0).2.1 (hL.2.2.2.1.2.2 h0).2.2.1) (by omega) (lw_R fun I1 hK hT hF => ?_)
  refine g_aload_n (n := 1133) rfl rfl ?_
  refine g_cv0 (n := 1136) (t := 226) (ci := 12) rfl (by decide +kernel) (by decide +kernel) (by decide) (by decide) (by decide +kernel) (by rfl) (c_restore) (by omega) (lw_S fun J hX => ?_)
  refine g_iceq (n := 1139) 1223 rfl (by decide) (fun _ => ?_) (fun h => absurd (re_v hL h0 hF) h)
  exact hk J _ (LI_re hL h0 hK hT hF hX)
theorem lw_op30 {L i d nm : Nat} {xs : Nat → Int32} {I : mg_I} {Q : Option Value → mg_I → Nat → Prop} (hd : 60 ≤ d) (hi : i + 6 ≤ L) (hL3 : L ≤ 3072) (hL : LI I) (hk : lk L xs d i Q) : GG (mi_sc L xs) 13 false true mi_k231 d 1128 [.ref 0, .ref 5, .ref 124, .int (nI i)] [] I nm Q := by
  by_cases h0 : I 5 4 = 0
  · exact lw_op30a hd hi hL3 hL hk h0
  · exact lw_op30b hd hi hL3 hL hk h0
