/-! the class itself: what stays, refusals -/
theorem g_ldcw {sc : List Value} {own : Nat} {ini rz : Bool} {code : List (Nat × Instr)} {d pc n : Nat} {ls : List Value} {I : mg_I} {nm : Nat} {Q : Option Value → mg_I → Nat → Prop} {r : List Value} {fk pl : Nat} {v : Int32} (h : mg_f code pc = some (.ldc_w fk, n)) (hg : mi_kc.lookup (own, fk) = some (v, pl)) (k : GG sc own ini rz code d n ls (.int v :: r) I nm Q) : GG sc own ini rz code d pc ls r I nm Q := by
  obtain rfl := g_next h
  refine g_step h rfl (fun _ => ?_) k
  simp only [mi_one, mi_A, mi_B, mi_L, mi_Y, mi_ldw, hg, Option.map_some]
theorem t104 : isText 104 := Or.inr (Or.inr (Or.inr (Or.inr (Or.inr (Or.inr rfl)))))
theorem rK_cg {I J : mg_I} {B : Nat} {d : Nat → Int32} (h : ∀ a j, B ≤ a → a < B + 30 → J a j = I a j) (hR : rK I B d) : rK J B d := by
  obtain ⟨h1, h2, h3, h4, ⟨h5, h6, h7, h8, h9⟩, h10, h11⟩ := hR
  have hN := (fN_eq h11).2
  refine ⟨fun j hj => (h _ _ (by omega) (by omega)).trans (h1 j hj), fun y hy => (h _ _ (by omega) (by omega)).trans (h2 y hy), fun g hg w hw => (h _ _ (by omega) (by omega)).trans (h3 g hg w hw), fun g hg => ?_, ⟨fun g hg => (h _ _ (by omega) (by omega)).trans (h5 g hg), (h _ _ (by omega) (by omega)).trans h6, (h _ _ (by omega) (by omega)).trans h7, (h _ _ (by omega) (by omega)).trans h8, (h _ _ (by omega) (by omega)).trans h9⟩, fun u hu => ?_, h11⟩
  · obtain ⟨e1, e2, e3, e4, e5⟩ := h4 g hg
    exact ⟨(h _ _ (by omega) (by omega)).trans e1, (h _ _ (by omega) (by omega)).trans e2, (h _ _ (by omega) (by omega)).trans e3, (h _ _ (by omega) (by omega)).trans e4, (h _ _ (by omega) (by omega)).trans e5⟩
  · obtain ⟨n, a, b, c⟩ := h10 u hu
    refine ⟨n, a, (h _ _ (by omega) (by omega)).trans b, fun x y z => ?_⟩
    rw [show J (B + 16 + 7 * u + 2) = I (B + 16 + 7 * u + 2) from funext fun j => h _ _ (by omega) (by omega)]
    exact c x y z
theorem aK_cg {I J : mg_I} {B : Nat} (h : ∀ a j, B ≤ a → a < B + 30 → J a j = I a j) (hA : aK I B) : aK J B := ⟨fun g hg => (h _ _ (by omega) (by omega)).trans (hA.1 g hg), (h _ _ (by omega) (by omega)).trans hA.2.1, (h _ _ (by omega) (by omega)).trans hA.2.2.1, (h _ _ (by omega) (by omega)).trans hA.2.2.2.1, (h _ _ (by omega) (by omega)).trans hA.2.2.2.2⟩
theorem tW_of {I J : mg_I} {B : Nat} {d d' : Nat → Int32} (hI : ∀ a j, B + 11 ≤ a → a ≤ B + 14 → J a j = I a j) (hd : ∀ j, j = 6 ∨ j = 7 ∨ 116 ≤ j → d' j = d j) (h : tW I B d) : tW J B d' := by
  obtain ⟨n, m, h1, h2, h3, h4, h5, h6, h7, h8⟩ := h
  exact ⟨n, m, h1, h2, (hd _ (by omega)).trans h3, (hd _ (by omega)).trans h4, (hI _ _ (by omega) (by omega)).trans h5, (hI _ _ (by omega) (by omega)).trans h6, fun k hk => (hI _ _ (by omega) (by omega)).trans ((h7 k hk).trans (hd _ (by omega)).symm), fun k hk => (hI _ _ (by omega) (by omega)).trans ((h8 k hk).trans (hd _ (by omega)).symm)⟩
/-- the class stands at the numbers d -/
def RC (I : mg_I) (d : Nat → Int32) : Prop := rK I 14 d ∧ tW I 14 d ∧ aK I 44
def cF (I J : mg_I) : Prop := ∀ a j, (a < 14 ∨ (74 ≤ a ∧ a < 104) ∨ 111 ≤ a) → J a j = I a j
def kE (I : mg_I) (e : Nat) : mg_I := if e = 0 then I else mf_up I 123 e (I 123 e + 1)
def qC (I : mg_I) (p : rD) (nm : Nat) : Option Value → mg_I → Nat → Prop := fun r I' nm' => r = some (.int (ans p)) ∧ (RC I' p.2.2 ∧ cF (kE I p.1) I') ∧ nm' = nm
theorem cF.rfl' {I : mg_I} : cF I I := fun _ _ _ => rfl
theorem cF.trans {I J K : mg_I} (h : cF I J) (h2 : cF J K) : cF I K := fun a j x => (h2 a j x).trans (h a j x)
theorem cF_h {I J : mg_I} (h : bH 44 I J) : cF I J := fun a j x => h a j (by omega)
theorem cF_14 {I J : mg_I} (h : bF 14 I J) : cF I J := fun a j x => h a j (by omega)
theorem cF_44 {I J : mg_I} (h : bF 44 I J) : cF I J := fun a j x => h a j (by omega)
theorem cF_mf {I J : mg_I} (h : cF I J) {a j : Nat} {x : Int32} (ha : 14 ≤ a ∧ a < 74) : cF I (mf_up J a j x) := fun b k hb => (mf_ne (by omega)).trans (h b k hb)
theorem RC_cg {I J : mg_I} {d : Nat → Int32} (h : ∀ a j, 14 ≤ a → a < 74 → J a j = I a j) (hC : RC I d) : RC J d := ⟨rK_cg (fun a j h1 h2 => h a j h1 (by omega)) hC.1, tW_of (fun a j h1 h2 => h a j (by omega) (by omega)) (fun _ _ => rfl) hC.2.1, aK_cg (fun a j h1 h2 => h a j (by omega) (by omega)) hC.2.2⟩
theorem RC_of {I J : mg_I} {d d' : Nat → Int32} (hR : rK J 14 d') (hI : ∀ a j, (25 ≤ a ∧ a ≤ 28) ∨ (44 ≤ a ∧ a < 74) → J a j = I a j) (hd : ∀ j, j = 6 ∨ j = 7 ∨ 116 ≤ j → d' j = d j) (hC : RC I d) : RC J d' := ⟨hR, tW_of (fun a j h1 h2 => hI a j (by omega)) hd hC.2.1, aK_cg (fun a j h1 h2 => hI a j (by omega)) hC.2.2⟩
theorem RC_a {I J : mg_I} {d d2 : Nat → Int32} (hC : RC I d) (h : bH 44 I J) (hA : rK J 44 d2) : RC J d := ⟨rK_cg (fun a j h1 h2 => h a j (by omega)) hC.1, tW_of (fun a j h1 h2 => h a j (by omega)) (fun _ _ => rfl) hC.2.1, rK_a hA⟩
theorem bF_h {B : Nat} {I J : mg_I} (h : bF B I J) : bH B I J := fun a j x => h a j (by omega)
theorem bH.trans {B : Nat} {I J K : mg_I} (h : bH B I J) (h2 : bH B J K) : bH B I K := fun a j x => (h2 a j x).trans (h a j x)
/-- minutes pass now -/
theorem RC_n {I J : mg_I} {d d' : Nat → Int32} (hC : RC I d) (hR : rK J 14 d') (hF : bF 14 I J) (hd : ∀ j, j = 6 ∨ j = 7 ∨ 116 ≤ j → d' j = d j) : RC J d' := RC_of hR (fun a j h => hF a j (by omega)) hd hC
theorem qC_v {I J : mg_I} {d : Nat → Int32} {v : Int32} {nm : Nat} (hR : RC J d) (hF : cF I J) : qC I (0, v, d) nm (some (.int v)) J nm := ⟨rfl, ⟨hR, hF⟩, rfl⟩
theorem qC_e {I J : mg_I} {d : Nat → Int32} {k nm : Nat} (hk : 0 < k) (hR : RC J d) (hF : cF I J) : qC I (fE d k) nm (some (.int (-1000000000 - nI k))) (mf_up J 123 k (J 123 k + 1)) nm := by
  refine ⟨congrArg (fun z => some (Value.int z)) ?_, ⟨RC_cg (fun a j h1 h2 => mf_ne (by omega)) hR, ?_⟩, rfl⟩
  · exact (if_neg (by show ¬ k = 0; omega)).symm
  · rw [show kE I (fE d k).1 = mf_up I 123 k (I 123 k + 1) from if_neg (by show ¬ k = 0; omega)]
    intro a j ha
    by_cases e : a = 123 ∧ j = k
    · obtain ⟨rfl, rfl⟩ := e
      rw [mf_at, mf_at, hF 123 j (by omega)]
    · rw [mf_ne e, mf_ne e]; exact hF a j ha
theorem fail_k : ∀ k, k < 6 → 0 < k → (-1000000000 : Int32) - (-1000000000 - nI k) = nI k ∧ ¬ nI k < 1 ∧ ¬ 5 < nI k := by decide +kernel
theorem c_fail {sc : List Value} {nm : Nat} {I : mg_I} {k : Nat} (hk : 0 < k ∧ k < 6) : SP sc 1 126 [.ref 5, .int (-1000000000 - nI k)] I nm (qE (-1000000000 - nI k) (mf_up I 123 k (I 123 k + 1)) nm) := by
  refine SP.of (h := 0) (t := 126) (q := (yX11_fail, cX11_fail, 3, (some .int), 11, 412, mi_k126)) rfl (by decide) (show ¬ (3 : Nat) < 2 by decide) (fun dd hd => ?_)
  show GG sc 11 false false mi_k126 dd 0 [.ref 5, .int (-1000000000 - nI k), .null] [] I nm (qE (-1000000000 - nI k) (mf_up I 123 k (I 123 k + 1)) nm)
  refine g_ldcw (n := 3) (v := -1000000000) (pl := 413) rfl (by decide +kernel) ?_
  refine g_iload_n (n := 4) rfl rfl ?_
  refine g_isub (n := 5) rfl ?_
  refine g_top (w := nI k) (fail_k k (by omega) (by omega)).1 ?_
  refine g_istore_n2 (n := 6) rfl rfl ?_
  refine g_iload_n (n := 7) rfl rfl ?_
  refine g_iconst (n := 8) (v := 1) rfl rfl ?_
  refine g_iclt (n := 11) 26 rfl (by decide) (fun h => absurd h (fail_k k (by omega) (by omega)).2.1) (fun _ => ?_)
  refine g_iload_n (n := 12) rfl rfl ?_
  refine g_iconst (n := 13) (v := 5) rfl rfl ?_
  refine g_icgt (n := 16) 26 rfl (by decide) (fun h => absurd h (fail_k k (by omega) (by omega)).2.2) (fun _ => ?_)
  refine g_aload_n (n := 17) rfl rfl ?_
  refine g_getr (n := 20) (ci := 11) (j := 9) (b := 123) rfl (by decide +kernel) (by decide) (by decide) (by decide +kernel) ?_
  refine g_iload_n (n := 21) rfl rfl ?_
  refine g_dup2 (n := 22) rfl ?_
  refine g_iald (n := 23) (k) rfl (by decide) rfl (by show _ < 6; omega) ?_
  refine g_iconst (n := 24) (v := 1) rfl rfl ?_
  refine g_iadd (n := 25) rfl ?_
  refine g_iast (n := 26) (k) rfl (by decide) rfl (by show _ < 6; omega) ?_
  refine g_iload_n (n := 27) rfl rfl ?_
  refine g_iret (n := 28) rfl (fun h => nomatch h) ?_
  exact ⟨rfl, rfl, rfl⟩
theorem c_kYard {sc : List Value} {nm : Nat} {I : mg_I} {y : Int32} : SP sc 1 131 [.int y] I nm (qE (bI (0 ≤ y.toInt ∧ y.toInt ≤ 23)) I nm) := by
  refine SP.of (h := 0) (t := 131) (q := (yX11_isYard, cX11_isYard, 1, (some .boolean), 11, 389, mi_k131)) rfl (by decide) (show ¬ (1 : Nat) < 1 by decide) (fun dd hd => ?_)
  show GG sc 11 false true mi_k131 dd 0 [.int y] [] I nm (qE (bI (0 ≤ y.toInt ∧ y.toInt ≤ 23)) I nm)
  refine g_iload_n (n := 1) rfl rfl ?_
  refine g_iflt (n := 4) 14 rfl (by decide) (fun h1 => ?_) (fun h1 => ?_)
  ·
    have h1i : Int32.toInt _ < 0 := Int32.lt_iff_toInt_lt.mp (h1)
    refine g_iconst (n := 15) (v := 0) rfl rfl ?_
    refine g_iret (n := 16) rfl (fun _ => by first | exact Or.inl rfl | exact Or.inr rfl | exact bI_01 | exact bP_01) ?_
    rw [bI_f (by omega)]; exact ⟨rfl, rfl, rfl⟩
  ·
    have h1i : 0 ≤ Int32.toInt _ := Int32.le_iff_toInt_le.mp (Int32.not_lt.mp h1)
    refine g_iload_n (n := 5) rfl rfl ?_
    refine g_bipush (n := 7) (v := 24) rfl rfl ?_
    refine g_icge (n := 10) 14 rfl (by decide) (fun h2 => ?_) (fun h2 => ?_)
    ·
      have h2i : 24 ≤ Int32.toInt _ := Int32.le_iff_toInt_le.mp (h2)
      refine g_iconst (n := 15) (v := 0) rfl rfl ?_
      refine g_iret (n := 16) rfl (fun _ => by first | exact Or.inl rfl | exact Or.inr rfl | exact bI_01 | exact bP_01) ?_
      rw [bI_f (by omega)]; exact ⟨rfl, rfl, rfl⟩
    ·
      have h2i : Int32.toInt _ < 24 := Int32.lt_iff_toInt_lt.mp (Int32.not_le.mp h2)
      refine g_iconst (n := 11) (v := 1) rfl rfl ?_
      refine g_goto 15 rfl (by decide) ?_
      refine g_iret (n := 16) rfl (fun _ => by first | exact Or.inl rfl | exact Or.inr rfl | exact bI_01 | exact bP_01) ?_
      rw [bI_t (by first | omega | (rename_i z1; omega))]; exact ⟨rfl, rfl, rfl⟩
theorem c_kStart {sc : List Value} {nm : Nat} {I : mg_I} {y : Int32} : SP sc 1 132 [.int y] I nm (qE (bI (0 ≤ y.toInt ∧ y.toInt ≤ 999)) I nm) := by
  refine SP.of (h := 0) (t := 132) (q := (yX11_isStart, cX11_isStart, 1, (some .boolean), 11, 434, mi_k132)) rfl (by decide) (show ¬ (1 : Nat) < 1 by decide) (fun dd hd => ?_)
  show GG sc 11 false true mi_k132 dd 0 [.int y] [] I nm (qE (bI (0 ≤ y.toInt ∧ y.toInt ≤ 999)) I nm)
  refine g_iload_n (n := 1) rfl rfl ?_
  refine g_iflt (n := 4) 15 rfl (by decide) (fun h1 => ?_) (fun h1 => ?_)
  ·
    have h1i : Int32.toInt _ < 0 := Int32.lt_iff_toInt_lt.mp (h1)
    refine g_iconst (n := 16) (v := 0) rfl rfl ?_
    refine g_iret (n := 17) rfl (fun _ => by first | exact Or.inl rfl | exact Or.inr rfl | exact bI_01 | exact bP_01) ?_
    rw [bI_f (by omega)]; exact ⟨rfl, rfl, rfl⟩
  ·
    have h1i : 0 ≤ Int32.toInt _ := Int32.le_iff_toInt_le.mp (Int32.not_lt.mp h1)
    refine g_iload_n (n := 5) rfl rfl ?_
    refine g_sipush (n := 8) (v := 999) rfl rfl ?_
    refine g_icgt (n := 11) 15 rfl (by decide) (fun h2 => ?_) (fun h2 => ?_)
    ·
      have h2i : 999 < Int32.toInt _ := Int32.lt_iff_toInt_lt.mp (h2)
      refine g_iconst (n := 16) (v := 0) rfl rfl ?_
      refine g_iret (n := 17) rfl (fun _ => by first | exact Or.inl rfl | exact Or.inr rfl | exact bI_01 | exact bP_01) ?_
      rw [bI_f (by omega)]; exact ⟨rfl, rfl, rfl⟩
    ·
      have h2i : Int32.toInt _ ≤ 999 := Int32.le_iff_toInt_le.mp (Int32.not_lt.mp h2)
      refine g_iconst (n := 12) (v := 1) rfl rfl ?_
      refine g_goto 16 rfl (by decide) ?_
      refine g_iret (n := 17) rfl (fun _ => by first | exact Or.inl rfl | exact Or.inr rfl | exact bI_01 | exact bP_01) ?_
      rw [bI_t (by first | omega | (rename_i z1; omega))]; exact ⟨rfl, rfl, rfl⟩
theorem c_kKm {sc : List Value} {nm : Nat} {I : mg_I} {y : Int32} : SP sc 1 133 [.int y] I nm (qE (bI (0 ≤ y.toInt ∧ y.toInt ≤ 69)) I nm) := by
  refine SP.of (h := 0) (t := 133) (q := (yX11_isKindAndNumber, cX11_isKindAndNumber, 1, (some .boolean), 11, 431, mi_k133)) rfl (by decide) (show ¬ (1 : Nat) < 1 by decide) (fun dd hd => ?_)
  show GG sc 11 false true mi_k133 dd 0 [.int y] [] I nm (qE (bI (0 ≤ y.toInt ∧ y.toInt ≤ 69)) I nm)
  refine g_iload_n (n := 1) rfl rfl ?_
  refine g_iflt (n := 4) 14 rfl (by decide) (fun h1 => ?_) (fun h1 => ?_)
  ·
    have h1i : Int32.toInt _ < 0 := Int32.lt_iff_toInt_lt.mp (h1)
    refine g_iconst (n := 15) (v := 0) rfl rfl ?_
    refine g_iret (n := 16) rfl (fun _ => by first | exact Or.inl rfl | exact Or.inr rfl | exact bI_01 | exact bP_01) ?_
    rw [bI_f (by omega)]; exact ⟨rfl, rfl, rfl⟩
  ·
    have h1i : 0 ≤ Int32.toInt _ := Int32.le_iff_toInt_le.mp (Int32.not_lt.mp h1)
    refine g_iload_n (n := 5) rfl rfl ?_
    refine g_bipush (n := 7) (v := 70) rfl rfl ?_
    refine g_icge (n := 10) 14 rfl (by decide) (fun h2 => ?_) (fun h2 => ?_)
    ·
      have h2i : 70 ≤ Int32.toInt _ := Int32.le_iff_toInt_le.mp (h2)
      refine g_iconst (n := 15) (v := 0) rfl rfl ?_
      refine g_iret (n := 16) rfl (fun _ => by first | exact Or.inl rfl | exact Or.inr rfl | exact bI_01 | exact bP_01) ?_
      rw [bI_f (by omega)]; exact ⟨rfl, rfl, rfl⟩
    ·
      have h2i : Int32.toInt _ < 70 := Int32.lt_iff_toInt_lt.mp (Int32.not_le.mp h2)
      refine g_iconst (n := 11) (v := 1) rfl rfl ?_
      refine g_goto 15 rfl (by decide) ?_
      refine g_iret (n := 16) rfl (fun _ => by first | exact Or.inl rfl | exact Or.inr rfl | exact bI_01 | exact bP_01) ?_
      rw [bI_t (by first | omega | (rename_i z1; omega))]; exact ⟨rfl, rfl, rfl⟩
theorem c_kUse {sc : List Value} {nm : Nat} {I : mg_I} {y : Int32} : SP sc 1 134 [.int y] I nm (qE (bI (0 ≤ y.toInt ∧ y.toInt ≤ 1)) I nm) := by
  refine SP.of (h := 0) (t := 134) (q := (yX11_isUse, cX11_isUse, 1, (some .boolean), 11, 603, mi_k134)) rfl (by decide) (show ¬ (1 : Nat) < 1 by decide) (fun dd hd => ?_)
  show GG sc 11 false true mi_k134 dd 0 [.int y] [] I nm (qE (bI (0 ≤ y.toInt ∧ y.toInt ≤ 1)) I nm)
  refine g_iload_n (n := 1) rfl rfl ?_
  refine g_iflt (n := 4) 13 rfl (by decide) (fun h1 => ?_) (fun h1 => ?_)
  ·
    have h1i : Int32.toInt _ < 0 := Int32.lt_iff_toInt_lt.mp (h1)
    refine g_iconst (n := 14) (v := 0) rfl rfl ?_
    refine g_iret (n := 15) rfl (fun _ => by first | exact Or.inl rfl | exact Or.inr rfl | exact bI_01 | exact bP_01) ?_
    rw [bI_f (by omega)]; exact ⟨rfl, rfl, rfl⟩
  ·
    have h1i : 0 ≤ Int32.toInt _ := Int32.le_iff_toInt_le.mp (Int32.not_lt.mp h1)
    refine g_iload_n (n := 5) rfl rfl ?_
    refine g_iconst (n := 6) (v := 2) rfl rfl ?_
    refine g_icge (n := 9) 13 rfl (by decide) (fun h2 => ?_) (fun h2 => ?_)
    ·
      have h2i : 2 ≤ Int32.toInt _ := Int32.le_iff_toInt_le.mp (h2)
      refine g_iconst (n := 14) (v := 0) rfl rfl ?_
      refine g_iret (n := 15) rfl (fun _ => by first | exact Or.inl rfl | exact Or.inr rfl | exact bI_01 | exact bP_01) ?_
      rw [bI_f (by omega)]; exact ⟨rfl, rfl, rfl⟩
    ·
      have h2i : Int32.toInt _ < 2 := Int32.lt_iff_toInt_lt.mp (Int32.not_le.mp h2)
      refine g_iconst (n := 10) (v := 1) rfl rfl ?_
      refine g_goto 14 rfl (by decide) ?_
      refine g_iret (n := 15) rfl (fun _ => by first | exact Or.inl rfl | exact Or.inr rfl | exact bI_01 | exact bP_01) ?_
      rw [bI_t (by first | omega | (rename_i z1; omega))]; exact ⟨rfl, rfl, rfl⟩
theorem c_kSheet {sc : List Value} {nm : Nat} {I : mg_I} {y : Int32} : SP sc 1 135 [.int y] I nm (qE (bI (0 ≤ y.toInt ∧ y.toInt ≤ 3)) I nm) := by
  refine SP.of (h := 0) (t := 135) (q := (yX11_isSheet, cX11_isSheet, 1, (some .boolean), 11, 989, mi_k135)) rfl (by decide) (show ¬ (1 : Nat) < 1 by decide) (fun dd hd => ?_)
  show GG sc 11 false true mi_k135 dd 0 [.int y] [] I nm (qE (bI (0 ≤ y.toInt ∧ y.toInt ≤ 3)) I nm)
  refine g_iload_n (n := 1) rfl rfl ?_
  refine g_iflt (n := 4) 13 rfl (by decide) (fun h1 => ?_) (fun h1 => ?_)
  ·
    have h1i : Int32.toInt _ < 0 := Int32.lt_iff_toInt_lt.mp (h1)
    refine g_iconst (n := 14) (v := 0) rfl rfl ?_
    refine g_iret (n := 15) rfl (fun _ => by first | exact Or.inl rfl | exact Or.inr rfl | exact bI_01 | exact bP_01) ?_
    rw [bI_f (by omega)]; exact ⟨rfl, rfl, rfl⟩
  ·
    have h1i : 0 ≤ Int32.toInt _ := Int32.le_iff_toInt_le.mp (Int32.not_lt.mp h1)
    refine g_iload_n (n := 5) rfl rfl ?_
    refine g_iconst (n := 6) (v := 4) rfl rfl ?_
    refine g_icge (n := 9) 13 rfl (by decide) (fun h2 => ?_) (fun h2 => ?_)
    ·
      have h2i : 4 ≤ Int32.toInt _ := Int32.le_iff_toInt_le.mp (h2)
      refine g_iconst (n := 14) (v := 0) rfl rfl ?_
      refine g_iret (n := 15) rfl (fun _ => by first | exact Or.inl rfl | exact Or.inr rfl | exact bI_01 | exact bP_01) ?_
      rw [bI_f (by omega)]; exact ⟨rfl, rfl, rfl⟩
    ·
      have h2i : Int32.toInt _ < 4 := Int32.lt_iff_toInt_lt.mp (Int32.not_le.mp h2)
      refine g_iconst (n := 10) (v := 1) rfl rfl ?_
      refine g_goto 14 rfl (by decide) ?_
      refine g_iret (n := 15) rfl (fun _ => by first | exact Or.inl rfl | exact Or.inr rfl | exact bI_01 | exact bP_01) ?_
      rw [bI_t (by first | omega | (rename_i z1; omega))]; exact ⟨rfl, rfl, rfl⟩
theorem c_kWidth {sc : List Value} {nm : Nat} {I : mg_I} {y : Int32} : SP sc 1 136 [.int y] I nm (qE (bI (y = 0 ∨ y = 8 ∨ y = 16 ∨ y = 32)) I nm) := by
  refine SP.of (h := 0) (t := 136) (q := (yX11_isWidth, cX11_isWidth, 1, (some .boolean), 11, 992, mi_k136)) rfl (by decide) (show ¬ (1 : Nat) < 1 by decide) (fun dd hd => ?_)
  show GG sc 11 false true mi_k136 dd 0 [.int y] [] I nm (qE (bI (y = 0 ∨ y = 8 ∨ y = 16 ∨ y = 32)) I nm)
  refine g_iload_n (n := 1) rfl rfl ?_
  refine g_ifeq (n := 4) 22 rfl (by decide) (fun h1 => ?_) (fun h1 => ?_)
  ·
    refine g_iconst (n := 23) (v := 1) rfl rfl ?_
    refine g_goto 27 rfl (by decide) ?_
    refine g_iret (n := 28) rfl (fun _ => by first | exact Or.inl rfl | exact Or.inr rfl | exact bI_01 | exact bP_01) ?_
    rw [bI_t (show y = 0 ∨ y = 8 ∨ y = 16 ∨ y = 32 from Or.inl h1)]; exact ⟨rfl, rfl, rfl⟩
  ·
    refine g_iload_n (n := 5) rfl rfl ?_
    refine g_bipush (n := 7) (v := 8) rfl rfl ?_
    refine g_iceq (n := 10) 22 rfl (by decide) (fun h2 => ?_) (fun h2 => ?_)
    ·
      refine g_iconst (n := 23) (v := 1) rfl rfl ?_
      refine g_goto 27 rfl (by decide) ?_
      refine g_iret (n := 28) rfl (fun _ => by first | exact Or.inl rfl | exact Or.inr rfl | exact bI_01 | exact bP_01) ?_
      rw [bI_t (show y = 0 ∨ y = 8 ∨ y = 16 ∨ y = 32 from Or.inr (Or.inl h2))]; exact ⟨rfl, rfl, rfl⟩
    ·
      refine g_iload_n (n := 11) rfl rfl ?_
      refine g_bipush (n := 13) (v := 16) rfl rfl ?_
      refine g_iceq (n := 16) 22 rfl (by decide) (fun h3 => ?_) (fun h3 => ?_)
      ·
        refine g_iconst (n := 23) (v := 1) rfl rfl ?_
        refine g_goto 27 rfl (by decide) ?_
        refine g_iret (n := 28) rfl (fun _ => by first | exact Or.inl rfl | exact Or.inr rfl | exact bI_01 | exact bP_01) ?_
        rw [bI_t (show y = 0 ∨ y = 8 ∨ y = 16 ∨ y = 32 from Or.inr (Or.inr (Or.inl h3)))]; exact ⟨rfl, rfl, rfl⟩
      ·
        refine g_iload_n (n := 17) rfl rfl ?_
        refine g_bipush (n := 19) (v := 32) rfl rfl ?_
        refine g_icne (n := 22) 26 rfl (by decide) (fun h4 => ?_) (fun h4 => ?_)
        ·
          refine g_iconst (n := 27) (v := 0) rfl rfl ?_
          refine g_iret (n := 28) rfl (fun _ => by first | exact Or.inl rfl | exact Or.inr rfl | exact bI_01 | exact bP_01) ?_
          rw [bI_f (show ¬ (y = 0 ∨ y = 8 ∨ y = 16 ∨ y = 32) from by rintro (z | z | z | z) <;> contradiction)]; exact ⟨rfl, rfl, rfl⟩
        ·
          refine g_iconst (n := 23) (v := 1) rfl rfl ?_
          refine g_goto 27 rfl (by decide) ?_
          refine g_iret (n := 28) rfl (fun _ => by first | exact Or.inl rfl | exact Or.inr rfl | exact bI_01 | exact bP_01) ?_
          rw [bI_t (show y = 0 ∨ y = 8 ∨ y = 16 ∨ y = 32 from Or.inr (Or.inr (Or.inr h4)))]; exact ⟨rfl, rfl, rfl⟩
theorem c_kGoer {sc : List Value} {nm : Nat} {I : mg_I} {d : Nat → Int32} (hR : rK I 14 d) {g : Int32} : SP sc 1 128 [.ref 5, .int g] I nm (qE (bI (0 ≤ g.toInt ∧ g.toInt < (fN d : Int))) I nm) := by
  refine SP.of (h := 0) (t := 128) (q := (yX11_isGoer, cX11_isGoer, 2, (some .boolean), 11, 532, mi_k128)) rfl (by decide) (show ¬ (2 : Nat) < 2 by decide) (fun dd hd => ?_)
  show GG sc 11 false true mi_k128 dd 0 [.ref 5, .int g] [] I nm (qE (bI (0 ≤ g.toInt ∧ g.toInt < (fN d : Int))) I nm)
  have hN8 := (rK_N hR).2
  refine g_iload_n (n := 1) rfl rfl ?_
  refine g_iflt (n := 4) 19 rfl (by decide) (fun h1 => ?_) (fun h1 => ?_)
  ·
    have h1i : Int32.toInt _ < 0 := Int32.lt_iff_toInt_lt.mp (h1)
    refine g_iconst (n := 20) (v := 0) rfl rfl ?_
    refine g_iret (n := 21) rfl (fun _ => by first | exact Or.inl rfl | exact Or.inr rfl | exact bI_01 | exact bP_01) ?_
    rw [bI_f (by omega)]; exact ⟨rfl, rfl, rfl⟩
  ·
    have h1i : 0 ≤ Int32.toInt _ := Int32.le_iff_toInt_le.mp (Int32.not_lt.mp h1)
    refine g_iload_n (n := 5) rfl rfl ?_
    refine g_aload_n (n := 6) rfl rfl ?_
    refine g_getr (n := 9) (ci := 11) (j := 1) (b := (14)) rfl (by decide +kernel) (by decide) (by decide) (by decide +kernel) ?_
    refine g_getv (n := 12) (ci := 1) (j := 2) (v := nI (fN d)) ((rK_n hR (j := 0) (by omega)).trans (rK_N hR).1) rfl (by decide +kernel) rfl (by decide) (cf_hd c14) ?_
    refine g_icge (n := 15) 19 rfl (by decide) (fun h2 => ?_) (fun h2 => ?_)
    ·
      have h2i := Int32.le_iff_toInt_le.mp (h2)
      rw [nI_toInt (by omega)] at h2i
      refine g_iconst (n := 20) (v := 0) rfl rfl ?_
      refine g_iret (n := 21) rfl (fun _ => by first | exact Or.inl rfl | exact Or.inr rfl | exact bI_01 | exact bP_01) ?_
      rw [bI_f (by omega)]; exact ⟨rfl, rfl, rfl⟩
    ·
      have h2i := Int32.lt_iff_toInt_lt.mp (Int32.not_le.mp h2)
      rw [nI_toInt (by omega)] at h2i
      refine g_iconst (n := 16) (v := 1) rfl rfl ?_
      refine g_goto 20 rfl (by decide) ?_
      refine g_iret (n := 21) rfl (fun _ => by first | exact Or.inl rfl | exact Or.inr rfl | exact bI_01 | exact bP_01) ?_
      rw [bI_t (by first | omega | (rename_i z1; omega))]; exact ⟨rfl, rfl, rfl⟩
theorem vRef_00 {k : Nat} (hk : k < 6) (h : vRef k = 0) : k = 0 := by
  have key : ∀ k, k < 6 → vRef k = 0 → k = 0 := by decide +kernel
  exact key k hk h
theorem c_kRoom {sc : List Value} {nm : Nat} {I : mg_I} {d : Nat → Int32} (hC : RC I d) (hL : nL d 24 ≤ 9) {y v : Int32} : SP sc 6 91 [.ref 5, .int y, .int v] I nm (qC I (oRoom d y v) nm) := by
  refine SP.of (h := 5) (t := 91) (q := (yX11_room, cX11_room, 5, (some .int), 11, 382, mi_k91)) rfl (by decide) (show ¬ (5 : Nat) < 3 by decide) (fun dd hd => ?_)
  show GG sc 11 false false mi_k91 dd 0 [.ref 5, .int y, .int v, .null, .null] [] I nm (qC I (oRoom d y v) nm)
  have hR := hC.1
  have hN8 := (rK_N hR).2
  refine g_aload_n (n := 1) rfl rfl ?_
  refine g_getr (n := 4) (ci := 11) (j := 1) (b := (14)) rfl (by decide +kernel) (by decide) (by decide) (by decide +kernel) ?_
  refine g_iload_n (n := 5) rfl rfl ?_
  refine g_iload_n (n := 6) rfl rfl ?_
  refine g_cv2 (n := 9) (t := 14) (ci := 1) rfl (by decide +kernel) (by decide +kernel) (cf_hd c14) (cf_136 c14) (by decide +kernel) (by rfl) (c_cRef c14 hR hL) (by omega) (g_E ?_)
  refine g_istore_n3 (n := 10) rfl rfl ?_
  refine g_iload_n (n := 11) rfl rfl ?_
  refine g_ifeq (n := 14) 20 rfl (by decide) (fun h1 => ?_) (fun h1 => ?_)
  ·
    have h0 : fRf d y v = 0 := vRef_00 fRf_lt h1
    have hyr := fRf_0 h0
    obtain ⟨yy, hyy, rfl, hcy⟩ := iR_nI (x := y) (n := 24) ⟨by omega, by omega⟩
    have hdyy : cl (nI yy) = yy := hcy
    refine g_aload_n (n := 21) rfl rfl ?_
    refine g_getr (n := 24) (ci := 11) (j := 1) (b := (14)) rfl (by decide +kernel) (by decide) (by decide) (by decide +kernel) ?_
    refine g_getr (n := 27) (ci := 1) (j := 0) (b := ((14) + 1)) rfl (by decide +kernel) (cf_hd c14) (cf_lt c14 (by decide)) (cf_r0 c14) ?_
    refine g_iload_n (n := 28) rfl rfl ?_
    refine g_iald (n := 29) (yy) rfl (cf_1h c14) rfl (by rw [cf_1s c14]; omega) ?_
    refine g_top (w := d (10 + yy)) (rK_s hR (by omega)) ?_
    refine g_istore4 (n := 31) rfl rfl ?_
    refine g_aload_n (n := 32) rfl rfl ?_
    refine g_getr (n := 35) (ci := 11) (j := 1) (b := (14)) rfl (by decide +kernel) (by decide) (by decide) (by decide +kernel) ?_
    refine g_getr (n := 38) (ci := 1) (j := 0) (b := ((14) + 1)) rfl (by decide +kernel) (cf_hd c14) (cf_lt c14 (by decide)) (cf_r0 c14) ?_
    refine g_iload_n (n := 39) rfl rfl ?_
    refine g_iload_n (n := 40) rfl rfl ?_
    refine g_iast (n := 41) (yy) rfl (cf_1h c14) rfl (by rw [cf_1s c14]; omega) ?_
    refine g_iload (n := 43) rfl rfl ?_
    refine g_iret (n := 44) rfl (fun h => nomatch h) ?_
    unfold oRoom
    repeat (first | rw [if_pos (by first | omega | assumption)] | rw [if_neg (by first | omega | assumption)])
    rw [hdyy]; exact qC_v (RC_of (rK_space hR (by omega)) (fun a j ha => mf_ne (by omega)) (fun j hj => up_ne (by omega)) hC) (cF_mf cF.rfl' (by omega))
  ·
    have h0 : ¬ fRf d y v = 0 := fun q => h1 (by rw [q]; rfl)
    refine g_aload_n (n := 15) rfl rfl ?_
    refine g_iload_n (n := 16) rfl rfl ?_
    refine g_top (w := -1000000000 - nI (fRf d y v)) (if_neg h0) ?_
    refine g_cv1 (n := 19) (t := 126) (ci := 11) rfl (by decide +kernel) (by decide +kernel) (by decide) (by decide) (by decide +kernel) (by rfl) (c_fail (k := fRf d y v) ⟨by omega, fRf_lt⟩) (by omega) (g_E ?_)
    refine g_iret (n := 20) rfl (fun h => nomatch h) ?_
    unfold oRoom
    repeat (first | rw [if_pos (by first | omega | assumption)] | rw [if_neg (by first | omega | assumption)])
    exact qC_e (by omega) hC cF.rfl'
theorem c_kOfYard {sc : List Value} {nm : Nat} {I : mg_I} {d : Nat → Int32} (hC : RC I d) {y w : Int32} : SP sc 5 92 [.ref 5, .int y, .int w] I nm (qC I (oOfYard d y w) nm) := by
  refine SP.of (h := 4) (t := 92) (q := (yX11_ofYard, cX11_ofYard, 3, (some .int), 11, 417, mi_k92)) rfl (by decide) (show ¬ (3 : Nat) < 3 by decide) (fun dd hd => ?_)
  show GG sc 11 false false mi_k92 dd 0 [.ref 5, .int y, .int w] [] I nm (qC I (oOfYard d y w) nm)
  have hR := hC.1
  have hN8 := (rK_N hR).2
  refine g_iload_n (n := 1) rfl rfl ?_
  refine g_cs1 (n := 4) (t := 131) (x := (418, 388, 71)) rfl (by decide +kernel) (by decide +kernel) (by rfl) c_kYard (by omega) (g_E ?_)
  refine g_split (fun h1 => ?_) (fun h1 => ?_)
  ·
    refine g_ifeq1 (n := 7) 16 rfl (by decide) ?_
    refine g_iload_n (n := 8) rfl rfl ?_
    refine g_iflt (n := 11) 16 rfl (by decide) (fun h2 => ?_) (fun h2 => ?_)
    ·
      have h2i : Int32.toInt _ < 0 := Int32.lt_iff_toInt_lt.mp (h2)
      refine g_aload_n (n := 17) rfl rfl ?_
      refine g_ldc (n := 19) (v := -1000000001) (pl := 419) rfl (by decide +kernel) ?_
      refine g_top (w := -1000000000 - nI 1) (by decide) ?_
      refine g_cv1 (n := 22) (t := 126) (ci := 11) rfl (by decide +kernel) (by decide +kernel) (by decide) (by decide) (by decide +kernel) (by rfl) (c_fail (k := 1) (by omega)) (by omega) (g_E ?_)
      refine g_iret (n := 23) rfl (fun h => nomatch h) ?_
      unfold oOfYard
      repeat (first | rw [if_pos (by first | omega | assumption)] | rw [if_neg (by first | omega | assumption)])
      exact qC_e (by omega) hC cF.rfl'
    ·
      have h2i : 0 ≤ Int32.toInt _ := Int32.le_iff_toInt_le.mp (Int32.not_lt.mp h2)
      refine g_iload_n (n := 12) rfl rfl ?_
      refine g_iconst (n := 13) (v := 2) rfl rfl ?_
      refine g_icle (n := 16) 23 rfl (by decide) (fun h3 => ?_) (fun h3 => ?_)
      ·
        have h3i : Int32.toInt _ ≤ 2 := Int32.le_iff_toInt_le.mp (h3)
        obtain ⟨yy, hyy, rfl, hcyy⟩ := iR_nI (x := y) (n := 24) ⟨by omega, by omega⟩
        have hdyy : cl (nI yy) = yy := hcyy
        refine g_iload_n (n := 24) rfl rfl ?_
        refine g_ifne (n := 27) 37 rfl (by decide) (fun h4 => ?_) (fun h4 => ?_)
        ·
          refine g_iload_n (n := 38) rfl rfl ?_
          refine g_iconst (n := 39) (v := 1) rfl rfl ?_
          refine g_icne (n := 42) 53 rfl (by decide) (fun h5 => ?_) (fun h5 => ?_)
          ·
            refine g_aload_n (n := 54) rfl rfl ?_
            refine g_getr (n := 57) (ci := 11) (j := 1) (b := (14)) rfl (by decide +kernel) (by decide) (by decide) (by decide +kernel) ?_
            refine g_iload_n (n := 58) rfl rfl ?_
            refine g_cv1 (n := 61) (t := 10) (ci := 1) rfl (by decide +kernel) (by decide +kernel) (cf_hd c14) (cf_136 c14) (by decide +kernel) (by rfl) (c_cLedgeAt c14 hR (y := yy) (by omega)) (by omega) (g_E ?_)
            refine g_iret (n := 62) rfl (fun h => nomatch h) ?_
            unfold oOfYard
            repeat (first | rw [if_pos (by first | omega | assumption)] | rw [if_neg (by first | omega | assumption)])
            rw [hdyy]; by_cases q : 1 < d (10 + yy)
            · rw [if_pos q, if_pos q]; exact qC_v hC cF.rfl'
            · rw [if_neg q, if_neg q]; exact qC_v hC cF.rfl'
          ·
            refine g_aload_n (n := 43) rfl rfl ?_
            refine g_getr (n := 46) (ci := 11) (j := 1) (b := (14)) rfl (by decide +kernel) (by decide) (by decide) (by decide +kernel) ?_
            refine g_iload_n (n := 47) rfl rfl ?_
            refine g_cv1 (n := 50) (t := 12) (ci := 1) rfl (by decide +kernel) (by decide +kernel) (cf_hd c14) (cf_136 c14) (by decide +kernel) (by rfl) (c_crowd c14 hR) (by omega) (g_E ?_)
            refine g_goto 61 rfl (by decide) ?_
            refine g_iret (n := 62) rfl (fun h => nomatch h) ?_
            unfold oOfYard
            repeat (first | rw [if_pos (by first | omega | assumption)] | rw [if_neg (by first | omega | assumption)])
            try rw [hdyy]
            exact qC_v hC cF.rfl'
        ·
          refine g_aload_n (n := 28) rfl rfl ?_
          refine g_getr (n := 31) (ci := 11) (j := 1) (b := (14)) rfl (by decide +kernel) (by decide) (by decide) (by decide +kernel) ?_
          refine g_getr (n := 34) (ci := 1) (j := 0) (b := ((14) + 1)) rfl (by decide +kernel) (cf_hd c14) (cf_lt c14 (by decide)) (cf_r0 c14) ?_
          refine g_iload_n (n := 35) rfl rfl ?_
          refine g_iald (n := 36) (yy) rfl (cf_1h c14) rfl (by rw [cf_1s c14]; omega) ?_
          refine g_top (w := d (10 + yy)) (rK_s hR (by omega)) ?_
          refine g_iret (n := 37) rfl (fun h => nomatch h) ?_
          unfold oOfYard
          repeat (first | rw [if_pos (by first | omega | assumption)] | rw [if_neg (by first | omega | assumption)])
          try rw [hdyy]
          exact qC_v hC cF.rfl'
      ·
        have h3i : 2 < Int32.toInt _ := Int32.lt_iff_toInt_lt.mp (Int32.not_le.mp h3)
        refine g_aload_n (n := 17) rfl rfl ?_
        refine g_ldc (n := 19) (v := -1000000001) (pl := 419) rfl (by decide +kernel) ?_
        refine g_top (w := -1000000000 - nI 1) (by decide) ?_
        refine g_cv1 (n := 22) (t := 126) (ci := 11) rfl (by decide +kernel) (by decide +kernel) (by decide) (by decide) (by decide +kernel) (by rfl) (c_fail (k := 1) (by omega)) (by omega) (g_E ?_)
        refine g_iret (n := 23) rfl (fun h => nomatch h) ?_
        unfold oOfYard
        repeat (first | rw [if_pos (by first | omega | assumption)] | rw [if_neg (by first | omega | assumption)])
        exact qC_e (by omega) hC cF.rfl'
  ·
    refine g_ifeq0 (n := 7) 16 rfl (by decide) ?_
    refine g_aload_n (n := 17) rfl rfl ?_
    refine g_ldc (n := 19) (v := -1000000001) (pl := 419) rfl (by decide +kernel) ?_
    refine g_top (w := -1000000000 - nI 1) (by decide) ?_
    refine g_cv1 (n := 22) (t := 126) (ci := 11) rfl (by decide +kernel) (by decide +kernel) (by decide) (by decide) (by decide +kernel) (by rfl) (c_fail (k := 1) (by omega)) (by omega) (g_E ?_)
    refine g_iret (n := 23) rfl (fun h => nomatch h) ?_
    unfold oOfYard
    repeat (first | rw [if_pos (by first | omega | assumption)] | rw [if_neg (by first | omega | assumption)])
    exact qC_e (by omega) hC cF.rfl'
theorem hoM_ne {I : mg_I} {G a j : Nat} (h : a ≠ G) : hoM I G a j = I a j := by
  unfold hoM lvM
  rw [mf_ne (by omega), mf_ne (by omega), mf_ne (by omega), mf_ne (by omega), mf_ne (by omega), mf_ne (by omega)]
theorem fHome_c {d : Nat → Int32} {g j : Nat} (hg : g < 8) (h : j = 6 ∨ j = 7 ∨ 114 ≤ j) : fHome d g j = d j := by
  unfold fHome
  rw [up_ne (by omega), up_ne (by omega), up_ne (by omega), up_ne (by omega), up_ne (by omega), up_ne (by omega)]
theorem c_kHome {sc : List Value} {nm : Nat} {I : mg_I} {d : Nat → Int32} (hC : RC I d) (h5 : iR (d 5) 256) {g : Int32} : SP sc 5 98 [.ref 5, .int g] I nm (qC I (oHome d g) nm) := by
  refine SP.of (h := 4) (t := 98) (q := (yX11_home, cX11_home, 3, (some .int), 11, 590, mi_k98)) rfl (by decide) (show ¬ (3 : Nat) < 2 by decide) (fun dd hd => ?_)
  show GG sc 11 false false mi_k98 dd 0 [.ref 5, .int g, .null] [] I nm (qC I (oHome d g) nm)
  have hR := hC.1
  have hN8 := (rK_N hR).2
  refine g_aload_n (n := 1) rfl rfl ?_
  refine g_iload_n (n := 2) rfl rfl ?_
  refine g_cv1 (n := 5) (t := 128) (ci := 11) rfl (by decide +kernel) (by decide +kernel) (by decide) (by decide) (by decide +kernel) (by rfl) (c_kGoer hR) (by omega) (g_E ?_)
  refine g_split (fun h1 => ?_) (fun h1 => ?_)
  ·
    refine g_ifne1 (n := 8) 15 rfl (by decide) ?_
    obtain ⟨gg, hgg, rfl, hcgg⟩ := iR_nI (x := g) (n := (fN d)) ⟨by omega, by omega⟩
    have hdgg : cl (nI gg) = gg := hcgg
    refine g_aload_n (n := 16) rfl rfl ?_
    refine g_getr (n := 19) (ci := 11) (j := 1) (b := (14)) rfl (by decide +kernel) (by decide) (by decide) (by decide +kernel) ?_
    refine g_getr (n := 22) (ci := 1) (j := 1) (b := ((14) + 2)) rfl (by decide +kernel) (cf_hd c14) (cf_lt c14 (by decide)) (cf_r1 c14) ?_
    refine g_iload_n (n := 23) rfl rfl ?_
    refine g_aald (n := 24) (b := ((14) + 3 + gg)) (gg) rfl (cf_2a c14) (cf_2h c14) rfl (cf_2x c14 (by omega)) (cf_2r c14 (by omega)) ?_
    refine g_getv (n := 27) (ci := 4) (j := 6) (v := fO d gg 5) (rK_g hR (show gg < fN d by omega) (w := 5) (by omega)) rfl (by decide +kernel) rfl (by decide) (cf_gh c14 (show gg < 8 by omega)) ?_
    refine g_istore_n2 (n := 28) rfl rfl ?_
    refine g_aload_n (n := 29) rfl rfl ?_
    refine g_getr (n := 32) (ci := 11) (j := 1) (b := (14)) rfl (by decide +kernel) (by decide) (by decide) (by decide +kernel) ?_
    refine g_getr (n := 35) (ci := 1) (j := 1) (b := ((14) + 2)) rfl (by decide +kernel) (cf_hd c14) (cf_lt c14 (by decide)) (cf_r1 c14) ?_
    refine g_iload_n (n := 36) rfl rfl ?_
    refine g_aald (n := 37) (b := ((14) + 3 + gg)) (gg) rfl (cf_2a c14) (cf_2h c14) rfl (cf_2x c14 (by omega)) (cf_2r c14 (by omega)) ?_
    refine g_cv0 (n := 40) (t := 38) (ci := 4) rfl (by decide +kernel) (by decide +kernel) (cf_gh c14 (by omega)) (cf_g1 c14 (by omega)) (by decide +kernel) (by rfl) (c_sendH (cf_G c14 (by omega))) (by omega) (g_Z ?_)
    refine g_iload_n (n := 41) rfl rfl ?_
    refine g_iret (n := 42) rfl (fun h => nomatch h) ?_
    unfold oHome
    repeat (first | rw [if_pos (by first | omega | assumption)] | rw [if_neg (by first | omega | assumption)])
    rw [hdgg]; exact qC_v (RC_of (rK_home hR hgg h5) (fun a j ha => hoM_ne (by omega)) (fun j hj => fHome_c (by omega) (by omega)) hC) (fun a j ha => hoM_ne (by omega))
  ·
    refine g_ifne0 (n := 8) 15 rfl (by decide) ?_
    refine g_aload_n (n := 9) rfl rfl ?_
    refine g_ldc (n := 11) (v := -1000000001) (pl := 419) rfl (by decide +kernel) ?_
    refine g_top (w := -1000000000 - nI 1) (by decide) ?_
    refine g_cv1 (n := 14) (t := 126) (ci := 11) rfl (by decide +kernel) (by decide +kernel) (by decide) (by decide) (by decide +kernel) (by rfl) (c_fail (k := 1) (by omega)) (by omega) (g_E ?_)
    refine g_iret (n := 15) rfl (fun h => nomatch h) ?_
    unfold oHome
    repeat (first | rw [if_pos (by first | omega | assumption)] | rw [if_neg (by first | omega | assumption)])
    exact qC_e (by omega) hC cF.rfl'
theorem c_kStartAt {sc : List Value} {nm : Nat} {I : mg_I} {d : Nat → Int32} (hC : RC I d) {g z : Int32} : SP sc 5 97 [.ref 5, .int g, .int z] I nm (qC I (oStart d g z) nm) := by
  refine SP.of (h := 4) (t := 97) (q := (yX11_start, cX11_start, 5, (some .int), 11, 585, mi_k97)) rfl (by decide) (show ¬ (5 : Nat) < 3 by decide) (fun dd hd => ?_)
  show GG sc 11 false false mi_k97 dd 0 [.ref 5, .int g, .int z, .null, .null] [] I nm (qC I (oStart d g z) nm)
  have hR := hC.1
  have hN8 := (rK_N hR).2
  refine g_aload_n (n := 1) rfl rfl ?_
  refine g_iload_n (n := 2) rfl rfl ?_
  refine g_cv1 (n := 5) (t := 128) (ci := 11) rfl (by decide +kernel) (by decide +kernel) (by decide) (by decide) (by decide +kernel) (by rfl) (c_kGoer hR) (by omega) (g_E ?_)
  refine g_split (fun h1 => ?_) (fun h1 => ?_)
  ·
    refine g_ifeq1 (n := 8) 15 rfl (by decide) ?_
    refine g_iload_n (n := 9) rfl rfl ?_
    refine g_cs1 (n := 12) (t := 132) (x := (432, 433, 71)) rfl (by decide +kernel) (by decide +kernel) (by rfl) c_kStart (by omega) (g_E ?_)
    refine g_split (fun h2 => ?_) (fun h2 => ?_)
    ·
      refine g_ifne1 (n := 15) 22 rfl (by decide) ?_
      obtain ⟨gg, hgg, rfl, hcgg⟩ := iR_nI (x := g) (n := (fN d)) ⟨by omega, by omega⟩
      have hdgg : cl (nI gg) = gg := hcgg
      refine g_aload_n (n := 23) rfl rfl ?_
      refine g_getr (n := 26) (ci := 11) (j := 1) (b := (14)) rfl (by decide +kernel) (by decide) (by decide) (by decide +kernel) ?_
      refine g_getr (n := 29) (ci := 1) (j := 1) (b := ((14) + 2)) rfl (by decide +kernel) (cf_hd c14) (cf_lt c14 (by decide)) (cf_r1 c14) ?_
      refine g_iload_n (n := 30) rfl rfl ?_
      refine g_aald (n := 31) (b := ((14) + 3 + gg)) (gg) rfl (cf_2a c14) (cf_2h c14) rfl (cf_2x c14 (by omega)) (cf_2r c14 (by omega)) ?_
      refine g_astore_n3 (n := 32) rfl rfl ?_
      refine g_aload_n (n := 33) rfl rfl ?_
      refine g_getv (n := 36) (ci := 4) (j := 6) (v := fO d gg 5) (rK_g hR (show gg < fN d by omega) (w := 5) (by omega)) rfl (by decide +kernel) rfl (by decide) (cf_gh c14 (show gg < 8 by omega)) ?_
      refine g_ifeq (n := 39) 46 rfl (by decide) (fun h3 => ?_) (fun h3 => ?_)
      ·
        refine g_aload_n (n := 47) rfl rfl ?_
        refine g_getv (n := 50) (ci := 4) (j := 5) (v := fO d gg 4) (rK_g hR (show gg < fN d by omega) (w := 4) (by omega)) rfl (by decide +kernel) rfl (by decide) (cf_gh c14 (show gg < 8 by omega)) ?_
        refine g_istore4 (n := 52) rfl rfl ?_
        refine g_aload_n (n := 53) rfl rfl ?_
        refine g_iload_n (n := 54) rfl rfl ?_
        refine g_puti (n := 57) (ci := 4) (j := 5) rfl (by decide +kernel) rfl (by decide) (cf_gh c14 (show gg < 8 by omega)) (by decide +kernel) rfl ?_
        refine g_iload (n := 59) rfl rfl ?_
        refine g_iret (n := 60) rfl (fun h => nomatch h) ?_
        unfold oStart
        repeat (first | rw [if_pos (by first | omega | assumption)] | rw [if_neg (by first | omega | assumption)])
        try rw [hdgg]
        repeat (first | rw [if_pos (by first | omega | assumption)] | rw [if_neg (by first | omega | assumption)])
        exact qC_v (RC_of (rK_put (w := 4) hR hgg (by omega)) (fun a j ha => mf_ne (by omega)) (fun j hj => up_ne (by omega)) hC) (cF_mf cF.rfl' (by omega))
      ·
        refine g_aload_n (n := 40) rfl rfl ?_
        refine g_ldc (n := 42) (v := -1000000003) (pl := 586) rfl (by decide +kernel) ?_
        refine g_top (w := -1000000000 - nI 3) (by decide) ?_
        refine g_cv1 (n := 45) (t := 126) (ci := 11) rfl (by decide +kernel) (by decide +kernel) (by decide) (by decide) (by decide +kernel) (by rfl) (c_fail (k := 3) (by omega)) (by omega) (g_E ?_)
        refine g_iret (n := 46) rfl (fun h => nomatch h) ?_
        unfold oStart
        repeat (first | rw [if_pos (by first | omega | assumption)] | rw [if_neg (by first | omega | assumption)])
        try rw [hdgg]
        repeat (first | rw [if_pos (by first | omega | assumption)] | rw [if_neg (by first | omega | assumption)])
        exact qC_e (by omega) hC cF.rfl'
    ·
      refine g_ifne0 (n := 15) 22 rfl (by decide) ?_
      refine g_aload_n (n := 16) rfl rfl ?_
      refine g_ldc (n := 18) (v := -1000000001) (pl := 419) rfl (by decide +kernel) ?_
      refine g_top (w := -1000000000 - nI 1) (by decide) ?_
      refine g_cv1 (n := 21) (t := 126) (ci := 11) rfl (by decide +kernel) (by decide +kernel) (by decide) (by decide) (by decide +kernel) (by rfl) (c_fail (k := 1) (by omega)) (by omega) (g_E ?_)
      refine g_iret (n := 22) rfl (fun h => nomatch h) ?_
      unfold oStart
      repeat (first | rw [if_pos (by first | omega | assumption)] | rw [if_neg (by first | omega | assumption)])
      try rw [hdgg]
      repeat (first | rw [if_pos (by first | omega | assumption)] | rw [if_neg (by first | omega | assumption)])
      exact qC_e (by omega) hC cF.rfl'
  ·
    refine g_ifeq0 (n := 8) 15 rfl (by decide) ?_
    refine g_aload_n (n := 16) rfl rfl ?_
    refine g_ldc (n := 18) (v := -1000000001) (pl := 419) rfl (by decide +kernel) ?_
    refine g_top (w := -1000000000 - nI 1) (by decide) ?_
    refine g_cv1 (n := 21) (t := 126) (ci := 11) rfl (by decide +kernel) (by decide +kernel) (by decide) (by decide) (by decide +kernel) (by rfl) (c_fail (k := 1) (by omega)) (by omega) (g_E ?_)
    refine g_iret (n := 22) rfl (fun h => nomatch h) ?_
    unfold oStart
    repeat (first | rw [if_pos (by first | omega | assumption)] | rw [if_neg (by first | omega | assumption)])
    try rw [hdgg]
    repeat (first | rw [if_pos (by first | omega | assumption)] | rw [if_neg (by first | omega | assumption)])
    exact qC_e (by omega) hC cF.rfl'
theorem c_kSeed {sc : List Value} {nm : Nat} {I : mg_I} {d : Nat → Int32} (hC : RC I d) {z : Int32} : SP sc 4 112 [.ref 5, .int z] I nm (qC I (oSeed d z) nm) := by
  refine SP.of (h := 3) (t := 112) (q := (yX11_seed, cX11_seed, 3, (some .int), 11, 889, mi_k112)) rfl (by decide) (show ¬ (3 : Nat) < 2 by decide) (fun dd hd => ?_)
  show GG sc 11 false false mi_k112 dd 0 [.ref 5, .int z, .null] [] I nm (qC I (oSeed d z) nm)
  have hR := hC.1
  have hN8 := (rK_N hR).2
  refine g_aload_n (n := 1) rfl rfl ?_
  refine g_getr (n := 4) (ci := 11) (j := 1) (b := (14)) rfl (by decide +kernel) (by decide) (by decide) (by decide +kernel) ?_
  refine g_getv (n := 7) (ci := 1) (j := 6) (v := d 4) (rK_n hR (j := 4) (by omega)) rfl (by decide +kernel) rfl (by decide) (cf_hd c14) ?_
  refine g_istore_n2 (n := 8) rfl rfl ?_
  refine g_aload_n (n := 9) rfl rfl ?_
  refine g_getr (n := 12) (ci := 11) (j := 1) (b := (14)) rfl (by decide +kernel) (by decide) (by decide) (by decide +kernel) ?_
  refine g_iload_n (n := 13) rfl rfl ?_
  refine g_puti (n := 16) (ci := 1) (j := 6) rfl (by decide +kernel) rfl (by decide) (cf_hd c14) (by decide +kernel) rfl ?_
  refine g_iload_n (n := 17) rfl rfl ?_
  refine g_iret (n := 18) rfl (fun h => nomatch h) ?_
  exact qC_v (RC_of (rK_num (q := 4) hR (by omega)) (fun a j ha => mf_ne (by omega)) (fun j hj => up_ne (by omega)) hC) (cF_mf cF.rfl' (by omega))
