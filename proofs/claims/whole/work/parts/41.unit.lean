/-! a unit of a text, and the whole text: the machine reads as the model -/
section KU
variable {b : Nat → Int32} {n : Nat} {t : Int32} {nm3 : Nat → Int32}
theorem addsub1 {o : Int32} {q : Nat} : o + nI (q + 1) - 1 = o + nI q := by
  rw [← nI_1]
  apply Int32.toBitVec_inj.mp
  simp [BitVec.sub_eq_add_neg, BitVec.add_assoc]
theorem kRel_bang {P : List Int32} (hP : lv (P.headD 0) < 6) {o : Int32} : ∀ (q : Nat) (cd : List Int32), kRel 6 (List.replicate q 33 ++ P) cd (o + nI q) = (cd ++ List.replicate q (-33), P, o) := by
  intro q
  induction q with
  | zero =>
    intro cd
    rw [show o + nI 0 = o by rw [nI_0]; exact Int32.add_zero _]
    show kRel 6 P cd o = (cd ++ [], P, o)
    rw [List.append_nil]
    exact kRel_stop hP
  | succ q ih =>
    intro cd
    rw [List.replicate_succ, List.cons_append, kRel, if_pos (show 6 ≤ lv 33 by decide), if_pos rfl, addsub1, ih, List.replicate_succ, List.append_assoc]
    rfl
/-- a unit that the model reads as r: behind it some ! may wait -/
def kBg (b : Nat → Int32) (n : Nat) (t : Int32) (nm3 : Nat → Int32) (i : Nat) (C : kC) (r : Int32 × pS) : Prop :=
  (∃ f, f ≤ n ∧ r.2.2 = nI f ∧ kFl b n t i C f) ∨
  (r.2.2 = -1 ∧ ∃ (q : Nat) (cd1 : List Int32) (dg1 : Int32), kTo b n t i C r.2.1 (cd1, List.replicate q 33 ++ C.2.1, C.2.2.1 + nI q, dg1, false) ∧ eE nm3 (cd1 ++ List.replicate q (-33)) = r.1 :: eE nm3 C.1 ∧ (r.2.1 < n → kDig (b r.2.1) → ¬ (1 ≤ dg1 ∧ dg1 < 4)))
theorem kBg_OK {i : Nat} {C : kC} {r : Int32 × pS} (h : kBg b n t nm3 i C r) (hP : lv (C.2.1.headD 0) < 6) : kOK b n t nm3 6 i C r := by
  rcases h with h | ⟨e, q, cd1, dg1, h1, h2, h3⟩
  · exact Or.inl h
  · refine Or.inr ⟨e, cd1, _, _, dg1, h1, ?_, ?_, ?_, kEnd_6 h3⟩
    · rw [kRel_bang hP]; exact h2
    · rw [kRel_bang hP]
    · rw [kRel_bang hP]
theorem dig_nI {c : Int32} (h : 48 ≤ c.toInt ∧ c.toInt ≤ 57) : ∃ y, y < 10 ∧ c = nI (y + 48) := by
  obtain ⟨k, hk, rfl, _⟩ := iR_nI (x := c) (n := 58) ⟨by omega, by omega⟩
  rw [nI_toInt (by omega)] at h
  exact ⟨k - 48, by omega, by rw [show k - 48 + 48 = k by omega]⟩
theorem sub48 {x : Nat} : nI (x + 48) - 48 = nI x := by
  rw [← nI_add]
  apply Int32.toBitVec_inj.mp
  show (nI x).toBitVec + (nI 48).toBitVec - (48 : Int32).toBitVec = (nI x).toBitVec
  rw [show (nI 48).toBitVec = (48 : Int32).toBitVec from rfl]
  exact BitVec.add_sub_cancel _ _
theorem dig1 {w y : Nat} : nI w * 10 + (nI (y + 48) - 48) = nI (10 * w + y) := by
  rw [sub48, show (10 : Int32) = nI 10 from rfl, nI_times, nI_add, Nat.mul_comm]
theorem dig2 {w y : Nat} : 10 * nI w + nI (y + 48) - 48 = nI (10 * w + y) := by
  rw [show (10 : Int32) = nI 10 from rfl, nI_times, nI_add, show 10 * w + (y + 48) = 10 * w + y + 48 by omega, sub48]
theorem pHere_dig {i : Nat} (h : 48 ≤ (pHere b n (i, -1)).toInt ∧ (pHere b n (i, -1)).toInt ≤ 57) : i < n ∧ pHere b n (i, -1) = b i := by
  rw [pHere_m] at h ⊢
  by_cases hi : i < n
  · rw [if_pos hi]; exact ⟨hi, rfl⟩
  · rw [if_neg hi] at h
    exact absurd h (by decide)
theorem kDgL : ∀ (m k w i : Nat) (cd P : List Int32) (o : Int32), m + k = 4 → 1 ≤ k → w < 10 ^ k → i ≤ n →
    ∃ w' k' i', pDg b n m k (nI w) (i, -1) = (nI w', k', (i', -1)) ∧ 1 ≤ k' ∧ w' < 10 ^ 4 ∧ kTo b n t i (cd ++ [nI w], P, o, nI k, false) i' (cd ++ [nI w'], P, o, nI k', false) ∧ (i' < n → kDig (b i') → ¬ (1 ≤ nI k' ∧ nI k' < 4)) := by
  intro m
  induction m with
  | zero =>
    intro k w i cd P o hk h1 hw hi
    obtain rfl : k = 4 := by omega
    exact ⟨w, 4, i, rfl, by omega, hw, kTo_rfl hi, fun _ _ q => absurd q.2 (by decide)⟩
  | succ m ih =>
    intro k w i cd P o hk h1 hw hi
    rw [pDg]
    by_cases hd : 48 ≤ (pHere b n (i, -1)).toInt ∧ (pHere b n (i, -1)).toInt ≤ 57
    · rw [if_pos hd]
      obtain ⟨hin, hb⟩ := pHere_dig hd
      rw [hb] at hd ⊢
      obtain ⟨y, hy, ey⟩ := dig_nI hd
      have hst : kSt t (b i) (cd ++ [nI w], P, o, nI k, false) = some (cd ++ [nI (10 * w + y)], P, o, nI (k + 1), false) := by
        rw [kSt_f]
        unfold kGn
        rw [if_pos hd, if_pos ⟨(nI_leI (a := 1) (by omega) (by omega)).mpr h1, (nI_ltI (b := 4) (by omega) (by omega)).mpr (by omega)⟩]
        unfold kAdd
        show some ((cd ++ [nI w]).dropLast ++ [(cd ++ [nI w]).getLastD 0 * 10 + (b i - 48)], P, o, nI k + 1, false) = _
        rw [List.dropLast_concat, List.getLastD_concat, ey, dig1, nI_1]
      have hw2 : 10 * w + y < 10 ^ (k + 1) := by rw [Nat.pow_succ]; omega
      obtain ⟨w', k', i', e, k1, k2, k3, k4⟩ := ih (k + 1) (10 * w + y) (i + 1) cd P o (by omega) (by omega) hw2 hin
      refine ⟨w', k', i', ?_, k1, k2, kTo_trans (kTo_1 hin hst) k3, k4⟩
      rw [ey, dig2]
      exact e
    · rw [if_neg hd]
      refine ⟨w, k, i, rfl, h1, Nat.lt_of_lt_of_le hw (Nat.pow_le_pow_right (by omega) (by omega)), kTo_rfl hi, fun hin hq => absurd ?_ hd⟩
      rw [pHere_m, if_pos hin]
      exact hq
theorem eS_num {st : List Int32} {w : Nat} (h : w < 10 ^ 4) : eS nm3 st (nI w) = nI w :: st := if_pos (nI_pos' (by omega))
theorem kBeg_fin {C : kC} (h : C.2.2.2.2 = true) : (kFin n C).1 = nI n := by
  unfold kFin
  rw [if_pos h]
theorem kAtom (hn : n ≤ 50) {i : Nat} {cd P : List Int32} {o dg : Int32} (hi : i ≤ n) (hk : ¬ kOp (pHere b n (i, -1))) : kBg b n t nm3 i (cd, P, o, dg, true) (pAtom b n t nm3 (i, -1)) := by
  unfold pAtom
  by_cases hp : pName t (pHere b n (i, -1)) < 0
  · rw [if_pos hp]
    by_cases hd : 48 ≤ (pHere b n (i, -1)).toInt ∧ (pHere b n (i, -1)).toInt ≤ 57
    · obtain ⟨hin, hb⟩ := pHere_dig hd
      rw [hb] at hd hk
      obtain ⟨y, hy, ey⟩ := dig_nI hd
      have hst : kSt t (b i) (cd, P, o, dg, true) = some (cd ++ [nI y], P, o, nI 1, false) := by
        rw [kSt_t]
        unfold kBeg
        rw [if_neg hk, if_pos hd, ey, sub48]
        rfl
      obtain ⟨w', k', i', e, k1, k2, k3, k4⟩ := kDgL (b := b) (n := n) (t := t) 3 1 y (i + 1) cd P o rfl (by omega) (by omega) hin
      have e4 : pDg b n 4 0 0 (i, -1) = (nI w', k', (i', -1)) := by
        rw [pDg, hb, if_pos hd, ey, show (10 * 0 + nI (y + 48) - 48 : Int32) = nI y by rw [show (10 * 0 : Int32) = nI (10 * 0) from rfl, nI_add]; rw [show 10 * 0 + (y + 48) = y + 48 by omega]; exact sub48]
        exact e
      rw [e4, if_neg (show ¬ k' = 0 by omega)]
      refine Or.inr ⟨rfl, 0, cd ++ [nI w'], nI k', ?_, ?_, k4⟩
      · show kTo b n t i (cd, P, o, dg, true) i' (cd ++ [nI w'], P, o + nI 0, nI k', false)
        rw [show o + nI 0 = o by rw [nI_0]; exact Int32.add_zero _]
        exact kTo_trans (kTo_1 hin hst) k3
      · show eE nm3 (cd ++ [nI w'] ++ []) = nI w' :: eE nm3 cd
        rw [List.append_nil, eE_1, eS_num k2]
    · have e4 : pDg b n 4 0 0 (i, -1) = (0, 0, (i, -1)) := by rw [pDg, if_neg hd]
      rw [e4, if_pos rfl]
      refine Or.inl ⟨i, hi, rfl, ?_⟩
      by_cases hin : i < n
      · rw [pHere_m, if_pos hin] at hd hk hp
        refine kFl_none hin ?_
        rw [kSt_t]
        unfold kBeg
        rw [if_neg hk, if_neg hd, if_pos hp]
      · obtain rfl : i = n := by omega
        exact kFl_fin (kBeg_fin rfl)
  · rw [if_neg hp]
    have hin : i < n := by
      by_cases hin : i < n
      · exact hin
      · rw [pHere_m, if_neg hin, pName_m1] at hp
        exact absurd (by decide) hp
    rw [pHere_m, if_pos hin] at hk hp ⊢
    have hc : ¬ (48 ≤ (b i).toInt ∧ (b i).toInt ≤ 57) := by
      intro q
      obtain ⟨y, hy, ey⟩ := dig_nI q
      rw [ey] at hp
      refine hp ?_
      unfold pName
      have e : ∀ k : Nat, k < 2 ^ 31 → 58 ≤ k → ¬ nI (y + 48) = nI k := fun k hk h58 z => by have := (nI_eq (by omega) hk).mp z; omega
      have e1 : ¬ nI (y + 48) = 108 := e 108 (by omega) (by omega)
      have e2 : ¬ nI (y + 48) = 110 := e 110 (by omega) (by omega)
      have e3 : ¬ nI (y + 48) = 98 := e 98 (by omega) (by omega)
      have e5 : ¬ nI (y + 48) = 107 := e 107 (by omega) (by omega)
      have e6 : ¬ nI (y + 48) = 116 := e 116 (by omega) (by omega)
      split
      · first | decide | (rw [if_neg e1, if_neg e2, if_neg e3]; decide)
      · first | decide | (rw [if_neg e1, if_neg e5, if_neg e6]; decide)
    have hst : kSt t (b i) (cd, P, o, dg, true) = some (cd ++ [-1 - pName t (b i)], P, o, 0, false) := by
      rw [kSt_t]
      unfold kBeg
      rw [if_neg hk, if_neg hc, if_neg hp]
    refine Or.inr ⟨rfl, 0, cd ++ [-1 - pName t (b i)], 0, ?_, ?_, fun _ _ q => absurd q.1 (by decide)⟩
    · show kTo b n t i (cd, P, o, dg, true) (i + 1) (cd ++ [-1 - pName t (b i)], P, o + nI 0, 0, false)
      rw [show o + nI 0 = o by rw [nI_0]; exact Int32.add_zero _]
      exact kTo_1 hin hst
    · show eE nm3 (cd ++ [-1 - pName t (b i)] ++ []) = nm3 (pName t (b i)).toNatClampNeg :: eE nm3 cd
      rw [List.append_nil, eE_1]
      rcases @pName_in t (b i) with h | h | h | h
      · rw [h]; rfl
      · rw [h]; rfl
      · rw [h]; rfl
      · rw [h] at hp; exact absurd (by decide) hp
theorem o5 {k : Nat} (h : k ≤ 5) : (5 < nI (5 - k) + 1) ↔ k = 0 := by
  rw [nI_1, show (5 : Int32) = nI 5 from rfl, nI_ltI (by omega) (by omega)]
  omega
theorem kUnit (hn : n ≤ 50) : ∀ k, k ≤ 5 → ∀ (i : Nat) (C : kC), i ≤ n → C.2.2.2.2 = true → C.2.2.1 = nI (5 - k) → kBg b n t nm3 i C (pU b n t nm3 k (i, -1)) := by
  intro k
  induction k with
  | zero =>
    rintro hk i ⟨cd, P, o, dg, wt⟩ hi hw ho
    obtain rfl : wt = true := hw
    obtain rfl : o = nI 5 := ho
    rw [pU]
    by_cases h : kOp (pHere b n (i, -1))
    · rw [if_pos h]
      have hin : i < n := by
        by_cases hin : i < n
        · exact hin
        · rw [pHere_m, if_neg hin] at h
          exact absurd h (by decide)
      rw [pHere_m, if_pos hin] at h
      refine Or.inl ⟨i, hi, rfl, kFl_none hin ?_⟩
      rw [kSt_t]
      unfold kBeg
      rw [if_pos h, if_pos (show (5 : Int32) < nI 5 + 1 by decide)]
    · rw [if_neg h]
      exact kAtom hn hi h
  | succ k ih =>
    rintro hk i ⟨cd, P, o, dg, wt⟩ hi hw ho
    obtain rfl : wt = true := hw
    obtain rfl : o = nI (5 - (k + 1)) := ho
    rw [pU]
    by_cases h : kOp (pHere b n (i, -1))
    · rw [if_pos h]
      have hin : i < n := by
        by_cases hin : i < n
        · exact hin
        · rw [pHere_m, if_neg hin] at h
          exact absurd h (by decide)
      rw [pHere_m, if_pos hin] at h ⊢
      have hst : kSt t (b i) (cd, P, nI (5 - (k + 1)), dg, true) = some (cd, b i :: P, nI (5 - k), dg, true) := by
        rw [kSt_t]
        unfold kBeg
        rw [if_pos h, if_neg (show ¬ (5 : Int32) < nI (5 - (k + 1)) + 1 from fun q => absurd ((o5 hk).mp q) (by omega)), nI_1, show 5 - (k + 1) + 1 = 5 - k by omega]
      have ht := kTo_1 (b := b) (t := t) hin hst
      have hu : kLev b n t nm3 (nI (5 - k)) 6 (pU b n t nm3 k) := fun j D hj hDw hDo hDP => kBg_OK (ih (by omega) j D hj hDw hDo) hDP
      by_cases hc : b i = 40
      · rw [if_pos hc]
        rcases kOrL hn (pU_go k) hu (i + 1) (cd, b i :: P, nI (5 - k), dg, true) hin rfl rfl (show lv (b i) < 1 by rw [hc]; decide) with ⟨f, hf, e, hfl⟩ | ⟨e, cd2, P2, o2, dg2, k1, k2, k3, k4, k5⟩
        · have hlt : ¬ (pOr b n (pU b n t nm3 k) (i + 1, -1)).2.2 < 0 := by rw [e]; exact nI_nn (by omega)
          rw [if_neg (by rw [pHere_f hlt]; decide)]
          refine Or.inl ⟨f, hf, ?_, kFl_to ht hfl⟩
          show (pWrong (pOr b n (pU b n t nm3 k) (i + 1, -1)).2).2 = nI f
          unfold pWrong
          rw [if_neg hlt]
          exact e
        · generalize pOr b n (pU b n t nm3 k) (i + 1, -1) = r at *
          obtain ⟨v, j, fl⟩ := r
          have efl : fl = -1 := e
          subst efl
          have hrel : kRel 1 P2 cd2 o2 = ((kRel 1 P2 cd2 o2).1, b i :: P, nI (5 - k)) := by
            have e1 : (kRel 1 P2 cd2 o2).2.1 = b i :: P := k3
            have e2 : (kRel 1 P2 cd2 o2).2.2 = nI (5 - k) := k4
            rw [← e1, ← e2]
          have k2' : eE nm3 (kRel 1 P2 cd2 o2).1 = v :: eE nm3 cd := k2
          generalize (kRel 1 P2 cd2 o2).1 = cdv at hrel k2'
          show kBg b n t nm3 i _ (if pHere b n (j, -1) = 41 then (v, (j + 1, -1)) else (0, pWrong (j, -1)))
          by_cases h41 : pHere b n (j, -1) = 41
          · rw [if_pos h41]
            have hj : j < n := by
              by_cases hj : j < n
              · exact hj
              · rw [pHere_m, if_neg hj] at h41
                exact absurd h41 (by decide)
            rw [pHere_m, if_pos hj] at h41
            have hs2 : kSt t (b j) (cd2, P2, o2, dg2, false) = some (cdv, P, nI (5 - (k + 1)), 0, false) := by
              rw [kSt_f]
              unfold kGn
              rw [if_neg (show ¬ (48 ≤ (b j).toInt ∧ (b j).toInt ≤ 57) by rw [h41]; decide), if_pos h41]
              show (if (kRel 1 P2 cd2 o2).2.1.headD 0 = 40 then some ((kRel 1 P2 cd2 o2).1, (kRel 1 P2 cd2 o2).2.1.tail, (kRel 1 P2 cd2 o2).2.2 - 1, 0, false) else none) = _
              rw [hrel]
              show (if b i = 40 then some (cdv, P, nI (5 - k) - 1, 0, false) else none) = _
              rw [if_pos hc, show 5 - k = (5 - (k + 1)) + 1 by omega, nI_pred]
            refine Or.inr ⟨rfl, 0, cdv, 0, ?_, ?_, fun _ _ q => absurd q.1 (by decide)⟩
            · show kTo b n t i _ (j + 1) (cdv, P, nI (5 - (k + 1)) + nI 0, 0, false)
              rw [show nI (5 - (k + 1)) + nI 0 = nI (5 - (k + 1)) by rw [nI_0]; exact Int32.add_zero _]
              exact kTo_trans (kTo_trans ht k1) (kTo_1 hj hs2)
            · show eE nm3 (cdv ++ []) = v :: eE nm3 cd
              rw [List.append_nil]
              exact k2'
          · rw [if_neg h41]
            have hjn : j ≤ n := k1.2.1
            refine Or.inl ⟨j, hjn, rfl, kFl_to (kTo_trans ht k1) ?_⟩
            show kFl b n t j (cd2, P2, o2, dg2, false) j
            by_cases hj : j < n
            · rw [pHere_m, if_pos hj] at h41
              refine kFl_none hj ?_
              rcases k5 hj with q | q | q
              · exact absurd q.2 (by have : 1 ≤ lv (b j) := q.1; omega)
              · exact absurd q h41
              · exact q
            · obtain rfl : j = n := by omega
              refine kFl_fin ?_
              unfold kFin
              rw [if_neg (show ¬ (false = true) by decide)]
              show (if (kRel 1 P2 cd2 o2).2.1.length = 0 then ((-1 : Int32), (kRel 1 P2 cd2 o2).1) else (nI j, cd2)).1 = nI j
              rw [hrel, if_neg (show ¬ (b i :: P).length = 0 by simp)]
      · rw [if_neg hc]
        have h33 : b i = 33 := h.resolve_right hc
        rcases ih (by omega) (i + 1) (cd, b i :: P, nI (5 - k), dg, true) hin rfl rfl with ⟨f, hf, e, hfl⟩ | ⟨e, q, cd1, dg1, k1, k2, k3⟩
        · exact Or.inl ⟨f, hf, e, kFl_to ht hfl⟩
        · generalize pU b n t nm3 k (i + 1, -1) = r at *
          obtain ⟨v, j, fl⟩ := r
          have efl : fl = -1 := e
          subst efl
          refine Or.inr ⟨rfl, q + 1, cd1, dg1, ?_, ?_, k3⟩
          · have k1' : kTo b n t (i + 1) (cd, b i :: P, nI (5 - k), dg, true) j (cd1, List.replicate q 33 ++ (b i :: P), nI (5 - k) + nI q, dg1, false) := k1
            show kTo b n t i _ j (cd1, List.replicate (q + 1) 33 ++ P, nI (5 - (k + 1)) + nI (q + 1), dg1, false)
            rw [show List.replicate (q + 1) (33 : Int32) ++ P = List.replicate q 33 ++ (b i :: P) by rw [h33, List.replicate_succ', List.append_assoc]; rfl, show nI (5 - (k + 1)) + nI (q + 1) = nI (5 - k) + nI q by rw [nI_add, nI_add]; exact congrArg nI (by omega)]
            exact kTo_trans ht k1'
          · have k2' : eE nm3 (cd1 ++ List.replicate q (-33)) = v :: eE nm3 cd := k2
            show eE nm3 (cd1 ++ List.replicate (q + 1) (-33)) = bI (v = 0) :: eE nm3 cd
            rw [List.replicate_succ', ← List.append_assoc, eE_1, k2']
            rfl
    · rw [if_neg h]
      exact kAtom hn hi h
def kC0 : kC := ([], [], 0, 0, true)
/-- the whole text: the same fault; and where there is none, the code's value is the text's -/
theorem kText (hn : n ≤ 50) : (fW b n t nm3).2 = (kRun b n t n 0 kC0).1 ∧ ((kRun b n t n 0 kC0).1 = -1 → (eE nm3 (kRun b n t n 0 kC0).2).headD 0 = (fW b n t nm3).1) := by
  have hu : kLev b n t nm3 (nI (5 - 5)) 6 (pU b n t nm3 5) := fun j D hj hDw hDo hDP => kBg_OK (kUnit hn 5 (by omega) j D hj hDw hDo) hDP
  unfold fW
  rcases kOrL hn (pU_go 5) hu 0 kC0 (by omega) rfl rfl (by decide) with ⟨f, hf, e, hfl⟩ | ⟨e, cd2, P2, o2, dg2, k1, k2, k3, k4, k5⟩
  · have hlt : ¬ (pOr b n (pU b n t nm3 5) (0, -1)).2.2 < 0 := by rw [e]; exact nI_nn (by omega)
    have hfl2 : (kRun b n t n 0 kC0).1 = nI f := hfl
    rw [if_neg (fun q => hlt q.1)]
    refine ⟨by rw [hfl2]; exact e, fun q => ?_⟩
    rw [hfl2] at q
    exact absurd (q ▸ nI_nn (show f < 2 ^ 31 by omega)) (by decide)
  · generalize pOr b n (pU b n t nm3 5) (0, -1) = r at *
    obtain ⟨v, j, fl⟩ := r
    have efl : fl = -1 := e
    subst efl
    have hrel : kRel 1 P2 cd2 o2 = ((kRel 1 P2 cd2 o2).1, [], 0) := by
      have e1 : (kRel 1 P2 cd2 o2).2.1 = [] := k3
      have e2 : (kRel 1 P2 cd2 o2).2.2 = 0 := k4
      rw [← e1, ← e2]
    have k2' : eE nm3 (kRel 1 P2 cd2 o2).1 = [v] := k2
    generalize (kRel 1 P2 cd2 o2).1 = cdv at hrel k2'
    have hjn : j ≤ n := k1.2.1
    show (if (-1 : Int32) < 0 ∧ j < n then ((0 : Int32), nI j) else (v, -1)).2 = _ ∧ (_ → _ = (if (-1 : Int32) < 0 ∧ j < n then ((0 : Int32), nI j) else (v, -1)).1)
    by_cases hj : j < n
    · rw [if_pos ⟨by decide, hj⟩]
      have hfl : kFl b n t 0 kC0 j := by
        refine kFl_to k1 (kFl_none hj ?_)
        show kSt t (b j) (cd2, P2, o2, dg2, false) = none
        rcases k5 hj with q | q | q
        · exact absurd q.2 (by have : 1 ≤ lv (b j) := q.1; show ¬ lv (b j) < 1; omega)
        · have h41 : b j = 41 := q
          rw [kSt_f]
          unfold kGn
          rw [if_neg (show ¬ (48 ≤ (b j).toInt ∧ (b j).toInt ≤ 57) by rw [h41]; decide), if_pos h41]
          show (if (kRel 1 P2 cd2 o2).2.1.headD 0 = 40 then some ((kRel 1 P2 cd2 o2).1, (kRel 1 P2 cd2 o2).2.1.tail, (kRel 1 P2 cd2 o2).2.2 - 1, 0, false) else none) = none
          rw [hrel]
          exact if_neg (show ¬ ((0 : Int32) = 40) by decide)
        · exact q
      have hfl2 : (kRun b n t n 0 kC0).1 = nI j := hfl
      refine ⟨hfl2.symm, fun q => ?_⟩
      rw [hfl2] at q
      exact absurd (q ▸ nI_nn (show j < 2 ^ 31 by omega)) (by decide)
    · obtain rfl : j = n := by omega
      rw [if_neg (fun q => hj q.2)]
      have e0 := k1.2.2 0
      rw [Nat.zero_add, Nat.sub_zero] at e0
      have e1 : kRun b j t 0 j (cd2, P2, o2, dg2, false) = (-1, cdv) := by
        show kFin j (cd2, P2, o2, dg2, false) = _
        unfold kFin
        rw [if_neg (show ¬ (false = true) by decide)]
        show (if (kRel 1 P2 cd2 o2).2.1.length = 0 then ((-1 : Int32), (kRel 1 P2 cd2 o2).1) else (nI j, cd2)) = _
        rw [hrel]
        rfl
      have e2 : kRun b j t j 0 kC0 = (-1, cdv) := e0.trans e1
      rw [e2]
      exact ⟨rfl, fun _ => by show (eE nm3 cdv).headD 0 = v; rw [k2']; rfl⟩
end KU
