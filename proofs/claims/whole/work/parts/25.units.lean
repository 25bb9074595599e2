/-! the text's value: compares, units, whole texts -/
theorem PC.up {sc : List Value} {I : mg_I} {nm n h h' t : Nat} {op : Int32} {u : pS → Int32 × pS} (hu : PC sc I nm n h t op u) (hh : h ≤ h') : PC sc I nm n h' t op u := fun s o ha ho d hd => hu s o ha ho d (by omega)
theorem c_compared {sc : List Value} {I : mg_I} {nm base n h : Nat} {op : Int32} {u : pS → Int32 × pS} (hp : pH I base n) (hu : PC sc I nm n (h + 1) 156 op (pSum (pb I base) n u)) (hg : pGo n u) : PC sc I nm n (h + 1 + 1) 155 op (pCmp (pb I base) n u) := by
  intro s0 o0 ha0 ho0
  have hp3 := hp.2.2
  refine SP.of (h := h + 1) (t := 155) (q := (yX12_compared, cX12_compared, 4, (some .int), 12, 1169, mi_k155)) rfl (by decide) (show ¬ (4 : Nat) < 1 by decide) (fun d hd => ?_)
  show GG sc 12 false false mi_k155 d 0 [.ref 124, .null, .null, .null] [] (pW I (nI s0.1) s0.2 o0) nm (qP I nm op (pCmp (pb I base) n u s0))
  unfold pCmp
  have hg0 := pSum_go (b := pb I base) hg s0 ha0
  have hu0 := hu s0 o0 ha0 ho0
  generalize pSum (pb I base) n u s0 = r0 at hg0 hu0 ⊢
  have hg2 : r0.2.1 ≤ n := hg0.2.1
  refine g_aload_n (n := 1) rfl rfl ?_
  refine g_cv0 (n := 4) (t := 156) (ci := 12) rfl (by decide +kernel) (by decide +kernel) (by decide) (by decide) (by decide +kernel) (by rfl) hu0 (by omega) (g_P fun o1 ho1 => ?_)
  generalize hc : pHere (pb I base) n r0.2 = c
  by_cases hk : kCmp c
  ·
    rw [if_pos hk]
    have hl := pHere_lt (b := pb I base) (n := n) (s := r0.2) (fun z => absurd ((hc.symm.trans z) ▸ hk) (by decide))
    have hg3 := pSum_go (b := pb I base) hg (r0.2.1 + 1, r0.2.2) (by show r0.2.1 + 1 ≤ n; omega)
    have hu1 := hu (r0.2.1 + 1, r0.2.2) o1 (by show r0.2.1 + 1 ≤ n; omega) ho1
    generalize pSum (pb I base) n u (r0.2.1 + 1, r0.2.2) = r1 at hg3 hu1 ⊢
    unfold kCmp at hk
    refine g_istore_n1 (n := 5) rfl rfl ?_
    refine g_aload_n (n := 6) rfl rfl ?_
    refine g_cv0 (n := 9) (t := 149) (ci := 12) rfl (by decide +kernel) (by decide +kernel) (by decide) (by decide) (by decide +kernel) (by rfl) (c_here hp (by omega)) (by omega) (g_E ?_)
    refine g_top hc ?_
    refine g_istore_n2 (n := 10) rfl rfl ?_
    refine g_iload_n (n := 11) rfl rfl ?_
    refine g_bipush (n := 13) (v := 60) rfl rfl ?_
    refine g_iceq (n := 16) 30 rfl (by decide) (fun h1 => ?_) (fun h1 => ?_)
    ·
      refine g_aload_n (n := 31) rfl rfl ?_
      refine g_dupa (n := 32) rfl ?_
      refine g_getv (n := 35) (ci := 12) (j := 6) (v := nI r0.2.1) rfl rfl (by decide +kernel) rfl (by decide) (by decide) ?_
      refine g_iconst (n := 36) (v := 1) rfl rfl ?_
      refine g_iaddN (n := 37) (x := r0.2.1) (y := 1) rfl ?_
      refine g_puti (n := 40) (ci := 12) (j := 6) rfl (by decide +kernel) rfl (by decide) (by decide) (by decide +kernel) rfl ?_
      rw [pW_6]
      refine g_aload_n (n := 41) rfl rfl ?_
      refine g_cv0 (n := 44) (t := 156) (ci := 12) rfl (by decide +kernel) (by decide +kernel) (by decide) (by decide) (by decide +kernel) (by rfl) hu1 (by omega) (g_P fun o2 ho2 => ?_)
      refine g_istore_n3 (n := 45) rfl rfl ?_
      refine g_iload_n (n := 46) rfl rfl ?_
      refine g_bipush (n := 48) (v := 60) rfl rfl ?_
      refine g_icne (n := 51) 59 rfl (by decide) (fun h2 => ?_) (fun h2 => ?_)
      ·
        refine g_iload_n (n := 60) rfl rfl ?_
        refine g_bipush (n := 62) (v := 61) rfl rfl ?_
        refine g_icne (n := 65) 73 rfl (by decide) (fun h3 => ?_) (fun h3 => ?_)
        ·
          refine g_iload_n (n := 74) rfl rfl ?_
          refine g_iload_n (n := 75) rfl rfl ?_
          refine g_icle (n := 78) 82 rfl (by decide) (fun h4 => ?_) (fun h4 => ?_)
          ·
            refine g_iconst (n := 83) (v := 0) rfl rfl ?_
            refine g_iret (n := 84) rfl (fun h => nomatch h) ?_
            first | exact ⟨o1, rfl, rfl, rfl, ho1⟩ | (exfalso; simp_all; done) | exact ⟨o2, congrArg (fun z => some (Value.int z)) (by unfold vCmp; first | exact (bI_t (by simp only [Int32.lt_iff_toInt_lt, Int32.le_iff_toInt_le] at *; omega)).symm | simp_all [bI, Int32.not_lt, Int32.not_le]), rfl, rfl, ho2⟩
          ·
            refine g_iconst (n := 79) (v := 1) rfl rfl ?_
            refine g_goto 83 rfl (by decide) ?_
            refine g_iret (n := 84) rfl (fun h => nomatch h) ?_
            first | exact ⟨o1, rfl, rfl, rfl, ho1⟩ | (exfalso; simp_all; done) | exact ⟨o2, congrArg (fun z => some (Value.int z)) (by unfold vCmp; first | exact (bI_t (by simp only [Int32.lt_iff_toInt_lt, Int32.le_iff_toInt_le] at *; omega)).symm | simp_all [bI, Int32.not_lt, Int32.not_le]), rfl, rfl, ho2⟩
        ·
          refine g_iload_n (n := 66) rfl rfl ?_
          refine g_iload_n (n := 67) rfl rfl ?_
          refine g_icne (n := 70) 82 rfl (by decide) (fun h5 => ?_) (fun h5 => ?_)
          ·
            refine g_iconst (n := 83) (v := 0) rfl rfl ?_
            refine g_iret (n := 84) rfl (fun h => nomatch h) ?_
            first | exact ⟨o1, rfl, rfl, rfl, ho1⟩ | (exfalso; simp_all; done) | exact ⟨o2, congrArg (fun z => some (Value.int z)) (by unfold vCmp; first | exact (bI_t (by simp only [Int32.lt_iff_toInt_lt, Int32.le_iff_toInt_le] at *; omega)).symm | simp_all [bI, Int32.not_lt, Int32.not_le]), rfl, rfl, ho2⟩
          ·
            refine g_goto 78 rfl (by decide) ?_
            refine g_iconst (n := 79) (v := 1) rfl rfl ?_
            refine g_goto 83 rfl (by decide) ?_
            refine g_iret (n := 84) rfl (fun h => nomatch h) ?_
            first | exact ⟨o1, rfl, rfl, rfl, ho1⟩ | (exfalso; simp_all; done) | exact ⟨o2, congrArg (fun z => some (Value.int z)) (by unfold vCmp; first | exact (bI_t (by simp only [Int32.lt_iff_toInt_lt, Int32.le_iff_toInt_le] at *; omega)).symm | simp_all [bI, Int32.not_lt, Int32.not_le]), rfl, rfl, ho2⟩
      ·
        refine g_iload_n (n := 52) rfl rfl ?_
        refine g_iload_n (n := 53) rfl rfl ?_
        refine g_icge (n := 56) 82 rfl (by decide) (fun h6 => ?_) (fun h6 => ?_)
        ·
          refine g_iconst (n := 83) (v := 0) rfl rfl ?_
          refine g_iret (n := 84) rfl (fun h => nomatch h) ?_
          first | exact ⟨o1, rfl, rfl, rfl, ho1⟩ | (exfalso; simp_all; done) | exact ⟨o2, congrArg (fun z => some (Value.int z)) (by unfold vCmp; first | exact (bI_t (by simp only [Int32.lt_iff_toInt_lt, Int32.le_iff_toInt_le] at *; omega)).symm | simp_all [bI, Int32.not_lt, Int32.not_le]), rfl, rfl, ho2⟩
        ·
          refine g_goto 78 rfl (by decide) ?_
          refine g_iconst (n := 79) (v := 1) rfl rfl ?_
          refine g_goto 83 rfl (by decide) ?_
          refine g_iret (n := 84) rfl (fun h => nomatch h) ?_
          first | exact ⟨o1, rfl, rfl, rfl, ho1⟩ | (exfalso; simp_all; done) | exact ⟨o2, congrArg (fun z => some (Value.int z)) (by unfold vCmp; first | exact (bI_t (by simp only [Int32.lt_iff_toInt_lt, Int32.le_iff_toInt_le] at *; omega)).symm | simp_all [bI, Int32.not_lt, Int32.not_le]), rfl, rfl, ho2⟩
    ·
      refine g_iload_n (n := 17) rfl rfl ?_
      refine g_bipush (n := 19) (v := 61) rfl rfl ?_
      refine g_iceq (n := 22) 30 rfl (by decide) (fun h7 => ?_) (fun h7 => ?_)
      ·
        refine g_aload_n (n := 31) rfl rfl ?_
        refine g_dupa (n := 32) rfl ?_
        refine g_getv (n := 35) (ci := 12) (j := 6) (v := nI r0.2.1) rfl rfl (by decide +kernel) rfl (by decide) (by decide) ?_
        refine g_iconst (n := 36) (v := 1) rfl rfl ?_
        refine g_iaddN (n := 37) (x := r0.2.1) (y := 1) rfl ?_
        refine g_puti (n := 40) (ci := 12) (j := 6) rfl (by decide +kernel) rfl (by decide) (by decide) (by decide +kernel) rfl ?_
        rw [pW_6]
        refine g_aload_n (n := 41) rfl rfl ?_
        refine g_cv0 (n := 44) (t := 156) (ci := 12) rfl (by decide +kernel) (by decide +kernel) (by decide) (by decide) (by decide +kernel) (by rfl) hu1 (by omega) (g_P fun o2 ho2 => ?_)
        refine g_istore_n3 (n := 45) rfl rfl ?_
        refine g_iload_n (n := 46) rfl rfl ?_
        refine g_bipush (n := 48) (v := 60) rfl rfl ?_
        refine g_icne (n := 51) 59 rfl (by decide) (fun h8 => ?_) (fun h8 => ?_)
        ·
          refine g_iload_n (n := 60) rfl rfl ?_
          refine g_bipush (n := 62) (v := 61) rfl rfl ?_
          refine g_icne (n := 65) 73 rfl (by decide) (fun h9 => ?_) (fun h9 => ?_)
          ·
            refine g_iload_n (n := 74) rfl rfl ?_
            refine g_iload_n (n := 75) rfl rfl ?_
            refine g_icle (n := 78) 82 rfl (by decide) (fun h10 => ?_) (fun h10 => ?_)
            ·
              refine g_iconst (n := 83) (v := 0) rfl rfl ?_
              refine g_iret (n := 84) rfl (fun h => nomatch h) ?_
              first | exact ⟨o1, rfl, rfl, rfl, ho1⟩ | (exfalso; simp_all; done) | exact ⟨o2, congrArg (fun z => some (Value.int z)) (by unfold vCmp; first | exact (bI_t (by simp only [Int32.lt_iff_toInt_lt, Int32.le_iff_toInt_le] at *; omega)).symm | simp_all [bI, Int32.not_lt, Int32.not_le]), rfl, rfl, ho2⟩
            ·
              refine g_iconst (n := 79) (v := 1) rfl rfl ?_
              refine g_goto 83 rfl (by decide) ?_
              refine g_iret (n := 84) rfl (fun h => nomatch h) ?_
              first | exact ⟨o1, rfl, rfl, rfl, ho1⟩ | (exfalso; simp_all; done) | exact ⟨o2, congrArg (fun z => some (Value.int z)) (by unfold vCmp; first | exact (bI_t (by simp only [Int32.lt_iff_toInt_lt, Int32.le_iff_toInt_le] at *; omega)).symm | simp_all [bI, Int32.not_lt, Int32.not_le]), rfl, rfl, ho2⟩
          ·
            refine g_iload_n (n := 66) rfl rfl ?_
            refine g_iload_n (n := 67) rfl rfl ?_
            refine g_icne (n := 70) 82 rfl (by decide) (fun h11 => ?_) (fun h11 => ?_)
            ·
              refine g_iconst (n := 83) (v := 0) rfl rfl ?_
              refine g_iret (n := 84) rfl (fun h => nomatch h) ?_
              first | exact ⟨o1, rfl, rfl, rfl, ho1⟩ | (exfalso; simp_all; done) | exact ⟨o2, congrArg (fun z => some (Value.int z)) (by unfold vCmp; first | exact (bI_t (by simp only [Int32.lt_iff_toInt_lt, Int32.le_iff_toInt_le] at *; omega)).symm | simp_all [bI, Int32.not_lt, Int32.not_le]), rfl, rfl, ho2⟩
            ·
              refine g_goto 78 rfl (by decide) ?_
              refine g_iconst (n := 79) (v := 1) rfl rfl ?_
              refine g_goto 83 rfl (by decide) ?_
              refine g_iret (n := 84) rfl (fun h => nomatch h) ?_
              first | exact ⟨o1, rfl, rfl, rfl, ho1⟩ | (exfalso; simp_all; done) | exact ⟨o2, congrArg (fun z => some (Value.int z)) (by unfold vCmp; first | exact (bI_t (by simp only [Int32.lt_iff_toInt_lt, Int32.le_iff_toInt_le] at *; omega)).symm | simp_all [bI, Int32.not_lt, Int32.not_le]), rfl, rfl, ho2⟩
        ·
          refine g_iload_n (n := 52) rfl rfl ?_
          refine g_iload_n (n := 53) rfl rfl ?_
          refine g_icge (n := 56) 82 rfl (by decide) (fun h12 => ?_) (fun h12 => ?_)
          ·
            refine g_iconst (n := 83) (v := 0) rfl rfl ?_
            refine g_iret (n := 84) rfl (fun h => nomatch h) ?_
            first | exact ⟨o1, rfl, rfl, rfl, ho1⟩ | (exfalso; simp_all; done) | exact ⟨o2, congrArg (fun z => some (Value.int z)) (by unfold vCmp; first | exact (bI_t (by simp only [Int32.lt_iff_toInt_lt, Int32.le_iff_toInt_le] at *; omega)).symm | simp_all [bI, Int32.not_lt, Int32.not_le]), rfl, rfl, ho2⟩
          ·
            refine g_goto 78 rfl (by decide) ?_
            refine g_iconst (n := 79) (v := 1) rfl rfl ?_
            refine g_goto 83 rfl (by decide) ?_
            refine g_iret (n := 84) rfl (fun h => nomatch h) ?_
            first | exact ⟨o1, rfl, rfl, rfl, ho1⟩ | (exfalso; simp_all; done) | exact ⟨o2, congrArg (fun z => some (Value.int z)) (by unfold vCmp; first | exact (bI_t (by simp only [Int32.lt_iff_toInt_lt, Int32.le_iff_toInt_le] at *; omega)).symm | simp_all [bI, Int32.not_lt, Int32.not_le]), rfl, rfl, ho2⟩
      ·
        refine g_iload_n (n := 23) rfl rfl ?_
        refine g_bipush (n := 25) (v := 62) rfl rfl ?_
        refine g_iceq (n := 28) 30 rfl (by decide) (fun h13 => ?_) (fun h13 => ?_)
        ·
          refine g_aload_n (n := 31) rfl rfl ?_
          refine g_dupa (n := 32) rfl ?_
          refine g_getv (n := 35) (ci := 12) (j := 6) (v := nI r0.2.1) rfl rfl (by decide +kernel) rfl (by decide) (by decide) ?_
          refine g_iconst (n := 36) (v := 1) rfl rfl ?_
          refine g_iaddN (n := 37) (x := r0.2.1) (y := 1) rfl ?_
          refine g_puti (n := 40) (ci := 12) (j := 6) rfl (by decide +kernel) rfl (by decide) (by decide) (by decide +kernel) rfl ?_
          rw [pW_6]
          refine g_aload_n (n := 41) rfl rfl ?_
          refine g_cv0 (n := 44) (t := 156) (ci := 12) rfl (by decide +kernel) (by decide +kernel) (by decide) (by decide) (by decide +kernel) (by rfl) hu1 (by omega) (g_P fun o2 ho2 => ?_)
          refine g_istore_n3 (n := 45) rfl rfl ?_
          refine g_iload_n (n := 46) rfl rfl ?_
          refine g_bipush (n := 48) (v := 60) rfl rfl ?_
          refine g_icne (n := 51) 59 rfl (by decide) (fun h14 => ?_) (fun h14 => ?_)
          ·
            refine g_iload_n (n := 60) rfl rfl ?_
            refine g_bipush (n := 62) (v := 61) rfl rfl ?_
            refine g_icne (n := 65) 73 rfl (by decide) (fun h15 => ?_) (fun h15 => ?_)
            ·
              refine g_iload_n (n := 74) rfl rfl ?_
              refine g_iload_n (n := 75) rfl rfl ?_
              refine g_icle (n := 78) 82 rfl (by decide) (fun h16 => ?_) (fun h16 => ?_)
              ·
                refine g_iconst (n := 83) (v := 0) rfl rfl ?_
                refine g_iret (n := 84) rfl (fun h => nomatch h) ?_
                first | exact ⟨o1, rfl, rfl, rfl, ho1⟩ | (exfalso; simp_all; done) | exact ⟨o2, congrArg (fun z => some (Value.int z)) (by unfold vCmp; first | exact (bI_t (by simp only [Int32.lt_iff_toInt_lt, Int32.le_iff_toInt_le] at *; omega)).symm | simp_all [bI, Int32.not_lt, Int32.not_le]), rfl, rfl, ho2⟩
              ·
                refine g_iconst (n := 79) (v := 1) rfl rfl ?_
                refine g_goto 83 rfl (by decide) ?_
                refine g_iret (n := 84) rfl (fun h => nomatch h) ?_
                first | exact ⟨o1, rfl, rfl, rfl, ho1⟩ | (exfalso; simp_all; done) | exact ⟨o2, congrArg (fun z => some (Value.int z)) (by unfold vCmp; first | exact (bI_t (by simp only [Int32.lt_iff_toInt_lt, Int32.le_iff_toInt_le] at *; omega)).symm | simp_all [bI, Int32.not_lt, Int32.not_le]), rfl, rfl, ho2⟩
            ·
              refine g_iload_n (n := 66) rfl rfl ?_
              refine g_iload_n (n := 67) rfl rfl ?_
              refine g_icne (n := 70) 82 rfl (by decide) (fun h17 => ?_) (fun h17 => ?_)
              ·
                refine g_iconst (n := 83) (v := 0) rfl rfl ?_
                refine g_iret (n := 84) rfl (fun h => nomatch h) ?_
                first | exact ⟨o1, rfl, rfl, rfl, ho1⟩ | (exfalso; simp_all; done) | exact ⟨o2, congrArg (fun z => some (Value.int z)) (by unfold vCmp; first | exact (bI_t (by simp only [Int32.lt_iff_toInt_lt, Int32.le_iff_toInt_le] at *; omega)).symm | simp_all [bI, Int32.not_lt, Int32.not_le]), rfl, rfl, ho2⟩
              ·
                refine g_goto 78 rfl (by decide) ?_
                refine g_iconst (n := 79) (v := 1) rfl rfl ?_
                refine g_goto 83 rfl (by decide) ?_
                refine g_iret (n := 84) rfl (fun h => nomatch h) ?_
                first | exact ⟨o1, rfl, rfl, rfl, ho1⟩ | (exfalso; simp_all; done) | exact ⟨o2, congrArg (fun z => some (Value.int z)) (by unfold vCmp; first | exact (bI_t (by simp only [Int32.lt_iff_toInt_lt, Int32.le_iff_toInt_le] at *; omega)).symm | simp_all [bI, Int32.not_lt, Int32.not_le]), rfl, rfl, ho2⟩
          ·
            refine g_iload_n (n := 52) rfl rfl ?_
            refine g_iload_n (n := 53) rfl rfl ?_
            refine g_icge (n := 56) 82 rfl (by decide) (fun h18 => ?_) (fun h18 => ?_)
            ·
              refine g_iconst (n := 83) (v := 0) rfl rfl ?_
              refine g_iret (n := 84) rfl (fun h => nomatch h) ?_
              first | exact ⟨o1, rfl, rfl, rfl, ho1⟩ | (exfalso; simp_all; done) | exact ⟨o2, congrArg (fun z => some (Value.int z)) (by unfold vCmp; first | exact (bI_t (by simp only [Int32.lt_iff_toInt_lt, Int32.le_iff_toInt_le] at *; omega)).symm | simp_all [bI, Int32.not_lt, Int32.not_le]), rfl, rfl, ho2⟩
            ·
              refine g_goto 78 rfl (by decide) ?_
              refine g_iconst (n := 79) (v := 1) rfl rfl ?_
              refine g_goto 83 rfl (by decide) ?_
              refine g_iret (n := 84) rfl (fun h => nomatch h) ?_
              first | exact ⟨o1, rfl, rfl, rfl, ho1⟩ | (exfalso; simp_all; done) | exact ⟨o2, congrArg (fun z => some (Value.int z)) (by unfold vCmp; first | exact (bI_t (by simp only [Int32.lt_iff_toInt_lt, Int32.le_iff_toInt_le] at *; omega)).symm | simp_all [bI, Int32.not_lt, Int32.not_le]), rfl, rfl, ho2⟩
        ·
          refine g_iload_n (n := 29) rfl rfl ?_
          refine g_iret (n := 30) rfl (fun h => nomatch h) ?_
          first | exact ⟨o1, rfl, rfl, rfl, ho1⟩ | (exfalso; simp_all; done) | exact ⟨o2, congrArg (fun z => some (Value.int z)) (by unfold vCmp; first | exact (bI_t (by simp only [Int32.lt_iff_toInt_lt, Int32.le_iff_toInt_le] at *; omega)).symm | simp_all [bI, Int32.not_lt, Int32.not_le]), rfl, rfl, ho2⟩
  ·
    rw [if_neg hk]
    unfold kCmp at hk
    refine g_istore_n1 (n := 5) rfl rfl ?_
    refine g_aload_n (n := 6) rfl rfl ?_
    refine g_cv0 (n := 9) (t := 149) (ci := 12) rfl (by decide +kernel) (by decide +kernel) (by decide) (by decide) (by decide +kernel) (by rfl) (c_here hp (by omega)) (by omega) (g_E ?_)
    refine g_top hc ?_
    refine g_istore_n2 (n := 10) rfl rfl ?_
    refine g_iload_n (n := 11) rfl rfl ?_
    refine g_bipush (n := 13) (v := 60) rfl rfl ?_
    refine g_iceq (n := 16) 30 rfl (by decide) (fun h19 => ?_) (fun h19 => ?_)
    ·
      refine g_aload_n (n := 31) rfl rfl ?_
      refine g_dupa (n := 32) rfl ?_
      refine g_getv (n := 35) (ci := 12) (j := 6) (v := nI r0.2.1) rfl rfl (by decide +kernel) rfl (by decide) (by decide) ?_
      refine g_iconst (n := 36) (v := 1) rfl rfl ?_
      refine g_iaddN (n := 37) (x := r0.2.1) (y := 1) rfl ?_
      refine g_puti (n := 40) (ci := 12) (j := 6) rfl (by decide +kernel) rfl (by decide) (by decide) (by decide +kernel) rfl ?_
      rw [pW_6]
      refine g_aload_n (n := 41) rfl rfl ?_
      (exfalso; simp_all; done)
    ·
      refine g_iload_n (n := 17) rfl rfl ?_
      refine g_bipush (n := 19) (v := 61) rfl rfl ?_
      refine g_iceq (n := 22) 30 rfl (by decide) (fun h20 => ?_) (fun h20 => ?_)
      ·
        refine g_aload_n (n := 31) rfl rfl ?_
        refine g_dupa (n := 32) rfl ?_
        refine g_getv (n := 35) (ci := 12) (j := 6) (v := nI r0.2.1) rfl rfl (by decide +kernel) rfl (by decide) (by decide) ?_
        refine g_iconst (n := 36) (v := 1) rfl rfl ?_
        refine g_iaddN (n := 37) (x := r0.2.1) (y := 1) rfl ?_
        refine g_puti (n := 40) (ci := 12) (j := 6) rfl (by decide +kernel) rfl (by decide) (by decide) (by decide +kernel) rfl ?_
        rw [pW_6]
        refine g_aload_n (n := 41) rfl rfl ?_
        (exfalso; simp_all; done)
      ·
        refine g_iload_n (n := 23) rfl rfl ?_
        refine g_bipush (n := 25) (v := 62) rfl rfl ?_
        refine g_iceq (n := 28) 30 rfl (by decide) (fun h21 => ?_) (fun h21 => ?_)
        ·
          refine g_aload_n (n := 31) rfl rfl ?_
          refine g_dupa (n := 32) rfl ?_
          refine g_getv (n := 35) (ci := 12) (j := 6) (v := nI r0.2.1) rfl rfl (by decide +kernel) rfl (by decide) (by decide) ?_
          refine g_iconst (n := 36) (v := 1) rfl rfl ?_
          refine g_iaddN (n := 37) (x := r0.2.1) (y := 1) rfl ?_
          refine g_puti (n := 40) (ci := 12) (j := 6) rfl (by decide +kernel) rfl (by decide) (by decide) (by decide +kernel) rfl ?_
          rw [pW_6]
          refine g_aload_n (n := 41) rfl rfl ?_
          (exfalso; simp_all; done)
        ·
          refine g_iload_n (n := 29) rfl rfl ?_
          refine g_iret (n := 30) rfl (fun h => nomatch h) ?_
          first | exact ⟨o1, rfl, rfl, rfl, ho1⟩ | (exfalso; simp_all; done) | exact ⟨o2, congrArg (fun z => some (Value.int z)) (by unfold vCmp; first | exact (bI_t (by simp only [Int32.lt_iff_toInt_lt, Int32.le_iff_toInt_le] at *; omega)).symm | simp_all [bI, Int32.not_lt, Int32.not_le]), rfl, rfl, ho2⟩
theorem pName_in {t c : Int32} : pName t c = 0 ∨ pName t c = 1 ∨ pName t c = 2 ∨ pName t c = -1 := by
  unfold pName
  split
  · split
    · exact Or.inl rfl
    · split
      · exact Or.inr (Or.inl rfl)
      · split
        · exact Or.inr (Or.inr (Or.inl rfl))
        · exact Or.inr (Or.inr (Or.inr rfl))
  · split
    · exact Or.inl rfl
    · split
      · exact Or.inr (Or.inl rfl)
      · split
        · exact Or.inr (Or.inr (Or.inl rfl))
        · exact Or.inr (Or.inr (Or.inr rfl))
theorem pName_ix {t c : Int32} (h : ¬ pName t c < 0) : pName t c = nI (pName t c).toNatClampNeg ∧ (pName t c).toNatClampNeg < 3 := by
  rcases pName_in (t := t) (c := c) with e | e | e | e <;> rw [e] at h ⊢ <;> first | exact ⟨by decide, by decide⟩ | exact absurd (by decide) h
def pDf (q : Int32 × Nat × pS) : Int32 × pS := if q.2.1 = 0 then (0, pWrong q.2.2) else (q.1, q.2.2)
theorem c_digits {sc : List Value} {I : mg_I} {nm base n d : Nat} {op c : Int32} {x2 : Value} (hp : pH I base n) (hx2 : x2.category = 1) (hd : 2 ≤ d) : ∀ (m k : Nat) (v : Int32) (s : pS) (o : Int32), m + k = 4 → s.1 ≤ n → (s.2 < 0 → o = op) → GG sc 12 false false mi_k158 d 150 [.ref 124, .int c, x2, .int v, .int (nI k)] [] (pW I (nI s.1) s.2 o) nm (qP I nm op (pDf (pDg (pb I base) n m k v s))) := by
  have hp3 := hp.2.2
  intro m
  induction m with
  | zero =>
    intro k v s o hm ha ho
    rw [pDg]
    refine g_iload (n := 152) rfl rfl ?_
    refine g_iconst (n := 153) (v := 4) rfl rfl ?_
    refine g_icge (n := 156) 202 rfl (by decide) (fun h1 => ?_) (fun h1 => ?_)
    ·
      refine g_iload (n := 204) rfl rfl ?_
      refine g_ifne (n := 207) 214 rfl (by decide) (fun h2 => ?_) (fun h2 => ?_)
      ·
        have h9 := h2
        refine g_iload_n (n := 215) rfl rfl ?_
        refine g_iret (n := 216) rfl (fun h => nomatch h) ?_
        unfold pDf; first | (rw [if_pos (show k = 0 from by first | exact (nI_eq (by omega) (by omega)).mp h9 | omega)]; exact ⟨o, rfl, rfl, rfl, fun hh => ho (by unfold pWrong at hh; split at hh <;> first | assumption | exact hh)⟩) | (rw [if_neg (show ¬ k = 0 from fun z => h9 (by rw [z]; rfl))]; exact ⟨o, rfl, rfl, rfl, ho⟩)
      ·
        have h9 := h2
        refine g_aload_n (n := 208) rfl rfl ?_
        refine g_cv0 (n := 211) (t := 150) (ci := 12) rfl (by decide +kernel) (by decide +kernel) (by decide) (by decide) (by decide +kernel) (by rfl) (c_wrong hp (by omega)) (by omega) (g_E ?_)
        refine g_goto 215 rfl (by decide) ?_
        refine g_iret (n := 216) rfl (fun h => nomatch h) ?_
        unfold pDf; first | (rw [if_pos (show k = 0 from by first | exact (nI_eq (by omega) (by omega)).mp h9 | omega)]; exact ⟨o, rfl, rfl, rfl, fun hh => ho (by unfold pWrong at hh; split at hh <;> first | assumption | exact hh)⟩) | (rw [if_neg (show ¬ k = 0 from fun z => h9 (by rw [z]; rfl))]; exact ⟨o, rfl, rfl, rfl, ho⟩)
    ·
      exact absurd (nI_le (a := 4) (b := k) (by omega) (by omega)) h1
  | succ m ih =>
    intro k v s o hm ha ho
    by_cases hk : 48 ≤ (pHere (pb I base) n s).toInt ∧ (pHere (pb I base) n s).toInt ≤ 57
    · rw [pDg, if_pos hk]
      have hl := pHere_lt (b := pb I base) (n := n) (s := s) (fun z => by rw [z] at hk; revert hk; decide)
      refine g_iload (n := 152) rfl rfl ?_
      refine g_iconst (n := 153) (v := 4) rfl rfl ?_
      refine g_icge (n := 156) 202 rfl (by decide) (fun h1 => ?_) (fun h1 => ?_)
      ·
        exact absurd (fN_le (n := 4) rfl (by omega) (by omega) h1) (by omega)
      ·
        refine g_aload_n (n := 157) rfl rfl ?_
        refine g_cv0 (n := 160) (t := 149) (ci := 12) rfl (by decide +kernel) (by decide +kernel) (by decide) (by decide) (by decide +kernel) (by rfl) (c_here hp (by omega)) (by omega) (g_E ?_)
        refine g_top (w := pHere (pb I base) n s) rfl ?_
        refine g_i2l (n := 161) rfl ?_
        refine g_ldc2 (n := 164) (v := 48) (pl := 1198) rfl (by decide +kernel) ?_
        refine g_ldc2 (n := 167) (v := 57) (pl := 1199) rfl (by decide +kernel) ?_
        refine g_cs3 (n := 170) (t := 141) (x := (1141, 1142, 84)) rfl (by decide +kernel) (by decide +kernel) (by rfl) (c_inI (a := 48) (b := 57) rfl rfl) (by omega) (g_E ?_)
        refine g_top (bI_t hk) ?_
        refine g_ifeq1 (n := 173) 202 rfl (by decide) ?_
        refine g_bipush (n := 175) (v := 10) rfl rfl ?_
        refine g_iload_n (n := 176) rfl rfl ?_
        refine g_imul (n := 177) rfl ?_
        refine g_aload_n (n := 178) rfl rfl ?_
        refine g_cv0 (n := 181) (t := 149) (ci := 12) rfl (by decide +kernel) (by decide +kernel) (by decide) (by decide) (by decide +kernel) (by rfl) (c_here hp (by omega)) (by omega) (g_E ?_)
        refine g_top (w := pHere (pb I base) n s) rfl ?_
        refine g_iadd (n := 182) rfl ?_
        refine g_bipush (n := 184) (v := 48) rfl rfl ?_
        refine g_isub (n := 185) rfl ?_
        refine g_istore_n3 (n := 186) rfl hx2 ?_
        refine g_aload_n (n := 187) rfl rfl ?_
        refine g_dupa (n := 188) rfl ?_
        refine g_getv (n := 191) (ci := 12) (j := 6) (v := nI s.1) rfl rfl (by decide +kernel) rfl (by decide) (by decide) ?_
        refine g_iconst (n := 192) (v := 1) rfl rfl ?_
        refine g_iaddN (n := 193) (x := s.1) (y := 1) rfl ?_
        refine g_puti (n := 196) (ci := 12) (j := 6) rfl (by decide +kernel) rfl (by decide) (by decide) (by decide +kernel) rfl ?_
        rw [pW_6]
        refine g_iinc4 (n := 199) rfl rfl (nI_inc _) ?_
        refine g_goto 150 rfl (by decide) ?_
        exact ih (k + 1) _ (s.1 + 1, s.2) o (by omega) (by show s.1 + 1 ≤ n; omega) ho
    · rw [pDg, if_neg hk]
      refine g_iload (n := 152) rfl rfl ?_
      refine g_iconst (n := 153) (v := 4) rfl rfl ?_
      refine g_icge (n := 156) 202 rfl (by decide) (fun h1 => ?_) (fun h1 => ?_)
      ·
        exact absurd (fN_le (n := 4) rfl (by omega) (by omega) h1) (by omega)
      ·
        refine g_aload_n (n := 157) rfl rfl ?_
        refine g_cv0 (n := 160) (t := 149) (ci := 12) rfl (by decide +kernel) (by decide +kernel) (by decide) (by decide) (by decide +kernel) (by rfl) (c_here hp (by omega)) (by omega) (g_E ?_)
        refine g_top (w := pHere (pb I base) n s) rfl ?_
        refine g_i2l (n := 161) rfl ?_
        refine g_ldc2 (n := 164) (v := 48) (pl := 1198) rfl (by decide +kernel) ?_
        refine g_ldc2 (n := 167) (v := 57) (pl := 1199) rfl (by decide +kernel) ?_
        refine g_cs3 (n := 170) (t := 141) (x := (1141, 1142, 84)) rfl (by decide +kernel) (by decide +kernel) (by rfl) (c_inI (a := 48) (b := 57) rfl rfl) (by omega) (g_E ?_)
        refine g_top (bI_f hk) ?_
        refine g_ifeq0 (n := 173) 202 rfl (by decide) ?_
        refine g_iload (n := 204) rfl rfl ?_
        refine g_ifne (n := 207) 214 rfl (by decide) (fun h2 => ?_) (fun h2 => ?_)
        ·
          have h9 := h2
          refine g_iload_n (n := 215) rfl rfl ?_
          refine g_iret (n := 216) rfl (fun h => nomatch h) ?_
          unfold pDf; first | (rw [if_pos (show k = 0 from by first | exact (nI_eq (by omega) (by omega)).mp h9 | omega)]; exact ⟨o, rfl, rfl, rfl, fun hh => ho (by unfold pWrong at hh; split at hh <;> first | assumption | exact hh)⟩) | (rw [if_neg (show ¬ k = 0 from fun z => h9 (by rw [z]; rfl))]; exact ⟨o, rfl, rfl, rfl, ho⟩)
        ·
          have h9 := h2
          refine g_aload_n (n := 208) rfl rfl ?_
          refine g_cv0 (n := 211) (t := 150) (ci := 12) rfl (by decide +kernel) (by decide +kernel) (by decide) (by decide) (by decide +kernel) (by rfl) (c_wrong hp (by omega)) (by omega) (g_E ?_)
          refine g_goto 215 rfl (by decide) ?_
          refine g_iret (n := 216) rfl (fun h => nomatch h) ?_
          unfold pDf; first | (rw [if_pos (show k = 0 from by first | exact (nI_eq (by omega) (by omega)).mp h9 | omega)]; exact ⟨o, rfl, rfl, rfl, fun hh => ho (by unfold pWrong at hh; split at hh <;> first | assumption | exact hh)⟩) | (rw [if_neg (show ¬ k = 0 from fun z => h9 (by rw [z]; rfl))]; exact ⟨o, rfl, rfl, rfl, ho⟩)
theorem c_atom {sc : List Value} {I : mg_I} {nm base n d : Nat} {op c : Int32} {x2 x3 x4 : Value} {s : pS} {o : Int32} (hp : pH I base n) (hc : pHere (pb I base) n s = c) (hd : 2 ≤ d) (ha : s.1 ≤ n) (ho : s.2 < 0 → o = op) : GG sc 12 false false mi_k158 d 118 [.ref 124, .int c, x2, x3, x4] [] (pW I (nI s.1) s.2 o) nm (qP I nm op (pAtom (pb I base) n (I 124 10) (I 129) s)) := by
  have hp3 := hp.2.2
  unfold pAtom
  rw [hc]
  by_cases hk : pName (I 124 10) c < 0
  · rw [if_pos hk]
    refine g_aload_n (n := 119) rfl rfl ?_
    refine g_iload_n (n := 120) rfl rfl ?_
    refine g_cv1 (n := 123) (t := 152) (ci := 12) rfl (by decide +kernel) (by decide +kernel) (by decide) (by decide) (by decide +kernel) (by rfl) c_nameOf (by omega) (g_E ?_)
    refine g_istore_n2 (n := 124) rfl rfl ?_
    refine g_iload_n (n := 125) rfl rfl ?_
    refine g_iflt (n := 128) 145 rfl (by decide) (fun h1 => ?_) (fun h1 => ?_)
    ·
      refine g_iconst (n := 146) (v := 0) rfl rfl ?_
      refine g_istore_n3 (n := 147) rfl rfl ?_
      refine g_iconst (n := 148) (v := 0) rfl rfl ?_
      refine g_istore4 (n := 150) rfl rfl ?_
      exact c_digits (base := base) hp rfl hd 4 0 0 s o (by omega) ha ho
    ·
      exact absurd hk h1
  · rw [if_neg hk]
    have hl := pHere_lt (b := pb I base) (n := n) (s := s) (fun z => by rw [hc] at z; rw [z, pName_m1] at hk; exact hk (by decide))
    refine g_aload_n (n := 119) rfl rfl ?_
    refine g_iload_n (n := 120) rfl rfl ?_
    refine g_cv1 (n := 123) (t := 152) (ci := 12) rfl (by decide +kernel) (by decide +kernel) (by decide) (by decide) (by decide +kernel) (by rfl) c_nameOf (by omega) (g_E ?_)
    refine g_istore_n2 (n := 124) rfl rfl ?_
    refine g_iload_n (n := 125) rfl rfl ?_
    refine g_iflt (n := 128) 145 rfl (by decide) (fun h1 => ?_) (fun h1 => ?_)
    ·
      exact absurd h1 (by first | exact hk | exact fun z => z hk)
    ·
      refine g_aload_n (n := 129) rfl rfl ?_
      refine g_dupa (n := 130) rfl ?_
      refine g_getv (n := 133) (ci := 12) (j := 6) (v := nI s.1) rfl rfl (by decide +kernel) rfl (by decide) (by decide) ?_
      refine g_iconst (n := 134) (v := 1) rfl rfl ?_
      refine g_iaddN (n := 135) (x := s.1) (y := 1) rfl ?_
      refine g_puti (n := 138) (ci := 12) (j := 6) rfl (by decide +kernel) rfl (by decide) (by decide) (by decide +kernel) rfl ?_
      rw [pW_6]
      refine g_aload_n (n := 139) rfl rfl ?_
      refine g_getr (n := 142) (ci := 12) (j := 11) (b := 129) rfl (by decide +kernel) (by decide) (by decide) (by decide +kernel) ?_
      refine g_iload_n (n := 143) rfl rfl ?_
      refine g_iald (n := 144) (pName (I 124 10) c).toNatClampNeg rfl (by decide) (pName_ix hk).1 (pName_ix hk).2 ?_
      refine g_iret (n := 145) rfl (fun h => nomatch h) ?_
      exact ⟨o, rfl, rfl, rfl, ho⟩
theorem c_pOr {sc : List Value} {I : mg_I} {nm base n h : Nat} {op : Int32} {u : pS → Int32 × pS} (hp : pH I base n) (hu : PC sc I nm n (h + 3) 158 op u) (hg : pGo n u) : PC sc I nm n (h + 8) 153 op (pOr (pb I base) n u) := by
  have h1 : PC sc I nm n (h + 4) 157 op (pMul (pb I base) n u) := c_product (h := h + 1) hp hu hg
  have h2 : PC sc I nm n (h + 5) 156 op (pSum (pb I base) n u) := c_sum (h := h + 2) hp h1 (pMul_go hg)
  have h3 : PC sc I nm n (h + 6) 155 op (pCmp (pb I base) n u) := c_compared (h := h + 4) hp h2 hg
  have h4 : PC sc I nm n (h + 7) 154 op (pAnd (pb I base) n u) := c_both (h := h + 4) hp h3 (pCmp_go hg)
  exact c_either (h := h + 5) hp h4 (pAnd_go hg)
theorem pWrong_ge {s : pS} (h : s.1 < 2 ^ 31) : ¬ (pWrong s).2 < 0 := by
  unfold pWrong
  show ¬ (if s.2 < 0 then nI s.1 else s.2) < 0
  split
  · exact nI_pos h
  next h => exact h
theorem c_unit {sc : List Value} {I : mg_I} {nm base n : Nat} (hp : pH I base n) : ∀ k, k ≤ 5 → PC sc I nm n (6 * k + 3) 158 (nI (5 - k)) (pU (pb I base) n (I 124 10) (I 129) k) := by
  have hp3 := hp.2.2
  intro k
  induction k with
  | zero =>
    intro hk5 s0 o0 ha0 ho0
    refine SP.of (h := 2) (t := 158) (q := (yX12_unit, cX12_unit, 5, (some .int), 12, 1181, mi_k158)) rfl (by decide) (show ¬ (5 : Nat) < 1 by decide) (fun d hd => ?_)
    show GG sc 12 false false mi_k158 d 0 [.ref 124, .null, .null, .null, .null] [] (pW I (nI s0.1) s0.2 o0) nm (qP I nm (nI (5 - 0)) (pU (pb I base) n (I 124 10) (I 129) 0 s0))
    unfold pU
    generalize hc : pHere (pb I base) n s0 = c
    by_cases hk : kOp c
    · rw [if_pos hk]
      have hl := pHere_lt (b := pb I base) (n := n) (s := s0) (fun z => absurd ((hc.symm.trans z) ▸ hk) (by decide))
      have ho5 := ho0 hl.2
      have hk2 : ¬ ¬ o0 = 5 := fun z => z ho5
      refine g_aload_n (n := 1) rfl rfl ?_
      refine g_cv0 (n := 4) (t := 149) (ci := 12) rfl (by decide +kernel) (by decide +kernel) (by decide) (by decide) (by decide +kernel) (by rfl) (c_here hp (by omega)) (by omega) (g_E ?_)
      refine g_top (w := c) hc ?_
      refine g_istore_n1 (n := 5) rfl rfl ?_
      refine g_iload_n (n := 6) rfl rfl ?_
      refine g_bipush (n := 8) (v := 33) rfl rfl ?_
      refine g_iceq (n := 11) 17 rfl (by decide) (fun h1 => ?_) (fun h1 => ?_)
      ·
        refine g_aload_n (n := 18) rfl rfl ?_
        refine g_getv (n := 21) (ci := 12) (j := 9) (v := o0) rfl rfl (by decide +kernel) rfl (by decide) (by decide) ?_
        refine g_iconst (n := 22) (v := 5) rfl rfl ?_
        refine g_icne (n := 25) 30 rfl (by decide) (fun h2 => ?_) (fun h2 => ?_)
        ·
          exact absurd h2 hk2
        ·
          refine g_aload_n (n := 26) rfl rfl ?_
          refine g_cv0 (n := 29) (t := 150) (ci := 12) rfl (by decide +kernel) (by decide +kernel) (by decide) (by decide) (by decide +kernel) (by rfl) (c_wrong hp (by omega)) (by omega) (g_E ?_)
          refine g_iret (n := 30) rfl (fun h => nomatch h) ?_
          exact ⟨o0, rfl, rfl, rfl, fun _ => ho5⟩
      ·
        refine g_iload_n (n := 12) rfl rfl ?_
        refine g_bipush (n := 14) (v := 40) rfl rfl ?_
        refine g_icne (n := 17) 118 rfl (by decide) (fun h3 => ?_) (fun h3 => ?_)
        ·
          exfalso; unfold kOp at hk; simp_all; done
        ·
          refine g_aload_n (n := 18) rfl rfl ?_
          refine g_getv (n := 21) (ci := 12) (j := 9) (v := o0) rfl rfl (by decide +kernel) rfl (by decide) (by decide) ?_
          refine g_iconst (n := 22) (v := 5) rfl rfl ?_
          refine g_icne (n := 25) 30 rfl (by decide) (fun h4 => ?_) (fun h4 => ?_)
          ·
            exact absurd h4 hk2
          ·
            refine g_aload_n (n := 26) rfl rfl ?_
            refine g_cv0 (n := 29) (t := 150) (ci := 12) rfl (by decide +kernel) (by decide +kernel) (by decide) (by decide) (by decide +kernel) (by rfl) (c_wrong hp (by omega)) (by omega) (g_E ?_)
            refine g_iret (n := 30) rfl (fun h => nomatch h) ?_
            exact ⟨o0, rfl, rfl, rfl, fun _ => ho5⟩
    · rw [if_neg hk]
      refine g_aload_n (n := 1) rfl rfl ?_
      refine g_cv0 (n := 4) (t := 149) (ci := 12) rfl (by decide +kernel) (by decide +kernel) (by decide) (by decide) (by decide +kernel) (by rfl) (c_here hp (by omega)) (by omega) (g_E ?_)
      refine g_top (w := c) hc ?_
      refine g_istore_n1 (n := 5) rfl rfl ?_
      refine g_iload_n (n := 6) rfl rfl ?_
      refine g_bipush (n := 8) (v := 33) rfl rfl ?_
      refine g_iceq (n := 11) 17 rfl (by decide) (fun h1 => ?_) (fun h1 => ?_)
      ·
        exfalso; unfold kOp at hk; simp_all; done
      ·
        refine g_iload_n (n := 12) rfl rfl ?_
        refine g_bipush (n := 14) (v := 40) rfl rfl ?_
        refine g_icne (n := 17) 118 rfl (by decide) (fun h2 => ?_) (fun h2 => ?_)
        ·
          exact c_atom (base := base) hp hc (by omega) ha0 ho0
        ·
          exfalso; unfold kOp at hk; simp_all; done
  | succ k ih =>
    intro hk5 s0 o0 ha0 ho0
    refine SP.of (h := 6 * k + 8) (t := 158) (q := (yX12_unit, cX12_unit, 5, (some .int), 12, 1181, mi_k158)) rfl (by decide) (show ¬ (5 : Nat) < 1 by decide) (fun d hd => ?_)
    show GG sc 12 false false mi_k158 d 0 [.ref 124, .null, .null, .null, .null] [] (pW I (nI s0.1) s0.2 o0) nm (qP I nm (nI (5 - (k + 1))) (pU (pb I base) n (I 124 10) (I 129) (k + 1) s0))
    have hu := ih (by omega)
    have hgu := pU_go (b := pb I base) (n := n) (t := I 124 10) (nm3 := I 129) k
    have hor := c_pOr (base := base) hp hu hgu
    have hgo := pOr_go (b := pb I base) hgu
    unfold pU
    generalize pU (pb I base) n (I 124 10) (I 129) k = u at hu hgu hor hgo ⊢
    generalize pOr (pb I base) n u = v at hor hgo ⊢
    generalize hc : pHere (pb I base) n s0 = c
    by_cases hk : kOp c
    · rw [if_pos hk]
      have hl := pHere_lt (b := pb I base) (n := n) (s := s0) (fun z => absurd ((hc.symm.trans z) ▸ hk) (by decide))
      have ho5 := ho0 hl.2
      have hk2 : ¬ o0 = 5 := fun z => by
        have h7 := (nI_eq (by omega) (by omega)).mp (show nI (5 - (k + 1)) = nI 5 from ho5.symm.trans z)
        omega
      have ho6 : o0 + 1 = nI (5 - k) := by rw [ho5, nI_1, show 5 - (k + 1) + 1 = 5 - k by omega]
      have ho7 : ∀ x : Int32, x = nI (5 - k) → x - 1 = nI (5 - (k + 1)) := fun x hx => by rw [hx, show 5 - k = 5 - (k + 1) + 1 by omega, nI_pred]
      by_cases h40 : c = 40
      · rw [if_pos h40]
        have hg1 := hgo (s0.1 + 1, s0.2) (by show s0.1 + 1 ≤ n; omega)
        have hu1 := hor (s0.1 + 1, s0.2) (o0 + 1) (by show s0.1 + 1 ≤ n; omega) (fun _ => ho6)
        generalize v (s0.1 + 1, s0.2) = r at hg1 hu1 ⊢
        have hg2 : r.2.1 ≤ n := hg1.2.1
        refine g_aload_n (n := 1) rfl rfl ?_
        refine g_cv0 (n := 4) (t := 149) (ci := 12) rfl (by decide +kernel) (by decide +kernel) (by decide) (by decide) (by decide +kernel) (by rfl) (c_here hp (by omega)) (by omega) (g_E ?_)
        refine g_top (w := c) hc ?_
        refine g_istore_n1 (n := 5) rfl rfl ?_
        refine g_iload_n (n := 6) rfl rfl ?_
        refine g_bipush (n := 8) (v := 33) rfl rfl ?_
        refine g_iceq (n := 11) 17 rfl (by decide) (fun h1 => ?_) (fun h1 => ?_)
        ·
          refine g_aload_n (n := 18) rfl rfl ?_
          refine g_getv (n := 21) (ci := 12) (j := 9) (v := o0) rfl rfl (by decide +kernel) rfl (by decide) (by decide) ?_
          refine g_iconst (n := 22) (v := 5) rfl rfl ?_
          refine g_icne (n := 25) 30 rfl (by decide) (fun h2 => ?_) (fun h2 => ?_)
          ·
            refine g_aload_n (n := 31) rfl rfl ?_
            refine g_dupa (n := 32) rfl ?_
            refine g_getv (n := 35) (ci := 12) (j := 9) (v := o0) rfl rfl (by decide +kernel) rfl (by decide) (by decide) ?_
            refine g_iconst (n := 36) (v := 1) rfl rfl ?_
            refine g_iadd (n := 37) rfl ?_
            refine g_puti (n := 40) (ci := 12) (j := 9) rfl (by decide +kernel) rfl (by decide) (by decide) (by decide +kernel) rfl ?_
            rw [pW_9]
            refine g_aload_n (n := 41) rfl rfl ?_
            refine g_dupa (n := 42) rfl ?_
            refine g_getv (n := 45) (ci := 12) (j := 6) (v := nI s0.1) rfl rfl (by decide +kernel) rfl (by decide) (by decide) ?_
            refine g_iconst (n := 46) (v := 1) rfl rfl ?_
            refine g_iaddN (n := 47) (x := s0.1) (y := 1) rfl ?_
            refine g_puti (n := 50) (ci := 12) (j := 6) rfl (by decide +kernel) rfl (by decide) (by decide) (by decide +kernel) rfl ?_
            rw [pW_6]
            refine g_iload_n (n := 51) rfl rfl ?_
            refine g_bipush (n := 53) (v := 40) rfl rfl ?_
            refine g_icne (n := 56) 63 rfl (by decide) (fun h3 => ?_) (fun h3 => ?_)
            ·
              exact absurd h3 (by first | exact h40 | exact fun z => z h40)
            ·
              refine g_aload_n (n := 57) rfl rfl ?_
              refine g_cv0 (n := 60) (t := 153) (ci := 12) rfl (by decide +kernel) (by decide +kernel) (by decide) (by decide) (by decide +kernel) (by rfl) hu1 (by omega) (g_P fun o1 ho1 => ?_)
              refine g_goto 67 rfl (by decide) ?_
              refine g_istore_n2 (n := 68) rfl rfl ?_
              refine g_iload_n (n := 69) rfl rfl ?_
              refine g_bipush (n := 71) (v := 40) rfl rfl ?_
              refine g_icne (n := 74) 88 rfl (by decide) (fun h4 => ?_) (fun h4 => ?_)
              ·
                exact absurd h4 (by first | exact h40 | exact fun z => z h40)
              ·
                refine g_aload_n (n := 75) rfl rfl ?_
                refine g_bipush (n := 77) (v := 41) rfl rfl ?_
                by_cases h41 : pHere (pb I base) n r.2 = 41
                ·
                  rw [if_pos h41]
                  refine g_cv1 (n := 80) (t := 151) (ci := 12) rfl (by decide +kernel) (by decide +kernel) (by decide) (by decide) (by decide +kernel) (by rfl) (c_takes1 hp (by omega) h41) (by omega) (g_E ?_)
                  refine g_ifne1 (n := 83) 88 rfl (by decide) ?_
                  refine g_aload_n (n := 89) rfl rfl ?_
                  refine g_dupa (n := 90) rfl ?_
                  refine g_getv (n := 93) (ci := 12) (j := 9) (v := o1) rfl rfl (by decide +kernel) rfl (by decide) (by decide) ?_
                  refine g_iconst (n := 94) (v := 1) rfl rfl ?_
                  refine g_isub (n := 95) rfl ?_
                  refine g_puti (n := 98) (ci := 12) (j := 9) rfl (by decide +kernel) rfl (by decide) (by decide) (by decide +kernel) rfl ?_
                  rw [pW_9]
                  refine g_iload_n (n := 99) rfl rfl ?_
                  refine g_bipush (n := 101) (v := 40) rfl rfl ?_
                  refine g_icne (n := 104) 108 rfl (by decide) (fun h5 => ?_) (fun h5 => ?_)
                  ·
                    exact absurd h5 (by first | exact h40 | exact fun z => z h40)
                  ·
                    refine g_iload_n (n := 105) rfl rfl ?_
                    refine g_goto 117 rfl (by decide) ?_
                    refine g_iret (n := 118) rfl (fun h => nomatch h) ?_
                    exact ⟨o1 - 1, rfl, rfl, rfl, fun hh => ho7 _ (ho1 hh)⟩
                ·
                  rw [if_neg h41]
                  refine g_cv1 (n := 80) (t := 151) (ci := 12) rfl (by decide +kernel) (by decide +kernel) (by decide) (by decide) (by decide +kernel) (by rfl) (c_takes0 hp (by omega) h41) (by omega) (g_E ?_)
                  refine g_ifne0 (n := 83) 88 rfl (by decide) ?_
                  refine g_aload_n (n := 84) rfl rfl ?_
                  refine g_cv0 (n := 87) (t := 150) (ci := 12) rfl (by decide +kernel) (by decide +kernel) (by decide) (by decide) (by decide +kernel) (by rfl) (c_wrong hp (by omega)) (by omega) (g_E ?_)
                  refine g_iret (n := 88) rfl (fun h => nomatch h) ?_
                  exact ⟨o1, rfl, rfl, rfl, fun hh => absurd hh (pWrong_ge (by omega))⟩
          ·
            exact absurd h2 hk2
        ·
          refine g_iload_n (n := 12) rfl rfl ?_
          refine g_bipush (n := 14) (v := 40) rfl rfl ?_
          refine g_icne (n := 17) 118 rfl (by decide) (fun h6 => ?_) (fun h6 => ?_)
          ·
            exfalso; unfold kOp at hk; simp_all; done
          ·
            refine g_aload_n (n := 18) rfl rfl ?_
            refine g_getv (n := 21) (ci := 12) (j := 9) (v := o0) rfl rfl (by decide +kernel) rfl (by decide) (by decide) ?_
            refine g_iconst (n := 22) (v := 5) rfl rfl ?_
            refine g_icne (n := 25) 30 rfl (by decide) (fun h7 => ?_) (fun h7 => ?_)
            ·
              refine g_aload_n (n := 31) rfl rfl ?_
              refine g_dupa (n := 32) rfl ?_
              refine g_getv (n := 35) (ci := 12) (j := 9) (v := o0) rfl rfl (by decide +kernel) rfl (by decide) (by decide) ?_
              refine g_iconst (n := 36) (v := 1) rfl rfl ?_
              refine g_iadd (n := 37) rfl ?_
              refine g_puti (n := 40) (ci := 12) (j := 9) rfl (by decide +kernel) rfl (by decide) (by decide) (by decide +kernel) rfl ?_
              rw [pW_9]
              refine g_aload_n (n := 41) rfl rfl ?_
              refine g_dupa (n := 42) rfl ?_
              refine g_getv (n := 45) (ci := 12) (j := 6) (v := nI s0.1) rfl rfl (by decide +kernel) rfl (by decide) (by decide) ?_
              refine g_iconst (n := 46) (v := 1) rfl rfl ?_
              refine g_iaddN (n := 47) (x := s0.1) (y := 1) rfl ?_
              refine g_puti (n := 50) (ci := 12) (j := 6) rfl (by decide +kernel) rfl (by decide) (by decide) (by decide +kernel) rfl ?_
              rw [pW_6]
              refine g_iload_n (n := 51) rfl rfl ?_
              refine g_bipush (n := 53) (v := 40) rfl rfl ?_
              refine g_icne (n := 56) 63 rfl (by decide) (fun h8 => ?_) (fun h8 => ?_)
              ·
                exact absurd h8 (by first | exact h40 | exact fun z => z h40)
              ·
                refine g_aload_n (n := 57) rfl rfl ?_
                refine g_cv0 (n := 60) (t := 153) (ci := 12) rfl (by decide +kernel) (by decide +kernel) (by decide) (by decide) (by decide +kernel) (by rfl) hu1 (by omega) (g_P fun o1 ho1 => ?_)
                refine g_goto 67 rfl (by decide) ?_
                refine g_istore_n2 (n := 68) rfl rfl ?_
                refine g_iload_n (n := 69) rfl rfl ?_
                refine g_bipush (n := 71) (v := 40) rfl rfl ?_
                refine g_icne (n := 74) 88 rfl (by decide) (fun h9 => ?_) (fun h9 => ?_)
                ·
                  exact absurd h9 (by first | exact h40 | exact fun z => z h40)
                ·
                  refine g_aload_n (n := 75) rfl rfl ?_
                  refine g_bipush (n := 77) (v := 41) rfl rfl ?_
                  by_cases h41 : pHere (pb I base) n r.2 = 41
                  ·
                    rw [if_pos h41]
                    refine g_cv1 (n := 80) (t := 151) (ci := 12) rfl (by decide +kernel) (by decide +kernel) (by decide) (by decide) (by decide +kernel) (by rfl) (c_takes1 hp (by omega) h41) (by omega) (g_E ?_)
                    refine g_ifne1 (n := 83) 88 rfl (by decide) ?_
                    refine g_aload_n (n := 89) rfl rfl ?_
                    refine g_dupa (n := 90) rfl ?_
                    refine g_getv (n := 93) (ci := 12) (j := 9) (v := o1) rfl rfl (by decide +kernel) rfl (by decide) (by decide) ?_
                    refine g_iconst (n := 94) (v := 1) rfl rfl ?_
                    refine g_isub (n := 95) rfl ?_
                    refine g_puti (n := 98) (ci := 12) (j := 9) rfl (by decide +kernel) rfl (by decide) (by decide) (by decide +kernel) rfl ?_
                    rw [pW_9]
                    refine g_iload_n (n := 99) rfl rfl ?_
                    refine g_bipush (n := 101) (v := 40) rfl rfl ?_
                    refine g_icne (n := 104) 108 rfl (by decide) (fun h10 => ?_) (fun h10 => ?_)
                    ·
                      exact absurd h10 (by first | exact h40 | exact fun z => z h40)
                    ·
                      refine g_iload_n (n := 105) rfl rfl ?_
                      refine g_goto 117 rfl (by decide) ?_
                      refine g_iret (n := 118) rfl (fun h => nomatch h) ?_
                      exact ⟨o1 - 1, rfl, rfl, rfl, fun hh => ho7 _ (ho1 hh)⟩
                  ·
                    rw [if_neg h41]
                    refine g_cv1 (n := 80) (t := 151) (ci := 12) rfl (by decide +kernel) (by decide +kernel) (by decide) (by decide) (by decide +kernel) (by rfl) (c_takes0 hp (by omega) h41) (by omega) (g_E ?_)
                    refine g_ifne0 (n := 83) 88 rfl (by decide) ?_
                    refine g_aload_n (n := 84) rfl rfl ?_
                    refine g_cv0 (n := 87) (t := 150) (ci := 12) rfl (by decide +kernel) (by decide +kernel) (by decide) (by decide) (by decide +kernel) (by rfl) (c_wrong hp (by omega)) (by omega) (g_E ?_)
                    refine g_iret (n := 88) rfl (fun h => nomatch h) ?_
                    exact ⟨o1, rfl, rfl, rfl, fun hh => absurd hh (pWrong_ge (by omega))⟩
            ·
              exact absurd h7 hk2
      · rw [if_neg h40]
        have hg1 := hgu (s0.1 + 1, s0.2) (by show s0.1 + 1 ≤ n; omega)
        have hu1 := hu (s0.1 + 1, s0.2) (o0 + 1) (by show s0.1 + 1 ≤ n; omega) (fun _ => ho6)
        generalize u (s0.1 + 1, s0.2) = r at hg1 hu1 ⊢
        have hg2 : r.2.1 ≤ n := hg1.2.1
        refine g_aload_n (n := 1) rfl rfl ?_
        refine g_cv0 (n := 4) (t := 149) (ci := 12) rfl (by decide +kernel) (by decide +kernel) (by decide) (by decide) (by decide +kernel) (by rfl) (c_here hp (by omega)) (by omega) (g_E ?_)
        refine g_top (w := c) hc ?_
        refine g_istore_n1 (n := 5) rfl rfl ?_
        refine g_iload_n (n := 6) rfl rfl ?_
        refine g_bipush (n := 8) (v := 33) rfl rfl ?_
        refine g_iceq (n := 11) 17 rfl (by decide) (fun h1 => ?_) (fun h1 => ?_)
        ·
          refine g_aload_n (n := 18) rfl rfl ?_
          refine g_getv (n := 21) (ci := 12) (j := 9) (v := o0) rfl rfl (by decide +kernel) rfl (by decide) (by decide) ?_
          refine g_iconst (n := 22) (v := 5) rfl rfl ?_
          refine g_icne (n := 25) 30 rfl (by decide) (fun h2 => ?_) (fun h2 => ?_)
          ·
            refine g_aload_n (n := 31) rfl rfl ?_
            refine g_dupa (n := 32) rfl ?_
            refine g_getv (n := 35) (ci := 12) (j := 9) (v := o0) rfl rfl (by decide +kernel) rfl (by decide) (by decide) ?_
            refine g_iconst (n := 36) (v := 1) rfl rfl ?_
            refine g_iadd (n := 37) rfl ?_
            refine g_puti (n := 40) (ci := 12) (j := 9) rfl (by decide +kernel) rfl (by decide) (by decide) (by decide +kernel) rfl ?_
            rw [pW_9]
            refine g_aload_n (n := 41) rfl rfl ?_
            refine g_dupa (n := 42) rfl ?_
            refine g_getv (n := 45) (ci := 12) (j := 6) (v := nI s0.1) rfl rfl (by decide +kernel) rfl (by decide) (by decide) ?_
            refine g_iconst (n := 46) (v := 1) rfl rfl ?_
            refine g_iaddN (n := 47) (x := s0.1) (y := 1) rfl ?_
            refine g_puti (n := 50) (ci := 12) (j := 6) rfl (by decide +kernel) rfl (by decide) (by decide) (by decide +kernel) rfl ?_
            rw [pW_6]
            refine g_iload_n (n := 51) rfl rfl ?_
            refine g_bipush (n := 53) (v := 40) rfl rfl ?_
            refine g_icne (n := 56) 63 rfl (by decide) (fun h3 => ?_) (fun h3 => ?_)
            ·
              refine g_aload_n (n := 64) rfl rfl ?_
              refine g_cv0 (n := 67) (t := 158) (ci := 12) rfl (by decide +kernel) (by decide +kernel) (by decide) (by decide) (by decide +kernel) (by rfl) hu1 (by omega) (g_P fun o1 ho1 => ?_)
              refine g_istore_n2 (n := 68) rfl rfl ?_
              refine g_iload_n (n := 69) rfl rfl ?_
              refine g_bipush (n := 71) (v := 40) rfl rfl ?_
              refine g_icne (n := 74) 88 rfl (by decide) (fun h4 => ?_) (fun h4 => ?_)
              ·
                refine g_aload_n (n := 89) rfl rfl ?_
                refine g_dupa (n := 90) rfl ?_
                refine g_getv (n := 93) (ci := 12) (j := 9) (v := o1) rfl rfl (by decide +kernel) rfl (by decide) (by decide) ?_
                refine g_iconst (n := 94) (v := 1) rfl rfl ?_
                refine g_isub (n := 95) rfl ?_
                refine g_puti (n := 98) (ci := 12) (j := 9) rfl (by decide +kernel) rfl (by decide) (by decide) (by decide +kernel) rfl ?_
                rw [pW_9]
                refine g_iload_n (n := 99) rfl rfl ?_
                refine g_bipush (n := 101) (v := 40) rfl rfl ?_
                refine g_icne (n := 104) 108 rfl (by decide) (fun h5 => ?_) (fun h5 => ?_)
                ·
                  refine g_iload_n (n := 109) rfl rfl ?_
                  refine g_ifne (n := 112) 116 rfl (by decide) (fun h6 => ?_) (fun h6 => ?_)
                  ·
                    refine g_iconst (n := 117) (v := 0) rfl rfl ?_
                    refine g_iret (n := 118) rfl (fun h => nomatch h) ?_
                    exact ⟨o1 - 1, congrArg (fun z => some (Value.int z)) (bI_f (by assumption)).symm, rfl, rfl, fun hh => ho7 _ (ho1 hh)⟩
                  ·
                    refine g_iconst (n := 113) (v := 1) rfl rfl ?_
                    refine g_goto 117 rfl (by decide) ?_
                    refine g_iret (n := 118) rfl (fun h => nomatch h) ?_
                    exact ⟨o1 - 1, congrArg (fun z => some (Value.int z)) (bI_t (by assumption)).symm, rfl, rfl, fun hh => ho7 _ (ho1 hh)⟩
                ·
                  exact absurd h5 (by first | exact h40 | exact fun z => z h40)
              ·
                exact absurd h4 (by first | exact h40 | exact fun z => z h40)
            ·
              exact absurd h3 (by first | exact h40 | exact fun z => z h40)
          ·
            exact absurd h2 hk2
        ·
          refine g_iload_n (n := 12) rfl rfl ?_
          refine g_bipush (n := 14) (v := 40) rfl rfl ?_
          refine g_icne (n := 17) 118 rfl (by decide) (fun h7 => ?_) (fun h7 => ?_)
          ·
            exfalso; unfold kOp at hk; simp_all; done
          ·
            refine g_aload_n (n := 18) rfl rfl ?_
            refine g_getv (n := 21) (ci := 12) (j := 9) (v := o0) rfl rfl (by decide +kernel) rfl (by decide) (by decide) ?_
            refine g_iconst (n := 22) (v := 5) rfl rfl ?_
            refine g_icne (n := 25) 30 rfl (by decide) (fun h8 => ?_) (fun h8 => ?_)
            ·
              refine g_aload_n (n := 31) rfl rfl ?_
              refine g_dupa (n := 32) rfl ?_
              refine g_getv (n := 35) (ci := 12) (j := 9) (v := o0) rfl rfl (by decide +kernel) rfl (by decide) (by decide) ?_
              refine g_iconst (n := 36) (v := 1) rfl rfl ?_
              refine g_iadd (n := 37) rfl ?_
              refine g_puti (n := 40) (ci := 12) (j := 9) rfl (by decide +kernel) rfl (by decide) (by decide) (by decide +kernel) rfl ?_
              rw [pW_9]
              refine g_aload_n (n := 41) rfl rfl ?_
              refine g_dupa (n := 42) rfl ?_
              refine g_getv (n := 45) (ci := 12) (j := 6) (v := nI s0.1) rfl rfl (by decide +kernel) rfl (by decide) (by decide) ?_
              refine g_iconst (n := 46) (v := 1) rfl rfl ?_
              refine g_iaddN (n := 47) (x := s0.1) (y := 1) rfl ?_
              refine g_puti (n := 50) (ci := 12) (j := 6) rfl (by decide +kernel) rfl (by decide) (by decide) (by decide +kernel) rfl ?_
              rw [pW_6]
              refine g_iload_n (n := 51) rfl rfl ?_
              refine g_bipush (n := 53) (v := 40) rfl rfl ?_
              refine g_icne (n := 56) 63 rfl (by decide) (fun h9 => ?_) (fun h9 => ?_)
              ·
                refine g_aload_n (n := 64) rfl rfl ?_
                refine g_cv0 (n := 67) (t := 158) (ci := 12) rfl (by decide +kernel) (by decide +kernel) (by decide) (by decide) (by decide +kernel) (by rfl) hu1 (by omega) (g_P fun o1 ho1 => ?_)
                refine g_istore_n2 (n := 68) rfl rfl ?_
                refine g_iload_n (n := 69) rfl rfl ?_
                refine g_bipush (n := 71) (v := 40) rfl rfl ?_
                refine g_icne (n := 74) 88 rfl (by decide) (fun h10 => ?_) (fun h10 => ?_)
                ·
                  refine g_aload_n (n := 89) rfl rfl ?_
                  refine g_dupa (n := 90) rfl ?_
                  refine g_getv (n := 93) (ci := 12) (j := 9) (v := o1) rfl rfl (by decide +kernel) rfl (by decide) (by decide) ?_
                  refine g_iconst (n := 94) (v := 1) rfl rfl ?_
                  refine g_isub (n := 95) rfl ?_
                  refine g_puti (n := 98) (ci := 12) (j := 9) rfl (by decide +kernel) rfl (by decide) (by decide) (by decide +kernel) rfl ?_
                  rw [pW_9]
                  refine g_iload_n (n := 99) rfl rfl ?_
                  refine g_bipush (n := 101) (v := 40) rfl rfl ?_
                  refine g_icne (n := 104) 108 rfl (by decide) (fun h11 => ?_) (fun h11 => ?_)
                  ·
                    refine g_iload_n (n := 109) rfl rfl ?_
                    refine g_ifne (n := 112) 116 rfl (by decide) (fun h12 => ?_) (fun h12 => ?_)
                    ·
                      refine g_iconst (n := 117) (v := 0) rfl rfl ?_
                      refine g_iret (n := 118) rfl (fun h => nomatch h) ?_
                      exact ⟨o1 - 1, congrArg (fun z => some (Value.int z)) (bI_f (by assumption)).symm, rfl, rfl, fun hh => ho7 _ (ho1 hh)⟩
                    ·
                      refine g_iconst (n := 113) (v := 1) rfl rfl ?_
                      refine g_goto 117 rfl (by decide) ?_
                      refine g_iret (n := 118) rfl (fun h => nomatch h) ?_
                      exact ⟨o1 - 1, congrArg (fun z => some (Value.int z)) (bI_t (by assumption)).symm, rfl, rfl, fun hh => ho7 _ (ho1 hh)⟩
                  ·
                    exact absurd h11 (by first | exact h40 | exact fun z => z h40)
                ·
                  exact absurd h10 (by first | exact h40 | exact fun z => z h40)
              ·
                exact absurd h9 (by first | exact h40 | exact fun z => z h40)
            ·
              exact absurd h8 hk2
    · rw [if_neg hk]
      refine g_aload_n (n := 1) rfl rfl ?_
      refine g_cv0 (n := 4) (t := 149) (ci := 12) rfl (by decide +kernel) (by decide +kernel) (by decide) (by decide) (by decide +kernel) (by rfl) (c_here hp (by omega)) (by omega) (g_E ?_)
      refine g_top (w := c) hc ?_
      refine g_istore_n1 (n := 5) rfl rfl ?_
      refine g_iload_n (n := 6) rfl rfl ?_
      refine g_bipush (n := 8) (v := 33) rfl rfl ?_
      refine g_iceq (n := 11) 17 rfl (by decide) (fun h1 => ?_) (fun h1 => ?_)
      ·
        exfalso; unfold kOp at hk; simp_all; done
      ·
        refine g_iload_n (n := 12) rfl rfl ?_
        refine g_bipush (n := 14) (v := 40) rfl rfl ?_
        refine g_icne (n := 17) 118 rfl (by decide) (fun h2 => ?_) (fun h2 => ?_)
        ·
          exact c_atom (base := base) hp hc (by omega) ha0 ho0
        ·
          exfalso; unfold kOp at hk; simp_all; done
