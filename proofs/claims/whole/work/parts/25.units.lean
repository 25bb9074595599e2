/-! the text's value: compares, units, whole texts -/
theorem PC.up {sc : List Value} {I : mg_I} {nm n h h' t : Nat} {op : Int32} {u : pS → Int32 × pS} (hu : PC sc I nm n h t op u) (hh : h ≤ h') : PC sc I nm n h' t op u := fun s o ha ho d hd => hu s o ha ho d (by omega)
theorem c_compared {sc : List Value} {I : mg_I} {nm base n h : Nat} {op : Int32} {u : pS → Int32 × pS} (hp : pH I base n) (hu : PC sc I nm n (h + 1) 156 op (pSum (pb I base) n u)) (hg : pGo n u) : PC sc I nm n (h + 1 + 1) 155 op (pCmp (pb I base) n u) := by
  intro s0 o0 ha0 ho0
  have hp3 := hp.2.2
  refine SP.of (h := h + 1) (t := 155) (q := (yX12_compared, cX12_compared, 4, (some .int), 12, 1169, mi_k155)) rfl (by decide) (show ¬ (4 : Nat) < 1 by decide) (fun d hd => ?_)
  show GG sc 12 false false mi_k155 d 0 [.ref 124, .null, .null, .null] [] (pW I (nI s0.1) s0.2 o0) nm (qP I nm op (pCmp (pb I base) n u s0))
  unfold pCmp
  have hg0 := pSum_go (b := pb I base) hg s0 ha0
  have hu0 := hu s0 o0 ha0 ho0
  generalize pSum (pb I base) n u s0 = r0 at hg0 hu0 ⊢
  have hg2 : r0.2.1 ≤ n := hg0.2.1
  refine g_aload_n (n := 1) rfl rfl ?_
  refine g_cv0 (n := 4) (t := 156) (ci := 12) rfl (by decide +kernel) (by decide +kernel) (by decide) (by decide) (by decide +kernel) (by rfl) hu0 (by omega) (g_P fun o1 ho1 => ?_)
  generalize hc : pHere (pb I base) n r0.2 = c
  by_cases hk : kCmp c
  ·
    rw [if_pos hk]
    have hl := pHere_lt (b := pb I base) (n := n) (s := r0.2) (fun z => absurd ((hc.symm.trans z) ▸ hk) (by decide))
    have hg3 := pSum_go (b := pb I base) hg (r0.2.1 + 1, r0.2.2) (by show r0.2.1 + 1 ≤ n; omega)
    have hu1 := hu (r0.2.1 + 1, r0.2.2) o1 (by show r0.2.1 + 1 ≤ n; omega) ho1
    generalize pSum (pb I base) n u (r0.2.1 + 1, r0.2.2) = r1 at hg3 hu1 ⊢
    unfold kCmp at hk
    refine g_istore_n1 (n := 5) rfl rfl ?_
    refine g_aload_n (n := 6) rfl rfl ?_
    refine g_cv0 (n := 9) (t := 149) (ci := 12) rfl (by decide +kernel) (by decide +kernel) (by decide) (by decide) (by decide +kernel) (by rfl) (c_here hp (by omega)) (by omega) (g_E ?_)
    refine g_top hc ?_
    refine g_istore_n2 (n := 10) rfl rfl ?_
    refine g_iload_n (n := 11) rfl rfl ?_
    refine g_bipush (n := 13) (v := 60) rfl rfl ?_
    refine g_iceq (n := 16) 30 rfl (by decide) (fun h1 => ?_) (fun h1 => ?_)
    ·
      refine g_aload_n (n := 31) rfl rfl ?_
      refine g_dupa (n := 32) rfl ?_
      refine g_getv (n := 35) (ci := 12) (j := 6) (v := nI r0.2.1) rfl rfl (by decide +kernel) rfl (by decide) (by decide) ?_
      refine g_iconst (n := 36) (v := 1) rfl rfl ?_
      refine g_iaddN (n := 37) (x := r0.2.1) (y := 1) rfl ?_
      refine g_puti (n := 40) (ci := 12) (j := 6) rfl (by decide +kernel) rfl (by decide) (by decide) (by decide +kernel) rfl ?_
      rw [pW_6]
      refine g_aload_n (n := 41) rfl rfl ?_
      refine g_cv0 (n := 44) (t := 156) (ci := 12) rfl (by decide +kernel) (by decide +kernel) (by decide) (by decide) (by decide +kernel) (by rfl) hu1 (by omega) (g_P fun o2 ho2 => ?_)
      refine g_istore_n3 (n := 45) rfl rfl ?_
      refine g_iload_n (n := 46) rfl rfl ?_
      refine g_bipush (n := 48) (v := 60) rfl rfl ?_
      refine g_icne (n := 51) 59 rfl (by decide) (fun h2 => ?_) (fun h2 => ?_)
      ·
        refine g_iload_n (n := 60) rfl rfl ?_
        refine g_bipush (n := 62) (v := 61) rfl rfl ?_
        refine g_icne (n := 65) 73 rfl (by decide) (fun h3 => ?_) (fun h3 => ?_)
        ·
          refine g_iload_n (n := 74) rfl rfl ?_
          refine g_iload_n (n := 75) rfl rfl ?_
          refine g_icle (n := 78) 82 rfl (by decide) (fun h4 => ?_) (fun h4 => ?_)
          ·
            refine g_iconst (n := 83) (v := 0) rfl rfl ?_
            refine g_iret (n := 84) rfl (fun h => nomatch h) ?_
            first | exact ⟨o1, rfl, rfl, rfl, ho1⟩ | (exfalso; simp_all; done) | exact ⟨o2, congrArg (fun z => some (Value.int z)) (by unfold vCmp; first | exact (bI_t (by simp only [Int32.lt_iff_toInt_lt, Int32.le_iff_toInt_le] at *; omega)).symm | simp_all [bI, Int32.not_lt, Int32.not_le]), rfl, rfl, ho2⟩
          ·
            refine g_iconst (n := 79) (v := 1) rfl rfl ?_
            refine g_goto 83 rfl (by decide) ?_
            refine g_iret (n := 84) rfl (fun h => nomatch h) ?_
            first | exact ⟨o1, rfl, rfl, rfl, ho1⟩ | (exfalso; simp_all; done) | exact ⟨o2, congrArg (fun z => some (Value.int z)) (by unfold vCmp; first | exact (bI_t (by simp only [Int32.lt_iff_toInt_lt, Int32.le_iff_toInt_le] at *; omega)).symm | simp_all [bI, Int32.not_lt, Int32.not_le]), rfl, rfl, ho2⟩
        ·
          refine g_iload_n (n := 66) rfl rfl ?_
          refine g_iload_n (n := 67) rfl rfl ?_
          refine g_icne (n := 70) 82 rfl (by decide) (fun h5 => ?_) (fun h5 => ?_)
          ·
            refine g_iconst (n := 83) (v := 0) rfl rfl ?_
            refine g_iret (n := 84) rfl (fun h => nomatch h) ?_
            first | exact ⟨o1, rfl, rfl, rfl, ho1⟩ | (exfalso; simp_all; done) | exact ⟨o2, congrArg (fun z => some (Value.int z)) (by unfold vCmp; first | exact (bI_t (by simp only [Int32.lt_iff_toInt_lt, Int32.le_iff_toInt_le] at *; omega)).symm | simp_all [bI, Int32.not_lt, Int32.not_le]), rfl, rfl, ho2⟩
          ·
            refine g_goto 78 rfl (by decide) ?_
            refine g_iconst (n := 79) (v := 1) rfl rfl ?_
            refine g_goto 83 rfl (by decide) ?_
            refine g_iret (n := 84) rfl (fun h => nomatch h) ?_
            first | exact ⟨o1, rfl, rfl, rfl, ho1⟩ | (exfalso; simp_all; done) | exact ⟨o2, congrArg (fun z => some (Value.int z)) (by unfold vCmp; first | exact (bI_t (by simp only [Int32.lt_iff_toInt_lt, Int32.le_iff_toInt_le] at *; omega)).symm | simp_all [bI, Int32.not_lt, Int32.not_le]), rfl, rfl, ho2⟩
      ·
        refine g_iload_n (n := 52) rfl rfl ?_
        refine g_iload_n (n := 53) rfl rfl ?_
        refine g_icge (n := 56) 82 rfl (by decide) (fun h6 => ?_) (fun h6 => ?_)
        ·
          refine g_iconst (n := 83) (v := 0) rfl rfl ?_
          refine g_iret (n := 84) rfl (fun h => nomatch h) ?_
          first | exact ⟨o1, rfl, rfl, rfl, ho1⟩ | (exfalso; simp_all; done) | exact ⟨o2, congrArg (fun z => some (Value.int z)) (by unfold vCmp; first | exact (bI_t (by simp only [Int32.lt_iff_toInt_lt, Int32.le_iff_toInt_le] at *; omega)).symm | simp_all [bI, Int32.not_lt, Int32.not_le]), rfl, rfl, ho2⟩
        ·
          refine g_goto 78 rfl (by decide) ?_
          refine g_iconst (n := 79) (v := 1) rfl rfl ?_
          refine g_goto 83 rfl (by decide) ?_
          refine g_iret (n := 84) rfl (fun h => nomatch h) ?_
          first | exact ⟨o1, rfl, rfl, rfl, ho1⟩ | (exfalso; simp_all; done) | exact ⟨o2, congrArg (fun z => some (Value.int z)) (by unfold vCmp; first | exact (bI_t (by simp only [Int32.lt_iff_toInt_lt, Int32.le_iff_toInt_le] at *; omega)).symm | simp_all [bI, Int32.not_lt, Int32.not_le]), rfl, rfl, ho2⟩
    ·
      refine g_iload_n (n := 17) rfl rfl ?_
      refine g_bipush (n := 19) (v := 61) rfl rfl ?_
      refine g_iceq (n := 22) 30 rfl (by decide) (fun h7 => ?_) (fun h7 => ?_)
      ·
        refine g_aload_n (n := 31) rfl rfl ?_
        refine g_dupa (n := 32) rfl ?_
        refine g_getv (n := 35) (ci := 12) (j := 6) (v := nI r0.2.1) rfl rfl (by decide +kernel) rfl (by decide) (by decide) ?_
        refine g_iconst (n := 36) (v := 1) rfl rfl ?_
        refine g_iaddN (n := 37) (x := r0.2.1) (y := 1) rfl ?_
        refine g_puti (n := 40) (ci := 12) (j := 6) rfl (by decide +kernel) rfl (by decide) (by decide) (by decide +kernel) rfl ?_
        rw [pW_6]
        refine g_aload_n (n := 41) rfl rfl ?_
        refine g_cv0 (n := 44) (t := 156) (ci := 12) rfl (by decide +kernel) (by decide +kernel) (by decide) (by decide) (by decide +kernel) (by rfl) hu1 (by omega) (g_P fun o2 ho2 => ?_)
        refine g_istore_n3 (n := 45) rfl rfl ?_
        refine g_iload_n (n := 46) rfl rfl ?_
        refine g_bipush (n := 48) (v := 60) rfl rfl ?_
        refine g_icne (n := 51) 59 rfl (by decide) (fun h8 => ?_) (fun h8 => ?_)
        ·
          refine g_iload_n (n := 60) rfl rfl ?_
          refine g_bipush (n := 62) (v := 61) rfl rfl ?_
          refine g_icne (n := 65) 73 rfl (by decide) (fun h9 => ?_) (fun h9 => ?_)
          ·
            refine g_iload_n (n := 74) rfl rfl ?_
            refine g_iload_n (n := 75) rfl rfl ?_
            refine g_icle (n := 78) 82 rfl (by decide) (fun h10 => ?_) (fun h10 => ?_)
            ·
              refine g_iconst (n := 83) (v := 0) rfl rfl ?_
              refine g_iret (n := 84) rfl (fun h => nomatch h) ?_
              first | exact ⟨o1, rfl, rfl, rfl, ho1⟩ | (exfalso; simp_all; done) | exact ⟨o2, congrArg (fun z => some (Value.int z)) (by unfold vCmp; first | exact (bI_t (by simp only [Int32.lt_iff_toInt_lt, Int32.le_iff_toInt_le] at *; omega)).symm | simp_all [bI, Int32.not_lt, Int32.not_le]), rfl, rfl, ho2⟩
            ·
              refine g_iconst (n := 79) (v := 1) rfl rfl ?_
              refine g_goto 83 rfl (by decide) ?_
              refine g_iret (n := 84) rfl (fun h => nomatch h) ?_
              first | exact ⟨o1, rfl, rfl, rfl, ho1⟩ | (exfalso; simp_all; done) | exact ⟨o2, congrArg (fun z => some (Value.int z)) (by unfold vCmp; first | exact (bI_t (by simp only [Int32.lt_iff_toInt_lt, Int32.le_iff_toInt_le] at *; omega)).symm | simp_all [bI, Int32.not_lt, Int32.not_le]), rfl, rfl, ho2⟩
          ·
            refine g_iload_n (n := 66) rfl rfl ?_
            refine g_iload_n (n := 67) rfl rfl ?_
            refine g_icne (n := 70) 82 rfl (by decide) (fun h11 => ?_) (fun h11 => ?_)
            ·
              refine g_iconst (n := 83) (v := 0) rfl rfl ?_
              refine g_iret (n := 84) rfl (fun h => nomatch h) ?_
              first | exact ⟨o1, rfl, rfl, rfl, ho1⟩ | (exfalso; simp_all; done) | exact ⟨o2, congrArg (fun z => some (Value.int z)) (by unfold vCmp; first | exact (bI_t (by simp only [Int32.lt_iff_toInt_lt, Int32.le_iff_toInt_le] at *; omega)).symm | simp_all [bI, Int32.not_lt, Int32.not_le]), rfl, rfl, ho2⟩
            ·
              refine g_goto 78 rfl (by decide) ?_
              refine g_iconst (n := 79) (v := 1) rfl rfl ?_
              refine g_goto 83 rfl (by decide) ?_
              refine g_iret (n := 84) rfl (fun h => nomatch h) ?_
              first | exact ⟨o1, rfl, rfl, rfl, ho1⟩ | (exfalso; simp_all; done) | exact ⟨o2, congrArg (fun z => some (Value.int z)) (by unfold vCmp; first | exact (bI_t (by simp only [Int32.lt_iff_toInt_lt, Int32.le_iff_toInt_le] at *; omega)).symm | simp_all [bI, Int32.not_lt, Int32.not_le]), rfl, rfl, ho2⟩
        ·
          refine g_iload_n (n := 52) rfl rfl ?_
          refine g_iload_n (n := 53) rfl rfl ?_
          refine g_icge (n := 56) 82 rfl (by decide) (fun h12 => ?_) (fun h12 => ?_)
          ·
            refine g_iconst (n := 83) (v := 0) rfl rfl ?_
            refine g_iret (n := 84) rfl (fun h => nomatch h) ?_
            first | exact ⟨o1, rfl, rfl, rfl, ho1⟩ | (exfalso; simp_all; done) | exact ⟨o2, congrArg (fun z => some (Value.int z)) (by unfold vCmp; first | exact (bI_t (by simp only [Int32.lt_iff_toInt_lt, Int32.le_iff_toInt_le] at *; omega)).symm | simp_all [bI, Int32.not_lt, Int32.not_le]), rfl, rfl, ho2⟩
          ·
            refine g_goto 78 rfl (by decide) ?_
            refine g_iconst (n := 79) (v := 1) rfl rfl ?_
            refine g_goto 83 rfl (by decide) ?_
            refine g_iret (n := 84) rfl (fun h => nomatch h) ?_
            first | exact ⟨o1, rfl, rfl, rfl, ho1⟩ | (exfalso; simp_all; done) | exact ⟨o2, congrArg (fun z => some (Value.int z)) (by unfold vCmp; first | exact (bI_t (by simp only [Int32.lt_iff_toInt_lt, Int32.le_iff_toInt_le] at *; omega)).symm | simp_all [bI, Int32.not_lt, Int32.not_le]), rfl, rfl, ho2⟩
      ·
        refine g_iload_n (n := 23) rfl rfl ?_
        refine g_bipush (n := 25) (v := 62) rfl rfl ?_
        refine g_iceq (n := 28) 30 rfl (by decide) (fun h13 => ?_) (fun h13 => ?_)
        ·
          refine g_aload_n (n := 31) rfl rfl ?_
          refine g_dupa (n := 32) rfl ?_
          refine g_getv (n := 35) (ci := 12) (j := 6) (v := nI r0.2.1) rfl rfl (by decide +kernel) rfl (by decide) (by decide) ?_
          refine g_iconst (n := 36) (v := 1) rfl rfl ?_
          refine g_iaddN (n := 37) (x := r0.2.1) (y := 1) rfl ?_
          refine g_puti (n := 40) (ci := 12) (j := 6) rfl (by decide +kernel) rfl (by decide) (by decide) (by decide +kernel) rfl ?_
          rw [pW_6]
          refine g_aload_n (n := 41) rfl rfl ?_
          refine g_cv0 (n := 44) (t := 156) (ci := 12) rfl (by decide +kernel) (by decide +kernel) (by decide) (by decide) (by decide +kernel) (by rfl) hu1 (by omega) (g_P fun o2 ho2 => ?_)
          refine g_istore_n3 (n := 45) rfl rfl ?_
          refine g_iload_n (n := 46) rfl rfl ?_
          refine g_bipush (n := 48) (v := 60) rfl rfl ?_
          refine g_icne (n := 51) 59 rfl (by decide) (fun h14 => ?_) (fun h14 => ?_)
          ·
            refine g_iload_n (n := 60) rfl rfl ?_
            refine g_bipush (n := 62) (v := 61) rfl rfl ?_
            refine g_icne (n := 65) 73 rfl (by decide) (fun h15 => ?_) (fun h15 => ?_)
            ·
              refine g_iload_n (n := 74) rfl rfl ?_
              refine g_iload_n (n := 75) rfl rfl ?_
              refine g_icle (n := 78) 82 rfl (by decide) (fun h16 => ?_) (fun h16 => ?_)
              ·
                refine g_iconst (n := 83) (v := 0) rfl rfl ?_
                refine g_iret (n := 84) rfl (fun h => nomatch h) ?_
                first | exact ⟨o1, rfl, rfl, rfl, ho1⟩ | (exfalso; simp_all; done) | exact ⟨o2, congrArg (fun z => some (Value.int z)) (by unfold vCmp; first | exact (bI_t (by simp only [Int32.lt_iff_toInt_lt, Int32.le_iff_toInt_le] at *; omega)).symm | simp_all [bI, Int32.not_lt, Int32.not_le]), rfl, rfl, ho2⟩
              ·
                refine g_iconst (n := 79) (v := 1) rfl rfl ?_
                refine g_goto 83 rfl (by decide) ?_
                refine g_iret (n := 84) rfl (fun h => nomatch h) ?_
                first | exact ⟨o1, rfl, rfl, rfl, ho1⟩ | (exfalso; simp_all; done) | exact ⟨o2, congrArg (fun z => some (Value.int z)) (by unfold vCmp; first | exact (bI_t (by simp only [Int32.lt_iff_toInt_lt, Int32.le_iff_toInt_le] at *; omega)).symm | simp_all [bI, Int32.not_lt, Int32.not_le]), rfl, rfl, ho2⟩
            ·
              refine g_iload_n (n := 66) rfl rfl ?_
              refine g_iload_n (n := 67) rfl rfl ?_
              refine g_icne (n := 70) 82 rfl (by decide) (fun h17 => ?_) (fun h17 => ?_)
              ·
                refine g_iconst (n := 83) (v := 0) rfl rfl ?_
                refine g_iret (n := 84) rfl (fun h => nomatch h) ?_
                first | exact ⟨o1, rfl, rfl, rfl, ho1⟩ | (exfalso; simp_all; done) | exact ⟨o2, congrArg (fun z => some (Value.int z)) (by unfold vCmp; first | exact (bI_t (by simp only [Int32.lt_iff_toInt_lt, Int32.le_iff_toInt_le] at *; omega)).symm | simp_all [bI, Int32.not_lt, Int32.not_le]), rfl, rfl, ho2⟩
              ·
                refine g_goto 78 rfl (by decide) ?_
                refine g_iconst (n := 79) (v := 1) rfl rfl ?_
                refine g_goto 83 rfl (by decide) ?_
                refine g_iret (n := 84) rfl (fun h => nomatch h) ?_
                first | exact ⟨o1, rfl, rfl, rfl, ho1⟩ | (exfalso; simp_all; done) | exact ⟨o2, congrArg (fun z => some (Value.int z)) (by unfold vCmp; first | exact (bI_t (by simp only [Int32.lt_iff_toInt_lt, Int32.le_iff_toInt_le] at *; omega)).symm | simp_all [bI, Int32.not_lt, Int32.not_le]), rfl, rfl, ho2⟩
          ·
            refine g_iload_n (n := 52) rfl rfl ?_
            refine g_iload_n (n := 53) rfl rfl ?_
            refine g_icge (n := 56) 82 rfl (by decide) (fun h18 => ?_) (fun h18 => ?_)
            ·
              refine g_iconst (n := 83) (v := 0) rfl rfl ?_
              refine g_iret (n := 84) rfl (fun h => nomatch h) ?_
              first | exact ⟨o1, rfl, rfl, rfl, ho1⟩ | (exfalso; simp_all; done) | exact ⟨o2, congrArg (fun z => some (Value.int z)) (by unfold vCmp; first | exact (bI_t (by simp only [Int32.lt_iff_toInt_lt, Int32.le_iff_toInt_le] at *; omega)).symm | simp_all [bI, Int32.not_lt, Int32.not_le]), rfl, rfl, ho2⟩
            ·
              refine g_goto 78 rfl (by decide) ?_
              refine g_iconst (n := 79) (v := 1) rfl rfl ?_
              refine g_goto 83 rfl (by decide) ?_
              refine g_iret (n := 84) rfl (fun h => nomatch h) ?_
              first | exact ⟨o1, rfl, rfl, rfl, ho1⟩ | (exfalso; simp_all; done) | exact ⟨o2, congrArg (fun z => some (Value.int z)) (by unfold vCmp; first | exact (bI_t (by simp only [Int32.lt_iff_toInt_lt, Int32.le_iff_toInt_le] at *; omega)).symm | simp_all [bI, Int32.not_lt, Int32.not_le]), rfl, rfl, ho2⟩
        ·
          refine g_iload_n (n := 29) rfl rfl ?_
          refine g_iret (n := 30) rfl (fun h => nomatch h) ?_
          first | exact ⟨o1, rfl, rfl, rfl, ho1⟩ | (exfalso; simp_all; done) | exact ⟨o2, congrArg (fun z => some (Value.int z)) (by unfold vCmp; first | exact (bI_t (by simp only [Int32.lt_iff_toInt_lt, Int32.le_iff_toInt_le] at *; omega)).symm | simp_all [bI, Int32.not_lt, Int32.not_le]), rfl, rfl, ho2⟩
  ·
    rw [if_neg hk]
    unfold kCmp at hk
    refine g_istore_n1 (n := 5) rfl rfl ?_
    refine g_aload_n (n := 6) rfl rfl ?_
    refine g_cv0 (n := 9) (t := 149) (ci := 12) rfl (by decide +kernel) (by decide +kernel) (by decide) (by decide) (by decide +kernel) (by rfl) (c_here hp (by omega)) (by omega) (g_E ?_)
    refine g_top hc ?_
    refine g_istore_n2 (n := 10) rfl rfl ?_
    refine g_iload_n (n := 11) rfl rfl ?_
    refine g_bipush (n := 13) (v := 60) rfl rfl ?_
    refine g_iceq (n := 16) 30 rfl (by decide) (fun h19 => ?_) (fun h19 => ?_)
    ·
      refine g_aload_n (n := 31) rfl rfl ?_
      refine g_dupa (n := 32) rfl ?_
      refine g_getv (n := 35) (ci := 12) (j := 6) (v := nI r0.2.1) rfl rfl (by decide +kernel) rfl (by decide) (by decide) ?_
      refine g_iconst (n := 36) (v := 1) rfl rfl ?_
      refine g_iaddN (n := 37) (x := r0.2.1) (y := 1) rfl ?_
      refine g_puti (n := 40) (ci := 12) (j := 6) rfl (by decide +kernel) rfl (by decide) (by decide) (by decide +kernel) rfl ?_
      rw [pW_6]
      refine g_aload_n (n := 41) rfl rfl ?_
      (exfalso; simp_all; done)
    ·
      refine g_iload_n (n := 17) rfl rfl ?_
      refine g_bipush (n := 19) (v := 61) rfl rfl ?_
      refine g_iceq (n := 22) 30 rfl (by decide) (fun h20 => ?_) (fun h20 => ?_)
      ·
        refine g_aload_n (n := 31) rfl rfl ?_
        refine g_dupa (n := 32) rfl ?_
        refine g_getv (n := 35) (ci := 12) (j := 6) (v := nI r0.2.1) rfl rfl (by decide +kernel) rfl (by decide) (by decide) ?_
        refine g_iconst (n := 36) (v := 1) rfl rfl ?_
        refine g_iaddN (n := 37) (x := r0.2.1) (y := 1) rfl ?_
        refine g_puti (n := 40) (ci := 12) (j := 6) rfl (by decide +kernel) rfl (by decide) (by decide) (by decide +kernel) rfl ?_
        rw [pW_6]
        refine g_aload_n (n := 41) rfl rfl ?_
        (exfalso; simp_all; done)
      ·
        refine g_iload_n (n := 23) rfl rfl ?_
        refine g_bipush (n := 25) (v := 62) rfl rfl ?_
        refine g_iceq (n := 28) 30 rfl (by decide) (fun h21 => ?_) (fun h21 => ?_)
        ·
          refine g_aload_n (n := 31) rfl rfl ?_
          refine g_dupa (n := 32) rfl ?_
          refine g_getv (n := 35) (ci := 12) (j := 6) (v := nI r0.2.1) rfl rfl (by decide +kernel) rfl (by decide) (by decide) ?_
          refine g_iconst (n := 36) (v := 1) rfl rfl ?_
          refine g_iaddN (n := 37) (x := r0.2.1) (y := 1) rfl ?_
          refine g_puti (n := 40) (ci := 12) (j := 6) rfl (by decide +kernel) rfl (by decide) (by decide) (by decide +kernel) rfl ?_
          rw [pW_6]
          refine g_aload_n (n := 41) rfl rfl ?_
          (exfalso; simp_all; done)
        ·
          refine g_iload_n (n := 29) rfl rfl ?_
          refine g_iret (n := 30) rfl (fun h => nomatch h) ?_
          first | exact ⟨o1, rfl, rfl, rfl, ho1⟩ | (exfalso; simp_all; done) | exact ⟨o2, congrArg (fun z => some (Value.int z)) (by unfold vCmp; first | exact (bI_t (by simp only [Int32.lt_iff_toInt_lt, Int32.le_iff_toInt_le] at *; omega)).symm | simp_all [bI, Int32.not_lt, Int32.not_le]), rfl, rfl, ho2⟩
