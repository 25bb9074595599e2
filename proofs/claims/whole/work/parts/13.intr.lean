/-! what MINI does itself runs as the JVM's: max, min, arraycopy, Object() -/
theorem mi_w_mx : mi_at 244 (.static Lib.Math.max.name) = true ∧ mi_at 82 (.initialized "java/lang/Math") = true ∧ mi_at 245 (.code Lib.Math.max.name Lib.Math.max.code 2 (some .int)) = true := by decide +kernel
theorem mi_w_mn : mi_at 561 (.static Lib.Math.min.name) = true ∧ mi_at 562 (.code Lib.Math.min.name Lib.Math.min.code 2 (some .int)) = true := by decide +kernel
theorem mi_w_ac : mi_at 737 (.static arraycopyName) = true ∧ mi_at 738 (.native arraycopyName) = true ∧ mi_at 90 (.initialized "java/lang/System") = true := by decide +kernel
theorem mi_w_oi : mi_at 97 (.instanceMethod objectInit) = true ∧ mi_at 98 (.code objectInit ⟨#[0xb1]⟩ 1 none) = true := by decide +kernel
theorem mi_acp_inv {st : List Value} {mem : mi_M} {q : List Value × mi_M} (h : mi_acp st mem = some q) : ∃ n dp a sp a0 r f g, st = .int n :: .int dp :: .ref a :: .int sp :: .ref a0 :: r ∧ mem[a0]? = some (20, f) ∧ mem[a]? = some (20, g) ∧ (0 ≤ n.toInt ∧ 0 ≤ dp.toInt ∧ 0 ≤ sp.toInt ∧ sp.toNatClampNeg + n.toNatClampNeg ≤ f.length ∧ dp.toNatClampNeg + n.toNatClampNeg ≤ g.length ∧ mi_low r = true) ∧ q = (r, mem.set a (20, mi_cpy f g sp.toNatClampNeg dp.toNatClampNeg n.toNatClampNeg)) := by
  unfold mi_acp at h
  split at h
  · obtain ⟨f, hf, h2⟩ := Option.bind_eq_some_iff.mp h
    obtain ⟨g, hg, h3⟩ := Option.bind_eq_some_iff.mp h2
    split at h3
    next hc => cases h3; exact ⟨_, _, _, _, _, _, f, g, rfl, mi_ld_inv hf, mi_ld_inv hg, hc, rfl⟩
    next => cases h3
  · cases h
theorem mi_nneg {z : Int32} (h : 0 ≤ z.toInt) : ¬ z < 0 := fun q => by
  have := Int32.lt_iff_toInt_lt.mp q
  simp at this
  omega
theorem mi_low_ad {ad : Nat → Nat} {r : List Value} (h : mi_low r = true) : ((r.map (mi_v ad)).map fun v => v.category).sum ≤ 8 := mi_low_ok h
section MIN
variable {p : Program} {l : Launch} {e : Env} {R : Room} {s : State} {m : MethodId} {args : Array Value} {below : List Frame} {meth : Method} {c : Code} {H : Heap} {locs : List Loc} {cells slots : Nat} {Q : State → Prop}
variable {pc t n0 m0 s0 d : Nat} {mem : mi_M} {la : Array Slot} {mq : mi_Mt} {sA : Nat → Nat} {sc : List Value} {D : va_G} {aT : Nat → ClassId}
theorem mi_sQs (C : mi_cx p s m args meth c t mq sA n0 sc D aT) (hh : mi_hd sA n0 sc D aT s mem H locs) (hb : m0 ≤ mem.length ∧ s0 ≤ mi_sl mem) (hla : la.size = mq.2.2.1) {k : Nat} {st : List Value} {q : List Value × mi_M} {x : Nat × Nat}
    (hx2 : mi_cqchk ((mq.2.2.2.2.1, k), x) = true) (h : (if x.1 = 1 then mi_mx st mem else if x.1 = 2 then mi_mn st mem else if x.1 = 3 then mi_acp st mem else none) = some q) (hd : decode (mi_bt mq) pc = .ok (.invokestatic k, 3))
    (hRr : d + 1 ≤ R.frames ∧ 64 * (d + 1) ≤ R.locals) (hR : q.2.length - m0 ≤ R.cells ∧ mi_sl q.2 - s0 ≤ R.slots)
    (kk : ∀ (H' : Heap) (locs' : List Loc), mi_hd sA n0 sc D aT s q.2 H' locs' → W p l e R s m args below meth c H' locs' (q.2.length - m0) (mi_sl q.2 - s0) Q (F0 m (pc + 3) la (q.1.map (mi_v (mi_ad sA n0))))) :
    W p l e R s m args below meth c H locs (mem.length - m0) (mi_sl mem - s0) Q (F0 m pc la (st.map (mi_v (mi_ad sA n0)))) := by
  obtain ⟨hmt, hx, hbc, hml, hown, hts, hbad, hK, hn0, hlocks, hini, hret, hout⟩ := C
  obtain ⟨hP, hS, hmi⟩ := id hh
  obtain ⟨-, -, hO, -, -, -⟩ := mi_mt_inv hmt
  have hD : va_D (fun q : Nat => n0 ≤ q) (mi_w (mi_ad sA n0) aT mem) := mi_w_D
  have hin : ∀ w, w ∈ lw_tbl → goodWord w = true → w.before args s = true := fun w a b => hts w (mi_all_of a b)
  unfold mi_cqchk at hx2
  try dsimp only at hx2
  rw [hO] at hx2
  try dsimp only at hx2
  have hloc : 64 ≤ R.locals := by have := hRr.2; omega
  have hfr : 1 ≤ R.frames := by have := hRr.1; omega
  split at h
  next h1 =>
    rw [h1] at hx2
    unfold mi_mx at h
    split at h
    · split at h
      next hl =>
        cases h
        exact va_mmax hx hbc (hml.trans hla.symm) hown (hin _ (mi_at_mem hx2) rfl) (hin _ (mi_at_mem mi_w_mx.1) rfl) (hin _ (mi_at_mem mi_w_mx.2.1) rfl) (hin _ (mi_at_mem mi_w_mx.2.2) rfl) hfr (by have := mi_low_ad (ad := mi_ad sA n0) hl; omega) hR.1 hR.2 hd (kk H locs hh)
      next => cases h
    · cases h
  next =>
    split at h
    next h1 =>
      rw [h1] at hx2
      unfold mi_mn at h
      split at h
      · split at h
        next hl =>
          cases h
          exact va_mmin hx hbc (hml.trans hla.symm) hown (hin _ (mi_at_mem hx2) rfl) (hin _ (mi_at_mem mi_w_mn.1) rfl) (hin _ (mi_at_mem mi_w_mx.2.1) rfl) (hin _ (mi_at_mem mi_w_mn.2) rfl) hfr (by have := mi_low_ad (ad := mi_ad sA n0) hl; omega) hR.1 hR.2 hd (kk H locs hh)
        next => cases h
      · cases h
    next =>
      split at h
      next h1 =>
        rw [h1] at hx2
        obtain ⟨n, dp, a, sp, a0, r, f, g, rfl, hf, hg, ⟨z1, z2, z3, z4, z5, z6⟩, rfl⟩ := mi_acp_inv h
        have h5 := mi_hi hmi.1 hg (by show 20 < 25; decide)
        have h50 := mi_hi hmi.1 hf (by show 20 < 25; decide)
        have he := mi_w_get (ad := mi_ad sA n0) (aT := aT) h5 hg
        have he0 := mi_w_get (ad := mi_ad sA n0) (aT := aT) h50 hf
        rw [mi_e_int] at he he0
        have hal : a < mem.length := (List.getElem?_eq_some_iff.mp hg).1
        have e1 : (mem.set a (20, mi_cpy f g sp.toNatClampNeg dp.toNatClampNeg n.toNatClampNeg)).length = mem.length := List.length_set
        have e2 : mi_sl (mem.set a (20, mi_cpy f g sp.toNatClampNeg dp.toNatClampNeg n.toNatClampNeg)) = mi_sl mem := mi_sl_set hg mi_cpy_len
        try dsimp only at kk hR
        rw [e1, e2] at kk
        refine va_copyi hx hbc (hml.trans hla.symm) hown (hin _ (mi_at_mem hx2) rfl) (hin _ (mi_at_mem mi_w_ac.2.1) rfl) (hin _ (mi_at_mem mi_w_ac.1) rfl) (hin _ (mi_at_mem mi_w_ac.2.2) rfl) hK hP hD hS (a0 - 5) (a - 5) 0 0 he0 he rfl rfl rfl (mi_nneg z3) (mi_nneg z2) (mi_nneg z1) z4 z5 (fun _ _ => rfl) hfr ?_ hd (fun H1 locs1 p1 _ p3 => kk H1 locs1 ⟨?_, p3, mi_inv_set hmi hg (by show 20 < 25; decide) rfl⟩)
        · have h6 := mi_low_ad (ad := mi_ad sA n0) z6
          have h7 : nativeFrameWords "java/lang/System" "arraycopy" 5 ≤ 40 := by decide
          omega
        · rw [mi_w_set h5 hal, mi_e_int, mi_I_cpy z5, mi_cpy_len]
          exact p1
      next => cases h
theorem mi_sQo (C : mi_cx p s m args meth c t mq sA n0 sc D aT) (hh : mi_hd sA n0 sc D aT s mem H locs) (hla : la.size = mq.2.2.1) {k : Nat} {st : List Value} {q : List Value × mi_M} {x : Nat × Nat}
    (hx2 : mi_cqchk ((mq.2.2.2.2.1, k), x) = true) (h4 : x.1 = 4) (h : mi_oi st mem = some q) (hd : decode (mi_bt mq) pc = .ok (.invokespecial k, 3))
    (hRr : d + 1 ≤ R.frames ∧ 64 * (d + 1) ≤ R.locals)
    (kk : ∀ (H' : Heap) (locs' : List Loc), mi_hd sA n0 sc D aT s q.2 H' locs' → W p l e R s m args below meth c H' locs' (q.2.length - m0) (mi_sl q.2 - s0) Q (F0 m (pc + 3) la (q.1.map (mi_v (mi_ad sA n0))))) :
    W p l e R s m args below meth c H locs (mem.length - m0) (mi_sl mem - s0) Q (F0 m pc la (st.map (mi_v (mi_ad sA n0)))) := by
  obtain ⟨hmt, hx, hbc, hml, hown, hts, hbad, hK, hn0, hlocks, hini, hret, hout⟩ := C
  obtain ⟨-, -, hO, -, -, -⟩ := mi_mt_inv hmt
  have hin : ∀ w, w ∈ lw_tbl → goodWord w = true → w.before args s = true := fun w a b => hts w (mi_all_of a b)
  unfold mi_cqchk at hx2
  try dsimp only at hx2
  rw [hO] at hx2
  try dsimp only at hx2
  rw [h4] at hx2
  unfold mi_oi at h
  split at h
  · split at h
    next hl =>
      cases h
      have h6 := mi_low_ad (ad := mi_ad sA n0) hl.1
      refine W.objInit hx hbc hown (hin _ (mi_at_mem hx2) rfl) (hin _ (mi_at_mem mi_w_oi.1) rfl) (hin _ (mi_at_mem mi_w_oi.2) rfl) rfl (hla.trans hml.symm) rfl hd (by have := hRr.1; omega) ?_ (kk H locs hh)
      have h7 := hRr.2
      show 2 * 0 + _ + 12 ≤ _
      omega
    next => cases h
  · cases h
end MIN
