/-! MINI's runs are the JVM's -/
theorem mi_Z_gr {l : Launch} {sA : Nat → Nat} {n0 : Nat} {sc : List Value} {D : va_G} {aT : Nat → ClassId} {d : Nat} {f : mi_F} (hOk : mi_Ok l sA n0 sc D aT d f) {own : Nat} {i : Instr} {st : List Value} {mem : mi_M} {q : List Value × mi_M} (hm : mi_inv sc mem) (h : mi_Z f own i st mem = some q) : mi_gr sc mem q.2 := by
  have hcat : ∀ {t n : Nat} {q : List Value × mi_M}, mi_cat f t n st mem = some q → mi_gr sc mem q.2 := by
    intro t n q hq
    obtain ⟨b, r, x, -, -, -, hx, rfl⟩ := mi_cat_inv hq
    exact (hOk _ _ _ _ _ hx hm).1
  have hsat : ∀ {t n : Nat} {q : List Value × mi_M}, mi_sat f t n st mem = some q → mi_gr sc mem q.2 := by
    intro t n q hq
    obtain ⟨x, -, -, hx, rfl⟩ := mi_sat_inv hq
    exact (hOk _ _ _ _ _ hx hm).1
  unfold mi_Z at h
  split at h
  · unfold mi_Zv at h
    split at h
    · split at h
      · unfold mi_sio at h
        split at h
        · obtain ⟨cs, -, h2⟩ := Option.bind_eq_some_iff.mp h
          split at h2
          · cases h2; exact mi_gr_rf hm
          · cases h2
        · cases h
      · cases h
    · obtain ⟨n, -, h2⟩ := Option.bind_eq_some_iff.mp h
      unfold mi_cvt at h2
      split at h2
      · obtain ⟨c, -, h3⟩ := Option.bind_eq_some_iff.mp h2
        obtain ⟨t, -, h4⟩ := Option.bind_eq_some_iff.mp h3
        exact hcat h4
      · cases h2
  · unfold mi_Zs at h
    split at h
    · split at h
      · unfold mi_mx at h
        split at h
        · split at h
          · cases h; exact mi_gr_rf hm
          · cases h
        · cases h
      · split at h
        · unfold mi_mn at h
          split at h
          · split at h
            · cases h; exact mi_gr_rf hm
            · cases h
          · cases h
        · split at h
          · obtain ⟨n, dp, a, sp, a0, r, f, g, -, -, hg, -, rfl⟩ := mi_acp_inv h
            exact mi_gr_set hm hg (by show 20 < 25; decide) rfl mi_cpy_len
          · cases h
    · split at h
      · exact hsat h
      · obtain ⟨c, -, h2⟩ := Option.bind_eq_some_iff.mp h
        exact hsat h2
  · unfold mi_Zp at h
    split at h
    · split at h
      · unfold mi_oi at h
        split at h
        · split at h
          · cases h; exact mi_gr_rf hm
          · cases h
        · cases h
      · cases h
    · split at h
      · exact hcat h
      · split at h
        · exact hcat h
        · obtain ⟨c, -, h2⟩ := Option.bind_eq_some_iff.mp h
          unfold mi_csu at h2
          split at h2
          · obtain ⟨cc, -, h3⟩ := Option.bind_eq_some_iff.mp h2
            split at h3
            · exact hcat h3
            · cases h3
          · cases h2
  · cases h
theorem mi_one_gr {l : Launch} {sA : Nat → Nat} {n0 : Nat} {sc : List Value} {D : va_G} {aT : Nat → ClassId} {d : Nat} {f : mi_F} (hOk : mi_Ok l sA n0 sc D aT d f) {own pc : Nat} {ini : Bool} {i : Instr} {ls st : List Value} {mem : mi_M} {q : Nat × List Value × List Value × mi_M} (hm : mi_inv sc mem) (h : mi_one f own ini i pc ls st mem = some q) : mi_gr sc mem q.2.2.2 := by
  unfold mi_one at h
  split at h
  · cases h; exact mi_gr_rf hm
  · split at h
    · cases h; exact mi_gr_rf hm
    · split at h
      · cases h; exact mi_gr_rf hm
      · split at h
        next x hx => cases h; exact mi_Y_gr hm hx
        · obtain ⟨x, hx, rfl⟩ := Option.map_eq_some_iff.mp h
          exact mi_Z_gr hOk hm hx
theorem mi_go_gr {l : Launch} {sA : Nat → Nat} {n0 : Nat} {sc : List Value} {D : va_G} {aT : Nat → ClassId} {d : Nat} {f : mi_F} (hOk : mi_Ok l sA n0 sc D aT d f) {own : Nat} {ini rz : Bool} {code : List (Nat × Instr)} : ∀ (n pc : Nat) (ls st : List Value) (mem : mi_M) (q : Option Value × mi_M), mi_inv sc mem → mi_go f own ini rz code n pc ls st mem = some q → mi_gr sc mem q.2 := by
  intro n
  induction n with
  | zero => intro pc ls st mem q _ hq; cases hq
  | succ n ih =>
    intro pc ls st mem q hm hq
    unfold mi_go at hq
    obtain ⟨i, hi, h2⟩ := Option.bind_eq_some_iff.mp hq
    split at h2
    · cases h2; exact mi_gr_rf hm
    · obtain ⟨x, hx, h3⟩ := Option.bind_eq_some_iff.mp h2
      have g1 := mi_one_gr hOk hm hx
      exact mi_gr_tr g1 (ih _ _ _ _ _ g1.2.2 h3)
def mi_wsJ : List Jvm.Cond := Jvm.Cond.code yJ0_indexOf_0f7a4 cJ0_indexOf_0f7a4 2 (some .int) :: mi_all
def mi_txt (i : Nat) : List Value := match i with
  | 0 => []
  | 1 => [.int 108, .int 110, .int 98]
  | _ => [.int 108, .int 107, .int 116]
def mi_preS (ad : Nat → Nat) (n0 : Nat) (U : State) : Prop := mi_so ad (fun q : Nat => n0 ≤ q) U U.heap ∧ va_Z "java/lang/String" "COMPACT_STRINGS" "Z" (.int 1) (fun q : Nat => n0 ≤ q) U U.heap
/-- indexOf of the three texts -/
def mi_StrOk (l : Launch) (ad : Nat → Nat) (n0 : Nat) : Prop := ∀ (i : Nat) (c : Int32), i < 3 → Met l yJ0_indexOf_0f7a4 mi_wsJ (mi_rm 3 0 0) (va_Pc [.ref (ad (i + 1)), .int c] (mi_preS ad n0)) (vp_Si (fun r => r = mi_ixo c (mi_txt i) 0)) 0 0 (fun _ => False)
theorem mi_w_io : mi_at 615 (.instanceMethod yJ0_indexOf_0f7a4) = true ∧ mi_at 616 (.selects RJ0 yJ0_indexOf_0f7a4 yJ0_indexOf_0f7a4) = true ∧ mi_at 85 (.initialized RJ0) = true ∧ True := by decide +kernel
theorem mi_w_ioc : Jvm.Cond.code yJ0_indexOf_0f7a4 cJ0_indexOf_0f7a4 2 (some .int) ∈ lw_tbl := mi_at_mem (pl := 617) (by decide +kernel)
theorem mi_low31 {sc : List Value} {mem : mi_M} {a : Nat} {cs : List Value} (h : mi_inv sc mem) (hc : mem[a]? = some (31, cs)) : ∃ i, i < 3 ∧ a = i + 1 ∧ cs = mi_txt i := by
  have ha : a < 5 := Nat.not_le.mp fun z => by
    have h1 := h.2 a _ z hc
    simp at h1
  have h1 := mi_lo h.1 ha
  rw [hc] at h1
  rcases (by omega : a = 0 ∨ a = 1 ∨ a = 2 ∨ a = 3 ∨ a = 4) with rfl | rfl | rfl | rfl | rfl
  · simp [mi_spec] at h1
  · exact ⟨0, by omega, rfl, by simpa [mi_spec, mi_txt] using h1⟩
  · exact ⟨1, by omega, rfl, by simpa [mi_spec, mi_txt] using h1⟩
  · exact ⟨2, by omega, rfl, by simpa [mi_spec, mi_txt] using h1⟩
  · simp [mi_spec] at h1
/-- what leaves fits the method's type -/
theorem mi_rets : mi_mt.all (fun q => q.2.2.2.2.2.2.all (fun e => match e.2 with
  | .ireturn => decide (q.2.2.2.1 ≠ none)
  | .return_ => decide (q.2.2.2.1 = none)
  | _ => true)) = true := by decide +kernel
section MIG
variable {p : Program} {l : Launch} {e : Env} {R : Room} {s : State} {m : MethodId} {args : Array Value} {below : List Frame} {meth : Method} {c : Code} {H : Heap} {locs : List Loc} {cells slots : Nat} {Q : State → Prop}
variable {pc t n0 m0 s0 d : Nat} {mem : mi_M} {la : Array Slot} {mq : mi_Mt} {sA : Nat → Nat} {sc : List Value} {D : va_G} {aT : Nat → ClassId}
theorem mi_sQi (C : mi_cx p s m args meth c t mq sA n0 sc D aT) (hh : mi_hd sA n0 sc D aT s mem H locs) (hla : la.size = mq.2.2.1) (hstr : mi_StrOk l (mi_ad sA n0) n0) {k : Nat} {st : List Value} {q : List Value × mi_M} {x : Nat × Nat}
    (hx2 : mi_cqchk ((mq.2.2.2.2.1, k), x) = true) (h5 : x.1 = 5) (h : mi_sio st mem = some q) (hd : decode (mi_bt mq) pc = .ok (.invokevirtual k, 3))
    (hRr : 5 ≤ R.frames ∧ 64 * 5 ≤ R.locals) (hR : q.2.length - m0 ≤ R.cells ∧ mi_sl q.2 - s0 ≤ R.slots)
    (kk : ∀ (H' : Heap) (locs' : List Loc), mi_hd sA n0 sc D aT s q.2 H' locs' → W p l e R s m args below meth c H' locs' (q.2.length - m0) (mi_sl q.2 - s0) Q (F0 m (pc + 3) la (q.1.map (mi_v (mi_ad sA n0))))) :
    W p l e R s m args below meth c H locs (mem.length - m0) (mi_sl mem - s0) Q (F0 m pc la (st.map (mi_v (mi_ad sA n0)))) := by
  obtain ⟨hmt, hx, hbc, hml, hown, hts, hbad, hK, hn0, hlocks, hini, hret, hout⟩ := C
  obtain ⟨hP, hS, hmi⟩ := id hh
  obtain ⟨-, -, hO, -, -, -⟩ := mi_mt_inv hmt
  unfold mi_cqchk at hx2
  try dsimp only at hx2
  rw [hO] at hx2
  try dsimp only at hx2
  rw [h5] at hx2
  unfold mi_sio at h
  split at h
  · next cv a r =>
    obtain ⟨cs, hcs, h2⟩ := Option.bind_eq_some_iff.mp h
    split at h2
    next hl =>
      cases h2
      obtain ⟨i, hi, rfl, rfl⟩ := mi_low31 hmi (mi_ld_inv hcs)
      obtain ⟨adV, hE⟩ := hout.2.2.2.2.2.2.1
      have hcw := cwV (R := R) (s := s) (args := args) 1 hts (own := mq.1.cls) (index := k) (C := RJ0) (y := yJ0_indexOf_0f7a4) (bytes := cJ0_indexOf_0f7a4) (maxL := 2) (ret := some .int) (ws := mi_wsJ) (ws' := mi_all) (rm := mi_rm 3 0 0) (mc := 0) (ms := 0) (mi_goodIn (by
        intro z hz
        unfold wsV at hz
        rcases List.mem_append.mp hz with hz | hz
        · simp only [List.mem_cons, List.not_mem_nil, or_false] at hz
          rcases hz with rfl | rfl | rfl | rfl
          · exact mi_all_of (mi_at_mem hx2) rfl
          · exact mi_all_of (mi_at_mem mi_w_io.1) rfl
          · exact mi_all_of (mi_at_mem mi_w_io.2.1) rfl
          · exact mi_all_of (mi_at_mem mi_w_io.2.2.1) rfl
        · rcases List.mem_cons.mp hz with rfl | hz
          · exact mi_all_of mi_w_ioc rfl
          · exact hz)) rfl rfl rfl ⟨rfl, by decide +kernel, by decide +kernel, by decide +kernel⟩ ⟨Nat.le_trans (by decide) hRr.1, by show 8 + (2 + 11) + 64 * 3 ≤ R.locals; have := hRr.2; omega⟩
      have hrun := va_runV (l := l) (p := p) (e := e) (below := below) (meth := meth) (H := H) (locs := locs) (cells := mem.length - m0) (slots := mi_sl mem - s0) (g := F0 m pc la ((Value.int cv :: .ref (i + 1) :: r).map (mi_v (mi_ad sA n0)))) (b := mi_ad sA n0 (i + 1)) (As := [.int cv]) (rest := r.map (mi_v (mi_ad sA n0))) (⟨hx, hbc, hml, hown, hts⟩ : CallFix p m c (mi_bt mq) mq.2.2.1 s args mi_all mq.1.cls) (hstr i cv hi) hcw
        ⟨fun a U g mk z => ⟨z.1, z.2⟩, vk_recv (adK := fun i => mi_ad sA n0 (i + 1)) (i := i) hE hi hS, fun U hU hW => ⟨rfl, ⟨adV, by rw [hU]; exact (hE.moved hW.alike).kept hS.2.1⟩, by rw [hU]; exact (hout.2.2.2.2.2.2.2.moved hW.alike).kept hS.2.1⟩⟩ rfl rfl hla rfl (lv_room (mi_low_ok hl)) hd ⟨hR.1, hR.2⟩
      intro T hT X
      obtain ⟨v, st₀, t, T', L, h0, X', hL, e1, e2, ⟨r0, hv, hr0, hh1⟩, stp⟩ := hrun T hT X
      cases hv
      subst hr0
      have hl0 : L = [] := by
        cases L with
        | nil => rfl
        | cons y L => exact (hL y List.mem_cons_self).elim
      subst hl0
      rw [List.append_nil] at X'
      obtain ⟨t2, a1, b1⟩ := kk H locs hh T' (by rw [e1, hh1, h0]) X'
      exact ⟨t2, stp t2 a1, b1⟩
    next => cases h2
  · cases h
theorem mi_sZ {f : mi_F} (C : mi_cx p s m args meth c t mq sA n0 sc D aT) (hh : mi_hd sA n0 sc D aT s mem H locs) (hm0 : 5 ≤ m0 ∧ s.heap.size = n0 + (m0 - 5)) (hb : m0 ≤ mem.length ∧ s0 ≤ mi_sl mem) (hla : la.size = mq.2.2.1) (hOk : mi_Ok l sA n0 sc D aT d f) (hdep : (f 1000 [] []).isSome = true → 4 ≤ d) (hstr : mi_StrOk l (mi_ad sA n0) n0) {i : Instr} {st : List Value} {q : List Value × mi_M}
    (h : mi_Z f mq.2.2.2.2.1 i st mem = some q) (hd : decode (mi_bt mq) pc = .ok (i, 3))
    (hRr : d + 1 ≤ R.frames ∧ 64 * (d + 1) ≤ R.locals) (hR : q.2.length - m0 ≤ R.cells ∧ mi_sl q.2 - s0 ≤ R.slots)
    (kk : ∀ (H' : Heap) (locs' : List Loc), mi_hd sA n0 sc D aT s q.2 H' locs' → W p l e R s m args below meth c H' locs' (q.2.length - m0) (mi_sl q.2 - s0) Q (F0 m (pc + 3) la (q.1.map (mi_v (mi_ad sA n0))))) :
    W p l e R s m args below meth c H locs (mem.length - m0) (mi_sl mem - s0) Q (F0 m pc la (st.map (mi_v (mi_ad sA n0)))) := by
  unfold mi_Z at h
  split at h
  · unfold mi_Zv at h
    split at h
    next x hx2 =>
      split at h
      next h5 =>
        have hx3 := List.all_eq_true.mp mi_cq_ok _ (mi_look hx2)
        have hd4 := hdep h5.2
        exact mi_sQi C hh hla hstr hx3 h5.1 h hd (by omega) hR kk
      · cases h
    next =>
      obtain ⟨n, hn, h2⟩ := Option.bind_eq_some_iff.mp h
      unfold mi_cvt at h2
      split at h2
      next b hst =>
        obtain ⟨cc, hcc, h3⟩ := Option.bind_eq_some_iff.mp h2
        obtain ⟨t', ht', h4⟩ := Option.bind_eq_some_iff.mp h3
        exact mi_sV (fs := cc.2) (ci := cc.1) C hh hm0 hb hla hOk hn hst hcc ht' h4 hd hRr hR kk
      · cases h2
  · unfold mi_Zs at h
    split at h
    next x hx2 => exact mi_sQs C hh hb hla (List.all_eq_true.mp mi_cq_ok _ (mi_look hx2)) h hd hRr hR kk
    next =>
      split at h
      next x hx2 => exact mi_sS C hh hm0 hb hla hOk (List.all_eq_true.mp mi_cs_ok _ (mi_look hx2)) h hd hRr hR kk
      next =>
        obtain ⟨x, hx2, h2⟩ := Option.bind_eq_some_iff.mp h
        exact mi_sS C hh hm0 hb hla hOk (List.all_eq_true.mp mi_cn_ok _ (mi_look hx2)) h2 hd hRr hR kk
  · unfold mi_Zp at h
    split at h
    next x hx2 =>
      split at h
      next h4 => exact mi_sQo C hh hla (List.all_eq_true.mp mi_cq_ok _ (mi_look hx2)) h4 h hd hRr kk
      · cases h
    next =>
      split at h
      next x hx2 => exact mi_sI C hh hm0 hb hla hOk (List.all_eq_true.mp mi_ci_ok _ (mi_look hx2)) h hd hRr hR kk
      next =>
        split at h
        next x hx2 => exact mi_sI C hh hm0 hb hla hOk (List.all_eq_true.mp mi_cj_ok _ (mi_look hx2)) h hd hRr hR kk
        next =>
          obtain ⟨x, hx2, h2⟩ := Option.bind_eq_some_iff.mp h
          unfold mi_csu at h2
          split at h2
          next b hst =>
            obtain ⟨cc, hcc, h3⟩ := Option.bind_eq_some_iff.mp h2
            split at h3
            next h13 =>
              refine mi_sU (ci := cc.1) (fs := cc.2) C hh hm0 hb hla hOk (List.all_eq_true.mp mi_cz_ok _ (mi_look hx2)) h3 hd (fun b' hb' => ?_) hRr hR kk
              rw [hst] at hb'
              cases hb'
              exact ⟨cc.1, cc.2, hcc, h13⟩
            · cases h3
          · cases h2
  · cases h
/-- a method's run, from any of its places, to the place where it leaves -/
theorem mi_go_sound {f : mi_F} (C : mi_cx p s m args meth c t mq sA n0 sc D aT) (hm0 : 5 ≤ m0 ∧ s.heap.size = n0 + (m0 - 5)) (hOk : mi_Ok l sA n0 sc D aT d f) (hdep : (f 1000 [] []).isSome = true → 4 ≤ d) (hstr : mi_StrOk l (mi_ad sA n0) n0) {rz : Bool} {r : Option Value} {mem' : mi_M}
    (hRr : d + 1 ≤ R.frames ∧ 64 * (d + 1) ≤ R.locals) (hR : mem'.length - m0 ≤ R.cells ∧ mi_sl mem' - s0 ≤ R.slots)
    (hend : ∀ (H : Heap) (locs : List Loc) (la : Array Slot) (pc : Nat) (i : Instr) (st : List Value), mi_ret rz i st = some r → mq.2.2.2.2.2.2.lookup pc = some i → decode (mi_bt mq) pc = .ok (i, 1) → mi_hd sA n0 sc D aT s mem' H locs → W p l e R s m args below meth c H locs (mem'.length - m0) (mi_sl mem' - s0) Q (F0 m pc la (st.map (mi_v (mi_ad sA n0))))) :
    ∀ (n pc : Nat) (ls st : List Value) (mem : mi_M) (H : Heap) (locs : List Loc) (la : Array Slot), mi_go f mq.2.2.2.2.1 (mi_ii.contains t) rz mq.2.2.2.2.2.2 n pc ls st mem = some (r, mem') → mi_has (mi_ad sA n0) mq.2.2.1 la ls → mi_hd sA n0 sc D aT s mem H locs → m0 ≤ mem.length ∧ s0 ≤ mi_sl mem →
      W p l e R s m args below meth c H locs (mem.length - m0) (mi_sl mem - s0) Q (F0 m pc la (st.map (mi_v (mi_ad sA n0)))) := by
  intro n
  induction n with
  | zero => intro pc ls st mem H locs la hq; cases hq
  | succ n ih =>
    intro pc ls st mem H locs la hq hla hh hb
    have hq0 := hq
    unfold mi_go at hq
    obtain ⟨i, hi, h2⟩ := Option.bind_eq_some_iff.mp hq
    obtain ⟨len, hd, hlen⟩ := mi_dec_inv C.1 hi
    obtain ⟨-, hx, hbc, hrest⟩ := id C
    split at h2
    next rr hrr =>
      cases h2
      have h1 : decode (mi_bt mq) pc = .ok (i, 1) := by
        have hl1 : mi_len i = 1 := by
          unfold mi_ret at hrr
          split at hrr
          · rfl
          · rfl
          · cases hrr
        rcases hlen with hz | hz
        · omega
        · rw [← hz, hl1] at hd; exact hd
      exact hend H locs la pc i st hrr hi h1 hh
    next =>
      obtain ⟨q, hq1, h3⟩ := Option.bind_eq_some_iff.mp h2
      have g1 := mi_one_gr hOk hh.2.2 hq1
      have g2 := mi_go_gr hOk _ _ _ _ _ _ g1.2.2 h3
      dsimp only at g2
      have e1 := g1.1
      have e2 := g1.2.1
      have e3 := g2.1
      have e4 := g2.2.1
      have hbq : m0 ≤ q.2.2.2.length ∧ s0 ≤ mi_sl q.2.2.2 := by omega
      have hRq : q.2.2.2.length - m0 ≤ R.cells ∧ mi_sl q.2.2.2 - s0 ≤ R.slots := by omega
      have hdl : mi_len i ≠ 0 → decode (mi_bt mq) pc = .ok (i, mi_len i) := by
        intro hz
        rw [hlen.resolve_left hz]
        exact hd
      unfold mi_one at hq1
      split at hq1
      next st' hst' =>
        cases hq1
        refine mi_sA hx hbc hst' (hdl ?_) (ih _ _ _ _ _ _ _ h3 hla hh hb)
        intro hz
        unfold mi_A at hst'
        split at hst' <;> first | (cases hz; done) | cases hst'
      next =>
        split at hq1
        next q' hq' =>
          cases hq1
          exact mi_sB hx hbc hq' hd hlen (ih _ _ _ _ _ _ _ h3 hla hh hb)
        next =>
          split at hq1
          next q' hq' =>
            cases hq1
            refine mi_sL hx hbc hla hq' (hdl ?_) (fun la' hla' => ih _ _ _ _ _ _ _ h3 hla' hh hb)
            intro hz
            unfold mi_L at hq'
            split at hq' <;> first | (cases hz; done) | cases hq'
          next =>
            split at hq1
            next q' hq' =>
              cases hq1
              refine mi_sY C hh hm0 hb hq' (hdl ?_) hRq (fun H' locs' hh' => ih _ _ _ _ _ _ _ h3 hla hh' hbq)
              intro hz
              unfold mi_Y at hq'
              split at hq' <;> first | (cases hz; done) | cases hq'
            next =>
              obtain ⟨q', hq', rfl⟩ := Option.map_eq_some_iff.mp hq1
              have h33 : mi_len i = 3 := by
                unfold mi_Z at hq'
                split at hq' <;> first | rfl | cases hq'
              have hd3 := hdl (by omega)
              rw [h33] at hd3
              exact mi_sZ C hh hm0 hb hla.2.1 hOk hdep hstr hq' hd3 hRr hRq (fun H' locs' hh' => ih _ _ _ _ _ _ _ h3 hla hh' hbq)
end MIG
/-! entries -/
theorem mi_args_sl {ad : Nat → Nat} : ∀ as : List Value, (lg_sl (as.map (mi_v ad))).length = (mi_args as).length := by
  intro as
  induction as with
  | nil => rfl
  | cons v as ih =>
    unfold lg_sl at ih ⊢
    have e : mi_args (v :: as) = if v.category = 2 then v :: .null :: mi_args as else v :: mi_args as := rfl
    rw [List.map_cons, List.flatMap_cons, List.length_append, ih, e, mi_v_cat]
    split
    · simp only [List.length_cons, List.length_nil]; omega
    · simp only [List.length_cons, List.length_nil]; omega
theorem mi_args_mem {ad : Nat → Nat} : ∀ (as : List Value) (i k : Nat) (v : Value), (mi_args as)[k]? = some v → v ≠ .null → (k + i, mi_v ad v) ∈ lv_args i (as.map (mi_v ad)) := by
  intro as
  induction as with
  | nil => intro i k v h _; simp [mi_args] at h
  | cons w as ih =>
    intro i k v h hn
    unfold mi_args at h
    rw [List.map_cons]
    unfold lv_args
    rw [mi_v_cat]
    split at h
    next hc =>
      rw [if_pos hc]
      match k, h with
      | 0, h => cases h; rw [Nat.zero_add]; exact List.mem_cons_self
      | 1, h => cases h; exact absurd rfl hn
      | k + 2, h =>
        have h1 := ih (i + 2) k v h hn
        rw [show k + 2 + i = k + (i + 2) by omega]
        exact List.mem_cons_of_mem _ h1
    next hc =>
      rw [if_neg hc]
      match k, h with
      | 0, h => cases h; rw [Nat.zero_add]; exact List.mem_cons_self
      | k + 1, h =>
        have h1 := ih (i + 1) k v h hn
        rw [show k + 1 + i = k + (i + 1) by omega]
        exact List.mem_cons_of_mem _ h1
theorem mi_entry {ad : Nat → Nat} {as : List Value} {n : Nat} (h : (mi_args as).length ≤ n) : mi_has ad n ((lg_sl (as.map (mi_v ad)) ++ List.replicate (n - (lg_sl (as.map (mi_v ad))).length) Slot.unset).toArray) (mi_ent as n) := by
  have h0 := lv_entry (as.map (mi_v ad)) (n := n) (by rw [mi_args_sl]; exact h)
  refine ⟨by unfold mi_ent; rw [List.length_append, List.length_replicate]; omega, h0.1, h0.2.1, fun q hq => h0.2.2 q ?_⟩
  obtain ⟨v, hv, hn, h2⟩ := mi_lv_mem.mp hq
  obtain ⟨k, z⟩ := q
  unfold mi_ent at hv
  by_cases hk : k < (mi_args as).length
  · rw [List.getElem?_append_left hk] at hv
    have h1 := mi_args_mem (ad := ad) as 0 k v hv hn
    rw [Nat.add_zero] at h1
    rw [show z = mi_v ad v from h2]
    exact h1
  · rw [List.getElem?_append_right (by omega)] at hv
    exact absurd (List.eq_of_mem_replicate (List.mem_of_getElem? hv)) hn
set_option maxHeartbeats 4000000 in
/-- every run of Mini's is a contract -/
theorem mi_run_ok {l : Launch} {sA : Nat → Nat} {n0 : Nat} {sc : List Value} {D : va_G} {aT : Nat → ClassId} (hstr : mi_StrOk l (mi_ad sA n0) n0) (N : Nat) : ∀ d, mi_Ok l sA n0 sc D aT d (mi_run N d) := by
  intro d
  induction d with
  | zero => intro t as mem r mem' h _; cases h
  | succ d ih =>
    intro t as mem r mem' h hm
    have hdep : (mi_run N d 1000 [] []).isSome = true → 4 ≤ d := by
      intro hs
      cases d with
      | zero => cases hs
      | succ d =>
        simp only [mi_run, if_true] at hs
        split at hs
        · omega
        · cases hs
    simp only [mi_run] at h
    split at h
    next ht =>
      split at h
      · cases h
        refine ⟨mi_gr_rf hm, fun q hq => ?_⟩
        rw [ht] at hq
        rw [show mi_mt[1000]? = none by decide +kernel] at hq
        cases hq
      · cases h
    next ht =>
      obtain ⟨mq, hmq, h2⟩ := Option.bind_eq_some_iff.mp h
      split at h2
      · cases h2
      next hfit =>
        refine ⟨mi_go_gr ih _ _ _ _ _ _ hm h2, fun q hq hpl => ?_⟩
        obtain rfl : mq = q := Option.some.inj (hmq.symm.trans hq)
        obtain ⟨hplain, h40, hO, hrt, hcode, hinm⟩ := mi_mt_inv hmq
        refine Met.ofW (cc := mi_bt mq) (maxL := mq.2.2.1) (ret := mq.2.2.2.1) hplain rfl ?_
        intro p e s m args below meth c s₁ B hml hv
        obtain ⟨rfl, hsz, hP, hK, hbad, hout⟩ := hv
        have hts0 := atoms_spec (ws := mi_ws mq) B.pre
        have hn0 : n0 ≤ s.heap.size := by omega
        have C : mi_cx p s m (as.map (mi_v (mi_ad sA n0))).toArray meth c t mq sA n0 sc D aT := ⟨hmq, B.exec, B.bytes, hml, findClass_of_methodNamed B.named, fun w hw => hts0 w (List.mem_cons_of_mem _ hw), hbad, hK, hn0, B.notSynchronized, fun hi => (name_of_methodNamed B.named B.method).1.trans (hinm hi), B.returns, hout⟩
        have hlocks := B.notSynchronized
        have hh : mi_hd sA n0 sc D aT s mem s.heap [] := ⟨hP, va_S.rf, hm⟩
        have hlen5 := mi_len5 hm.1
        rw [lg_entry_eq]
        have hgo := mi_go_sound (R := mi_rm (d + 1) (mem'.length - mem.length) (mi_sl mem' - mi_sl mem)) (l := l) (e := e) (below := below) (Q := MQ below (mi_post sA n0 D aT r mem') (as.map (mi_v (mi_ad sA n0))).toArray s (mem'.length - mem.length) (mi_sl mem' - mi_sl mem) (fun q : Nat => n0 ≤ q)) (m0 := mem.length) (s0 := mi_sl mem) (r := r) (mem' := mem') (rz := decide (mq.2.2.2.1 = some .boolean)) C ⟨hlen5, hsz⟩ ih hdep hstr ⟨Nat.le_refl _, Nat.le_refl _⟩ ⟨Nat.le_refl _, Nat.le_refl _⟩ (by
          intro H locs la pc i st hrr hi hd hh'
          have hret := B.returns
          have hx := B.exec
          have hbc := B.bytes
          have hkind := List.all_eq_true.mp (List.all_eq_true.mp mi_rets mq (List.mem_of_getElem? hmq)) _ (mi_look hi)
          unfold mi_ret at hrr
          split at hrr
          · split at hrr
            next v =>
              split at hrr
              next hz =>
                cases hrr
                have hne : mq.2.2.2.1 ≠ none := of_decide_eq_true hkind
                rcases hrt with hrt | hrt | hrt
                · exact absurd hrt hne
                · rw [hrt] at hret
                  exact W.iret (v := v) hx hbc hret (fun t ht hW => ⟨⟨rfl, by rw [ht]; exact hh'.1⟩, hh'.2.1.F ht⟩) hh'.2.1.2.2 hd
                · rw [hrt] at hret
                  have hv := hz (by rw [hrt]; rfl)
                  exact W.zret (v := v) hx hbc hret (by rcases hv with rfl | rfl <;> rfl) (fun t ht hW => ⟨⟨rfl, by rw [ht]; exact hh'.1⟩, hh'.2.1.F ht⟩) hh'.2.1.2.2 hd
              · cases hrr
            · cases hrr
          · split at hrr
            · cases hrr
              have hne : mq.2.2.2.1 = none := of_decide_eq_true hkind
              rw [hne] at hret
              exact W.vret hx hbc hret (fun t ht hW => ⟨⟨rfl, by rw [ht]; exact hh'.1⟩, hh'.2.1.F ht⟩) hh'.2.1.2.2 hd
            · cases hrr
          · cases hrr) N 0 (mi_ent as mq.2.2.1) [] mem s.heap [] _ h2 (mi_entry (by omega)) hh ⟨Nat.le_refl _, Nat.le_refl _⟩
        rw [Nat.sub_self, Nat.sub_self] at hgo
        exact hgo
