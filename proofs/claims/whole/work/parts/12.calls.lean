/-! MINI's calls run as the JVM's -/
def mi_ws (q : mi_Mt) : List Jvm.Cond := Jvm.Cond.code q.1 (mi_bt q) q.2.2.1 q.2.2.2.1 :: mi_all
theorem mi_cvvp : mi_cv.all (fun q => decide (mi_vp.lookup (q.1.1, q.1.2.1) = some q.2.2.1)) = true := by decide +kernel
theorem mi_cuvp : mi_cu.all (fun q => decide (mi_vp.lookup (q.1.1, q.1.2.1) = some q.2.2.1)) = true := by decide +kernel
def mi_rm (d mc ms : Nat) : Room := { frames := d, cells := mc, slots := ms, locals := 64 * d }
theorem mi_goodIn {ws : List Jvm.Cond} (h : ∀ w ∈ ws, w ∈ mi_all) : GoodIn mi_all ws := fun w hw => ⟨h w hw, good_of_word (List.mem_filter.mp (h w hw)).2⟩
theorem mi_ws_in {t : Nat} {q : mi_Mt} (h : mi_mt[t]? = some q) (hp : q.2.2.2.2.2.1 ≠ 99999) : ∀ w ∈ mi_ws q, w ∈ mi_all := by
  intro w hw
  rcases List.mem_cons.mp hw with rfl | hw
  · exact mi_all_of ((mi_mt_inv h).2.2.2.2.1 hp) rfl
  · exact hw
def mi_pre (sA : Nat → Nat) (n0 : Nat) (sc : List Value) (D : va_G) (aT : Nat → ClassId) (mem : mi_M) (U : State) : Prop :=
  U.heap.size = n0 + (mem.length - 5) ∧ va_P D mi_cl (mi_w (mi_ad sA n0) aT mem) U.heap ∧ va_K D mi_cl (mi_tys aT) U ∧ (∀ w ∈ mi_bad, va_Nw w U) ∧ mi_out (mi_ad sA n0) n0 sc U U.heap
def mi_post (sA : Nat → Nat) (n0 : Nat) (D : va_G) (aT : Nat → ClassId) (r : Option Value) (mem : mi_M) : Array Value → State → Outcome → State → Prop := fun _ st o t =>
  (o = .returned (r.map (mi_v (mi_ad sA n0))) ∧ va_P D mi_cl (mi_w (mi_ad sA n0) aT mem) t.heap) ∧ va_F (fun q : Nat => n0 ≤ q) st t
theorem mi_out_moved {ad : Nat → Nat} {n0 : Nat} {sc : List Value} {s U : State} {H : Heap} {locs : List Loc} (hW : s.WarmedH U.vm) (hU : U.heap = H) (hS : va_S (fun q : Nat => n0 ≤ q) s.heap H locs) (hn : n0 ≤ s.heap.size) (h : mi_out ad n0 sc s s.heap) : mi_out ad n0 sc U U.heap := by
  obtain ⟨⟨h1, h1b⟩, h2, h3, h4, h5, h6, ⟨adV, h7⟩, h8⟩ := h
  subst hU
  have hk : ∀ a : Nat, a < s.heap.size → ¬ n0 ≤ a → U.heap[a]? = s.heap[a]? := hS.2.1
  exact ⟨⟨va_X.kept (h1.moved hW.alike) (hk _ (by omega) (by omega)), h1b⟩, (h2.moved hW.alike).kept hk, (h3.moved hW.alike).kept hk, h4.warm hW, h5.warm hW, h6.warm hW, ⟨adV, (h7.moved hW.alike).kept hk⟩, (h8.moved hW.alike).kept hk⟩
theorem mi_blind {sA : Nat → Nat} {n0 : Nat} {sc : List Value} {D : va_G} {aT : Nat → ClassId} {mem : mi_M} {av : List Value} : FrameBlind (va_Pc av (mi_pre sA n0 sc D aT mem)) := by
  intro a U g mk h
  obtain ⟨h0, h1, h2, h3, h4, h5⟩ := h
  have hW : U.WarmedH (U.calling g mk a).vm := State.WarmedH.refl U
  exact ⟨h0, h1, h2, va_K.moved (u := U) (U := U.calling g mk a) (Vm.Alike.refl U.vm) h3, mi_bad_warm hW h4, mi_out_moved (s := U) (U := U.calling g mk a) (locs := []) hW rfl va_S.rf (by omega) h5⟩
section MIC
variable {p : Program} {l : Launch} {e : Env} {R : Room} {s : State} {m : MethodId} {args : Array Value} {below : List Frame} {meth : Method} {c : Code} {H : Heap} {locs : List Loc} {cells slots : Nat} {Q : State → Prop}
variable {pc t n0 m0 s0 d : Nat} {mem : mi_M} {la : Array Slot} {mq : mi_Mt} {sA : Nat → Nat} {sc : List Value} {D : va_G} {aT : Nat → ClassId}
theorem mi_after {mc ms : Nat} {st0 rest : List Value} {As : Array Value} {r : Option Value} {mem' : mi_M} (hr : va_Run p l e R s m args below meth c H locs cells slots mc ms (F0 m pc la st0) rest (mi_post sA n0 D aT r mem' As) (fun q : Nat => n0 ≤ q)) (hS : va_S (fun q : Nat => n0 ≤ q) s.heap H locs)
    (kk : ∀ (H1 : Heap) (locs1 : List Loc), va_P D mi_cl (mi_w (mi_ad sA n0) aT mem') H1 → va_S (fun q : Nat => n0 ≤ q) s.heap H1 locs1 → W p l e R s m args below meth c H1 locs1 (cells + mc) (slots + ms) Q (F0 m (pc + 3) la ((r.map (mi_v (mi_ad sA n0))).toList ++ rest))) : W p l e R s m args below meth c H locs cells slots Q (F0 m pc la st0) := by
  intro T hT X
  obtain ⟨v, st₀, t, T', L, h0, X', hL, e1, e2, ⟨⟨hv, hp⟩, hz, hk⟩, st⟩ := hr T hT X
  cases hv
  rw [h0] at hz hk
  obtain ⟨t2, a1, b1⟩ := kk T'.heap (locs ++ L) (by rw [e1]; exact hp)
    ⟨Nat.le_trans hS.1 (by rw [e1]; exact hz), fun q h1 h2 => by rw [e1, hk q (Nat.lt_of_lt_of_le h1 hS.1) h2]; exact hS.2.1 q h1 h2, fun q hq => by
      rcases List.mem_append.mp hq with h | h
      · exact hS.2.2 q h
      · exact hL q h⟩ T' rfl X'
  exact ⟨t2, st t2 a1, b1⟩
theorem mi_low_ok {ad : Nat → Nat} {r : List Value} (h : mi_low r = true) : ((r.map (mi_v ad)).map fun v => v.category).sum ≤ 8 := by
  have h1 := of_decide_eq_true h
  rw [List.map_map]
  have e : ((fun v : Value => v.category) ∘ mi_v ad) = fun v => v.category := by funext v; exact mi_v_cat ad v
  rw [e]
  exact h1
/-- what a callee is known to do -/
def mi_Ok (l : Launch) (sA : Nat → Nat) (n0 : Nat) (sc : List Value) (D : va_G) (aT : Nat → ClassId) (d : Nat) (f : mi_F) : Prop :=
  ∀ (t : Nat) (as : List Value) (mem : mi_M) (r : Option Value) (mem' : mi_M), f t as mem = some (r, mem') → mi_inv sc mem → mi_gr sc mem mem' ∧ ∀ q : mi_Mt, mi_mt[t]? = some q → q.2.2.2.2.2.1 ≠ 99999 →
    Met l q.1 (mi_ws q) (mi_rm d (mem'.length - mem.length) (mi_sl mem' - mi_sl mem)) (va_Pc (as.map (mi_v (mi_ad sA n0))) (mi_pre sA n0 sc D aT mem)) (mi_post sA n0 D aT r mem') (mem'.length - mem.length) (mi_sl mem' - mi_sl mem) (fun q : Nat => n0 ≤ q)
theorem mi_cat_inv {f : mi_F} {t n : Nat} {st : List Value} {mem : mi_M} {q : List Value × mi_M} (h : mi_cat f t n st mem = some q) : ∃ b r x, st = st.take n ++ .ref b :: r ∧ mi_low r = true ∧ (st.take n).length = n ∧ f t (.ref b :: (st.take n).reverse) mem = some x ∧ q = (x.1.toList ++ r, x.2) := by
  unfold mi_cat at h
  split at h
  next b r hb =>
    split at h
    next hc =>
      obtain ⟨x, hx, rfl⟩ := Option.map_eq_some_iff.mp h
      exact ⟨b, r, x, by rw [← hb, List.take_append_drop], hc.1, hc.2, hx, rfl⟩
    next => cases h
  next => cases h
theorem mi_sat_inv {f : mi_F} {t n : Nat} {st : List Value} {mem : mi_M} {q : List Value × mi_M} (h : mi_sat f t n st mem = some q) : ∃ x, mi_low (st.drop n) = true ∧ (st.take n).length = n ∧ f t (st.take n).reverse mem = some x ∧ q = (x.1.toList ++ st.drop n, x.2) := by
  unfold mi_sat at h
  split at h
  next hc =>
    obtain ⟨x, hx, rfl⟩ := Option.map_eq_some_iff.mp h
    exact ⟨x, hc.1, hc.2, hx, rfl⟩
  next => cases h
theorem mi_toList {ad : Nat → Nat} {r : Option Value} : (r.map (mi_v ad)).toList = r.toList.map (mi_v ad) := by cases r <;> rfl
theorem mi_done {mem' : mi_M} {r : Option Value} {st0 rest : List Value} {As : Array Value} (hh : mi_hd sA n0 sc D aT s mem H locs) (hb : m0 ≤ mem.length ∧ s0 ≤ mi_sl mem) (hg : mi_gr sc mem mem')
    (hr : va_Run p l e R s m args below meth c H locs (mem.length - m0) (mi_sl mem - s0) (mem'.length - mem.length) (mi_sl mem' - mi_sl mem) (F0 m pc la st0) (rest.map (mi_v (mi_ad sA n0))) (mi_post sA n0 D aT r mem' As) (fun q : Nat => n0 ≤ q))
    (kk : ∀ (H' : Heap) (locs' : List Loc), mi_hd sA n0 sc D aT s mem' H' locs' → W p l e R s m args below meth c H' locs' (mem'.length - m0) (mi_sl mem' - s0) Q (F0 m (pc + 3) la ((r.toList ++ rest).map (mi_v (mi_ad sA n0))))) :
    W p l e R s m args below meth c H locs (mem.length - m0) (mi_sl mem - s0) Q (F0 m pc la st0) := by
  have g1 := hg.1
  have g2 := hg.2.1
  refine mi_after hr hh.2.1 (fun H1 locs1 p1 p2 => ?_)
  have h := kk H1 locs1 ⟨p1, p2, hg.2.2⟩
  rw [show mem'.length - m0 = (mem.length - m0) + (mem'.length - mem.length) by omega, show mi_sl mem' - s0 = (mi_sl mem - s0) + (mi_sl mem' - mi_sl mem) by omega, List.map_append, ← mi_toList] at h
  exact h
theorem mi_preU (hK : va_K D mi_cl (mi_tys aT) s) (hbad : ∀ w ∈ mi_bad, va_Nw w s) (hout : mi_out (mi_ad sA n0) n0 sc s s.heap) (hn0 : n0 ≤ s.heap.size) (hh : mi_hd sA n0 sc D aT s mem H locs) (hsz : H.size = n0 + (mem.length - 5)) : ∀ U : State, U.heap = H → s.WarmedH U.vm → mi_pre sA n0 sc D aT mem U := by
  intro U hU hW
  exact ⟨by rw [hU]; exact hsz, by rw [hU]; exact hh.1, va_K.moved hW.alike hK, mi_bad_warm hW hbad, mi_out_moved hW hU hh.2.1 hn0 hout⟩
theorem mi_rm_ok {q : mi_Mt} (hq : q.2.2.1 ≤ 40) {mc ms : Nat} (hRr : d + 1 ≤ R.frames ∧ 64 * (d + 1) ≤ R.locals) : (mi_rm d mc ms).frames + 1 ≤ R.frames ∧ 8 + (q.2.2.1 + 11) + (mi_rm d mc ms).locals ≤ R.locals := by
  refine ⟨hRr.1, ?_⟩
  show 8 + (q.2.2.1 + 11) + 64 * d ≤ R.locals
  have := hRr.2
  omega
theorem mi_mh_ok {x : String} (h : mi_mh x = true) : x ≠ "java/lang/invoke/MethodHandle" ∧ x ≠ "java/lang/invoke/VarHandle" := of_decide_eq_true h
/-- a virtual call -/
theorem mi_sV {f : mi_F} (C : mi_cx p s m args meth c t mq sA n0 sc D aT) (hh : mi_hd sA n0 sc D aT s mem H locs) (hm0 : 5 ≤ m0 ∧ s.heap.size = n0 + (m0 - 5)) (hb : m0 ≤ mem.length ∧ s0 ≤ mi_sl mem) (hla : la.size = mq.2.2.1) (hOk : mi_Ok l sA n0 sc D aT d f) {k n ci t' : Nat} {st : List Value} {q : List Value × mi_M} {fs : List Value} {b : Nat}
    (hn : mi_vp.lookup (mq.2.2.2.2.1, k) = some n) (hst : st[n]? = some (.ref b)) (hc : mem[b]? = some (ci, fs)) (ht : mi_vt mq.2.2.2.2.1 k ci = some t') (h : mi_cat f t' n st mem = some q) (hd : decode (mi_bt mq) pc = .ok (.invokevirtual k, 3))
    (hRr : d + 1 ≤ R.frames ∧ 64 * (d + 1) ≤ R.locals) (hR : q.2.length - m0 ≤ R.cells ∧ mi_sl q.2 - s0 ≤ R.slots)
    (kk : ∀ (H' : Heap) (locs' : List Loc), mi_hd sA n0 sc D aT s q.2 H' locs' → W p l e R s m args below meth c H' locs' (q.2.length - m0) (mi_sl q.2 - s0) Q (F0 m (pc + 3) la (q.1.map (mi_v (mi_ad sA n0))))) :
    W p l e R s m args below meth c H locs (mem.length - m0) (mi_sl mem - s0) Q (F0 m pc la (st.map (mi_v (mi_ad sA n0)))) := by
  obtain ⟨hmt, hx, hbc, hml, hown, hts, hbad, hK, hn0, hlocks, hini, hret, hout⟩ := C
  obtain ⟨hP, hS, hmi⟩ := id hh
  obtain ⟨-, -, hO, -, -, -⟩ := mi_mt_inv hmt
  obtain ⟨b', r, ⟨rv, mem'⟩, hst2, hlow, hlen, hf, rfl⟩ := mi_cat_inv h
  have hbb : b' = b := by
    have h1 := hst
    rw [hst2, List.getElem?_append_right (by omega), hlen, Nat.sub_self] at h1
    cases h1; rfl
  subst hbb
  obtain ⟨hg, hM⟩ := hOk _ _ _ _ _ hf hmi
  try dsimp only at hR kk
  have g1 := hg.1
  have g2 := hg.2.1
  have hlen5 := mi_len5 hmi.1
  refine mi_size (n := n0 + (mem.length - 5)) (mi_hd_size hh hn0) (by omega) fun hsz => ?_
  have hpre := mi_preU hK hbad hout hn0 hh hsz
  have hsm : st.map (mi_v (mi_ad sA n0)) = ((st.take n).reverse.map (mi_v (mi_ad sA n0))).reverse ++ .ref (mi_ad sA n0 b') :: r.map (mi_v (mi_ad sA n0)) := by
    conv => lhs; rw [hst2]
    rw [List.map_append, List.map_reverse, List.reverse_reverse]
    rfl
  have hal : ((st.take n).reverse.map (mi_v (mi_ad sA n0))).length = n := by rw [List.length_map, List.length_reverse]; exact hlen
  have hcnt : mem.length - m0 + (mem'.length - mem.length) ≤ R.cells ∧ mi_sl mem - s0 + (mi_sl mem' - mi_sl mem) ≤ R.slots := by omega
  have hfix : CallFix p m c (mi_bt mq) mq.2.2.1 s args mi_all mq.1.cls := ⟨hx, hbc, hml, hown, hts⟩
  unfold mi_vt at ht
  split at ht
  next x hx2 =>
    obtain rfl : x.1 = t' := Option.some.inj ht
    have h1 := List.all_eq_true.mp mi_cv_ok _ (mi_look hx2)
    unfold mi_cvchk at h1
    try dsimp only at h1
    rw [hO] at h1
    split at h1
    next O w M hO' hw hM' =>
      cases hO'
      simp only [Bool.and_eq_true, decide_eq_true_eq] at h1
      obtain ⟨⟨⟨⟨⟨⟨⟨⟨h13, hpl⟩, hcls⟩, hmh⟩, hnp⟩, w1⟩, w2⟩, w3⟩, w4⟩ := h1
      obtain ⟨-, hM40, -, -, -, -⟩ := mi_mt_inv hM'
      have hMet := hM M hM' hpl
      have hnn : x.2.1 = n := by
        have h2 := List.all_eq_true.mp mi_cvvp _ (mi_look hx2)
        try dsimp only at h2
        have h3 := of_decide_eq_true h2
        rw [hn] at h3
        exact (Option.some.inj h3).symm
      rw [hnn] at hnp
      have he := mi_w_get (ad := mi_ad sA n0) (aT := aT) (mi_hi hmi.1 hc (Nat.lt_trans h13 (by decide))) hc
      rw [mi_e_obj h13] at he
      have hcw := cwV (R := R) (s := s) (args := args) n hts (own := mq.1.cls) (index := k) (C := w.1) (y := M.1) (bytes := mi_bt M) (maxL := M.2.2.1) (ret := M.2.2.2.1) (ws := mi_ws M) (ws' := mi_all) (rm := mi_rm d (mem'.length - mem.length) (mi_sl mem' - mi_sl mem)) (mc := mem'.length - mem.length) (ms := mi_sl mem' - mi_sl mem) (mi_goodIn (by
        intro z hz
        unfold wsV at hz
        rcases List.mem_append.mp hz with hz | hz
        · simp only [List.mem_cons, List.not_mem_nil, or_false] at hz
          rcases hz with rfl | rfl | rfl | rfl
          · exact mi_all_of (mi_at_mem w1) rfl
          · exact mi_all_of (mi_at_mem w2) rfl
          · exact mi_all_of (mi_at_mem w3) rfl
          · exact mi_all_of (mi_at_mem w4) rfl
        · exact mi_ws_in hM' hpl z hz)) rfl rfl rfl ⟨hcls, (mi_mh_ok hmh).1, (mi_mh_ok hmh).2, hnp⟩ (mi_rm_ok hM40 hRr)
      refine mi_done (As := (Value.ref (mi_ad sA n0 b') :: (st.take n).reverse.map (mi_v (mi_ad sA n0))).toArray) hh hb hg ?_ kk
      exact va_runV hfix hMet hcw ⟨mi_blind, va_recv hK hP hw he, fun U hU hW => ⟨rfl, hpre U hU hW⟩⟩ rfl hal hla hsm (lv_room (mi_low_ok hlow)) hd hcnt
    next => cases h1
  next =>
    obtain ⟨x, hx2, rfl⟩ := Option.map_eq_some_iff.mp ht
    have h1 := List.all_eq_true.mp mi_cu_ok _ (mi_look hx2)
    unfold mi_cuchk at h1
    try dsimp only at h1
    rw [hO] at h1
    split at h1
    next O w M U hO' hw hM' hU' =>
      cases hO'
      split at h1
      next O' k' xn hlk =>
        simp only [Bool.and_eq_true, decide_eq_true_eq] at h1
        obtain ⟨⟨⟨⟨⟨⟨⟨⟨⟨⟨⟨⟨⟨h13, rfl⟩, rfl⟩, hpl⟩, hplU⟩, hun⟩, hud⟩, hmh⟩, hnp⟩, w1⟩, w2⟩, w3⟩, w4⟩, w5⟩ := h1
        obtain ⟨-, hM40, -, -, -, -⟩ := mi_mt_inv hM'
        have hMet := hM M hM' hpl
        have hnn : x.2.1 = n := by
          have h2 := List.all_eq_true.mp mi_cuvp _ (mi_look hx2)
          try dsimp only at h2
          have h3 := of_decide_eq_true h2
          rw [hn] at h3
          exact (Option.some.inj h3).symm
        rw [hnn] at hnp
        have he := mi_w_get (ad := mi_ad sA n0) (aT := aT) (mi_hi hmi.1 hc (Nat.lt_trans h13 (by decide))) hc
        rw [mi_e_obj h13] at he
        have hUy : U.1 = ⟨U.1.cls, xn.name, xn.desc⟩ := by rw [← hun, ← hud]
        have hcw := va_cwO (R := R) (s := s) (args := args) n hts (own := mq.1.cls) (C := w.1) (owner := U.1.cls) (index := k') (x := xn) (y := M.1) (bytes := mi_bt M) (maxL := M.2.2.1) (ret := M.2.2.2.1) (ws := mi_ws M) (ws' := mi_all) (rm := mi_rm d (mem'.length - mem.length) (mi_sl mem' - mi_sl mem)) (mc := mem'.length - mem.length) (ms := mi_sl mem' - mi_sl mem) (mi_goodIn (by
          intro z hz
          unfold va_wsO at hz
          rcases List.mem_append.mp hz with hz | hz
          · simp only [List.mem_cons, List.not_mem_nil, or_false] at hz
            rcases hz with rfl | rfl | rfl | rfl | rfl | rfl
            · exact mi_all_of (List.mem_of_getElem? hlk) rfl
            · exact mi_all_of (mi_at_mem w1) rfl
            · rw [← hUy]; exact mi_all_of (mi_at_mem w2) rfl
            · exact mi_all_of (mi_at_mem w3) rfl
            · exact mi_all_of (mi_at_mem w4) rfl
            · exact mi_all_of (mi_at_mem w5) rfl
          · exact mi_ws_in hM' hpl z hz)) rfl rfl rfl (b0 := mi_bt U) (m0 := U.2.2.1) (r0 := U.2.2.2.1) (by rw [← hUy]; exact mi_all_of ((mi_mt_inv hU').2.2.2.2.1 hplU) rfl) ⟨(mi_mh_ok hmh).1, (mi_mh_ok hmh).2, hnp⟩ (mi_rm_ok hM40 hRr)
        refine mi_done (As := (Value.ref (mi_ad sA n0 b') :: (st.take n).reverse.map (mi_v (mi_ad sA n0))).toArray) hh hb hg ?_ kk
        exact va_runU hfix hMet hcw ⟨mi_blind, va_recv hK hP hw he, fun U hU hW => ⟨rfl, hpre U hU hW⟩⟩ rfl hal hla hsm (lv_room (mi_low_ok hlow)) hd hcnt
      next => cases h1
    next => cases h1
end MIC
section MIC2
variable {p : Program} {l : Launch} {e : Env} {R : Room} {s : State} {m : MethodId} {args : Array Value} {below : List Frame} {meth : Method} {c : Code} {H : Heap} {locs : List Loc} {cells slots : Nat} {Q : State → Prop}
variable {pc t n0 m0 s0 d : Nat} {mem : mi_M} {la : Array Slot} {mq : mi_Mt} {sA : Nat → Nat} {sc : List Value} {D : va_G} {aT : Nat → ClassId}
/-- a static call -/
theorem mi_sS {f : mi_F} (C : mi_cx p s m args meth c t mq sA n0 sc D aT) (hh : mi_hd sA n0 sc D aT s mem H locs) (hm0 : 5 ≤ m0 ∧ s.heap.size = n0 + (m0 - 5)) (hb : m0 ≤ mem.length ∧ s0 ≤ mi_sl mem) (hla : la.size = mq.2.2.1) (hOk : mi_Ok l sA n0 sc D aT d f) {k : Nat} {st : List Value} {q : List Value × mi_M} {x : Nat × Nat × Nat × Nat × Nat} {nest : Bool}
    (hx2 : mi_cschk nest ((mq.2.2.2.2.1, k), x) = true) (h : mi_sat f x.1 x.2.1 st mem = some q) (hd : decode (mi_bt mq) pc = .ok (.invokestatic k, 3))
    (hRr : d + 1 ≤ R.frames ∧ 64 * (d + 1) ≤ R.locals) (hR : q.2.length - m0 ≤ R.cells ∧ mi_sl q.2 - s0 ≤ R.slots)
    (kk : ∀ (H' : Heap) (locs' : List Loc), mi_hd sA n0 sc D aT s q.2 H' locs' → W p l e R s m args below meth c H' locs' (q.2.length - m0) (mi_sl q.2 - s0) Q (F0 m (pc + 3) la (q.1.map (mi_v (mi_ad sA n0))))) :
    W p l e R s m args below meth c H locs (mem.length - m0) (mi_sl mem - s0) Q (F0 m pc la (st.map (mi_v (mi_ad sA n0)))) := by
  obtain ⟨hmt, hx, hbc, hml, hown, hts, hbad, hK, hn0, hlocks, hini, hret, hout⟩ := C
  obtain ⟨hP, hS, hmi⟩ := id hh
  obtain ⟨-, -, hO, -, -, -⟩ := mi_mt_inv hmt
  obtain ⟨⟨rv, mem'⟩, hlow, hlen, hf, rfl⟩ := mi_sat_inv h
  obtain ⟨hg, hM⟩ := hOk _ _ _ _ _ hf hmi
  try dsimp only at hR kk
  have g1 := hg.1
  have g2 := hg.2.1
  have hlen5 := mi_len5 hmi.1
  refine mi_size (n := n0 + (mem.length - 5)) (mi_hd_size hh hn0) (by omega) fun hsz => ?_
  have hpre := mi_preU hK hbad hout hn0 hh hsz
  have hsm : st.map (mi_v (mi_ad sA n0)) = ((st.take x.2.1).reverse.map (mi_v (mi_ad sA n0))).reverse ++ (st.drop x.2.1).map (mi_v (mi_ad sA n0)) := by
    rw [List.map_reverse, List.reverse_reverse, ← List.map_append, List.take_append_drop]
  have hal : ((st.take x.2.1).reverse.map (mi_v (mi_ad sA n0))).length = x.2.1 := by rw [List.length_map, List.length_reverse]; exact hlen
  have hcnt : mem.length - m0 + (mem'.length - mem.length) ≤ R.cells ∧ mi_sl mem - s0 + (mi_sl mem' - mi_sl mem) ≤ R.slots := by omega
  have hfix : CallFix p m c (mi_bt mq) mq.2.2.1 s args mi_all mq.1.cls := ⟨hx, hbc, hml, hown, hts⟩
  have h1 := hx2
  unfold mi_cschk at h1
  try dsimp only at h1
  rw [hO] at h1
  split at h1
  next O M hO' hM' =>
    cases hO'
    simp only [Bool.and_eq_true, decide_eq_true_eq] at h1
    obtain ⟨⟨⟨⟨⟨hpl, hmh⟩, hnp⟩, w1⟩, w2⟩, w3⟩ := h1
    obtain ⟨-, hM40, -, -, -, -⟩ := mi_mt_inv hM'
    have hMet := hM M hM' hpl
    refine mi_done (As := ((st.take x.2.1).reverse.map (mi_v (mi_ad sA n0))).toArray) hh hb hg ?_ kk
    cases nest with
    | false =>
      have hcw := va_cwS (R := R) (s := s) (args := args) x.2.1 hts (own := mq.1.cls) (index := k) (y := M.1) (bytes := mi_bt M) (maxL := M.2.2.1) (ret := M.2.2.2.1) (ws := mi_ws M) (ws' := mi_all) (rm := mi_rm d (mem'.length - mem.length) (mi_sl mem' - mi_sl mem)) (mc := mem'.length - mem.length) (ms := mi_sl mem' - mi_sl mem) (mi_goodIn (by
        intro z hz
        unfold va_wsS at hz
        rcases List.mem_append.mp hz with hz | hz
        · simp only [List.mem_cons, List.not_mem_nil, or_false] at hz
          rcases hz with rfl | rfl | rfl
          · exact mi_all_of (mi_at_mem w1) rfl
          · exact mi_all_of (mi_at_mem w2) rfl
          · exact mi_all_of (mi_at_mem w3) rfl
        · exact mi_ws_in hM' hpl z hz)) rfl rfl rfl ⟨(mi_mh_ok hmh).1, (mi_mh_ok hmh).2, hnp⟩ (mi_rm_ok hM40 hRr)
      exact va_runS hfix hMet hcw ⟨mi_blind, fun U hU hW => ⟨rfl, hpre U hU hW⟩⟩ rfl hal hla hsm (lv_room (mi_low_ok hlow)) hd hcnt
    | true =>
      have hcw := va_cnB (R := R) (s := s) (args := args) x.2.1 hts (own := mq.1.cls) (host := "NineLedges") (index := k) (y := M.1) (bytes := mi_bt M) (maxL := M.2.2.1) (ret := M.2.2.2.1) (ws := mi_ws M) (ws' := mi_all) (rm := mi_rm d (mem'.length - mem.length) (mi_sl mem' - mi_sl mem)) (mc := mem'.length - mem.length) (ms := mi_sl mem' - mi_sl mem) (mi_goodIn (mi_ws_in hM' hpl)) rfl rfl rfl (hbad _ (mi_bad_of (mi_at_mem w1) rfl)) (hts _ (mi_all_of (mi_at_mem w3) rfl)) ⟨(mi_mh_ok hmh).1, (mi_mh_ok hmh).2, hnp⟩ (mi_rm_ok hM40 hRr)
      exact va_runSN hfix hMet ⟨hcw, hts _ (mi_all_of (mi_at_mem w2) rfl), trivial⟩ ⟨mi_blind, fun U hU hW => ⟨rfl, hpre U hU hW⟩⟩ rfl hal hla hsm (lv_room (mi_low_ok hlow)) hd hcnt
  next => cases h1
/-- a constructor -/
theorem mi_sI {f : mi_F} (C : mi_cx p s m args meth c t mq sA n0 sc D aT) (hh : mi_hd sA n0 sc D aT s mem H locs) (hm0 : 5 ≤ m0 ∧ s.heap.size = n0 + (m0 - 5)) (hb : m0 ≤ mem.length ∧ s0 ≤ mi_sl mem) (hla : la.size = mq.2.2.1) (hOk : mi_Ok l sA n0 sc D aT d f) {k : Nat} {st : List Value} {q : List Value × mi_M} {x : Nat × Nat × Nat × Nat × Nat} {nest : Bool}
    (hx2 : mi_cichk nest ((mq.2.2.2.2.1, k), x) = true) (h : mi_cat f x.1 x.2.1 st mem = some q) (hd : decode (mi_bt mq) pc = .ok (.invokespecial k, 3))
    (hRr : d + 1 ≤ R.frames ∧ 64 * (d + 1) ≤ R.locals) (hR : q.2.length - m0 ≤ R.cells ∧ mi_sl q.2 - s0 ≤ R.slots)
    (kk : ∀ (H' : Heap) (locs' : List Loc), mi_hd sA n0 sc D aT s q.2 H' locs' → W p l e R s m args below meth c H' locs' (q.2.length - m0) (mi_sl q.2 - s0) Q (F0 m (pc + 3) la (q.1.map (mi_v (mi_ad sA n0))))) :
    W p l e R s m args below meth c H locs (mem.length - m0) (mi_sl mem - s0) Q (F0 m pc la (st.map (mi_v (mi_ad sA n0)))) := by
  obtain ⟨hmt, hx, hbc, hml, hown, hts, hbad, hK, hn0, hlocks, hini, hret, hout⟩ := C
  obtain ⟨hP, hS, hmi⟩ := id hh
  obtain ⟨-, -, hO, -, -, -⟩ := mi_mt_inv hmt
  obtain ⟨b', r, ⟨rv, mem'⟩, hst2, hlow, hlen, hf, rfl⟩ := mi_cat_inv h
  obtain ⟨hg, hM⟩ := hOk _ _ _ _ _ hf hmi
  try dsimp only at hR kk
  have g1 := hg.1
  have g2 := hg.2.1
  have hlen5 := mi_len5 hmi.1
  refine mi_size (n := n0 + (mem.length - 5)) (mi_hd_size hh hn0) (by omega) fun hsz => ?_
  have hpre := mi_preU hK hbad hout hn0 hh hsz
  have hsm : st.map (mi_v (mi_ad sA n0)) = ((st.take x.2.1).reverse.map (mi_v (mi_ad sA n0))).reverse ++ .ref (mi_ad sA n0 b') :: r.map (mi_v (mi_ad sA n0)) := by
    conv => lhs; rw [hst2]
    rw [List.map_append, List.map_reverse, List.reverse_reverse]
    rfl
  have hal : ((st.take x.2.1).reverse.map (mi_v (mi_ad sA n0))).length = x.2.1 := by rw [List.length_map, List.length_reverse]; exact hlen
  have hcnt : mem.length - m0 + (mem'.length - mem.length) ≤ R.cells ∧ mi_sl mem - s0 + (mi_sl mem' - mi_sl mem) ≤ R.slots := by omega
  have hfix : CallFix p m c (mi_bt mq) mq.2.2.1 s args mi_all mq.1.cls := ⟨hx, hbc, hml, hown, hts⟩
  have h1 := hx2
  unfold mi_cichk at h1
  try dsimp only at h1
  rw [hO] at h1
  split at h1
  next O M hO' hM' =>
    cases hO'
    simp only [Bool.and_eq_true, decide_eq_true_eq] at h1
    obtain ⟨⟨⟨⟨⟨⟨⟨hpl, hnm⟩, hrt⟩, hmh⟩, hnp⟩, w1⟩, w2⟩, w3⟩ := h1
    obtain ⟨-, hM40, -, -, -, -⟩ := mi_mt_inv hM'
    have hMet := hM M hM' hpl
    refine mi_done (As := (Value.ref (mi_ad sA n0 b') :: (st.take x.2.1).reverse.map (mi_v (mi_ad sA n0))).toArray) hh hb hg ?_ kk
    have hws : mi_ws M = Jvm.Cond.code M.1 (mi_bt M) M.2.2.1 none :: mi_all := by unfold mi_ws; rw [hrt]
    cases nest with
    | false =>
      have hcw := cwI (R := R) (s := s) (args := args) x.2.1 hts (own := mq.1.cls) (index := k) (y := M.1) (bytes := mi_bt M) (maxL := M.2.2.1) (ws := mi_ws M) (ws' := mi_all) (rm := mi_rm d (mem'.length - mem.length) (mi_sl mem' - mi_sl mem)) (mc := mem'.length - mem.length) (ms := mi_sl mem' - mi_sl mem) (mi_goodIn (mi_ws_in hM' hpl)) hws rfl rfl (hts _ (mi_all_of (mi_at_mem w3) rfl)) (hts _ (mi_all_of (mi_at_mem w1) rfl)) (hts _ (mi_all_of (mi_at_mem w2) rfl)) hnm ⟨(mi_mh_ok hmh).1, (mi_mh_ok hmh).2, hnp⟩ (mi_rm_ok hM40 hRr)
      exact va_runI hfix hMet hcw ⟨mi_blind, fun U hU hW => ⟨rfl, hpre U hU hW⟩⟩ rfl hal hla hsm (lv_room (mi_low_ok hlow)) hd hcnt
    | true =>
      have hcw := va_cnB (R := R) (s := s) (args := args) x.2.1 hts (own := mq.1.cls) (host := "NineLedges") (index := k) (y := M.1) (bytes := mi_bt M) (maxL := M.2.2.1) (ret := none) (ws := mi_ws M) (ws' := mi_all) (rm := mi_rm d (mem'.length - mem.length) (mi_sl mem' - mi_sl mem)) (mc := mem'.length - mem.length) (ms := mi_sl mem' - mi_sl mem) (mi_goodIn (mi_ws_in hM' hpl)) hws rfl rfl (hbad _ (mi_bad_of (mi_at_mem w1) rfl)) (hts _ (mi_all_of (mi_at_mem w3) rfl)) ⟨(mi_mh_ok hmh).1, (mi_mh_ok hmh).2, hnp⟩ (mi_rm_ok hM40 hRr)
      exact va_runIN hfix hMet ⟨hcw, hnm, hts _ (mi_all_of (mi_at_mem w2) rfl)⟩ ⟨mi_blind, fun U hU hW => ⟨rfl, hpre U hU hW⟩⟩ rfl hal hla hsm (lv_room (mi_low_ok hlow)) hd hcnt
  next => cases h1
end MIC2
theorem mi_sub1 {vm : Vm} {a b : ClassId} {k : Class} (hk : vm.classes[a]? = some k) (hs : k.super = some b) : vm.isSubclass a b = true := by
  have hlt := (Array.getElem?_eq_some_iff.mp hk).1
  obtain ⟨n, hn⟩ : ∃ n, vm.classes.size = n + 1 := ⟨vm.classes.size - 1, by omega⟩
  unfold Vm.isSubclass
  rw [hn]
  simp [Vm.isSubclassAux, hk, hs]
section MIC3
variable {p : Program} {l : Launch} {e : Env} {R : Room} {s : State} {m : MethodId} {args : Array Value} {below : List Frame} {meth : Method} {c : Code} {H : Heap} {locs : List Loc} {cells slots : Nat} {Q : State → Prop}
variable {pc t n0 m0 s0 d : Nat} {mem : mi_M} {la : Array Slot} {mq : mi_Mt} {sA : Nat → Nat} {sc : List Value} {D : va_G} {aT : Nat → ClassId}
/-- a superclass's method -/
theorem mi_sU {f : mi_F} (C : mi_cx p s m args meth c t mq sA n0 sc D aT) (hh : mi_hd sA n0 sc D aT s mem H locs) (hm0 : 5 ≤ m0 ∧ s.heap.size = n0 + (m0 - 5)) (hb : m0 ≤ mem.length ∧ s0 ≤ mi_sl mem) (hla : la.size = mq.2.2.1) (hOk : mi_Ok l sA n0 sc D aT d f) {k : Nat} {st : List Value} {q : List Value × mi_M} {x : Nat × Nat × Nat × Nat × Nat × Nat × Nat × Nat × Nat} {ci : Nat} {fs : List Value}
    (hx2 : mi_czchk ((mq.2.2.2.2.1, k), x) = true) (h : mi_cat f x.1 x.2.1 st mem = some q) (hd : decode (mi_bt mq) pc = .ok (.invokespecial k, 3))
    (hrecv : ∀ b, st[x.2.1]? = some (.ref b) → ∃ ci fs, mem[b]? = some (ci, fs) ∧ ci < 13)
    (hRr : d + 1 ≤ R.frames ∧ 64 * (d + 1) ≤ R.locals) (hR : q.2.length - m0 ≤ R.cells ∧ mi_sl q.2 - s0 ≤ R.slots)
    (kk : ∀ (H' : Heap) (locs' : List Loc), mi_hd sA n0 sc D aT s q.2 H' locs' → W p l e R s m args below meth c H' locs' (q.2.length - m0) (mi_sl q.2 - s0) Q (F0 m (pc + 3) la (q.1.map (mi_v (mi_ad sA n0))))) :
    W p l e R s m args below meth c H locs (mem.length - m0) (mi_sl mem - s0) Q (F0 m pc la (st.map (mi_v (mi_ad sA n0)))) := by
  obtain ⟨hmt, hx, hbc, hml, hown, hts, hbad, hK, hn0, hlocks, hini, hret, hout⟩ := C
  obtain ⟨hP, hS, hmi⟩ := id hh
  obtain ⟨-, -, hO, -, -, -⟩ := mi_mt_inv hmt
  obtain ⟨b', r, ⟨rv, mem'⟩, hst2, hlow, hlen, hf, rfl⟩ := mi_cat_inv h
  obtain ⟨hg, hM⟩ := hOk _ _ _ _ _ hf hmi
  try dsimp only at hR kk
  have g1 := hg.1
  have g2 := hg.2.1
  have hlen5 := mi_len5 hmi.1
  refine mi_size (n := n0 + (mem.length - 5)) (mi_hd_size hh hn0) (by omega) fun hsz => ?_
  have hpre := mi_preU hK hbad hout hn0 hh hsz
  have hsm : st.map (mi_v (mi_ad sA n0)) = ((st.take x.2.1).reverse.map (mi_v (mi_ad sA n0))).reverse ++ .ref (mi_ad sA n0 b') :: r.map (mi_v (mi_ad sA n0)) := by
    conv => lhs; rw [hst2]
    rw [List.map_append, List.map_reverse, List.reverse_reverse]
    rfl
  have hal : ((st.take x.2.1).reverse.map (mi_v (mi_ad sA n0))).length = x.2.1 := by rw [List.length_map, List.length_reverse]; exact hlen
  have hcnt : mem.length - m0 + (mem'.length - mem.length) ≤ R.cells ∧ mi_sl mem - s0 + (mi_sl mem' - mi_sl mem) ≤ R.slots := by omega
  obtain ⟨ci, fs, hc, h13⟩ := hrecv b' (by rw [hst2, List.getElem?_append_right (by omega), hlen, Nat.sub_self]; rfl)
  have he := mi_w_get (ad := mi_ad sA n0) (aT := aT) (mi_hi hmi.1 hc (Nat.lt_trans h13 (by decide))) hc
  rw [mi_e_obj h13] at he
  have h1 := hx2
  unfold mi_czchk at h1
  try dsimp only at h1
  rw [hO] at h1
  split at h1
  next O M X hO' hM' hX' =>
    cases hO'
    simp only [Bool.and_eq_true, Bool.or_eq_true, decide_eq_true_eq] at h1
    obtain ⟨⟨⟨⟨⟨⟨⟨⟨hpl, hno⟩, hnp⟩, w1⟩, w2⟩, w3⟩, w4⟩, w5⟩, w6⟩ := h1
    obtain ⟨-, hM40, -, -, -, -⟩ := mi_mt_inv hM'
    have hMet := hM M hM' hpl
    obtain ⟨hrmf, hrml⟩ := mi_rm_ok (R := R) (d := d) hM40 (mc := mem'.length - mem.length) (ms := mi_sl mem' - mi_sl mem) hRr
    have hin : ∀ w, w ∈ lw_tbl → goodWord w = true → w.before args s = true := fun w a b => hts w (mi_all_of a b)
    have hcodew : Jvm.Cond.code M.1 (mi_bt M) M.2.2.1 M.2.2.2.1 ∈ mi_ws M := List.mem_cons_self
    have hini0 := hin _ (mi_at_mem w6) rfl
    have hBk : Back l R p e below s args M.1 3 8 (PreOf R (mem'.length - mem.length) (mi_sl mem' - mi_sl mem) (va_Pc ((Value.ref b' :: (st.take x.2.1).reverse).map (mi_v (mi_ad sA n0))) (mi_pre sA n0 sc D aT mem))) (PostOf (mi_post sA n0 D aT rv mem') (mem'.length - mem.length) (mi_sl mem' - mi_sl mem) (fun q : Nat => n0 ≤ q)) :=
      back_of (bytes := mi_bt M) (maxL := M.2.2.1) (ret := M.2.2.2.1) hMet mi_blind rfl rfl hrmf hrml (pay_in hts (mi_goodIn (mi_ws_in hM' hpl))) hcodew (fun a' U hW => word_at hW (Or.inl rfl) hini0)
    obtain ⟨r', hr', cellB, q1, q2, q3, -⟩ := hP _ _ he
    obtain ⟨hfcB, kB, hkB, -⟩ := (hK.1 ci r' hr').2
    obtain ⟨mk, methM, hnamed, hmethM, hstM, habM⟩ := Cond.instanceMethod_spec (hin _ (mi_at_mem w5) rfl)
    obtain ⟨methM', cM, hmethM', -, -, -, -, -, -, hsigM⟩ := Cond.code_spec hnamed (hin _ ((mi_mt_inv hM').2.2.2.2.1 hpl) rfl)
    cases hmethM.symm.trans hmethM'
    obtain ⟨ps, dk, kp, hps, hdk, hkp, hsuper, -, -, hnid⟩ := Cond.superclass_spec hown (hin _ (mi_at_mem w3) rfl)
    have hsub : s.vm.isSubclass ps mk.cls = true := by
      have hmkc : s.vm.findClass M.1.cls = some mk.cls := findClass_of_methodNamed hnamed
      rcases w4 with w4 | w4
      · rw [w4] at hps
        rw [Option.some.inj (hps.symm.trans hmkc)]
        simp [Vm.isSubclass, Vm.isSubclassAux]
      · obtain ⟨p2, k2, kp2, f1, f2, -, f4, -⟩ := Cond.superclass_spec hps (hin _ (mi_at_mem w4) rfl)
        rw [Option.some.inj (hmkc.symm.trans f1)]
        exact mi_sub1 f2 f4
    refine mi_done (As := (Value.ref (mi_ad sA n0 b') :: (st.take x.2.1).reverse.map (mi_v (mi_ad sA n0))).toArray) hh hb hg ?_ kk
    intro T hT Z
    obtain ⟨vm₁, X₁, hstep₁⟩ := Z.invokespecialUp hx hown (hin _ (mi_at_mem w1) rfl) (hin _ (mi_at_mem w2) rfl) (r0 := mk) hnamed hmethM hstM habM hno hdk hnid hps hsuper hsub (a := mi_ad sA n0 b') (cell := cellB) (by rw [hT]; exact q1)
      (fun z h => by rw [q3] at h; cases h) (by rw [q2]; exact hkB) (g := F0 m pc la (st.map (mi_v (mi_ad sA n0)))) rfl (argsL := (st.take x.2.1).reverse.map (mi_v (mi_ad sA n0))) (rest := r.map (mi_v (mi_ad sA n0))) (by
        rw [hal]
        have h2 := hnp
        unfold mi_np at h2
        rw [hsigM] at h2
        exact (Option.some.inj h2).symm) hsm (by rw [hbc]; exact hd)
    obtain ⟨v, ⟨U', l2, c2, s2⟩, X', ⟨g', mk', t', L, e1, e2, hq, z1, hL, z2, z3⟩, hsteps⟩ := hBk m meth c ⟨T.setVm vm₁, locs, mem.length - m0, mi_sl mem - s0⟩ { F0 m pc la (st.map (mi_v (mi_ad sA n0))) with stack := r.map (mi_v (mi_ad sA n0)) } (.invokespecial k) mk (Value.ref (mi_ad sA n0 b') :: (st.take x.2.1).reverse.map (mi_v (mi_ad sA n0))).toArray X₁ rfl (hla.trans hml.symm) (by rw [hbc]; exact hd) (lv_room (mi_low_ok hlow)) (X₁.named hnamed) ⟨hcnt.1, hcnt.2, ⟨rfl, hpre (T.setVm vm₁) hT X₁.warmed⟩⟩
    dsimp only [Pt.U, Pt.locs, Pt.cells, Pt.slots] at X' e1 e2 z1 z2 z3 hsteps
    subst z1; subst z2; subst z3
    exact ⟨v, (T.setVm vm₁).calling g' mk' (Value.ref (mi_ad sA n0 b') :: (st.take x.2.1).reverse.map (mi_v (mi_ad sA n0))).toArray, t', U', L, hT, X', hL, e1, e2, hq, fun target h => hstep₁ _ (by rw [doInvoke_state]; exact hsteps.trans h)⟩
  next => cases h1
end MIC3
