/-! MINI's memory instructions: what each needs and makes -/
theorem mi_getf_inv {own k : Nat} {st : List Value} {mem : mi_M} {q : List Value × mi_M} (h : mi_getf own k st mem = some q) : ∃ a r g fs v, st = .ref a :: r ∧ mi_gf own k = some g ∧ mem[a]? = some (g.1, fs) ∧ fs[g.2]? = some v ∧ q = (v :: r, mem) := by
  unfold mi_getf at h
  split at h
  · obtain ⟨g, hg, h2⟩ := Option.bind_eq_some_iff.mp h
    obtain ⟨fs, hfs, h3⟩ := Option.bind_eq_some_iff.mp h2
    obtain ⟨v, hv, h4⟩ := Option.map_eq_some_iff.mp h3
    exact ⟨_, _, g, fs, v, rfl, hg, mi_ld_inv hfs, hv, h4.symm⟩
  · cases h
theorem mi_putf_inv {own : Nat} {ini : Bool} {k : Nat} {st : List Value} {mem : mi_M} {q : List Value × mi_M} (h : mi_putf own ini k st mem = some q) : ∃ v a r g fs, st = v :: .ref a :: r ∧ mi_gf own k = some g ∧ mem[a]? = some (g.1, fs) ∧ g.2 < fs.length ∧ mi_fit (mi_ty g.1 g.2) v = true ∧ (mi_fin g.1 g.2 = false ∨ (ini = true ∧ own = g.1)) ∧ q = (r, mem.set a (g.1, fs.set g.2 v)) := by
  unfold mi_putf at h
  split at h
  · obtain ⟨g, hg, h2⟩ := Option.bind_eq_some_iff.mp h
    obtain ⟨fs, hfs, h3⟩ := Option.bind_eq_some_iff.mp h2
    split at h3
    next hc => cases h3; exact ⟨_, _, _, g, fs, rfl, hg, mi_ld_inv hfs, hc.1, hc.2.1, hc.2.2, rfl⟩
    next => cases h3
  · cases h
theorem mi_ial_inv {st : List Value} {mem : mi_M} {q : List Value × mi_M} (h : mi_ial st mem = some q) : ∃ i a r c v, st = .int i :: .ref a :: r ∧ mem[a]? = some c ∧ (c.1 = 20 ∨ c.1 = 30 ∨ c.1 = 32) ∧ mi_ix i c.2.length = true ∧ c.2[i.toNatClampNeg]? = some (.int v) ∧ q = (.int v :: r, mem) := by
  unfold mi_ial at h
  split at h
  · obtain ⟨c, hc, h2⟩ := Option.bind_eq_some_iff.mp h
    split at h2
    next hh =>
      split at h2
      next v hv => cases h2; exact ⟨_, _, _, c, v, rfl, hc, hh.1, hh.2, hv, rfl⟩
      next => cases h2
    next => cases h2
  · cases h
theorem mi_ias_inv {st : List Value} {mem : mi_M} {q : List Value × mi_M} (h : mi_ias st mem = some q) : ∃ x i a r cs, st = .int x :: .int i :: .ref a :: r ∧ mem[a]? = some (20, cs) ∧ mi_ix i cs.length = true ∧ q = (r, mem.set a (20, cs.set i.toNatClampNeg (.int x))) := by
  unfold mi_ias at h
  split at h
  · obtain ⟨c, hc, h2⟩ := Option.bind_eq_some_iff.mp h
    split at h2
    next hh => cases h2; exact ⟨_, _, _, _, c, rfl, mi_ld_inv hc, hh, rfl⟩
    next => cases h2
  · cases h
theorem mi_aal_inv {st : List Value} {mem : mi_M} {q : List Value × mi_M} (h : mi_aal st mem = some q) : ∃ i a r c b, st = .int i :: .ref a :: r ∧ mem[a]? = some c ∧ (20 < c.1 ∧ c.1 < 25) ∧ mi_ix i c.2.length = true ∧ c.2[i.toNatClampNeg]? = some (.ref b) ∧ q = (.ref b :: r, mem) := by
  unfold mi_aal at h
  split at h
  · obtain ⟨c, hc, h2⟩ := Option.bind_eq_some_iff.mp h
    split at h2
    next hh =>
      split at h2
      next v hv => cases h2; exact ⟨_, _, _, c, v, rfl, hc, hh.1, hh.2, hv, rfl⟩
      next => cases h2
    next => cases h2
  · cases h
theorem mi_aas_inv {st : List Value} {mem : mi_M} {q : List Value × mi_M} (h : mi_aas st mem = some q) : ∃ b i a r c d, st = .ref b :: .int i :: .ref a :: r ∧ mem[a]? = some c ∧ mem[b]? = some d ∧ mi_can c.1 d.1 = true ∧ mi_ix i c.2.length = true ∧ q = (r, mem.set a (c.1, c.2.set i.toNatClampNeg (.ref b))) := by
  unfold mi_aas at h
  split at h
  · obtain ⟨c, hc, h2⟩ := Option.bind_eq_some_iff.mp h
    obtain ⟨d, hd, h3⟩ := Option.bind_eq_some_iff.mp h2
    split at h3
    next hh => cases h3; exact ⟨_, _, _, _, c, d, rfl, hc, hd, hh.1, hh.2, rfl⟩
    next => cases h3
  · cases h
theorem mi_aln_inv {st : List Value} {mem : mi_M} {q : List Value × mi_M} (h : mi_aln st mem = some q) : ∃ a r c, st = .ref a :: r ∧ mem[a]? = some c ∧ ((20 ≤ c.1 ∧ c.1 < 25) ∨ c.1 = 30) ∧ q = (.int (Int32.ofNat c.2.length) :: r, mem) := by
  unfold mi_aln at h
  split at h
  · obtain ⟨c, hc, h2⟩ := Option.bind_eq_some_iff.mp h
    split at h2
    next hh => cases h2; exact ⟨_, _, c, rfl, hc, hh, rfl⟩
    next => cases h2
  · cases h
theorem mi_nwa_inv {st : List Value} {mem : mi_M} {q : List Value × mi_M} (h : mi_nwa st mem = some q) : ∃ n r, st = .int n :: r ∧ 0 ≤ n.toInt ∧ n.toInt ≤ 1000 ∧ q = (.ref mem.length :: r, mem ++ [(20, List.replicate n.toNatClampNeg (.int 0))]) := by
  unfold mi_nwa at h
  split at h
  · split at h
    next hh => cases h; exact ⟨_, _, rfl, hh.1, hh.2, rfl⟩
    next => cases h
  · cases h
theorem mi_nwq_inv {own k : Nat} {st : List Value} {mem : mi_M} {q : List Value × mi_M} (h : mi_nwq own k st mem = some q) : ∃ n r g, st = .int n :: r ∧ mi_al.lookup (own, k) = some g ∧ 0 ≤ n.toInt ∧ n.toInt ≤ 1000 ∧ q = (.ref mem.length :: r, mem ++ [(20 + g.1, List.replicate n.toNatClampNeg .null)]) := by
  unfold mi_nwq at h
  split at h
  · obtain ⟨g, hg, h2⟩ := Option.bind_eq_some_iff.mp h
    split at h2
    next hh => cases h2; exact ⟨_, _, g, rfl, hg, hh.1, hh.2, rfl⟩
    next => cases h2
  · cases h
theorem mi_nw_inv {own k : Nat} {st : List Value} {mem : mi_M} {q : List Value × mi_M} (h : mi_nw own k st mem = some q) : ∃ g fs, mi_nl.lookup (own, k) = some g ∧ mi_df[g.1]? = some fs ∧ q = (.ref mem.length :: st, mem ++ [(g.1, fs)]) := by
  unfold mi_nw at h
  obtain ⟨g, hg, h2⟩ := Option.bind_eq_some_iff.mp h
  obtain ⟨fs, hfs, h3⟩ := Option.map_eq_some_iff.mp h2
  exact ⟨g, fs, hg, hfs, h3.symm⟩
/-- cells never go, and never shrink; what lies outside stays -/
def mi_gr (sc : List Value) (mem mem' : mi_M) : Prop := mem.length ≤ mem'.length ∧ mi_sl mem ≤ mi_sl mem' ∧ mi_inv sc mem'
theorem mi_gr_rf {sc : List Value} {mem : mi_M} (h : mi_inv sc mem) : mi_gr sc mem mem := ⟨Nat.le_refl _, Nat.le_refl _, h⟩
theorem mi_gr_set {sc : List Value} {mem : mi_M} {a : Nat} {c d : Nat × List Value} (h : mi_inv sc mem) (hc : mem[a]? = some c) (hk : c.1 < 25) (hd : d.1 = c.1) (hl : d.2.length = c.2.length) : mi_gr sc mem (mem.set a d) :=
  ⟨by rw [List.length_set]; exact Nat.le_refl _, by rw [mi_sl_set hc hl]; exact Nat.le_refl _, mi_inv_set h hc hk hd⟩
theorem mi_gr_app {sc : List Value} {mem : mi_M} {c : Nat × List Value} (h : mi_inv sc mem) (hk : c.1 < 25) : mi_gr sc mem (mem ++ [c]) :=
  ⟨by rw [List.length_append]; exact Nat.le_add_right _ _, by rw [mi_sl_app]; exact Nat.le_add_right _ _, mi_inv_app h hk⟩
theorem mi_gr_tr {sc : List Value} {m1 m2 m3 : mi_M} (h : mi_gr sc m1 m2) (h2 : mi_gr sc m2 m3) : mi_gr sc m1 m3 := ⟨Nat.le_trans h.1 h2.1, Nat.le_trans h.2.1 h2.2.1, h2.2.2⟩
theorem mi_can_lt {h ci : Nat} (hc : mi_can h ci = true) : (h = 21 ∧ ci = 4) ∨ (h = 22 ∧ ci = 8) ∨ (h = 23 ∧ ci = 6) ∨ (h = 24 ∧ (ci = 9 ∨ ci = 0 ∨ ci = 2 ∨ ci = 3 ∨ ci = 5 ∨ ci = 7 ∨ ci = 10)) := by
  simpa [mi_can, or_assoc] using hc
theorem mi_Y_gr {sc : List Value} {own : Nat} {ini : Bool} {i : Instr} {st : List Value} {mem : mi_M} {q : List Value × mi_M} (hm : mi_inv sc mem) (h : mi_Y own ini i st mem = some q) : mi_gr sc mem q.2 := by
  unfold mi_Y at h
  split at h
  · obtain ⟨a, r, g, fs, v, -, -, -, -, rfl⟩ := mi_getf_inv h; exact mi_gr_rf hm
  · obtain ⟨v, a, r, g, fs, -, hg, hfs, -, -, -, rfl⟩ := mi_putf_inv h
    have hci : g.1 < 25 := by
      unfold mi_gf at hg
      split at hg
      next x hx => cases hg; exact Nat.lt_of_lt_of_le (show x.1 < 13 from of_decide_eq_true (List.all_eq_true.mp (show mi_fl.all (fun q => decide (q.2.1 < 13)) = true by decide +kernel) _ (mi_look hx))) (by decide)
      next =>
        obtain ⟨x, hx, rfl⟩ := Option.map_eq_some_iff.mp hg
        exact Nat.lt_of_lt_of_le (show x.1 < 13 from of_decide_eq_true (List.all_eq_true.mp (show mi_fn.all (fun q => decide (q.2.1 < 13)) = true by decide +kernel) _ (mi_look hx))) (by decide)
    exact mi_gr_set hm hfs hci rfl (by simp)
  · unfold mi_gets at h
    obtain ⟨x, -, rfl⟩ := Option.map_eq_some_iff.mp h; exact mi_gr_rf hm
  · obtain ⟨i, a, r, c, v, -, -, -, -, -, rfl⟩ := mi_ial_inv h; exact mi_gr_rf hm
  · obtain ⟨x, i, a, r, cs, -, hc, -, rfl⟩ := mi_ias_inv h; exact mi_gr_set hm hc (by show 20 < 25; decide) rfl (by simp)
  · obtain ⟨i, a, r, c, v, -, -, -, -, -, rfl⟩ := mi_aal_inv h; exact mi_gr_rf hm
  · obtain ⟨b, i, a, r, c, d, -, hc, -, hcan, -, rfl⟩ := mi_aas_inv h; exact mi_gr_set hm hc (by rcases mi_can_lt hcan with h | h | h | h <;> omega) rfl (by simp)
  · obtain ⟨a, r, c, -, -, -, rfl⟩ := mi_aln_inv h; exact mi_gr_rf hm
  · obtain ⟨n, r, -, -, -, rfl⟩ := mi_nwa_inv h; exact mi_gr_app hm (by show 20 < 25; decide)
  · obtain ⟨n, r, g, -, hg, -, -, rfl⟩ := mi_nwq_inv h; exact mi_gr_app hm (of_decide_eq_true (List.all_eq_true.mp (show mi_al.all (fun q => decide (20 + q.2.1 < 25)) = true by decide +kernel) _ (mi_look hg)))
  · obtain ⟨g, fs, hg, -, rfl⟩ := mi_nw_inv h; exact mi_gr_app hm (of_decide_eq_true (List.all_eq_true.mp (show mi_nl.all (fun q => decide (q.2.1 < 25)) = true by decide +kernel) _ (mi_look hg)))
  · unfold mi_ldk at h
    split at h
    · cases h; exact mi_gr_rf hm
    · obtain ⟨x, -, rfl⟩ := Option.map_eq_some_iff.mp h; exact mi_gr_rf hm
  · unfold mi_ldk2 at h
    obtain ⟨x, -, rfl⟩ := Option.map_eq_some_iff.mp h; exact mi_gr_rf hm
  · unfold mi_ldw at h
    obtain ⟨x, -, rfl⟩ := Option.map_eq_some_iff.mp h; exact mi_gr_rf hm
  · cases h
theorem mi_arrV {cA : ClassId} {n : Nat} {f g : Nat → Value} (h : ∀ j, j < n → f j = g j) : arrV cA n f = arrV cA n g := by
  unfold arrV
  congr 1
  congr 1
  funext j
  exact h j.1 j.2
section MIY
variable {p : Program} {l : Launch} {e : Env} {R : Room} {s : State} {m : MethodId} {args : Array Value} {below : List Frame} {meth : Method} {c : Code} {H : Heap} {locs : List Loc} {Q : State → Prop}
variable {pc t n0 m0 s0 : Nat} {mem : mi_M} {la : Array Slot} {mq : mi_Mt} {sA : Nat → Nat} {sc : List Value} {D : va_G} {aT : Nat → ClassId}
theorem mi_size {cells slots n : Nat} {g : JFrame} (hlo : n ≤ H.size) (hup : s.heap.size + cells = n) (k : H.size = n → W p l e R s m args below meth c H locs cells slots Q g) : W p l e R s m args below meth c H locs cells slots Q g := by
  intro T hT X
  have h := X.heapSize
  rw [hT] at h
  exact k (by omega) T hT X
theorem mi_hd_size (hh : mi_hd sA n0 sc D aT s mem H locs) (h0 : n0 ≤ s.heap.size) : n0 + (mem.length - 5) ≤ H.size := by
  obtain ⟨hP, hS, hm⟩ := hh
  have h5 := mi_len5 hm.1
  by_cases hl : mem.length = 5
  · have := hS.1
    omega
  · obtain ⟨cc, hc⟩ : ∃ cc, mem[mem.length - 1]? = some cc := ⟨_, List.getElem?_eq_getElem (by omega)⟩
    have h1 := (hP _ _ (mi_w_get (by omega) hc)).lt
    have h2 : mi_ad sA n0 (mem.length - 1) < H.size := h1
    rw [mi_ad_hi (by omega)] at h2
    omega
set_option maxHeartbeats 8000000 in
theorem mi_sY (C : mi_cx p s m args meth c t mq sA n0 sc D aT) (hh : mi_hd sA n0 sc D aT s mem H locs) (hm0 : 5 ≤ m0 ∧ s.heap.size = n0 + (m0 - 5)) (hb : m0 ≤ mem.length ∧ s0 ≤ mi_sl mem) {i : Instr} {st : List Value} {q : List Value × mi_M} (h : mi_Y mq.2.2.2.2.1 (mi_ii.contains t) i st mem = some q) (hd : decode (mi_bt mq) pc = .ok (i, mi_len i))
    (hR : q.2.length - m0 ≤ R.cells ∧ mi_sl q.2 - s0 ≤ R.slots)
    (kk : ∀ (H' : Heap) (locs' : List Loc), mi_hd sA n0 sc D aT s q.2 H' locs' → W p l e R s m args below meth c H' locs' (q.2.length - m0) (mi_sl q.2 - s0) Q (F0 m (pc + mi_len i) la (q.1.map (mi_v (mi_ad sA n0))))) :
    W p l e R s m args below meth c H locs (mem.length - m0) (mi_sl mem - s0) Q (F0 m pc la (st.map (mi_v (mi_ad sA n0)))) := by
  obtain ⟨hmt, hx, hbc, hml, hown, hts, hbad, hK, hn0, hlocks, hini, hret, hout⟩ := C
  obtain ⟨hP, hS, hmi⟩ := id hh
  have hmm := hmi.1
  obtain ⟨-, -, hO, -, -, hnm⟩ := mi_mt_inv hmt
  have hD : va_D (fun q : Nat => n0 ≤ q) (mi_w (mi_ad sA n0) aT mem) := mi_w_D
  have hA : ∀ q : Nat, s.heap.size ≤ q → n0 ≤ q := fun q hq => Nat.le_trans hn0 hq
  unfold mi_Y at h
  split at h
  · -- getfield
    obtain ⟨a, r, g, fs, v, rfl, hg, hfs, hv, rfl⟩ := mi_getf_inv h
    obtain ⟨w, hcl, hk, hl⟩ := mi_gf_inv hO hg
    obtain ⟨h13, hin, hdc, hty, hnn, -⟩ := mi_cl_inv hcl
    have h5 := mi_hi hmm hfs (Nat.lt_trans h13 (by decide))
    have he := mi_w_get (ad := mi_ad sA n0) (aT := aT) h5 hfs
    rw [mi_e_obj h13] at he
    have hv' : (fs.map (mi_v (mi_ad sA n0)))[g.2]? = some (mi_v (mi_ad sA n0) v) := by rw [List.getElem?_map, hv]; rfl
    rcases hl with hl | ⟨-, hl⟩
    · exact va_get (C := w.1) (T := w.2.1) (N := w.2.2) hx hbc hts hin hown hK hP (a - 5) he hcl g.2 hk (hts _ (mi_all_of hl rfl)) (fun _ h9 => h9) hv' hd (kk H locs hh)
    · exact va_getN (C := w.1) (T := w.2.1) (N := w.2.2) hx hbc hts hin hown hK hP (a - 5) he hcl g.2 hk (va_Nw.use rfl (hbad _ (mi_bad_of hl rfl))) (fun _ h9 => h9) hv' hd (kk H locs hh)
  · -- putfield
    obtain ⟨v, a, r, g, fs, rfl, hg, hfs, hlt, hfit, hfin, rfl⟩ := mi_putf_inv h
    obtain ⟨w, hcl, hk, hl⟩ := mi_gf_inv hO hg
    obtain ⟨h13, hin, hdc, hty, hnn, -⟩ := mi_cl_inv hcl
    have h5 := mi_hi hmm hfs (Nat.lt_trans h13 (by decide))
    have he := mi_w_get (ad := mi_ad sA n0) (aT := aT) h5 hfs
    rw [mi_e_obj h13] at he
    obtain ⟨hn, hft⟩ := mi_fit_ok (mi_ad sA n0) hfit
    have hal : a < mem.length := (List.getElem?_eq_some_iff.mp hfs).1
    have ew : (mi_w (mi_ad sA n0) aT mem).set (a - 5) (mi_ad sA n0 a, .inr (g.1, (fs.map (mi_v (mi_ad sA n0))).set g.2 (mi_v (mi_ad sA n0) v))) = mi_w (mi_ad sA n0) aT (mem.set a (g.1, fs.set g.2 v)) := by
      rw [mi_w_set h5 hal, mi_e_obj h13, List.map_set]
    have e1 : (mem.set a (g.1, fs.set g.2 v)).length = mem.length := List.length_set
    have e2 : mi_sl (mem.set a (g.1, fs.set g.2 v)) = mi_sl mem := mi_sl_set hfs (by simp)
    rw [e1, e2] at kk
    have kk' : ∀ (H1 : Heap) (locs1 : List Loc), va_P D mi_cl ((mi_w (mi_ad sA n0) aT mem).set (a - 5) (mi_ad sA n0 a, .inr (g.1, (fs.map (mi_v (mi_ad sA n0))).set g.2 (mi_v (mi_ad sA n0) v)))) H1 → va_D (fun q : Nat => n0 ≤ q) ((mi_w (mi_ad sA n0) aT mem).set (a - 5) (mi_ad sA n0 a, .inr (g.1, (fs.map (mi_v (mi_ad sA n0))).set g.2 (mi_v (mi_ad sA n0) v)))) → va_S (fun q : Nat => n0 ≤ q) s.heap H1 locs1 → W p l e R s m args below meth c H1 locs1 (mem.length - m0) (mi_sl mem - s0) Q (F0 m (pc + 3) la (r.map (mi_v (mi_ad sA n0)))) := by
      intro H1 locs1 p1 _ p3
      rw [ew] at p1
      exact kk H1 locs1 ⟨p1, p3, mi_inv_set hmi hfs (Nat.lt_trans h13 (by decide)) rfl⟩
    have hfe : mi_fin g.1 g.2 = (w.2.1 g.2).2.2.2 := by unfold mi_fin; rw [hcl]
    have hlen : g.2 < (fs.map (mi_v (mi_ad sA n0))).length := by simpa using hlt
    cases hf : (w.2.1 g.2).2.2.2
    · rcases hl with hl | ⟨-, hl⟩
      · exact va_put (C := w.1) (T := w.2.1) (N := w.2.2) hx hbc hts hin (mi_ty g.1) hty hnn hown hK hP hD hS (a - 5) he hcl g.2 hk (hts _ (mi_all_of hl rfl)) (fun _ h9 => h9) hf (hty _ hk) hn hft hlen hd kk'
      · exact va_putN (C := w.1) (T := w.2.1) (N := w.2.2) hx hbc hts hin (mi_ty g.1) hty hnn hown hK hP hD hS (a - 5) he hcl g.2 hk (va_Nw.use rfl (hbad _ (mi_bad_of hl rfl))) (fun _ h9 => h9) hf (hty _ hk) hn hft hlen hd kk'
    · rw [hfe, hf] at hfin
      obtain ⟨hi1, hi2⟩ := hfin.resolve_left (by decide)
      have hcls : w.1 = mq.1.cls := by
        have h1 := hO
        rw [hi2] at h1
        have h2 : mi_R[g.1]? = some w.1 := mi_R_cl hcl
        exact Option.some.inj (h2.symm.trans h1)
      rcases hl with hl | ⟨hno, hl⟩
      · exact va_putF (C := w.1) (T := w.2.1) (N := w.2.2) hx hbc hts hin (mi_ty g.1) hty hnn hown hK hP hD hS (a - 5) he hcl g.2 hk (hts _ (mi_all_of hl rfl)) (fun _ h9 => h9) hf (hini hi1) ((hdc _ hk).trans hcls) (hty _ hk) hn hft hlen hd kk'
      · exact (mi_gf_own hg hi2 hno).elim
  · -- getstatic
    unfold mi_gets at h
    obtain ⟨x, hx2, rfl⟩ := Option.map_eq_some_iff.mp h
    have h1 := List.all_eq_true.mp mi_gs_ok _ (mi_look hx2)
    try dsimp only at h1
    rw [hO] at h1
    exact va_gets (ref := "NineLedges") hx hbc hout.2.1 hS hown (hts _ (mi_all_of (mi_at_mem h1) rfl)) (fun _ h9 => h9) hd (kk H locs hh)
  · -- iaload
    obtain ⟨i, a, r, cc, v, rfl, hc, hk, hix, hv, rfl⟩ := mi_ial_inv h
    obtain ⟨k0, cs⟩ := cc
    have hval : cs.getD i.toNatClampNeg .null = .int v := by rw [List.getD_eq_getElem?_getD, hv]; rfl
    have kk2 := kk H locs hh
    rcases hk with hk | hk | hk
    · obtain rfl : k0 = 20 := hk
      have h5 := mi_hi hmm hc (by show 20 < 25; decide)
      have he := mi_w_get (ad := mi_ad sA n0) (aT := aT) h5 hc
      rw [mi_e_int] at he
      refine va_iald hx hbc hK hP (a - 5) 0 he rfl (mi_ix_in hix) hd ?_
      rw [hval]
      exact kk2
    · obtain rfl : k0 = 30 := hk
      obtain ⟨-, rfl, hsc⟩ := (mi_low_kind hmi hc (Or.inl rfl)).resolve_right (fun z => by cases z.1)
      try dsimp only at hsc
      subst hsc
      refine va_sld hx hbc hout.1.1 (Nat.lt_of_lt_of_le hout.1.2 hn0) (by show ¬ n0 ≤ _; exact Nat.not_le.mpr hout.1.2) hS (mi_ix_in hix) hd ?_
      rw [hval]
      exact kk2
    · obtain rfl : k0 = 32 := hk
      obtain ⟨-, rfl, hsc⟩ := (mi_low_kind hmi hc (Or.inr rfl)).resolve_left (fun z => by cases z.1)
      try dsimp only at hsc
      subst hsc
      exact va_ti hx hbc hout.2.2.1 hS (mi_ix_in hix) hval hd kk2
  · -- iastore
    obtain ⟨x, i, a, r, cs, rfl, hc, hix, rfl⟩ := mi_ias_inv h
    have h5 := mi_hi hmm hc (by show 20 < 25; decide)
    have he := mi_w_get (ad := mi_ad sA n0) (aT := aT) h5 hc
    rw [mi_e_int] at he
    have hal : a < mem.length := (List.getElem?_eq_some_iff.mp hc).1
    have e1 : (mem.set a (20, cs.set i.toNatClampNeg (.int x))).length = mem.length := List.length_set
    have e2 : mi_sl (mem.set a (20, cs.set i.toNatClampNeg (.int x))) = mi_sl mem := mi_sl_set hc (by simp)
    rw [e1, e2] at kk
    refine va_iast hx hbc hK hP hD hS (a - 5) 0 he rfl (mi_ix_in hix) hd (fun H1 locs1 p1 _ p3 => kk H1 locs1 ⟨?_, p3, mi_inv_set hmi hc (by show 20 < 25; decide) rfl⟩)
    rw [mi_w_set h5 hal, mi_e_int, mi_I_set (mi_ix_lt hix), List.length_set]
    exact p1
  · -- aaload
    obtain ⟨i, a, r, cc, b, rfl, hc, hk, hix, hv, rfl⟩ := mi_aal_inv h
    obtain ⟨k0, cs⟩ := cc
    have hval : mi_Q (mi_ad sA n0) (cs.getD i.toNatClampNeg .null) = some (mi_ad sA n0 b) := by rw [List.getD_eq_getElem?_getD, hv]; rfl
    have h5 := mi_hi hmm hc hk.2
    have he := mi_w_get (ad := mi_ad sA n0) (aT := aT) h5 hc
    rw [mi_e_ref hk.1] at he
    have kk2 := kk H locs hh
    obtain ⟨E, hE⟩ : ∃ E : String, (mi_tys aT)[k0 - 20]? = some (aT (k0 - 20), .object E) := by
      rcases (by have := hk; simp only at this; omega : k0 = 21 ∨ k0 = 22 ∨ k0 = 23 ∨ k0 = 24) with rfl | rfl | rfl | rfl <;> exact ⟨_, rfl⟩
    refine va_aldq hx hbc hK hP (a - 5) (k0 - 20) he hE (mi_ix_in hix) hd ?_
    rw [hval]
    exact kk2
  · -- aastore
    obtain ⟨b, i, a, r, cc, dd, rfl, hc, hdd, hcan, hix, rfl⟩ := mi_aas_inv h
    obtain ⟨k0, cs⟩ := cc
    obtain ⟨ci, vs⟩ := dd
    have hcan' := mi_can_lt hcan
    have hk : 20 < k0 ∧ k0 < 25 := by rcases hcan' with h | h | h | h <;> (have := h.1; simp only at this; omega)
    have hci : ci < 13 := by
      rcases hcan' with h | h | h | h <;> (have := h.2; simp only at this; omega)
    have h5 := mi_hi hmm hc hk.2
    have h5b := mi_hi hmm hdd (Nat.lt_trans hci (by decide))
    have he := mi_w_get (ad := mi_ad sA n0) (aT := aT) h5 hc
    have heb := mi_w_get (ad := mi_ad sA n0) (aT := aT) h5b hdd
    rw [mi_e_ref hk.1] at he
    rw [mi_e_obj hci] at heb
    have hal : a < mem.length := (List.getElem?_eq_some_iff.mp hc).1
    have e1 : (mem.set a (k0, cs.set i.toNatClampNeg (.ref b))).length = mem.length := List.length_set
    have e2 : mi_sl (mem.set a (k0, cs.set i.toNatClampNeg (.ref b))) = mi_sl mem := mi_sl_set hc (by simp)
    try dsimp only at kk
    rw [e1, e2] at kk
    have kk' : ∀ (H1 : Heap) (locs1 : List Loc), va_P D mi_cl ((mi_w (mi_ad sA n0) aT mem).set (a - 5) (mi_ad sA n0 a, .inl (aT (k0 - 20), cs.length, .inr (.inr (.inr (.inr (va_up (fun j => mi_Q (mi_ad sA n0) (cs.getD j .null)) i.toNatClampNeg (some (mi_ad sA n0 b))))))))) H1 → va_D (fun q : Nat => n0 ≤ q) ((mi_w (mi_ad sA n0) aT mem).set (a - 5) (mi_ad sA n0 a, .inl (aT (k0 - 20), cs.length, .inr (.inr (.inr (.inr (va_up (fun j => mi_Q (mi_ad sA n0) (cs.getD j .null)) i.toNatClampNeg (some (mi_ad sA n0 b))))))))) → va_S (fun q : Nat => n0 ≤ q) s.heap H1 locs1 → W p l e R s m args below meth c H1 locs1 (mem.length - m0) (mi_sl mem - s0) Q (F0 m (pc + 1) la (r.map (mi_v (mi_ad sA n0)))) := by
      intro H1 locs1 p1 _ p3
      refine kk H1 locs1 ⟨?_, p3, mi_inv_set hmi hc hk.2 rfl⟩
      rw [mi_w_set h5 hal, mi_e_ref hk.1, mi_Q_set (mi_ix_lt hix), List.length_set]
      exact p1
    have hcast : ∀ (C E : String) (pl : Nat), (mi_at pl (.castable C E) = true) → va_Nw (.castable C E) s := fun C E pl hz => hbad _ (mi_bad_of (mi_at_mem hz) rfl)
    rcases hcan' with ⟨h1, h2⟩ | ⟨h1, h2⟩ | ⟨h1, h2⟩ | ⟨h1, h2 | h2 | h2 | h2 | h2 | h2 | h2⟩ <;> (simp only at h1 h2; subst h1; subst h2)
    · exact va_astq hx hbc hK hP hD hS (a - 5) 1 (b - 5) 4 he rfl heb rfl (mi_ix_in hix) hd kk'
    · exact va_astq hx hbc hK hP hD hS (a - 5) 2 (b - 5) 8 he rfl heb rfl (mi_ix_in hix) hd kk'
    · exact va_astq hx hbc hK hP hD hS (a - 5) 3 (b - 5) 6 he rfl heb rfl (mi_ix_in hix) hd kk'
    · exact va_astq hx hbc hK hP hD hS (a - 5) 4 (b - 5) 9 he rfl heb rfl (mi_ix_in hix) hd kk'
    · exact va_astqO (E := RX9) hx hbc hK hP hD hS (a - 5) 4 (b - 5) 0 he rfl (hcast RX0 RX9 1532 (by decide +kernel)) heb rfl (mi_ix_in hix) hd kk'
    · exact va_astqO (E := RX9) hx hbc hK hP hD hS (a - 5) 4 (b - 5) 2 he rfl (hcast RX2 RX9 1527 (by decide +kernel)) heb rfl (mi_ix_in hix) hd kk'
    · exact va_astqO (E := RX9) hx hbc hK hP hD hS (a - 5) 4 (b - 5) 3 he rfl (hcast RX3 RX9 1528 (by decide +kernel)) heb rfl (mi_ix_in hix) hd kk'
    · exact va_astqO (E := RX9) hx hbc hK hP hD hS (a - 5) 4 (b - 5) 5 he rfl (hcast RX5 RX9 1531 (by decide +kernel)) heb rfl (mi_ix_in hix) hd kk'
    · exact va_astqO (E := RX9) hx hbc hK hP hD hS (a - 5) 4 (b - 5) 7 he rfl (hcast RX7 RX9 1530 (by decide +kernel)) heb rfl (mi_ix_in hix) hd kk'
    · exact va_astqO (E := RX9) hx hbc hK hP hD hS (a - 5) 4 (b - 5) 10 he rfl (hcast RX10 RX9 1529 (by decide +kernel)) heb rfl (mi_ix_in hix) hd kk'
  · -- arraylength
    obtain ⟨a, r, cc, rfl, hc, hk, rfl⟩ := mi_aln_inv h
    obtain ⟨k0, cs⟩ := cc
    have kk2 := kk H locs hh
    rcases hk with hk | hk
    · have h5 := mi_hi hmm hc hk.2
      have he := mi_w_get (ad := mi_ad sA n0) (aT := aT) h5 hc
      by_cases h20 : k0 = 20
      · subst h20
        rw [mi_e_int] at he
        exact va_alen hx hbc hK hP (a - 5) 0 he rfl rfl hd kk2
      · have h21 : 20 < k0 := by have := hk.1; simp only at this; omega
        rw [mi_e_ref h21] at he
        obtain ⟨E, hE⟩ : ∃ E : String, (mi_tys aT)[k0 - 20]? = some (aT (k0 - 20), .object E) := by
          rcases (by have := hk; simp only at this; omega : k0 = 21 ∨ k0 = 22 ∨ k0 = 23 ∨ k0 = 24) with rfl | rfl | rfl | rfl <;> exact ⟨_, rfl⟩
        exact va_alen hx hbc hK hP (a - 5) (k0 - 20) he hE rfl hd kk2
    · obtain rfl : k0 = 30 := hk
      obtain ⟨-, rfl, hsc⟩ := (mi_low_kind hmi hc (Or.inl rfl)).resolve_right (fun z => by cases z.1)
      try dsimp only at hsc
      subst hsc
      exact va_slen hx hbc hout.1.1 (Nat.lt_of_lt_of_le hout.1.2 hn0) (by show ¬ n0 ≤ _; exact Nat.not_le.mpr hout.1.2) hS hd kk2
  · -- newarray
    obtain ⟨n, r, rfl, hn1, hn2, rfl⟩ := mi_nwa_inv h
    have hlen5 := mi_len5 hmm
    have hnn : ¬ n < 0 := fun z => by
      have := Int32.lt_iff_toInt_lt.mp z
      simp at this
      omega
    have hcl : (n.toNatClampNeg : Int) = n.toInt := by
      show ((n.toInt.toNat : Nat) : Int) = _
      omega
    have e1 : (mem ++ [((20 : Nat), List.replicate n.toNatClampNeg (Value.int 0))]).length - m0 = mem.length - m0 + 1 := by simp; omega
    have e2 : mi_sl (mem ++ [((20 : Nat), List.replicate n.toNatClampNeg (Value.int 0))]) - s0 = mi_sl mem - s0 + n.toNatClampNeg := by rw [mi_sl_app]; simp; omega
    rw [e1, e2] at kk hR
    refine mi_size (n := n0 + (mem.length - 5)) (mi_hd_size hh hn0) (by omega) fun hsz => ?_
    refine va_newaK (atype := .int) hx hbc (hts (.arrayClass .int) (mi_all_of (mi_at_mem (pl := 236) (by decide +kernel)) rfl)) rfl hd rfl hnn rfl (by show _ * 4 ≤ _; omega) hR.1 hR.2 hsz fun H1 cA g1 g2 g3 g4 g5 => ?_
    have hcA : cA = aT 0 := by
      have h1 := (hK.2 0 _ rfl).2
      exact Option.some.inj (g5.symm.trans h1)
    subst hcA
    have kk2 := kk H1 locs ⟨?_, ⟨by rw [g2]; have := hS.1; omega, fun x h1 h2 => (g3 x (by have := hS.1; omega)).trans (hS.2.1 x h1 h2), hS.2.2⟩, mi_inv_app hmi (by show 20 < 25; decide)⟩
    · have e3 : mi_ad sA n0 mem.length = n0 + (mem.length - 5) := mi_ad_hi hlen5
      have e4 : mi_v (mi_ad sA n0) (.ref mem.length) = .ref (n0 + (mem.length - 5)) := by rw [← e3]; rfl
      rw [List.map_cons, e4] at kk2
      exact kk2
    · rw [mi_w_app hlen5]
      refine (hP.kept (fun k x hx => g3 x.1 (by rw [← hsz]; exact (hP k x hx).lt))).app (fun k x hx => ?_)
      have hz : k < 1 := (List.getElem?_eq_some_iff.mp hx).1
      rw [show k = 0 by omega] at hx
      cases hx
      rw [mi_e_int, mi_ad_hi hlen5]
      show H1[n0 + (mem.length - 5)]? = some (vp_cell _ _)
      rw [vp_cell_i, g1, List.length_replicate]
      refine congrArg some (mi_arrV fun j hj => ?_)
      rw [List.getD_eq_getElem?_getD, List.getElem?_replicate, if_pos hj]
      rfl
  · -- anewarray
    obtain ⟨n, r, g, rfl, hg, hn1, hn2, rfl⟩ := mi_nwq_inv h
    have hlen5 := mi_len5 hmm
    have h1 := List.all_eq_true.mp mi_al_ok _ (mi_look hg)
    try dsimp only at h1
    rw [hO] at h1
    simp only [Bool.and_eq_true, decide_eq_true_eq] at h1
    obtain ⟨⟨⟨hg0, hg5⟩, hl1⟩, hl2⟩ := h1
    have hnn : ¬ n < 0 := fun z => by
      have := Int32.lt_iff_toInt_lt.mp z
      simp at this
      omega
    have hcl : (n.toNatClampNeg : Int) = n.toInt := by
      show ((n.toInt.toNat : Nat) : Int) = _
      omega
    have e1 : (mem ++ [((20 + g.1 : Nat), List.replicate n.toNatClampNeg Value.null)]).length - m0 = mem.length - m0 + 1 := by simp; omega
    have e2 : mi_sl (mem ++ [((20 + g.1 : Nat), List.replicate n.toNatClampNeg Value.null)]) - s0 = mi_sl mem - s0 + n.toNatClampNeg := by rw [mi_sl_app]; simp; omega
    rw [e1, e2] at kk hR
    refine mi_size (n := n0 + (mem.length - 5)) (mi_hd_size hh hn0) (by omega) fun hsz => ?_
    refine W.anew hx hbc hown (hts _ (mi_all_of (mi_at_mem hl1) rfl)) (va_AO.use (hbad _ (mi_bad_of (mi_at_mem hl2) rfl))) rfl hd rfl hnn (by omega) hR.1 hR.2 fun cA kA comp f1 f2 f3 f4 => ?_
    have hE : (mi_tys aT)[g.1]? = some (aT g.1, .object (mi_an g.1)) := by
      rcases (by omega : g.1 = 1 ∨ g.1 = 2 ∨ g.1 = 3 ∨ g.1 = 4) with h | h | h | h <;> (rw [h]; rfl)
    have hcA : cA = aT g.1 := by
      obtain ⟨k1, c1, -, -, -, h4⟩ := (hK.2 g.1 _ hE).2
      exact Option.some.inj (f1.symm.trans h4)
    subst hcA
    generalize hH1 : H.push ({ cls := aT g.1, slots := Array.replicate n.toNatClampNeg .null, vm := .none } : Cell) = H1
    have z1 : H1.size = H.size + 1 := by rw [← hH1, Array.size_push]
    have z2 : H1[H.size]? = some (arrV (aT g.1) n.toNatClampNeg (fun _ => .null)) := by rw [← hH1, Array.getElem?_push_size, ← arrV_new]
    have z3 : ∀ q : Nat, q < H.size → H1[q]? = H[q]? := fun q hq => by rw [← hH1, Array.getElem?_push, if_neg (Nat.ne_of_lt hq)]
    have kk2 := kk H1 locs ⟨?_, ⟨by rw [z1]; have := hS.1; omega, fun x h1 h2 => (z3 x (by have := hS.1; omega)).trans (hS.2.1 x h1 h2), hS.2.2⟩, mi_inv_app hmi (by show 20 + g.1 < 25; omega)⟩
    · have e3 : mi_ad sA n0 mem.length = n0 + (mem.length - 5) := mi_ad_hi hlen5
      have e4 : mi_v (mi_ad sA n0) (.ref mem.length) = .ref H.size := by rw [hsz, ← e3]; rfl
      rw [List.map_cons, e4] at kk2
      exact kk2
    · rw [mi_w_app hlen5]
      refine (hP.kept (fun k x hx => z3 x.1 (hP k x hx).lt)).app (fun k x hx => ?_)
      have hz : k < 1 := (List.getElem?_eq_some_iff.mp hx).1
      rw [show k = 0 by omega] at hx
      cases hx
      rw [mi_e_ref (by omega), mi_ad_hi hlen5, Nat.add_sub_cancel_left]
      show H1[n0 + (mem.length - 5)]? = some (vp_cell _ _)
      rw [vp_cell_q, ← hsz, z2, List.length_replicate]
      refine congrArg some (mi_arrV fun j hj => ?_)
      rw [List.getD_eq_getElem?_getD, List.getElem?_replicate, if_pos hj]
      rfl
  · -- new
    obtain ⟨g, fs, hg, hfs, rfl⟩ := mi_nw_inv h
    have hlen5 := mi_len5 hmm
    have h1 := List.all_eq_true.mp mi_nl_ok _ (mi_look hg)
    try dsimp only at h1
    rw [hO] at h1
    split at h1
    next O' w hO' hcl =>
      cases hO'
      simp only [Bool.and_eq_true, decide_eq_true_eq] at h1
      obtain ⟨h13, hin, hdc, hty, hnn, ⟨fs', hfs', hfl, hdef⟩, hinst, hinit⟩ := mi_cl_inv hcl
      obtain rfl : fs' = fs := Option.some.inj (hfs'.symm.trans hfs)
      have e1 : (mem ++ [(g.1, fs')]).length - m0 = mem.length - m0 + 1 := by simp; omega
      have e2 : mi_sl (mem ++ [(g.1, fs')]) - s0 = mi_sl mem - s0 + w.2.2 := by rw [mi_sl_app, ← hfl]; dsimp only; omega
      rw [e1, e2] at kk hR
      refine mi_size (n := n0 + (mem.length - 5)) (mi_hd_size hh hn0) (by omega) fun hsz => ?_
      have hKn := hK.1 g.1 _ hcl
      refine W.newcK hx hbc hown (hts _ (mi_all_of (mi_at_mem h1.2) rfl)) (hts _ (mi_all_of hinst rfl)) (hts _ (mi_all_of hinit rfl)) rfl hd hR.1 hR.2 hKn.2.1 hsz fun H1 kC hkC g1 g2 g3 => ?_
      have kk2 := kk H1 locs ⟨?_, ⟨by rw [g2]; have := hS.1; omega, fun x h1 h2 => (g3 x (by have := hS.1; omega)).trans (hS.2.1 x h1 h2), hS.2.2⟩, mi_inv_app hmi (by show g.1 < 25; omega)⟩
      · have e3 : mi_ad sA n0 mem.length = n0 + (mem.length - 5) := mi_ad_hi hlen5
        have e4 : mi_v (mi_ad sA n0) (.ref mem.length) = .ref (n0 + (mem.length - 5)) := by rw [← e3]; rfl
        rw [List.map_cons, e4] at kk2
        exact kk2
      · rw [mi_w_app hlen5]
        refine (hP.kept (fun k x hx => g3 x.1 (by rw [← hsz]; exact (hP k x hx).lt))).app (fun k x hx => ?_)
        have hz : k < 1 := (List.getElem?_eq_some_iff.mp hx).1
        rw [show k = 0 by omega] at hx
        cases hx
        rw [mi_e_obj h13, mi_ad_hi hlen5]
        refine ⟨_, hcl, (u_born (mi_ty g.1) hts hin hKn hkC g1 hty).to fun k hk => ?_⟩
        rw [hdef k hk]
        have hl2 : k < fs'.length := by omega
        unfold vp_V
        rw [List.getD_eq_getElem?_getD, List.getD_eq_getElem?_getD, List.getElem?_map, List.getElem?_eq_getElem hl2]
        exact (mi_v_def hfs hl2).symm
    next => cases h1
  · -- ldc
    unfold mi_ldk at h
    split at h
    next x hx2 =>
      cases h
      have h1 := List.all_eq_true.mp mi_kc_ok _ (mi_look hx2)
      try dsimp only at h1
      rw [hO] at h1
      exact lv_ldc hx hbc hown (hts _ (mi_all_of (mi_at_mem h1) rfl)) hd (kk H locs hh)
    next =>
      obtain ⟨x, hx2, rfl⟩ := Option.map_eq_some_iff.mp h
      have h1 := mi_look hx2
      have kk2 := kk H locs hh
      simp only [mi_ks, List.mem_cons, Prod.mk.injEq, List.not_mem_nil, or_false] at h1
      rcases h1 with ⟨⟨h1, rfl⟩, rfl⟩ | ⟨⟨h1, rfl⟩, rfl⟩ | ⟨⟨h1, rfl⟩, rfl⟩
      all_goals (rw [h1] at hO; have hcls := Option.some.inj hO)
      · exact va_ldcS hx hbc (by rw [← hcls] at hown; exact hown) hout.2.2.2.1 hd kk2
      · exact va_ldcS hx hbc (by rw [← hcls] at hown; exact hown) hout.2.2.2.2.1 hd kk2
      · exact va_ldcS hx hbc (by rw [← hcls] at hown; exact hown) hout.2.2.2.2.2.1 hd kk2
  · -- ldc2
    unfold mi_ldk2 at h
    obtain ⟨x, hx2, rfl⟩ := Option.map_eq_some_iff.mp h
    have h1 := List.all_eq_true.mp mi_kl_ok _ (mi_look hx2)
    try dsimp only at h1
    rw [hO] at h1
    exact lv_ldc2 hx hbc hown (hts _ (mi_all_of (mi_at_mem h1) rfl)) hd (kk H locs hh)
  · -- ldcw
    unfold mi_ldw at h
    obtain ⟨x, hx2, rfl⟩ := Option.map_eq_some_iff.mp h
    have h1 := List.all_eq_true.mp mi_kc_ok _ (mi_look hx2)
    try dsimp only at h1
    rw [hO] at h1
    exact lv_ldcw hx hbc hown (hts _ (mi_all_of (mi_at_mem h1) rfl)) hd (kk H locs hh)
  · cases h
end MIY
