/-! THE CLAIM OUT OF ONE WALK OF THE LAW'S BODY. Your part is whole_start (and what it stands on); all else here is the same for every law, but numbers. -/
def R_law : String := "NineLedgesLaw"
def lw_P (b : Addr) (xs : List Int32) (args : Array Value) (s : State) : Prop := args = #[.ref b] ∧ s.IntsAt b xs ∧ xs.length ≤ 3072 ∧ (Jvm.Cond.and given_1 narrow_1).before args s = true
def lw_Q (_ : Array Value) (s : State) (o : Outcome) (t : State) : Prop := o = .returned (some (.int 1)) ∧ Framed s o t [] 600000 7302250
def lw_Z (below : List Frame) (a : Array Value) (s : State) : State → Prop := fun t => ∃ o, t.status = .running ∧ Ended t below o ∧ lw_Q a s o t
/-- the law's own end, with 1 on the stack, nothing written that was there before, its room as the claim has it -/
theorem lw_ret {p : Program} {l : Launch} {e : Env} {s : State} {m : MethodId} {below : List Frame} {meth : Method} {c : Code} {b : Nat} (hx : p.tables.exec = Jvm.exec) (hb : c.code = code) (hr : meth.sig.returnType = ret) (hlocks : meth.locks = false) {pc : Nat} {H : Heap} {ls : Array Slot} (hdg : decode code pc = .ok (.ireturn, 1)) : W p l e room_1 s m #[Value.ref b] below meth c H [] 600000 7302250 (lw_Z below #[Value.ref b] s) (F0 m pc ls [.int 1]) := by
  intro T hT X
  obtain ⟨fs, hret, hrun, hended, hW, hframe⟩ := X.leave (v := some (.int 1)) (hlocks := hlocks) (fun h => by rw [hr] at h; cases h)
  have hmeth' : T.vm.method? m = some meth := X.method'
  refine ⟨T.setFrames fs, ?_, .returned (some (.int 1)), hrun, hended, rfl, ⟨_, rfl⟩, hW, hframe⟩
  jvm_step X.here [X.here.top, hx, hb, hdg, hmeth', hr, ret, narrow_b1]
  (try refine ⟨rfl, ?_⟩); (try refine ⟨rfl, ?_⟩)
  first | (intro acts; rw [hret _ acts rfl rfl rfl]) | rw [hret _ _ rfl rfl rfl]
  exact Steps.refl _
/-- what holds at the law's entry: the machine, the code, the tables' words (any of lw_tbl by 'hts w (by decide +kernel)'), the script of L ints xs at the cell b, what the Statement gives of the start (any of its parts by flat_of_before) -/
def lw_At (p : Program) (s : State) (m : MethodId) (meth : Method) (c : Code) (b L : Nat) (xs : Nat → Int32) : Prop :=
  p.tables.exec = Jvm.exec ∧ c.code = code ∧ meth.sig.returnType = ret ∧ c.maxLocals = 4 ∧ s.vm.findClass R_law = some m.cls ∧ (∀ w ∈ lw_tbl, w.before #[Value.ref b] s = true) ∧ va_X b L xs s s.heap ∧ b < s.heap.size ∧ meth.locks = false ∧ (Jvm.Cond.and given_1 narrow_1).before #[Value.ref b] s = true

/-! the law's start, as MINI has it -/
def mi_sc (L : Nat) (xs : Nat → Int32) : List Value := (List.range L).map (fun j => .int (xs j))
/-- what is left to show: MINI's run of the law on the script comes to 1, in the room -/
def mi_pure (L : Nat) (xs : Nat → Int32) : Prop := ∃ (N : Nat) (mem' : mi_M), mi_go (mi_run N 1000) 13 false true mi_k231 N 0 (mi_ent [.ref 0] 4) [] (mi_spec (mi_sc L xs)) = some (some (.int 1), mem') ∧ mem'.length ≤ 1000 ∧ mi_sl mem' ≤ 1000000
def mi_tm (i : Nat) : Term := match i with
  | 0 => .string "NineLedges$Text" 33
  | 1 => .string "NineLedges" 172
  | _ => .string "NineLedges" 174
def mi_flat : List Jvm.Cond := flatC (Jvm.Cond.and given_1 narrow_1)
theorem mi_fl1 : Jvm.Cond.arrayOf (.static "NineLedges" "ABOVE" "[I") .int ∈ mi_flat ∧ Jvm.Cond.eq (.length (.static "NineLedges" "ABOVE" "[I")) (.int 7) ∈ mi_flat ∧
  (∀ j, j < 7 → Jvm.Cond.eq (.elem (.static "NineLedges" "ABOVE" "[I") (.int (Int32.ofNat j))) (.int ([(-1 : Int32), 0, 0, 0, 1, 2, 3].getD j 0)) ∈ mi_flat) ∧ Jvm.Cond.eq (.static "java/lang/String" "COMPACT_STRINGS" "Z") (.int 1) ∈ mi_flat := by decide +kernel
theorem mi_fl2 : ∀ i, i < 3 → Jvm.Cond.exactly (mi_tm i) "java/lang/String" ∈ mi_flat ∧ Jvm.Cond.eq (.field (mi_tm i) "java/lang/String" "coder" "B") (.int 0) ∈ mi_flat ∧ Jvm.Cond.arrayOf (.field (mi_tm i) "java/lang/String" "value" "[B") .byte ∈ mi_flat ∧ Jvm.Cond.eq (.length (.field (mi_tm i) "java/lang/String" "value" "[B")) (.int (Int32.ofNat ([0, 3, 3].getD i 0))) ∈ mi_flat ∧
  ∀ j, j < [0, 3, 3].getD i 0 → Jvm.Cond.eq (.elem (.field (mi_tm i) "java/lang/String" "value" "[B") (.int (Int32.ofNat j))) (.int ((([[], [108, 110, 98], [108, 107, 116]] : List (List Int32)).getD i []).getD j 0)) ∈ mi_flat := by decide +kernel
theorem mi_fl3 : ∀ i, i < 3 → ∀ j, j < 3 → i ≠ j → Jvm.Cond.not (.eq (mi_tm i) (mi_tm j)) ∈ mi_flat ∨ Jvm.Cond.not (.eq (mi_tm j) (mi_tm i)) ∈ mi_flat := by decide +kernel
theorem mi_ls : Jvm.Cond.laysStatic "NineLedges" "ABOVE" "[I" ∈ lw_tbl ∧ Jvm.Cond.laysStatic "java/lang/String" "COMPACT_STRINGS" "Z" ∈ lw_tbl ∧ Jvm.Cond.stringRef "NineLedges$Text" 33 "" ∈ lw_tbl ∧ Jvm.Cond.stringRef "NineLedges" 172 "lnb" ∈ lw_tbl ∧ Jvm.Cond.stringRef "NineLedges" 174 "lkt" ∈ lw_tbl ∧ Jvm.Cond.arrayClass .int ∈ lw_tbl ∧ Jvm.Cond.initialized "NineLedges" ∈ lw_tbl ∧ (∀ k, 0 < k → k < 5 → Jvm.Cond.arrayOver (.object (mi_an k)) ∈ lw_tbl) := by
  refine ⟨mi_at_mem (pl := 580) (by decide +kernel), mi_at_mem (pl := 627) (by decide +kernel), mi_at_mem (pl := 266) (by decide +kernel), mi_at_mem (pl := 604) (by decide +kernel), mi_at_mem (pl := 605) (by decide +kernel), mi_at_mem (pl := 236) (by decide +kernel), mi_at_mem (pl := 71) (by decide +kernel), fun k h0 h5 => ?_⟩
  rcases (by omega : k = 1 ∨ k = 2 ∨ k = 3 ∨ k = 4) with rfl | rfl | rfl | rfl
  · exact mi_at_mem (pl := 156) (by decide +kernel)
  · exact mi_at_mem (pl := 256) (by decide +kernel)
  · exact mi_at_mem (pl := 347) (by decide +kernel)
  · exact mi_at_mem (pl := 100) (by decide +kernel)
theorem mi_law_at : mi_mt[231]? = some (yL_law, cL_law, 4, some .boolean, 13, 99999, mi_k231) := by
  unfold mi_mt
  rfl
theorem mi_bt_law : mi_bt (yL_law, cL_law, 4, some .boolean, 13, 99999, mi_k231) = code := by
  unfold mi_bt
  rw [show mi_cw 99999 = none from mi_cw_law]
theorem mi_ii_law : mi_ii.contains 231 = false := by decide +kernel
set_option maxHeartbeats 4000000 in
theorem mi_start {p : Program} {e : Env} {s : State} {m : MethodId} {below : List Frame} {meth : Method} {c : Code} (l : Launch) {b L : Nat} {xs : Nat → Int32} (C0 : lw_At p s m meth c b L xs) (hp : mi_pure L xs) : W p l e room_1 s m #[Value.ref b] below meth c s.heap [] 0 0 (lw_Z below #[Value.ref b] s) (entryFrame m ([Value.ref b] : List Value).toArray 4) := by
  obtain ⟨hx, hb, hr, hml, hown, hts, hX, hbl, hlocks, hgv⟩ := C0
  have hs : ∀ w ∈ mi_flat, w.before #[Value.ref b] s = true := flat_of_before _ hgv
  generalize hn0 : s.heap.size = n0 at hbl
  have hA : ∀ a : Nat, a < s.heap.size → ¬ (fun q : Nat => n0 ≤ q) a := fun a ha => by rw [hn0] at ha; exact Nat.not_le.mpr ha
  obtain ⟨f1, f2, f3, f4⟩ := mi_fl1
  obtain ⟨w1, w2, w3, w4, w5, w6, w7, w8⟩ := mi_ls
  -- ABOVE
  obtain ⟨tA, hA1, hA2⟩ := va_Tof (args := #[Value.ref b]) (s := s) (tm := .static "NineLedges" "ABOVE" "[I") (N := 7) (f := fun j => [Value.int (-1), .int 0, .int 0, .int 0, .int 1, .int 2, .int 3].getD j .null) (A := fun q : Nat => n0 ≤ q) (by decide) (hs _ f1) (va_eqt (hs _ f2)) (fun j hj => by
    have h1 := va_eqt (hs _ (f3 j hj))
    rcases (by omega : j = 0 ∨ j = 1 ∨ j = 2 ∨ j = 3 ∨ j = 4 ∨ j = 5 ∨ j = 6) with rfl | rfl | rfl | rfl | rfl | rfl | rfl <;> exact h1) hA
  have hZA := va_Zref (A := fun q : Nat => n0 ≤ q) (hts _ w1) (hts _ w7) hA1 hA
  have hZC := va_Zof (A := fun q : Nat => n0 ≤ q) (hts _ w2) (hts _ (mi_at_mem (pl := 85) (by decide +kernel))) (va_eqi (hs _ f4)) hA
  -- the texts
  obtain ⟨adK, adV, hK1, hK2⟩ := vk_Sof (args := #[Value.ref b]) (s := s) (N := 3) (tm := mi_tm) (len := [0, 3, 3]) (byt := [[], [108, 110, 98], [108, 107, 116]]) (A := fun q : Nat => n0 ≤ q) (by decide) (fun i hi => hs _ (mi_fl2 i hi).1) (fun i hi => hs _ (mi_fl2 i hi).2.1) (fun i hi => hs _ (mi_fl2 i hi).2.2.1) (fun i hi => hs _ (mi_fl2 i hi).2.2.2.1) (fun i hi j hj => hs _ ((mi_fl2 i hi).2.2.2.2 j hj)) (fun i j hi hj hij => (mi_fl3 i hi j hj hij).imp (hs _) (hs _)) hA
  generalize hsA : (fun a : Nat => if a = 0 then b else if a = 4 then tA else adK (a - 1)) = sA
  have a0 : mi_ad sA n0 0 = b := by rw [← hsA]; rfl
  have a4 : mi_ad sA n0 4 = tA := by rw [← hsA]; rfl
  have aK : ∀ i, i < 3 → mi_ad sA n0 (i + 1) = adK i := by
    intro i hi
    rw [← hsA]
    rcases (by omega : i = 0 ∨ i = 1 ∨ i = 2) with rfl | rfl | rfl <;> rfl
  -- the classes
  obtain ⟨dC, hdC⟩ : ∃ dC : Nat → ClassId × (Nat → Nat), ∀ (k : Nat) (q : vw_C), mi_cl[k]? = some q → u_Kn s q.1 q.2.1 q.2.2 (dC k).1 (dC k).2 := by
    have h0 : ∀ k : Nat, ∃ z : ClassId × (Nat → Nat), ∀ q : vw_C, mi_cl[k]? = some q → u_Kn s q.1 q.2.1 q.2.2 z.1 z.2 := by
      intro k
      cases hk : mi_cl[k]? with
      | none => exact ⟨(0, fun _ => 0), fun q h => by cases h⟩
      | some q =>
        obtain ⟨-, hin, -, -, -, -, hinst, -⟩ := mi_cl_inv hk
        obtain ⟨cC, iS, h⟩ := u_known (args := #[Value.ref b]) (ws := lw_tbl) hts (fun w hw => (List.mem_filter.mp (hin w hw)).1) (hts _ hinst)
        exact ⟨(cC, iS), fun q' h' => by cases h'; exact h⟩
    exact ⟨fun k => Classical.choose (h0 k), fun k => Classical.choose_spec (h0 k)⟩
  obtain ⟨aT, haT⟩ : ∃ aT : Nat → ClassId, ∀ (k : Nat) (q : ClassId × FieldType), (mi_tys aT)[k]? = some q → ArrOfT s q.1 q.2 ∧ va_RA s q.1 q.2 := by
    obtain ⟨c0, k0, comp0, g1, g2, g3⟩ := Cond.arrayClass_spec (show (Jvm.Cond.arrayClass .int).holds #[Value.ref b] s none s [] = true from hts _ w6)
    have h0 : ∀ k : Nat, ∃ z : ClassId, 0 < k → k < 5 → ArrOfT s z (.object (mi_an k)) ∧ va_RA s z (.object (mi_an k)) := by
      intro k
      by_cases hk : 0 < k ∧ k < 5
      · obtain ⟨comp, c, kk, h1, h2, h3, h4, h5⟩ := Cond.arrayOver_spec (show (Jvm.Cond.arrayOver (.object (mi_an k))).holds #[Value.ref b] s none s [] = true from hts _ (w8 k hk.1 hk.2))
        exact ⟨c, fun _ _ => ⟨fun N z => ⟨(fun k h => by cases h), kk, h3, comp, h4⟩, kk, comp, h3, h4, h1, h5⟩⟩
      · exact ⟨0, fun a b => absurd ⟨a, b⟩ hk⟩
    refine ⟨fun k => if k = 0 then c0 else Classical.choose (h0 k), fun k q hq => ?_⟩
    rcases (by have := (List.getElem?_eq_some_iff.mp hq).1; simp only [mi_tys, List.length_cons, List.length_nil] at this; omega : k = 0 ∨ k = 1 ∨ k = 2 ∨ k = 3 ∨ k = 4) with rfl | rfl | rfl | rfl | rfl
    · cases hq
      exact ⟨fun N z => ⟨(fun k h => by cases h), k0, g2, comp0, g3⟩, g1⟩
    all_goals (cases hq; exact Classical.choose_spec (h0 _) (by decide) (by decide))
  have hK : va_K (fun k => (dC k).1, fun k => (dC k).2) mi_cl (mi_tys aT) s := ⟨hdC, haT⟩
  -- what lies outside
  have hsc : (mi_sc L xs).length = L := by simp [mi_sc]
  have hout : mi_out (mi_ad sA n0) n0 (mi_sc L xs) s s.heap := by
    refine ⟨⟨?_, by rw [a0]; exact hbl⟩, by rw [a4]; exact hZA, by rw [a4]; exact hA2, ?_, ?_, ?_, ⟨adV, ?_⟩, hZC⟩
    · rw [a0, hsc]
      obtain ⟨scr, g1, g2, g3, g4, g5⟩ := hX
      refine ⟨scr, g1, g2, g3, g4, fun j hj => ?_⟩
      rw [g5 j hj]
      have e : (mi_sc L xs).getD j .null = .int (xs j) := by
        unfold mi_sc
        rw [List.getD_eq_getElem?_getD, List.getElem?_map, List.getElem?_range hj]
        rfl
      show some (Value.int (xs j)) = some (Value.int (mi_I ((mi_sc L xs).getD j .null)))
      rw [e]
      rfl
    · rw [aK 0 (by decide)]
      exact vk_R.of (hts _ w3) (hK2 0 (by decide))
    · rw [aK 1 (by decide)]
      exact vk_R.of (hts _ w4) (hK2 1 (by decide))
    · rw [aK 2 (by decide)]
      exact vk_R.of (hts _ w5) (hK2 2 (by decide))
    · refine ⟨fun i hi => ?_, fun i j hi hj h => hK1.2 i j hi hj (by rw [← aK i hi, ← aK j hj]; exact h)⟩
      have h := hK1.1 i hi
      rw [← aK i hi] at h
      exact h
  obtain ⟨N, mem', hgo, hr1, hr2⟩ := hp
  have hin5 : mi_inv (mi_sc L xs) (mi_spec (mi_sc L xs)) := ⟨rfl, fun a c h5 hc => by rw [List.getElem?_eq_none (by show 5 ≤ a; exact h5)] at hc; cases hc⟩
  have hbadw : ∀ w ∈ mi_bad, va_Nw w s := by
    intro w hw
    obtain ⟨h1, h2⟩ := List.mem_filter.mp hw
    have h3 := hts w h1
    unfold mi_bw at h2
    split at h2
    · exact va_Nw.of rfl h3
    · exact va_Nw.of rfl h3
    · exact va_Nw.of rfl h3
    · exact h3
    · cases h2
  have C : mi_cx p s m #[Value.ref b] meth c 231 (yL_law, cL_law, 4, some .boolean, 13, 99999, mi_k231) sA n0 (mi_sc L xs) (fun k => (dC k).1, fun k => (dC k).2) aT :=
    ⟨mi_law_at, hx, by rw [hb, mi_bt_law], hml, hown, fun w hw => hts w (List.mem_filter.mp hw).1, hbadw, hK, by rw [hn0]; exact Nat.le_refl _, hlocks, fun h => absurd h (by decide +kernel), by rw [hr]; rfl, hout⟩
  have hh : mi_hd sA n0 (mi_sc L xs) (fun k => (dC k).1, fun k => (dC k).2) aT s (mi_spec (mi_sc L xs)) s.heap [] := ⟨fun k q h => by simp [mi_w, mi_spec] at h, va_S.rf, hin5⟩
  have hrun := mi_run_ok (l := l) (sA := sA) (n0 := n0) (sc := mi_sc L xs) (D := (fun k => (dC k).1, fun k => (dC k).2)) (aT := aT) (mi_str l _ _) N 1000
  have hsl0 : mi_sl (mi_spec (mi_sc L xs)) = L + 13 := by simp [mi_sl, mi_spec, hsc]
  have hg := mi_go_gr hrun _ _ _ _ _ _ hin5 hgo
  rw [lg_entry_eq]
  have hent : mi_has (mi_ad sA n0) 4 ((lg_sl [Value.ref b] ++ List.replicate (4 - (lg_sl [Value.ref b]).length) Slot.unset).toArray) (mi_ent [.ref 0] 4) := by
    have h := mi_entry (ad := mi_ad sA n0) (as := [.ref 0]) (n := 4) (by decide)
    rw [show ([Value.ref 0].map (mi_v (mi_ad sA n0))) = [Value.ref b] by rw [← a0]; rfl] at h
    exact h
  have hend := mi_go_sound (R := room_1) (l := l) (e := e) (below := below) (Q := lw_Z below #[Value.ref b] s) (m0 := 5) (s0 := L + 13) (d := 1000) (r := some (.int 1)) (mem' := mem') (rz := true) C ⟨Nat.le_refl _, by rw [hn0]; rfl⟩ hrun (fun _ => by decide) (mi_str l _ _) ⟨Nat.le_of_ble_eq_true rfl, Nat.le_of_ble_eq_true rfl⟩ ⟨Nat.le_trans (Nat.sub_le _ _) (Nat.le_trans hr1 (Nat.le_of_ble_eq_true rfl)), Nat.le_trans (Nat.sub_le _ _) (Nat.le_trans hr2 (Nat.le_of_ble_eq_true rfl))⟩ (by
    intro H locs la pc i st hrr hi hd hh'
    unfold mi_ret at hrr
    split at hrr
    · split at hrr
      next v =>
        split at hrr
        next hz =>
          cases hrr
          refine W.widen (k := 600000) (n := 7302250) (Nat.le_trans (Nat.sub_le _ _) (Nat.le_trans hr1 (Nat.le_of_ble_eq_true rfl))) (Nat.le_trans (Nat.sub_le _ _) (Nat.le_trans hr2 (Nat.le_of_ble_eq_true rfl))) ?_
          refine va_forget (fun q hq => by rw [hn0]; exact hh'.2.1.2.2 q hq) ?_
          exact lw_ret hx hb hr hlocks (by rw [mi_bt_law] at hd; exact hd)
        · cases hrr
      · cases hrr
    · split at hrr
      · cases hrr
      · cases hrr
    · cases hrr) N 0 (mi_ent [.ref 0] 4) [] (mi_spec (mi_sc L xs)) s.heap [] _ (by rw [mi_ii_law]; exact hgo) hent hh ⟨Nat.le_refl _, by rw [hsl0]; exact Nat.le_refl _⟩
  rw [hsl0, Nat.sub_self] at hend
  exact hend
