/-! all methods are decoded -/
theorem mi_all8 {α : Type} (f : α → Bool) (l : List α) (n : Nat) (h0 : (l.take n).all f = true) (h1 : (l.drop n).all f = true) : l.all f = true := by
  rw [← List.take_append_drop n l, List.all_append, h0, h1]
  rfl
theorem mi_dm_0 : mi_mt_0.all mi_dchk = true := by
  refine mi_all8 _ _ 8 mi_d0_0 (mi_all8 _ _ 8 mi_d0_8 (mi_all8 _ _ 8 (by rw [List.drop_drop]; exact mi_d0_16) (mi_all8 _ _ 8 (by rw [List.drop_drop, List.drop_drop]; exact mi_d0_24) ?_)))
  rw [List.drop_drop, List.drop_drop, List.drop_drop]
  refine mi_all8 _ _ 8 mi_d0_32 ?_
  rw [List.drop_drop]
  rfl
theorem mi_dm_1 : mi_mt_1.all mi_dchk = true := by
  refine mi_all8 _ _ 8 mi_d1_0 (mi_all8 _ _ 8 mi_d1_8 (mi_all8 _ _ 8 (by rw [List.drop_drop]; exact mi_d1_16) (mi_all8 _ _ 8 (by rw [List.drop_drop, List.drop_drop]; exact mi_d1_24) ?_)))
  rw [List.drop_drop, List.drop_drop, List.drop_drop]
  refine mi_all8 _ _ 8 mi_d1_32 ?_
  rw [List.drop_drop]
  rfl
theorem mi_dm_2 : mi_mt_2.all mi_dchk = true := by
  refine mi_all8 _ _ 8 mi_d2_0 (mi_all8 _ _ 8 mi_d2_8 (mi_all8 _ _ 8 (by rw [List.drop_drop]; exact mi_d2_16) (mi_all8 _ _ 8 (by rw [List.drop_drop, List.drop_drop]; exact mi_d2_24) ?_)))
  rw [List.drop_drop, List.drop_drop, List.drop_drop]
  refine mi_all8 _ _ 8 mi_d2_32 ?_
  rw [List.drop_drop]
  rfl
theorem mi_dm_3 : mi_mt_3.all mi_dchk = true := by
  refine mi_all8 _ _ 8 mi_d3_0 (mi_all8 _ _ 8 mi_d3_8 (mi_all8 _ _ 8 (by rw [List.drop_drop]; exact mi_d3_16) (mi_all8 _ _ 8 (by rw [List.drop_drop, List.drop_drop]; exact mi_d3_24) ?_)))
  rw [List.drop_drop, List.drop_drop, List.drop_drop]
  refine mi_all8 _ _ 8 mi_d3_32 ?_
  rw [List.drop_drop]
  rfl
theorem mi_dm_4 : mi_mt_4.all mi_dchk = true := by
  refine mi_all8 _ _ 8 mi_d4_0 (mi_all8 _ _ 8 mi_d4_8 (mi_all8 _ _ 8 (by rw [List.drop_drop]; exact mi_d4_16) (mi_all8 _ _ 8 (by rw [List.drop_drop, List.drop_drop]; exact mi_d4_24) ?_)))
  rw [List.drop_drop, List.drop_drop, List.drop_drop]
  refine mi_all8 _ _ 8 mi_d4_32 ?_
  rw [List.drop_drop]
  rfl
theorem mi_dl : mi_k231.all (mi_dec code) = true := by
  refine mi_all8 _ _ 140 mi_dl_0 (mi_all8 _ _ 140 mi_dl_140 (mi_all8 _ _ 140 (by rw [List.drop_drop]; exact mi_dl_280) (mi_all8 _ _ 140 (by rw [List.drop_drop, List.drop_drop]; exact mi_dl_420) (mi_all8 _ _ 140 (by rw [List.drop_drop, List.drop_drop, List.drop_drop]; exact mi_dl_560) (mi_all8 _ _ 140 (by rw [List.drop_drop, List.drop_drop, List.drop_drop, List.drop_drop]; exact mi_dl_700) ?_)))))
  rw [List.drop_drop, List.drop_drop, List.drop_drop, List.drop_drop, List.drop_drop]
  refine mi_all8 _ _ 140 mi_dl_840 ?_
  rw [List.drop_drop]
  exact mi_dl_980
theorem mi_d5_31 : ((mi_mt_5.drop 31)).all mi_dchk = true := by
  show (mi_dchk (yL_law, cL_law, 4, some .boolean, 13, 99999, mi_k231) && true) = true
  rw [Bool.and_true]
  show mi_k231.all (mi_dec (mi_bt (yL_law, cL_law, 4, some .boolean, 13, 99999, mi_k231))) = true
  have e : mi_bt (yL_law, cL_law, 4, some .boolean, 13, 99999, mi_k231) = code := by unfold mi_bt; rw [show mi_cw 99999 = none from mi_cw_law]
  rw [e]; exact mi_dl
theorem mi_dm_5 : mi_mt_5.all mi_dchk = true := by
  refine mi_all8 _ _ 8 mi_d5_0 (mi_all8 _ _ 8 mi_d5_8 (mi_all8 _ _ 8 (by rw [List.drop_drop]; exact mi_d5_16) (mi_all8 _ _ 7 (by rw [List.drop_drop, List.drop_drop]; exact mi_d5_24) ?_)))
  rw [List.drop_drop, List.drop_drop, List.drop_drop]
  exact mi_d5_31
theorem mi_dm : mi_mt.all mi_dchk = true := by
  simp only [mi_mt, List.all_append, mi_dm_0, mi_dm_1, mi_dm_2, mi_dm_3, mi_dm_4, mi_dm_5, Bool.and_self]

