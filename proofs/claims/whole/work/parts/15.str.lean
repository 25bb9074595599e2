/-! String.indexOf of the three texts: the JDK's own methods, by hand over the kit's rows -/
theorem ms_dJ0_length_8abf5_0 : decode cJ0_length_8abf5 0 = .ok (.aload_n 0, 1) := by decide +kernel
theorem ms_dJ0_length_8abf5_1 : decode cJ0_length_8abf5 1 = .ok (.getfield 9, 3) := by decide +kernel
theorem ms_dJ0_length_8abf5_4 : decode cJ0_length_8abf5 4 = .ok (.arraylength, 1) := by decide +kernel
theorem ms_dJ0_length_8abf5_5 : decode cJ0_length_8abf5 5 = .ok (.aload_n 0, 1) := by decide +kernel
theorem ms_dJ0_length_8abf5_6 : decode cJ0_length_8abf5 6 = .ok (.invokevirtual 335, 3) := by decide +kernel
theorem ms_dJ0_length_8abf5_9 : decode cJ0_length_8abf5 9 = .ok (.ishr, 1) := by decide +kernel
theorem ms_dJ0_length_8abf5_10 : decode cJ0_length_8abf5 10 = .ok (.ireturn, 1) := by decide +kernel
theorem ms_dJ0_indexOf_0f7a4_0 : decode cJ0_indexOf_0f7a4 0 = .ok (.aload_n 0, 1) := by decide +kernel
theorem ms_dJ0_indexOf_0f7a4_1 : decode cJ0_indexOf_0f7a4 1 = .ok (.iload_n 1, 1) := by decide +kernel
theorem ms_dJ0_indexOf_0f7a4_2 : decode cJ0_indexOf_0f7a4 2 = .ok (.iconst 0, 1) := by decide +kernel
theorem ms_dJ0_indexOf_0f7a4_3 : decode cJ0_indexOf_0f7a4 3 = .ok (.invokevirtual 633, 3) := by decide +kernel
theorem ms_dJ0_indexOf_0f7a4_6 : decode cJ0_indexOf_0f7a4 6 = .ok (.ireturn, 1) := by decide +kernel
theorem ms_dJ0_indexOf_7cf53_0 : decode cJ0_indexOf_7cf53 0 = .ok (.aload_n 0, 1) := by decide +kernel
theorem ms_dJ0_indexOf_7cf53_1 : decode cJ0_indexOf_7cf53 1 = .ok (.invokevirtual 492, 3) := by decide +kernel
theorem ms_dJ0_indexOf_7cf53_4 : decode cJ0_indexOf_7cf53 4 = .ok (.ifCond .eq 19, 3) := by decide +kernel
theorem ms_dJ0_indexOf_7cf53_7 : decode cJ0_indexOf_7cf53 7 = .ok (.aload_n 0, 1) := by decide +kernel
theorem ms_dJ0_indexOf_7cf53_8 : decode cJ0_indexOf_7cf53 8 = .ok (.getfield 9, 3) := by decide +kernel
theorem ms_dJ0_indexOf_7cf53_11 : decode cJ0_indexOf_7cf53 11 = .ok (.iload_n 1, 1) := by decide +kernel
theorem ms_dJ0_indexOf_7cf53_12 : decode cJ0_indexOf_7cf53 12 = .ok (.iload_n 2, 1) := by decide +kernel
theorem ms_dJ0_indexOf_7cf53_13 : decode cJ0_indexOf_7cf53 13 = .ok (.aload_n 0, 1) := by decide +kernel
theorem ms_dJ0_indexOf_7cf53_14 : decode cJ0_indexOf_7cf53 14 = .ok (.invokevirtual 505, 3) := by decide +kernel
theorem ms_dJ0_indexOf_7cf53_17 : decode cJ0_indexOf_7cf53 17 = .ok (.invokestatic 637, 3) := by decide +kernel
theorem ms_dJ0_indexOf_7cf53_20 : decode cJ0_indexOf_7cf53 20 = .ok (.goto 16, 3) := by decide +kernel
theorem ms_dJ0_indexOf_7cf53_23 : decode cJ0_indexOf_7cf53 23 = .ok (.aload_n 0, 1) := by decide +kernel
theorem ms_dJ0_indexOf_7cf53_24 : decode cJ0_indexOf_7cf53 24 = .ok (.getfield 9, 3) := by decide +kernel
theorem ms_dJ0_indexOf_7cf53_27 : decode cJ0_indexOf_7cf53 27 = .ok (.iload_n 1, 1) := by decide +kernel
theorem ms_dJ0_indexOf_7cf53_28 : decode cJ0_indexOf_7cf53 28 = .ok (.iload_n 2, 1) := by decide +kernel
theorem ms_dJ0_indexOf_7cf53_29 : decode cJ0_indexOf_7cf53 29 = .ok (.aload_n 0, 1) := by decide +kernel
theorem ms_dJ0_indexOf_7cf53_30 : decode cJ0_indexOf_7cf53 30 = .ok (.invokevirtual 505, 3) := by decide +kernel
theorem ms_dJ0_indexOf_7cf53_33 : decode cJ0_indexOf_7cf53 33 = .ok (.invokestatic 640, 3) := by decide +kernel
theorem ms_dJ0_indexOf_7cf53_36 : decode cJ0_indexOf_7cf53 36 = .ok (.ireturn, 1) := by decide +kernel
theorem ms_dJ0_coder_7d493_0 : decode cJ0_coder_7d493 0 = .ok (.getstatic 38, 3) := by decide +kernel
theorem ms_dJ0_coder_7d493_3 : decode cJ0_coder_7d493 3 = .ok (.ifCond .eq 10, 3) := by decide +kernel
theorem ms_dJ0_coder_7d493_6 : decode cJ0_coder_7d493 6 = .ok (.aload_n 0, 1) := by decide +kernel
theorem ms_dJ0_coder_7d493_7 : decode cJ0_coder_7d493 7 = .ok (.getfield 15, 3) := by decide +kernel
theorem ms_dJ0_coder_7d493_10 : decode cJ0_coder_7d493 10 = .ok (.goto 4, 3) := by decide +kernel
theorem ms_dJ0_coder_7d493_13 : decode cJ0_coder_7d493 13 = .ok (.iconst 1, 1) := by decide +kernel
theorem ms_dJ0_coder_7d493_14 : decode cJ0_coder_7d493 14 = .ok (.ireturn, 1) := by decide +kernel
theorem ms_dJ0_isLatin1_aae02_0 : decode cJ0_isLatin1_aae02 0 = .ok (.getstatic 38, 3) := by decide +kernel
theorem ms_dJ0_isLatin1_aae02_3 : decode cJ0_isLatin1_aae02 3 = .ok (.ifCond .eq 14, 3) := by decide +kernel
theorem ms_dJ0_isLatin1_aae02_6 : decode cJ0_isLatin1_aae02 6 = .ok (.aload_n 0, 1) := by decide +kernel
theorem ms_dJ0_isLatin1_aae02_7 : decode cJ0_isLatin1_aae02 7 = .ok (.getfield 15, 3) := by decide +kernel
theorem ms_dJ0_isLatin1_aae02_10 : decode cJ0_isLatin1_aae02 10 = .ok (.ifCond .ne 7, 3) := by decide +kernel
theorem ms_dJ0_isLatin1_aae02_13 : decode cJ0_isLatin1_aae02 13 = .ok (.iconst 1, 1) := by decide +kernel
theorem ms_dJ0_isLatin1_aae02_14 : decode cJ0_isLatin1_aae02 14 = .ok (.goto 4, 3) := by decide +kernel
theorem ms_dJ0_isLatin1_aae02_17 : decode cJ0_isLatin1_aae02 17 = .ok (.iconst 0, 1) := by decide +kernel
theorem ms_dJ0_isLatin1_aae02_18 : decode cJ0_isLatin1_aae02 18 = .ok (.ireturn, 1) := by decide +kernel
theorem ms_dJ1_canEncode_9a6ad_0 : decode cJ1_canEncode_9a6ad 0 = .ok (.iload_n 0, 1) := by decide +kernel
theorem ms_dJ1_canEncode_9a6ad_1 : decode cJ1_canEncode_9a6ad 1 = .ok (.ifCond .lt 14, 3) := by decide +kernel
theorem ms_dJ1_canEncode_9a6ad_4 : decode cJ1_canEncode_9a6ad 4 = .ok (.iload_n 0, 1) := by decide +kernel
theorem ms_dJ1_canEncode_9a6ad_5 : decode cJ1_canEncode_9a6ad 5 = .ok (.sipush 255, 3) := by decide +kernel
theorem ms_dJ1_canEncode_9a6ad_8 : decode cJ1_canEncode_9a6ad 8 = .ok (.if_icmp .gt 7, 3) := by decide +kernel
theorem ms_dJ1_canEncode_9a6ad_11 : decode cJ1_canEncode_9a6ad 11 = .ok (.iconst 1, 1) := by decide +kernel
theorem ms_dJ1_canEncode_9a6ad_12 : decode cJ1_canEncode_9a6ad 12 = .ok (.goto 4, 3) := by decide +kernel
theorem ms_dJ1_canEncode_9a6ad_15 : decode cJ1_canEncode_9a6ad 15 = .ok (.iconst 0, 1) := by decide +kernel
theorem ms_dJ1_canEncode_9a6ad_16 : decode cJ1_canEncode_9a6ad 16 = .ok (.ireturn, 1) := by decide +kernel
theorem ms_dJ1_indexOf_4cfef_0 : decode cJ1_indexOf_4cfef 0 = .ok (.iload_n 1, 1) := by decide +kernel
theorem ms_dJ1_indexOf_4cfef_1 : decode cJ1_indexOf_4cfef 1 = .ok (.invokestatic 88, 3) := by decide +kernel
theorem ms_dJ1_indexOf_4cfef_4 : decode cJ1_indexOf_4cfef 4 = .ok (.ifCond .ne 5, 3) := by decide +kernel
theorem ms_dJ1_indexOf_4cfef_7 : decode cJ1_indexOf_4cfef 7 = .ok (.iconst (-1), 1) := by decide +kernel
theorem ms_dJ1_indexOf_4cfef_8 : decode cJ1_indexOf_4cfef 8 = .ok (.ireturn, 1) := by decide +kernel
theorem ms_dJ1_indexOf_4cfef_9 : decode cJ1_indexOf_4cfef 9 = .ok (.iload_n 2, 1) := by decide +kernel
theorem ms_dJ1_indexOf_4cfef_10 : decode cJ1_indexOf_4cfef 10 = .ok (.iconst 0, 1) := by decide +kernel
theorem ms_dJ1_indexOf_4cfef_11 : decode cJ1_indexOf_4cfef 11 = .ok (.invokestatic 92, 3) := by decide +kernel
theorem ms_dJ1_indexOf_4cfef_14 : decode cJ1_indexOf_4cfef 14 = .ok (.istore_n 2, 1) := by decide +kernel
theorem ms_dJ1_indexOf_4cfef_15 : decode cJ1_indexOf_4cfef 15 = .ok (.iload_n 3, 1) := by decide +kernel
theorem ms_dJ1_indexOf_4cfef_16 : decode cJ1_indexOf_4cfef 16 = .ok (.aload_n 0, 1) := by decide +kernel
theorem ms_dJ1_indexOf_4cfef_17 : decode cJ1_indexOf_4cfef 17 = .ok (.arraylength, 1) := by decide +kernel
theorem ms_dJ1_indexOf_4cfef_18 : decode cJ1_indexOf_4cfef 18 = .ok (.invokestatic 38, 3) := by decide +kernel
theorem ms_dJ1_indexOf_4cfef_21 : decode cJ1_indexOf_4cfef 21 = .ok (.istore_n 3, 1) := by decide +kernel
theorem ms_dJ1_indexOf_4cfef_22 : decode cJ1_indexOf_4cfef 22 = .ok (.iload_n 2, 1) := by decide +kernel
theorem ms_dJ1_indexOf_4cfef_23 : decode cJ1_indexOf_4cfef 23 = .ok (.iload_n 3, 1) := by decide +kernel
theorem ms_dJ1_indexOf_4cfef_24 : decode cJ1_indexOf_4cfef 24 = .ok (.if_icmp .lt 5, 3) := by decide +kernel
theorem ms_dJ1_indexOf_4cfef_27 : decode cJ1_indexOf_4cfef 27 = .ok (.iconst (-1), 1) := by decide +kernel
theorem ms_dJ1_indexOf_4cfef_28 : decode cJ1_indexOf_4cfef 28 = .ok (.ireturn, 1) := by decide +kernel
theorem ms_dJ1_indexOf_4cfef_29 : decode cJ1_indexOf_4cfef 29 = .ok (.aload_n 0, 1) := by decide +kernel
theorem ms_dJ1_indexOf_4cfef_30 : decode cJ1_indexOf_4cfef 30 = .ok (.iload_n 1, 1) := by decide +kernel
theorem ms_dJ1_indexOf_4cfef_31 : decode cJ1_indexOf_4cfef 31 = .ok (.iload_n 2, 1) := by decide +kernel
theorem ms_dJ1_indexOf_4cfef_32 : decode cJ1_indexOf_4cfef 32 = .ok (.iload_n 3, 1) := by decide +kernel
theorem ms_dJ1_indexOf_4cfef_33 : decode cJ1_indexOf_4cfef 33 = .ok (.invokestatic 95, 3) := by decide +kernel
theorem ms_dJ1_indexOf_4cfef_36 : decode cJ1_indexOf_4cfef 36 = .ok (.ireturn, 1) := by decide +kernel
theorem ms_dJ1_indexOfChar_4cfef_0 : decode cJ1_indexOfChar_4cfef 0 = .ok (.iload_n 1, 1) := by decide +kernel
theorem ms_dJ1_indexOfChar_4cfef_1 : decode cJ1_indexOfChar_4cfef 1 = .ok (.i2b, 1) := by decide +kernel
theorem ms_dJ1_indexOfChar_4cfef_2 : decode cJ1_indexOfChar_4cfef 2 = .ok (.istore 4, 2) := by decide +kernel
theorem ms_dJ1_indexOfChar_4cfef_4 : decode cJ1_indexOfChar_4cfef 4 = .ok (.iload_n 2, 1) := by decide +kernel
theorem ms_dJ1_indexOfChar_4cfef_5 : decode cJ1_indexOfChar_4cfef 5 = .ok (.istore 5, 2) := by decide +kernel
theorem ms_dJ1_indexOfChar_4cfef_7 : decode cJ1_indexOfChar_4cfef 7 = .ok (.iload 5, 2) := by decide +kernel
theorem ms_dJ1_indexOfChar_4cfef_9 : decode cJ1_indexOfChar_4cfef 9 = .ok (.iload_n 3, 1) := by decide +kernel
theorem ms_dJ1_indexOfChar_4cfef_10 : decode cJ1_indexOfChar_4cfef 10 = .ok (.if_icmp .ge 21, 3) := by decide +kernel
theorem ms_dJ1_indexOfChar_4cfef_13 : decode cJ1_indexOfChar_4cfef 13 = .ok (.aload_n 0, 1) := by decide +kernel
theorem ms_dJ1_indexOfChar_4cfef_14 : decode cJ1_indexOfChar_4cfef 14 = .ok (.iload 5, 2) := by decide +kernel
theorem ms_dJ1_indexOfChar_4cfef_16 : decode cJ1_indexOfChar_4cfef 16 = .ok (.baload, 1) := by decide +kernel
theorem ms_dJ1_indexOfChar_4cfef_17 : decode cJ1_indexOfChar_4cfef 17 = .ok (.iload 4, 2) := by decide +kernel
theorem ms_dJ1_indexOfChar_4cfef_19 : decode cJ1_indexOfChar_4cfef 19 = .ok (.if_icmp .ne 6, 3) := by decide +kernel
theorem ms_dJ1_indexOfChar_4cfef_22 : decode cJ1_indexOfChar_4cfef 22 = .ok (.iload 5, 2) := by decide +kernel
theorem ms_dJ1_indexOfChar_4cfef_24 : decode cJ1_indexOfChar_4cfef 24 = .ok (.ireturn, 1) := by decide +kernel
theorem ms_dJ1_indexOfChar_4cfef_25 : decode cJ1_indexOfChar_4cfef 25 = .ok (.iinc 5 1, 3) := by decide +kernel
theorem ms_dJ1_indexOfChar_4cfef_28 : decode cJ1_indexOfChar_4cfef 28 = .ok (.goto (-21), 3) := by decide +kernel
theorem ms_dJ1_indexOfChar_4cfef_31 : decode cJ1_indexOfChar_4cfef 31 = .ok (.iconst (-1), 1) := by decide +kernel
theorem ms_dJ1_indexOfChar_4cfef_32 : decode cJ1_indexOfChar_4cfef 32 = .ok (.ireturn, 1) := by decide +kernel
def ms_w (y : MethodName) (b : ByteArray) (L : Nat) (ret : Option FieldType) : List Jvm.Cond := Jvm.Cond.code y b L ret :: mi_all
theorem ms_codes : mi_at 617 (.code yJ0_indexOf_0f7a4 cJ0_indexOf_0f7a4 2 (some .int)) = true ∧ mi_at 621 (.code yJ0_indexOf_7cf53 cJ0_indexOf_7cf53 3 (some .int)) = true ∧ mi_at 625 (.code yJ0_isLatin1_aae02 cJ0_isLatin1_aae02 1 (some .boolean)) = true ∧ mi_at 631 (.code yJ0_length_8abf5 cJ0_length_8abf5 1 (some .int)) = true ∧ mi_at 635 (.code yJ0_coder_7d493 cJ0_coder_7d493 1 (some .byte)) = true ∧ mi_at 638 (.code yJ1_indexOf_4cfef cJ1_indexOf_4cfef 4 (some .int)) = true ∧ mi_at 641 (.code yJ1_canEncode_9a6ad cJ1_canEncode_9a6ad 1 (some .boolean)) = true ∧ mi_at 646 (.code yJ1_indexOfChar_4cfef cJ1_indexOfChar_4cfef 6 (some .int)) = true := by decide +kernel
theorem ms_ws : mi_at 618 (.methodLink RJ0 633 yJ0_indexOf_7cf53) = true ∧ mi_at 619 (.instanceMethod yJ0_indexOf_7cf53) = true ∧ mi_at 620 (.selects RJ0 yJ0_indexOf_7cf53 yJ0_indexOf_7cf53) = true ∧
  mi_at 622 (.methodLink RJ0 492 yJ0_isLatin1_aae02) = true ∧ mi_at 623 (.instanceMethod yJ0_isLatin1_aae02) = true ∧ mi_at 624 (.selects RJ0 yJ0_isLatin1_aae02 yJ0_isLatin1_aae02) = true ∧
  mi_at 628 (.methodLink RJ0 505 yJ0_length_8abf5) = true ∧ mi_at 629 (.instanceMethod yJ0_length_8abf5) = true ∧ mi_at 630 (.selects RJ0 yJ0_length_8abf5 yJ0_length_8abf5) = true ∧
  mi_at 632 (.methodLink RJ0 335 yJ0_coder_7d493) = true ∧ mi_at 633 (.instanceMethod yJ0_coder_7d493) = true ∧ mi_at 634 (.selects RJ0 yJ0_coder_7d493 yJ0_coder_7d493) = true ∧
  mi_at 636 (.methodLink RJ0 637 yJ1_indexOf_4cfef) = true ∧ mi_at 637 (.static yJ1_indexOf_4cfef) = true ∧
  mi_at 639 (.methodLink RJ1 88 yJ1_canEncode_9a6ad) = true ∧ mi_at 640 (.static yJ1_canEncode_9a6ad) = true ∧
  mi_at 642 (.methodLink RJ1 92 Lib.Math.max.name) = true ∧ mi_at 643 (.methodLink RJ1 38 Lib.Math.min.name) = true ∧
  mi_at 644 (.methodLink RJ1 95 yJ1_indexOfChar_4cfef) = true ∧ mi_at 645 (.static yJ1_indexOfChar_4cfef) = true ∧
  mi_at 626 (.fieldLink RJ0 38 "java/lang/String" "COMPACT_STRINGS" "Z") = true ∧ mi_at 1533 (.fieldLink RJ0 15 "java/lang/String" "coder" "B") = true ∧ mi_at 1534 (.fieldLink RJ0 9 "java/lang/String" "value" "[B") = true ∧
  mi_at 85 (.initialized RJ0) = true ∧ mi_at 86 (.initialized RJ1) = true := by decide +kernel
theorem ms_gV {own : String} {idx : Nat} {C : String} {y : MethodName} {b : ByteArray} {L : Nat} {ret : Option FieldType} (h1 : Jvm.Cond.methodLink own idx y ∈ lw_tbl) (h2 : Jvm.Cond.instanceMethod y ∈ lw_tbl) (h3 : Jvm.Cond.selects C y y ∈ lw_tbl) (h4 : Jvm.Cond.initialized C ∈ lw_tbl) (h5 : Jvm.Cond.code y b L ret ∈ lw_tbl) : GoodIn mi_all (wsV own idx C y (ms_w y b L ret)) := by
  refine mi_goodIn fun z hz => ?_
  unfold wsV at hz
  rcases List.mem_append.mp hz with hz | hz
  · simp only [List.mem_cons, List.not_mem_nil, or_false] at hz
    rcases hz with rfl | rfl | rfl | rfl
    · exact mi_all_of h1 rfl
    · exact mi_all_of h2 rfl
    · exact mi_all_of h3 rfl
    · exact mi_all_of h4 rfl
  · rcases List.mem_cons.mp hz with rfl | hz
    · exact mi_all_of h5 rfl
    · exact hz
theorem ms_gS {own : String} {idx : Nat} {y : MethodName} {b : ByteArray} {L : Nat} {ret : Option FieldType} (h1 : Jvm.Cond.methodLink own idx y ∈ lw_tbl) (h2 : Jvm.Cond.static y ∈ lw_tbl) (h4 : Jvm.Cond.initialized y.cls ∈ lw_tbl) (h5 : Jvm.Cond.code y b L ret ∈ lw_tbl) : GoodIn mi_all (va_wsS own idx y (ms_w y b L ret)) := by
  refine mi_goodIn fun z hz => ?_
  unfold va_wsS at hz
  rcases List.mem_append.mp hz with hz | hz
  · simp only [List.mem_cons, List.not_mem_nil, or_false] at hz
    rcases hz with rfl | rfl | rfl
    · exact mi_all_of h1 rfl
    · exact mi_all_of h2 rfl
    · exact mi_all_of h4 rfl
  · rcases List.mem_cons.mp hz with rfl | hz
    · exact mi_all_of h5 rfl
    · exact hz

set_option maxHeartbeats 4000000 in
/-- canEncode -/
theorem ms_can (l : Launch) (cv : Int32) : Met l yJ1_canEncode_9a6ad (ms_w yJ1_canEncode_9a6ad cJ1_canEncode_9a6ad 1 (some .boolean)) (mi_rm 0 0 0) (va_Pc [.int cv] (fun _ => True)) (vp_Si (fun r => r = if cv < 0 ∨ 255 < cv then 0 else 1)) 0 0 (fun _ => False) := by
  refine Met.ofW (cc := cJ1_canEncode_9a6ad) (maxL := 1) (ret := some .boolean) (by decide +kernel) rfl ?_
  intro p e s m args below meth c s₁ B hml hv
  obtain ⟨rfl, -⟩ := hv
  have hx := B.exec
  have hb := B.bytes
  have hr := B.returns
  have hts0 := atoms_spec (ws := ms_w yJ1_canEncode_9a6ad cJ1_canEncode_9a6ad 1 (some .boolean)) B.pre
  have hts : ∀ w ∈ mi_all, w.before _ s = true := fun w hw => hts0 w (List.mem_cons_of_mem _ hw)
  have hin : ∀ w, w ∈ lw_tbl → goodWord w = true → w.before _ s = true := fun w a b => hts w (mi_all_of a b)
  have hown := findClass_of_methodNamed B.named
  have hlocks := B.notSynchronized
  have hl := lv_entry ([.int cv]) (n := 1) (Nat.le_of_ble_eq_true rfl)
  rw [lg_entry_eq]
  generalize (lg_sl ([.int cv]) ++ List.replicate (1 - (lg_sl ([.int cv])).length) Slot.unset).toArray = ls at hl ⊢
  have hl : lv_has ls 1 [(0, .int cv)] := hl
  have fin : ∀ v : Int32, (v = 0 ∨ v = 1) → v = (if cv < 0 ∨ 255 < cv then 0 else 1) → W p l e (mi_rm 0 0 0) s m #[.int cv] below meth c s.heap [] 0 0 (MQ below (vp_Si (fun r => r = if cv < 0 ∨ 255 < cv then 0 else 1)) #[.int cv] s 0 0 (fun _ => False)) (F0 m 16 ls [.int v]) := by
    intro v hz he
    exact W.zret (v := v) hx hb hr (by rcases hz with rfl | rfl <;> rfl) (fun t ht _ => ⟨v, rfl, he, ht⟩) (fun q h => by cases h) ms_dJ1_canEncode_9a6ad_16
  refine lv_iload_n hx hb ms_dJ1_canEncode_9a6ad_0 rfl (lv_at hl 0 rfl) ?_
  refine lv_if_lt (tgt := 15) hx hb ms_dJ1_canEncode_9a6ad_1 (by decide) (fun c1 => ?_) (fun c1 => ?_)
  · refine lv_iconst (v := 0) hx hb ms_dJ1_canEncode_9a6ad_15 (by decide) ?_
    exact fin 0 (Or.inl rfl) (by rw [if_pos (Or.inl c1)])
  · refine lv_iload_n hx hb ms_dJ1_canEncode_9a6ad_4 rfl (lv_at hl 0 rfl) ?_
    refine lv_sipush (v := 255) hx hb ms_dJ1_canEncode_9a6ad_5 (by decide) ?_
    refine lv_icmp_gt (tgt := 15) hx hb ms_dJ1_canEncode_9a6ad_8 (by decide) (fun c2 => ?_) (fun c2 => ?_)
    · refine lv_iconst (v := 0) hx hb ms_dJ1_canEncode_9a6ad_15 (by decide) ?_
      exact fin 0 (Or.inl rfl) (by rw [if_pos (Or.inr c2)])
    · refine lv_iconst (v := 1) hx hb ms_dJ1_canEncode_9a6ad_11 (by decide) ?_
      refine lv_goto (tgt := 16) hx hb ms_dJ1_canEncode_9a6ad_12 (by decide) ?_
      exact fin 1 (Or.inr rfl) (by rw [if_neg (fun z => z.elim c1 c2)])
set_option maxHeartbeats 4000000 in
/-- isLatin1 -/
theorem ms_lat (l : Launch) {adK adV : Nat → Nat} {A : Nat → Prop} {i : Nat} (hi : i < 3) : Met l yJ0_isLatin1_aae02 (ms_w yJ0_isLatin1_aae02 cJ0_isLatin1_aae02 1 (some .boolean)) (mi_rm 0 0 0) (va_Pc [.ref (adK i)] (fun U => vk_S 3 [0, 3, 3] [[], [108, 110, 98], [108, 107, 116]] adK adV A U U.heap ∧ va_Z "java/lang/String" "COMPACT_STRINGS" "Z" (.int 1) A U U.heap)) (vp_Si (fun r => r = 1)) 0 0 (fun _ => False) := by
  refine Met.ofW (cc := cJ0_isLatin1_aae02) (maxL := 1) (ret := some .boolean) (by decide +kernel) rfl ?_
  intro p e s m args below meth c s₁ B hml hv
  obtain ⟨rfl, hE, hZ⟩ := hv
  have hx := B.exec
  have hb := B.bytes
  have hr := B.returns
  have hts0 := atoms_spec (ws := ms_w yJ0_isLatin1_aae02 cJ0_isLatin1_aae02 1 (some .boolean)) B.pre
  have hts : ∀ w ∈ mi_all, w.before _ s = true := fun w hw => hts0 w (List.mem_cons_of_mem _ hw)
  have hin : ∀ w, w ∈ lw_tbl → goodWord w = true → w.before _ s = true := fun w a b => hts w (mi_all_of a b)
  have hown := findClass_of_methodNamed B.named
  have hlocks := B.notSynchronized
  have hl := lv_entry ([.ref (adK i)]) (n := 1) (Nat.le_of_ble_eq_true rfl)
  rw [lg_entry_eq]
  generalize (lg_sl ([.ref (adK i)]) ++ List.replicate (1 - (lg_sl ([.ref (adK i)])).length) Slot.unset).toArray = ls at hl ⊢
  have hl : lv_has ls 1 [(0, .ref (adK i))] := hl
  refine va_gets (ref := "java/lang/String") hx hb hZ va_S.rf hown (hin _ (mi_at_mem ms_ws.2.2.2.2.2.2.2.2.2.2.2.2.2.2.2.2.2.2.2.2.1) rfl) (fun _ h => h) ms_dJ0_isLatin1_aae02_0 ?_
  refine lv_if_eq (tgt := 17) hx hb ms_dJ0_isLatin1_aae02_3 (by decide) (fun c1 => absurd c1 (by decide)) (fun _ => ?_)
  refine lv_aload_n hx hb ms_dJ0_isLatin1_aae02_6 rfl (lv_at hl 0 rfl) ?_
  refine vk_getf (ref := "java/lang/String") hx hb (hE.1 i hi).2.1 va_S.rf hown (hin _ (mi_at_mem ms_ws.2.2.2.2.2.2.2.2.2.2.2.2.2.2.2.2.2.2.2.2.2.1) rfl) (fun _ h => h) ms_dJ0_isLatin1_aae02_7 ?_
  refine lv_if_ne (tgt := 17) hx hb ms_dJ0_isLatin1_aae02_10 (by decide) (fun c1 => absurd rfl c1) (fun _ => ?_)
  refine lv_iconst (v := 1) hx hb ms_dJ0_isLatin1_aae02_13 (by decide) ?_
  refine lv_goto (tgt := 18) hx hb ms_dJ0_isLatin1_aae02_14 (by decide) ?_
  exact W.zret (v := 1) hx hb hr rfl (fun t ht _ => ⟨1, rfl, rfl, ht⟩) (fun q h => by cases h) ms_dJ0_isLatin1_aae02_18
set_option maxHeartbeats 4000000 in
/-- coder -/
theorem ms_cod (l : Launch) {adK adV : Nat → Nat} {A : Nat → Prop} {i : Nat} (hi : i < 3) : Met l yJ0_coder_7d493 (ms_w yJ0_coder_7d493 cJ0_coder_7d493 1 (some .byte)) (mi_rm 0 0 0) (va_Pc [.ref (adK i)] (fun U => vk_S 3 [0, 3, 3] [[], [108, 110, 98], [108, 107, 116]] adK adV A U U.heap ∧ va_Z "java/lang/String" "COMPACT_STRINGS" "Z" (.int 1) A U U.heap)) (vp_Si (fun r => r = 0)) 0 0 (fun _ => False) := by
  refine Met.ofW (cc := cJ0_coder_7d493) (maxL := 1) (ret := some .byte) (by decide +kernel) rfl ?_
  intro p e s m args below meth c s₁ B hml hv
  obtain ⟨rfl, hE, hZ⟩ := hv
  have hx := B.exec
  have hb := B.bytes
  have hr := B.returns
  have hts0 := atoms_spec (ws := ms_w yJ0_coder_7d493 cJ0_coder_7d493 1 (some .byte)) B.pre
  have hts : ∀ w ∈ mi_all, w.before _ s = true := fun w hw => hts0 w (List.mem_cons_of_mem _ hw)
  have hin : ∀ w, w ∈ lw_tbl → goodWord w = true → w.before _ s = true := fun w a b => hts w (mi_all_of a b)
  have hown := findClass_of_methodNamed B.named
  have hlocks := B.notSynchronized
  have hl := lv_entry ([.ref (adK i)]) (n := 1) (Nat.le_of_ble_eq_true rfl)
  rw [lg_entry_eq]
  generalize (lg_sl ([.ref (adK i)]) ++ List.replicate (1 - (lg_sl ([.ref (adK i)])).length) Slot.unset).toArray = ls at hl ⊢
  have hl : lv_has ls 1 [(0, .ref (adK i))] := hl
  refine va_gets (ref := "java/lang/String") hx hb hZ va_S.rf hown (hin _ (mi_at_mem ms_ws.2.2.2.2.2.2.2.2.2.2.2.2.2.2.2.2.2.2.2.2.1) rfl) (fun _ h => h) ms_dJ0_coder_7d493_0 ?_
  refine lv_if_eq (tgt := 13) hx hb ms_dJ0_coder_7d493_3 (by decide) (fun c1 => absurd c1 (by decide)) (fun _ => ?_)
  refine lv_aload_n hx hb ms_dJ0_coder_7d493_6 rfl (lv_at hl 0 rfl) ?_
  refine vk_getf (ref := "java/lang/String") hx hb (hE.1 i hi).2.1 va_S.rf hown (hin _ (mi_at_mem ms_ws.2.2.2.2.2.2.2.2.2.2.2.2.2.2.2.2.2.2.2.2.2.1) rfl) (fun _ h => h) ms_dJ0_coder_7d493_7 ?_
  refine lv_goto (tgt := 14) hx hb ms_dJ0_coder_7d493_10 (by decide) ?_
  exact W.zret (v := 0) hx hb hr rfl (fun t ht _ => ⟨0, rfl, rfl, ht⟩) (fun q h => by cases h) ms_dJ0_coder_7d493_14
set_option maxHeartbeats 4000000 in
/-- length -/
theorem ms_len (l : Launch) {adK adV : Nat → Nat} {A : Nat → Prop} {i : Nat} (hi : i < 3) : Met l yJ0_length_8abf5 (ms_w yJ0_length_8abf5 cJ0_length_8abf5 1 (some .int)) (mi_rm 1 0 0) (va_Pc [.ref (adK i)] (fun U => vk_S 3 [0, 3, 3] [[], [108, 110, 98], [108, 107, 116]] adK adV A U U.heap ∧ va_Z "java/lang/String" "COMPACT_STRINGS" "Z" (.int 1) A U U.heap)) (vp_Si (fun r => r = nI ([0, 3, 3].getD i 0))) 0 0 (fun _ => False) := by
  refine Met.ofW (cc := cJ0_length_8abf5) (maxL := 1) (ret := some .int) (by decide +kernel) rfl ?_
  intro p e s m args below meth c s₁ B hml hv
  obtain ⟨rfl, hE, hZ⟩ := hv
  have hx := B.exec
  have hb := B.bytes
  have hr := B.returns
  have hts0 := atoms_spec (ws := ms_w yJ0_length_8abf5 cJ0_length_8abf5 1 (some .int)) B.pre
  have hts : ∀ w ∈ mi_all, w.before _ s = true := fun w hw => hts0 w (List.mem_cons_of_mem _ hw)
  have hin : ∀ w, w ∈ lw_tbl → goodWord w = true → w.before _ s = true := fun w a b => hts w (mi_all_of a b)
  have hown := findClass_of_methodNamed B.named
  have hlocks := B.notSynchronized
  have hl := lv_entry ([.ref (adK i)]) (n := 1) (Nat.le_of_ble_eq_true rfl)
  rw [lg_entry_eq]
  generalize (lg_sl ([.ref (adK i)]) ++ List.replicate (1 - (lg_sl ([.ref (adK i)])).length) Slot.unset).toArray = ls at hl ⊢
  have hl : lv_has ls 1 [(0, .ref (adK i))] := hl
  refine lv_aload_n hx hb ms_dJ0_length_8abf5_0 rfl (lv_at hl 0 rfl) ?_
  refine vk_getf (ref := "java/lang/String") hx hb (hE.1 i hi).2.2.1 va_S.rf hown (hin _ (mi_at_mem ms_ws.2.2.2.2.2.2.2.2.2.2.2.2.2.2.2.2.2.2.2.2.2.2.1) rfl) (fun _ h => h) ms_dJ0_length_8abf5_1 ?_
  refine va_tlen hx hb (hE.1 i hi).2.2.2 va_S.rf rfl ms_dJ0_length_8abf5_4 ?_
  refine lv_aload_n hx hb ms_dJ0_length_8abf5_5 rfl (lv_at hl 0 rfl) ?_
  refine vp_callSi (va_Run.run (va_runV (C := RJ0) (As := []) (rest := [.int (Int32.ofNat ([0, 3, 3].getD i 0))]) ⟨hx, hb, hml, hown, hts⟩ (ms_cod l hi) (cwV 0 hts (ms_gV (own := RJ0) (idx := 335) (C := RJ0) (b := cJ0_coder_7d493) (L := 1) (ret := some .byte) (mi_at_mem ms_ws.2.2.2.2.2.2.2.2.2.1) (mi_at_mem ms_ws.2.2.2.2.2.2.2.2.2.2.1) (mi_at_mem ms_ws.2.2.2.2.2.2.2.2.2.2.2.1) (mi_at_mem ms_ws.2.2.2.2.2.2.2.2.2.2.2.2.2.2.2.2.2.2.2.2.2.2.2.1) (mi_at_mem ms_codes.2.2.2.2.1)) rfl rfl rfl ⟨rfl, by decide +kernel, by decide +kernel, by decide +kernel⟩ ⟨Nat.le_of_ble_eq_true rfl, Nat.le_of_ble_eq_true rfl⟩) ⟨fun _ _ _ _ z => z, vk_recv hE hi va_S.rf, fun U hU hW => ⟨rfl, by rw [hU]; exact hE.moved hW.alike, by rw [hU]; exact hZ.moved hW.alike⟩⟩ rfl rfl hl.1 rfl (lv_room (Nat.le_of_ble_eq_true rfl)) ms_dJ0_length_8abf5_6 ⟨Nat.le_refl _, Nat.le_refl _⟩)) (fun r9 hr9 => ?_)
  subst hr9
  refine lv_ishr hx hb ms_dJ0_length_8abf5_9 ?_
  exact W.iret (v := _) hx hb hr (fun t ht _ => ⟨_, rfl, by rcases (by omega : i = 0 ∨ i = 1 ∨ i = 2) with rfl | rfl | rfl <;> decide +kernel, ht⟩) (fun q h => by cases h) ms_dJ0_length_8abf5_10
/-- the search: f more places, from k on -/
def ms_sr (b : Nat → Int32) (x : Int32) : Nat → Nat → Int32
  | 0, _ => -1
  | f + 1, k => if b k = x then nI k else ms_sr b x f (k + 1)
set_option maxHeartbeats 4000000 in
/-- indexOfChar -/
theorem ms_ioc (l : Launch) {t N : Nat} {b : Nat → Int32} {A : Nat → Prop} (hN : N ≤ 100) (cv : Int32) : Met l yJ1_indexOfChar_4cfef (ms_w yJ1_indexOfChar_4cfef cJ1_indexOfChar_4cfef 6 (some .int)) (mi_rm 0 0 0) (va_Pc [.ref t, .int cv, .int 0, .int (nI N)] (fun U => va_T .byte t N (fun j => .int (b j)) A U U.heap)) (vp_Si (fun r => r = ms_sr b cv.toInt8.toInt32 N 0)) 0 0 (fun _ => False) := by
  refine Met.ofW (cc := cJ1_indexOfChar_4cfef) (maxL := 6) (ret := some .int) (by decide +kernel) rfl ?_
  intro p e s m args below meth c s₁ B hml hv
  obtain ⟨rfl, hT⟩ := hv
  have hx := B.exec
  have hb := B.bytes
  have hr := B.returns
  have hts0 := atoms_spec (ws := ms_w yJ1_indexOfChar_4cfef cJ1_indexOfChar_4cfef 6 (some .int)) B.pre
  have hts : ∀ w ∈ mi_all, w.before _ s = true := fun w hw => hts0 w (List.mem_cons_of_mem _ hw)
  have hin : ∀ w, w ∈ lw_tbl → goodWord w = true → w.before _ s = true := fun w a b => hts w (mi_all_of a b)
  have hown := findClass_of_methodNamed B.named
  have hlocks := B.notSynchronized
  have hl := lv_entry ([.ref t, .int cv, .int 0, .int (nI N)]) (n := 6) (Nat.le_of_ble_eq_true rfl)
  rw [lg_entry_eq]
  generalize (lg_sl ([.ref t, .int cv, .int 0, .int (nI N)]) ++ List.replicate (6 - (lg_sl ([.ref t, .int cv, .int 0, .int (nI N)])).length) Slot.unset).toArray = ls at hl ⊢
  have hl : lv_has ls 6 [(0, .ref t), (1, .int cv), (2, .int 0), (3, .int (nI N))] := hl
  refine lv_iload_n hx hb ms_dJ1_indexOfChar_4cfef_0 rfl (lv_at hl 1 rfl) ?_
  refine lv_i2b hx hb ms_dJ1_indexOfChar_4cfef_1 rfl ?_
  refine lv_topi (fun x ex => ?_)
  refine lv_istore (lv' := [(4, .int x), (0, .ref t), (1, .int cv), (2, .int 0), (3, .int (nI N))]) hx hb ms_dJ1_indexOfChar_4cfef_2 hl (by decide) rfl (fun ls hl => ?_)
  refine lv_iload_n hx hb ms_dJ1_indexOfChar_4cfef_4 rfl (lv_at hl 3 rfl) ?_
  refine lv_istore (lv' := [(5, .int 0), (4, .int x), (0, .ref t), (1, .int cv), (2, .int 0), (3, .int (nI N))]) hx hb ms_dJ1_indexOfChar_4cfef_5 hl (by decide) rfl (fun ls hl => ?_)
  rw [← ex]
  have loop : ∀ (f k : Nat) (ls : Array Slot), k + f = N → lv_has ls 6 [(5, .int (nI k)), (4, .int x), (0, .ref t), (1, .int cv), (2, .int 0), (3, .int (nI N))] → ms_sr b x f k = ms_sr b x N 0 → W p l e (mi_rm 0 0 0) s m #[.ref t, .int cv, .int 0, .int (nI N)] below meth c s.heap [] 0 0 (MQ below (vp_Si (fun r => r = ms_sr b x N 0)) #[.ref t, .int cv, .int 0, .int (nI N)] s 0 0 (fun _ => False)) (F0 m 7 ls []) := by
    intro f
    induction f with
    | zero =>
      intro k ls hk hl he
      refine lv_iload hx hb ms_dJ1_indexOfChar_4cfef_7 (lv_at hl 0 rfl) ?_
      refine lv_iload_n hx hb ms_dJ1_indexOfChar_4cfef_9 rfl (lv_at hl 5 rfl) ?_
      refine lv_icmp_ge (tgt := 31) hx hb ms_dJ1_indexOfChar_4cfef_10 (by decide) (fun c1 => ?_) (fun c1 => absurd (nI_le (by omega) (by omega)) c1)
      refine lv_iconst (v := -1) hx hb ms_dJ1_indexOfChar_4cfef_31 (by decide) ?_
      exact W.iret (v := -1) hx hb hr (fun t ht _ => ⟨_, rfl, he, ht⟩) (fun q h => by cases h) ms_dJ1_indexOfChar_4cfef_32
    | succ f ih =>
      intro k ls hk hl he
      refine lv_iload hx hb ms_dJ1_indexOfChar_4cfef_7 (lv_at hl 0 rfl) ?_
      refine lv_iload_n hx hb ms_dJ1_indexOfChar_4cfef_9 rfl (lv_at hl 5 rfl) ?_
      refine lv_icmp_ge (tgt := 31) hx hb ms_dJ1_indexOfChar_4cfef_10 (by decide) (fun c1 => absurd c1 (nI_ge (by omega) (by omega))) (fun c1 => ?_)
      refine lv_aload_n hx hb ms_dJ1_indexOfChar_4cfef_13 rfl (lv_at hl 2 rfl) ?_
      refine lv_iload hx hb ms_dJ1_indexOfChar_4cfef_14 (lv_at hl 0 rfl) ?_
      refine va_tb hx hb hT va_S.rf (vp_in_nI (n := k) (by omega) (by omega)) (v := .int (b k)) (by rw [nI_clamp (by omega)]) ms_dJ1_indexOfChar_4cfef_16 ?_
      refine lv_iload hx hb ms_dJ1_indexOfChar_4cfef_17 (lv_at hl 1 rfl) ?_
      refine lv_icmp_ne (tgt := 25) hx hb ms_dJ1_indexOfChar_4cfef_19 (by decide) (fun c2 => ?_) (fun c2 => ?_)
      · refine lv_iinc (v := nI (k + 1)) (lv' := [(5, .int (nI (k + 1))), (4, .int x), (0, .ref t), (1, .int cv), (2, .int 0), (3, .int (nI N))]) hx hb ms_dJ1_indexOfChar_4cfef_25 hl (k := 0) rfl (nI_1 k) (by decide) rfl (fun ls hl => ?_)
        refine lv_goto (tgt := 7) hx hb ms_dJ1_indexOfChar_4cfef_28 (by decide) ?_
        refine ih (k + 1) ls (by omega) hl ?_
        rw [← he, ms_sr, if_neg c2]
      · refine lv_iload hx hb ms_dJ1_indexOfChar_4cfef_22 (lv_at hl 0 rfl) ?_
        refine W.iret (v := nI k) hx hb hr (fun t ht _ => ⟨_, rfl, ?_, ht⟩) (fun q h => by cases h) ms_dJ1_indexOfChar_4cfef_24
        rw [← he, ms_sr, if_pos c2]
  exact loop N 0 ls (by omega) (by rw [nI_0]; exact hl) rfl
set_option maxHeartbeats 4000000 in
/-- StringLatin1.indexOf -/
theorem ms_ix1 (l : Launch) {t N : Nat} {b : Nat → Int32} {A : Nat → Prop} (hN : N ≤ 100) (cv : Int32) : Met l yJ1_indexOf_4cfef (ms_w yJ1_indexOf_4cfef cJ1_indexOf_4cfef 4 (some .int)) (mi_rm 1 0 0) (va_Pc [.ref t, .int cv, .int 0, .int (nI N)] (fun U => va_T .byte t N (fun j => .int (b j)) A U U.heap)) (vp_Si (fun r => r = if cv < 0 ∨ 255 < cv then -1 else ms_sr b cv.toInt8.toInt32 N 0)) 0 0 (fun _ => False) := by
  refine Met.ofW (cc := cJ1_indexOf_4cfef) (maxL := 4) (ret := some .int) (by decide +kernel) rfl ?_
  intro p e s m args below meth c s₁ B hml hv
  obtain ⟨rfl, hT⟩ := hv
  have hx := B.exec
  have hb := B.bytes
  have hr := B.returns
  have hts0 := atoms_spec (ws := ms_w yJ1_indexOf_4cfef cJ1_indexOf_4cfef 4 (some .int)) B.pre
  have hts : ∀ w ∈ mi_all, w.before _ s = true := fun w hw => hts0 w (List.mem_cons_of_mem _ hw)
  have hin : ∀ w, w ∈ lw_tbl → goodWord w = true → w.before _ s = true := fun w a b => hts w (mi_all_of a b)
  have hown := findClass_of_methodNamed B.named
  have hlocks := B.notSynchronized
  have hl := lv_entry ([.ref t, .int cv, .int 0, .int (nI N)]) (n := 4) (Nat.le_of_ble_eq_true rfl)
  rw [lg_entry_eq]
  generalize (lg_sl ([.ref t, .int cv, .int 0, .int (nI N)]) ++ List.replicate (4 - (lg_sl ([.ref t, .int cv, .int 0, .int (nI N)])).length) Slot.unset).toArray = ls at hl ⊢
  have hl : lv_has ls 4 [(0, .ref t), (1, .int cv), (2, .int 0), (3, .int (nI N))] := hl
  refine lv_iload_n hx hb ms_dJ1_indexOf_4cfef_0 rfl (lv_at hl 1 rfl) ?_
  refine vp_callSi (va_Run.run (va_runS (As := [.int cv]) (rest := []) ⟨hx, hb, hml, hown, hts⟩ (ms_can l cv) (va_cwS 1 hts (ms_gS (own := RJ1) (idx := 88) (b := cJ1_canEncode_9a6ad) (L := 1) (ret := some .boolean) (mi_at_mem ms_ws.2.2.2.2.2.2.2.2.2.2.2.2.2.2.1) (mi_at_mem ms_ws.2.2.2.2.2.2.2.2.2.2.2.2.2.2.2.1) (mi_at_mem ms_ws.2.2.2.2.2.2.2.2.2.2.2.2.2.2.2.2.2.2.2.2.2.2.2.2) (mi_at_mem ms_codes.2.2.2.2.2.2.1)) rfl rfl rfl ⟨by decide +kernel, by decide +kernel, by decide +kernel⟩ ⟨Nat.le_of_ble_eq_true rfl, Nat.le_of_ble_eq_true rfl⟩) ⟨fun _ _ _ _ z => z, fun U hU hW => ⟨rfl, trivial⟩⟩ rfl rfl hl.1 rfl (lv_room (Nat.le_of_ble_eq_true rfl)) ms_dJ1_indexOf_4cfef_1 ⟨Nat.le_refl _, Nat.le_refl _⟩)) (fun r9 hr9 => ?_)
  by_cases hc : cv < 0 ∨ 255 < cv
  · rw [if_pos hc] at hr9
    subst hr9
    refine lv_if_ne (tgt := 9) hx hb ms_dJ1_indexOf_4cfef_4 (by decide) (fun c1 => absurd rfl c1) (fun _ => ?_)
    refine lv_iconst (v := -1) hx hb ms_dJ1_indexOf_4cfef_7 (by decide) ?_
    exact W.iret (v := -1) hx hb hr (fun t ht _ => ⟨_, rfl, by rw [if_pos hc], ht⟩) (fun q h => by cases h) ms_dJ1_indexOf_4cfef_8
  rw [if_neg hc] at hr9
  subst hr9
  refine lv_if_ne (tgt := 9) hx hb ms_dJ1_indexOf_4cfef_4 (by decide) (fun _ => ?_) (fun c1 => absurd c1 (by decide))
  refine lv_iload_n hx hb ms_dJ1_indexOf_4cfef_9 rfl (lv_at hl 2 rfl) ?_
  refine lv_iconst (v := 0) hx hb ms_dJ1_indexOf_4cfef_10 (by decide) ?_
  refine va_mmax hx hb (hml.trans hl.1.symm) hown (hin _ (mi_at_mem ms_ws.2.2.2.2.2.2.2.2.2.2.2.2.2.2.2.2.1) rfl) (hin _ (mi_at_mem mi_w_mx.1) rfl) (hin _ (mi_at_mem mi_w_mx.2.1) rfl) (hin _ (mi_at_mem mi_w_mx.2.2) rfl) (Nat.le_of_ble_eq_true rfl) (Nat.le_of_ble_eq_true rfl) (Nat.le_refl _) (Nat.le_refl _) ms_dJ1_indexOf_4cfef_11 ?_
  rw [show (if (0 : Int32) < 0 then (0 : Int32) else 0) = 0 from rfl]
  refine lv_istore_n (lv' := [(2, .int 0), (0, .ref t), (1, .int cv), (3, .int (nI N))]) hx hb ms_dJ1_indexOf_4cfef_14 rfl hl (by decide) rfl (fun ls hl => ?_)
  refine lv_iload_n hx hb ms_dJ1_indexOf_4cfef_15 rfl (lv_at hl 3 rfl) ?_
  refine lv_aload_n hx hb ms_dJ1_indexOf_4cfef_16 rfl (lv_at hl 1 rfl) ?_
  refine va_tlen (v := nI N) hx hb hT va_S.rf rfl ms_dJ1_indexOf_4cfef_17 ?_
  refine va_mmin hx hb (hml.trans hl.1.symm) hown (hin _ (mi_at_mem ms_ws.2.2.2.2.2.2.2.2.2.2.2.2.2.2.2.2.2.1) rfl) (hin _ (mi_at_mem mi_w_mn.1) rfl) (hin _ (mi_at_mem mi_w_mx.2.1) rfl) (hin _ (mi_at_mem mi_w_mn.2) rfl) (Nat.le_of_ble_eq_true rfl) (Nat.le_of_ble_eq_true rfl) (Nat.le_refl _) (Nat.le_refl _) ms_dJ1_indexOf_4cfef_18 ?_
  rw [ite_self]
  refine lv_istore_n (lv' := [(3, .int (nI N)), (2, .int 0), (0, .ref t), (1, .int cv)]) hx hb ms_dJ1_indexOf_4cfef_21 rfl hl (by decide) rfl (fun ls hl => ?_)
  refine lv_iload_n hx hb ms_dJ1_indexOf_4cfef_22 rfl (lv_at hl 1 rfl) ?_
  refine lv_iload_n hx hb ms_dJ1_indexOf_4cfef_23 rfl (lv_at hl 0 rfl) ?_
  refine lv_icmp_lt (tgt := 29) hx hb ms_dJ1_indexOf_4cfef_24 (by decide) (fun c1 => ?_) (fun c1 => ?_)
  · refine lv_aload_n hx hb ms_dJ1_indexOf_4cfef_29 rfl (lv_at hl 2 rfl) ?_
    refine lv_iload_n hx hb ms_dJ1_indexOf_4cfef_30 rfl (lv_at hl 3 rfl) ?_
    refine lv_iload_n hx hb ms_dJ1_indexOf_4cfef_31 rfl (lv_at hl 1 rfl) ?_
    refine lv_iload_n hx hb ms_dJ1_indexOf_4cfef_32 rfl (lv_at hl 0 rfl) ?_
    refine vp_callSi (va_Run.run (va_runS (As := [.ref t, .int cv, .int 0, .int (nI N)]) (rest := []) ⟨hx, hb, hml, hown, hts⟩ (ms_ioc l hN cv (A := A) (t := t) (b := b)) (va_cwS 4 hts (ms_gS (own := RJ1) (idx := 95) (b := cJ1_indexOfChar_4cfef) (L := 6) (ret := some .int) (mi_at_mem ms_ws.2.2.2.2.2.2.2.2.2.2.2.2.2.2.2.2.2.2.1) (mi_at_mem ms_ws.2.2.2.2.2.2.2.2.2.2.2.2.2.2.2.2.2.2.2.1) (mi_at_mem ms_ws.2.2.2.2.2.2.2.2.2.2.2.2.2.2.2.2.2.2.2.2.2.2.2.2) (mi_at_mem ms_codes.2.2.2.2.2.2.2)) rfl rfl rfl ⟨by decide +kernel, by decide +kernel, by decide +kernel⟩ ⟨Nat.le_of_ble_eq_true rfl, Nat.le_of_ble_eq_true rfl⟩) ⟨fun _ _ _ _ z => z, fun U hU hW => ⟨rfl, by show va_T _ _ _ _ _ U U.heap; rw [hU]; exact hT.moved hW.alike⟩⟩ rfl rfl hl.1 rfl (lv_room (Nat.le_of_ble_eq_true rfl)) ms_dJ1_indexOf_4cfef_33 ⟨Nat.le_refl _, Nat.le_refl _⟩)) (fun r9 hr9 => ?_)
    exact W.iret (v := r9) hx hb hr (fun t ht _ => ⟨_, rfl, by rw [if_neg hc]; exact hr9, ht⟩) (fun q h => by cases h) ms_dJ1_indexOf_4cfef_36
  · have hN0 : N = 0 := by
      rcases Nat.eq_zero_or_pos N with h | h
      · exact h
      · exact absurd (by rw [← nI_0]; exact nI_lt h (by omega)) c1
    subst hN0
    refine lv_iconst (v := -1) hx hb ms_dJ1_indexOf_4cfef_27 (by decide) ?_
    exact W.iret (v := -1) hx hb hr (fun t ht _ => ⟨_, rfl, by rw [if_neg hc]; rfl, ht⟩) (fun q h => by cases h) ms_dJ1_indexOf_4cfef_28
set_option maxHeartbeats 4000000 in
/-- indexOf of two -/
theorem ms_ix2 (l : Launch) {adK adV : Nat → Nat} {A : Nat → Prop} {i : Nat} (hi : i < 3) (cv : Int32) : Met l yJ0_indexOf_7cf53 (ms_w yJ0_indexOf_7cf53 cJ0_indexOf_7cf53 3 (some .int)) (mi_rm 2 0 0) (va_Pc [.ref (adK i), .int cv, .int 0] (fun U => vk_S 3 [0, 3, 3] [[], [108, 110, 98], [108, 107, 116]] adK adV A U U.heap ∧ va_Z "java/lang/String" "COMPACT_STRINGS" "Z" (.int 1) A U U.heap)) (vp_Si (fun r => r = if cv < 0 ∨ 255 < cv then -1 else ms_sr (fun j => (([[], [108, 110, 98], [108, 107, 116]] : List (List Int32)).getD i []).getD j 0) cv.toInt8.toInt32 ([0, 3, 3].getD i 0) 0)) 0 0 (fun _ => False) := by
  refine Met.ofW (cc := cJ0_indexOf_7cf53) (maxL := 3) (ret := some .int) (by decide +kernel) rfl ?_
  intro p e s m args below meth c s₁ B hml hv
  obtain ⟨rfl, hE, hZ⟩ := hv
  have hx := B.exec
  have hb := B.bytes
  have hr := B.returns
  have hts0 := atoms_spec (ws := ms_w yJ0_indexOf_7cf53 cJ0_indexOf_7cf53 3 (some .int)) B.pre
  have hts : ∀ w ∈ mi_all, w.before _ s = true := fun w hw => hts0 w (List.mem_cons_of_mem _ hw)
  have hin : ∀ w, w ∈ lw_tbl → goodWord w = true → w.before _ s = true := fun w a b => hts w (mi_all_of a b)
  have hown := findClass_of_methodNamed B.named
  have hlocks := B.notSynchronized
  have hl := lv_entry ([.ref (adK i), .int cv, .int 0]) (n := 3) (Nat.le_of_ble_eq_true rfl)
  rw [lg_entry_eq]
  generalize (lg_sl ([.ref (adK i), .int cv, .int 0]) ++ List.replicate (3 - (lg_sl ([.ref (adK i), .int cv, .int 0])).length) Slot.unset).toArray = ls at hl ⊢
  have hl : lv_has ls 3 [(0, .ref (adK i)), (1, .int cv), (2, .int 0)] := hl
  refine lv_aload_n hx hb ms_dJ0_indexOf_7cf53_0 rfl (lv_at hl 0 rfl) ?_
  refine vp_callSi (va_Run.run (va_runV (C := RJ0) (As := []) (rest := []) ⟨hx, hb, hml, hown, hts⟩ (ms_lat l hi) (cwV 0 hts (ms_gV (own := RJ0) (idx := 492) (C := RJ0) (b := cJ0_isLatin1_aae02) (L := 1) (ret := some .boolean) (mi_at_mem ms_ws.2.2.2.1) (mi_at_mem ms_ws.2.2.2.2.1) (mi_at_mem ms_ws.2.2.2.2.2.1) (mi_at_mem ms_ws.2.2.2.2.2.2.2.2.2.2.2.2.2.2.2.2.2.2.2.2.2.2.2.1) (mi_at_mem ms_codes.2.2.1)) rfl rfl rfl ⟨rfl, by decide +kernel, by decide +kernel, by decide +kernel⟩ ⟨Nat.le_of_ble_eq_true rfl, Nat.le_of_ble_eq_true rfl⟩) ⟨fun _ _ _ _ z => z, vk_recv hE hi va_S.rf, fun U hU hW => ⟨rfl, by rw [hU]; exact hE.moved hW.alike, by rw [hU]; exact hZ.moved hW.alike⟩⟩ rfl rfl hl.1 rfl (lv_room (Nat.le_of_ble_eq_true rfl)) ms_dJ0_indexOf_7cf53_1 ⟨Nat.le_refl _, Nat.le_refl _⟩)) (fun r9 hr9 => ?_)
  subst hr9
  refine lv_if_eq (tgt := 23) hx hb ms_dJ0_indexOf_7cf53_4 (by decide) (fun c1 => absurd c1 (by decide)) (fun _ => ?_)
  refine lv_aload_n hx hb ms_dJ0_indexOf_7cf53_7 rfl (lv_at hl 0 rfl) ?_
  refine vk_getf (ref := "java/lang/String") hx hb (hE.1 i hi).2.2.1 va_S.rf hown (hin _ (mi_at_mem ms_ws.2.2.2.2.2.2.2.2.2.2.2.2.2.2.2.2.2.2.2.2.2.2.1) rfl) (fun _ h => h) ms_dJ0_indexOf_7cf53_8 ?_
  refine lv_iload_n hx hb ms_dJ0_indexOf_7cf53_11 rfl (lv_at hl 1 rfl) ?_
  refine lv_iload_n hx hb ms_dJ0_indexOf_7cf53_12 rfl (lv_at hl 2 rfl) ?_
  refine lv_aload_n hx hb ms_dJ0_indexOf_7cf53_13 rfl (lv_at hl 0 rfl) ?_
  refine vp_callSi (va_Run.run (va_runV (C := RJ0) (As := []) (rest := [.int 0, .int cv, .ref (adV i)]) ⟨hx, hb, hml, hown, hts⟩ (ms_len l hi) (cwV 0 hts (ms_gV (own := RJ0) (idx := 505) (C := RJ0) (b := cJ0_length_8abf5) (L := 1) (ret := some .int) (mi_at_mem ms_ws.2.2.2.2.2.2.1) (mi_at_mem ms_ws.2.2.2.2.2.2.2.1) (mi_at_mem ms_ws.2.2.2.2.2.2.2.2.1) (mi_at_mem ms_ws.2.2.2.2.2.2.2.2.2.2.2.2.2.2.2.2.2.2.2.2.2.2.2.1) (mi_at_mem ms_codes.2.2.2.1)) rfl rfl rfl ⟨rfl, by decide +kernel, by decide +kernel, by decide +kernel⟩ ⟨Nat.le_of_ble_eq_true rfl, Nat.le_of_ble_eq_true rfl⟩) ⟨fun _ _ _ _ z => z, vk_recv hE hi va_S.rf, fun U hU hW => ⟨rfl, by rw [hU]; exact hE.moved hW.alike, by rw [hU]; exact hZ.moved hW.alike⟩⟩ rfl rfl hl.1 rfl (lv_room (Nat.le_of_ble_eq_true rfl)) ms_dJ0_indexOf_7cf53_14 ⟨Nat.le_refl _, Nat.le_refl _⟩)) (fun r9 hr9 => ?_)
  subst hr9
  refine vp_callSi (va_Run.run (va_runS (As := [.ref (adV i), .int cv, .int 0, .int (nI ([0, 3, 3].getD i 0))]) (rest := []) ⟨hx, hb, hml, hown, hts⟩ (ms_ix1 l (t := adV i) (N := [0, 3, 3].getD i 0) (b := fun j => (([[], [108, 110, 98], [108, 107, 116]] : List (List Int32)).getD i []).getD j 0) (A := A) (by rcases (by omega : i = 0 ∨ i = 1 ∨ i = 2) with rfl | rfl | rfl <;> decide) cv) (va_cwS 4 hts (ms_gS (own := RJ0) (idx := 637) (b := cJ1_indexOf_4cfef) (L := 4) (ret := some .int) (mi_at_mem ms_ws.2.2.2.2.2.2.2.2.2.2.2.2.1) (mi_at_mem ms_ws.2.2.2.2.2.2.2.2.2.2.2.2.2.1) (mi_at_mem ms_ws.2.2.2.2.2.2.2.2.2.2.2.2.2.2.2.2.2.2.2.2.2.2.2.2) (mi_at_mem ms_codes.2.2.2.2.2.1)) rfl rfl rfl ⟨by decide +kernel, by decide +kernel, by decide +kernel⟩ ⟨Nat.le_of_ble_eq_true rfl, Nat.le_of_ble_eq_true rfl⟩) ⟨fun _ _ _ _ z => z, fun U hU hW => ⟨rfl, by show va_T _ _ _ _ _ U U.heap; rw [hU]; exact (hE.1 i hi).2.2.2.moved hW.alike⟩⟩ rfl rfl hl.1 rfl (lv_room (Nat.le_of_ble_eq_true rfl)) ms_dJ0_indexOf_7cf53_17 ⟨Nat.le_refl _, Nat.le_refl _⟩)) (fun r9 hr9 => ?_)
  refine lv_goto (tgt := 36) hx hb ms_dJ0_indexOf_7cf53_20 (by decide) ?_
  exact W.iret (v := r9) hx hb hr (fun t ht _ => ⟨_, rfl, hr9, ht⟩) (fun q h => by cases h) ms_dJ0_indexOf_7cf53_36
set_option maxHeartbeats 4000000 in
/-- indexOf -/
theorem ms_ix3 (l : Launch) {adK adV : Nat → Nat} {A : Nat → Prop} {i : Nat} (hi : i < 3) (cv : Int32) : Met l yJ0_indexOf_0f7a4 (ms_w yJ0_indexOf_0f7a4 cJ0_indexOf_0f7a4 2 (some .int)) (mi_rm 3 0 0) (va_Pc [.ref (adK i), .int cv] (fun U => vk_S 3 [0, 3, 3] [[], [108, 110, 98], [108, 107, 116]] adK adV A U U.heap ∧ va_Z "java/lang/String" "COMPACT_STRINGS" "Z" (.int 1) A U U.heap)) (vp_Si (fun r => r = if cv < 0 ∨ 255 < cv then -1 else ms_sr (fun j => (([[], [108, 110, 98], [108, 107, 116]] : List (List Int32)).getD i []).getD j 0) cv.toInt8.toInt32 ([0, 3, 3].getD i 0) 0)) 0 0 (fun _ => False) := by
  refine Met.ofW (cc := cJ0_indexOf_0f7a4) (maxL := 2) (ret := some .int) (by decide +kernel) rfl ?_
  intro p e s m args below meth c s₁ B hml hv
  obtain ⟨rfl, hE, hZ⟩ := hv
  have hx := B.exec
  have hb := B.bytes
  have hr := B.returns
  have hts0 := atoms_spec (ws := ms_w yJ0_indexOf_0f7a4 cJ0_indexOf_0f7a4 2 (some .int)) B.pre
  have hts : ∀ w ∈ mi_all, w.before _ s = true := fun w hw => hts0 w (List.mem_cons_of_mem _ hw)
  have hin : ∀ w, w ∈ lw_tbl → goodWord w = true → w.before _ s = true := fun w a b => hts w (mi_all_of a b)
  have hown := findClass_of_methodNamed B.named
  have hlocks := B.notSynchronized
  have hl := lv_entry ([.ref (adK i), .int cv]) (n := 2) (Nat.le_of_ble_eq_true rfl)
  rw [lg_entry_eq]
  generalize (lg_sl ([.ref (adK i), .int cv]) ++ List.replicate (2 - (lg_sl ([.ref (adK i), .int cv])).length) Slot.unset).toArray = ls at hl ⊢
  have hl : lv_has ls 2 [(0, .ref (adK i)), (1, .int cv)] := hl
  refine lv_aload_n hx hb ms_dJ0_indexOf_0f7a4_0 rfl (lv_at hl 0 rfl) ?_
  refine lv_iload_n hx hb ms_dJ0_indexOf_0f7a4_1 rfl (lv_at hl 1 rfl) ?_
  refine lv_iconst (v := 0) hx hb ms_dJ0_indexOf_0f7a4_2 (by decide) ?_
  refine vp_callSi (va_Run.run (va_runV (C := RJ0) (As := [.int cv, .int 0]) (rest := []) ⟨hx, hb, hml, hown, hts⟩ (ms_ix2 l hi cv) (cwV 2 hts (ms_gV (own := RJ0) (idx := 633) (C := RJ0) (b := cJ0_indexOf_7cf53) (L := 3) (ret := some .int) (mi_at_mem ms_ws.1) (mi_at_mem ms_ws.2.1) (mi_at_mem ms_ws.2.2.1) (mi_at_mem ms_ws.2.2.2.2.2.2.2.2.2.2.2.2.2.2.2.2.2.2.2.2.2.2.2.1) (mi_at_mem ms_codes.2.1)) rfl rfl rfl ⟨rfl, by decide +kernel, by decide +kernel, by decide +kernel⟩ ⟨Nat.le_of_ble_eq_true rfl, Nat.le_of_ble_eq_true rfl⟩) ⟨fun _ _ _ _ z => z, vk_recv hE hi va_S.rf, fun U hU hW => ⟨rfl, by rw [hU]; exact hE.moved hW.alike, by rw [hU]; exact hZ.moved hW.alike⟩⟩ rfl rfl hl.1 rfl (lv_room (Nat.le_of_ble_eq_true rfl)) ms_dJ0_indexOf_0f7a4_3 ⟨Nat.le_refl _, Nat.le_refl _⟩)) (fun r9 hr9 => ?_)
  exact W.iret (v := r9) hx hb hr (fun t ht _ => ⟨_, rfl, hr9, ht⟩) (fun q h => by cases h) ms_dJ0_indexOf_0f7a4_6
theorem ms_small : ∀ i, i < 3 → ∀ n, n < 256 → ms_sr (fun j => (([[], [108, 110, 98], [108, 107, 116]] : List (List Int32)).getD i []).getD j 0) (nI n).toInt8.toInt32 ([0, 3, 3].getD i 0) 0 = mi_ixo (nI n) (mi_txt i) 0 := by decide +kernel
theorem ms_far {c : Int32} (h : c < 0 ∨ 255 < c) : ∀ i, i < 3 → mi_ixo c (mi_txt i) 0 = -1 := by
  have hk : ∀ k : Int32, ¬ k < 0 → ¬ 255 < k → ¬ k = c := by
    intro k h1 h2 h3
    subst h3
    exact h.elim h1 h2
  intro i hi
  rcases (by omega : i = 0 ∨ i = 1 ∨ i = 2) with rfl | rfl | rfl
  · rfl
  · show mi_ixo c [.int 108, .int 110, .int 98] 0 = -1
    rw [mi_ixo, if_neg (hk _ (by decide) (by decide)), mi_ixo, if_neg (hk _ (by decide) (by decide)), mi_ixo, if_neg (hk _ (by decide) (by decide)), mi_ixo]
  · show mi_ixo c [.int 108, .int 107, .int 116] 0 = -1
    rw [mi_ixo, if_neg (hk _ (by decide) (by decide)), mi_ixo, if_neg (hk _ (by decide) (by decide)), mi_ixo, if_neg (hk _ (by decide) (by decide)), mi_ixo]
theorem ms_eq {c : Int32} {i : Nat} (hi : i < 3) : (if c < 0 ∨ 255 < c then -1 else ms_sr (fun j => (([[], [108, 110, 98], [108, 107, 116]] : List (List Int32)).getD i []).getD j 0) c.toInt8.toInt32 ([0, 3, 3].getD i 0) 0) = mi_ixo c (mi_txt i) 0 := by
  split
  next h => exact (ms_far h i hi).symm
  next h =>
    obtain ⟨n, hn, rfl⟩ := nI_of2 (M := 255) (n := 255) (by decide) (fun z => h (Or.inl z)) (Int32.not_lt.mp (fun z => h (Or.inr z)))
    exact ms_small i hi n (by omega)
theorem mi_str (l : Launch) (ad : Nat → Nat) (n0 : Nat) : mi_StrOk l ad n0 := by
  intro i c hi p e ha hc hk s m args below hf happ hP hK
  obtain ⟨hargs, ⟨adV, hE⟩, hZ⟩ := hP
  obtain ⟨n, o, h1, h2, h3, ⟨r, h4, h5, h6⟩, h7⟩ := ms_ix3 l (adK := fun i => ad (i + 1)) (adV := adV) (A := fun q : Nat => n0 ≤ q) hi c p e ha hc hk s m args below hf happ ⟨hargs, hE, hZ⟩ hK
  exact ⟨n, o, h1, h2, h3, ⟨r, h4, h5.trans (ms_eq hi), h6⟩, h7⟩
