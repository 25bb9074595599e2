/-! the law's loop: acts over the numbers -/
section U
variable {sc : List Value} {own : Nat} {ini rz : Bool} {code : List (Nat × Instr)} {d n : Nat} {ls r : List Value} {I : mg_I} {nm0 : Nat} {Q : Option Value → mg_I → Nat → Prop}
theorem lw_C {p : rD} (k : ∀ I1, RC I1 p.2.2 → cF (kE I p.1) I1 → GG sc own ini rz code d n ls (.int (ans p) :: r) I1 nm0 Q) : ∀ a I2 nm2, qC I p nm0 a I2 nm2 → GG sc own ini rz code d n ls (a.toList ++ r) I2 nm2 Q := by
  rintro a I2 nm2 ⟨rfl, ⟨h1, h2⟩, rfl⟩
  exact k I2 h1 h2
theorem lw_X {p : rD} (k : ∀ I1 nm1, RC I1 p.2.2 → cF (kE I p.1) I1 → GG sc own ini rz code d n ls (.int (ans p) :: r) I1 nm1 Q) : ∀ a I2 nm2, qCx I p a I2 nm2 → GG sc own ini rz code d n ls (a.toList ++ r) I2 nm2 Q := by
  rintro a I2 nm2 ⟨rfl, h1, h2⟩
  exact k I2 nm2 h1 h2
theorem lw_D {p : rD} (k : ∀ J, mX (mR (fEr I p.1) p.2.2) J → GG sc own ini rz code d n ls (.int (ans p) :: r) J nm0 Q) : ∀ a I2 nm2, qD I p nm0 a I2 nm2 → GG sc own ini rz code d n ls (a.toList ++ r) I2 nm2 Q := by
  rintro a I2 nm2 ⟨rfl, h1, rfl⟩
  exact k I2 h1
theorem lw_S {v : Int32} {I1 : mg_I} (k : ∀ J, mX I1 J → GG sc own ini rz code d n ls (.int v :: r) J nm0 Q) : ∀ a I2 nm2, qS v I1 nm0 a I2 nm2 → GG sc own ini rz code d n ls (a.toList ++ r) I2 nm2 Q := by
  rintro a I2 nm2 ⟨rfl, h1, rfl⟩
  exact k I2 h1
end U
def lk (L : Nat) (xs : Nat → Int32) (d i : Nat) (Q : Option Value → mg_I → Nat → Prop) : Prop := ∀ J nm', LI J → GG (mi_sc L xs) 13 false true mi_k231 d 1223 [.ref 0, .ref 5, .ref 124, .int (nI i)] [] J nm' Q
set_option maxRecDepth 20000 in
theorem lw_op0 {L i d nm : Nat} {xs : Nat → Int32} {I : mg_I} {Q : Option Value → mg_I → Nat → Prop} (hd : 60 ≤ d) (hi : i + 6 ≤ L) (hL3 : L ≤ 3072) (hL : LI I) (hk : lk L xs d i Q) : GG (mi_sc L xs) 13 false true mi_k231 d 188 [.ref 0, .ref 5, .ref 124, .int (nI i)] [] I nm Q := by
  have hC := hL.1
  have hg := hL.2.1
  have hw := hg.1
  have hv := hg.2.1
  have hm1 := hg.2.2.1
  have hS := hg.2.2.2.1
  have hLd := hg.2.2.2.2.1
  have h6 := hg.2.2.2.2.2.1
  have h7 := hg.2.2.2.2.2.2.1
  have hb := hg.2.2.2.2.2.2.2.1
  have hN := hw.1.1
  have h5 := hw.2.2.2
  refine g_aload_n (n := 189) rfl rfl ?_
  refine g_aload_n (n := 190) rfl rfl ?_
  refine g_iload_n (n := 191) rfl rfl ?_
  refine g_iconst (n := 192) (v := 1) rfl rfl ?_
  refine g_iaddN (n := 193) (x := i) (y := 1) rfl ?_
  refine g_sld (n := 194) ((i + 1)) rfl (by omega) (by omega) ?_
  refine g_aload_n (n := 195) rfl rfl ?_
  refine g_iload_n (n := 196) rfl rfl ?_
  refine g_iconst (n := 197) (v := 2) rfl rfl ?_
  refine g_iaddN (n := 198) (x := i) (y := 2) rfl ?_
  refine g_sld (n := 199) ((i + 2)) rfl (by omega) (by omega) ?_
  refine g_cv2 (n := 202) (t := 91) (ci := 11) rfl (by decide +kernel) (by decide +kernel) (by decide) (by decide) (by decide +kernel) (by rfl) (c_kRoom hC hLd) (by omega) (lw_C fun I1 hC1 hF1 => ?_)
  have e125 := cF_125 hF1
  refine g_aload_n (n := 203) rfl rfl ?_
  refine g_aload_n (n := 204) rfl rfl ?_
  refine g_iload_n (n := 205) rfl rfl ?_
  refine g_iconst (n := 206) (v := 1) rfl rfl ?_
  refine g_iaddN (n := 207) (x := i) (y := 1) rfl ?_
  refine g_sld (n := 208) ((i + 1)) rfl (by omega) (by omega) ?_
  refine g_aload_n (n := 209) rfl rfl ?_
  refine g_iload_n (n := 210) rfl rfl ?_
  refine g_iconst (n := 211) (v := 2) rfl rfl ?_
  refine g_iaddN (n := 212) (x := i) (y := 2) rfl ?_
  refine g_sld (n := 213) ((i + 2)) rfl (by omega) (by omega) ?_
  refine g_cv2 (n := 216) (t := 168) (ci := 12) rfl (by decide +kernel) (by decide +kernel) (by decide) (by decide) (by decide +kernel) (by rfl) (SP_mR (c_room hN) e125) (by omega) (lw_D fun J hX => ?_)
  refine g_iceq (n := 219) 1223 rfl (by decide) (fun _ => ?_) (fun h => absurd rfl h)
  exact hk J _ (LI_o hL hC1 hF1 hX (gI_room hg))
set_option maxRecDepth 20000 in
theorem lw_op1 {L i d nm : Nat} {xs : Nat → Int32} {I : mg_I} {Q : Option Value → mg_I → Nat → Prop} (hd : 60 ≤ d) (hi : i + 6 ≤ L) (hL3 : L ≤ 3072) (hL : LI I) (hk : lk L xs d i Q) : GG (mi_sc L xs) 13 false true mi_k231 d 221 [.ref 0, .ref 5, .ref 124, .int (nI i)] [] I nm Q := by
  have hC := hL.1
  have hg := hL.2.1
  have hw := hg.1
  have hv := hg.2.1
  have hm1 := hg.2.2.1
  have hS := hg.2.2.2.1
  have hLd := hg.2.2.2.2.1
  have h6 := hg.2.2.2.2.2.1
  have h7 := hg.2.2.2.2.2.2.1
  have hb := hg.2.2.2.2.2.2.2.1
  have hN := hw.1.1
  have h5 := hw.2.2.2
  refine g_aload_n (n := 222) rfl rfl ?_
  refine g_aload_n (n := 223) rfl rfl ?_
  refine g_iload_n (n := 224) rfl rfl ?_
  refine g_iconst (n := 225) (v := 1) rfl rfl ?_
  refine g_iaddN (n := 226) (x := i) (y := 1) rfl ?_
  refine g_sld (n := 227) ((i + 1)) rfl (by omega) (by omega) ?_
  refine g_aload_n (n := 228) rfl rfl ?_
  refine g_iload_n (n := 229) rfl rfl ?_
  refine g_iconst (n := 230) (v := 2) rfl rfl ?_
  refine g_iaddN (n := 231) (x := i) (y := 2) rfl ?_
  refine g_sld (n := 232) ((i + 2)) rfl (by omega) (by omega) ?_
  refine g_cv2 (n := 235) (t := 92) (ci := 11) rfl (by decide +kernel) (by decide +kernel) (by decide) (by decide) (by decide +kernel) (by rfl) (c_kOfYard hC) (by omega) (lw_C fun I1 hC1 hF1 => ?_)
  have e125 := cF_125 hF1
  refine g_aload_n (n := 236) rfl rfl ?_
  refine g_aload_n (n := 237) rfl rfl ?_
  refine g_iload_n (n := 238) rfl rfl ?_
  refine g_iconst (n := 239) (v := 1) rfl rfl ?_
  refine g_iaddN (n := 240) (x := i) (y := 1) rfl ?_
  refine g_sld (n := 241) ((i + 1)) rfl (by omega) (by omega) ?_
  refine g_aload_n (n := 242) rfl rfl ?_
  refine g_iload_n (n := 243) rfl rfl ?_
  refine g_iconst (n := 244) (v := 2) rfl rfl ?_
  refine g_iaddN (n := 245) (x := i) (y := 2) rfl ?_
  refine g_sld (n := 246) ((i + 2)) rfl (by omega) (by omega) ?_
  refine g_cv2 (n := 249) (t := 169) (ci := 12) rfl (by decide +kernel) (by decide +kernel) (by decide) (by decide) (by decide +kernel) (by rfl) (SP_mR (c_ofYard hN) e125) (by omega) (lw_D fun J hX => ?_)
  refine g_iceq (n := 252) 1223 rfl (by decide) (fun _ => ?_) (fun h => absurd rfl h)
  exact hk J _ (LI_o hL hC1 hF1 hX (by rw [sm_OfYard]; exact hg))
set_option maxRecDepth 20000 in
theorem lw_op2 {L i d nm : Nat} {xs : Nat → Int32} {I : mg_I} {Q : Option Value → mg_I → Nat → Prop} (hd : 60 ≤ d) (hi : i + 6 ≤ L) (hL3 : L ≤ 3072) (hL : LI I) (hk : lk L xs d i Q) : GG (mi_sc L xs) 13 false true mi_k231 d 254 [.ref 0, .ref 5, .ref 124, .int (nI i)] [] I nm Q := by
  have hC := hL.1
  have hg := hL.2.1
  have hw := hg.1
  have hv := hg.2.1
  have hm1 := hg.2.2.1
  have hS := hg.2.2.2.1
  have hLd := hg.2.2.2.2.1
  have h6 := hg.2.2.2.2.2.1
  have h7 := hg.2.2.2.2.2.2.1
  have hb := hg.2.2.2.2.2.2.2.1
  have hN := hw.1.1
  have h5 := hw.2.2.2
  refine g_aload_n (n := 255) rfl rfl ?_
  refine g_aload_n (n := 256) rfl rfl ?_
  refine g_iload_n (n := 257) rfl rfl ?_
  refine g_iconst (n := 258) (v := 1) rfl rfl ?_
  refine g_iaddN (n := 259) (x := i) (y := 1) rfl ?_
  refine g_sld (n := 260) ((i + 1)) rfl (by omega) (by omega) ?_
  refine g_aload_n (n := 261) rfl rfl ?_
  refine g_iload_n (n := 262) rfl rfl ?_
  refine g_iconst (n := 263) (v := 2) rfl rfl ?_
  refine g_iaddN (n := 264) (x := i) (y := 2) rfl ?_
  refine g_sld (n := 265) ((i + 2)) rfl (by omega) (by omega) ?_
  refine g_aload_n (n := 266) rfl rfl ?_
  refine g_iload_n (n := 267) rfl rfl ?_
  refine g_iconst (n := 268) (v := 3) rfl rfl ?_
  refine g_iaddN (n := 269) (x := i) (y := 3) rfl ?_
  refine g_sld (n := 270) ((i + 3)) rfl (by omega) (by omega) ?_
  refine g_aload_n (n := 271) rfl rfl ?_
  refine g_iload_n (n := 272) rfl rfl ?_
  refine g_iconst (n := 273) (v := 4) rfl rfl ?_
  refine g_iaddN (n := 274) (x := i) (y := 4) rfl ?_
  refine g_sld (n := 275) ((i + 4)) rfl (by omega) (by omega) ?_
  refine g_cv4 (n := 278) (t := 93) (ci := 11) rfl (by decide +kernel) (by decide +kernel) (by decide) (by decide) (by decide +kernel) (by rfl) (c_kGoerNew hC hw) (by omega) (lw_C fun I1 hC1 hF1 => ?_)
  have e125 := cF_125 hF1
  refine g_aload_n (n := 279) rfl rfl ?_
  refine g_aload_n (n := 280) rfl rfl ?_
  refine g_iload_n (n := 281) rfl rfl ?_
  refine g_iconst (n := 282) (v := 1) rfl rfl ?_
  refine g_iaddN (n := 283) (x := i) (y := 1) rfl ?_
  refine g_sld (n := 284) ((i + 1)) rfl (by omega) (by omega) ?_
  refine g_aload_n (n := 285) rfl rfl ?_
  refine g_iload_n (n := 286) rfl rfl ?_
  refine g_iconst (n := 287) (v := 2) rfl rfl ?_
  refine g_iaddN (n := 288) (x := i) (y := 2) rfl ?_
  refine g_sld (n := 289) ((i + 2)) rfl (by omega) (by omega) ?_
  refine g_aload_n (n := 290) rfl rfl ?_
  refine g_iload_n (n := 291) rfl rfl ?_
  refine g_iconst (n := 292) (v := 3) rfl rfl ?_
  refine g_iaddN (n := 293) (x := i) (y := 3) rfl ?_
  refine g_sld (n := 294) ((i + 3)) rfl (by omega) (by omega) ?_
  refine g_aload_n (n := 295) rfl rfl ?_
  refine g_iload_n (n := 296) rfl rfl ?_
  refine g_iconst (n := 297) (v := 4) rfl rfl ?_
  refine g_iaddN (n := 298) (x := i) (y := 4) rfl ?_
  refine g_sld (n := 299) ((i + 4)) rfl (by omega) (by omega) ?_
  refine g_cv4 (n := 302) (t := 176) (ci := 12) rfl (by decide +kernel) (by decide +kernel) (by decide) (by decide) (by decide +kernel) (by rfl) (SP_mR (c_goer hN) e125) (by omega) (lw_D fun J hX => ?_)
  refine g_iceq (n := 305) 1223 rfl (by decide) (fun _ => ?_) (fun h => absurd rfl h)
  exact hk J _ (LI_o hL hC1 hF1 hX (gI_goerN hg))
set_option maxRecDepth 20000 in
theorem lw_op3 {L i d nm : Nat} {xs : Nat → Int32} {I : mg_I} {Q : Option Value → mg_I → Nat → Prop} (hd : 60 ≤ d) (hi : i + 6 ≤ L) (hL3 : L ≤ 3072) (hL : LI I) (hk : lk L xs d i Q) : GG (mi_sc L xs) 13 false true mi_k231 d 307 [.ref 0, .ref 5, .ref 124, .int (nI i)] [] I nm Q := by
  have hC := hL.1
  have hg := hL.2.1
  have hw := hg.1
  have hv := hg.2.1
  have hm1 := hg.2.2.1
  have hS := hg.2.2.2.1
  have hLd := hg.2.2.2.2.1
  have h6 := hg.2.2.2.2.2.1
  have h7 := hg.2.2.2.2.2.2.1
  have hb := hg.2.2.2.2.2.2.2.1
  have hN := hw.1.1
  have h5 := hw.2.2.2
  refine g_aload_n (n := 308) rfl rfl ?_
  refine g_aload_n (n := 309) rfl rfl ?_
  refine g_iload_n (n := 310) rfl rfl ?_
  refine g_iconst (n := 311) (v := 1) rfl rfl ?_
  refine g_iaddN (n := 312) (x := i) (y := 1) rfl ?_
  refine g_sld (n := 313) ((i + 1)) rfl (by omega) (by omega) ?_
  refine g_aload_n (n := 314) rfl rfl ?_
  refine g_iload_n (n := 315) rfl rfl ?_
  refine g_iconst (n := 316) (v := 2) rfl rfl ?_
  refine g_iaddN (n := 317) (x := i) (y := 2) rfl ?_
  refine g_sld (n := 318) ((i + 2)) rfl (by omega) (by omega) ?_
  refine g_cv2 (n := 321) (t := 94) (ci := 11) rfl (by decide +kernel) (by decide +kernel) (by decide) (by decide) (by decide +kernel) (by rfl) (c_kOfGoer hC hw) (by omega) (lw_C fun I1 hC1 hF1 => ?_)
  have e125 := cF_125 hF1
  refine g_aload_n (n := 322) rfl rfl ?_
  refine g_aload_n (n := 323) rfl rfl ?_
  refine g_iload_n (n := 324) rfl rfl ?_
  refine g_iconst (n := 325) (v := 1) rfl rfl ?_
  refine g_iaddN (n := 326) (x := i) (y := 1) rfl ?_
  refine g_sld (n := 327) ((i + 1)) rfl (by omega) (by omega) ?_
  refine g_aload_n (n := 328) rfl rfl ?_
  refine g_iload_n (n := 329) rfl rfl ?_
  refine g_iconst (n := 330) (v := 2) rfl rfl ?_
  refine g_iaddN (n := 331) (x := i) (y := 2) rfl ?_
  refine g_sld (n := 332) ((i + 2)) rfl (by omega) (by omega) ?_
  refine g_cv2 (n := 335) (t := 177) (ci := 12) rfl (by decide +kernel) (by decide +kernel) (by decide) (by decide) (by decide +kernel) (by rfl) (SP_mR (c_ofGoer hw) e125) (by omega) (lw_D fun J hX => ?_)
  refine g_iceq (n := 338) 1223 rfl (by decide) (fun _ => ?_) (fun h => absurd rfl h)
  exact hk J _ (LI_o hL hC1 hF1 hX (by rw [sm_OfGoer]; exact hg))
set_option maxRecDepth 20000 in
theorem lw_op4 {L i d nm : Nat} {xs : Nat → Int32} {I : mg_I} {Q : Option Value → mg_I → Nat → Prop} (hd : 60 ≤ d) (hi : i + 6 ≤ L) (hL3 : L ≤ 3072) (hL : LI I) (hk : lk L xs d i Q) : GG (mi_sc L xs) 13 false true mi_k231 d 340 [.ref 0, .ref 5, .ref 124, .int (nI i)] [] I nm Q := by
  have hC := hL.1
  have hg := hL.2.1
  have hw := hg.1
  have hv := hg.2.1
  have hm1 := hg.2.2.1
  have hS := hg.2.2.2.1
  have hLd := hg.2.2.2.2.1
  have h6 := hg.2.2.2.2.2.1
  have h7 := hg.2.2.2.2.2.2.1
  have hb := hg.2.2.2.2.2.2.2.1
  have hN := hw.1.1
  have h5 := hw.2.2.2
  refine g_aload_n (n := 341) rfl rfl ?_
  refine g_aload_n (n := 342) rfl rfl ?_
  refine g_iload_n (n := 343) rfl rfl ?_
  refine g_iconst (n := 344) (v := 1) rfl rfl ?_
  refine g_iaddN (n := 345) (x := i) (y := 1) rfl ?_
  refine g_sld (n := 346) ((i + 1)) rfl (by omega) (by omega) ?_
  refine g_aload_n (n := 347) rfl rfl ?_
  refine g_iload_n (n := 348) rfl rfl ?_
  refine g_iconst (n := 349) (v := 2) rfl rfl ?_
  refine g_iaddN (n := 350) (x := i) (y := 2) rfl ?_
  refine g_sld (n := 351) ((i + 2)) rfl (by omega) (by omega) ?_
  refine g_cv2 (n := 354) (t := 95) (ci := 11) rfl (by decide +kernel) (by decide +kernel) (by decide) (by decide) (by decide +kernel) (by rfl) (c_kBecome hC) (by omega) (lw_C fun I1 hC1 hF1 => ?_)
  have e125 := cF_125 hF1
  refine g_aload_n (n := 355) rfl rfl ?_
  refine g_aload_n (n := 356) rfl rfl ?_
  refine g_iload_n (n := 357) rfl rfl ?_
  refine g_iconst (n := 358) (v := 1) rfl rfl ?_
  refine g_iaddN (n := 359) (x := i) (y := 1) rfl ?_
  refine g_sld (n := 360) ((i + 1)) rfl (by omega) (by omega) ?_
  refine g_aload_n (n := 361) rfl rfl ?_
  refine g_iload_n (n := 362) rfl rfl ?_
  refine g_iconst (n := 363) (v := 2) rfl rfl ?_
  refine g_iaddN (n := 364) (x := i) (y := 2) rfl ?_
  refine g_sld (n := 365) ((i + 2)) rfl (by omega) (by omega) ?_
  refine g_cv2 (n := 368) (t := 178) (ci := 12) rfl (by decide +kernel) (by decide +kernel) (by decide) (by decide) (by decide +kernel) (by rfl) (SP_mR (c_become hN) e125) (by omega) (lw_D fun J hX => ?_)
  refine g_iceq (n := 371) 1223 rfl (by decide) (fun _ => ?_) (fun h => absurd rfl h)
  exact hk J _ (LI_o hL hC1 hF1 hX (gI_become hg))
set_option maxRecDepth 20000 in
theorem lw_op5 {L i d nm : Nat} {xs : Nat → Int32} {I : mg_I} {Q : Option Value → mg_I → Nat → Prop} (hd : 60 ≤ d) (hi : i + 6 ≤ L) (hL3 : L ≤ 3072) (hL : LI I) (hk : lk L xs d i Q) : GG (mi_sc L xs) 13 false true mi_k231 d 373 [.ref 0, .ref 5, .ref 124, .int (nI i)] [] I nm Q := by
  have hC := hL.1
  have hg := hL.2.1
  have hw := hg.1
  have hv := hg.2.1
  have hm1 := hg.2.2.1
  have hS := hg.2.2.2.1
  have hLd := hg.2.2.2.2.1
  have h6 := hg.2.2.2.2.2.1
  have h7 := hg.2.2.2.2.2.2.1
  have hb := hg.2.2.2.2.2.2.2.1
  have hN := hw.1.1
  have h5 := hw.2.2.2
  refine g_aload_n (n := 374) rfl rfl ?_
  refine g_aload_n (n := 375) rfl rfl ?_
  refine g_iload_n (n := 376) rfl rfl ?_
  refine g_iconst (n := 377) (v := 1) rfl rfl ?_
  refine g_iaddN (n := 378) (x := i) (y := 1) rfl ?_
  refine g_sld (n := 379) ((i + 1)) rfl (by omega) (by omega) ?_
  refine g_aload_n (n := 380) rfl rfl ?_
  refine g_iload_n (n := 381) rfl rfl ?_
  refine g_iconst (n := 382) (v := 2) rfl rfl ?_
  refine g_iaddN (n := 383) (x := i) (y := 2) rfl ?_
  refine g_sld (n := 384) ((i + 2)) rfl (by omega) (by omega) ?_
  refine g_cv2 (n := 387) (t := 96) (ci := 11) rfl (by decide +kernel) (by decide +kernel) (by decide) (by decide) (by decide +kernel) (by rfl) (c_kAs hC hw) (by omega) (lw_C fun I1 hC1 hF1 => ?_)
  have e125 := cF_125 hF1
  refine g_aload_n (n := 388) rfl rfl ?_
  refine g_aload_n (n := 389) rfl rfl ?_
  refine g_iload_n (n := 390) rfl rfl ?_
  refine g_iconst (n := 391) (v := 1) rfl rfl ?_
  refine g_iaddN (n := 392) (x := i) (y := 1) rfl ?_
  refine g_sld (n := 393) ((i + 1)) rfl (by omega) (by omega) ?_
  refine g_aload_n (n := 394) rfl rfl ?_
  refine g_iload_n (n := 395) rfl rfl ?_
  refine g_iconst (n := 396) (v := 2) rfl rfl ?_
  refine g_iaddN (n := 397) (x := i) (y := 2) rfl ?_
  refine g_sld (n := 398) ((i + 2)) rfl (by omega) (by omega) ?_
  refine g_cv2 (n := 401) (t := 180) (ci := 12) rfl (by decide +kernel) (by decide +kernel) (by decide) (by decide) (by decide +kernel) (by rfl) (SP_mR (c_as hN) e125) (by omega) (lw_D fun J hX => ?_)
  refine g_iceq (n := 404) 1223 rfl (by decide) (fun _ => ?_) (fun h => absurd rfl h)
  exact hk J _ (LI_o hL hC1 hF1 hX (by rw [sm_As]; exact hg))
set_option maxRecDepth 20000 in
theorem lw_op6 {L i d nm : Nat} {xs : Nat → Int32} {I : mg_I} {Q : Option Value → mg_I → Nat → Prop} (hd : 60 ≤ d) (hi : i + 6 ≤ L) (hL3 : L ≤ 3072) (hL : LI I) (hk : lk L xs d i Q) : GG (mi_sc L xs) 13 false true mi_k231 d 406 [.ref 0, .ref 5, .ref 124, .int (nI i)] [] I nm Q := by
  have hC := hL.1
  have hg := hL.2.1
  have hw := hg.1
  have hv := hg.2.1
  have hm1 := hg.2.2.1
  have hS := hg.2.2.2.1
  have hLd := hg.2.2.2.2.1
  have h6 := hg.2.2.2.2.2.1
  have h7 := hg.2.2.2.2.2.2.1
  have hb := hg.2.2.2.2.2.2.2.1
  have hN := hw.1.1
  have h5 := hw.2.2.2
  refine g_aload_n (n := 407) rfl rfl ?_
  refine g_aload_n (n := 408) rfl rfl ?_
  refine g_iload_n (n := 409) rfl rfl ?_
  refine g_iconst (n := 410) (v := 1) rfl rfl ?_
  refine g_iaddN (n := 411) (x := i) (y := 1) rfl ?_
  refine g_sld (n := 412) ((i + 1)) rfl (by omega) (by omega) ?_
  refine g_aload_n (n := 413) rfl rfl ?_
  refine g_iload_n (n := 414) rfl rfl ?_
  refine g_iconst (n := 415) (v := 2) rfl rfl ?_
  refine g_iaddN (n := 416) (x := i) (y := 2) rfl ?_
  refine g_sld (n := 417) ((i + 2)) rfl (by omega) (by omega) ?_
  refine g_cv2 (n := 420) (t := 97) (ci := 11) rfl (by decide +kernel) (by decide +kernel) (by decide) (by decide) (by decide +kernel) (by rfl) (c_kStartAt hC) (by omega) (lw_C fun I1 hC1 hF1 => ?_)
  have e125 := cF_125 hF1
  refine g_aload_n (n := 421) rfl rfl ?_
  refine g_aload_n (n := 422) rfl rfl ?_
  refine g_iload_n (n := 423) rfl rfl ?_
  refine g_iconst (n := 424) (v := 1) rfl rfl ?_
  refine g_iaddN (n := 425) (x := i) (y := 1) rfl ?_
  refine g_sld (n := 426) ((i + 1)) rfl (by omega) (by omega) ?_
  refine g_aload_n (n := 427) rfl rfl ?_
  refine g_iload_n (n := 428) rfl rfl ?_
  refine g_iconst (n := 429) (v := 2) rfl rfl ?_
  refine g_iaddN (n := 430) (x := i) (y := 2) rfl ?_
  refine g_sld (n := 431) ((i + 2)) rfl (by omega) (by omega) ?_
  refine g_cv2 (n := 434) (t := 181) (ci := 12) rfl (by decide +kernel) (by decide +kernel) (by decide) (by decide) (by decide +kernel) (by rfl) (SP_mR (c_start hN) e125) (by omega) (lw_D fun J hX => ?_)
  refine g_iceq (n := 437) 1223 rfl (by decide) (fun _ => ?_) (fun h => absurd rfl h)
  exact hk J _ (LI_o hL hC1 hF1 hX (gI_start hg))
set_option maxRecDepth 20000 in
theorem lw_op7 {L i d nm : Nat} {xs : Nat → Int32} {I : mg_I} {Q : Option Value → mg_I → Nat → Prop} (hd : 60 ≤ d) (hi : i + 6 ≤ L) (hL3 : L ≤ 3072) (hL : LI I) (hk : lk L xs d i Q) : GG (mi_sc L xs) 13 false true mi_k231 d 439 [.ref 0, .ref 5, .ref 124, .int (nI i)] [] I nm Q := by
  have hC := hL.1
  have hg := hL.2.1
  have hw := hg.1
  have hv := hg.2.1
  have hm1 := hg.2.2.1
  have hS := hg.2.2.2.1
  have hLd := hg.2.2.2.2.1
  have h6 := hg.2.2.2.2.2.1
  have h7 := hg.2.2.2.2.2.2.1
  have hb := hg.2.2.2.2.2.2.2.1
  have hN := hw.1.1
  have h5 := hw.2.2.2
  refine g_aload_n (n := 440) rfl rfl ?_
  refine g_aload_n (n := 441) rfl rfl ?_
  refine g_iload_n (n := 442) rfl rfl ?_
  refine g_iconst (n := 443) (v := 1) rfl rfl ?_
  refine g_iaddN (n := 444) (x := i) (y := 1) rfl ?_
  refine g_sld (n := 445) ((i + 1)) rfl (by omega) (by omega) ?_
  refine g_cv1 (n := 448) (t := 98) (ci := 11) rfl (by decide +kernel) (by decide +kernel) (by decide) (by decide) (by decide +kernel) (by rfl) (c_kHome hC h5) (by omega) (lw_C fun I1 hC1 hF1 => ?_)
  have e125 := cF_125 hF1
  refine g_aload_n (n := 449) rfl rfl ?_
  refine g_aload_n (n := 450) rfl rfl ?_
  refine g_iload_n (n := 451) rfl rfl ?_
  refine g_iconst (n := 452) (v := 1) rfl rfl ?_
  refine g_iaddN (n := 453) (x := i) (y := 1) rfl ?_
  refine g_sld (n := 454) ((i + 1)) rfl (by omega) (by omega) ?_
  refine g_cv1 (n := 457) (t := 182) (ci := 12) rfl (by decide +kernel) (by decide +kernel) (by decide) (by decide) (by decide +kernel) (by rfl) (SP_mR (c_home hN) e125) (by omega) (lw_D fun J hX => ?_)
  refine g_iceq (n := 460) 1223 rfl (by decide) (fun _ => ?_) (fun h => absurd rfl h)
  exact hk J _ (LI_o hL hC1 hF1 hX (gI_home hg))
set_option maxRecDepth 20000 in
theorem lw_op8 {L i d nm : Nat} {xs : Nat → Int32} {I : mg_I} {Q : Option Value → mg_I → Nat → Prop} (hd : 60 ≤ d) (hi : i + 6 ≤ L) (hL3 : L ≤ 3072) (hL : LI I) (hk : lk L xs d i Q) : GG (mi_sc L xs) 13 false true mi_k231 d 462 [.ref 0, .ref 5, .ref 124, .int (nI i)] [] I nm Q := by
  have hC := hL.1
  have hg := hL.2.1
  have hw := hg.1
  have hv := hg.2.1
  have hm1 := hg.2.2.1
  have hS := hg.2.2.2.1
  have hLd := hg.2.2.2.2.1
  have h6 := hg.2.2.2.2.2.1
  have h7 := hg.2.2.2.2.2.2.1
  have hb := hg.2.2.2.2.2.2.2.1
  have hN := hw.1.1
  have h5 := hw.2.2.2
  refine g_aload_n (n := 463) rfl rfl ?_
  refine g_aload_n (n := 464) rfl rfl ?_
  refine g_iload_n (n := 465) rfl rfl ?_
  refine g_iconst (n := 466) (v := 1) rfl rfl ?_
  refine g_iaddN (n := 467) (x := i) (y := 1) rfl ?_
  refine g_sld (n := 468) ((i + 1)) rfl (by omega) (by omega) ?_
  refine g_i2l (n := 469) rfl ?_
  refine g_bipush (n := 471) (v := 32) rfl rfl ?_
  refine g_lshl (n := 472) rfl ?_
  refine g_aload_n (n := 473) rfl rfl ?_
  refine g_iload_n (n := 474) rfl rfl ?_
  refine g_iconst (n := 475) (v := 2) rfl rfl ?_
  refine g_iaddN (n := 476) (x := i) (y := 2) rfl ?_
  refine g_sld (n := 477) ((i + 2)) rfl (by omega) (by omega) ?_
  refine g_i2l (n := 478) rfl ?_
  refine g_ldc2 (n := 481) (v := 4294967295) (pl := 1513) rfl (by decide +kernel) ?_
  refine g_land (n := 482) rfl ?_
  refine g_lor (n := 483) rfl ?_
  refine g_aload_n (n := 484) rfl rfl ?_
  refine g_iload_n (n := 485) rfl rfl ?_
  refine g_iconst (n := 486) (v := 3) rfl rfl ?_
  refine g_iaddN (n := 487) (x := i) (y := 3) rfl ?_
  refine g_sld (n := 488) ((i + 3)) rfl (by omega) (by omega) ?_
  refine g_cv2 (n := 491) (t := 99) (ci := 11) rfl (by decide +kernel) (by decide +kernel) (by decide) (by decide) (by decide +kernel) (by rfl) (c_kFeed hC hw) (by omega) (lw_C fun I1 hC1 hF1 => ?_)
  have e125 := cF_125 hF1
  refine g_aload_n (n := 492) rfl rfl ?_
  refine g_aload_n (n := 493) rfl rfl ?_
  refine g_iload_n (n := 494) rfl rfl ?_
  refine g_iconst (n := 495) (v := 1) rfl rfl ?_
  refine g_iaddN (n := 496) (x := i) (y := 1) rfl ?_
  refine g_sld (n := 497) ((i + 1)) rfl (by omega) (by omega) ?_
  refine g_i2l (n := 498) rfl ?_
  refine g_bipush (n := 500) (v := 32) rfl rfl ?_
  refine g_lshl (n := 501) rfl ?_
  refine g_aload_n (n := 502) rfl rfl ?_
  refine g_iload_n (n := 503) rfl rfl ?_
  refine g_iconst (n := 504) (v := 2) rfl rfl ?_
  refine g_iaddN (n := 505) (x := i) (y := 2) rfl ?_
  refine g_sld (n := 506) ((i + 2)) rfl (by omega) (by omega) ?_
  refine g_i2l (n := 507) rfl ?_
  refine g_ldc2 (n := 510) (v := 4294967295) (pl := 1513) rfl (by decide +kernel) ?_
  refine g_land (n := 511) rfl ?_
  refine g_lor (n := 512) rfl ?_
  refine g_aload_n (n := 513) rfl rfl ?_
  refine g_iload_n (n := 514) rfl rfl ?_
  refine g_iconst (n := 515) (v := 3) rfl rfl ?_
  refine g_iaddN (n := 516) (x := i) (y := 3) rfl ?_
  refine g_sld (n := 517) ((i + 3)) rfl (by omega) (by omega) ?_
  refine g_cv2 (n := 520) (t := 160) (ci := 12) rfl (by decide +kernel) (by decide +kernel) (by decide) (by decide) (by decide +kernel) (by rfl) (SP_mR (c_feed h6) e125) (by omega) (lw_D fun J hX => ?_)
  refine g_iceq (n := 523) 1223 rfl (by decide) (fun _ => ?_) (fun h => absurd rfl h)
  exact hk J _ (LI_o hL hC1 hF1 hX (gI_feed hg))
set_option maxRecDepth 20000 in
theorem lw_op9 {L i d nm : Nat} {xs : Nat → Int32} {I : mg_I} {Q : Option Value → mg_I → Nat → Prop} (hd : 60 ≤ d) (hi : i + 6 ≤ L) (hL3 : L ≤ 3072) (hL : LI I) (hk : lk L xs d i Q) : GG (mi_sc L xs) 13 false true mi_k231 d 525 [.ref 0, .ref 5, .ref 124, .int (nI i)] [] I nm Q := by
  have hC := hL.1
  have hg := hL.2.1
  have hw := hg.1
  have hv := hg.2.1
  have hm1 := hg.2.2.1
  have hS := hg.2.2.2.1
  have hLd := hg.2.2.2.2.1
  have h6 := hg.2.2.2.2.2.1
  have h7 := hg.2.2.2.2.2.2.1
  have hb := hg.2.2.2.2.2.2.2.1
  have hN := hw.1.1
  have h5 := hw.2.2.2
  refine g_aload_n (n := 526) rfl rfl ?_
  refine g_aload_n (n := 527) rfl rfl ?_
  refine g_iload_n (n := 528) rfl rfl ?_
  refine g_iconst (n := 529) (v := 1) rfl rfl ?_
  refine g_iaddN (n := 530) (x := i) (y := 1) rfl ?_
  refine g_sld (n := 531) ((i + 1)) rfl (by omega) (by omega) ?_
  refine g_cv1 (n := 534) (t := 100) (ci := 11) rfl (by decide +kernel) (by decide +kernel) (by decide) (by decide) (by decide +kernel) (by rfl) (c_kText hC hw hb) (by omega) (lw_X fun I1 nm1 hC1 hF1 => ?_)
  have e125 := cF_125 hF1
  refine g_aload_n (n := 535) rfl rfl ?_
  refine g_aload_n (n := 536) rfl rfl ?_
  refine g_iload_n (n := 537) rfl rfl ?_
  refine g_iconst (n := 538) (v := 1) rfl rfl ?_
  refine g_iaddN (n := 539) (x := i) (y := 1) rfl ?_
  refine g_sld (n := 540) ((i + 1)) rfl (by omega) (by omega) ?_
  refine g_cv1 (n := 543) (t := 161) (ci := 12) rfl (by decide +kernel) (by decide +kernel) (by decide) (by decide) (by decide +kernel) (by rfl) (SP_mR (c_text h6) e125) (by omega) (lw_D fun J hX => ?_)
  refine g_iceq (n := 546) 1223 rfl (by decide) (fun _ => ?_) (fun h => absurd rfl h)
  exact hk J _ (LI_o hL hC1 hF1 hX (gI_text hg))
set_option maxRecDepth 20000 in
theorem lw_op10 {L i d nm : Nat} {xs : Nat → Int32} {I : mg_I} {Q : Option Value → mg_I → Nat → Prop} (hd : 60 ≤ d) (hi : i + 6 ≤ L) (hL3 : L ≤ 3072) (hL : LI I) (hk : lk L xs d i Q) : GG (mi_sc L xs) 13 false true mi_k231 d 548 [.ref 0, .ref 5, .ref 124, .int (nI i)] [] I nm Q := by
  have hC := hL.1
  have hg := hL.2.1
  have hw := hg.1
  have hv := hg.2.1
  have hm1 := hg.2.2.1
  have hS := hg.2.2.2.1
  have hLd := hg.2.2.2.2.1
  have h6 := hg.2.2.2.2.2.1
  have h7 := hg.2.2.2.2.2.2.1
  have hb := hg.2.2.2.2.2.2.2.1
  have hN := hw.1.1
  have h5 := hw.2.2.2
  refine g_aload_n (n := 549) rfl rfl ?_
  refine g_aload_n (n := 550) rfl rfl ?_
  refine g_iload_n (n := 551) rfl rfl ?_
  refine g_iconst (n := 552) (v := 1) rfl rfl ?_
  refine g_iaddN (n := 553) (x := i) (y := 1) rfl ?_
  refine g_sld (n := 554) ((i + 1)) rfl (by omega) (by omega) ?_
  refine g_aload_n (n := 555) rfl rfl ?_
  refine g_iload_n (n := 556) rfl rfl ?_
  refine g_iconst (n := 557) (v := 2) rfl rfl ?_
  refine g_iaddN (n := 558) (x := i) (y := 2) rfl ?_
  refine g_sld (n := 559) ((i + 2)) rfl (by omega) (by omega) ?_
  refine g_aload_n (n := 560) rfl rfl ?_
  refine g_iload_n (n := 561) rfl rfl ?_
  refine g_iconst (n := 562) (v := 3) rfl rfl ?_
  refine g_iaddN (n := 563) (x := i) (y := 3) rfl ?_
  refine g_sld (n := 564) ((i + 3)) rfl (by omega) (by omega) ?_
  refine g_aload_n (n := 565) rfl rfl ?_
  refine g_iload_n (n := 566) rfl rfl ?_
  refine g_iconst (n := 567) (v := 4) rfl rfl ?_
  refine g_iaddN (n := 568) (x := i) (y := 4) rfl ?_
  refine g_sld (n := 569) ((i + 4)) rfl (by omega) (by omega) ?_
  refine g_cv4 (n := 572) (t := 101) (ci := 11) rfl (by decide +kernel) (by decide +kernel) (by decide) (by decide) (by decide +kernel) (by rfl) (c_kLaw hC) (by omega) (lw_C fun I1 hC1 hF1 => ?_)
  have e125 := cF_125 hF1
  refine g_aload_n (n := 573) rfl rfl ?_
  refine g_aload_n (n := 574) rfl rfl ?_
  refine g_iload_n (n := 575) rfl rfl ?_
  refine g_iconst (n := 576) (v := 1) rfl rfl ?_
  refine g_iaddN (n := 577) (x := i) (y := 1) rfl ?_
  refine g_sld (n := 578) ((i + 1)) rfl (by omega) (by omega) ?_
  refine g_aload_n (n := 579) rfl rfl ?_
  refine g_iload_n (n := 580) rfl rfl ?_
  refine g_iconst (n := 581) (v := 2) rfl rfl ?_
  refine g_iaddN (n := 582) (x := i) (y := 2) rfl ?_
  refine g_sld (n := 583) ((i + 2)) rfl (by omega) (by omega) ?_
  refine g_aload_n (n := 584) rfl rfl ?_
  refine g_iload_n (n := 585) rfl rfl ?_
  refine g_iconst (n := 586) (v := 3) rfl rfl ?_
  refine g_iaddN (n := 587) (x := i) (y := 3) rfl ?_
  refine g_sld (n := 588) ((i + 3)) rfl (by omega) (by omega) ?_
  refine g_aload_n (n := 589) rfl rfl ?_
  refine g_iload_n (n := 590) rfl rfl ?_
  refine g_iconst (n := 591) (v := 4) rfl rfl ?_
  refine g_iaddN (n := 592) (x := i) (y := 4) rfl ?_
  refine g_sld (n := 593) ((i + 4)) rfl (by omega) (by omega) ?_
  refine g_cv4 (n := 596) (t := 163) (ci := 12) rfl (by decide +kernel) (by decide +kernel) (by decide) (by decide) (by decide +kernel) (by rfl) (SP_mR (c_law hw) e125) (by omega) (lw_D fun J hX => ?_)
  refine g_iceq (n := 599) 1223 rfl (by decide) (fun _ => ?_) (fun h => absurd rfl h)
  exact hk J _ (LI_o hL hC1 hF1 hX (by rw [sm_Law]; exact hg))
set_option maxRecDepth 20000 in
theorem lw_op11 {L i d nm : Nat} {xs : Nat → Int32} {I : mg_I} {Q : Option Value → mg_I → Nat → Prop} (hd : 60 ≤ d) (hi : i + 6 ≤ L) (hL3 : L ≤ 3072) (hL : LI I) (hk : lk L xs d i Q) : GG (mi_sc L xs) 13 false true mi_k231 d 601 [.ref 0, .ref 5, .ref 124, .int (nI i)] [] I nm Q := by
  have hC := hL.1
  have hg := hL.2.1
  have hw := hg.1
  have hv := hg.2.1
  have hm1 := hg.2.2.1
  have hS := hg.2.2.2.1
  have hLd := hg.2.2.2.2.1
  have h6 := hg.2.2.2.2.2.1
  have h7 := hg.2.2.2.2.2.2.1
  have hb := hg.2.2.2.2.2.2.2.1
  have hN := hw.1.1
  have h5 := hw.2.2.2
  refine g_aload_n (n := 602) rfl rfl ?_
  refine g_aload_n (n := 603) rfl rfl ?_
  refine g_iload_n (n := 604) rfl rfl ?_
  refine g_iconst (n := 605) (v := 1) rfl rfl ?_
  refine g_iaddN (n := 606) (x := i) (y := 1) rfl ?_
  refine g_sld (n := 607) ((i + 1)) rfl (by omega) (by omega) ?_
  refine g_cv1 (n := 610) (t := 102) (ci := 11) rfl (by decide +kernel) (by decide +kernel) (by decide) (by decide) (by decide +kernel) (by rfl) (c_kMinutes hC hw hv) (by omega) (lw_C fun I1 hC1 hF1 => ?_)
  have e125 := cF_125 hF1
  refine g_aload_n (n := 611) rfl rfl ?_
  refine g_aload_n (n := 612) rfl rfl ?_
  refine g_iload_n (n := 613) rfl rfl ?_
  refine g_iconst (n := 614) (v := 1) rfl rfl ?_
  refine g_iaddN (n := 615) (x := i) (y := 1) rfl ?_
  refine g_sld (n := 616) ((i + 1)) rfl (by omega) (by omega) ?_
  refine g_cv1 (n := 619) (t := 193) (ci := 12) rfl (by decide +kernel) (by decide +kernel) (by decide) (by decide) (by decide +kernel) (by rfl) (SP_mR (c_minutes hw) e125) (by omega) (lw_D fun J hX => ?_)
  refine g_iceq (n := 622) 1223 rfl (by decide) (fun _ => ?_) (fun h => absurd rfl h)
  exact hk J _ (LI_o hL hC1 hF1 hX (gI_pass hg))
set_option maxRecDepth 20000 in
theorem lw_op12 {L i d nm : Nat} {xs : Nat → Int32} {I : mg_I} {Q : Option Value → mg_I → Nat → Prop} (hd : 60 ≤ d) (hi : i + 6 ≤ L) (hL3 : L ≤ 3072) (hL : LI I) (hk : lk L xs d i Q) : GG (mi_sc L xs) 13 false true mi_k231 d 624 [.ref 0, .ref 5, .ref 124, .int (nI i)] [] I nm Q := by
  have hC := hL.1
  have hg := hL.2.1
  have hw := hg.1
  have hv := hg.2.1
  have hm1 := hg.2.2.1
  have hS := hg.2.2.2.1
  have hLd := hg.2.2.2.2.1
  have h6 := hg.2.2.2.2.2.1
  have h7 := hg.2.2.2.2.2.2.1
  have hb := hg.2.2.2.2.2.2.2.1
  have hN := hw.1.1
  have h5 := hw.2.2.2
  refine g_aload_n (n := 625) rfl rfl ?_
  refine g_aload_n (n := 626) rfl rfl ?_
  refine g_iload_n (n := 627) rfl rfl ?_
  refine g_iconst (n := 628) (v := 1) rfl rfl ?_
  refine g_iaddN (n := 629) (x := i) (y := 1) rfl ?_
  refine g_sld (n := 630) ((i + 1)) rfl (by omega) (by omega) ?_
  refine g_cv1 (n := 633) (t := 103) (ci := 11) rfl (by decide +kernel) (by decide +kernel) (by decide) (by decide) (by decide +kernel) (by rfl) (c_kLoose hC hw hv) (by omega) (lw_C fun I1 hC1 hF1 => ?_)
  have e125 := cF_125 hF1
  refine g_aload_n (n := 634) rfl rfl ?_
  refine g_aload_n (n := 635) rfl rfl ?_
  refine g_iload_n (n := 636) rfl rfl ?_
  refine g_iconst (n := 637) (v := 1) rfl rfl ?_
  refine g_iaddN (n := 638) (x := i) (y := 1) rfl ?_
  refine g_sld (n := 639) ((i + 1)) rfl (by omega) (by omega) ?_
  refine g_cv1 (n := 642) (t := 194) (ci := 12) rfl (by decide +kernel) (by decide +kernel) (by decide) (by decide) (by decide +kernel) (by rfl) (SP_mR (c_loose hw) e125) (by omega) (lw_D fun J hX => ?_)
  refine g_iceq (n := 645) 1223 rfl (by decide) (fun _ => ?_) (fun h => absurd rfl h)
  exact hk J _ (LI_o hL hC1 hF1 hX (gI_pass hg))
set_option maxRecDepth 20000 in
theorem lw_op13 {L i d nm : Nat} {xs : Nat → Int32} {I : mg_I} {Q : Option Value → mg_I → Nat → Prop} (hd : 60 ≤ d) (hi : i + 6 ≤ L) (hL3 : L ≤ 3072) (hL : LI I) (hk : lk L xs d i Q) : GG (mi_sc L xs) 13 false true mi_k231 d 647 [.ref 0, .ref 5, .ref 124, .int (nI i)] [] I nm Q := by
  have hC := hL.1
  have hg := hL.2.1
  have hw := hg.1
  have hv := hg.2.1
  have hm1 := hg.2.2.1
  have hS := hg.2.2.2.1
  have hLd := hg.2.2.2.2.1
  have h6 := hg.2.2.2.2.2.1
  have h7 := hg.2.2.2.2.2.2.1
  have hb := hg.2.2.2.2.2.2.2.1
  have hN := hw.1.1
  have h5 := hw.2.2.2
  refine g_aload_n (n := 648) rfl rfl ?_
  refine g_aload_n (n := 649) rfl rfl ?_
  refine g_iload_n (n := 650) rfl rfl ?_
  refine g_iconst (n := 651) (v := 1) rfl rfl ?_
  refine g_iaddN (n := 652) (x := i) (y := 1) rfl ?_
  refine g_sld (n := 653) ((i + 1)) rfl (by omega) (by omega) ?_
  refine g_aload_n (n := 654) rfl rfl ?_
  refine g_iload_n (n := 655) rfl rfl ?_
  refine g_iconst (n := 656) (v := 2) rfl rfl ?_
  refine g_iaddN (n := 657) (x := i) (y := 2) rfl ?_
  refine g_sld (n := 658) ((i + 2)) rfl (by omega) (by omega) ?_
  refine g_aload_n (n := 659) rfl rfl ?_
  refine g_iload_n (n := 660) rfl rfl ?_
  refine g_iconst (n := 661) (v := 3) rfl rfl ?_
  refine g_iaddN (n := 662) (x := i) (y := 3) rfl ?_
  refine g_sld (n := 663) ((i + 3)) rfl (by omega) (by omega) ?_
  refine g_cv3 (n := 666) (t := 104) (ci := 11) rfl (by decide +kernel) (by decide +kernel) (by decide) (by decide) (by decide +kernel) (by rfl) (c_kThen hC hw hv) (by omega) (lw_C fun I1 hC1 hF1 => ?_)
  have e125 := cF_125 hF1
  refine g_aload_n (n := 667) rfl rfl ?_
  refine g_aload_n (n := 668) rfl rfl ?_
  refine g_iload_n (n := 669) rfl rfl ?_
  refine g_iconst (n := 670) (v := 1) rfl rfl ?_
  refine g_iaddN (n := 671) (x := i) (y := 1) rfl ?_
  refine g_sld (n := 672) ((i + 1)) rfl (by omega) (by omega) ?_
  refine g_aload_n (n := 673) rfl rfl ?_
  refine g_iload_n (n := 674) rfl rfl ?_
  refine g_iconst (n := 675) (v := 2) rfl rfl ?_
  refine g_iaddN (n := 676) (x := i) (y := 2) rfl ?_
  refine g_sld (n := 677) ((i + 2)) rfl (by omega) (by omega) ?_
  refine g_aload_n (n := 678) rfl rfl ?_
  refine g_iload_n (n := 679) rfl rfl ?_
  refine g_iconst (n := 680) (v := 3) rfl rfl ?_
  refine g_iaddN (n := 681) (x := i) (y := 3) rfl ?_
  refine g_sld (n := 682) ((i + 3)) rfl (by omega) (by omega) ?_
  refine g_cv3 (n := 685) (t := 195) (ci := 12) rfl (by decide +kernel) (by decide +kernel) (by decide) (by decide) (by decide +kernel) (by rfl) (SP_mR (c_then hw) e125) (by omega) (lw_D fun J hX => ?_)
  refine g_iceq (n := 688) 1223 rfl (by decide) (fun _ => ?_) (fun h => absurd rfl h)
  exact hk J _ (LI_o hL hC1 hF1 hX (by rw [sm_Then]; exact hg))
set_option maxRecDepth 20000 in
theorem lw_op14 {L i d nm : Nat} {xs : Nat → Int32} {I : mg_I} {Q : Option Value → mg_I → Nat → Prop} (hd : 60 ≤ d) (hi : i + 6 ≤ L) (hL3 : L ≤ 3072) (hL : LI I) (hk : lk L xs d i Q) : GG (mi_sc L xs) 13 false true mi_k231 d 690 [.ref 0, .ref 5, .ref 124, .int (nI i)] [] I nm Q := by
  have hC := hL.1
  have hg := hL.2.1
  have hw := hg.1
  have hv := hg.2.1
  have hm1 := hg.2.2.1
  have hS := hg.2.2.2.1
  have hLd := hg.2.2.2.2.1
  have h6 := hg.2.2.2.2.2.1
  have h7 := hg.2.2.2.2.2.2.1
  have hb := hg.2.2.2.2.2.2.2.1
  have hN := hw.1.1
  have h5 := hw.2.2.2
  refine g_aload_n (n := 691) rfl rfl ?_
  refine g_cv0 (n := 694) (t := 105) (ci := 11) rfl (by decide +kernel) (by decide +kernel) (by decide) (by decide) (by decide +kernel) (by rfl) (c_kOverBy hC hw hv hm1) (by omega) (lw_C fun I1 hC1 hF1 => ?_)
  have e125 := cF_125 hF1
  refine g_aload_n (n := 695) rfl rfl ?_
  refine g_cv0 (n := 698) (t := 197) (ci := 12) rfl (by decide +kernel) (by decide +kernel) (by decide) (by decide) (by decide +kernel) (by rfl) (SP_mR (c_overBy hw) e125) (by omega) (lw_D fun J hX => ?_)
  refine g_iceq (n := 701) 1223 rfl (by decide) (fun _ => ?_) (fun h => absurd rfl h)
  exact hk J _ (LI_o hL hC1 hF1 hX (by rw [sm_OverBy]; exact hg))
set_option maxRecDepth 20000 in
theorem lw_op15 {L i d nm : Nat} {xs : Nat → Int32} {I : mg_I} {Q : Option Value → mg_I → Nat → Prop} (hd : 60 ≤ d) (hi : i + 6 ≤ L) (hL3 : L ≤ 3072) (hL : LI I) (hk : lk L xs d i Q) : GG (mi_sc L xs) 13 false true mi_k231 d 703 [.ref 0, .ref 5, .ref 124, .int (nI i)] [] I nm Q := by
  have hC := hL.1
  have hg := hL.2.1
  have hw := hg.1
  have hv := hg.2.1
  have hm1 := hg.2.2.1
  have hS := hg.2.2.2.1
  have hLd := hg.2.2.2.2.1
  have h6 := hg.2.2.2.2.2.1
  have h7 := hg.2.2.2.2.2.2.1
  have hb := hg.2.2.2.2.2.2.2.1
  have hN := hw.1.1
  have h5 := hw.2.2.2
  refine g_aload_n (n := 704) rfl rfl ?_
  refine g_cv0 (n := 707) (t := 106) (ci := 11) rfl (by decide +kernel) (by decide +kernel) (by decide) (by decide) (by decide +kernel) (by rfl) (c_kStuckBy hC hw hv) (by omega) (lw_C fun I1 hC1 hF1 => ?_)
  have e125 := cF_125 hF1
  refine g_aload_n (n := 708) rfl rfl ?_
  refine g_cv0 (n := 711) (t := 201) (ci := 12) rfl (by decide +kernel) (by decide +kernel) (by decide) (by decide) (by decide +kernel) (by rfl) (SP_mR (c_stuckBy hw) e125) (by omega) (lw_D fun J hX => ?_)
  refine g_iceq (n := 714) 1223 rfl (by decide) (fun _ => ?_) (fun h => absurd rfl h)
  exact hk J _ (LI_o hL hC1 hF1 hX (by rw [sm_Stuck]; exact hg))
set_option maxRecDepth 20000 in
theorem lw_op16 {L i d nm : Nat} {xs : Nat → Int32} {I : mg_I} {Q : Option Value → mg_I → Nat → Prop} (hd : 60 ≤ d) (hi : i + 6 ≤ L) (hL3 : L ≤ 3072) (hL : LI I) (hk : lk L xs d i Q) : GG (mi_sc L xs) 13 false true mi_k231 d 716 [.ref 0, .ref 5, .ref 124, .int (nI i)] [] I nm Q := by
  have hC := hL.1
  have hg := hL.2.1
  have hw := hg.1
  have hv := hg.2.1
  have hm1 := hg.2.2.1
  have hS := hg.2.2.2.1
  have hLd := hg.2.2.2.2.1
  have h6 := hg.2.2.2.2.2.1
  have h7 := hg.2.2.2.2.2.2.1
  have hb := hg.2.2.2.2.2.2.2.1
  have hN := hw.1.1
  have h5 := hw.2.2.2
  refine g_aload_n (n := 717) rfl rfl ?_
  refine g_aload_n (n := 718) rfl rfl ?_
  refine g_iload_n (n := 719) rfl rfl ?_
  refine g_iconst (n := 720) (v := 1) rfl rfl ?_
  refine g_iaddN (n := 721) (x := i) (y := 1) rfl ?_
  refine g_sld (n := 722) ((i + 1)) rfl (by omega) (by omega) ?_
  refine g_aload_n (n := 723) rfl rfl ?_
  refine g_iload_n (n := 724) rfl rfl ?_
  refine g_iconst (n := 725) (v := 2) rfl rfl ?_
  refine g_iaddN (n := 726) (x := i) (y := 2) rfl ?_
  refine g_sld (n := 727) ((i + 2)) rfl (by omega) (by omega) ?_
  refine g_cv2 (n := 730) (t := 107) (ci := 11) rfl (by decide +kernel) (by decide +kernel) (by decide) (by decide) (by decide +kernel) (by rfl) (c_kBest hC hw hv hm1) (by omega) (lw_C fun I1 hC1 hF1 => ?_)
  have e125 := cF_125 hF1
  refine g_aload_n (n := 731) rfl rfl ?_
  refine g_aload_n (n := 732) rfl rfl ?_
  refine g_iload_n (n := 733) rfl rfl ?_
  refine g_iconst (n := 734) (v := 1) rfl rfl ?_
  refine g_iaddN (n := 735) (x := i) (y := 1) rfl ?_
  refine g_sld (n := 736) ((i + 1)) rfl (by omega) (by omega) ?_
  refine g_aload_n (n := 737) rfl rfl ?_
  refine g_iload_n (n := 738) rfl rfl ?_
  refine g_iconst (n := 739) (v := 2) rfl rfl ?_
  refine g_iaddN (n := 740) (x := i) (y := 2) rfl ?_
  refine g_sld (n := 741) ((i + 2)) rfl (by omega) (by omega) ?_
  refine g_cv2 (n := 744) (t := 203) (ci := 12) rfl (by decide +kernel) (by decide +kernel) (by decide) (by decide) (by decide +kernel) (by rfl) (SP_mR (c_bestStart hw hm1) e125) (by omega) (lw_D fun J hX => ?_)
  refine g_iceq (n := 747) 1223 rfl (by decide) (fun _ => ?_) (fun h => absurd rfl h)
  exact hk J _ (LI_o hL hC1 hF1 hX (by rw [sm_Best]; exact hg))
set_option maxRecDepth 20000 in
theorem lw_op17 {L i d nm : Nat} {xs : Nat → Int32} {I : mg_I} {Q : Option Value → mg_I → Nat → Prop} (hd : 60 ≤ d) (hi : i + 6 ≤ L) (hL3 : L ≤ 3072) (hL : LI I) (hk : lk L xs d i Q) : GG (mi_sc L xs) 13 false true mi_k231 d 749 [.ref 0, .ref 5, .ref 124, .int (nI i)] [] I nm Q := by
  have hC := hL.1
  have hg := hL.2.1
  have hw := hg.1
  have hv := hg.2.1
  have hm1 := hg.2.2.1
  have hS := hg.2.2.2.1
  have hLd := hg.2.2.2.2.1
  have h6 := hg.2.2.2.2.2.1
  have h7 := hg.2.2.2.2.2.2.1
  have hb := hg.2.2.2.2.2.2.2.1
  have hN := hw.1.1
  have h5 := hw.2.2.2
  refine g_aload_n (n := 750) rfl rfl ?_
  refine g_aload_n (n := 751) rfl rfl ?_
  refine g_iload_n (n := 752) rfl rfl ?_
  refine g_iconst (n := 753) (v := 1) rfl rfl ?_
  refine g_iaddN (n := 754) (x := i) (y := 1) rfl ?_
  refine g_sld (n := 755) ((i + 1)) rfl (by omega) (by omega) ?_
  refine g_cv1 (n := 758) (t := 108) (ci := 11) rfl (by decide +kernel) (by decide +kernel) (by decide) (by decide) (by decide +kernel) (by rfl) (c_kSpare hC hw hv hm1 hS) (by omega) (lw_C fun I1 hC1 hF1 => ?_)
  have e125 := cF_125 hF1
  refine g_aload_n (n := 759) rfl rfl ?_
  refine g_aload_n (n := 760) rfl rfl ?_
  refine g_iload_n (n := 761) rfl rfl ?_
  refine g_iconst (n := 762) (v := 1) rfl rfl ?_
  refine g_iaddN (n := 763) (x := i) (y := 1) rfl ?_
  refine g_sld (n := 764) ((i + 1)) rfl (by omega) (by omega) ?_
  refine g_cv1 (n := 767) (t := 205) (ci := 12) rfl (by decide +kernel) (by decide +kernel) (by decide) (by decide) (by decide +kernel) (by rfl) (SP_mR (c_spare hw) e125) (by omega) (lw_D fun J hX => ?_)
  refine g_iceq (n := 770) 1223 rfl (by decide) (fun _ => ?_) (fun h => absurd rfl h)
  exact hk J _ (LI_o hL hC1 hF1 hX (by rw [sm_Spare]; exact hg))
set_option maxRecDepth 20000 in
theorem lw_op18 {L i d nm : Nat} {xs : Nat → Int32} {I : mg_I} {Q : Option Value → mg_I → Nat → Prop} (hd : 60 ≤ d) (hi : i + 6 ≤ L) (hL3 : L ≤ 3072) (hL : LI I) (hk : lk L xs d i Q) : GG (mi_sc L xs) 13 false true mi_k231 d 772 [.ref 0, .ref 5, .ref 124, .int (nI i)] [] I nm Q := by
  have hC := hL.1
  have hg := hL.2.1
  have hw := hg.1
  have hv := hg.2.1
  have hm1 := hg.2.2.1
  have hS := hg.2.2.2.1
  have hLd := hg.2.2.2.2.1
  have h6 := hg.2.2.2.2.2.1
  have h7 := hg.2.2.2.2.2.2.1
  have hb := hg.2.2.2.2.2.2.2.1
  have hN := hw.1.1
  have h5 := hw.2.2.2
  refine g_aload_n (n := 773) rfl rfl ?_
  refine g_aload_n (n := 774) rfl rfl ?_
  refine g_iload_n (n := 775) rfl rfl ?_
  refine g_iconst (n := 776) (v := 1) rfl rfl ?_
  refine g_iaddN (n := 777) (x := i) (y := 1) rfl ?_
  refine g_sld (n := 778) ((i + 1)) rfl (by omega) (by omega) ?_
  refine g_cv1 (n := 781) (t := 109) (ci := 11) rfl (by decide +kernel) (by decide +kernel) (by decide) (by decide) (by decide +kernel) (by rfl) (c_kWithout hC hw hv hm1) (by omega) (lw_C fun I1 hC1 hF1 => ?_)
  have e125 := cF_125 hF1
  refine g_aload_n (n := 782) rfl rfl ?_
  refine g_aload_n (n := 783) rfl rfl ?_
  refine g_iload_n (n := 784) rfl rfl ?_
  refine g_iconst (n := 785) (v := 1) rfl rfl ?_
  refine g_iaddN (n := 786) (x := i) (y := 1) rfl ?_
  refine g_sld (n := 787) ((i + 1)) rfl (by omega) (by omega) ?_
  refine g_cv1 (n := 790) (t := 207) (ci := 12) rfl (by decide +kernel) (by decide +kernel) (by decide) (by decide) (by decide +kernel) (by rfl) (SP_mR (c_without hw) e125) (by omega) (lw_D fun J hX => ?_)
  refine g_iceq (n := 793) 1223 rfl (by decide) (fun _ => ?_) (fun h => absurd rfl h)
  exact hk J _ (LI_o hL hC1 hF1 hX (by rw [sm_Without]; exact hg))
set_option maxRecDepth 20000 in
theorem lw_op19 {L i d nm : Nat} {xs : Nat → Int32} {I : mg_I} {Q : Option Value → mg_I → Nat → Prop} (hd : 60 ≤ d) (hi : i + 6 ≤ L) (hL3 : L ≤ 3072) (hL : LI I) (hk : lk L xs d i Q) : GG (mi_sc L xs) 13 false true mi_k231 d 795 [.ref 0, .ref 5, .ref 124, .int (nI i)] [] I nm Q := by
  have hC := hL.1
  have hg := hL.2.1
  have hw := hg.1
  have hv := hg.2.1
  have hm1 := hg.2.2.1
  have hS := hg.2.2.2.1
  have hLd := hg.2.2.2.2.1
  have h6 := hg.2.2.2.2.2.1
  have h7 := hg.2.2.2.2.2.2.1
  have hb := hg.2.2.2.2.2.2.2.1
  have hN := hw.1.1
  have h5 := hw.2.2.2
  refine g_aload_n (n := 796) rfl rfl ?_
  refine g_aload_n (n := 797) rfl rfl ?_
  refine g_iload_n (n := 798) rfl rfl ?_
  refine g_iconst (n := 799) (v := 1) rfl rfl ?_
  refine g_iaddN (n := 800) (x := i) (y := 1) rfl ?_
  refine g_sld (n := 801) ((i + 1)) rfl (by omega) (by omega) ?_
  refine g_cv1 (n := 804) (t := 110) (ci := 11) rfl (by decide +kernel) (by decide +kernel) (by decide) (by decide) (by decide +kernel) (by rfl) (c_kNew hC hw hv hm1 hLd) (by omega) (lw_C fun I1 hC1 hF1 => ?_)
  have e125 := cF_125 hF1
  refine g_aload_n (n := 805) rfl rfl ?_
  refine g_aload_n (n := 806) rfl rfl ?_
  refine g_iload_n (n := 807) rfl rfl ?_
  refine g_iconst (n := 808) (v := 1) rfl rfl ?_
  refine g_iaddN (n := 809) (x := i) (y := 1) rfl ?_
  refine g_sld (n := 810) ((i + 1)) rfl (by omega) (by omega) ?_
  refine g_cv1 (n := 813) (t := 208) (ci := 12) rfl (by decide +kernel) (by decide +kernel) (by decide) (by decide) (by decide +kernel) (by rfl) (SP_mR (c_newOne hw) e125) (by omega) (lw_D fun J hX => ?_)
  refine g_iceq (n := 816) 1223 rfl (by decide) (fun _ => ?_) (fun h => absurd rfl h)
  exact hk J _ (LI_o hL hC1 hF1 hX (by rw [sm_New]; exact hg))
set_option maxRecDepth 20000 in
theorem lw_op20 {L i d nm : Nat} {xs : Nat → Int32} {I : mg_I} {Q : Option Value → mg_I → Nat → Prop} (hd : 60 ≤ d) (hi : i + 6 ≤ L) (hL3 : L ≤ 3072) (hL : LI I) (hk : lk L xs d i Q) : GG (mi_sc L xs) 13 false true mi_k231 d 818 [.ref 0, .ref 5, .ref 124, .int (nI i)] [] I nm Q := by
  have hC := hL.1
  have hg := hL.2.1
  have hw := hg.1
  have hv := hg.2.1
  have hm1 := hg.2.2.1
  have hS := hg.2.2.2.1
  have hLd := hg.2.2.2.2.1
  have h6 := hg.2.2.2.2.2.1
  have h7 := hg.2.2.2.2.2.2.1
  have hb := hg.2.2.2.2.2.2.2.1
  have hN := hw.1.1
  have h5 := hw.2.2.2
  refine g_aload_n (n := 819) rfl rfl ?_
  refine g_cv0 (n := 822) (t := 111) (ci := 11) rfl (by decide +kernel) (by decide +kernel) (by decide) (by decide) (by decide +kernel) (by rfl) (c_kFaults hC h5 (gF_lt h5 hN hg.2.2.2.2.2.2.2.2)) (by omega) (lw_C fun I1 hC1 hF1 => ?_)
  have e125 := cF_125 hF1
  refine g_aload_n (n := 823) rfl rfl ?_
  refine g_cv0 (n := 826) (t := 209) (ci := 12) rfl (by decide +kernel) (by decide +kernel) (by decide) (by decide) (by decide +kernel) (by rfl) (SP_mR (c_faults (d0 := I 125)) e125) (by omega) (lw_D fun J hX => ?_)
  refine g_iceq (n := 829) 1223 rfl (by decide) (fun _ => ?_) (fun h => absurd rfl h)
  exact hk J _ (LI_o hL hC1 hF1 hX (by rw [sm_Faults]; exact hg))
set_option maxRecDepth 20000 in
theorem lw_op21 {L i d nm : Nat} {xs : Nat → Int32} {I : mg_I} {Q : Option Value → mg_I → Nat → Prop} (hd : 60 ≤ d) (hi : i + 6 ≤ L) (hL3 : L ≤ 3072) (hL : LI I) (hk : lk L xs d i Q) : GG (mi_sc L xs) 13 false true mi_k231 d 831 [.ref 0, .ref 5, .ref 124, .int (nI i)] [] I nm Q := by
  have hC := hL.1
  have hg := hL.2.1
  have hw := hg.1
  have hv := hg.2.1
  have hm1 := hg.2.2.1
  have hS := hg.2.2.2.1
  have hLd := hg.2.2.2.2.1
  have h6 := hg.2.2.2.2.2.1
  have h7 := hg.2.2.2.2.2.2.1
  have hb := hg.2.2.2.2.2.2.2.1
  have hN := hw.1.1
  have h5 := hw.2.2.2
  refine g_aload_n (n := 832) rfl rfl ?_
  refine g_aload_n (n := 833) rfl rfl ?_
  refine g_iload_n (n := 834) rfl rfl ?_
  refine g_iconst (n := 835) (v := 1) rfl rfl ?_
  refine g_iaddN (n := 836) (x := i) (y := 1) rfl ?_
  refine g_sld (n := 837) ((i + 1)) rfl (by omega) (by omega) ?_
  refine g_cv1 (n := 840) (t := 112) (ci := 11) rfl (by decide +kernel) (by decide +kernel) (by decide) (by decide) (by decide +kernel) (by rfl) (c_kSeed hC) (by omega) (lw_C fun I1 hC1 hF1 => ?_)
  have e125 := cF_125 hF1
  refine g_aload_n (n := 841) rfl rfl ?_
  refine g_aload_n (n := 842) rfl rfl ?_
  refine g_iload_n (n := 843) rfl rfl ?_
  refine g_iconst (n := 844) (v := 1) rfl rfl ?_
  refine g_iaddN (n := 845) (x := i) (y := 1) rfl ?_
  refine g_sld (n := 846) ((i + 1)) rfl (by omega) (by omega) ?_
  refine g_cv1 (n := 849) (t := 210) (ci := 12) rfl (by decide +kernel) (by decide +kernel) (by decide) (by decide) (by decide +kernel) (by rfl) (SP_mR (c_seed (d0 := I 125)) e125) (by omega) (lw_D fun J hX => ?_)
  refine g_iceq (n := 852) 1223 rfl (by decide) (fun _ => ?_) (fun h => absurd rfl h)
  exact hk J _ (LI_o hL hC1 hF1 hX (gI_seed hg))
set_option maxRecDepth 20000 in
theorem lw_op31 {L i d nm : Nat} {xs : Nat → Int32} {I : mg_I} {Q : Option Value → mg_I → Nat → Prop} (hd : 60 ≤ d) (hi : i + 6 ≤ L) (hL3 : L ≤ 3072) (hL : LI I) (hk : lk L xs d i Q) : GG (mi_sc L xs) 13 false true mi_k231 d 1141 [.ref 0, .ref 5, .ref 124, .int (nI i)] [] I nm Q := by
  have hC := hL.1
  have hg := hL.2.1
  have hw := hg.1
  have hv := hg.2.1
  have hm1 := hg.2.2.1
  have hS := hg.2.2.2.1
  have hLd := hg.2.2.2.2.1
  have h6 := hg.2.2.2.2.2.1
  have h7 := hg.2.2.2.2.2.2.1
  have hb := hg.2.2.2.2.2.2.2.1
  have hN := hw.1.1
  have h5 := hw.2.2.2
  refine g_aload_n (n := 1142) rfl rfl ?_
  refine g_aload_n (n := 1143) rfl rfl ?_
  refine g_iload_n (n := 1144) rfl rfl ?_
  refine g_iconst (n := 1145) (v := 1) rfl rfl ?_
  refine g_iaddN (n := 1146) (x := i) (y := 1) rfl ?_
  refine g_sld (n := 1147) ((i + 1)) rfl (by omega) (by omega) ?_
  refine g_cv1 (n := 1150) (t := 122) (ci := 11) rfl (by decide +kernel) (by decide +kernel) (by decide) (by decide) (by decide +kernel) (by rfl) (c_kTell hC hw) (by omega) (lw_C fun I1 hC1 hF1 => ?_)
  have e125 := cF_125 hF1
  refine g_aload_n (n := 1151) rfl rfl ?_
  refine g_aload_n (n := 1152) rfl rfl ?_
  refine g_iload_n (n := 1153) rfl rfl ?_
  refine g_iconst (n := 1154) (v := 1) rfl rfl ?_
  refine g_iaddN (n := 1155) (x := i) (y := 1) rfl ?_
  refine g_sld (n := 1156) ((i + 1)) rfl (by omega) (by omega) ?_
  refine g_cv1 (n := 1159) (t := 227) (ci := 12) rfl (by decide +kernel) (by decide +kernel) (by decide) (by decide) (by decide +kernel) (by rfl) (SP_mR (c_tell h7) e125) (by omega) (lw_D fun J hX => ?_)
  refine g_iceq (n := 1162) 1223 rfl (by decide) (fun _ => ?_) (fun h => absurd rfl h)
  exact hk J _ (LI_o hL hC1 hF1 hX (gI_tell hg))
set_option maxRecDepth 20000 in
theorem lw_op32 {L i d nm : Nat} {xs : Nat → Int32} {I : mg_I} {Q : Option Value → mg_I → Nat → Prop} (hd : 60 ≤ d) (hi : i + 6 ≤ L) (hL3 : L ≤ 3072) (hL : LI I) (hk : lk L xs d i Q) : GG (mi_sc L xs) 13 false true mi_k231 d 1164 [.ref 0, .ref 5, .ref 124, .int (nI i)] [] I nm Q := by
  have hC := hL.1
  have hg := hL.2.1
  have hw := hg.1
  have hv := hg.2.1
  have hm1 := hg.2.2.1
  have hS := hg.2.2.2.1
  have hLd := hg.2.2.2.2.1
  have h6 := hg.2.2.2.2.2.1
  have h7 := hg.2.2.2.2.2.2.1
  have hb := hg.2.2.2.2.2.2.2.1
  have hN := hw.1.1
  have h5 := hw.2.2.2
  refine g_aload_n (n := 1165) rfl rfl ?_
  refine g_cv0 (n := 1168) (t := 123) (ci := 11) rfl (by decide +kernel) (by decide +kernel) (by decide) (by decide) (by decide +kernel) (by rfl) (c_kCheck hC hw hv) (by omega) (lw_C fun I1 hC1 hF1 => ?_)
  have e125 := cF_125 hF1
  refine g_aload_n (n := 1169) rfl rfl ?_
  refine g_cv0 (n := 1172) (t := 228) (ci := 12) rfl (by decide +kernel) (by decide +kernel) (by decide) (by decide) (by decide +kernel) (by rfl) (SP_mR (c_check hw h7) e125) (by omega) (lw_D fun J hX => ?_)
  refine g_iceq (n := 1175) 1223 rfl (by decide) (fun _ => ?_) (fun h => absurd rfl h)
  exact hk J _ (LI_o hL hC1 hF1 hX (gI_check hg))
