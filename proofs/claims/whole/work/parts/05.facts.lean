/-! FACTS of the tables, decided by program -/
def mi_at (pl : Nat) (w : Jvm.Cond) : Bool := decide (lw_tbl[pl]? = some w)
theorem mi_at_mem {pl : Nat} {w : Jvm.Cond} (h : mi_at pl w = true) : w ∈ lw_tbl := List.mem_of_getElem? (of_decide_eq_true h)
/-- the words that go from a method to its callees -/
def mi_all : List Jvm.Cond := lw_tbl.filter goodWord
theorem mi_all_of {w : Jvm.Cond} (h : w ∈ lw_tbl) (hg : goodWord w = true) : w ∈ mi_all := List.mem_filter.mpr ⟨h, hg⟩
def mi_cw (pl : Nat) : Option (MethodName × ByteArray × Nat × Option FieldType) := match lw_tbl[pl]? with
  | some (.code y b L r) => some (y, b, L, r)
  | _ => none
theorem mi_cw_mem {pl : Nat} {w : MethodName × ByteArray × Nat × Option FieldType} (h : mi_cw pl = some w) : Jvm.Cond.code w.1 w.2.1 w.2.2.1 w.2.2.2 ∈ lw_tbl := by
  unfold mi_cw at h
  split at h
  next y b L r hp => cases h; exact List.mem_of_getElem? hp
  · cases h
/-- a method's bytes, out of the table (the law's own, where it has none) -/
def mi_bt (q : mi_Mt) : ByteArray := match mi_cw q.2.2.2.2.2.1 with
  | some w => w.2.1
  | none => code
def mi_dec (b : ByteArray) (e : Nat × Instr) : Bool := match decode b e.1 with
  | .ok q => decide (q.1 = e.2) && (decide (mi_len q.1 = 0) || decide (mi_len q.1 = q.2))
  | _ => false
def mi_mchk (q : mi_Mt) : Bool := plainName q.1.cls && decide (q.2.2.1 ≤ 40) && decide (mi_R[q.2.2.2.2.1]? = some q.1.cls) && (decide (q.2.2.2.1 = none) || decide (q.2.2.2.1 = some .int) || decide (q.2.2.2.1 = some .boolean)) && (match mi_cw q.2.2.2.2.2.1 with
  | some w => decide (w.1 = q.1) && decide (w.2.2.1 = q.2.2.1) && decide (w.2.2.2 = q.2.2.2.1)
  | none => decide (q.2.2.2.2.2.1 = 99999))
theorem mi_mc_0 : mi_mt_0.all mi_mchk = true := by decide +kernel
theorem mi_mc_1 : mi_mt_1.all mi_mchk = true := by decide +kernel
theorem mi_mc_2 : mi_mt_2.all mi_mchk = true := by decide +kernel
theorem mi_mc_3 : mi_mt_3.all mi_mchk = true := by decide +kernel
theorem mi_mc_4 : mi_mt_4.all mi_mchk = true := by decide +kernel
theorem mi_mc_5 : mi_mt_5.all mi_mchk = true := by decide +kernel
theorem mi_mc : mi_mt.all mi_mchk = true := by
  simp only [mi_mt, List.all_append, mi_mc_0, mi_mc_1, mi_mc_2, mi_mc_3, mi_mc_4, mi_mc_5, Bool.and_self]
theorem mi_ii_ok : ∀ t ∈ mi_ii, (mi_mt[t]?).map (fun q => q.1.name) = some "<init>" := by decide +kernel
def mi_fchk (nest : Bool) (q : (Nat × Nat) × (Nat × Nat × Nat)) : Bool := match mi_R[q.1.1]?, mi_cl[q.2.1]? with
  | some O, some r => decide (q.2.2.1 < r.2.2) && (if nest = true then mi_at q.2.2.2 (.fieldLinkNest O q.1.2 (r.2.1 q.2.2.1).1 (r.2.1 q.2.2.1).2.1 (r.2.1 q.2.2.1).2.2.1 "NineLedges") else mi_at q.2.2.2 (.fieldLink O q.1.2 (r.2.1 q.2.2.1).1 (r.2.1 q.2.2.1).2.1 (r.2.1 q.2.2.1).2.2.1))
  | _, _ => false
theorem mi_fl_ok : mi_fl.all (mi_fchk false) = true := by decide +kernel
theorem mi_fn_ok : mi_fn.all (mi_fchk true) = true := by decide +kernel
def mi_cchk (ci : Nat) : Bool := match mi_cl[ci]?, mi_lp[ci]?, mi_df[ci]?, mi_in[ci]? with
  | some r, some lp, some fs, some ip => (List.range r.2.2).all (fun k => mi_at (lp.getD k 0) (u_lay r.1 r.2.1 k) && decide ((r.2.1 k).1 = r.1) && decide (parseFieldDescriptor (r.2.1 k).2.2.1 = some (mi_ty ci k)) && decide (defaultValue (mi_ty ci k) = vp_V fs k)) && decide (fs.length = r.2.2) && mi_at ip.1 (.instantiable r.1 r.2.2) && mi_at ip.2 (.initialized r.1) && (List.range r.2.2).all (fun a => (List.range r.2.2).all (fun b => decide (a = b) || decide ((r.2.1 a).2.1 ≠ (r.2.1 b).2.1)))
  | _, _, _, _ => false
theorem mi_cl_ok : (List.range 13).all mi_cchk = true := by decide +kernel
theorem mi_kc_ok : mi_kc.all (fun q => match mi_R[q.1.1]? with
  | some O => mi_at q.2.2 (.constant O q.1.2 q.2.1)
  | none => false) = true := by decide +kernel
theorem mi_kl_ok : mi_kl.all (fun q => match mi_R[q.1.1]? with
  | some O => mi_at q.2.2 (.constantLong O q.1.2 q.2.1)
  | none => false) = true := by decide +kernel
theorem mi_nl_ok : mi_nl.all (fun q => match mi_R[q.1.1]?, mi_cl[q.2.1]? with
  | some O, some r => decide (q.2.1 < 13) && mi_at q.2.2 (.classLink O q.1.2 r.1)
  | _, _ => false) = true := by decide +kernel
def mi_an (h : Nat) : String := match h with
  | 1 => "NineLedges$Goer"
  | 2 => "NineLedges$Text"
  | 3 => "NineLedges$Row"
  | _ => "NineLedges$Walker"
theorem mi_al_ok : mi_al.all (fun q => match mi_R[q.1.1]? with
  | some O => decide (0 < q.2.1) && decide (q.2.1 < 5) && mi_at q.2.2.1 (.classLink O q.1.2 (mi_an q.2.1)) && mi_at q.2.2.2 (.arrayOver (.object (mi_an q.2.1)))
  | _ => false) = true := by decide +kernel
theorem mi_gs_ok : mi_gs.all (fun q => match mi_R[q.1.1]? with
  | some O => mi_at q.2 (.fieldLink O q.1.2 "NineLedges" "ABOVE" "[I")
  | _ => false) = true := by decide +kernel
def mi_np (y : MethodName) : Option Nat := (parseMethodDescriptor y.desc).map (fun d => d.parameters.length)
def mi_mh (s : String) : Bool := decide (s ≠ "java/lang/invoke/MethodHandle" ∧ s ≠ "java/lang/invoke/VarHandle")
def mi_cvchk (q : (Nat × Nat × Nat) × (Nat × Nat × Nat × Nat × Nat × Nat)) : Bool := match mi_R[q.1.1]?, mi_cl[q.1.2.2]?, mi_mt[q.2.1]? with
  | some O, some r, some M => decide (q.1.2.2 < 13) && decide (M.2.2.2.2.2.1 ≠ 99999) && decide (M.1.cls = r.1) && mi_mh M.1.cls && decide (mi_np M.1 = some q.2.2.1) && mi_at q.2.2.2.1 (.methodLink O q.1.2.1 M.1) && mi_at q.2.2.2.2.1 (.instanceMethod M.1) && mi_at q.2.2.2.2.2.1 (.selects r.1 M.1 M.1) && mi_at q.2.2.2.2.2.2 (.initialized r.1)
  | _, _, _ => false
theorem mi_cv_ok : mi_cv.all mi_cvchk = true := by decide +kernel
def mi_cuchk (q : (Nat × Nat × Nat) × (Nat × Nat × Nat × Nat × Nat × Nat × Nat × Nat × Nat)) : Bool := match mi_R[q.1.1]?, mi_cl[q.1.2.2]?, mi_mt[q.2.1]?, mi_mt[q.2.2.2.1]? with
  | some O, some r, some M, some U => (match lw_tbl[q.2.2.2.2.1]? with
    | some (.methodLink O' k x) => decide (q.1.2.2 < 13) && decide (O' = O) && decide (k = q.1.2.1) && decide (M.2.2.2.2.2.1 ≠ 99999) && decide (U.2.2.2.2.2.1 ≠ 99999) && decide (U.1.name = x.name) && decide (U.1.desc = x.desc) && mi_mh U.1.cls && decide (mi_np x = some q.2.2.1) && mi_at q.2.2.2.2.2.1 (.sameMethod x.cls U.1.cls x.name x.desc) && mi_at q.2.2.2.2.2.2.1 (.instanceMethod U.1) && mi_at q.2.2.2.2.2.2.2.1 (.selects r.1 x M.1) && mi_at q.2.2.2.2.2.2.2.2.1 (.instanceMethod M.1) && mi_at q.2.2.2.2.2.2.2.2.2 (.initialized M.1.cls)
    | _ => false)
  | _, _, _, _ => false
theorem mi_cu_ok : mi_cu.all mi_cuchk = true := by decide +kernel
def mi_cschk (nest : Bool) (q : (Nat × Nat) × (Nat × Nat × Nat × Nat × Nat)) : Bool := match mi_R[q.1.1]?, mi_mt[q.2.1]? with
  | some O, some M => decide (M.2.2.2.2.2.1 ≠ 99999) && mi_mh M.1.cls && decide (mi_np M.1 = some q.2.2.1) && (if nest = true then mi_at q.2.2.2.1 (.methodLinkNest O q.1.2 M.1 "NineLedges") else mi_at q.2.2.2.1 (.methodLink O q.1.2 M.1)) && mi_at q.2.2.2.2.1 (.static M.1) && mi_at q.2.2.2.2.2 (.initialized M.1.cls)
  | _, _ => false
theorem mi_cs_ok : mi_cs.all (mi_cschk false) = true := by decide +kernel
theorem mi_cn_ok : mi_cn.all (mi_cschk true) = true := by decide +kernel
def mi_cichk (nest : Bool) (q : (Nat × Nat) × (Nat × Nat × Nat × Nat × Nat)) : Bool := match mi_R[q.1.1]?, mi_mt[q.2.1]? with
  | some O, some M => decide (M.2.2.2.2.2.1 ≠ 99999) && decide (M.1.name = "<init>") && decide (M.2.2.2.1 = none) && mi_mh M.1.cls && decide (mi_np M.1 = some q.2.2.1) && (if nest = true then mi_at q.2.2.2.1 (.methodLinkNest O q.1.2 M.1 "NineLedges") else mi_at q.2.2.2.1 (.methodLink O q.1.2 M.1)) && mi_at q.2.2.2.2.1 (.instanceMethod M.1) && mi_at q.2.2.2.2.2 (.initialized M.1.cls)
  | _, _ => false
theorem mi_ci_ok : mi_ci.all (mi_cichk false) = true := by decide +kernel
theorem mi_cj_ok : mi_cj.all (mi_cichk true) = true := by decide +kernel
def mi_czchk (q : (Nat × Nat) × (Nat × Nat × Nat × Nat × Nat × Nat × Nat × Nat × Nat)) : Bool := match mi_R[q.1.1]?, mi_mt[q.2.1]?, mi_cl[q.2.2.2.1]? with
  | some O, some M, some X => decide (M.2.2.2.2.2.1 ≠ 99999) && decide (M.1.name ≠ "<init>") && decide (mi_np M.1 = some q.2.2.1) && mi_at q.2.2.2.2.1 (.methodLink O q.1.2 ⟨X.1, M.1.name, M.1.desc⟩) && mi_at q.2.2.2.2.2.1 (.sameMethod X.1 M.1.cls M.1.name M.1.desc) && mi_at q.2.2.2.2.2.2.1 (.superclass O X.1) && (decide (X.1 = M.1.cls) || mi_at q.2.2.2.2.2.2.2.1 (.superclass X.1 M.1.cls)) && mi_at q.2.2.2.2.2.2.2.2.1 (.instanceMethod M.1) && mi_at q.2.2.2.2.2.2.2.2.2 (.initialized M.1.cls)
  | _, _, _ => false
theorem mi_cz_ok : mi_cz.all mi_czchk = true := by decide +kernel
def mi_cqchk (q : (Nat × Nat) × (Nat × Nat)) : Bool := match mi_R[q.1.1]? with
  | some O => (match q.2.1 with
    | 1 => mi_at q.2.2 (.methodLink O q.1.2 Lib.Math.max.name)
    | 2 => mi_at q.2.2 (.methodLink O q.1.2 Lib.Math.min.name)
    | 3 => mi_at q.2.2 (.methodLink O q.1.2 arraycopyName)
    | 4 => mi_at q.2.2 (.methodLink O q.1.2 objectInit)
    | 5 => mi_at q.2.2 (.methodLink O q.1.2 yJ0_indexOf_0f7a4)
    | _ => false)
  | none => false
theorem mi_cq_ok : mi_cq.all mi_cqchk = true := by decide +kernel
