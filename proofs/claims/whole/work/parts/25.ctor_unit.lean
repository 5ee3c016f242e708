theorem wu_12 : Cond.fieldLink nR_UNI 12 nR_UNI "first" "LTagMachine$Operand;" ∈ lw_ws := lw_m (i := 128) (by decide +kernel) (by decide +kernel)
theorem wu_18 : Cond.fieldLink nR_UNI 18 nR_UNI "second" "LTagMachine$Operand;" ∈ lw_ws := lw_m (i := 130) (by decide +kernel) (by decide +kernel)
set_option maxRecDepth 100000 in
theorem wo_i : Cond.instanceMethod objectInit ∈ lw_ws := lw_m (i := 67) (by decide +kernel) (by decide +kernel)
set_option maxRecDepth 100000 in
theorem wo_c : Cond.code objectInit ⟨#[0xb1]⟩ 1 none ∈ lw_ws := lw_m (i := 68) rfl (by decide +kernel)
theorem wo_INS : Cond.methodLink nR_INS 1 objectInit ∈ lw_ws := lw_m (i := 81) (by decide +kernel) (by decide +kernel)
theorem wo_OPD : Cond.methodLink nR_OPD 1 objectInit ∈ lw_ws := lw_m (i := 109) (by decide +kernel) (by decide +kernel)
theorem wo_REC : Cond.methodLink nR_REC 1 objectInit ∈ lw_ws := lw_m (i := 170) (by decide +kernel) (by decide +kernel)
theorem wo_UNI : Cond.methodLink nR_UNI 3 objectInit ∈ lw_ws := lw_m (i := 125) (by decide +kernel) (by decide +kernel)
theorem wo_TM : Cond.methodLink nR_TM 1 objectInit ∈ lw_ws := lw_m (i := 66) (by decide +kernel) (by decide +kernel)
theorem wo_MOD : Cond.methodLink nR_MOD 1 objectInit ∈ lw_ws := lw_m (i := 585) (by decide +kernel) (by decide +kernel)
set_option maxRecDepth 100000 in
theorem wk_INS_c : Cond.code nN_INS_init nC_INS_init 1 none ∈ lw_ws := lw_m (i := 80) rfl (by decide +kernel)
theorem wk_INS_m : Cond.instanceMethod nN_INS_init ∈ lw_ws := lw_m (i := 79) (by decide +kernel) (by decide +kernel)
theorem wk_INS_i : Cond.initialized nR_INS ∈ lw_ws := lw_m (i := 51) (by decide +kernel) (by decide +kernel)
set_option maxRecDepth 100000 in
theorem wk_OPD_c : Cond.code nN_OPD_init nC_OPD_init 1 none ∈ lw_ws := lw_m (i := 108) rfl (by decide +kernel)
theorem wk_OPD_m : Cond.instanceMethod nN_OPD_init ∈ lw_ws := lw_m (i := 107) (by decide +kernel) (by decide +kernel)
theorem wk_OPD_i : Cond.initialized nR_OPD ∈ lw_ws := lw_m (i := 52) (by decide +kernel) (by decide +kernel)
set_option maxRecDepth 100000 in
theorem wk_REC_c : Cond.code nN_REC_init nC_REC_init 1 none ∈ lw_ws := lw_m (i := 169) rfl (by decide +kernel)
theorem wk_REC_m : Cond.instanceMethod nN_REC_init ∈ lw_ws := lw_m (i := 168) (by decide +kernel) (by decide +kernel)
theorem wk_REC_i : Cond.initialized nR_REC ∈ lw_ws := lw_m (i := 54) (by decide +kernel) (by decide +kernel)
set_option maxRecDepth 100000 in
theorem wk_UNI_c : Cond.code nN_UNI_init nC_UNI_init 1 none ∈ lw_ws := lw_m (i := 124) rfl (by decide +kernel)
theorem wk_UNI_m : Cond.instanceMethod nN_UNI_init ∈ lw_ws := lw_m (i := 123) (by decide +kernel) (by decide +kernel)
theorem wk_UNI_i : Cond.initialized nR_UNI ∈ lw_ws := lw_m (i := 53) (by decide +kernel) (by decide +kernel)
set_option maxRecDepth 100000 in
theorem wk_TM_c : Cond.code nN_TM_init nC_TM_init 4 none ∈ lw_ws := lw_m (i := 65) rfl (by decide +kernel)
theorem wk_TM_m : Cond.instanceMethod nN_TM_init ∈ lw_ws := lw_m (i := 64) (by decide +kernel) (by decide +kernel)
theorem wk_TM_i : Cond.initialized nR_TM ∈ lw_ws := lw_m (i := 49) (by decide +kernel) (by decide +kernel)
set_option maxRecDepth 100000 in
theorem wk_MOD_c : Cond.code nN_MOD_init nC_MOD_init 3 none ∈ lw_ws := lw_m (i := 584) rfl (by decide +kernel)
theorem wk_MOD_m : Cond.instanceMethod nN_MOD_init ∈ lw_ws := lw_m (i := 583) (by decide +kernel) (by decide +kernel)
theorem wk_MOD_i : Cond.initialized nR_MOD ∈ lw_ws := lw_m (i := 55) (by decide +kernel) (by decide +kernel)
theorem wk_l_LAW_8 : Cond.classLink nR_LAW 8 nR_TM ∈ lw_ws := lw_m (i := 61) (by decide +kernel) (by decide +kernel)
theorem wk_TM_n : Cond.instantiable nR_TM 15 ∈ lw_ws := lw_m (i := 62) (by decide +kernel) (by decide +kernel)
theorem wk_l_TM_25 : Cond.classLink nR_TM 25 nR_INS ∈ lw_ws := lw_m (i := 75) (by decide +kernel) (by decide +kernel)
theorem wk_INS_n : Cond.instantiable nR_INS 5 ∈ lw_ws := lw_m (i := 77) (by decide +kernel) (by decide +kernel)
theorem wk_l_TM_32 : Cond.classLink nR_TM 32 nR_OPD ∈ lw_ws := lw_m (i := 103) (by decide +kernel) (by decide +kernel)
theorem wk_OPD_n : Cond.instantiable nR_OPD 2 ∈ lw_ws := lw_m (i := 105) (by decide +kernel) (by decide +kernel)
theorem wk_l_TM_39 : Cond.classLink nR_TM 39 nR_UNI ∈ lw_ws := lw_m (i := 119) (by decide +kernel) (by decide +kernel)
theorem wk_UNI_n : Cond.instantiable nR_UNI 9 ∈ lw_ws := lw_m (i := 121) (by decide +kernel) (by decide +kernel)
theorem wk_l_UNI_9 : Cond.classLink nR_UNI 9 nR_OPD ∈ lw_ws := lw_m (i := 126) (by decide +kernel) (by decide +kernel)
theorem wk_l_TM_57 : Cond.classLink nR_TM 57 nR_REC ∈ lw_ws := lw_m (i := 165) (by decide +kernel) (by decide +kernel)
theorem wk_REC_n : Cond.instantiable nR_REC 2 ∈ lw_ws := lw_m (i := 166) (by decide +kernel) (by decide +kernel)
theorem wk_a_int : Cond.arrayClass .int ∈ lw_ws := lw_m (i := 180) (by decide +kernel) (by decide +kernel)
theorem wk_a_boolean : Cond.arrayClass .boolean ∈ lw_ws := lw_m (i := 181) (by decide +kernel) (by decide +kernel)
theorem wk_l_LAW_48 : Cond.classLink nR_LAW 48 nR_MOD ∈ lw_ws := lw_m (i := 580) (by decide +kernel) (by decide +kernel)
theorem wk_MOD_n : Cond.instantiable nR_MOD 30 ∈ lw_ws := lw_m (i := 581) (by decide +kernel) (by decide +kernel)
theorem wk_a_long : Cond.arrayClass .long ∈ lw_ws := lw_m (i := 851) (by decide +kernel) (by decide +kernel)
theorem cn_INS (l : Launch) (h : Nat) : ct_n l nN_INS_init nC_INS_init h := by
  refine Met.ofW (cc := nC_INS_init) (maxL := 1) (ret := none) (by decide) rfl ?_
  intro p e s m args below meth c s₁ B hml hv
  obtain ⟨rfl, -⟩ := hv
  have hts := atoms_spec (ws := .code nN_INS_init nC_INS_init 1 none :: lw_ws) B.pre
  have F : fx_F p s m [Value.ref h].toArray meth c nC_INS_init 1 none nR_INS := ⟨B.exec, B.bytes, hml, B.returns, B.notSynchronized, findClass_of_methodNamed B.named, fun w h => hts w (List.mem_cons_of_mem _ h)⟩
  have hl := lv_entry ([Value.ref h]) (n := 1) (Nat.le_of_ble_eq_true rfl)
  rw [lg_entry_eq]
  generalize (lg_sl ([Value.ref h]) ++ List.replicate (1 - (lg_sl ([Value.ref h])).length) Slot.unset).toArray = ls at hl ⊢
  have hl : lv_has ls 1 [(0, .ref h)] := hl
  refine lv_aload_n F.1 F.2.1 nD_INS_init_0 rfl (lv_at hl 0 rfl) ?_
  refine gi_o (R := rm_D 1) F hl wo_INS wo_i wo_c ⟨by decide, by decide⟩ nD_INS_init_1 ?_
  exact W.vret F.1 F.2.1 F.2.2.2.1 (fun t ht hW => ⟨rfl, trivial, ht⟩) (fun q hq => by cases hq) nD_INS_init_4 F.2.2.2.2.1
theorem cn_OPD (l : Launch) (h : Nat) : ct_n l nN_OPD_init nC_OPD_init h := by
  refine Met.ofW (cc := nC_OPD_init) (maxL := 1) (ret := none) (by decide) rfl ?_
  intro p e s m args below meth c s₁ B hml hv
  obtain ⟨rfl, -⟩ := hv
  have hts := atoms_spec (ws := .code nN_OPD_init nC_OPD_init 1 none :: lw_ws) B.pre
  have F : fx_F p s m [Value.ref h].toArray meth c nC_OPD_init 1 none nR_OPD := ⟨B.exec, B.bytes, hml, B.returns, B.notSynchronized, findClass_of_methodNamed B.named, fun w h => hts w (List.mem_cons_of_mem _ h)⟩
  have hl := lv_entry ([Value.ref h]) (n := 1) (Nat.le_of_ble_eq_true rfl)
  rw [lg_entry_eq]
  generalize (lg_sl ([Value.ref h]) ++ List.replicate (1 - (lg_sl ([Value.ref h])).length) Slot.unset).toArray = ls at hl ⊢
  have hl : lv_has ls 1 [(0, .ref h)] := hl
  refine lv_aload_n F.1 F.2.1 nD_OPD_init_0 rfl (lv_at hl 0 rfl) ?_
  refine gi_o (R := rm_D 1) F hl wo_OPD wo_i wo_c ⟨by decide, by decide⟩ nD_OPD_init_1 ?_
  exact W.vret F.1 F.2.1 F.2.2.2.1 (fun t ht hW => ⟨rfl, trivial, ht⟩) (fun q hq => by cases hq) nD_OPD_init_4 F.2.2.2.2.1
theorem cn_REC (l : Launch) (h : Nat) : ct_n l nN_REC_init nC_REC_init h := by
  refine Met.ofW (cc := nC_REC_init) (maxL := 1) (ret := none) (by decide) rfl ?_
  intro p e s m args below meth c s₁ B hml hv
  obtain ⟨rfl, -⟩ := hv
  have hts := atoms_spec (ws := .code nN_REC_init nC_REC_init 1 none :: lw_ws) B.pre
  have F : fx_F p s m [Value.ref h].toArray meth c nC_REC_init 1 none nR_REC := ⟨B.exec, B.bytes, hml, B.returns, B.notSynchronized, findClass_of_methodNamed B.named, fun w h => hts w (List.mem_cons_of_mem _ h)⟩
  have hl := lv_entry ([Value.ref h]) (n := 1) (Nat.le_of_ble_eq_true rfl)
  rw [lg_entry_eq]
  generalize (lg_sl ([Value.ref h]) ++ List.replicate (1 - (lg_sl ([Value.ref h])).length) Slot.unset).toArray = ls at hl ⊢
  have hl : lv_has ls 1 [(0, .ref h)] := hl
  refine lv_aload_n F.1 F.2.1 nD_REC_init_0 rfl (lv_at hl 0 rfl) ?_
  refine gi_o (R := rm_D 1) F hl wo_REC wo_i wo_c ⟨by decide, by decide⟩ nD_REC_init_1 ?_
  exact W.vret F.1 F.2.1 F.2.2.2.1 (fun t ht hW => ⟨rfl, trivial, ht⟩) (fun q hq => by cases hq) nD_REC_init_4 F.2.2.2.2.1
/-- a fresh unit, a unit as made, a fresh operand, a fresh instruction -/
def un_0 : List Value := [.null, .null, .int 0, .int 0, .int 0, .int 0, .int 0, .int 0, .int 0]
def un_1 (a b : Nat) : List Value := [.ref a, .ref b, .int 0, .int 0, .int 0, .int 0, .int 0, .int 0, .int 0]
def op_0 : List Value := [.int 0, .int 0]
def in_0 : List Value := [.int 0, .int 0, .int 0, .int 0, .int 0]
def rm_U : Room := { frames := 2, cells := 2, slots := 4, locals := 80 }
abbrev uW_0 (h : Nat) : va_W := [(h, .inr (3, un_0))]
abbrev uW_1 (h a b : Nat) : va_W := [(h, .inr (3, un_1 a b)), (a, .inr (1, op_0)), (b, .inr (1, op_0))]
def ct_u (l : Launch) (D : va_G) (h : Nat) : Prop := ∀ sz, Met l nN_UNI_init (.code nN_UNI_init nC_UNI_init 1 none :: lw_ws) rm_U (va_Pc [.ref h] (fun U => U.heap.size = sz ∧ va_P D vwCl (uW_0 h) U.heap ∧ va_K D vwCl [] U ∧ va_D (fun _ => True) (uW_0 h) ∧ va_Nw (.methodLinkNest nR_UNI 11 nN_OPD_init "TagMachine") U))
  (va_Qv (fun _ : Nat × Nat => True) (fun u t => va_P D vwCl (uW_1 h u.1 u.2) t.heap ∧ va_K D vwCl [] t ∧ va_D (va_A (uW_0 h) sz) (uW_1 h u.1 u.2)) (va_A (uW_0 h) sz)) 2 4 (va_A (uW_0 h) sz)
theorem wl_1 {h : Nat} {e : va_E} : wl_W (fun _ => h) 1 (fun _ => e) = [(h, e)] := rfl
theorem wl_3 {ad : Nat → Nat} {E : Nat → va_E} : wl_W ad 3 E = [(ad 0, E 0), (ad 1, E 1), (ad 2, E 2)] := rfl
set_option maxRecDepth 100000 in
set_option maxHeartbeats 4000000 in
theorem cu_UNI (l : Launch) (D : va_G) (h : Nat) : ct_u l D h := by
  intro sz
  refine Met.ofW (cc := nC_UNI_init) (maxL := 1) (ret := none) (by decide) rfl ?_
  intro p e s m args below meth c s₁ B hml hv
  obtain ⟨rfl, hsz, hP, hK, hD0, hNw⟩ := hv
  subst hsz
  have hts := atoms_spec (ws := .code nN_UNI_init nC_UNI_init 1 none :: lw_ws) B.pre
  have F : fx_F p s m [Value.ref h].toArray meth c nC_UNI_init 1 none nR_UNI := ⟨B.exec, B.bytes, hml, B.returns, B.notSynchronized, findClass_of_methodNamed B.named, fun w h => hts w (List.mem_cons_of_mem _ h)⟩
  have hin : meth.name = "<init>" := (name_of_methodNamed B.named B.method).1
  have hl := lv_entry ([Value.ref h]) (n := 1) (Nat.le_of_ble_eq_true rfl)
  rw [lg_entry_eq]
  generalize (lg_sl ([Value.ref h]) ++ List.replicate (1 - (lg_sl ([Value.ref h])).length) Slot.unset).toArray = ls at hl ⊢
  have hl : lv_has ls 1 [(0, .ref h)] := hl
  have hA : ∀ q : Nat, s.heap.size ≤ q → va_A (uW_0 h) s.heap.size q := fun q h => Or.inr h
  have hg : gw_P D [] (va_A (uW_0 h) s.heap.size) s s.heap [] (fun _ => h) 1 (fun _ => .inr (3, un_0)) := ⟨hP, hD0.self, hK, va_S.rf, hA⟩
  have hx := F.1
  have hb := F.2.1
  refine lv_aload_n hx hb nD_UNI_init_0 rfl (lv_at hl 0 rfl) ?_
  refine gi_o (R := rm_U) F hl wo_UNI wo_i wo_c ⟨by decide, by decide⟩ nD_UNI_init_1 ?_
  refine lv_aload_n hx hb nD_UNI_init_4 rfl (lv_at hl 0 rfl) ?_
  refine gn_o (R := rm_U) (fs := op_0) (ci := 1) F hg in_OPD nY_OPD nK_OPD wk_l_UNI_9 wk_OPD_n wk_OPD_i rfl (fun j hj => by rcases (show j = 0 ∨ j = 1 by omega) with rfl | rfl <;> rfl) (by decide) (by decide) nD_UNI_init_5 (fun a H hg => ?_)
  refine lv_dup hx hb nD_UNI_init_8 rfl ?_
  refine gc_n (R := rm_U) F (cn_OPD l a) hNw wk_OPD_c wk_OPD_i wk_OPD_m rfl hd_OPD_init ⟨by decide, by decide⟩ ⟨by decide, by decide⟩ hl (Nat.le_of_ble_eq_true rfl) nD_UNI_init_9 ?_
  refine gp_F (v := .ref a) (ty := .object "TagMachine$Operand") (ref := nR_UNI) F hg hin in_UNI nY_UNI nK_UNI nM_UNI 0 (by decide) rfl (fs := un_0) rfl rfl 0 (by decide) wu_12 rfl rfl rfl (by decide +kernel) rfl rfl (Nat.le_of_ble_eq_true rfl) nD_UNI_init_12 (fun H locs hg => ?_)
  refine lv_aload_n hx hb nD_UNI_init_15 rfl (lv_at hl 0 rfl) ?_
  refine gn_o (R := rm_U) (fs := op_0) (ci := 1) F hg in_OPD nY_OPD nK_OPD wk_l_UNI_9 wk_OPD_n wk_OPD_i rfl (fun j hj => by rcases (show j = 0 ∨ j = 1 by omega) with rfl | rfl <;> rfl) (by decide) (by decide) nD_UNI_init_16 (fun b H hg => ?_)
  refine lv_dup hx hb nD_UNI_init_19 rfl ?_
  refine gc_n (R := rm_U) F (cn_OPD l b) hNw wk_OPD_c wk_OPD_i wk_OPD_m rfl hd_OPD_init ⟨by decide, by decide⟩ ⟨by decide, by decide⟩ hl (Nat.le_of_ble_eq_true rfl) nD_UNI_init_20 ?_
  refine gp_F (v := .ref b) (ty := .object "TagMachine$Operand") (ref := nR_UNI) F hg hin in_UNI nY_UNI nK_UNI nM_UNI 0 (by decide) rfl (fs := un_0.set 0 (.ref a)) rfl rfl 1 (by decide) wu_18 rfl rfl rfl (by decide +kernel) rfl rfl (Nat.le_of_ble_eq_true rfl) nD_UNI_init_23 (fun H locs hg => ?_)
  obtain ⟨hP, hD, hK, hS, hA⟩ := hg
  rw [wl_3] at hP hD
  have hP : va_P D vwCl (uW_1 h a b) H := hP
  have hD : va_D (va_A (uW_0 h) s.heap.size) (uW_1 h a b) := hD
  exact W.vret hx hb F.2.2.2.1 (fun t ht hW => ⟨⟨(a, b), rfl, trivial, by rw [ht]; exact hP, va_K.moved hW.alike hK, hD⟩, hS.F ht⟩) hS.2.2 nD_UNI_init_26 F.2.2.2.2.1
