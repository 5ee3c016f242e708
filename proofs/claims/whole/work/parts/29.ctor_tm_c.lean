section MQ9
variable {p : Program} {l : Launch} {e : Env} {R : Room} {s : State} {m : MethodId} {args : Array Value} {below : List Frame} {meth : Method} {c : Code} {H : Heap} {locs : List Loc} {cells slots : Nat} {Q : State → Prop} {b : ByteArray} {nL : Nat} {ret0 : Option FieldType} {own : String} {pc : Nat} {ls : Array Slot} {rest : List Value} {D : va_G} {tys : List (ClassId × FieldType)} {A : Nat → Prop} {ad : Nat → Nat} {n : Nat} {E : Nat → va_E}
/-- a new array of references, and the reference to it into a final field of the cell 0 -/
theorem md_sq (F : fx_F p s m args meth c b nL ret0 own) (hg : gw_P D tys A s H locs ad n E) (hin2 : meth.name = "<init>") {C0 : String} {ix : Nat} (hcl : Cond.classLink own ix C0 ∈ lw_ws) (hover : va_AO C0 s) {w : Int32} {N0 : Nat} (hn : ¬ w < 0) (hN : w.toNatClampNeg = N0) (hbytes : N0 * 4 ≤ 536870912) (hcells : cells + 1 ≤ R.cells) (hslots : slots + N0 ≤ R.slots)
    {C ref : String} {T : u_T} {N ci index : Nat} (hin : ∀ w ∈ u_ws C T N, w ∈ lw_ws) (ty0 : Nat → FieldType) (hty0 : ∀ k, k < N → parseFieldDescriptor (T k).2.2.1 = some (ty0 k)) (hnm : ∀ a, a < N → ∀ b, b < N → a ≠ b → (T a).2.1 ≠ (T b).2.1) (h0 : 0 < n) {a : Nat} (ha : ad 0 = a) {fs : List Value} (he : E 0 = .inr (ci, fs)) (hc : vwCl[ci]? = some (C, T, N)) (k : Nat) (hk : k < N) (hlink : Cond.fieldLink own index ref (T k).2.1 (T k).2.2.1 ∈ lw_ws) (hsame : (T k).1 = ref) (hfin : (T k).2.2.2 = true) (hdecl : (T k).1 = own) (hd : parseFieldDescriptor (T k).2.2.1 = some (.array (.object C0))) (hl : k < fs.length)
    (d1 : decode b pc = .ok (.anewarray ix, 3)) (d2 : decode b (pc + 3) = .ok (.putfield index, 3))
    (kk : ∀ (q : Nat) (cA : ClassId) (ad' : Nat → Nat) (E' : Nat → va_E) (H1 : Heap) (locs1 : List Loc), gw_P D (tys ++ [(cA, .object C0)]) A s H1 locs1 ad' (n + 1) E' → (∀ j, j < n → ad' j = ad j) → ad' n = q → (∀ j, 0 < j → j < n → E' j = E j) → E' n = .inl (cA, N0, .inr (.inr (.inr (.inr (fun _ => none))))) → E' 0 = .inr (ci, fs.set k (.ref q)) → W p l e R s m args below meth c H1 locs1 (cells + 1) (slots + N0) Q (F0 m (pc + 6) ls rest)) :
    W p l e R s m args below meth c H locs cells slots Q (F0 m pc ls (.int w :: .ref a :: rest)) := by
  refine gn_q F hg hcl hover hn hN hbytes hcells hslots d1 (fun q cA H1 hg => ?_)
  refine gp_F (v := .ref q) (ty := .array (.object C0)) F hg hin2 hin ty0 hty0 hnm 0 (by omega) (by rw [va_up_ne _ _ (by omega)]; exact ha) (fs := fs) (by rw [va_up_ne _ _ (by omega)]; exact he) hc k hk hlink hsame hfin hdecl hd rfl rfl hl d2 (fun H1 locs1 hg => ?_)
  exact kk q cA _ _ H1 locs1 hg (fun j hj => va_up_ne _ _ (by omega)) (va_up_self _ _ _) (fun j hj hn => by rw [va_up_ne _ _ (by omega), va_up_ne _ _ (by omega)]) (by rw [va_up_ne _ _ (by omega), va_up_self]) (va_up_self _ _ _)
/-- a new object by a constructor that does nothing, into a final field of the cell 0 -/
theorem md_so {lv : List (Nat × Value)} (F : fx_F p s m args meth c b nL ret0 own) (hg : gw_P D tys A s H locs ad n E) (hin2 : meth.name = "<init>") {C1 : String} {T1 : u_T} {N1 ci1 ix i2 : Nat} {host : String} {y : MethodName} {b' : ByteArray} {f1 : List Value} (hin1 : ∀ w ∈ u_ws C1 T1 N1, w ∈ lw_ws) (ty1 : Nat → FieldType) (hty1 : ∀ k, k < N1 → parseFieldDescriptor (T1 k).2.2.1 = some (ty1 k)) (hcl : Cond.classLink own ix C1 ∈ lw_ws) (hinst : Cond.instantiable C1 N1 ∈ lw_ws) (hini : Cond.initialized C1 ∈ lw_ws) (hc1 : vwCl[ci1]? = some (C1, T1, N1)) (hf1 : ∀ j, j < N1 → defaultValue (ty1 j) = vp_V f1 j) (hcells : cells + 1 ≤ R.cells) (hslots : slots + N1 ≤ R.slots)
    (hM : ∀ q, ct_n l y b' q) (hNw : va_Nw (.methodLinkNest own i2 y host) s) (hcode : Cond.code y b' 1 none ∈ lw_ws) (hiy : Cond.initialized y.cls ∈ lw_ws) (hiny : Cond.instanceMethod y ∈ lw_ws) (hnmy : y.name = "<init>") (hdy : y.cls ≠ "java/lang/invoke/MethodHandle" ∧ y.cls ≠ "java/lang/invoke/VarHandle" ∧ (parseMethodDescriptor y.desc).map (fun d => d.parameters.length) = some 0) (hR : 2 ≤ R.frames ∧ 80 ≤ R.locals) (hl9 : lv_has ls nL lv)
    {C ref : String} {T : u_T} {N ci index : Nat} (hin : ∀ w ∈ u_ws C T N, w ∈ lw_ws) (ty0 : Nat → FieldType) (hty0 : ∀ k, k < N → parseFieldDescriptor (T k).2.2.1 = some (ty0 k)) (hnm : ∀ a, a < N → ∀ b, b < N → a ≠ b → (T a).2.1 ≠ (T b).2.1) (h0 : 0 < n) {a : Nat} (ha : ad 0 = a) {fs : List Value} (he : E 0 = .inr (ci, fs)) (hc : vwCl[ci]? = some (C, T, N)) (k : Nat) (hk : k < N) (hlink : Cond.fieldLink own index ref (T k).2.1 (T k).2.2.1 ∈ lw_ws) (hsame : (T k).1 = ref) (hfin : (T k).2.2.2 = true) (hdecl : (T k).1 = own) {ty : FieldType} (hd : parseFieldDescriptor (T k).2.2.1 = some ty) (hn : ∀ q, narrow ty (.ref q) = .ref q) (hfit : ∀ q, fits ty (.ref q) = true) (hl : k < fs.length)
    (d1 : decode b pc = .ok (.new ix, 3)) (d2 : decode b (pc + 3) = .ok (.dup, 1)) (d3 : decode b (pc + 4) = .ok (.invokespecial i2, 3)) (d4 : decode b (pc + 7) = .ok (.putfield index, 3))
    (kk : ∀ (q : Nat) (ad' : Nat → Nat) (E' : Nat → va_E) (H1 : Heap) (locs1 : List Loc), gw_P D tys A s H1 locs1 ad' (n + 1) E' → (∀ j, j < n → ad' j = ad j) → ad' n = q → (∀ j, 0 < j → j < n → E' j = E j) → E' n = .inr (ci1, f1) → E' 0 = .inr (ci, fs.set k (.ref q)) → W p l e R s m args below meth c H1 locs1 (cells + 1) (slots + N1) Q (F0 m (pc + 10) ls [])) :
    W p l e R s m args below meth c H locs cells slots Q (F0 m pc ls [.ref a]) := by
  have hx := F.1
  have hb := F.2.1
  refine gn_o F hg hin1 ty1 hty1 hcl hinst hini hc1 hf1 hcells hslots d1 (fun q H1 hg => ?_)
  refine lv_dup hx hb d2 rfl ?_
  refine gc_n F (hM q) hNw hcode hiy hiny hnmy hdy hR ⟨hcells, hslots⟩ hl9 (Nat.le_of_ble_eq_true rfl) d3 ?_
  refine gp_F (v := .ref q) (ty := ty) F hg hin2 hin ty0 hty0 hnm 0 (by omega) (by rw [va_up_ne _ _ (by omega)]; exact ha) (fs := fs) (by rw [va_up_ne _ _ (by omega)]; exact he) hc k hk hlink hsame hfin hdecl hd (hn q) (hfit q) hl d4 (fun H1 locs1 hg => ?_)
  exact kk q _ _ H1 locs1 hg (fun j hj => va_up_ne _ _ (by omega)) (va_up_self _ _ _) (fun j hj hn => by rw [va_up_ne _ _ (by omega), va_up_ne _ _ (by omega)]) (by rw [va_up_ne _ _ (by omega), va_up_self]) (va_up_self _ _ _)
end MQ9
def tm_0 : List Value := [.int 0, .int 0, .null, .null, .null, .null, .null, .null, .null, .int 0, .int 0, .int 0, .int 0, .int 0, .int 0]
def tm_1 (ad : Nat → Nat) (a1 a2 : Int32) : List Value := [.int (tm_c a1), .int (tm_c a2), .ref (ad 1), .ref (ad 32), .ref (ad 78), .ref (ad 79), .ref (ad 38), .ref (ad 80), .ref (ad 81), .int 0, .int 2, .int 0, .int 0, .int 0, .int 0]
def re_0 : List Value := [.int 0, .int 0]
/-- the cells of a new machine, in the order of their making -/
def tm_F (h0 : Nat) (a1 a2 : Int32) (ad : Nat → Nat) (E : Nat → va_E) (ca : Nat → ClassId) : Prop := ad 0 = h0 ∧ E 0 = .inr (4, tm_1 ad a1 a2) ∧ t_I 1 30 0 in_0 (ca 2) 30 ad E ∧ t_I 32 5 1 op_0 (ca 3) 5 ad E ∧ t_U (ca 4) 13 ad E ∧ E 78 = .inl (ca 0, 4, .inl (fun _ => 0)) ∧ E 79 = .inl (ca 6, 32, .inl (fun _ => 0)) ∧ E 80 = .inl (ca 1, 8, .inl (fun _ => 0)) ∧ E 81 = .inr (2, re_0)
abbrev tm_T (ca : Nat → ClassId) : List (ClassId × FieldType) := [(ca 2, .object nR_INS), (ca 3, .object nR_OPD), (ca 4, .object nR_UNI), (ca 0, .int), (ca 6, .int), (ca 1, .boolean)]
def tn_N (U : State) : Prop := va_Nw (.methodLinkNest nR_TM 31 nN_INS_init "TagMachine") U ∧ va_Nw (.methodLinkNest nR_TM 38 nN_OPD_init "TagMachine") U ∧ va_Nw (.methodLinkNest nR_TM 45 nN_UNI_init "TagMachine") U ∧ va_Nw (.methodLinkNest nR_TM 59 nN_REC_init "TagMachine") U ∧ va_Nw (.methodLinkNest nR_UNI 11 nN_OPD_init "TagMachine") U ∧ va_AO nR_INS U ∧ va_AO nR_OPD U ∧ va_AO nR_UNI U
abbrev tW_0 (h : Nat) : va_W := [(h, .inr (4, tm_0))]
def ct_T (l : Launch) (D : va_G) (h : Nat) (a1 a2 : Int32) : Prop := ∀ sz, Met l nN_TM_init (.code nN_TM_init nC_TM_init 4 none :: lw_ws) rm_N (va_Pc [.ref h, .int a1, .int a2] (fun U => U.heap.size = sz ∧ va_P D vwCl (tW_0 h) U.heap ∧ va_K D vwCl [] U ∧ va_D (fun _ => True) (tW_0 h) ∧ tn_N U))
  (va_Qv (fun u : (Nat → Nat) × (Nat → va_E) × (Nat → ClassId) => tm_F h a1 a2 u.1 u.2.1 u.2.2) (fun u t => va_P D vwCl (wl_W u.1 82 u.2.1) t.heap ∧ va_K D vwCl (tm_T u.2.2) t ∧ va_D (va_A (tW_0 h) sz) (wl_W u.1 82 u.2.1)) (va_A (tW_0 h) sz)) 81 423 (va_A (tW_0 h) sz)
set_option maxRecDepth 100000 in
set_option maxHeartbeats 8000000 in
theorem cT_TM (l : Launch) (D : va_G) (h : Nat) (a1 a2 : Int32) : ct_T l D h a1 a2 := by
  intro sz
  refine Met.ofW (cc := nC_TM_init) (maxL := 4) (ret := none) (by decide) rfl ?_
  intro p e s m args below meth c s₁ B hml hv
  obtain ⟨rfl, hsz, hP, hK, hD0, hN1, hN2, hN3, hN4, hN5, hO1, hO2, hO3⟩ := hv
  subst hsz
  have hts := atoms_spec (ws := .code nN_TM_init nC_TM_init 4 none :: lw_ws) B.pre
  have F : fx_F p s m [Value.ref h, .int a1, .int a2].toArray meth c nC_TM_init 4 none nR_TM := ⟨B.exec, B.bytes, hml, B.returns, B.notSynchronized, findClass_of_methodNamed B.named, fun w h => hts w (List.mem_cons_of_mem _ h)⟩
  have hin : meth.name = "<init>" := (name_of_methodNamed B.named B.method).1
  have hl := lv_entry ([Value.ref h, .int a1, .int a2]) (n := 4) (Nat.le_of_ble_eq_true rfl)
  rw [lg_entry_eq]
  generalize (lg_sl ([Value.ref h, .int a1, .int a2]) ++ List.replicate (4 - (lg_sl ([Value.ref h, .int a1, .int a2])).length) Slot.unset).toArray = ls at hl ⊢
  have hl : lv_has ls 4 [(0, .ref h), (1, .int a1), (2, .int a2)] := hl
  have hA : ∀ q : Nat, s.heap.size ≤ q → va_A (tW_0 h) s.heap.size q := fun q h => Or.inr h
  have hg : gw_P D [] (va_A (tW_0 h) s.heap.size) s s.heap [] (fun _ => h) 1 (fun _ => .inr (4, tm_0)) := ⟨hP, hD0.self, hK, va_S.rf, hA⟩
  obtain ⟨ad0, had0⟩ : ∃ z : Nat → Nat, z = fun _ => h := ⟨_, rfl⟩
  obtain ⟨E0, hE0⟩ : ∃ z : Nat → va_E, z = fun _ => .inr (4, tm_0) := ⟨_, rfl⟩
  rw [← had0, ← hE0] at hg
  have g0 : ad0 0 = h := by rw [had0]
  have e0 : E0 0 = .inr (4, [.int 0, .int 0, .null, .null, .null, .null, .null, .null, .null, .int 0, .int 0, .int 0, .int 0, .int 0, .int 0]) := by rw [hE0]; rfl
  clear had0 hE0
  have hx := F.1
  have hb := F.2.1
  refine lv_aload_n hx hb nD_TM_init_0 rfl (lv_at hl 0 rfl) ?_
  refine gi_o (R := rm_N) F hl wo_TM wo_i wo_c ⟨by decide, by decide⟩ nD_TM_init_1 ?_
  refine lv_aload_n hx hb nD_TM_init_4 rfl (lv_at hl 0 rfl) ?_
  refine lv_iconst (v := 1) hx hb nD_TM_init_5 (by decide) ?_
  refine lv_bipush (v := 8) hx hb nD_TM_init_6 (by decide) ?_
  refine lv_iload_n hx hb nD_TM_init_8 rfl (lv_at hl 1 rfl) ?_
  refine mt_min (R := rm_N) F hl ⟨by decide, Nat.le_of_ble_eq_true rfl⟩ (by decide) (by decide) nD_TM_init_9 ?_
  refine mt_max (R := rm_N) F hl ⟨by decide, Nat.le_of_ble_eq_true rfl⟩ (by decide) (by decide) nD_TM_init_12 ?_
  refine gp_Fx (R := rm_N) (v := .int (tm_c a1)) (ty := .int) (ref := nR_TM) (k0 := 0) F hg hin in_TM nY_TM nK_TM nM_TM (by decide) g0 e0 rfl 0 (by decide) wt_18 rfl rfl rfl (by decide +kernel) rfl rfl (Nat.le_of_ble_eq_true rfl) nD_TM_init_15 (fun E H locs hg gE e0 => ?_)
  have e0 : E 0 = .inr (4, [.int (tm_c a1), .int 0, .null, .null, .null, .null, .null, .null, .null, .int 0, .int 0, .int 0, .int 0, .int 0, .int 0]) := e0
  clear gE
  refine lv_aload_n hx hb nD_TM_init_18 rfl (lv_at hl 0 rfl) ?_
  refine lv_iconst (v := 1) hx hb nD_TM_init_19 (by decide) ?_
  refine lv_bipush (v := 8) hx hb nD_TM_init_20 (by decide) ?_
  refine lv_iload_n hx hb nD_TM_init_22 rfl (lv_at hl 2 rfl) ?_
  refine mt_min (R := rm_N) F hl ⟨by decide, Nat.le_of_ble_eq_true rfl⟩ (by decide) (by decide) nD_TM_init_23 ?_
  refine mt_max (R := rm_N) F hl ⟨by decide, Nat.le_of_ble_eq_true rfl⟩ (by decide) (by decide) nD_TM_init_26 ?_
  refine gp_Fx (R := rm_N) (v := .int (tm_c a2)) (ty := .int) (ref := nR_TM) (k0 := 0) F hg hin in_TM nY_TM nK_TM nM_TM (by decide) g0 e0 rfl 1 (by decide) wt_22 rfl rfl rfl (by decide +kernel) rfl rfl (Nat.le_of_ble_eq_true rfl) nD_TM_init_29 (fun E H locs hg gE e0 => ?_)
  have e0 : E 0 = .inr (4, [.int (tm_c a1), .int (tm_c a2), .null, .null, .null, .null, .null, .null, .null, .int 0, .int 0, .int 0, .int 0, .int 0, .int 0]) := e0
  clear gE
  refine lv_aload_n hx hb nD_TM_init_32 rfl (lv_at hl 0 rfl) ?_
  refine lv_bipush (v := 30) hx hb nD_TM_init_33 (by decide) ?_
  refine md_sq (R := rm_N) (ci := 4) (ref := nR_TM) F hg hin wk_l_TM_25 hO1 (by decide) rfl (by decide) (by decide) (by decide) in_TM nY_TM nK_TM nM_TM (by decide) g0 e0 rfl 2 (by decide) wt_27 rfl rfl rfl (by decide +kernel) (Nat.le_of_ble_eq_true rfl) nD_TM_init_35 nD_TM_init_38 (fun q1 cq1 ad E H locs hg ga gq gE gn e0 => ?_)
  have e0 : E 0 = .inr (4, [.int (tm_c a1), .int (tm_c a2), .ref q1, .null, .null, .null, .null, .null, .null, .int 0, .int 0, .int 0, .int 0, .int 0, .int 0]) := e0
  have g0 := (ga 0 (by decide)).trans g0
  refine W.cs (cells' := 1) (slots' := 30) rfl rfl ?_
  refine lv_iconst (v := 0) hx hb nD_TM_init_41 (by decide) ?_
  refine lv_istore_n (lv' := [(3, .int (nI 0)), (0, .ref h), (1, .int a1), (2, .int a2)]) hx hb nD_TM_init_42 rfl hl (by decide) rfl (fun ls hl => ?_)
  refine tl_1 (hp := q1) (cA := cq1) F hN1 rfl rfl (fun ad E H locs ls hg g0 k1 e0 hI1 hl => ?_) 30 0 rfl ad E H locs ls hg g0 gq e0 (t_I0 gn) hl
  refine lv_aload_n hx hb nD_TM_init_68 rfl (lv_at hl 0 rfl) ?_
  refine lv_iconst (v := 5) hx hb nD_TM_init_69 (by decide) ?_
  refine md_sq (R := rm_N) (ci := 4) (ref := nR_TM) F hg hin wk_l_TM_32 hO2 (by decide) rfl (by decide) (by decide) (by decide) in_TM nY_TM nK_TM nM_TM (by decide) g0 e0 rfl 3 (by decide) wt_34 rfl rfl rfl (by decide +kernel) (Nat.le_of_ble_eq_true rfl) nD_TM_init_70 nD_TM_init_73 (fun q2 cq2 ad E H locs hg ga gq gE gn e0 => ?_)
  have e0 : E 0 = .inr (4, [.int (tm_c a1), .int (tm_c a2), .ref q1, .ref q2, .null, .null, .null, .null, .null, .int 0, .int 0, .int 0, .int 0, .int 0, .int 0]) := e0
  have g0 := (ga 0 (by decide)).trans g0
  have k1 := (ga 1 (by decide)).trans k1
  have hI1 := t_Icg hI1 (fun j h1 h2 => ga j (by omega)) (fun j h1 h2 => gE j (by omega) (by omega))
  refine W.cs (cells' := 32) (slots' := 185) rfl rfl ?_
  refine lv_iconst (v := 0) hx hb nD_TM_init_76 (by decide) ?_
  refine lv_istore_n (lv' := [(3, .int (nI 0)), (0, .ref h), (1, .int a1), (2, .int a2)]) hx hb nD_TM_init_77 rfl hl (by decide) rfl (fun ls hl => ?_)
  refine tl_2 (hp := q2) (cA := cq2) F hN2 rfl rfl (fun ad E H locs ls hg g0 k2 e0 hI2 hI1 k1 hl => ?_) 5 0 rfl ad E H locs ls hg g0 gq e0 (t_I0 gn) hI1 k1 hl
  refine lv_aload_n hx hb nD_TM_init_102 rfl (lv_at hl 0 rfl) ?_
  refine lv_bipush (v := 13) hx hb nD_TM_init_103 (by decide) ?_
  refine md_sq (R := rm_N) (ci := 4) (ref := nR_TM) F hg hin wk_l_TM_39 hO3 (by decide) rfl (by decide) (by decide) (by decide) in_TM nY_TM nK_TM nM_TM (by decide) g0 e0 rfl 6 (by decide) wt_41 rfl rfl rfl (by decide +kernel) (Nat.le_of_ble_eq_true rfl) nD_TM_init_105 nD_TM_init_108 (fun q3 cq3 ad E H locs hg ga gq gE gn e0 => ?_)
  have e0 : E 0 = .inr (4, [.int (tm_c a1), .int (tm_c a2), .ref q1, .ref q2, .null, .null, .ref q3, .null, .null, .int 0, .int 0, .int 0, .int 0, .int 0, .int 0]) := e0
  have g0 := (ga 0 (by decide)).trans g0
  have k1 := (ga 1 (by decide)).trans k1
  have k2 := (ga 32 (by decide)).trans k2
  have hI1 := t_Icg hI1 (fun j h1 h2 => ga j (by omega)) (fun j h1 h2 => gE j (by omega) (by omega))
  have hI2 := t_Icg hI2 (fun j h1 h2 => ga j (by omega)) (fun j h1 h2 => gE j (by omega) (by omega))
  refine W.cs (cells' := 38) (slots' := 208) rfl rfl ?_
  refine lv_iconst (v := 0) hx hb nD_TM_init_111 (by decide) ?_
  refine lv_istore_n (lv' := [(3, .int (nI 0)), (0, .ref h), (1, .int a1), (2, .int a2)]) hx hb nD_TM_init_112 rfl hl (by decide) rfl (fun ls hl => ?_)
  refine tl_3 (hp := q3) (cA := cq3) F hN3 hN5 rfl rfl (fun ad E H locs ls hg g0 k3 e0 hU hI1 hI2 k1 k2 hl => ?_) 13 0 rfl ad E H locs ls hg g0 gq e0 (t_U0 gn) hI1 hI2 k1 k2 hl
  refine lv_aload_n hx hb nD_TM_init_138 rfl (lv_at hl 0 rfl) ?_
  refine lv_iconst (v := 4) hx hb nD_TM_init_139 (by decide) ?_
  refine md_st (R := rm_N) (ci := 4) (ref := nR_TM) (ty := .int) (a0 := (4, .inl (fun _ => (0 : Int32)))) F hg hin wk_a_int rfl (md_zi 4) (by decide) rfl (by decide) (by decide) (by decide) in_TM nY_TM nK_TM nM_TM (by decide) g0 e0 rfl 4 (by decide) wt_46 rfl rfl rfl (by decide +kernel) (Nat.le_of_ble_eq_true rfl) nD_TM_init_140 nD_TM_init_142 (fun q4 cq4 ad E H locs hg ga gq gE gn e0 => ?_)
  have e0 : E 0 = .inr (4, [.int (tm_c a1), .int (tm_c a2), .ref q1, .ref q2, .ref q4, .null, .ref q3, .null, .null, .int 0, .int 0, .int 0, .int 0, .int 0, .int 0]) := e0
  have g0 := (ga 0 (by decide)).trans g0
  have k1 := (ga 1 (by decide)).trans k1
  have k2 := (ga 32 (by decide)).trans k2
  have k3 := (ga 38 (by decide)).trans k3
  have hI1 := t_Icg hI1 (fun j h1 h2 => ga j (by omega)) (fun j h1 h2 => gE j (by omega) (by omega))
  have hI2 := t_Icg hI2 (fun j h1 h2 => ga j (by omega)) (fun j h1 h2 => gE j (by omega) (by omega))
  have hU := t_Ucg hU (fun j h1 h2 => ga j (by omega)) (fun j h1 h2 => gE j (by omega) (by omega))
  have k4 := gq
  have n4 := gn
  refine W.cs (cells' := 78) (slots' := 381) rfl rfl ?_
  refine lv_aload_n hx hb nD_TM_init_145 rfl (lv_at hl 0 rfl) ?_
  refine lv_bipush (v := 32) hx hb nD_TM_init_146 (by decide) ?_
  refine md_st (R := rm_N) (ci := 4) (ref := nR_TM) (ty := .int) (a0 := (32, .inl (fun _ => (0 : Int32)))) F hg hin wk_a_int rfl (md_zi 32) (by decide) rfl (by decide) (by decide) (by decide) in_TM nY_TM nK_TM nM_TM (by decide) g0 e0 rfl 5 (by decide) wt_50 rfl rfl rfl (by decide +kernel) (Nat.le_of_ble_eq_true rfl) nD_TM_init_148 nD_TM_init_150 (fun q5 cq5 ad E H locs hg ga gq gE gn e0 => ?_)
  have e0 : E 0 = .inr (4, [.int (tm_c a1), .int (tm_c a2), .ref q1, .ref q2, .ref q4, .ref q5, .ref q3, .null, .null, .int 0, .int 0, .int 0, .int 0, .int 0, .int 0]) := e0
  have g0 := (ga 0 (by decide)).trans g0
  have k1 := (ga 1 (by decide)).trans k1
  have k2 := (ga 32 (by decide)).trans k2
  have k3 := (ga 38 (by decide)).trans k3
  have hI1 := t_Icg hI1 (fun j h1 h2 => ga j (by omega)) (fun j h1 h2 => gE j (by omega) (by omega))
  have hI2 := t_Icg hI2 (fun j h1 h2 => ga j (by omega)) (fun j h1 h2 => gE j (by omega) (by omega))
  have hU := t_Ucg hU (fun j h1 h2 => ga j (by omega)) (fun j h1 h2 => gE j (by omega) (by omega))
  have k4 := (ga 78 (by decide)).trans k4
  have n4 := (gE 78 (by decide) (by decide)).trans n4
  have k5 := gq
  have n5 := gn
  refine W.cs (cells' := 79) (slots' := 413) rfl rfl ?_
  refine lv_aload_n hx hb nD_TM_init_153 rfl (lv_at hl 0 rfl) ?_
  refine lv_bipush (v := 8) hx hb nD_TM_init_154 (by decide) ?_
  refine md_st (R := rm_N) (ci := 4) (ref := nR_TM) (ty := .boolean) (a0 := (8, .inl (fun _ => (0 : Int32)))) F hg hin wk_a_boolean rfl (md_zz 8) (by decide) rfl (by decide) (by decide) (by decide) in_TM nY_TM nK_TM nM_TM (by decide) g0 e0 rfl 7 (by decide) wt_53 rfl rfl rfl (by decide +kernel) (Nat.le_of_ble_eq_true rfl) nD_TM_init_156 nD_TM_init_158 (fun q6 cq6 ad E H locs hg ga gq gE gn e0 => ?_)
  have e0 : E 0 = .inr (4, [.int (tm_c a1), .int (tm_c a2), .ref q1, .ref q2, .ref q4, .ref q5, .ref q3, .ref q6, .null, .int 0, .int 0, .int 0, .int 0, .int 0, .int 0]) := e0
  have g0 := (ga 0 (by decide)).trans g0
  have k1 := (ga 1 (by decide)).trans k1
  have k2 := (ga 32 (by decide)).trans k2
  have k3 := (ga 38 (by decide)).trans k3
  have hI1 := t_Icg hI1 (fun j h1 h2 => ga j (by omega)) (fun j h1 h2 => gE j (by omega) (by omega))
  have hI2 := t_Icg hI2 (fun j h1 h2 => ga j (by omega)) (fun j h1 h2 => gE j (by omega) (by omega))
  have hU := t_Ucg hU (fun j h1 h2 => ga j (by omega)) (fun j h1 h2 => gE j (by omega) (by omega))
  have k4 := (ga 78 (by decide)).trans k4
  have n4 := (gE 78 (by decide) (by decide)).trans n4
  have k5 := (ga 79 (by decide)).trans k5
  have n5 := (gE 79 (by decide) (by decide)).trans n5
  have k6 := gq
  have n6 := gn
  refine W.cs (cells' := 80) (slots' := 421) rfl rfl ?_
  refine lv_aload_n hx hb nD_TM_init_161 rfl (lv_at hl 0 rfl) ?_
  refine md_so (R := rm_N) (ci := 4) (ci1 := 2) (f1 := re_0) (ref := nR_TM) (ty := .object "TagMachine$Reckoner") F hg hin in_REC nY_REC nK_REC wk_l_TM_57 wk_REC_n wk_REC_i rfl (fun j hj => by rcases (show j = 0 ∨ j = 1 by omega) with rfl | rfl <;> rfl) (by decide) (by decide) (cn_REC l) hN4 wk_REC_c wk_REC_i wk_REC_m rfl hd_REC_init ⟨by decide, by decide⟩ hl in_TM nY_TM nK_TM nM_TM (by decide) g0 e0 rfl 8 (by decide) wt_60 rfl rfl rfl (by decide +kernel) (fun _ => rfl) (fun _ => rfl) (Nat.le_of_ble_eq_true rfl) nD_TM_init_162 nD_TM_init_165 nD_TM_init_166 nD_TM_init_169 (fun q7 ad E H locs hg ga gq gE gn e0 => ?_)
  have e0 : E 0 = .inr (4, [.int (tm_c a1), .int (tm_c a2), .ref q1, .ref q2, .ref q4, .ref q5, .ref q3, .ref q6, .ref q7, .int 0, .int 0, .int 0, .int 0, .int 0, .int 0]) := e0
  have g0 := (ga 0 (by decide)).trans g0
  have k1 := (ga 1 (by decide)).trans k1
  have k2 := (ga 32 (by decide)).trans k2
  have k3 := (ga 38 (by decide)).trans k3
  have hI1 := t_Icg hI1 (fun j h1 h2 => ga j (by omega)) (fun j h1 h2 => gE j (by omega) (by omega))
  have hI2 := t_Icg hI2 (fun j h1 h2 => ga j (by omega)) (fun j h1 h2 => gE j (by omega) (by omega))
  have hU := t_Ucg hU (fun j h1 h2 => ga j (by omega)) (fun j h1 h2 => gE j (by omega) (by omega))
  have k4 := (ga 78 (by decide)).trans k4
  have n4 := (gE 78 (by decide) (by decide)).trans n4
  have k5 := (ga 79 (by decide)).trans k5
  have n5 := (gE 79 (by decide) (by decide)).trans n5
  have k6 := (ga 80 (by decide)).trans k6
  have n6 := (gE 80 (by decide) (by decide)).trans n6
  have k7 := gq
  have n7 := gn
  clear ga gq gE gn
  refine W.cs (cells' := 81) (slots' := 423) rfl rfl ?_
  refine lv_aload_n hx hb nD_TM_init_172 rfl (lv_at hl 0 rfl) ?_
  refine lv_iconst (v := 2) hx hb nD_TM_init_173 (by decide) ?_
  refine gp_ix (R := rm_N) (v := .int 2) (ty := .int) (ref := nR_TM) (k0 := 0) F hg in_TM nY_TM nK_TM nM_TM (by decide) g0 e0 rfl 10 (by decide) wt_64 rfl rfl (by decide +kernel) rfl rfl (Nat.le_of_ble_eq_true rfl) nD_TM_init_174 (fun E H locs hg gE e0 => ?_)
  have e0 : E 0 = .inr (4, [.int (tm_c a1), .int (tm_c a2), .ref q1, .ref q2, .ref q4, .ref q5, .ref q3, .ref q6, .ref q7, .int 0, .int 2, .int 0, .int 0, .int 0, .int 0]) := e0
  have hI1 := t_Icg hI1 (ad' := ad) (fun j h1 h2 => rfl) (fun j h1 h2 => gE j (by omega))
  have hI2 := t_Icg hI2 (ad' := ad) (fun j h1 h2 => rfl) (fun j h1 h2 => gE j (by omega))
  have hU := t_Ucg hU (ad' := ad) (fun j h1 h2 => rfl) (fun j h1 h2 => gE j (by omega))
  have n4 := (gE 78 (by decide)).trans n4
  have n5 := (gE 79 (by decide)).trans n5
  have n6 := (gE 80 (by decide)).trans n6
  have n7 := (gE 81 (by decide)).trans n7
  subst k1
  subst k2
  subst k3
  subst k4
  subst k5
  subst k6
  subst k7
  obtain ⟨hP, hD, hK, hS, hA⟩ := hg
  have hK : va_K D vwCl (tm_T (fun k => if k = 2 then cq1 else if k = 3 then cq2 else if k = 4 then cq3 else if k = 0 then cq4 else if k = 6 then cq5 else cq6)) s := hK
  exact W.vret hx hb F.2.2.2.1 (fun t ht hW => ⟨⟨(ad, E, (fun k => if k = 2 then cq1 else if k = 3 then cq2 else if k = 4 then cq3 else if k = 0 then cq4 else if k = 6 then cq5 else cq6)), rfl, ⟨g0, e0, hI1, hI2, hU, n4, n5, n6, n7⟩, by rw [ht]; exact hP, va_K.moved hW.alike hK, hD⟩, hS.F ht⟩) hS.2.2 nD_TM_init_177 F.2.2.2.2.1
