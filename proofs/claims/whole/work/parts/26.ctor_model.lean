theorem wf_7 : Cond.fieldLink nR_MOD 7 nR_MOD "op" "[I" ∈ lw_ws := lw_m (i := 590) (by decide +kernel) (by decide +kernel)
theorem wf_13 : Cond.fieldLink nR_MOD 13 nR_MOD "rs" "[I" ∈ lw_ws := lw_m (i := 591) (by decide +kernel) (by decide +kernel)
theorem wf_16 : Cond.fieldLink nR_MOD 16 nR_MOD "ss" "[I" ∈ lw_ws := lw_m (i := 592) (by decide +kernel) (by decide +kernel)
theorem wf_19 : Cond.fieldLink nR_MOD 19 nR_MOD "bs" "[I" ∈ lw_ws := lw_m (i := 593) (by decide +kernel) (by decide +kernel)
theorem wf_22 : Cond.fieldLink nR_MOD 22 nR_MOD "ns" "[I" ∈ lw_ws := lw_m (i := 594) (by decide +kernel) (by decide +kernel)
theorem wf_25 : Cond.fieldLink nR_MOD 25 nR_MOD "state" "I" ∈ lw_ws := lw_m (i := 595) (by decide +kernel) (by decide +kernel)
theorem wf_29 : Cond.fieldLink nR_MOD 29 nR_MOD "value" "[I" ∈ lw_ws := lw_m (i := 600) (by decide +kernel) (by decide +kernel)
theorem wf_32 : Cond.fieldLink nR_MOD 32 nR_MOD "waits" "[I" ∈ lw_ws := lw_m (i := 601) (by decide +kernel) (by decide +kernel)
theorem wf_35 : Cond.fieldLink nR_MOD 35 nR_MOD "general" "[I" ∈ lw_ws := lw_m (i := 602) (by decide +kernel) (by decide +kernel)
theorem wf_38 : Cond.fieldLink nR_MOD 38 nR_MOD "words" "[I" ∈ lw_ws := lw_m (i := 603) (by decide +kernel) (by decide +kernel)
theorem wf_41 : Cond.fieldLink nR_MOD 41 nR_MOD "place" "[I" ∈ lw_ws := lw_m (i := 604) (by decide +kernel) (by decide +kernel)
theorem wf_44 : Cond.fieldLink nR_MOD 44 nR_MOD "what" "[I" ∈ lw_ws := lw_m (i := 605) (by decide +kernel) (by decide +kernel)
theorem wf_47 : Cond.fieldLink nR_MOD 47 nR_MOD "left" "[I" ∈ lw_ws := lw_m (i := 606) (by decide +kernel) (by decide +kernel)
theorem wf_50 : Cond.fieldLink nR_MOD 50 nR_MOD "gives" "[I" ∈ lw_ws := lw_m (i := 607) (by decide +kernel) (by decide +kernel)
theorem wf_53 : Cond.fieldLink nR_MOD 53 nR_MOD "notes" "[I" ∈ lw_ws := lw_m (i := 608) (by decide +kernel) (by decide +kernel)
theorem wf_56 : Cond.fieldLink nR_MOD 56 nR_MOD "operand" "[I" ∈ lw_ws := lw_m (i := 609) (by decide +kernel) (by decide +kernel)
theorem wf_59 : Cond.fieldLink nR_MOD 59 nR_MOD "tag" "[I" ∈ lw_ws := lw_m (i := 610) (by decide +kernel) (by decide +kernel)
theorem wf_62 : Cond.fieldLink nR_MOD 62 nR_MOD "where" "[I" ∈ lw_ws := lw_m (i := 611) (by decide +kernel) (by decide +kernel)
theorem wf_65 : Cond.fieldLink nR_MOD 65 nR_MOD "order" "[I" ∈ lw_ws := lw_m (i := 612) (by decide +kernel) (by decide +kernel)
theorem wf_68 : Cond.fieldLink nR_MOD 68 nR_MOD "taken" "[Z" ∈ lw_ws := lw_m (i := 613) (by decide +kernel) (by decide +kernel)
theorem wf_72 : Cond.fieldLink nR_MOD 72 nR_MOD "banks" "I" ∈ lw_ws := lw_m (i := 586) (by decide +kernel) (by decide +kernel)
theorem wf_75 : Cond.fieldLink nR_MOD 75 nR_MOD "latency" "I" ∈ lw_ws := lw_m (i := 587) (by decide +kernel) (by decide +kernel)
def md_0 : List Value := [.int 0, .int 0, .int 0, .int 0, .null, .null, .null, .null, .null, .int 0, .int 0, .int 0, .int 0, .int 0, .null, .null, .null, .null, .null, .null, .null, .null, .null, .null, .null, .null, .null, .null, .int 0, .long 0]
def md_1 (ad : Nat → Nat) (bk lt : Int32) : List Value := [.int bk, .int lt, .int 0, .int 0, .ref (ad 1), .ref (ad 2), .ref (ad 3), .ref (ad 4), .ref (ad 5), .int 2, .int 0, .int 0, .int 0, .int 0, .ref (ad 6), .ref (ad 7), .ref (ad 8), .ref (ad 9), .ref (ad 10), .ref (ad 11), .ref (ad 12), .ref (ad 13), .ref (ad 14), .ref (ad 15), .ref (ad 16), .ref (ad 17), .ref (ad 18), .ref (ad 19), .int 0, .long 0]
def md_N : List Nat := [0, 30, 30, 30, 30, 30, 5, 5, 4, 32, 13, 13, 13, 13, 13, 26, 26, 13, 13, 8]
def md_E (ad : Nat → Nat) (ca : Nat → ClassId) (bk lt : Int32) (k : Nat) : va_E := if k = 0 then .inr (5, md_1 ad bk lt) else .inl (ca k, md_N.getD k 0, .inl (fun _ => 0))
def md_c (w : Int32) : Int32 := if 1 ≤ w then (if w ≤ 8 then w else 8) else 1
abbrev md_T (ca : Nat → ClassId) : List (ClassId × FieldType) := [(ca 1, .int), (ca 2, .int), (ca 3, .int), (ca 4, .int), (ca 5, .int), (ca 6, .int), (ca 7, .int), (ca 8, .int), (ca 9, .int), (ca 10, .int), (ca 11, .int), (ca 12, .int), (ca 13, .int), (ca 14, .int), (ca 15, .int), (ca 16, .int), (ca 17, .int), (ca 18, .int), (ca 19, .boolean)]
def rm_M : Room := { frames := 1, cells := 19, slots := 347, locals := 12 }
abbrev mW_0 (h : Nat) : va_W := [(h, .inr (5, md_0))]
def ct_m (l : Launch) (D : va_G) (h : Nat) (a1 a2 : Int32) : Prop := ∀ sz, Met l nN_MOD_init (.code nN_MOD_init nC_MOD_init 3 none :: lw_ws) rm_M (va_Pc [.ref h, .int a1, .int a2] (fun U => U.heap.size = sz ∧ va_P D vwCl (mW_0 h) U.heap ∧ va_K D vwCl [] U ∧ va_D (fun _ => True) (mW_0 h)))
  (va_Qv (fun u : (Nat → Nat) × (Nat → ClassId) => u.1 0 = h) (fun u t => va_P D vwCl (wl_W u.1 20 (md_E u.1 u.2 (md_c a1) (md_c a2))) t.heap ∧ va_K D vwCl (md_T u.2) t ∧ va_D (va_A (mW_0 h) sz) (wl_W u.1 20 (md_E u.1 u.2 (md_c a1) (md_c a2)))) (va_A (mW_0 h) sz)) 19 347 (va_A (mW_0 h) sz)
theorem md_zi (N : Nat) (cA : ClassId) : vp_cell cA (N, .inl (fun _ => (0 : Int32))) = arrV cA N (fun _ => defaultValue .int) := rfl
theorem md_zz (N : Nat) (cA : ClassId) : vp_cell cA (N, .inl (fun _ => (0 : Int32))) = arrV cA N (fun _ => defaultValue .boolean) := rfl
theorem md_zl (N : Nat) (cA : ClassId) : vp_cell cA (N, .inr (.inl (fun _ => (0 : Int64)))) = arrV cA N (fun _ => defaultValue .long) := rfl
theorem wl_cg {ad : Nat → Nat} {n : Nat} {E E' : Nat → va_E} (h : ∀ j, j < n → E j = E' j) : wl_W ad n E = wl_W ad n E' := by
  unfold wl_W
  apply List.map_congr_left
  intro i hi
  rw [h i (List.mem_range.mp hi)]
section GX
variable {p : Program} {l : Launch} {e : Env} {R : Room} {s : State} {m : MethodId} {args : Array Value} {below : List Frame} {meth : Method} {c : Code} {H : Heap} {locs : List Loc} {cells slots : Nat} {Q : State → Prop} {b : ByteArray} {nL : Nat} {ret0 : Option FieldType} {own : String} {pc : Nat} {ls : Array Slot} {rest : List Value} {D : va_G} {tys : List (ClassId × FieldType)} {A : Nat → Prop} {ad : Nat → Nat} {n : Nat} {E : Nat → va_E}
theorem gp_Fx (F : fx_F p s m args meth c b nL ret0 own) (hg : gw_P D tys A s H locs ad n E) (hin2 : meth.name = "<init>") {C ref : String} {T : u_T} {N ci index : Nat} (hin : ∀ w ∈ u_ws C T N, w ∈ lw_ws) (ty0 : Nat → FieldType) (hty : ∀ k, k < N → parseFieldDescriptor (T k).2.2.1 = some (ty0 k)) (hnm : ∀ a, a < N → ∀ b, b < N → a ≠ b → (T a).2.1 ≠ (T b).2.1) (k0 : Nat) (hk0 : k0 < n) {a : Nat} (ha : ad k0 = a) {fs : List Value} (he : E k0 = .inr (ci, fs)) (hc : vwCl[ci]? = some (C, T, N)) (k : Nat) (hk : k < N) (hlink : Cond.fieldLink own index ref (T k).2.1 (T k).2.2.1 ∈ lw_ws) (hsame : (T k).1 = ref) (hfin : (T k).2.2.2 = true) (hdecl : (T k).1 = own) {ty : FieldType} {v : Value} (hd : parseFieldDescriptor (T k).2.2.1 = some ty) (hn : narrow ty v = v) (hfit : fits ty v = true) (hl : k < fs.length) (hdg : decode b pc = .ok (.putfield index, 3))
    (kk : ∀ (E' : Nat → va_E) (H1 : Heap) (locs1 : List Loc), gw_P D tys A s H1 locs1 ad n E' → (∀ j, j ≠ k0 → E' j = E j) → E' k0 = .inr (ci, fs.set k v) → W p l e R s m args below meth c H1 locs1 cells slots Q (F0 m (pc + 3) ls rest)) : W p l e R s m args below meth c H locs cells slots Q (F0 m pc ls (v :: .ref a :: rest)) :=
  gp_F F hg hin2 hin ty0 hty hnm k0 hk0 ha he hc k hk hlink hsame hfin hdecl hd hn hfit hl hdg (fun H1 locs1 hg => kk _ H1 locs1 hg (fun j hj => va_up_ne _ _ hj) (va_up_self _ _ _))
theorem gp_ix (F : fx_F p s m args meth c b nL ret0 own) (hg : gw_P D tys A s H locs ad n E) {C ref : String} {T : u_T} {N ci index : Nat} (hin : ∀ w ∈ u_ws C T N, w ∈ lw_ws) (ty0 : Nat → FieldType) (hty : ∀ k, k < N → parseFieldDescriptor (T k).2.2.1 = some (ty0 k)) (hnm : ∀ a, a < N → ∀ b, b < N → a ≠ b → (T a).2.1 ≠ (T b).2.1) (k0 : Nat) (hk0 : k0 < n) {a : Nat} (ha : ad k0 = a) {fs : List Value} (he : E k0 = .inr (ci, fs)) (hc : vwCl[ci]? = some (C, T, N)) (k : Nat) (hk : k < N) (hlink : Cond.fieldLink own index ref (T k).2.1 (T k).2.2.1 ∈ lw_ws) (hsame : (T k).1 = ref) (hfin : (T k).2.2.2 = false) {ty : FieldType} {v : Value} (hd : parseFieldDescriptor (T k).2.2.1 = some ty) (hn : narrow ty v = v) (hfit : fits ty v = true) (hl : k < fs.length) (hdg : decode b pc = .ok (.putfield index, 3))
    (kk : ∀ (E' : Nat → va_E) (H1 : Heap) (locs1 : List Loc), gw_P D tys A s H1 locs1 ad n E' → (∀ j, j ≠ k0 → E' j = E j) → E' k0 = .inr (ci, fs.set k v) → W p l e R s m args below meth c H1 locs1 cells slots Q (F0 m (pc + 3) ls rest)) : W p l e R s m args below meth c H locs cells slots Q (F0 m pc ls (v :: .ref a :: rest)) :=
  gp_i F hg hin ty0 hty hnm k0 hk0 ha he hc k hk hlink hsame hfin hd hn hfit hl hdg (fun H1 locs1 hg => kk _ H1 locs1 hg (fun j hj => va_up_ne _ _ hj) (va_up_self _ _ _))
end GX
section MD
variable {p : Program} {l : Launch} {e : Env} {R : Room} {s : State} {m : MethodId} {args : Array Value} {below : List Frame} {meth : Method} {c : Code} {H : Heap} {locs : List Loc} {cells slots : Nat} {Q : State → Prop} {b : ByteArray} {nL : Nat} {ret0 : Option FieldType} {own : String} {pc : Nat} {ls : Array Slot} {rest : List Value} {D : va_G} {tys : List (ClassId × FieldType)} {A : Nat → Prop} {ad : Nat → Nat} {n : Nat} {E : Nat → va_E}
/-- a new array, and the reference to it into a final field of the cell 0 -/
theorem md_st (F : fx_F p s m args meth c b nL ret0 own) (hg : gw_P D tys A s H locs ad n E) (hin2 : meth.name = "<init>") {atype : ArrayType} {ty : FieldType} (harr : Cond.arrayClass ty ∈ lw_ws) (hty : newarray.typeOf atype = ty) {w : Int32} {N0 : Nat} {a0 : vp_A} (hz : ∀ cA : ClassId, vp_cell cA a0 = arrV cA N0 (fun _ => defaultValue ty)) (hn : ¬ w < 0) (hN : w.toNatClampNeg = N0) (hbytes : N0 * componentBytes ty ≤ 536870912) (hcells : cells + 1 ≤ R.cells) (hslots : slots + N0 ≤ R.slots)
    {C ref : String} {T : u_T} {N ci index : Nat} (hin : ∀ w ∈ u_ws C T N, w ∈ lw_ws) (ty0 : Nat → FieldType) (hty0 : ∀ k, k < N → parseFieldDescriptor (T k).2.2.1 = some (ty0 k)) (hnm : ∀ a, a < N → ∀ b, b < N → a ≠ b → (T a).2.1 ≠ (T b).2.1) (h0 : 0 < n) {a : Nat} (ha : ad 0 = a) {fs : List Value} (he : E 0 = .inr (ci, fs)) (hc : vwCl[ci]? = some (C, T, N)) (k : Nat) (hk : k < N) (hlink : Cond.fieldLink own index ref (T k).2.1 (T k).2.2.1 ∈ lw_ws) (hsame : (T k).1 = ref) (hfin : (T k).2.2.2 = true) (hdecl : (T k).1 = own) (hd : parseFieldDescriptor (T k).2.2.1 = some (.array ty)) (hl : k < fs.length)
    (d1 : decode b pc = .ok (.newarray atype, 2)) (d2 : decode b (pc + 2) = .ok (.putfield index, 3))
    (kk : ∀ (q : Nat) (cA : ClassId) (ad' : Nat → Nat) (E' : Nat → va_E) (H1 : Heap) (locs1 : List Loc), gw_P D (tys ++ [(cA, ty)]) A s H1 locs1 ad' (n + 1) E' → (∀ j, j < n → ad' j = ad j) → ad' n = q → (∀ j, 0 < j → j < n → E' j = E j) → E' n = .inl (cA, a0) → E' 0 = .inr (ci, fs.set k (.ref q)) → W p l e R s m args below meth c H1 locs1 (cells + 1) (slots + N0) Q (F0 m (pc + 5) ls rest)) :
    W p l e R s m args below meth c H locs cells slots Q (F0 m pc ls (.int w :: .ref a :: rest)) := by
  refine gn_a F hg harr hty hz hn hN hbytes hcells hslots d1 (fun q cA H1 hg => ?_)
  refine gp_F (v := .ref q) (ty := .array ty) F hg hin2 hin ty0 hty0 hnm 0 (by omega) (by rw [va_up_ne _ _ (by omega)]; exact ha) (fs := fs) (by rw [va_up_ne _ _ (by omega)]; exact he) hc k hk hlink hsame hfin hdecl hd rfl rfl hl d2 (fun H1 locs1 hg => ?_)
  exact kk q cA _ _ H1 locs1 hg (fun j hj => va_up_ne _ _ (by omega)) (va_up_self _ _ _) (fun j hj hn => by rw [va_up_ne _ _ (by omega), va_up_ne _ _ (by omega)]) (by rw [va_up_ne _ _ (by omega), va_up_self]) (va_up_self _ _ _)
end MD
set_option maxRecDepth 100000 in
set_option maxHeartbeats 8000000 in
theorem cm_MOD (l : Launch) (D : va_G) (h : Nat) (a1 a2 : Int32) : ct_m l D h a1 a2 := by
  intro sz
  refine Met.ofW (cc := nC_MOD_init) (maxL := 3) (ret := none) (by decide) rfl ?_
  intro p e s m args below meth c s₁ B hml hv
  obtain ⟨rfl, hsz, hP, hK, hD0⟩ := hv
  subst hsz
  have hts := atoms_spec (ws := .code nN_MOD_init nC_MOD_init 3 none :: lw_ws) B.pre
  have F : fx_F p s m [Value.ref h, .int a1, .int a2].toArray meth c nC_MOD_init 3 none nR_MOD := ⟨B.exec, B.bytes, hml, B.returns, B.notSynchronized, findClass_of_methodNamed B.named, fun w h => hts w (List.mem_cons_of_mem _ h)⟩
  have hin : meth.name = "<init>" := (name_of_methodNamed B.named B.method).1
  have hl := lv_entry ([Value.ref h, .int a1, .int a2]) (n := 3) (Nat.le_of_ble_eq_true rfl)
  rw [lg_entry_eq]
  generalize (lg_sl ([Value.ref h, .int a1, .int a2]) ++ List.replicate (3 - (lg_sl ([Value.ref h, .int a1, .int a2])).length) Slot.unset).toArray = ls at hl ⊢
  have hl : lv_has ls 3 [(0, .ref h), (1, .int a1), (2, .int a2)] := hl
  have hA : ∀ q : Nat, s.heap.size ≤ q → va_A (mW_0 h) s.heap.size q := fun q h => Or.inr h
  have hg : gw_P D [] (va_A (mW_0 h) s.heap.size) s s.heap [] (fun _ => h) 1 (fun _ => .inr (5, md_0)) := ⟨hP, hD0.self, hK, va_S.rf, hA⟩
  obtain ⟨ad0, had0⟩ : ∃ z : Nat → Nat, z = fun _ => h := ⟨_, rfl⟩
  obtain ⟨E0, hE0⟩ : ∃ z : Nat → va_E, z = fun _ => .inr (5, md_0) := ⟨_, rfl⟩
  rw [← had0, ← hE0] at hg
  have a0 : ad0 0 = h := by rw [had0]
  have e0 : E0 0 = .inr (5, [.int 0, .int 0, .int 0, .int 0, .null, .null, .null, .null, .null, .int 0, .int 0, .int 0, .int 0, .int 0, .null, .null, .null, .null, .null, .null, .null, .null, .null, .null, .null, .null, .null, .null, .int 0, .long 0]) := by rw [hE0]; rfl
  clear had0 hE0
  have hx := F.1
  have hb := F.2.1
  refine lv_aload_n hx hb nD_MOD_init_0 rfl (lv_at hl 0 rfl) ?_
  refine gi_o (R := rm_M) F hl wo_MOD wo_i wo_c ⟨by decide, by decide⟩ nD_MOD_init_1 ?_
  refine lv_aload_n hx hb nD_MOD_init_4 rfl (lv_at hl 0 rfl) ?_
  refine lv_bipush (v := 30) hx hb nD_MOD_init_5 (by decide) ?_
  refine md_st (R := rm_M) (ci := 5) (ref := nR_MOD) (ty := .int) (a0 := (30, .inl (fun _ => (0 : Int32)))) F hg hin wk_a_int rfl (md_zi 30) (by decide) rfl (by decide) (by decide) (by decide) in_MOD nY_MOD nK_MOD nM_MOD (by decide) a0 e0 rfl 4 (by decide) wf_7 rfl rfl rfl (by decide +kernel) (Nat.le_of_ble_eq_true rfl) nD_MOD_init_7 nD_MOD_init_9 (fun q1 c1 ad E H locs hg ga gq gE gn g0 => ?_)
  have a0 := (ga 0 (by decide)).trans a0
  have a1q := gq
  have e1 := gn
  have e0 : E 0 = .inr (5, [.int 0, .int 0, .int 0, .int 0, .ref q1, .null, .null, .null, .null, .int 0, .int 0, .int 0, .int 0, .int 0, .null, .null, .null, .null, .null, .null, .null, .null, .null, .null, .null, .null, .null, .null, .int 0, .long 0]) := g0
  clear ga gq gE gn g0
  refine W.cs (cells' := 1) (slots' := 30) rfl rfl ?_
  refine lv_aload_n hx hb nD_MOD_init_12 rfl (lv_at hl 0 rfl) ?_
  refine lv_bipush (v := 30) hx hb nD_MOD_init_13 (by decide) ?_
  refine md_st (R := rm_M) (ci := 5) (ref := nR_MOD) (ty := .int) (a0 := (30, .inl (fun _ => (0 : Int32)))) F hg hin wk_a_int rfl (md_zi 30) (by decide) rfl (by decide) (by decide) (by decide) in_MOD nY_MOD nK_MOD nM_MOD (by decide) a0 e0 rfl 5 (by decide) wf_13 rfl rfl rfl (by decide +kernel) (Nat.le_of_ble_eq_true rfl) nD_MOD_init_15 nD_MOD_init_17 (fun q2 c2 ad E H locs hg ga gq gE gn g0 => ?_)
  have a0 := (ga 0 (by decide)).trans a0
  have a1q := (ga 1 (by decide)).trans a1q
  have e1 := (gE 1 (by decide) (by decide)).trans e1
  have a2q := gq
  have e2 := gn
  have e0 : E 0 = .inr (5, [.int 0, .int 0, .int 0, .int 0, .ref q1, .ref q2, .null, .null, .null, .int 0, .int 0, .int 0, .int 0, .int 0, .null, .null, .null, .null, .null, .null, .null, .null, .null, .null, .null, .null, .null, .null, .int 0, .long 0]) := g0
  clear ga gq gE gn g0
  refine W.cs (cells' := 2) (slots' := 60) rfl rfl ?_
  refine lv_aload_n hx hb nD_MOD_init_20 rfl (lv_at hl 0 rfl) ?_
  refine lv_bipush (v := 30) hx hb nD_MOD_init_21 (by decide) ?_
  refine md_st (R := rm_M) (ci := 5) (ref := nR_MOD) (ty := .int) (a0 := (30, .inl (fun _ => (0 : Int32)))) F hg hin wk_a_int rfl (md_zi 30) (by decide) rfl (by decide) (by decide) (by decide) in_MOD nY_MOD nK_MOD nM_MOD (by decide) a0 e0 rfl 6 (by decide) wf_16 rfl rfl rfl (by decide +kernel) (Nat.le_of_ble_eq_true rfl) nD_MOD_init_23 nD_MOD_init_25 (fun q3 c3 ad E H locs hg ga gq gE gn g0 => ?_)
  have a0 := (ga 0 (by decide)).trans a0
  have a1q := (ga 1 (by decide)).trans a1q
  have e1 := (gE 1 (by decide) (by decide)).trans e1
  have a2q := (ga 2 (by decide)).trans a2q
  have e2 := (gE 2 (by decide) (by decide)).trans e2
  have a3q := gq
  have e3 := gn
  have e0 : E 0 = .inr (5, [.int 0, .int 0, .int 0, .int 0, .ref q1, .ref q2, .ref q3, .null, .null, .int 0, .int 0, .int 0, .int 0, .int 0, .null, .null, .null, .null, .null, .null, .null, .null, .null, .null, .null, .null, .null, .null, .int 0, .long 0]) := g0
  clear ga gq gE gn g0
  refine W.cs (cells' := 3) (slots' := 90) rfl rfl ?_
  refine lv_aload_n hx hb nD_MOD_init_28 rfl (lv_at hl 0 rfl) ?_
  refine lv_bipush (v := 30) hx hb nD_MOD_init_29 (by decide) ?_
  refine md_st (R := rm_M) (ci := 5) (ref := nR_MOD) (ty := .int) (a0 := (30, .inl (fun _ => (0 : Int32)))) F hg hin wk_a_int rfl (md_zi 30) (by decide) rfl (by decide) (by decide) (by decide) in_MOD nY_MOD nK_MOD nM_MOD (by decide) a0 e0 rfl 7 (by decide) wf_19 rfl rfl rfl (by decide +kernel) (Nat.le_of_ble_eq_true rfl) nD_MOD_init_31 nD_MOD_init_33 (fun q4 c4 ad E H locs hg ga gq gE gn g0 => ?_)
  have a0 := (ga 0 (by decide)).trans a0
  have a1q := (ga 1 (by decide)).trans a1q
  have e1 := (gE 1 (by decide) (by decide)).trans e1
  have a2q := (ga 2 (by decide)).trans a2q
  have e2 := (gE 2 (by decide) (by decide)).trans e2
  have a3q := (ga 3 (by decide)).trans a3q
  have e3 := (gE 3 (by decide) (by decide)).trans e3
  have a4q := gq
  have e4 := gn
  have e0 : E 0 = .inr (5, [.int 0, .int 0, .int 0, .int 0, .ref q1, .ref q2, .ref q3, .ref q4, .null, .int 0, .int 0, .int 0, .int 0, .int 0, .null, .null, .null, .null, .null, .null, .null, .null, .null, .null, .null, .null, .null, .null, .int 0, .long 0]) := g0
  clear ga gq gE gn g0
  refine W.cs (cells' := 4) (slots' := 120) rfl rfl ?_
  refine lv_aload_n hx hb nD_MOD_init_36 rfl (lv_at hl 0 rfl) ?_
  refine lv_bipush (v := 30) hx hb nD_MOD_init_37 (by decide) ?_
  refine md_st (R := rm_M) (ci := 5) (ref := nR_MOD) (ty := .int) (a0 := (30, .inl (fun _ => (0 : Int32)))) F hg hin wk_a_int rfl (md_zi 30) (by decide) rfl (by decide) (by decide) (by decide) in_MOD nY_MOD nK_MOD nM_MOD (by decide) a0 e0 rfl 8 (by decide) wf_22 rfl rfl rfl (by decide +kernel) (Nat.le_of_ble_eq_true rfl) nD_MOD_init_39 nD_MOD_init_41 (fun q5 c5 ad E H locs hg ga gq gE gn g0 => ?_)
  have a0 := (ga 0 (by decide)).trans a0
  have a1q := (ga 1 (by decide)).trans a1q
  have e1 := (gE 1 (by decide) (by decide)).trans e1
  have a2q := (ga 2 (by decide)).trans a2q
  have e2 := (gE 2 (by decide) (by decide)).trans e2
  have a3q := (ga 3 (by decide)).trans a3q
  have e3 := (gE 3 (by decide) (by decide)).trans e3
  have a4q := (ga 4 (by decide)).trans a4q
  have e4 := (gE 4 (by decide) (by decide)).trans e4
  have a5q := gq
  have e5 := gn
  have e0 : E 0 = .inr (5, [.int 0, .int 0, .int 0, .int 0, .ref q1, .ref q2, .ref q3, .ref q4, .ref q5, .int 0, .int 0, .int 0, .int 0, .int 0, .null, .null, .null, .null, .null, .null, .null, .null, .null, .null, .null, .null, .null, .null, .int 0, .long 0]) := g0
  clear ga gq gE gn g0
  refine W.cs (cells' := 5) (slots' := 150) rfl rfl ?_
  refine lv_aload_n hx hb nD_MOD_init_44 rfl (lv_at hl 0 rfl) ?_
  refine lv_iconst (v := 2) hx hb nD_MOD_init_45 (by decide) ?_
  refine gp_ix (R := rm_M) (v := .int 2) (ty := .int) (ref := nR_MOD) (k0 := 0) F hg in_MOD nY_MOD nK_MOD nM_MOD (by decide) a0 e0 rfl 9 (by decide) wf_25 rfl rfl (by decide +kernel) rfl rfl (Nat.le_of_ble_eq_true rfl) nD_MOD_init_46 (fun E H locs hg gE g0 => ?_)
  have e1 := (gE 1 (by decide)).trans e1
  have e2 := (gE 2 (by decide)).trans e2
  have e3 := (gE 3 (by decide)).trans e3
  have e4 := (gE 4 (by decide)).trans e4
  have e5 := (gE 5 (by decide)).trans e5
  have e0 : E 0 = .inr (5, [.int 0, .int 0, .int 0, .int 0, .ref q1, .ref q2, .ref q3, .ref q4, .ref q5, .int 2, .int 0, .int 0, .int 0, .int 0, .null, .null, .null, .null, .null, .null, .null, .null, .null, .null, .null, .null, .null, .null, .int 0, .long 0]) := g0
  clear gE g0
  refine lv_aload_n hx hb nD_MOD_init_49 rfl (lv_at hl 0 rfl) ?_
  refine lv_iconst (v := 5) hx hb nD_MOD_init_50 (by decide) ?_
  refine md_st (R := rm_M) (ci := 5) (ref := nR_MOD) (ty := .int) (a0 := (5, .inl (fun _ => (0 : Int32)))) F hg hin wk_a_int rfl (md_zi 5) (by decide) rfl (by decide) (by decide) (by decide) in_MOD nY_MOD nK_MOD nM_MOD (by decide) a0 e0 rfl 14 (by decide) wf_29 rfl rfl rfl (by decide +kernel) (Nat.le_of_ble_eq_true rfl) nD_MOD_init_51 nD_MOD_init_53 (fun q6 c6 ad E H locs hg ga gq gE gn g0 => ?_)
  have a0 := (ga 0 (by decide)).trans a0
  have a1q := (ga 1 (by decide)).trans a1q
  have e1 := (gE 1 (by decide) (by decide)).trans e1
  have a2q := (ga 2 (by decide)).trans a2q
  have e2 := (gE 2 (by decide) (by decide)).trans e2
  have a3q := (ga 3 (by decide)).trans a3q
  have e3 := (gE 3 (by decide) (by decide)).trans e3
  have a4q := (ga 4 (by decide)).trans a4q
  have e4 := (gE 4 (by decide) (by decide)).trans e4
  have a5q := (ga 5 (by decide)).trans a5q
  have e5 := (gE 5 (by decide) (by decide)).trans e5
  have a6q := gq
  have e6 := gn
  have e0 : E 0 = .inr (5, [.int 0, .int 0, .int 0, .int 0, .ref q1, .ref q2, .ref q3, .ref q4, .ref q5, .int 2, .int 0, .int 0, .int 0, .int 0, .ref q6, .null, .null, .null, .null, .null, .null, .null, .null, .null, .null, .null, .null, .null, .int 0, .long 0]) := g0
  clear ga gq gE gn g0
  refine W.cs (cells' := 6) (slots' := 155) rfl rfl ?_
  refine lv_aload_n hx hb nD_MOD_init_56 rfl (lv_at hl 0 rfl) ?_
  refine lv_iconst (v := 5) hx hb nD_MOD_init_57 (by decide) ?_
  refine md_st (R := rm_M) (ci := 5) (ref := nR_MOD) (ty := .int) (a0 := (5, .inl (fun _ => (0 : Int32)))) F hg hin wk_a_int rfl (md_zi 5) (by decide) rfl (by decide) (by decide) (by decide) in_MOD nY_MOD nK_MOD nM_MOD (by decide) a0 e0 rfl 15 (by decide) wf_32 rfl rfl rfl (by decide +kernel) (Nat.le_of_ble_eq_true rfl) nD_MOD_init_58 nD_MOD_init_60 (fun q7 c7 ad E H locs hg ga gq gE gn g0 => ?_)
  have a0 := (ga 0 (by decide)).trans a0
  have a1q := (ga 1 (by decide)).trans a1q
  have e1 := (gE 1 (by decide) (by decide)).trans e1
  have a2q := (ga 2 (by decide)).trans a2q
  have e2 := (gE 2 (by decide) (by decide)).trans e2
  have a3q := (ga 3 (by decide)).trans a3q
  have e3 := (gE 3 (by decide) (by decide)).trans e3
  have a4q := (ga 4 (by decide)).trans a4q
  have e4 := (gE 4 (by decide) (by decide)).trans e4
  have a5q := (ga 5 (by decide)).trans a5q
  have e5 := (gE 5 (by decide) (by decide)).trans e5
  have a6q := (ga 6 (by decide)).trans a6q
  have e6 := (gE 6 (by decide) (by decide)).trans e6
  have a7q := gq
  have e7 := gn
  have e0 : E 0 = .inr (5, [.int 0, .int 0, .int 0, .int 0, .ref q1, .ref q2, .ref q3, .ref q4, .ref q5, .int 2, .int 0, .int 0, .int 0, .int 0, .ref q6, .ref q7, .null, .null, .null, .null, .null, .null, .null, .null, .null, .null, .null, .null, .int 0, .long 0]) := g0
  clear ga gq gE gn g0
  refine W.cs (cells' := 7) (slots' := 160) rfl rfl ?_
  refine lv_aload_n hx hb nD_MOD_init_63 rfl (lv_at hl 0 rfl) ?_
  refine lv_iconst (v := 4) hx hb nD_MOD_init_64 (by decide) ?_
  refine md_st (R := rm_M) (ci := 5) (ref := nR_MOD) (ty := .int) (a0 := (4, .inl (fun _ => (0 : Int32)))) F hg hin wk_a_int rfl (md_zi 4) (by decide) rfl (by decide) (by decide) (by decide) in_MOD nY_MOD nK_MOD nM_MOD (by decide) a0 e0 rfl 16 (by decide) wf_35 rfl rfl rfl (by decide +kernel) (Nat.le_of_ble_eq_true rfl) nD_MOD_init_65 nD_MOD_init_67 (fun q8 c8 ad E H locs hg ga gq gE gn g0 => ?_)
  have a0 := (ga 0 (by decide)).trans a0
  have a1q := (ga 1 (by decide)).trans a1q
  have e1 := (gE 1 (by decide) (by decide)).trans e1
  have a2q := (ga 2 (by decide)).trans a2q
  have e2 := (gE 2 (by decide) (by decide)).trans e2
  have a3q := (ga 3 (by decide)).trans a3q
  have e3 := (gE 3 (by decide) (by decide)).trans e3
  have a4q := (ga 4 (by decide)).trans a4q
  have e4 := (gE 4 (by decide) (by decide)).trans e4
  have a5q := (ga 5 (by decide)).trans a5q
  have e5 := (gE 5 (by decide) (by decide)).trans e5
  have a6q := (ga 6 (by decide)).trans a6q
  have e6 := (gE 6 (by decide) (by decide)).trans e6
  have a7q := (ga 7 (by decide)).trans a7q
  have e7 := (gE 7 (by decide) (by decide)).trans e7
  have a8q := gq
  have e8 := gn
  have e0 : E 0 = .inr (5, [.int 0, .int 0, .int 0, .int 0, .ref q1, .ref q2, .ref q3, .ref q4, .ref q5, .int 2, .int 0, .int 0, .int 0, .int 0, .ref q6, .ref q7, .ref q8, .null, .null, .null, .null, .null, .null, .null, .null, .null, .null, .null, .int 0, .long 0]) := g0
  clear ga gq gE gn g0
  refine W.cs (cells' := 8) (slots' := 164) rfl rfl ?_
  refine lv_aload_n hx hb nD_MOD_init_70 rfl (lv_at hl 0 rfl) ?_
  refine lv_bipush (v := 32) hx hb nD_MOD_init_71 (by decide) ?_
  refine md_st (R := rm_M) (ci := 5) (ref := nR_MOD) (ty := .int) (a0 := (32, .inl (fun _ => (0 : Int32)))) F hg hin wk_a_int rfl (md_zi 32) (by decide) rfl (by decide) (by decide) (by decide) in_MOD nY_MOD nK_MOD nM_MOD (by decide) a0 e0 rfl 17 (by decide) wf_38 rfl rfl rfl (by decide +kernel) (Nat.le_of_ble_eq_true rfl) nD_MOD_init_73 nD_MOD_init_75 (fun q9 c9 ad E H locs hg ga gq gE gn g0 => ?_)
  have a0 := (ga 0 (by decide)).trans a0
  have a1q := (ga 1 (by decide)).trans a1q
  have e1 := (gE 1 (by decide) (by decide)).trans e1
  have a2q := (ga 2 (by decide)).trans a2q
  have e2 := (gE 2 (by decide) (by decide)).trans e2
  have a3q := (ga 3 (by decide)).trans a3q
  have e3 := (gE 3 (by decide) (by decide)).trans e3
  have a4q := (ga 4 (by decide)).trans a4q
  have e4 := (gE 4 (by decide) (by decide)).trans e4
  have a5q := (ga 5 (by decide)).trans a5q
  have e5 := (gE 5 (by decide) (by decide)).trans e5
  have a6q := (ga 6 (by decide)).trans a6q
  have e6 := (gE 6 (by decide) (by decide)).trans e6
  have a7q := (ga 7 (by decide)).trans a7q
  have e7 := (gE 7 (by decide) (by decide)).trans e7
  have a8q := (ga 8 (by decide)).trans a8q
  have e8 := (gE 8 (by decide) (by decide)).trans e8
  have a9q := gq
  have e9 := gn
  have e0 : E 0 = .inr (5, [.int 0, .int 0, .int 0, .int 0, .ref q1, .ref q2, .ref q3, .ref q4, .ref q5, .int 2, .int 0, .int 0, .int 0, .int 0, .ref q6, .ref q7, .ref q8, .ref q9, .null, .null, .null, .null, .null, .null, .null, .null, .null, .null, .int 0, .long 0]) := g0
  clear ga gq gE gn g0
  refine W.cs (cells' := 9) (slots' := 196) rfl rfl ?_
  refine lv_aload_n hx hb nD_MOD_init_78 rfl (lv_at hl 0 rfl) ?_
  refine lv_bipush (v := 13) hx hb nD_MOD_init_79 (by decide) ?_
  refine md_st (R := rm_M) (ci := 5) (ref := nR_MOD) (ty := .int) (a0 := (13, .inl (fun _ => (0 : Int32)))) F hg hin wk_a_int rfl (md_zi 13) (by decide) rfl (by decide) (by decide) (by decide) in_MOD nY_MOD nK_MOD nM_MOD (by decide) a0 e0 rfl 18 (by decide) wf_41 rfl rfl rfl (by decide +kernel) (Nat.le_of_ble_eq_true rfl) nD_MOD_init_81 nD_MOD_init_83 (fun q10 c10 ad E H locs hg ga gq gE gn g0 => ?_)
  have a0 := (ga 0 (by decide)).trans a0
  have a1q := (ga 1 (by decide)).trans a1q
  have e1 := (gE 1 (by decide) (by decide)).trans e1
  have a2q := (ga 2 (by decide)).trans a2q
  have e2 := (gE 2 (by decide) (by decide)).trans e2
  have a3q := (ga 3 (by decide)).trans a3q
  have e3 := (gE 3 (by decide) (by decide)).trans e3
  have a4q := (ga 4 (by decide)).trans a4q
  have e4 := (gE 4 (by decide) (by decide)).trans e4
  have a5q := (ga 5 (by decide)).trans a5q
  have e5 := (gE 5 (by decide) (by decide)).trans e5
  have a6q := (ga 6 (by decide)).trans a6q
  have e6 := (gE 6 (by decide) (by decide)).trans e6
  have a7q := (ga 7 (by decide)).trans a7q
  have e7 := (gE 7 (by decide) (by decide)).trans e7
  have a8q := (ga 8 (by decide)).trans a8q
  have e8 := (gE 8 (by decide) (by decide)).trans e8
  have a9q := (ga 9 (by decide)).trans a9q
  have e9 := (gE 9 (by decide) (by decide)).trans e9
  have a10q := gq
  have e10 := gn
  have e0 : E 0 = .inr (5, [.int 0, .int 0, .int 0, .int 0, .ref q1, .ref q2, .ref q3, .ref q4, .ref q5, .int 2, .int 0, .int 0, .int 0, .int 0, .ref q6, .ref q7, .ref q8, .ref q9, .ref q10, .null, .null, .null, .null, .null, .null, .null, .null, .null, .int 0, .long 0]) := g0
  clear ga gq gE gn g0
  refine W.cs (cells' := 10) (slots' := 209) rfl rfl ?_
  refine lv_aload_n hx hb nD_MOD_init_86 rfl (lv_at hl 0 rfl) ?_
  refine lv_bipush (v := 13) hx hb nD_MOD_init_87 (by decide) ?_
  refine md_st (R := rm_M) (ci := 5) (ref := nR_MOD) (ty := .int) (a0 := (13, .inl (fun _ => (0 : Int32)))) F hg hin wk_a_int rfl (md_zi 13) (by decide) rfl (by decide) (by decide) (by decide) in_MOD nY_MOD nK_MOD nM_MOD (by decide) a0 e0 rfl 19 (by decide) wf_44 rfl rfl rfl (by decide +kernel) (Nat.le_of_ble_eq_true rfl) nD_MOD_init_89 nD_MOD_init_91 (fun q11 c11 ad E H locs hg ga gq gE gn g0 => ?_)
  have a0 := (ga 0 (by decide)).trans a0
  have a1q := (ga 1 (by decide)).trans a1q
  have e1 := (gE 1 (by decide) (by decide)).trans e1
  have a2q := (ga 2 (by decide)).trans a2q
  have e2 := (gE 2 (by decide) (by decide)).trans e2
  have a3q := (ga 3 (by decide)).trans a3q
  have e3 := (gE 3 (by decide) (by decide)).trans e3
  have a4q := (ga 4 (by decide)).trans a4q
  have e4 := (gE 4 (by decide) (by decide)).trans e4
  have a5q := (ga 5 (by decide)).trans a5q
  have e5 := (gE 5 (by decide) (by decide)).trans e5
  have a6q := (ga 6 (by decide)).trans a6q
  have e6 := (gE 6 (by decide) (by decide)).trans e6
  have a7q := (ga 7 (by decide)).trans a7q
  have e7 := (gE 7 (by decide) (by decide)).trans e7
  have a8q := (ga 8 (by decide)).trans a8q
  have e8 := (gE 8 (by decide) (by decide)).trans e8
  have a9q := (ga 9 (by decide)).trans a9q
  have e9 := (gE 9 (by decide) (by decide)).trans e9
  have a10q := (ga 10 (by decide)).trans a10q
  have e10 := (gE 10 (by decide) (by decide)).trans e10
  have a11q := gq
  have e11 := gn
  have e0 : E 0 = .inr (5, [.int 0, .int 0, .int 0, .int 0, .ref q1, .ref q2, .ref q3, .ref q4, .ref q5, .int 2, .int 0, .int 0, .int 0, .int 0, .ref q6, .ref q7, .ref q8, .ref q9, .ref q10, .ref q11, .null, .null, .null, .null, .null, .null, .null, .null, .int 0, .long 0]) := g0
  clear ga gq gE gn g0
  refine W.cs (cells' := 11) (slots' := 222) rfl rfl ?_
  refine lv_aload_n hx hb nD_MOD_init_94 rfl (lv_at hl 0 rfl) ?_
  refine lv_bipush (v := 13) hx hb nD_MOD_init_95 (by decide) ?_
  refine md_st (R := rm_M) (ci := 5) (ref := nR_MOD) (ty := .int) (a0 := (13, .inl (fun _ => (0 : Int32)))) F hg hin wk_a_int rfl (md_zi 13) (by decide) rfl (by decide) (by decide) (by decide) in_MOD nY_MOD nK_MOD nM_MOD (by decide) a0 e0 rfl 20 (by decide) wf_47 rfl rfl rfl (by decide +kernel) (Nat.le_of_ble_eq_true rfl) nD_MOD_init_97 nD_MOD_init_99 (fun q12 c12 ad E H locs hg ga gq gE gn g0 => ?_)
  have a0 := (ga 0 (by decide)).trans a0
  have a1q := (ga 1 (by decide)).trans a1q
  have e1 := (gE 1 (by decide) (by decide)).trans e1
  have a2q := (ga 2 (by decide)).trans a2q
  have e2 := (gE 2 (by decide) (by decide)).trans e2
  have a3q := (ga 3 (by decide)).trans a3q
  have e3 := (gE 3 (by decide) (by decide)).trans e3
  have a4q := (ga 4 (by decide)).trans a4q
  have e4 := (gE 4 (by decide) (by decide)).trans e4
  have a5q := (ga 5 (by decide)).trans a5q
  have e5 := (gE 5 (by decide) (by decide)).trans e5
  have a6q := (ga 6 (by decide)).trans a6q
  have e6 := (gE 6 (by decide) (by decide)).trans e6
  have a7q := (ga 7 (by decide)).trans a7q
  have e7 := (gE 7 (by decide) (by decide)).trans e7
  have a8q := (ga 8 (by decide)).trans a8q
  have e8 := (gE 8 (by decide) (by decide)).trans e8
  have a9q := (ga 9 (by decide)).trans a9q
  have e9 := (gE 9 (by decide) (by decide)).trans e9
  have a10q := (ga 10 (by decide)).trans a10q
  have e10 := (gE 10 (by decide) (by decide)).trans e10
  have a11q := (ga 11 (by decide)).trans a11q
  have e11 := (gE 11 (by decide) (by decide)).trans e11
  have a12q := gq
  have e12 := gn
  have e0 : E 0 = .inr (5, [.int 0, .int 0, .int 0, .int 0, .ref q1, .ref q2, .ref q3, .ref q4, .ref q5, .int 2, .int 0, .int 0, .int 0, .int 0, .ref q6, .ref q7, .ref q8, .ref q9, .ref q10, .ref q11, .ref q12, .null, .null, .null, .null, .null, .null, .null, .int 0, .long 0]) := g0
  clear ga gq gE gn g0
  refine W.cs (cells' := 12) (slots' := 235) rfl rfl ?_
  refine lv_aload_n hx hb nD_MOD_init_102 rfl (lv_at hl 0 rfl) ?_
  refine lv_bipush (v := 13) hx hb nD_MOD_init_103 (by decide) ?_
  refine md_st (R := rm_M) (ci := 5) (ref := nR_MOD) (ty := .int) (a0 := (13, .inl (fun _ => (0 : Int32)))) F hg hin wk_a_int rfl (md_zi 13) (by decide) rfl (by decide) (by decide) (by decide) in_MOD nY_MOD nK_MOD nM_MOD (by decide) a0 e0 rfl 21 (by decide) wf_50 rfl rfl rfl (by decide +kernel) (Nat.le_of_ble_eq_true rfl) nD_MOD_init_105 nD_MOD_init_107 (fun q13 c13 ad E H locs hg ga gq gE gn g0 => ?_)
  have a0 := (ga 0 (by decide)).trans a0
  have a1q := (ga 1 (by decide)).trans a1q
  have e1 := (gE 1 (by decide) (by decide)).trans e1
  have a2q := (ga 2 (by decide)).trans a2q
  have e2 := (gE 2 (by decide) (by decide)).trans e2
  have a3q := (ga 3 (by decide)).trans a3q
  have e3 := (gE 3 (by decide) (by decide)).trans e3
  have a4q := (ga 4 (by decide)).trans a4q
  have e4 := (gE 4 (by decide) (by decide)).trans e4
  have a5q := (ga 5 (by decide)).trans a5q
  have e5 := (gE 5 (by decide) (by decide)).trans e5
  have a6q := (ga 6 (by decide)).trans a6q
  have e6 := (gE 6 (by decide) (by decide)).trans e6
  have a7q := (ga 7 (by decide)).trans a7q
  have e7 := (gE 7 (by decide) (by decide)).trans e7
  have a8q := (ga 8 (by decide)).trans a8q
  have e8 := (gE 8 (by decide) (by decide)).trans e8
  have a9q := (ga 9 (by decide)).trans a9q
  have e9 := (gE 9 (by decide) (by decide)).trans e9
  have a10q := (ga 10 (by decide)).trans a10q
  have e10 := (gE 10 (by decide) (by decide)).trans e10
  have a11q := (ga 11 (by decide)).trans a11q
  have e11 := (gE 11 (by decide) (by decide)).trans e11
  have a12q := (ga 12 (by decide)).trans a12q
  have e12 := (gE 12 (by decide) (by decide)).trans e12
  have a13q := gq
  have e13 := gn
  have e0 : E 0 = .inr (5, [.int 0, .int 0, .int 0, .int 0, .ref q1, .ref q2, .ref q3, .ref q4, .ref q5, .int 2, .int 0, .int 0, .int 0, .int 0, .ref q6, .ref q7, .ref q8, .ref q9, .ref q10, .ref q11, .ref q12, .ref q13, .null, .null, .null, .null, .null, .null, .int 0, .long 0]) := g0
  clear ga gq gE gn g0
  refine W.cs (cells' := 13) (slots' := 248) rfl rfl ?_
  refine lv_aload_n hx hb nD_MOD_init_110 rfl (lv_at hl 0 rfl) ?_
  refine lv_bipush (v := 13) hx hb nD_MOD_init_111 (by decide) ?_
  refine md_st (R := rm_M) (ci := 5) (ref := nR_MOD) (ty := .int) (a0 := (13, .inl (fun _ => (0 : Int32)))) F hg hin wk_a_int rfl (md_zi 13) (by decide) rfl (by decide) (by decide) (by decide) in_MOD nY_MOD nK_MOD nM_MOD (by decide) a0 e0 rfl 22 (by decide) wf_53 rfl rfl rfl (by decide +kernel) (Nat.le_of_ble_eq_true rfl) nD_MOD_init_113 nD_MOD_init_115 (fun q14 c14 ad E H locs hg ga gq gE gn g0 => ?_)
  have a0 := (ga 0 (by decide)).trans a0
  have a1q := (ga 1 (by decide)).trans a1q
  have e1 := (gE 1 (by decide) (by decide)).trans e1
  have a2q := (ga 2 (by decide)).trans a2q
  have e2 := (gE 2 (by decide) (by decide)).trans e2
  have a3q := (ga 3 (by decide)).trans a3q
  have e3 := (gE 3 (by decide) (by decide)).trans e3
  have a4q := (ga 4 (by decide)).trans a4q
  have e4 := (gE 4 (by decide) (by decide)).trans e4
  have a5q := (ga 5 (by decide)).trans a5q
  have e5 := (gE 5 (by decide) (by decide)).trans e5
  have a6q := (ga 6 (by decide)).trans a6q
  have e6 := (gE 6 (by decide) (by decide)).trans e6
  have a7q := (ga 7 (by decide)).trans a7q
  have e7 := (gE 7 (by decide) (by decide)).trans e7
  have a8q := (ga 8 (by decide)).trans a8q
  have e8 := (gE 8 (by decide) (by decide)).trans e8
  have a9q := (ga 9 (by decide)).trans a9q
  have e9 := (gE 9 (by decide) (by decide)).trans e9
  have a10q := (ga 10 (by decide)).trans a10q
  have e10 := (gE 10 (by decide) (by decide)).trans e10
  have a11q := (ga 11 (by decide)).trans a11q
  have e11 := (gE 11 (by decide) (by decide)).trans e11
  have a12q := (ga 12 (by decide)).trans a12q
  have e12 := (gE 12 (by decide) (by decide)).trans e12
  have a13q := (ga 13 (by decide)).trans a13q
  have e13 := (gE 13 (by decide) (by decide)).trans e13
  have a14q := gq
  have e14 := gn
  have e0 : E 0 = .inr (5, [.int 0, .int 0, .int 0, .int 0, .ref q1, .ref q2, .ref q3, .ref q4, .ref q5, .int 2, .int 0, .int 0, .int 0, .int 0, .ref q6, .ref q7, .ref q8, .ref q9, .ref q10, .ref q11, .ref q12, .ref q13, .ref q14, .null, .null, .null, .null, .null, .int 0, .long 0]) := g0
  clear ga gq gE gn g0
  refine W.cs (cells' := 14) (slots' := 261) rfl rfl ?_
  refine lv_aload_n hx hb nD_MOD_init_118 rfl (lv_at hl 0 rfl) ?_
  refine lv_bipush (v := 26) hx hb nD_MOD_init_119 (by decide) ?_
  refine md_st (R := rm_M) (ci := 5) (ref := nR_MOD) (ty := .int) (a0 := (26, .inl (fun _ => (0 : Int32)))) F hg hin wk_a_int rfl (md_zi 26) (by decide) rfl (by decide) (by decide) (by decide) in_MOD nY_MOD nK_MOD nM_MOD (by decide) a0 e0 rfl 23 (by decide) wf_56 rfl rfl rfl (by decide +kernel) (Nat.le_of_ble_eq_true rfl) nD_MOD_init_121 nD_MOD_init_123 (fun q15 c15 ad E H locs hg ga gq gE gn g0 => ?_)
  have a0 := (ga 0 (by decide)).trans a0
  have a1q := (ga 1 (by decide)).trans a1q
  have e1 := (gE 1 (by decide) (by decide)).trans e1
  have a2q := (ga 2 (by decide)).trans a2q
  have e2 := (gE 2 (by decide) (by decide)).trans e2
  have a3q := (ga 3 (by decide)).trans a3q
  have e3 := (gE 3 (by decide) (by decide)).trans e3
  have a4q := (ga 4 (by decide)).trans a4q
  have e4 := (gE 4 (by decide) (by decide)).trans e4
  have a5q := (ga 5 (by decide)).trans a5q
  have e5 := (gE 5 (by decide) (by decide)).trans e5
  have a6q := (ga 6 (by decide)).trans a6q
  have e6 := (gE 6 (by decide) (by decide)).trans e6
  have a7q := (ga 7 (by decide)).trans a7q
  have e7 := (gE 7 (by decide) (by decide)).trans e7
  have a8q := (ga 8 (by decide)).trans a8q
  have e8 := (gE 8 (by decide) (by decide)).trans e8
  have a9q := (ga 9 (by decide)).trans a9q
  have e9 := (gE 9 (by decide) (by decide)).trans e9
  have a10q := (ga 10 (by decide)).trans a10q
  have e10 := (gE 10 (by decide) (by decide)).trans e10
  have a11q := (ga 11 (by decide)).trans a11q
  have e11 := (gE 11 (by decide) (by decide)).trans e11
  have a12q := (ga 12 (by decide)).trans a12q
  have e12 := (gE 12 (by decide) (by decide)).trans e12
  have a13q := (ga 13 (by decide)).trans a13q
  have e13 := (gE 13 (by decide) (by decide)).trans e13
  have a14q := (ga 14 (by decide)).trans a14q
  have e14 := (gE 14 (by decide) (by decide)).trans e14
  have a15q := gq
  have e15 := gn
  have e0 : E 0 = .inr (5, [.int 0, .int 0, .int 0, .int 0, .ref q1, .ref q2, .ref q3, .ref q4, .ref q5, .int 2, .int 0, .int 0, .int 0, .int 0, .ref q6, .ref q7, .ref q8, .ref q9, .ref q10, .ref q11, .ref q12, .ref q13, .ref q14, .ref q15, .null, .null, .null, .null, .int 0, .long 0]) := g0
  clear ga gq gE gn g0
  refine W.cs (cells' := 15) (slots' := 287) rfl rfl ?_
  refine lv_aload_n hx hb nD_MOD_init_126 rfl (lv_at hl 0 rfl) ?_
  refine lv_bipush (v := 26) hx hb nD_MOD_init_127 (by decide) ?_
  refine md_st (R := rm_M) (ci := 5) (ref := nR_MOD) (ty := .int) (a0 := (26, .inl (fun _ => (0 : Int32)))) F hg hin wk_a_int rfl (md_zi 26) (by decide) rfl (by decide) (by decide) (by decide) in_MOD nY_MOD nK_MOD nM_MOD (by decide) a0 e0 rfl 24 (by decide) wf_59 rfl rfl rfl (by decide +kernel) (Nat.le_of_ble_eq_true rfl) nD_MOD_init_129 nD_MOD_init_131 (fun q16 c16 ad E H locs hg ga gq gE gn g0 => ?_)
  have a0 := (ga 0 (by decide)).trans a0
  have a1q := (ga 1 (by decide)).trans a1q
  have e1 := (gE 1 (by decide) (by decide)).trans e1
  have a2q := (ga 2 (by decide)).trans a2q
  have e2 := (gE 2 (by decide) (by decide)).trans e2
  have a3q := (ga 3 (by decide)).trans a3q
  have e3 := (gE 3 (by decide) (by decide)).trans e3
  have a4q := (ga 4 (by decide)).trans a4q
  have e4 := (gE 4 (by decide) (by decide)).trans e4
  have a5q := (ga 5 (by decide)).trans a5q
  have e5 := (gE 5 (by decide) (by decide)).trans e5
  have a6q := (ga 6 (by decide)).trans a6q
  have e6 := (gE 6 (by decide) (by decide)).trans e6
  have a7q := (ga 7 (by decide)).trans a7q
  have e7 := (gE 7 (by decide) (by decide)).trans e7
  have a8q := (ga 8 (by decide)).trans a8q
  have e8 := (gE 8 (by decide) (by decide)).trans e8
  have a9q := (ga 9 (by decide)).trans a9q
  have e9 := (gE 9 (by decide) (by decide)).trans e9
  have a10q := (ga 10 (by decide)).trans a10q
  have e10 := (gE 10 (by decide) (by decide)).trans e10
  have a11q := (ga 11 (by decide)).trans a11q
  have e11 := (gE 11 (by decide) (by decide)).trans e11
  have a12q := (ga 12 (by decide)).trans a12q
  have e12 := (gE 12 (by decide) (by decide)).trans e12
  have a13q := (ga 13 (by decide)).trans a13q
  have e13 := (gE 13 (by decide) (by decide)).trans e13
  have a14q := (ga 14 (by decide)).trans a14q
  have e14 := (gE 14 (by decide) (by decide)).trans e14
  have a15q := (ga 15 (by decide)).trans a15q
  have e15 := (gE 15 (by decide) (by decide)).trans e15
  have a16q := gq
  have e16 := gn
  have e0 : E 0 = .inr (5, [.int 0, .int 0, .int 0, .int 0, .ref q1, .ref q2, .ref q3, .ref q4, .ref q5, .int 2, .int 0, .int 0, .int 0, .int 0, .ref q6, .ref q7, .ref q8, .ref q9, .ref q10, .ref q11, .ref q12, .ref q13, .ref q14, .ref q15, .ref q16, .null, .null, .null, .int 0, .long 0]) := g0
  clear ga gq gE gn g0
  refine W.cs (cells' := 16) (slots' := 313) rfl rfl ?_
  refine lv_aload_n hx hb nD_MOD_init_134 rfl (lv_at hl 0 rfl) ?_
  refine lv_bipush (v := 13) hx hb nD_MOD_init_135 (by decide) ?_
  refine md_st (R := rm_M) (ci := 5) (ref := nR_MOD) (ty := .int) (a0 := (13, .inl (fun _ => (0 : Int32)))) F hg hin wk_a_int rfl (md_zi 13) (by decide) rfl (by decide) (by decide) (by decide) in_MOD nY_MOD nK_MOD nM_MOD (by decide) a0 e0 rfl 25 (by decide) wf_62 rfl rfl rfl (by decide +kernel) (Nat.le_of_ble_eq_true rfl) nD_MOD_init_137 nD_MOD_init_139 (fun q17 c17 ad E H locs hg ga gq gE gn g0 => ?_)
  have a0 := (ga 0 (by decide)).trans a0
  have a1q := (ga 1 (by decide)).trans a1q
  have e1 := (gE 1 (by decide) (by decide)).trans e1
  have a2q := (ga 2 (by decide)).trans a2q
  have e2 := (gE 2 (by decide) (by decide)).trans e2
  have a3q := (ga 3 (by decide)).trans a3q
  have e3 := (gE 3 (by decide) (by decide)).trans e3
  have a4q := (ga 4 (by decide)).trans a4q
  have e4 := (gE 4 (by decide) (by decide)).trans e4
  have a5q := (ga 5 (by decide)).trans a5q
  have e5 := (gE 5 (by decide) (by decide)).trans e5
  have a6q := (ga 6 (by decide)).trans a6q
  have e6 := (gE 6 (by decide) (by decide)).trans e6
  have a7q := (ga 7 (by decide)).trans a7q
  have e7 := (gE 7 (by decide) (by decide)).trans e7
  have a8q := (ga 8 (by decide)).trans a8q
  have e8 := (gE 8 (by decide) (by decide)).trans e8
  have a9q := (ga 9 (by decide)).trans a9q
  have e9 := (gE 9 (by decide) (by decide)).trans e9
  have a10q := (ga 10 (by decide)).trans a10q
  have e10 := (gE 10 (by decide) (by decide)).trans e10
  have a11q := (ga 11 (by decide)).trans a11q
  have e11 := (gE 11 (by decide) (by decide)).trans e11
  have a12q := (ga 12 (by decide)).trans a12q
  have e12 := (gE 12 (by decide) (by decide)).trans e12
  have a13q := (ga 13 (by decide)).trans a13q
  have e13 := (gE 13 (by decide) (by decide)).trans e13
  have a14q := (ga 14 (by decide)).trans a14q
  have e14 := (gE 14 (by decide) (by decide)).trans e14
  have a15q := (ga 15 (by decide)).trans a15q
  have e15 := (gE 15 (by decide) (by decide)).trans e15
  have a16q := (ga 16 (by decide)).trans a16q
  have e16 := (gE 16 (by decide) (by decide)).trans e16
  have a17q := gq
  have e17 := gn
  have e0 : E 0 = .inr (5, [.int 0, .int 0, .int 0, .int 0, .ref q1, .ref q2, .ref q3, .ref q4, .ref q5, .int 2, .int 0, .int 0, .int 0, .int 0, .ref q6, .ref q7, .ref q8, .ref q9, .ref q10, .ref q11, .ref q12, .ref q13, .ref q14, .ref q15, .ref q16, .ref q17, .null, .null, .int 0, .long 0]) := g0
  clear ga gq gE gn g0
  refine W.cs (cells' := 17) (slots' := 326) rfl rfl ?_
  refine lv_aload_n hx hb nD_MOD_init_142 rfl (lv_at hl 0 rfl) ?_
  refine lv_bipush (v := 13) hx hb nD_MOD_init_143 (by decide) ?_
  refine md_st (R := rm_M) (ci := 5) (ref := nR_MOD) (ty := .int) (a0 := (13, .inl (fun _ => (0 : Int32)))) F hg hin wk_a_int rfl (md_zi 13) (by decide) rfl (by decide) (by decide) (by decide) in_MOD nY_MOD nK_MOD nM_MOD (by decide) a0 e0 rfl 26 (by decide) wf_65 rfl rfl rfl (by decide +kernel) (Nat.le_of_ble_eq_true rfl) nD_MOD_init_145 nD_MOD_init_147 (fun q18 c18 ad E H locs hg ga gq gE gn g0 => ?_)
  have a0 := (ga 0 (by decide)).trans a0
  have a1q := (ga 1 (by decide)).trans a1q
  have e1 := (gE 1 (by decide) (by decide)).trans e1
  have a2q := (ga 2 (by decide)).trans a2q
  have e2 := (gE 2 (by decide) (by decide)).trans e2
  have a3q := (ga 3 (by decide)).trans a3q
  have e3 := (gE 3 (by decide) (by decide)).trans e3
  have a4q := (ga 4 (by decide)).trans a4q
  have e4 := (gE 4 (by decide) (by decide)).trans e4
  have a5q := (ga 5 (by decide)).trans a5q
  have e5 := (gE 5 (by decide) (by decide)).trans e5
  have a6q := (ga 6 (by decide)).trans a6q
  have e6 := (gE 6 (by decide) (by decide)).trans e6
  have a7q := (ga 7 (by decide)).trans a7q
  have e7 := (gE 7 (by decide) (by decide)).trans e7
  have a8q := (ga 8 (by decide)).trans a8q
  have e8 := (gE 8 (by decide) (by decide)).trans e8
  have a9q := (ga 9 (by decide)).trans a9q
  have e9 := (gE 9 (by decide) (by decide)).trans e9
  have a10q := (ga 10 (by decide)).trans a10q
  have e10 := (gE 10 (by decide) (by decide)).trans e10
  have a11q := (ga 11 (by decide)).trans a11q
  have e11 := (gE 11 (by decide) (by decide)).trans e11
  have a12q := (ga 12 (by decide)).trans a12q
  have e12 := (gE 12 (by decide) (by decide)).trans e12
  have a13q := (ga 13 (by decide)).trans a13q
  have e13 := (gE 13 (by decide) (by decide)).trans e13
  have a14q := (ga 14 (by decide)).trans a14q
  have e14 := (gE 14 (by decide) (by decide)).trans e14
  have a15q := (ga 15 (by decide)).trans a15q
  have e15 := (gE 15 (by decide) (by decide)).trans e15
  have a16q := (ga 16 (by decide)).trans a16q
  have e16 := (gE 16 (by decide) (by decide)).trans e16
  have a17q := (ga 17 (by decide)).trans a17q
  have e17 := (gE 17 (by decide) (by decide)).trans e17
  have a18q := gq
  have e18 := gn
  have e0 : E 0 = .inr (5, [.int 0, .int 0, .int 0, .int 0, .ref q1, .ref q2, .ref q3, .ref q4, .ref q5, .int 2, .int 0, .int 0, .int 0, .int 0, .ref q6, .ref q7, .ref q8, .ref q9, .ref q10, .ref q11, .ref q12, .ref q13, .ref q14, .ref q15, .ref q16, .ref q17, .ref q18, .null, .int 0, .long 0]) := g0
  clear ga gq gE gn g0
  refine W.cs (cells' := 18) (slots' := 339) rfl rfl ?_
  refine lv_aload_n hx hb nD_MOD_init_150 rfl (lv_at hl 0 rfl) ?_
  refine lv_bipush (v := 8) hx hb nD_MOD_init_151 (by decide) ?_
  refine md_st (R := rm_M) (ci := 5) (ref := nR_MOD) (ty := .boolean) (a0 := (8, .inl (fun _ => (0 : Int32)))) F hg hin wk_a_boolean rfl (md_zz 8) (by decide) rfl (by decide) (by decide) (by decide) in_MOD nY_MOD nK_MOD nM_MOD (by decide) a0 e0 rfl 27 (by decide) wf_68 rfl rfl rfl (by decide +kernel) (Nat.le_of_ble_eq_true rfl) nD_MOD_init_153 nD_MOD_init_155 (fun q19 c19 ad E H locs hg ga gq gE gn g0 => ?_)
  have a0 := (ga 0 (by decide)).trans a0
  have a1q := (ga 1 (by decide)).trans a1q
  have e1 := (gE 1 (by decide) (by decide)).trans e1
  have a2q := (ga 2 (by decide)).trans a2q
  have e2 := (gE 2 (by decide) (by decide)).trans e2
  have a3q := (ga 3 (by decide)).trans a3q
  have e3 := (gE 3 (by decide) (by decide)).trans e3
  have a4q := (ga 4 (by decide)).trans a4q
  have e4 := (gE 4 (by decide) (by decide)).trans e4
  have a5q := (ga 5 (by decide)).trans a5q
  have e5 := (gE 5 (by decide) (by decide)).trans e5
  have a6q := (ga 6 (by decide)).trans a6q
  have e6 := (gE 6 (by decide) (by decide)).trans e6
  have a7q := (ga 7 (by decide)).trans a7q
  have e7 := (gE 7 (by decide) (by decide)).trans e7
  have a8q := (ga 8 (by decide)).trans a8q
  have e8 := (gE 8 (by decide) (by decide)).trans e8
  have a9q := (ga 9 (by decide)).trans a9q
  have e9 := (gE 9 (by decide) (by decide)).trans e9
  have a10q := (ga 10 (by decide)).trans a10q
  have e10 := (gE 10 (by decide) (by decide)).trans e10
  have a11q := (ga 11 (by decide)).trans a11q
  have e11 := (gE 11 (by decide) (by decide)).trans e11
  have a12q := (ga 12 (by decide)).trans a12q
  have e12 := (gE 12 (by decide) (by decide)).trans e12
  have a13q := (ga 13 (by decide)).trans a13q
  have e13 := (gE 13 (by decide) (by decide)).trans e13
  have a14q := (ga 14 (by decide)).trans a14q
  have e14 := (gE 14 (by decide) (by decide)).trans e14
  have a15q := (ga 15 (by decide)).trans a15q
  have e15 := (gE 15 (by decide) (by decide)).trans e15
  have a16q := (ga 16 (by decide)).trans a16q
  have e16 := (gE 16 (by decide) (by decide)).trans e16
  have a17q := (ga 17 (by decide)).trans a17q
  have e17 := (gE 17 (by decide) (by decide)).trans e17
  have a18q := (ga 18 (by decide)).trans a18q
  have e18 := (gE 18 (by decide) (by decide)).trans e18
  have a19q := gq
  have e19 := gn
  have e0 : E 0 = .inr (5, [.int 0, .int 0, .int 0, .int 0, .ref q1, .ref q2, .ref q3, .ref q4, .ref q5, .int 2, .int 0, .int 0, .int 0, .int 0, .ref q6, .ref q7, .ref q8, .ref q9, .ref q10, .ref q11, .ref q12, .ref q13, .ref q14, .ref q15, .ref q16, .ref q17, .ref q18, .ref q19, .int 0, .long 0]) := g0
  clear ga gq gE gn g0
  refine W.cs (cells' := 19) (slots' := 347) rfl rfl ?_
  refine lv_aload_n hx hb nD_MOD_init_158 rfl (lv_at hl 0 rfl) ?_
  suffices hJ : ∀ v, v = md_c a1 → W p l e rm_M s m [Value.ref h, .int a1, .int a2].toArray below meth c H locs 19 347 _ (F0 m 180 ls [.int v, .ref h]) by
    refine lv_iload_n hx hb nD_MOD_init_159 rfl (lv_at hl 1 rfl) ?_
    refine lv_iconst (v := 1) hx hb nD_MOD_init_160 (by decide) ?_
    refine lv_icmp_ge (tgt := 168) hx hb nD_MOD_init_161 (by decide) (fun h1 => ?_) (fun h1 => ?_)
    · refine lv_iload_n hx hb nD_MOD_init_168 rfl (lv_at hl 1 rfl) ?_
      refine lv_bipush (v := 8) hx hb nD_MOD_init_169 (by decide) ?_
      refine lv_icmp_le (tgt := 179) hx hb nD_MOD_init_171 (by decide) (fun h2 => ?_) (fun h2 => ?_)
      · refine lv_iload_n hx hb nD_MOD_init_179 rfl (lv_at hl 1 rfl) ?_
        exact hJ _ (by rw [md_c, if_pos h1, if_pos h2])
      · refine lv_bipush (v := 8) hx hb nD_MOD_init_174 (by decide) ?_
        refine lv_goto (tgt := 180) hx hb nD_MOD_init_176 (by decide) ?_
        exact hJ _ (by rw [md_c, if_pos h1, if_neg h2])
    · refine lv_iconst (v := 1) hx hb nD_MOD_init_164 (by decide) ?_
      refine lv_goto (tgt := 180) hx hb nD_MOD_init_165 (by decide) ?_
      exact hJ _ (by rw [md_c, if_neg h1])
  intro v hv
  subst hv
  refine gp_Fx (R := rm_M) (v := .int (md_c a1)) (ty := .int) (ref := nR_MOD) (k0 := 0) F hg hin in_MOD nY_MOD nK_MOD nM_MOD (by decide) a0 e0 rfl 0 (by decide) wf_72 rfl rfl rfl (by decide +kernel) rfl rfl (Nat.le_of_ble_eq_true rfl) nD_MOD_init_180 (fun E H locs hg gE g0 => ?_)
  have e1 := (gE 1 (by decide)).trans e1
  have e2 := (gE 2 (by decide)).trans e2
  have e3 := (gE 3 (by decide)).trans e3
  have e4 := (gE 4 (by decide)).trans e4
  have e5 := (gE 5 (by decide)).trans e5
  have e6 := (gE 6 (by decide)).trans e6
  have e7 := (gE 7 (by decide)).trans e7
  have e8 := (gE 8 (by decide)).trans e8
  have e9 := (gE 9 (by decide)).trans e9
  have e10 := (gE 10 (by decide)).trans e10
  have e11 := (gE 11 (by decide)).trans e11
  have e12 := (gE 12 (by decide)).trans e12
  have e13 := (gE 13 (by decide)).trans e13
  have e14 := (gE 14 (by decide)).trans e14
  have e15 := (gE 15 (by decide)).trans e15
  have e16 := (gE 16 (by decide)).trans e16
  have e17 := (gE 17 (by decide)).trans e17
  have e18 := (gE 18 (by decide)).trans e18
  have e19 := (gE 19 (by decide)).trans e19
  have e0 : E 0 = .inr (5, [.int (md_c a1), .int 0, .int 0, .int 0, .ref q1, .ref q2, .ref q3, .ref q4, .ref q5, .int 2, .int 0, .int 0, .int 0, .int 0, .ref q6, .ref q7, .ref q8, .ref q9, .ref q10, .ref q11, .ref q12, .ref q13, .ref q14, .ref q15, .ref q16, .ref q17, .ref q18, .ref q19, .int 0, .long 0]) := g0
  clear gE g0
  refine lv_aload_n hx hb nD_MOD_init_183 rfl (lv_at hl 0 rfl) ?_
  suffices hJ : ∀ v, v = md_c a2 → W p l e rm_M s m [Value.ref h, .int a1, .int a2].toArray below meth c H locs 19 347 _ (F0 m 205 ls [.int v, .ref h]) by
    refine lv_iload_n hx hb nD_MOD_init_184 rfl (lv_at hl 2 rfl) ?_
    refine lv_iconst (v := 1) hx hb nD_MOD_init_185 (by decide) ?_
    refine lv_icmp_ge (tgt := 193) hx hb nD_MOD_init_186 (by decide) (fun h1 => ?_) (fun h1 => ?_)
    · refine lv_iload_n hx hb nD_MOD_init_193 rfl (lv_at hl 2 rfl) ?_
      refine lv_bipush (v := 8) hx hb nD_MOD_init_194 (by decide) ?_
      refine lv_icmp_le (tgt := 204) hx hb nD_MOD_init_196 (by decide) (fun h2 => ?_) (fun h2 => ?_)
      · refine lv_iload_n hx hb nD_MOD_init_204 rfl (lv_at hl 2 rfl) ?_
        exact hJ _ (by rw [md_c, if_pos h1, if_pos h2])
      · refine lv_bipush (v := 8) hx hb nD_MOD_init_199 (by decide) ?_
        refine lv_goto (tgt := 205) hx hb nD_MOD_init_201 (by decide) ?_
        exact hJ _ (by rw [md_c, if_pos h1, if_neg h2])
    · refine lv_iconst (v := 1) hx hb nD_MOD_init_189 (by decide) ?_
      refine lv_goto (tgt := 205) hx hb nD_MOD_init_190 (by decide) ?_
      exact hJ _ (by rw [md_c, if_neg h1])
  intro v hv
  subst hv
  refine gp_Fx (R := rm_M) (v := .int (md_c a2)) (ty := .int) (ref := nR_MOD) (k0 := 0) F hg hin in_MOD nY_MOD nK_MOD nM_MOD (by decide) a0 e0 rfl 1 (by decide) wf_75 rfl rfl rfl (by decide +kernel) rfl rfl (Nat.le_of_ble_eq_true rfl) nD_MOD_init_205 (fun E H locs hg gE g0 => ?_)
  have e1 := (gE 1 (by decide)).trans e1
  have e2 := (gE 2 (by decide)).trans e2
  have e3 := (gE 3 (by decide)).trans e3
  have e4 := (gE 4 (by decide)).trans e4
  have e5 := (gE 5 (by decide)).trans e5
  have e6 := (gE 6 (by decide)).trans e6
  have e7 := (gE 7 (by decide)).trans e7
  have e8 := (gE 8 (by decide)).trans e8
  have e9 := (gE 9 (by decide)).trans e9
  have e10 := (gE 10 (by decide)).trans e10
  have e11 := (gE 11 (by decide)).trans e11
  have e12 := (gE 12 (by decide)).trans e12
  have e13 := (gE 13 (by decide)).trans e13
  have e14 := (gE 14 (by decide)).trans e14
  have e15 := (gE 15 (by decide)).trans e15
  have e16 := (gE 16 (by decide)).trans e16
  have e17 := (gE 17 (by decide)).trans e17
  have e18 := (gE 18 (by decide)).trans e18
  have e19 := (gE 19 (by decide)).trans e19
  have e0 : E 0 = .inr (5, [.int (md_c a1), .int (md_c a2), .int 0, .int 0, .ref q1, .ref q2, .ref q3, .ref q4, .ref q5, .int 2, .int 0, .int 0, .int 0, .int 0, .ref q6, .ref q7, .ref q8, .ref q9, .ref q10, .ref q11, .ref q12, .ref q13, .ref q14, .ref q15, .ref q16, .ref q17, .ref q18, .ref q19, .int 0, .long 0]) := g0
  clear gE g0
  obtain ⟨hP, hD, hK, hS, hA⟩ := hg
  subst a1q
  subst a2q
  subst a3q
  subst a4q
  subst a5q
  subst a6q
  subst a7q
  subst a8q
  subst a9q
  subst a10q
  subst a11q
  subst a12q
  subst a13q
  subst a14q
  subst a15q
  subst a16q
  subst a17q
  subst a18q
  subst a19q
  have hcg : ∀ j, j < 20 → E j = md_E ad (fun k => if k = 1 then c1 else if k = 2 then c2 else if k = 3 then c3 else if k = 4 then c4 else if k = 5 then c5 else if k = 6 then c6 else if k = 7 then c7 else if k = 8 then c8 else if k = 9 then c9 else if k = 10 then c10 else if k = 11 then c11 else if k = 12 then c12 else if k = 13 then c13 else if k = 14 then c14 else if k = 15 then c15 else if k = 16 then c16 else if k = 17 then c17 else if k = 18 then c18 else c19) (md_c a1) (md_c a2) j := by
    intro j hj
    rcases (show j = 0 ∨ j = 1 ∨ j = 2 ∨ j = 3 ∨ j = 4 ∨ j = 5 ∨ j = 6 ∨ j = 7 ∨ j = 8 ∨ j = 9 ∨ j = 10 ∨ j = 11 ∨ j = 12 ∨ j = 13 ∨ j = 14 ∨ j = 15 ∨ j = 16 ∨ j = 17 ∨ j = 18 ∨ j = 19 by omega) with rfl | rfl | rfl | rfl | rfl | rfl | rfl | rfl | rfl | rfl | rfl | rfl | rfl | rfl | rfl | rfl | rfl | rfl | rfl | rfl
    · exact e0
    · exact e1
    · exact e2
    · exact e3
    · exact e4
    · exact e5
    · exact e6
    · exact e7
    · exact e8
    · exact e9
    · exact e10
    · exact e11
    · exact e12
    · exact e13
    · exact e14
    · exact e15
    · exact e16
    · exact e17
    · exact e18
    · exact e19
  rw [wl_cg hcg] at hP hD
  have hK : va_K D vwCl (md_T (fun k => if k = 1 then c1 else if k = 2 then c2 else if k = 3 then c3 else if k = 4 then c4 else if k = 5 then c5 else if k = 6 then c6 else if k = 7 then c7 else if k = 8 then c8 else if k = 9 then c9 else if k = 10 then c10 else if k = 11 then c11 else if k = 12 then c12 else if k = 13 then c13 else if k = 14 then c14 else if k = 15 then c15 else if k = 16 then c16 else if k = 17 then c17 else if k = 18 then c18 else c19)) s := hK
  exact W.vret hx hb F.2.2.2.1 (fun t ht hW => ⟨⟨(ad, fun k => if k = 1 then c1 else if k = 2 then c2 else if k = 3 then c3 else if k = 4 then c4 else if k = 5 then c5 else if k = 6 then c6 else if k = 7 then c7 else if k = 8 then c8 else if k = 9 then c9 else if k = 10 then c10 else if k = 11 then c11 else if k = 12 then c12 else if k = 13 then c13 else if k = 14 then c14 else if k = 15 then c15 else if k = 16 then c16 else if k = 17 then c17 else if k = 18 then c18 else c19), rfl, a0, by rw [ht]; exact hP, va_K.moved hW.alike hK, hD⟩, hS.F ht⟩) hS.2.2 nD_MOD_init_208 F.2.2.2.2.1
