/-! methods of the class that throw: contracts, entry, ends, calls under any room -/
def rm_T (d : Nat) : Room := { frames := d, cells := 1, slots := 6, locals := 40 * d }
abbrev xn_a : String := "java/lang/IllegalArgumentException"
abbrev xn_s : String := "java/lang/IllegalStateException"
abbrev xn_l : List String := ["java/lang/RuntimeException", "java/lang/Exception"]
/-- what throwing and catching need of the start -/
def xn_y (C : String) : MethodName := ⟨C, "<init>", "()V"⟩
def xn_N (A : Nat → Prop) (U : State) (H : Heap) : Prop := (va_Nw (.castable xn_a xn_a) U ∧ va_Nw (.declares (xn_y "java/lang/RuntimeException")) U ∧ va_Nw (.declares (xn_y "java/lang/Exception")) U ∧ va_Nw (.declares (xn_y "java/lang/Throwable")) U) ∧ va_Nw (.castable xn_s xn_s) U ∧ va_Nc xn_s xn_a U ∧ vx_Zq Bundle.tN "UNASSIGNED_STACK" Bundle.steD A U H ∧ vx_Zq Bundle.tN "SUPPRESSED_SENTINEL" Bundle.listD A U H
theorem xn_warm {A : Nat → Prop} {s U : State} {H : Heap} (hW : s.WarmedH U.vm) (N : xn_N A s H) : xn_N A U H := by
  obtain ⟨n1, n2, n3, n4, n5⟩ := N
  exact ⟨⟨va_Nw.warmC hW n1.1, va_Nw.warmD hW n1.2.1, va_Nw.warmD hW n1.2.2.1, va_Nw.warmD hW n1.2.2.2⟩, va_Nw.warmC hW n2, n3.moved hW.alike, vx_Zq.moved hW.alike n4, vx_Zq.moved hW.alike n5⟩
theorem xn_at {x : cx_T} {s U : State} {H : Heap} {locs : List Loc} (N : xn_N (ct_A x s.heap.size) s s.heap) (hS : va_S (ct_A x s.heap.size) s.heap H locs) (hU : U.heap = H) (hW : s.WarmedH U.vm) : xn_N (ct_A x H.size) U U.heap := by
  obtain ⟨n1, n2, n3, n4, n5⟩ := N
  rw [hU]
  exact xn_warm hW ⟨n1, n2, n3, (n4.kept hS.2.1).narrow (fun q h => wl_mono hS.1 h), (n5.kept hS.2.1).narrow (fun q h => wl_mono hS.1 h)⟩
/-- how a call ends: 0 and an answer, 1 or 2: an exception -/
abbrev tr_T : Type := Nat × Int32 × sg_T
def xk_E (k : Nat) (E : String) : Prop := (k = 1 ∧ E = xn_a) ∨ (k = 2 ∧ E = xn_s)
abbrev ct_Px (x : cx_T) (σ : sg_T) (av : List Value) (sz : Nat) : Array Value → State → Prop := va_Pc av (fun U => U.heap.size = sz ∧ va_P x.1 vwCl (ww_W x σ) U.heap ∧ va_K x.1 vwCl (tt_A x) U ∧ va_D (fun _ => True) (ww_W x σ) ∧ xn_N (ct_A x sz) U U.heap)
theorem ct_blx {x : cx_T} {σ : sg_T} {av : List Value} {sz : Nat} : FrameBlind (ct_Px x σ av sz) := fun a U g mk q => by
  obtain ⟨q0, q1, qP, qK, qD, qN⟩ := q
  exact ⟨q0, q1, qP, va_K.moved (u := U) (U := U.calling g mk a) (Vm.Alike.refl U.vm) qK, qD, xn_warm (s := U) (U := U.calling g mk a) (State.WarmedH.refl U) qN⟩
abbrev ct_Qt (x : cx_T) (z : tr_T) (sz : Nat) : Array Value → State → Outcome → State → Prop := va_Qi (fun a u => z.1 = 0 ∧ a = z.2.1 ∧ u = z.2.2) (ct_B x (ct_A x sz)) (ct_A x sz)
abbrev ct_X (x : cx_T) (z : tr_T) (sz : Nat) : String → State → State → Prop := vx_X (fun u => u = z.2.2) (fun E u t => xk_E z.1 E ∧ ct_B x (ct_A x sz) u t) (ct_A x sz)
def ct_t (l : Launch) (y : MethodName) (b : ByteArray) (n : Nat) (ret : Option FieldType) (d : Nat) (x : cx_T) (av : List Value) (σ : sg_T) (z : tr_T) : Prop :=
  ∀ sz, vx_Met l y (.code y b n ret :: lw_ws) (rm_T d) (ct_Px x σ av sz) (ct_Qt x z sz) (ct_X x z sz) 1 6 (ct_A x sz)
abbrev qt_Q (x : cx_T) (s : State) (below : List Frame) (args : Array Value) (z : tr_T) : State → Prop := vx_MQ below (ct_Qt x z s.heap.size) (ct_X x z s.heap.size) args s 1 6 (ct_A x s.heap.size)
abbrev fx_G (l : Launch) (c : Code) (s : State) (x : cx_T) : Prop := xn_N (ct_A x s.heap.size) s s.heap ∧ (∀ w ∈ c.exceptionTable.toList, False) ∧ l.stackTraces = false
theorem en_t {l : Launch} {y : MethodName} {b : ByteArray} {n d : Nat} {ret : Option FieldType} {x : cx_T} {av : List Value} {σ : sg_T} {z : tr_T} {own : String} (hl9 : l.stackTraces = false) (hy : plainName y.cls = true) (hlen : (lg_sl av).length ≤ n) (ho : y.cls = own)
    (body : ∀ (p : Program) (e : Env) (s : State) (m : MethodId) (below : List Frame) (meth : Method) (c : Code) (ls : Array Slot), fx_F p s m av.toArray meth c b n ret own → fx_G l c s x → ww_P x s s.heap [] σ → lv_has ls n (lv_args 0 av) →
      W p l e (rm_T d) s m av.toArray below meth c s.heap [] 0 0 (qt_Q x s below av.toArray z) (F0 m 0 ls [])) : ct_t l y b n ret d x av σ z := by
  intro sz
  refine vx_ofW (cc := b) (maxL := n) (ret := ret) hy rfl ?_
  intro p e s m args below meth c s₁ B hml hno hv
  obtain ⟨rfl, hsz, hP, hK, hD0, hN⟩ := hv
  subst hsz
  have hts := atoms_spec (ws := .code y b n ret :: lw_ws) B.pre
  rw [lg_entry_eq]
  exact body p e s m below meth c _ ⟨B.exec, B.bytes, hml, B.returns, B.notSynchronized, ho ▸ findClass_of_methodNamed B.named, fun w h => hts w (List.mem_cons_of_mem _ h)⟩ ⟨hN, hno, hl9⟩ ⟨hP, wl_self hD0, hK, va_S.rf⟩ (lv_entry av hlen)
section TK
variable {p : Program} {l : Launch} {e : Env} {R : Room} {s : State} {m : MethodId} {args : Array Value} {below : List Frame} {meth : Method} {c : Code} {H : Heap} {locs : List Loc} {cells slots : Nat} {Q : State → Prop} {x : cx_T} {σ σ' : sg_T} {b : ByteArray} {n : Nat} {ret : Option FieldType} {own : String} {pc : Nat} {ls : Array Slot} {rest : List Value}
theorem rt_t {d : Nat} {ty : FieldType} (F : fx_F p s m args meth c b n (some ty) own) (hw : ww_P x s H locs σ) {v : Int32} (hn : narrow ty (.int v) = .int v) (hdg : decode b pc = .ok (.ireturn, 1)) {z : tr_T} (hf : some (0, v, σ) = some z) :
    W p l e (rm_T d) s m args below meth c H locs 0 0 (qt_Q x s below args z) (F0 m pc ls [.int v]) := by
  cases hf
  obtain ⟨hx, hb, hml, hr, hlk, hown, hT⟩ := F
  obtain ⟨hP, hD, hK, hS⟩ := hw
  refine vx_ret (W.widen (k := 1) (n := 6) (by decide) (by decide) ?_)
  exact W.zret hx hb hr hn (fun t ht hW => ⟨⟨v, σ, rfl, ⟨rfl, rfl, rfl⟩, by rw [ht]; exact hP, va_K.moved hW.alike hK, hD⟩, hS.F ht⟩) hS.2.2 hdg hlk
theorem th_0 {d : Nat} {lv : List (Nat × Value)} (F : fx_F p s m args meth c b n ret own) (G : fx_G l c s x) (hw : ww_P x s H locs σ) (hl : lv_has ls n lv) (hd : 6 ≤ d) {cls : String} {ik ic : Nat} (kd : Nat) (hE : xk_E kd cls) (hcls : Bundle.fit cls = true)
    (hk : Cond.classLink own ik cls ∈ lw_ws) (hini : Cond.initialized cls ∈ lw_ws) (hat : ∀ w ∈ (vx_at0 own ic cls xn_l).filter goodWord, w ∈ lw_ws) (hbad : ∀ w ∈ (vx_at0 own ic cls xn_l).filter (fun w => !goodWord w), w ∈ [Cond.castable xn_a xn_a, Cond.castable xn_s xn_s, Cond.declares (xn_y "java/lang/RuntimeException"), Cond.declares (xn_y "java/lang/Exception"), Cond.declares (xn_y "java/lang/Throwable")])
    (hgood : ∀ w ∈ Cond.classLink own ik cls :: Cond.initialized cls :: vx_at0 own ic cls xn_l, vx_ot w = true)
    (d0 : decode b pc = .ok (.new ik, 3)) (d3 : decode b (pc + 3) = .ok (.dup, 1)) (d4 : decode b (pc + 4) = .ok (.invokespecial ic, 3)) (d7 : decode b (pc + 7) = .ok (.athrow, 1)) {z : tr_T} (hf : some (kd, (0 : Int32), σ) = some z) :
    W p l e (rm_T d) s m args below meth c H locs 0 0 (qt_Q x s below args z) (F0 m pc ls []) := by
  cases hf
  obtain ⟨hx, hb, hml, hr, hlk, hown, hT⟩ := F
  obtain ⟨hP, hD, hK, hS⟩ := hw
  obtain ⟨⟨n1, n2, n3, n4, n5⟩, hno, hl9⟩ := G
  refine vx_throw0 hx hb hl9 hown hcls (by decide) (hT _ hk) (hT _ hini) (vx_hat (fun w h => hT w (hat w h)) hbad (vx_c (va_Nw.use rfl n1.1) (vx_c (va_Nw.use rfl n2) (vx_c (va_Nw.use rfl n1.2.1) (vx_c (va_Nw.use rfl n1.2.2.1) (vx_c (va_Nw.use rfl n1.2.2.2) vx_n)))))) hgood n4 n5 hS (hl.1.trans hml.symm) d0 d3 d4 d7 (fun w hw => (hno w hw).elim) (by simp only [rm_T, List.length_cons, List.length_nil]; omega) (by simp only [rm_T, List.length_cons, List.length_nil, List.map_nil, List.sum_nil]; omega) (by simp only [rm_T]; omega) (by simp only [rm_T]; omega) hlk ?_ hS.2.2 (by decide) (by decide)
  intro t hvm hz hkeep
  exact ⟨σ, rfl, ⟨hE, hP.kept (fun k q hk => hkeep q.1 ((hP k q hk).lt)), va_K.moved hvm hK, hD⟩, Nat.le_trans hS.1 hz, fun q h1 h2 => (hkeep q (Nat.lt_of_lt_of_le h1 hS.1)).trans (hS.2.1 q h1 h2)⟩
variable {y : MethodName} {b' : ByteArray} {n' d k index : Nat} {ret' : Option FieldType} {As : List Value} {st0 : List Value} {lv : List (Nat × Value)}
theorem cg_vi {r : Int32} (F : fx_F p s m args meth c b n ret own) (hw : ww_P x s H locs σ) (hM : ct_i l y b' n' ret' d x (.ref (x.2.2 k) :: As) σ r σ') (hrc : rc_C x k y.cls) (hG : GoodIn lw_ws (wsV own index y.cls y (.code y b' n' ret' :: lw_ws)))
    (hd : y.cls ≠ "java/lang/invoke/MethodHandle" ∧ y.cls ≠ "java/lang/invoke/VarHandle" ∧ (parseMethodDescriptor y.desc).map (fun d => d.parameters.length) = some As.length) (hN : n' ≤ 21 ∧ d + 1 ≤ R.frames ∧ 40 * (d + 1) ≤ R.locals) (hc9 : cells ≤ R.cells ∧ slots ≤ R.slots) (hl : lv_has ls n lv) (hst : st0 = As.reverse ++ .ref (x.2.2 k) :: rest) (hrest : (rest.map fun v => v.category).sum ≤ 8)
    (hdg : decode b pc = .ok (.invokevirtual index, 3)) (kk : ∀ (H1 : Heap) (locs1 : List Loc), ww_P x s H1 locs1 σ' → W p l e R s m args below meth c H1 locs1 cells slots Q (F0 m (pc + 3) ls (.int r :: rest))) :
    W p l e R s m args below meth c H locs cells slots Q (F0 m pc ls st0) := by
  obtain ⟨hx, hb, hml, hr, hlk, hown, hT⟩ := F
  obtain ⟨hP, hD, hK, hS⟩ := hw
  obtain ⟨ci, fs, q, he, hc, hq⟩ := hrc σ
  have hrecv := va_recv hK hP hc he
  rw [hq] at hrecv
  refine va_calli (va_runV (C := y.cls) (As := As) (rest := rest) ⟨hx, hb, hml, hown, hT⟩ (hM H.size) (cwV As.length hT hG rfl rfl rfl ⟨rfl, hd⟩ ⟨hN.2.1, by simp only [rm_D]; omega⟩) ⟨ct_bl, hrecv, fun U hU hW => ⟨rfl, by rw [hU], by rw [hU]; exact hP, va_K.moved hW.alike hK, hD.weaken (fun _ _ _ _ => trivial)⟩⟩ rfl rfl hl.1 hst (lv_room hrest) hdg hc9) hS (fun q _ h => wl_mono hS.1 h) (fun q h => wl_mono hS.1 h) (fun r' u t H1 locs1 ht hvm hp hB hz1 hk1 hS1 => ?_)
  obtain ⟨rfl, rfl⟩ := hp
  obtain ⟨hP1, hK1, hD1⟩ := hB
  rw [ht] at hP1
  exact kk H1 locs1 ⟨hP1, hD1.weaken (fun _ _ _ h => wl_mono hS.1 h), hK, hS1⟩
theorem cg_vv (F : fx_F p s m args meth c b n ret own) (hw : ww_P x s H locs σ) (hM : ct_v l y b' n' d x (.ref (x.2.2 k) :: As) σ σ') (hrc : rc_C x k y.cls) (hG : GoodIn lw_ws (wsV own index y.cls y (.code y b' n' none :: lw_ws)))
    (hd : y.cls ≠ "java/lang/invoke/MethodHandle" ∧ y.cls ≠ "java/lang/invoke/VarHandle" ∧ (parseMethodDescriptor y.desc).map (fun d => d.parameters.length) = some As.length) (hN : n' ≤ 21 ∧ d + 1 ≤ R.frames ∧ 40 * (d + 1) ≤ R.locals) (hc9 : cells ≤ R.cells ∧ slots ≤ R.slots) (hl : lv_has ls n lv) (hst : st0 = As.reverse ++ .ref (x.2.2 k) :: rest) (hrest : (rest.map fun v => v.category).sum ≤ 8)
    (hdg : decode b pc = .ok (.invokevirtual index, 3)) (kk : ∀ (H1 : Heap) (locs1 : List Loc), ww_P x s H1 locs1 σ' → W p l e R s m args below meth c H1 locs1 cells slots Q (F0 m (pc + 3) ls rest)) :
    W p l e R s m args below meth c H locs cells slots Q (F0 m pc ls st0) := by
  obtain ⟨hx, hb, hml, hr, hlk, hown, hT⟩ := F
  obtain ⟨hP, hD, hK, hS⟩ := hw
  obtain ⟨ci, fs, q, he, hc, hq⟩ := hrc σ
  have hrecv := va_recv hK hP hc he
  rw [hq] at hrecv
  refine va_callv (va_runV (C := y.cls) (As := As) (rest := rest) ⟨hx, hb, hml, hown, hT⟩ (hM H.size) (cwV As.length hT hG rfl rfl rfl ⟨rfl, hd⟩ ⟨hN.2.1, by simp only [rm_D]; omega⟩) ⟨ct_bl, hrecv, fun U hU hW => ⟨rfl, by rw [hU], by rw [hU]; exact hP, va_K.moved hW.alike hK, hD.weaken (fun _ _ _ _ => trivial)⟩⟩ rfl rfl hl.1 hst (lv_room hrest) hdg hc9) hS (fun q _ h => wl_mono hS.1 h) (fun q h => wl_mono hS.1 h) (fun u t H1 locs1 ht hvm hp hB hz1 hk1 hS1 => ?_)
  subst hp
  obtain ⟨hP1, hK1, hD1⟩ := hB
  rw [ht] at hP1
  exact kk H1 locs1 ⟨hP1, hD1.weaken (fun _ _ _ h => wl_mono hS.1 h), hK, hS1⟩
theorem cg_cs {b9 : ByteArray} {ret9 : Option FieldType} (hT : ∀ w ∈ lw_ws, w.before args s = true) (hG : GoodIn lw_ws (va_wsS own index y (.code y b9 n' ret9 :: lw_ws))) (hd : y.cls ≠ "java/lang/invoke/MethodHandle" ∧ y.cls ≠ "java/lang/invoke/VarHandle" ∧ (parseMethodDescriptor y.desc).map (fun d => d.parameters.length) = some As.length) (hN : n' ≤ 21 ∧ d + 1 ≤ R.frames ∧ 40 * (d + 1) ≤ R.locals) :
    CallB R s args own index y b9 n' ret9 (.code y b9 n' ret9 :: lw_ws) (rm_D d) 0 0 As.length ∧ (Cond.static y).before args s = true := by
  have ok : ∀ w ∈ va_wsS own index y (.code y b9 n' ret9 :: lw_ws), w.before args s = true := fun w h => hT w (hG w h).1
  exact ⟨callB_of As.length hT (fun w h => hG w (by unfold va_wsS; exact List.mem_append_right _ h)) rfl rfl rfl (ok _ (by simp [va_wsS])) (ok _ (by simp [va_wsS])) hd ⟨hN.2.1, by simp only [rm_D]; omega⟩, ok _ (by simp [va_wsS])⟩
theorem cg_si {r : Int32} (F : fx_F p s m args meth c b n ret own) (hw : ww_P x s H locs σ) (hM : ct_i l y b' n' ret' d x As σ r σ') (hG : GoodIn lw_ws (va_wsS own index y (.code y b' n' ret' :: lw_ws)))
    (hd : y.cls ≠ "java/lang/invoke/MethodHandle" ∧ y.cls ≠ "java/lang/invoke/VarHandle" ∧ (parseMethodDescriptor y.desc).map (fun d => d.parameters.length) = some As.length) (hN : n' ≤ 21 ∧ d + 1 ≤ R.frames ∧ 40 * (d + 1) ≤ R.locals) (hc9 : cells ≤ R.cells ∧ slots ≤ R.slots) (hl : lv_has ls n lv) (hst : st0 = As.reverse ++ rest) (hrest : (rest.map fun v => v.category).sum ≤ 8)
    (hdg : decode b pc = .ok (.invokestatic index, 3)) (kk : ∀ (H1 : Heap) (locs1 : List Loc), ww_P x s H1 locs1 σ' → W p l e R s m args below meth c H1 locs1 cells slots Q (F0 m (pc + 3) ls (.int r :: rest))) :
    W p l e R s m args below meth c H locs cells slots Q (F0 m pc ls st0) := by
  obtain ⟨hx, hb, hml, hr, hlk, hown, hT⟩ := F
  obtain ⟨hP, hD, hK, hS⟩ := hw
  refine va_calli (va_runS (As := As) (rest := rest) ⟨hx, hb, hml, hown, hT⟩ (hM H.size) (cg_cs hT hG hd hN) ⟨ct_bl, fun U hU hW => ⟨rfl, by rw [hU], by rw [hU]; exact hP, va_K.moved hW.alike hK, hD.weaken (fun _ _ _ _ => trivial)⟩⟩ rfl rfl hl.1 hst (lv_room hrest) hdg hc9) hS (fun q _ h => wl_mono hS.1 h) (fun q h => wl_mono hS.1 h) (fun r' u t H1 locs1 ht hvm hp hB hz1 hk1 hS1 => ?_)
  obtain ⟨rfl, rfl⟩ := hp
  obtain ⟨hP1, hK1, hD1⟩ := hB
  rw [ht] at hP1
  exact kk H1 locs1 ⟨hP1, hD1.weaken (fun _ _ _ h => wl_mono hS.1 h), hK, hS1⟩
/-- a call of a method that may throw -/
theorem cg_vt {z : tr_T} (F : fx_F p s m args meth c b n ret own) (N : xn_N (ct_A x s.heap.size) s s.heap) (hw : ww_P x s H locs σ) (hM : ct_t l y b' n' ret' d x (.ref (x.2.2 k) :: As) σ z) (hrc : rc_C x k y.cls) (hG : GoodIn lw_ws (wsV own index y.cls y (.code y b' n' ret' :: lw_ws)))
    (hd : y.cls ≠ "java/lang/invoke/MethodHandle" ∧ y.cls ≠ "java/lang/invoke/VarHandle" ∧ (parseMethodDescriptor y.desc).map (fun d => d.parameters.length) = some As.length) (hN : n' ≤ 21 ∧ d + 1 ≤ R.frames ∧ 40 * (d + 1) ≤ R.locals) (hc9 : cells + 1 ≤ R.cells ∧ slots + 6 ≤ R.slots) (hl : lv_has ls n lv) (hst : st0 = As.reverse ++ .ref (x.2.2 k) :: rest) (hrest : (rest.map fun v => v.category).sum ≤ 8)
    (hdg : decode b pc = .ok (.invokevirtual index, 3))
    (kx : ∀ (E : String) (ce : Cell) (q9 : Addr) (H1 : Heap) (locs1 : List Loc), ww_P x s H1 locs1 z.2.2 → xk_E z.1 E → H1[q9]? = some ce → ce.vm = .none → s.vm.findClass E = some ce.cls → vx_W p l e R s m args below meth c H1 locs1 (cells + 1) (slots + 6) Q (F0 m pc ls rest) q9)
    (kk : ∀ (H1 : Heap) (locs1 : List Loc), ww_P x s H1 locs1 z.2.2 → z.1 = 0 → W p l e R s m args below meth c H1 locs1 (cells + 1) (slots + 6) Q (F0 m (pc + 3) ls (.int z.2.1 :: rest))) :
    W p l e R s m args below meth c H locs cells slots Q (F0 m pc ls st0) := by
  obtain ⟨hx, hb, hml, hr, hlk, hown, hT⟩ := F
  obtain ⟨hP, hD, hK, hS⟩ := hw
  obtain ⟨ci, fs, q, he, hc, hq⟩ := hrc σ
  have hrecv := va_recv hK hP hc he
  rw [hq] at hrecv
  refine vx_calli (vx_runV (C := y.cls) (As := As) (rest := rest) ⟨hx, hb, hml, hown, hT⟩ (hM H.size) (cwV As.length hT hG rfl rfl rfl ⟨rfl, hd⟩ ⟨hN.2.1, by simp only [rm_T]; omega⟩) ⟨ct_blx, hrecv, fun U hU hW => ⟨rfl, by rw [hU], by rw [hU]; exact hP, va_K.moved hW.alike hK, hD.weaken (fun _ _ _ _ => trivial), xn_at N hS hU hW⟩⟩ rfl rfl hl.1 hst (lv_room hrest) hdg hc9) hS (fun q _ h => wl_mono hS.1 h) (fun q h => wl_mono hS.1 h) (fun q _ h => wl_mono hS.1 h) (fun E ce q9 u t H1 locs1 ht hvm hp hB hz1 hk1 hS1 g1 g2 g3 => ?_) (fun r' u t H1 locs1 ht hvm hp hB hz1 hk1 hS1 => ?_)
  · subst hp
    obtain ⟨hE, hP1, hK1, hD1⟩ := hB
    rw [ht] at hP1
    exact kx E ce q9 H1 locs1 ⟨hP1, hD1.weaken (fun _ _ _ h => wl_mono hS.1 h), hK, hS1⟩ hE g1 g2 g3
  · obtain ⟨h0, rfl, rfl⟩ := hp
    obtain ⟨hP1, hK1, hD1⟩ := hB
    rw [ht] at hP1
    exact kk H1 locs1 ⟨hP1, hD1.weaken (fun _ _ _ h => wl_mono hS.1 h), hK, hS1⟩ h0
end TK
theorem tw_a : ∀ w ∈ (vx_at0 nR_TM 73 xn_a xn_l).filter goodWord, w ∈ lw_tbl := by decide +kernel
theorem tw_s : ∀ w ∈ (vx_at0 nR_TM 83 xn_s xn_l).filter goodWord, w ∈ lw_tbl := by decide +kernel
theorem tw_ba : ∀ w ∈ (vx_at0 nR_TM 73 xn_a xn_l).filter (fun w => !goodWord w), w ∈ [Cond.castable xn_a xn_a, Cond.castable xn_s xn_s, Cond.declares (xn_y "java/lang/RuntimeException"), Cond.declares (xn_y "java/lang/Exception"), Cond.declares (xn_y "java/lang/Throwable")] := by decide +kernel
theorem tw_bs : ∀ w ∈ (vx_at0 nR_TM 83 xn_s xn_l).filter (fun w => !goodWord w), w ∈ [Cond.castable xn_a xn_a, Cond.castable xn_s xn_s, Cond.declares (xn_y "java/lang/RuntimeException"), Cond.declares (xn_y "java/lang/Exception"), Cond.declares (xn_y "java/lang/Throwable")] := by decide +kernel
theorem tw_ga : ∀ w ∈ Cond.classLink nR_TM 71 xn_a :: Cond.initialized xn_a :: vx_at0 nR_TM 73 xn_a xn_l, vx_ot w = true := by decide +kernel
theorem tw_gs : ∀ w ∈ Cond.classLink nR_TM 81 xn_s :: Cond.initialized xn_s :: vx_at0 nR_TM 83 xn_s xn_l, vx_ot w = true := by decide +kernel
section TH
variable {p : Program} {l : Launch} {e : Env} {s : State} {m : MethodId} {args : Array Value} {below : List Frame} {meth : Method} {c : Code} {H : Heap} {locs : List Loc} {x : cx_T} {σ : sg_T} {b : ByteArray} {n : Nat} {ret : Option FieldType} {pc : Nat} {ls : Array Slot}
theorem th_a {d : Nat} {lv : List (Nat × Value)} (F : fx_F p s m args meth c b n ret nR_TM) (G : fx_G l c s x) (hw : ww_P x s H locs σ) (hl : lv_has ls n lv) (hd : 6 ≤ d) (d0 : decode b pc = .ok (.new 71, 3)) (d3 : decode b (pc + 3) = .ok (.dup, 1)) (d4 : decode b (pc + 4) = .ok (.invokespecial 73, 3)) (d7 : decode b (pc + 7) = .ok (.athrow, 1)) {z : tr_T} (hf : some (1, (0 : Int32), σ) = some z) :
    W p l e (rm_T d) s m args below meth c H locs 0 0 (qt_Q x s below args z) (F0 m pc ls []) :=
  th_0 F G hw hl hd 1 (Or.inl ⟨rfl, rfl⟩) (by decide) (lw_m (i := 270) (by decide +kernel) (by decide +kernel)) (lw_m (i := 59) (by decide +kernel) (by decide +kernel)) (fun w h => List.mem_filter.mpr ⟨tw_a w h, (List.mem_filter.mp h).2⟩) tw_ba tw_ga d0 d3 d4 d7 hf
theorem th_s {d : Nat} {lv : List (Nat × Value)} (F : fx_F p s m args meth c b n ret nR_TM) (G : fx_G l c s x) (hw : ww_P x s H locs σ) (hl : lv_has ls n lv) (hd : 6 ≤ d) (d0 : decode b pc = .ok (.new 81, 3)) (d3 : decode b (pc + 3) = .ok (.dup, 1)) (d4 : decode b (pc + 4) = .ok (.invokespecial 83, 3)) (d7 : decode b (pc + 7) = .ok (.athrow, 1)) {z : tr_T} (hf : some (2, (0 : Int32), σ) = some z) :
    W p l e (rm_T d) s m args below meth c H locs 0 0 (qt_Q x s below args z) (F0 m pc ls []) :=
  th_0 F G hw hl hd 2 (Or.inr ⟨rfl, rfl⟩) (by decide) (lw_m (i := 336) (by decide +kernel) (by decide +kernel)) (lw_m (i := 60) (by decide +kernel) (by decide +kernel)) (fun w h => List.mem_filter.mpr ⟨tw_s w h, (List.mem_filter.mp h).2⟩) tw_bs tw_gs d0 d3 d4 d7 hf
end TH
