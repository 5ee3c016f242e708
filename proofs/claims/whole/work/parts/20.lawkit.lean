/-! the law's own methods that catch: contracts, entry, end, handlers, calls of them -/
def ct_w (l : Launch) (y : MethodName) (b : ByteArray) (n : Nat) (hh : List (Nat × Nat × Nat × Nat)) (d : Nat) (x : cx_T) (av : List Value) (σ : sg_T) (r : Int32) (σ' : sg_T) : Prop :=
  ∀ sz, Met l y (.codeWith y b n (some .int) hh :: lw_ws) (rm_T d) (ct_Px x σ av sz) (va_Qi (fun a u => a = r ∧ u = σ') (ct_B x (ct_A x sz)) (ct_A x sz)) 1 6 (ct_A x sz)
abbrev qw_Q (x : cx_T) (s : State) (below : List Frame) (args : Array Value) (r : Int32) (σ' : sg_T) : State → Prop := MQ below (va_Qi (fun a u => a = r ∧ u = σ') (ct_B x (ct_A x s.heap.size)) (ct_A x s.heap.size)) args s 1 6 (ct_A x s.heap.size)
abbrev fx_L (c : Code) (s : State) (x : cx_T) (hh : List (Nat × Nat × Nat × Nat)) : Prop := xn_N (ct_A x s.heap.size) s s.heap ∧ c.exceptionTable.toList = tableOf hh
theorem en_w {l : Launch} {y : MethodName} {b : ByteArray} {n d : Nat} {hh : List (Nat × Nat × Nat × Nat)} {x : cx_T} {av : List Value} {σ σ' : sg_T} {r : Int32} {own : String} (hy : plainName y.cls = true) (hlen : (lg_sl av).length ≤ n) (ho : y.cls = own)
    (body : ∀ (p : Program) (e : Env) (s : State) (m : MethodId) (below : List Frame) (meth : Method) (c : Code) (ls : Array Slot), fx_F p s m av.toArray meth c b n (some .int) own → fx_L c s x hh → ww_P x s s.heap [] σ → lv_has ls n (lv_args 0 av) →
      W p l e (rm_T d) s m av.toArray below meth c s.heap [] 0 0 (qw_Q x s below av.toArray r σ') (F0 m 0 ls [])) : ct_w l y b n hh d x av σ r σ' := by
  intro sz
  refine va_MetW (cc := b) (maxL := n) (ret := (some .int)) (hh := hh) hy rfl ?_
  intro p e s m args below meth c s₁ B hml hv
  obtain ⟨rfl, hsz, hP, hK, hD0, hN⟩ := hv
  subst hsz
  have hts := atoms_spec (ws := .codeWith y b n (some .int) hh :: lw_ws) B.pre
  rw [lg_entry_eq]
  exact body p e s m below meth c _ ⟨B.exec, B.bytes, hml, B.returns, B.notSynchronized, ho ▸ findClass_of_methodNamed B.named, fun w h => hts w (List.mem_cons_of_mem _ h)⟩ ⟨hN, vx_table (x := y) B (hts _ List.mem_cons_self)⟩ ⟨hP, wl_self hD0, hK, va_S.rf⟩ (lv_entry av hlen)
section LK
variable {p : Program} {l : Launch} {e : Env} {R : Room} {s : State} {m : MethodId} {args : Array Value} {below : List Frame} {meth : Method} {c : Code} {H : Heap} {locs : List Loc} {cells slots : Nat} {Q : State → Prop} {x : cx_T} {σ σ' : sg_T} {b : ByteArray} {n : Nat} {ret : Option FieldType} {own : String} {pc : Nat} {ls : Array Slot} {rest : List Value}
theorem rt_w {d : Nat} (F : fx_F p s m args meth c b n (some .int) own) (hw : ww_P x s H locs σ) {v : Int32} (hdg : decode b pc = .ok (.ireturn, 1)) {z : Int32 × sg_T} (hf : some (v, σ) = some z) :
    W p l e (rm_T d) s m args below meth c H locs 1 6 (qw_Q x s below args z.1 z.2) (F0 m pc ls [.int v]) := by
  cases hf
  obtain ⟨hx, hb, hml, hr, hlk, hown, hT⟩ := F
  obtain ⟨hP, hD, hK, hS⟩ := hw
  exact W.zret hx hb hr rfl (fun t ht hW => ⟨⟨v, σ, rfl, ⟨rfl, rfl⟩, by rw [ht]; exact hP, va_K.moved hW.alike hK, hD⟩, hS.F ht⟩) hS.2.2 hdg hlk
theorem ch_a {hh : List (Nat × Nat × Nat × Nat)} {ce : Cell} {q : Addr} (a1 a2 a3 : Nat) (F : fx_F p s m args meth c b n ret nR_LAW) (G : fx_L c s x ((a1, a2, a3, 13) :: hh)) (hc : covers ⟨a1, a2, a3, 13⟩ pc = true) (hcell : H[q]? = some ce) (hv : ce.vm = .none) (hcl : s.vm.findClass xn_a = some ce.cls)
    (kk : W p l e R s m args below meth c H locs cells slots Q (F0 m a3 ls [.ref q])) : vx_W p l e R s m args below meth c H locs cells slots Q (F0 m pc ls rest) q := by
  obtain ⟨hx, hb, hml, hr, hlk, hown, hT⟩ := F
  exact vx_catch hown [] ⟨a1, a2, a3, 13⟩ (tableOf hh) G.2 (fun z hz => by cases hz) hc (show (13 : Nat) ≠ 0 by decide) (hT (.classLink nR_LAW 13 xn_a) (lw_m (i := 264) (by decide +kernel) (by decide +kernel))) (va_Nw.use rfl G.1.1.1) hcell hv hcl kk
theorem ch_s {hh : List (Nat × Nat × Nat × Nat)} {ce : Cell} {q : Addr} (a1 a2 a3 b1 b2 b3 : Nat) (F : fx_F p s m args meth c b n ret nR_LAW) (G : fx_L c s x ((a1, a2, a3, 13) :: (b1, b2, b3, 15) :: hh)) (hc : covers ⟨b1, b2, b3, 15⟩ pc = true) (hcell : H[q]? = some ce) (hv : ce.vm = .none) (hcl : s.vm.findClass xn_s = some ce.cls)
    (kk : W p l e R s m args below meth c H locs cells slots Q (F0 m b3 ls [.ref q])) : vx_W p l e R s m args below meth c H locs cells slots Q (F0 m pc ls rest) q := by
  obtain ⟨hx, hb, hml, hr, hlk, hown, hT⟩ := F
  refine vx_catch hown [⟨a1, a2, a3, 13⟩] ⟨b1, b2, b3, 15⟩ (tableOf hh) G.2 (fun z hz => ?_) hc (show (15 : Nat) ≠ 0 by decide) (hT (.classLink nR_LAW 15 xn_s) (lw_m (i := 265) (by decide +kernel) (by decide +kernel))) (va_Nw.use rfl G.1.2.1) hcell hv hcl kk
  cases List.mem_singleton.mp hz
  exact Or.inr ⟨show (13 : Nat) ≠ 0 by decide, xn_a, hT (.classLink nR_LAW 13 xn_a) (lw_m (i := 264) (by decide +kernel) (by decide +kernel)), G.1.2.2.1⟩
variable {y : MethodName} {b' : ByteArray} {n' d index : Nat} {As : List Value} {st0 : List Value} {lv : List (Nat × Value)} {hh : List (Nat × Nat × Nat × Nat)}
theorem cg_sw {r : Int32} (F : fx_F p s m args meth c b n ret own) (N : xn_N (ct_A x s.heap.size) s s.heap) (hw : ww_P x s H locs σ) (hM : ct_w l y b' n' hh d x As σ r σ') (hG : GoodIn lw_ws (va_wsS own index y (.codeWith y b' n' (some .int) hh :: lw_ws)))
    (hd : y.cls ≠ "java/lang/invoke/MethodHandle" ∧ y.cls ≠ "java/lang/invoke/VarHandle" ∧ (parseMethodDescriptor y.desc).map (fun d => d.parameters.length) = some As.length) (hN : n' ≤ 21 ∧ d + 1 ≤ R.frames ∧ 40 * (d + 1) ≤ R.locals) (hc9 : cells + 1 ≤ R.cells ∧ slots + 6 ≤ R.slots) (hl : lv_has ls n lv) (hst : st0 = As.reverse ++ rest) (hrest : (rest.map fun v => v.category).sum ≤ 8)
    (hdg : decode b pc = .ok (.invokestatic index, 3)) (kk : ∀ (H1 : Heap) (locs1 : List Loc), ww_P x s H1 locs1 σ' → H.size ≤ H1.size → (∀ q : Nat, q < H.size → ¬ ct_A x H.size q → H1[q]? = H[q]?) → W p l e R s m args below meth c H1 locs1 (cells + 1) (slots + 6) Q (F0 m (pc + 3) ls (.int r :: rest))) :
    W p l e R s m args below meth c H locs cells slots Q (F0 m pc ls st0) := by
  obtain ⟨hx, hb, hml, hr, hlk, hown, hT⟩ := F
  obtain ⟨hP, hD, hK, hS⟩ := hw
  refine va_calli (vx_runSW (hh := hh) (As := As) (rest := rest) ⟨hx, hb, hml, hown, hT⟩ (hM H.size) (vx_cwSW As.length hT hG rfl rfl rfl hd ⟨hN.2.1, by simp only [rm_T]; omega⟩) ⟨ct_blx, fun U hU hW => ⟨rfl, by rw [hU], by rw [hU]; exact hP, va_K.moved hW.alike hK, hD.weaken (fun _ _ _ _ => trivial), xn_at N hS hU hW⟩⟩ rfl rfl hl.1 hst (lv_room hrest) hdg hc9) hS (fun q _ h => wl_mono hS.1 h) (fun q h => wl_mono hS.1 h) (fun r' u t H1 locs1 ht hvm hp hB hz1 hk1 hS1 => ?_)
  obtain ⟨rfl, rfl⟩ := hp
  obtain ⟨hP1, hK1, hD1⟩ := hB
  rw [ht] at hP1
  exact kk H1 locs1 ⟨hP1, hD1.weaken (fun _ _ _ h => wl_mono hS.1 h), hK, hS1⟩ hz1 hk1
end LK
theorem gs_W {own : String} {idx : Nat} {y : MethodName} {b : ByteArray} {n : Nat} {ret : Option FieldType} {hh : List (Nat × Nat × Nat × Nat)} (h1 : Cond.methodLink own idx y ∈ lw_ws) (h2 : Cond.static y ∈ lw_ws) (h4 : Cond.initialized y.cls ∈ lw_ws) (h5 : Cond.codeWith y b n ret hh ∈ lw_ws) : GoodIn lw_ws (va_wsS own idx y (.codeWith y b n ret hh :: lw_ws)) := by
  intro w hw
  unfold va_wsS at hw
  simp only [List.cons_append, List.nil_append, List.mem_cons] at hw
  rcases hw with rfl | rfl | rfl | rfl | hw
  · exact lw_good _ h1
  · exact lw_good _ h2
  · exact lw_good _ h4
  · exact lw_good _ h5
  · exact lw_good _ hw
