/-! making: worlds that grow -/
theorem wl_push {ad : Nat → Nat} {n q : Nat} {E : Nat → va_E} {e : va_E} : wl_W (va_up ad n q) (n + 1) (va_up E n e) = wl_W ad n E ++ [(q, e)] := by
  unfold wl_W
  rw [List.range_succ, List.map_append]
  congr 1
  · apply List.map_congr_left
    intro i hi
    have : i ≠ n := by
      have := List.mem_range.mp hi
      omega
    rw [va_up_ne _ _ this, va_up_ne _ _ this]
  · simp [va_up_self]
def gw_P (D : va_G) (tys : List (ClassId × FieldType)) (A : Nat → Prop) (s : State) (H : Heap) (locs : List Loc) (ad : Nat → Nat) (n : Nat) (E : Nat → va_E) : Prop :=
  va_P D vwCl (wl_W ad n E) H ∧ va_D A (wl_W ad n E) ∧ va_K D vwCl tys s ∧ va_S A s.heap H locs ∧ ∀ q, s.heap.size ≤ q → A q
section GW
variable {p : Program} {l : Launch} {e : Env} {R : Room} {s : State} {m : MethodId} {args : Array Value} {below : List Frame} {meth : Method} {c : Code} {H : Heap} {locs : List Loc} {cells slots : Nat} {Q : State → Prop} {b : ByteArray} {nL : Nat} {ret0 : Option FieldType} {own : String} {pc : Nat} {ls : Array Slot} {rest : List Value} {D : va_G} {tys : List (ClassId × FieldType)} {A : Nat → Prop} {ad : Nat → Nat} {n : Nat} {E : Nat → va_E}
theorem gn_o (F : fx_F p s m args meth c b nL ret0 own) (hg : gw_P D tys A s H locs ad n E) {C : String} {T : u_T} {N ci index : Nat} (hin : ∀ w ∈ u_ws C T N, w ∈ lw_ws) (ty : Nat → FieldType) (hty : ∀ k, k < N → parseFieldDescriptor (T k).2.2.1 = some (ty k)) (hcl : Cond.classLink own index C ∈ lw_ws) (hinst : Cond.instantiable C N ∈ lw_ws) (hini : Cond.initialized C ∈ lw_ws) (hc : vwCl[ci]? = some (C, T, N)) {fs : List Value} (hfs : ∀ j, j < N → defaultValue (ty j) = vp_V fs j) (hcells : cells + 1 ≤ R.cells) (hslots : slots + N ≤ R.slots) (hdg : decode b pc = .ok (.new index, 3))
    (kk : ∀ (q : Nat) (H1 : Heap), gw_P D tys A s H1 locs (va_up ad n q) (n + 1) (va_up E n (.inr (ci, fs))) → W p l e R s m args below meth c H1 locs (cells + 1) (slots + N) Q (F0 m (pc + 3) ls (.ref q :: rest))) : W p l e R s m args below meth c H locs cells slots Q (F0 m pc ls rest) := by
  obtain ⟨hx, hb, hml, hr, hlk, hown, hT⟩ := F
  obtain ⟨hP, hD, hK, hS, hA⟩ := hg
  refine va_new (ci := ci) (fs := fs) hx hb hT hin ty hty hown (hT _ hcl) (hT _ hinst) (hT _ hini) hK hP hD hS hA hc hfs hcells hslots hdg (fun q H1 hP hD hS => ?_)
  rw [← wl_push] at hP hD
  exact kk q H1 ⟨hP, hD, hK, hS, hA⟩
theorem gn_q (F : fx_F p s m args meth c b nL ret0 own) (hg : gw_P D tys A s H locs ad n E) {C : String} {index : Nat} (hcl : Cond.classLink own index C ∈ lw_ws) (hover : va_AO C s) {w : Int32} {N : Nat} (hn : ¬ w < 0) (hN : w.toNatClampNeg = N) (hbytes : N * 4 ≤ 536870912) (hcells : cells + 1 ≤ R.cells) (hslots : slots + N ≤ R.slots) (hdg : decode b pc = .ok (.anewarray index, 3))
    (kk : ∀ (q : Nat) (cA : ClassId) (H1 : Heap), gw_P D (tys ++ [(cA, .object C)]) A s H1 locs (va_up ad n q) (n + 1) (va_up E n (.inl (cA, N, .inr (.inr (.inr (.inr (fun _ => none))))))) → W p l e R s m args below meth c H1 locs (cells + 1) (slots + N) Q (F0 m (pc + 3) ls (.ref q :: rest))) : W p l e R s m args below meth c H locs cells slots Q (F0 m pc ls (.int w :: rest)) := by
  obtain ⟨hx, hb, hml, hr, hlk, hown, hT⟩ := F
  obtain ⟨hP, hD, hK, hS, hA⟩ := hg
  refine va_newq hx hb hown (hT _ hcl) hover hK hP hD hS hA hn hN hbytes hcells hslots hdg (fun q cA H1 hK hP hD hS => ?_)
  rw [← wl_push] at hP hD
  exact kk q cA H1 ⟨hP, hD, hK, hS, hA⟩
theorem gn_a (F : fx_F p s m args meth c b nL ret0 own) (hg : gw_P D tys A s H locs ad n E) {atype : ArrayType} {ty : FieldType} (harr : Cond.arrayClass ty ∈ lw_ws) (hty : newarray.typeOf atype = ty) {w : Int32} {N : Nat} {a0 : vp_A} (ha : ∀ cA : ClassId, vp_cell cA a0 = arrV cA N (fun _ => defaultValue ty)) (hn : ¬ w < 0) (hN : w.toNatClampNeg = N) (hbytes : N * componentBytes ty ≤ 536870912) (hcells : cells + 1 ≤ R.cells) (hslots : slots + N ≤ R.slots) (hdg : decode b pc = .ok (.newarray atype, 2))
    (kk : ∀ (q : Nat) (cA : ClassId) (H1 : Heap), gw_P D (tys ++ [(cA, ty)]) A s H1 locs (va_up ad n q) (n + 1) (va_up E n (.inl (cA, a0))) → W p l e R s m args below meth c H1 locs (cells + 1) (slots + N) Q (F0 m (pc + 2) ls (.ref q :: rest))) : W p l e R s m args below meth c H locs cells slots Q (F0 m pc ls (.int w :: rest)) := by
  obtain ⟨hx, hb, hml, hr, hlk, hown, hT⟩ := F
  obtain ⟨hP, hD, hK, hS, hA⟩ := hg
  subst hty
  refine va_newa hx hb (hT _ harr) rfl hK hP hD hS hA ha hn hN hbytes hcells hslots hdg (fun q cA H1 hK hP hD hS => ?_)
  rw [← wl_push] at hP hD
  exact kk q cA H1 ⟨hP, hD, hK, hS, hA⟩
theorem gp_F (F : fx_F p s m args meth c b nL ret0 own) (hg : gw_P D tys A s H locs ad n E) (hin2 : meth.name = "<init>") {C ref : String} {T : u_T} {N ci index : Nat} (hin : ∀ w ∈ u_ws C T N, w ∈ lw_ws) (ty0 : Nat → FieldType) (hty : ∀ k, k < N → parseFieldDescriptor (T k).2.2.1 = some (ty0 k)) (hnm : ∀ a, a < N → ∀ b, b < N → a ≠ b → (T a).2.1 ≠ (T b).2.1) (k0 : Nat) (hk0 : k0 < n) {a : Nat} (ha : ad k0 = a) {fs : List Value} (he : E k0 = .inr (ci, fs)) (hc : vwCl[ci]? = some (C, T, N)) (k : Nat) (hk : k < N) (hlink : Cond.fieldLink own index ref (T k).2.1 (T k).2.2.1 ∈ lw_ws) (hsame : (T k).1 = ref) (hfin : (T k).2.2.2 = true) (hdecl : (T k).1 = own) {ty : FieldType} {v : Value} (hd : parseFieldDescriptor (T k).2.2.1 = some ty) (hn : narrow ty v = v) (hfit : fits ty v = true) (hl : k < fs.length) (hdg : decode b pc = .ok (.putfield index, 3))
    (kk : ∀ (H1 : Heap) (locs1 : List Loc), gw_P D tys A s H1 locs1 ad n (va_up E k0 (.inr (ci, fs.set k v))) → W p l e R s m args below meth c H1 locs1 cells slots Q (F0 m (pc + 3) ls rest)) : W p l e R s m args below meth c H locs cells slots Q (F0 m pc ls (v :: .ref a :: rest)) := by
  obtain ⟨hx, hb, hml, hr, hlk, hown, hT⟩ := F
  obtain ⟨hP, hD, hK, hS, hA⟩ := hg
  subst ha
  have hq : (wl_W ad n E)[k0]? = some (ad k0, .inr (ci, fs)) := by rw [wl_get hk0, he]
  refine va_putF (D := D) (ci := ci) (v := v) (ty := ty) hx hb hT hin ty0 hty hnm hown hK hP hD hS k0 hq hc k hk (hT _ hlink) (fun _ h9 => by rw [← hsame]; exact h9) hfin hin2 hdecl hd hn hfit hl hdg (fun H1 locs1 hP hD hS => ?_)
  rw [wl_set hk0] at hP hD
  exact kk H1 locs1 ⟨hP, hD, hK, hS, hA⟩
theorem gp_i (F : fx_F p s m args meth c b nL ret0 own) (hg : gw_P D tys A s H locs ad n E) {C ref : String} {T : u_T} {N ci index : Nat} (hin : ∀ w ∈ u_ws C T N, w ∈ lw_ws) (ty0 : Nat → FieldType) (hty : ∀ k, k < N → parseFieldDescriptor (T k).2.2.1 = some (ty0 k)) (hnm : ∀ a, a < N → ∀ b, b < N → a ≠ b → (T a).2.1 ≠ (T b).2.1) (k0 : Nat) (hk0 : k0 < n) {a : Nat} (ha : ad k0 = a) {fs : List Value} (he : E k0 = .inr (ci, fs)) (hc : vwCl[ci]? = some (C, T, N)) (k : Nat) (hk : k < N) (hlink : Cond.fieldLink own index ref (T k).2.1 (T k).2.2.1 ∈ lw_ws) (hsame : (T k).1 = ref) (hfin : (T k).2.2.2 = false) {ty : FieldType} {v : Value} (hd : parseFieldDescriptor (T k).2.2.1 = some ty) (hn : narrow ty v = v) (hfit : fits ty v = true) (hl : k < fs.length) (hdg : decode b pc = .ok (.putfield index, 3))
    (kk : ∀ (H1 : Heap) (locs1 : List Loc), gw_P D tys A s H1 locs1 ad n (va_up E k0 (.inr (ci, fs.set k v))) → W p l e R s m args below meth c H1 locs1 cells slots Q (F0 m (pc + 3) ls rest)) : W p l e R s m args below meth c H locs cells slots Q (F0 m pc ls (v :: .ref a :: rest)) := by
  obtain ⟨hx, hb, hml, hr, hlk, hown, hT⟩ := F
  obtain ⟨hP, hD, hK, hS, hA⟩ := hg
  subst ha
  have hq : (wl_W ad n E)[k0]? = some (ad k0, .inr (ci, fs)) := by rw [wl_get hk0, he]
  refine va_put (D := D) (ci := ci) (v := v) (ty := ty) hx hb hT hin ty0 hty hnm hown hK hP hD hS k0 hq hc k hk (hT _ hlink) (fun _ h9 => by rw [← hsame]; exact h9) hfin hd hn hfit hl hdg (fun H1 locs1 hP hD hS => ?_)
  rw [wl_set hk0] at hP hD
  exact kk H1 locs1 ⟨hP, hD, hK, hS, hA⟩
theorem gg_f (F : fx_F p s m args meth c b nL ret0 own) (hg : gw_P D tys A s H locs ad n E) {C ref : String} {T : u_T} {N ci index : Nat} (hin : ∀ w ∈ u_ws C T N, w ∈ lw_ws) (k0 : Nat) (hk0 : k0 < n) {a : Nat} (ha : ad k0 = a) {fs : List Value} (he : E k0 = .inr (ci, fs)) (hc : vwCl[ci]? = some (C, T, N)) (k : Nat) (hk : k < N) (hlink : Cond.fieldLink own index ref (T k).2.1 (T k).2.2.1 ∈ lw_ws) (hsame : (T k).1 = ref) {v : Value} (hv : fs[k]? = some v) (hdg : decode b pc = .ok (.getfield index, 3))
    (kk : W p l e R s m args below meth c H locs cells slots Q (F0 m (pc + 3) ls (v :: rest))) : W p l e R s m args below meth c H locs cells slots Q (F0 m pc ls (.ref a :: rest)) := by
  obtain ⟨hx, hb, hml, hr, hlk, hown, hT⟩ := F
  obtain ⟨hP, hD, hK, hS, hA⟩ := hg
  subst ha
  have hq : (wl_W ad n E)[k0]? = some (ad k0, .inr (ci, fs)) := by rw [wl_get hk0, he]
  exact va_get (D := D) (ci := ci) (v := v) hx hb hT hin hown hK hP k0 hq hc k hk (hT _ hlink) (fun _ h9 => by rw [← hsame]; exact h9) hv hdg kk
theorem ga_s (F : fx_F p s m args meth c b nL ret0 own) (hg : gw_P D tys A s H locs ad n E) (q0 t0 qk ci : Nat) (h0 : q0 < n) (h1 : qk < n) {a v : Nat} (ha : ad q0 = a) (hv : ad qk = v) {cA : ClassId} {r : vw_C} {N : Nat} {vs : List Value} {f : Nat → Option Nat} (he : E q0 = .inl (cA, N, .inr (.inr (.inr (.inr f))))) (ht : tys[t0]? = some (cA, .object r.1)) (hq : E qk = .inr (ci, vs)) (hc : vwCl[ci]? = some r) {w : Int32} (hin : vp_in w N) (hdg : decode b pc = .ok (.aastore, 1))
    (kk : ∀ (H1 : Heap) (locs1 : List Loc), gw_P D tys A s H1 locs1 ad n (va_up E q0 (.inl (cA, N, .inr (.inr (.inr (.inr (va_up f w.toNatClampNeg (some v)))))))) → W p l e R s m args below meth c H1 locs1 cells slots Q (F0 m (pc + 1) ls rest)) : W p l e R s m args below meth c H locs cells slots Q (F0 m pc ls (.ref v :: .int w :: .ref a :: rest)) := by
  obtain ⟨hx, hb, hml, hr, hlk, hown, hT⟩ := F
  obtain ⟨hP, hD, hK, hS, hA⟩ := hg
  subst ha
  subst hv
  have g0 : (wl_W ad n E)[q0]? = some (ad q0, .inl (cA, N, .inr (.inr (.inr (.inr f))))) := by rw [wl_get h0, he]
  have g1 : (wl_W ad n E)[qk]? = some (ad qk, .inr (ci, vs)) := by rw [wl_get h1, hq]
  refine va_astq hx hb hK hP hD hS q0 t0 qk ci g0 ht g1 hc hin hdg (fun H1 locs1 hP hD hS => ?_)
  rw [wl_set h0] at hP hD
  exact kk H1 locs1 ⟨hP, hD, hK, hS, hA⟩
theorem gi_o {lv : List (Nat × Value)} {d : Nat} (F : fx_F p s m args meth c b nL ret0 own) (hl : lv_has ls nL lv) (hlink : Cond.methodLink own d objectInit ∈ lw_ws) (hinst : Cond.instanceMethod objectInit ∈ lw_ws) (hcode : Cond.code objectInit ⟨#[0xb1]⟩ 1 none ∈ lw_ws) (hR : 1 ≤ R.frames ∧ 12 + (rest.map fun v => v.category).sum ≤ R.locals) {a : Addr} (hdg : decode b pc = .ok (.invokespecial d, 3))
    (kk : W p l e R s m args below meth c H locs cells slots Q (F0 m (pc + 3) ls rest)) : W p l e R s m args below meth c H locs cells slots Q (F0 m pc ls (.ref a :: rest)) := by
  obtain ⟨hx, hb, hml, hr, hlk, hown, hT⟩ := F
  refine W.objInit hx hb hown (hT _ hlink) (hT _ hinst) (hT _ hcode) rfl (by rw [hml]; exact hl.1) rfl hdg hR.1 ?_ ?_
  · show 2 * (F0 m pc ls (.ref a :: rest)).monitorRoom + (rest.map fun v => v.category).sum + 12 ≤ R.locals
    have h9 : (F0 m pc ls (.ref a :: rest)).monitorRoom = 0 := rfl
    rw [h9]
    omega
  · exact W.eq (g2 := F0 m (pc + 3) ls rest) rfl kk
end GW
/-- a constructor that only calls Object's -/
def ct_n (l : Launch) (y : MethodName) (b : ByteArray) (h : Nat) : Prop := Met l y (.code y b 1 none :: lw_ws) (rm_D 1) (va_Pc [.ref h] (fun _ => True)) (va_Sv (fun _ => True)) 0 0 (fun _ => False)
theorem cn_bl {av : List Value} : FrameBlind (va_Pc av (fun _ => True)) := fun a U g mk q => ⟨q.1, trivial⟩
section GC
variable {p : Program} {l : Launch} {e : Env} {R : Room} {s : State} {m : MethodId} {args : Array Value} {below : List Frame} {meth : Method} {c : Code} {H : Heap} {locs : List Loc} {cells slots : Nat} {Q : State → Prop} {b : ByteArray} {nL : Nat} {ret0 : Option FieldType} {own : String} {pc : Nat} {ls : Array Slot} {rest : List Value}
theorem gc_n {y : MethodName} {b' : ByteArray} {h index : Nat} {host : String} {lv : List (Nat × Value)} (F : fx_F p s m args meth c b nL ret0 own) (hM : ct_n l y b' h) (hNw : va_Nw (.methodLinkNest own index y host) s) (hcode : Cond.code y b' 1 none ∈ lw_ws) (hini : Cond.initialized y.cls ∈ lw_ws) (hinst : Cond.instanceMethod y ∈ lw_ws) (hnm : y.name = "<init>")
    (hd : y.cls ≠ "java/lang/invoke/MethodHandle" ∧ y.cls ≠ "java/lang/invoke/VarHandle" ∧ (parseMethodDescriptor y.desc).map (fun d => d.parameters.length) = some 0) (hR : 2 ≤ R.frames ∧ 80 ≤ R.locals) (hc9 : cells ≤ R.cells ∧ slots ≤ R.slots) (hl : lv_has ls nL lv) (hrest : (rest.map fun v => v.category).sum ≤ 8) (hdg : decode b pc = .ok (.invokespecial index, 3))
    (kk : W p l e R s m args below meth c H locs cells slots Q (F0 m (pc + 3) ls rest)) : W p l e R s m args below meth c H locs cells slots Q (F0 m pc ls (.ref h :: rest)) := by
  obtain ⟨hx, hb, hml, hr, hlk, hown, hT⟩ := F
  have hG : GoodIn lw_ws (.code y b' 1 none :: lw_ws) := fun w hw => by
    rcases List.mem_cons.mp hw with rfl | hw
    · exact lw_good _ hcode
    · exact lw_good _ hw
  refine va_csv (va_Run.run (va_runIN (As := []) (rest := rest) ⟨hx, hb, hml, hown, hT⟩ hM ⟨va_cnB 0 hT hG rfl rfl rfl hNw (hT _ hini) hd ⟨hR.1, by simp only [rm_D]; omega⟩, hnm, hT _ hinst⟩ ⟨cn_bl, fun U hU hW => ⟨rfl, trivial⟩⟩ rfl rfl hl.1 rfl (lv_room hrest) hdg hc9)) (fun _ => kk)
end GC
