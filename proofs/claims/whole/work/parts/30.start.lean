theorem wz_258 : Cond.methodLink nR_LAW 39 nN_LAW_cell ∈ lw_ws := lw_m (i := 258) (by decide +kernel) (by decide +kernel)
theorem wz_259 : Cond.static nN_LAW_cell ∈ lw_ws := lw_m (i := 259) (by decide +kernel) (by decide +kernel)
set_option maxRecDepth 100000 in
theorem wz_260 : Cond.code nN_LAW_cell nC_LAW_cell 2 (some .int) ∈ lw_ws := lw_m (i := 260) rfl (by decide +kernel)
theorem wc_LAW_39 : GoodIn lw_ws (va_wsS nR_LAW 39 nN_LAW_cell (.code nN_LAW_cell nC_LAW_cell 2 (some .int) :: lw_ws)) := gs_S wz_258 wz_259 wm_48 wz_260
/-! the law's beginning: the tables, cell(..), two constructors, the array, and the world as the loop wants it -/
theorem kn_D {s : State} {args : Array Value} (hT : ∀ w ∈ lw_ws, w.before args s = true) : ∃ D : va_G, va_K D vwCl [] s := by
  obtain ⟨c0, i0, k0⟩ := u_known (n := 5) hT in_INS (hT _ wk_INS_n)
  obtain ⟨c1, i1, k1⟩ := u_known (n := 2) hT in_OPD (hT _ wk_OPD_n)
  obtain ⟨c2, i2, k2⟩ := u_known (n := 2) hT in_REC (hT _ wk_REC_n)
  obtain ⟨c3, i3, k3⟩ := u_known (n := 9) hT in_UNI (hT _ wk_UNI_n)
  obtain ⟨c4, i4, k4⟩ := u_known (n := 15) hT in_TM (hT _ wk_TM_n)
  obtain ⟨c5, i5, k5⟩ := u_known (n := 30) hT in_MOD (hT _ wk_MOD_n)
  refine ⟨(fun c => if c = 0 then c0 else if c = 1 then c1 else if c = 2 then c2 else if c = 3 then c3 else if c = 4 then c4 else c5, fun c => if c = 0 then i0 else if c = 1 then i1 else if c = 2 then i2 else if c = 3 then i3 else if c = 4 then i4 else i5), fun c q hq => ?_, fun k q hk => by simp at hk⟩
  have hc : c < 6 := (List.getElem?_eq_some_iff.mp hq).1
  rcases (show c = 0 ∨ c = 1 ∨ c = 2 ∨ c = 3 ∨ c = 4 ∨ c = 5 by omega) with rfl | rfl | rfl | rfl | rfl | rfl <;> cases hq
  · exact k0
  · exact k1
  · exact k2
  · exact k3
  · exact k4
  · exact k5
/-- the script's cell j, 0 where there is none -/
def lc_v (L : Nat) (xs : Nat → Int32) (j : Nat) : Int32 := if L ≤ j then 0 else xs j
def ct_c (l : Launch) (b L : Nat) (xs : Nat → Int32) (j : Nat) : Prop := Met l nN_LAW_cell (.code nN_LAW_cell nC_LAW_cell 2 (some .int) :: lw_ws) (rm_D 0) (va_Pc [.ref b, .int (nI j)] (fun U => va_X b L xs U U.heap)) (vp_Si (fun r => r = lc_v L xs j)) 0 0 (fun _ => False)
theorem cc_cell (l : Launch) (b L : Nat) (xs : Nat → Int32) (hL : L < 2 ^ 31) (j : Nat) (hj : j < 2 ^ 31) : ct_c l b L xs j := by
  refine Met.ofW (cc := nC_LAW_cell) (maxL := 2) (ret := some .int) (by decide) rfl ?_
  intro p e s m args below meth c s₁ B hml hv
  obtain ⟨rfl, hX⟩ := hv
  have hx := B.exec
  have hb := B.bytes
  have hr := B.returns
  have hl := lv_entry ([Value.ref b, .int (nI j)]) (n := 2) (Nat.le_of_ble_eq_true rfl)
  rw [lg_entry_eq]
  generalize (lg_sl ([Value.ref b, .int (nI j)]) ++ List.replicate (2 - (lg_sl ([Value.ref b, .int (nI j)])).length) Slot.unset).toArray = ls at hl ⊢
  have hl : lv_has ls 2 [(0, .ref b), (1, .int (nI j))] := hl
  have hbl : b < s.heap.size := by
    obtain ⟨scr, h1, -⟩ := hX
    exact (Array.getElem?_eq_some_iff.mp h1).1
  have hS : va_S (fun _ => False) s.heap s.heap [] := va_S.rf
  refine lv_iload_n hx hb nD_LAW_cell_0 rfl (lv_at hl 1 rfl) ?_
  refine lv_aload_n hx hb nD_LAW_cell_1 rfl (lv_at hl 0 rfl) ?_
  refine va_slen hx hb hX hbl (fun h => h) hS nD_LAW_cell_2 ?_
  refine lv_icmp_ge (tgt := 12) hx hb nD_LAW_cell_3 (by decide) (fun h => ?_) (fun h => ?_)
  · have h9 : L ≤ j := (nI_leI hL hj).mp h
    refine lv_iconst (v := 0) hx hb nD_LAW_cell_12 (by decide) ?_
    exact W.iret hx hb hr (fun t ht hW => ⟨0, rfl, by rw [lc_v, if_pos h9], ht⟩) (fun q hq => by cases hq) nD_LAW_cell_13 B.notSynchronized
  · have h9 : ¬ L ≤ j := fun q => h ((nI_leI hL hj).mpr q)
    refine lv_aload_n hx hb nD_LAW_cell_6 rfl (lv_at hl 0 rfl) ?_
    refine lv_iload_n hx hb nD_LAW_cell_7 rfl (lv_at hl 1 rfl) ?_
    refine va_sld hx hb hX hbl (fun h => h) hS (vp_in_nI (by omega) hL) nD_LAW_cell_8 ?_
    refine lv_goto (tgt := 13) hx hb nD_LAW_cell_9 (by decide) ?_
    exact W.iret hx hb hr (fun t ht hW => ⟨_, rfl, by rw [lc_v, if_neg h9, nI_clamp hj], ht⟩) (fun q hq => by cases hq) nD_LAW_cell_13 B.notSynchronized
section ST
variable {p : Program} {l : Launch} {e : Env} {R : Room} {s : State} {m : MethodId} {args : Array Value} {below : List Frame} {meth : Method} {c : Code} {H : Heap} {locs : List Loc} {cells slots : Nat} {Q : State → Prop} {cc : ByteArray} {nL : Nat} {ret0 : Option FieldType} {pc : Nat} {ls : Array Slot} {rest : List Value} {b L : Nat} {xs : Nat → Int32}
theorem gs_c {lv : List (Nat × Value)} {j : Nat} (F : fx_F p s m args meth c cc nL ret0 nR_LAW) (hX : va_X b L xs s H) (hL : L < 2 ^ 31) (hj : j < 2 ^ 31) (hl : lv_has ls nL lv) (hR : 1 ≤ R.frames ∧ 40 ≤ R.locals) (hc9 : cells ≤ R.cells ∧ slots ≤ R.slots) (hrest : (rest.map fun v => v.category).sum ≤ 8) (hdg : decode cc pc = .ok (.invokestatic 39, 3))
    (kk : W p l e R s m args below meth c H locs cells slots Q (F0 m (pc + 3) ls (.int (lc_v L xs j) :: rest))) : W p l e R s m args below meth c H locs cells slots Q (F0 m pc ls (.int (nI j) :: .ref b :: rest)) := by
  obtain ⟨hx, hb, hml, hr, hlk, hown, hT⟩ := F
  refine vp_callSi (W.runS (As := [.ref b, .int (nI j)]) (rest := rest) ⟨hx, hb, hml, hown, hT⟩ (cc_cell l b L xs hL j hj) (cl_cs (d := 0) (d' := 1) (As := [.ref b, .int (nI j)]) hT wc_LAW_39 hd_LAW_cell ⟨by decide, by decide⟩ |> fun q => ⟨⟨q.1.1, q.1.2.1, hR.1, Nat.le_trans (by decide) hR.2, q.1.2.2.2.2⟩, q.2⟩) ⟨fun a U g mk q => ⟨q.1, va_X.moved (u := U) (U := U.calling g mk a) (Vm.Alike.refl U.vm) q.2⟩, fun U hU hW => ⟨rfl, by show va_X b L xs U U.heap; rw [hU]; exact va_X.moved hW.alike hX⟩⟩ rfl rfl hl.1 rfl (lv_room hrest) hdg hc9) (fun r hr => by subst hr; exact kk)
end ST
