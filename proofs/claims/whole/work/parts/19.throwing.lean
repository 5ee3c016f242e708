-- words (written by program)
theorem wm_1 : Cond.selects nR_TM nN_TM_isBusy nN_TM_isBusy ∈ lw_ws := lw_m (i := 1) (by decide +kernel) (by decide +kernel)
theorem wm_3 : Cond.selects nR_TM nN_TM_goOneCycle nN_TM_goOneCycle ∈ lw_ws := lw_m (i := 3) (by decide +kernel) (by decide +kernel)
theorem wm_51 : Cond.initialized nR_INS ∈ lw_ws := lw_m (i := 51) (by decide +kernel) (by decide +kernel)
theorem wm_332 : Cond.methodLink nR_TM 77 nN_TM_isBusy ∈ lw_ws := lw_m (i := 332) (by decide +kernel) (by decide +kernel)
theorem wm_334 : Cond.instanceMethod nN_TM_isBusy ∈ lw_ws := lw_m (i := 334) (by decide +kernel) (by decide +kernel)
set_option maxRecDepth 100000 in
theorem wm_335 : Cond.code nN_TM_isBusy nC_TM_isBusy 1 (some .boolean) ∈ lw_ws := lw_m (i := 335) rfl (by decide +kernel)
theorem wm_351 : Cond.methodLink nR_TM 84 nN_INS_become ∈ lw_ws := lw_m (i := 351) (by decide +kernel) (by decide +kernel)
theorem wm_352 : Cond.instanceMethod nN_INS_become ∈ lw_ws := lw_m (i := 352) (by decide +kernel) (by decide +kernel)
theorem wm_353 : Cond.selects nR_INS nN_INS_become nN_INS_become ∈ lw_ws := lw_m (i := 353) (by decide +kernel) (by decide +kernel)
set_option maxRecDepth 100000 in
theorem wm_354 : Cond.code nN_INS_become nC_INS_become 6 none ∈ lw_ws := lw_m (i := 354) rfl (by decide +kernel)
theorem wm_373 : Cond.methodLink nR_TM 97 nN_TM_goOneCycle ∈ lw_ws := lw_m (i := 373) (by decide +kernel) (by decide +kernel)
theorem wm_375 : Cond.instanceMethod nN_TM_goOneCycle ∈ lw_ws := lw_m (i := 375) (by decide +kernel) (by decide +kernel)
set_option maxRecDepth 100000 in
theorem wm_376 : Cond.code nN_TM_goOneCycle nC_TM_goOneCycle 1 none ∈ lw_ws := lw_m (i := 376) rfl (by decide +kernel)
theorem wm_555 : Cond.methodLink nR_TM 100 nN_OPD_haveValue ∈ lw_ws := lw_m (i := 555) (by decide +kernel) (by decide +kernel)
theorem wm_570 : Cond.methodLink nR_TM 107 nN_REC_knows ∈ lw_ws := lw_m (i := 570) (by decide +kernel) (by decide +kernel)
theorem wm_571 : Cond.static nN_REC_knows ∈ lw_ws := lw_m (i := 571) (by decide +kernel) (by decide +kernel)
set_option maxRecDepth 100000 in
theorem wm_572 : Cond.code nN_REC_knows nC_REC_knows 1 (some .boolean) ∈ lw_ws := lw_m (i := 572) rfl (by decide +kernel)
theorem wc_TM_100 : GoodIn lw_ws (wsV nR_TM 100 (nN_OPD_haveValue).cls nN_OPD_haveValue (.code nN_OPD_haveValue nC_OPD_haveValue 2 none :: lw_ws)) := gs_V wm_555 wm_398 wm_399 wm_52 wm_400
theorem wc_TM_107 : GoodIn lw_ws (va_wsS nR_TM 107 nN_REC_knows (.code nN_REC_knows nC_REC_knows 1 (some .boolean) :: lw_ws)) := gs_S wm_570 wm_571 wm_54 wm_572
theorem wc_TM_77 : GoodIn lw_ws (wsV nR_TM 77 (nN_TM_isBusy).cls nN_TM_isBusy (.code nN_TM_isBusy nC_TM_isBusy 1 (some .boolean) :: lw_ws)) := gs_V wm_332 wm_334 wm_1 wm_49 wm_335
theorem wc_TM_84 : GoodIn lw_ws (wsV nR_TM 84 (nN_INS_become).cls nN_INS_become (.code nN_INS_become nC_INS_become 6 none :: lw_ws)) := gs_V wm_351 wm_352 wm_353 wm_51 wm_354
theorem wc_TM_97 : GoodIn lw_ws (wsV nR_TM 97 (nN_TM_goOneCycle).cls nN_TM_goOneCycle (.code nN_TM_goOneCycle nC_TM_goOneCycle 1 none :: lw_ws)) := gs_V wm_373 wm_375 wm_3 wm_49 wm_376
def fb_TM_put_70 (a1 : Int32) (a2 : Int32) (a3 : Int32) (a4 : Int32) (a5 : Int32) (σ : sg_T) : Option (tr_T) := if (30 : Int32) ≤ (σ 0 2) then some (2, (0 : Int32), σ) else (fn_TM_isBusy  σ).bind (fun z11 => if z11.1 = 0 then gt_d (ib_I (z11.2 0 2) 30) ((fn_INS_become (tn_I (z11.2 0 2)) a1 a2 a3 a4 a5 z11.2).bind (fun z14 => some (0, ((sg_up z14 0 2 ((z14 0 2) + (1 : Int32))) 0 2) - (1 : Int32), sg_up z14 0 2 ((z14 0 2) + (1 : Int32))))) else some (2, (0 : Int32), z11.2))
def fn_TM_put (a1 : Int32) (a2 : Int32) (a3 : Int32) (a4 : Int32) (a5 : Int32) (σ : sg_T) : Option (tr_T) := if a1 < 0 then some (1, (0 : Int32), σ) else if (12 : Int32) < a1 then some (1, (0 : Int32), σ) else (fn_TM_isRegister a2 σ).bind (fun z3 => if z3.1 = 0 then some (1, (0 : Int32), z3.2) else (fn_TM_isRegister a3 z3.2).bind (fun z5 => if z5.1 = 0 then some (1, (0 : Int32), z5.2) else (fn_TM_isRegister a4 z5.2).bind (fun z7 => if z7.1 = 0 then some (1, (0 : Int32), z7.2) else if a1 = (8 : Int32) then fb_TM_put_70 a1 a2 a3 a4 a5 z7.2 else if a5 < (-1000 : Int32) then some (1, (0 : Int32), z7.2) else if a5 ≤ (1000 : Int32) then fb_TM_put_70 a1 a2 a3 a4 a5 z7.2 else some (1, (0 : Int32), z7.2))))
def fn_TM_start (a1 : Int32) (σ : sg_T) : Option (tr_T) := (fn_TM_isInstruction a1 σ).bind (fun z1 => if z1.1 = 0 then some (1, (0 : Int32), z1.2) else (fn_TM_isBusy  z1.2).bind (fun z3 => if z3.1 = 0 then some (0, (1 : Int32), sg_up (sg_up (sg_up z3.2 0 4 a1) 0 5 (0 : Int32)) 0 3 (0 : Int32)) else some (2, (0 : Int32), z3.2)))
def fb_TM_run_37 : Nat → Int32 → Int32 → sg_T → Option (tr_T)
  | 0, _, _, _ => none
  | n + 1, a1, a2, σ => if a1 ≤ a2 then some (0, a2, σ) else (fn_TM_isBusy  σ).bind (fun z6 => if z6.1 = 0 then some (0, a2, z6.2) else (fn_TM_goOneCycle  z6.2).bind (fun z8 => fb_TM_run_37 n a1 (a2 + (1 : Int32)) z8))
def fn_TM_run (a1 : Int32) (σ : sg_T) : Option (tr_T) := if a1 < (1 : Int32) then some (1, (0 : Int32), σ) else if a1 ≤ (300 : Int32) then (fn_TM_isBusy  σ).bind (fun z3 => if z3.1 = 0 then some (2, (0 : Int32), z3.2) else fb_TM_run_37 302 a1 (0 : Int32) z3.2) else some (1, (0 : Int32), σ)
def fn_TM_set (a1 : Int32) (a2 : Int32) (σ : sg_T) : Option (tr_T) := (fn_TM_isRegister a1 σ).bind (fun z1 => if z1.1 = 0 then some (1, (0 : Int32), z1.2) else (fn_TM_isBusy  z1.2).bind (fun z3 => if z3.1 = 0 then gt_d (ib_I a1 5) ((fn_OPD_haveValue (tn_I a1) a2 z3.2).bind (fun z6 => some (0, (1 : Int32), z6))) else some (2, (0 : Int32), z3.2)))
def fn_TM_store (a1 : Int32) (a2 : Int32) (σ : sg_T) : Option (tr_T) := (fn_TM_isPlace a1 σ).bind (fun z1 => if z1.1 = 0 then some (1, (0 : Int32), z1.2) else (fn_TM_isBusy  z1.2).bind (fun z3 => if z3.1 = 0 then gt_d (ib_I a1 32) (some (0, (1 : Int32), sg_up z3.2 11 (tn_I a1) a2)) else some (2, (0 : Int32), z3.2)))
def fn_TM_reckon (a1 : Int32) (a2 : Int32) (a3 : Int32) (σ : sg_T) : Option (tr_T) := (fn_REC_knows a1 σ).bind (fun z1 => if z1.1 = 0 then some (1, (0 : Int32), z1.2) else (fn_REC_workOut a1 a2 a3 z1.2).bind (fun z3 => some (0, z3 20 0, z3)))
def fn_TM_exceptions (a1 : Int32) (a2 : Int32) (a3 : Int32) (σ : sg_T) : Option (tr_T) := (fn_REC_knows a1 σ).bind (fun z1 => if z1.1 = 0 then some (1, (0 : Int32), z1.2) else (fn_REC_workOut a1 a2 a3 z1.2).bind (fun z3 => some (0, z3 20 1, z3)))
section MT
variable {p : Program} {l : Launch} {e : Env} {s : State} {m : MethodId} {args : Array Value} {below : List Frame} {meth : Method} {c : Code} {x : cx_T}
set_option maxRecDepth 100000 in
set_option maxHeartbeats 4000000 in
theorem bk_TM_put_70 {z : tr_T} (F : fx_F p s m args meth c nC_TM_put 6 (some .int) nR_TM) (G9 : fx_G l c s x) (a1 : Int32) (a2 : Int32) (a3 : Int32) (a4 : Int32) (a5 : Int32) {σ : sg_T} {H : Heap} {locs : List Loc} {ls : Array Slot} (hw : ww_P x s H locs σ) (hl : lv_has ls 6 [(0, .ref (x.2.2 0)), (1, .int a1), (2, .int a2), (3, .int a3), (4, .int a4), (5, .int a5)]) (hf : fb_TM_put_70 a1 a2 a3 a4 a5 σ = some z) : W p l e (rm_T 6) s m args below meth c H locs 0 0 (qt_Q x s below args z) (F0 m 70 ls []) := by
  have F9 := F
  obtain ⟨hx, hb, hml, hr, hlk, hown, hT⟩ := F
  unfold fb_TM_put_70 at hf
  refine lv_aload_n hx hb nD_TM_put_70 rfl (lv_at hl 0 rfl) ?_
  refine rd_TM_TM_instructions F9 hw nD_TM_put_71 ?_
  refine lv_bipush (v := 30) hx hb nD_TM_put_74 (by decide) ?_
  refine lv_icmp_ge (tgt := 86) hx hb nD_TM_put_76 (by decide) (fun h10 => ?_) (fun h10 => ?_)
  · rw [if_pos h10] at hf
    exact th_s F9 G9 hw hl (by decide) nD_TM_put_86 nD_TM_put_89 nD_TM_put_90 nD_TM_put_93 hf
  · rw [if_neg h10] at hf
    refine lv_aload_n hx hb nD_TM_put_79 rfl (lv_at hl 0 rfl) ?_
    obtain ⟨z11, hz11, hf⟩ := bd_of hf
    refine cg_vi (As := []) (rest := []) F9 hw (ct_TM_isBusy l x   _ _ hz11) (rc_TM ) wc_TM_77 hd_TM_isBusy ⟨by decide, by decide, by decide⟩ ⟨Nat.zero_le _, Nat.zero_le _⟩ hl rfl (Nat.le_of_ble_eq_true rfl) nD_TM_put_80 (fun H locs hw => ?_)
    refine lv_if_eq (tgt := 94) hx hb nD_TM_put_83 (by decide) (fun h12 => ?_) (fun h12 => ?_)
    · rw [if_pos h12] at hf
      refine lv_aload_n hx hb nD_TM_put_94 rfl (lv_at hl 0 rfl) ?_
      refine rd_TM_TM_program F9 hw nD_TM_put_95 ?_
      refine lv_aload_n hx hb nD_TM_put_98 rfl (lv_at hl 0 rfl) ?_
      refine rd_TM_TM_instructions F9 hw nD_TM_put_99 ?_
      obtain ⟨g13, hf⟩ := gt_of hf
      refine al_program F9 hw g13 nD_TM_put_102 ?_
      refine lv_iload_n hx hb nD_TM_put_103 rfl (lv_at hl 1 rfl) ?_
      refine lv_iload_n hx hb nD_TM_put_104 rfl (lv_at hl 2 rfl) ?_
      refine lv_iload_n hx hb nD_TM_put_105 rfl (lv_at hl 3 rfl) ?_
      refine lv_iload hx hb nD_TM_put_106 (lv_at hl 4 rfl) ?_
      refine lv_iload hx hb nD_TM_put_108 (lv_at hl 5 rfl) ?_
      obtain ⟨z14, hz14, hf⟩ := bd_of hf
      refine cg_vv (As := [.int a1, .int a2, .int a3, .int a4, .int a5]) (rest := []) F9 hw (ct_INS_become l x (tn_I (z11.2 0 2)) a1 a2 a3 a4 a5 (ib_lt g13) _ _ hz14) (rc_INS (ib_lt g13)) wc_TM_84 hd_INS_become ⟨by decide, by decide, by decide⟩ ⟨Nat.zero_le _, Nat.zero_le _⟩ hl rfl (Nat.le_of_ble_eq_true rfl) nD_TM_put_110 (fun H locs hw => ?_)
      refine lv_aload_n hx hb nD_TM_put_113 rfl (lv_at hl 0 rfl) ?_
      refine lv_dup hx hb nD_TM_put_114 rfl ?_
      refine rd_TM_TM_instructions F9 hw nD_TM_put_115 ?_
      refine lv_iconst (v := 1) hx hb nD_TM_put_118 (by decide) ?_
      refine lv_iadd hx hb nD_TM_put_119 ?_
      refine wr_TM_TM_instructions F9 hw nD_TM_put_120 (fun H locs hw => ?_)
      refine lv_aload_n hx hb nD_TM_put_123 rfl (lv_at hl 0 rfl) ?_
      refine rd_TM_TM_instructions F9 hw nD_TM_put_124 ?_
      refine lv_iconst (v := 1) hx hb nD_TM_put_127 (by decide) ?_
      refine lv_isub hx hb nD_TM_put_128 ?_
      exact rt_t F9 hw rfl nD_TM_put_129 hf
    · rw [if_neg h12] at hf
      exact th_s F9 G9 hw hl (by decide) nD_TM_put_86 nD_TM_put_89 nD_TM_put_90 nD_TM_put_93 hf
set_option maxRecDepth 100000 in
set_option maxHeartbeats 4000000 in
theorem ct_TM_put (l : Launch) (hl9 : l.stackTraces = false) (x : cx_T) (a1 : Int32) (a2 : Int32) (a3 : Int32) (a4 : Int32) (a5 : Int32) (σ : sg_T) (z : tr_T) (hf : fn_TM_put a1 a2 a3 a4 a5 σ = some z) : ct_t l nN_TM_put nC_TM_put 6 (some .int) 6 x [.ref (x.2.2 0), .int a1, .int a2, .int a3, .int a4, .int a5] σ z := by
  refine en_t (own := nR_TM) hl9 (by decide) (Nat.le_of_ble_eq_true rfl) rfl ?_
  intro p e s m below meth c ls F G9 hw hl
  have F9 := F
  obtain ⟨hx, hb, hml, hr, hlk, hown, hT⟩ := F
  have hl : lv_has ls 6 [(0, .ref (x.2.2 0)), (1, .int a1), (2, .int a2), (3, .int a3), (4, .int a4), (5, .int a5)] := hl
  unfold fn_TM_put at hf
  refine lv_iload_n hx hb nD_TM_put_0 rfl (lv_at hl 1 rfl) ?_
  refine lv_if_lt (tgt := 32) hx hb nD_TM_put_1 (by decide) (fun h1 => ?_) (fun h1 => ?_)
  · rw [if_pos h1] at hf
    exact th_a F9 G9 hw hl (by decide) nD_TM_put_32 nD_TM_put_35 nD_TM_put_36 nD_TM_put_39 hf
  · rw [if_neg h1] at hf
    refine lv_iload_n hx hb nD_TM_put_4 rfl (lv_at hl 1 rfl) ?_
    refine lv_bipush (v := 12) hx hb nD_TM_put_5 (by decide) ?_
    refine lv_icmp_gt (tgt := 32) hx hb nD_TM_put_7 (by decide) (fun h2 => ?_) (fun h2 => ?_)
    · rw [if_pos h2] at hf
      exact th_a F9 G9 hw hl (by decide) nD_TM_put_32 nD_TM_put_35 nD_TM_put_36 nD_TM_put_39 hf
    · rw [if_neg h2] at hf
      refine lv_iload_n hx hb nD_TM_put_10 rfl (lv_at hl 2 rfl) ?_
      obtain ⟨z3, hz3, hf⟩ := bd_of hf
      refine cg_si (As := [.int a2]) (rest := []) F9 hw (ct_TM_isRegister l x a2  _ _ hz3) wc_TM_67 hd_TM_isRegister ⟨by decide, by decide, by decide⟩ ⟨Nat.zero_le _, Nat.zero_le _⟩ hl rfl (Nat.le_of_ble_eq_true rfl) nD_TM_put_11 (fun H locs hw => ?_)
      refine lv_if_eq (tgt := 32) hx hb nD_TM_put_14 (by decide) (fun h4 => ?_) (fun h4 => ?_)
      · rw [if_pos h4] at hf
        exact th_a F9 G9 hw hl (by decide) nD_TM_put_32 nD_TM_put_35 nD_TM_put_36 nD_TM_put_39 hf
      · rw [if_neg h4] at hf
        refine lv_iload_n hx hb nD_TM_put_17 rfl (lv_at hl 3 rfl) ?_
        obtain ⟨z5, hz5, hf⟩ := bd_of hf
        refine cg_si (As := [.int a3]) (rest := []) F9 hw (ct_TM_isRegister l x a3  _ _ hz5) wc_TM_67 hd_TM_isRegister ⟨by decide, by decide, by decide⟩ ⟨Nat.zero_le _, Nat.zero_le _⟩ hl rfl (Nat.le_of_ble_eq_true rfl) nD_TM_put_18 (fun H locs hw => ?_)
        refine lv_if_eq (tgt := 32) hx hb nD_TM_put_21 (by decide) (fun h6 => ?_) (fun h6 => ?_)
        · rw [if_pos h6] at hf
          exact th_a F9 G9 hw hl (by decide) nD_TM_put_32 nD_TM_put_35 nD_TM_put_36 nD_TM_put_39 hf
        · rw [if_neg h6] at hf
          refine lv_iload hx hb nD_TM_put_24 (lv_at hl 4 rfl) ?_
          obtain ⟨z7, hz7, hf⟩ := bd_of hf
          refine cg_si (As := [.int a4]) (rest := []) F9 hw (ct_TM_isRegister l x a4  _ _ hz7) wc_TM_67 hd_TM_isRegister ⟨by decide, by decide, by decide⟩ ⟨Nat.zero_le _, Nat.zero_le _⟩ hl rfl (Nat.le_of_ble_eq_true rfl) nD_TM_put_26 (fun H locs hw => ?_)
          refine lv_if_ne (tgt := 40) hx hb nD_TM_put_29 (by decide) (fun h8 => ?_) (fun h8 => ?_)
          · rw [if_neg h8] at hf
            refine lv_iload_n hx hb nD_TM_put_40 rfl (lv_at hl 1 rfl) ?_
            refine lv_bipush (v := 8) hx hb nD_TM_put_41 (by decide) ?_
            refine lv_icmp_eq (tgt := 70) hx hb nD_TM_put_43 (by decide) (fun h9 => ?_) (fun h9 => ?_)
            · rw [if_pos h9] at hf
              exact bk_TM_put_70 F9 G9 a1 a2 a3 a4 a5  hw (lv_sub hl [0, 1, 2, 3, 4, 5] rfl) hf
            · rw [if_neg h9] at hf
              refine lv_iload hx hb nD_TM_put_46 (lv_at hl 5 rfl) ?_
              refine lv_sipush (v := -1000) hx hb nD_TM_put_48 (by decide) ?_
              refine lv_icmp_lt (tgt := 62) hx hb nD_TM_put_51 (by decide) (fun h15 => ?_) (fun h15 => ?_)
              · rw [if_pos h15] at hf
                exact th_a F9 G9 hw hl (by decide) nD_TM_put_62 nD_TM_put_65 nD_TM_put_66 nD_TM_put_69 hf
              · rw [if_neg h15] at hf
                refine lv_iload hx hb nD_TM_put_54 (lv_at hl 5 rfl) ?_
                refine lv_sipush (v := 1000) hx hb nD_TM_put_56 (by decide) ?_
                refine lv_icmp_le (tgt := 70) hx hb nD_TM_put_59 (by decide) (fun h16 => ?_) (fun h16 => ?_)
                · rw [if_pos h16] at hf
                  exact bk_TM_put_70 F9 G9 a1 a2 a3 a4 a5  hw (lv_sub hl [0, 1, 2, 3, 4, 5] rfl) hf
                · rw [if_neg h16] at hf
                  exact th_a F9 G9 hw hl (by decide) nD_TM_put_62 nD_TM_put_65 nD_TM_put_66 nD_TM_put_69 hf
          · rw [if_pos h8] at hf
            exact th_a F9 G9 hw hl (by decide) nD_TM_put_32 nD_TM_put_35 nD_TM_put_36 nD_TM_put_39 hf
set_option maxRecDepth 100000 in
set_option maxHeartbeats 4000000 in
theorem ct_TM_start (l : Launch) (hl9 : l.stackTraces = false) (x : cx_T) (a1 : Int32) (σ : sg_T) (z : tr_T) (hf : fn_TM_start a1 σ = some z) : ct_t l nN_TM_start nC_TM_start 2 (some .boolean) 6 x [.ref (x.2.2 0), .int a1] σ z := by
  refine en_t (own := nR_TM) hl9 (by decide) (Nat.le_of_ble_eq_true rfl) rfl ?_
  intro p e s m below meth c ls F G9 hw hl
  have F9 := F
  obtain ⟨hx, hb, hml, hr, hlk, hown, hT⟩ := F
  have hl : lv_has ls 2 [(0, .ref (x.2.2 0)), (1, .int a1)] := hl
  unfold fn_TM_start at hf
  refine lv_aload_n hx hb nD_TM_start_0 rfl (lv_at hl 0 rfl) ?_
  refine lv_iload_n hx hb nD_TM_start_1 rfl (lv_at hl 1 rfl) ?_
  obtain ⟨z1, hz1, hf⟩ := bd_of hf
  refine cg_vi (As := [.int a1]) (rest := []) F9 hw (ct_TM_isInstruction l x a1  _ _ hz1) (rc_TM ) wc_TM_88 hd_TM_isInstruction ⟨by decide, by decide, by decide⟩ ⟨Nat.zero_le _, Nat.zero_le _⟩ hl rfl (Nat.le_of_ble_eq_true rfl) nD_TM_start_2 (fun H locs hw => ?_)
  refine lv_if_ne (tgt := 16) hx hb nD_TM_start_5 (by decide) (fun h2 => ?_) (fun h2 => ?_)
  · rw [if_neg h2] at hf
    refine lv_aload_n hx hb nD_TM_start_16 rfl (lv_at hl 0 rfl) ?_
    obtain ⟨z3, hz3, hf⟩ := bd_of hf
    refine cg_vi (As := []) (rest := []) F9 hw (ct_TM_isBusy l x   _ _ hz3) (rc_TM ) wc_TM_77 hd_TM_isBusy ⟨by decide, by decide, by decide⟩ ⟨Nat.zero_le _, Nat.zero_le _⟩ hl rfl (Nat.le_of_ble_eq_true rfl) nD_TM_start_17 (fun H locs hw => ?_)
    refine lv_if_eq (tgt := 31) hx hb nD_TM_start_20 (by decide) (fun h4 => ?_) (fun h4 => ?_)
    · rw [if_pos h4] at hf
      refine lv_aload_n hx hb nD_TM_start_31 rfl (lv_at hl 0 rfl) ?_
      refine lv_iload_n hx hb nD_TM_start_32 rfl (lv_at hl 1 rfl) ?_
      refine wr_TM_TM_next F9 hw nD_TM_start_33 (fun H locs hw => ?_)
      refine lv_aload_n hx hb nD_TM_start_36 rfl (lv_at hl 0 rfl) ?_
      refine lv_iconst (v := 0) hx hb nD_TM_start_37 (by decide) ?_
      refine wr_TM_TM_noted F9 hw nD_TM_start_38 (fun H locs hw => ?_)
      refine lv_aload_n hx hb nD_TM_start_41 rfl (lv_at hl 0 rfl) ?_
      refine lv_iconst (v := 0) hx hb nD_TM_start_42 (by decide) ?_
      refine wr_TM_TM_mode F9 hw nD_TM_start_43 (fun H locs hw => ?_)
      refine lv_iconst (v := 1) hx hb nD_TM_start_46 (by decide) ?_
      exact rt_t F9 hw rfl nD_TM_start_47 hf
    · rw [if_neg h4] at hf
      exact th_s F9 G9 hw hl (by decide) nD_TM_start_23 nD_TM_start_26 nD_TM_start_27 nD_TM_start_30 hf
  · rw [if_pos h2] at hf
    exact th_a F9 G9 hw hl (by decide) nD_TM_start_8 nD_TM_start_11 nD_TM_start_12 nD_TM_start_15 hf
set_option maxRecDepth 100000 in
set_option maxHeartbeats 4000000 in
theorem bk_TM_run_37 {z : tr_T} (F : fx_F p s m args meth c nC_TM_run 3 (some .int) nR_TM) (G9 : fx_G l c s x) : ∀ (n : Nat) (a1 : Int32) (a2 : Int32) (σ : sg_T) (H : Heap) (locs : List Loc) (ls : Array Slot), ww_P x s H locs σ → lv_has ls 3 [(0, .ref (x.2.2 0)), (1, .int a1), (2, .int a2)] → fb_TM_run_37 n a1 a2 σ = some z → W p l e (rm_T 7) s m args below meth c H locs 0 0 (qt_Q x s below args z) (F0 m 37 ls []) := by
  have F9 := F
  obtain ⟨hx, hb, hml, hr, hlk, hown, hT⟩ := F
  intro n
  induction n with
  | zero =>
    intro a1 a2 σ H locs ls  hw hl hf
    simp [fb_TM_run_37] at hf
  | succ n ih =>
    intro a1 a2 σ H locs ls  hw hl hf
    unfold fb_TM_run_37 at hf
    refine lv_iload_n hx hb nD_TM_run_37 rfl (lv_at hl 2 rfl) ?_
    refine lv_iload_n hx hb nD_TM_run_38 rfl (lv_at hl 1 rfl) ?_
    refine lv_icmp_ge (tgt := 59) hx hb nD_TM_run_39 (by decide) (fun h5 => ?_) (fun h5 => ?_)
    · rw [if_pos h5] at hf
      refine lv_iload_n hx hb nD_TM_run_59 rfl (lv_at hl 2 rfl) ?_
      exact rt_t F9 hw rfl nD_TM_run_60 hf
    · rw [if_neg h5] at hf
      refine lv_aload_n hx hb nD_TM_run_42 rfl (lv_at hl 0 rfl) ?_
      obtain ⟨z6, hz6, hf⟩ := bd_of hf
      refine cg_vi (As := []) (rest := []) F9 hw (ct_TM_isBusy l x   _ _ hz6) (rc_TM ) wc_TM_77 hd_TM_isBusy ⟨by decide, by decide, by decide⟩ ⟨Nat.zero_le _, Nat.zero_le _⟩ hl rfl (Nat.le_of_ble_eq_true rfl) nD_TM_run_43 (fun H locs hw => ?_)
      refine lv_if_eq (tgt := 59) hx hb nD_TM_run_46 (by decide) (fun h7 => ?_) (fun h7 => ?_)
      · rw [if_pos h7] at hf
        refine lv_iload_n hx hb nD_TM_run_59 rfl (lv_at hl 2 rfl) ?_
        exact rt_t F9 hw rfl nD_TM_run_60 hf
      · rw [if_neg h7] at hf
        refine lv_aload_n hx hb nD_TM_run_49 rfl (lv_at hl 0 rfl) ?_
        obtain ⟨z8, hz8, hf⟩ := bd_of hf
        refine cg_vv (As := []) (rest := []) F9 hw (ct_TM_goOneCycle l x   _ _ hz8) (rc_TM ) wc_TM_97 hd_TM_goOneCycle ⟨by decide, by decide, by decide⟩ ⟨Nat.zero_le _, Nat.zero_le _⟩ hl rfl (Nat.le_of_ble_eq_true rfl) nD_TM_run_50 (fun H locs hw => ?_)
        refine lv_iinc (k := 2) (v := a2 + (1 : Int32)) (lv' := [(2, .int (a2 + (1 : Int32))), (0, .ref (x.2.2 0)), (1, .int a1)]) hx hb nD_TM_run_53 hl rfl (ic_p1 _) (by decide) rfl (fun ls hl => ?_)
        refine lv_goto (tgt := 37) hx hb nD_TM_run_56 (by decide) ?_
        exact ih a1 (a2 + (1 : Int32)) _ _ _ _  hw (lv_sub hl [1, 2, 0] rfl) hf
set_option maxRecDepth 100000 in
set_option maxHeartbeats 4000000 in
theorem ct_TM_run (l : Launch) (hl9 : l.stackTraces = false) (x : cx_T) (a1 : Int32) (σ : sg_T) (z : tr_T) (hf : fn_TM_run a1 σ = some z) : ct_t l nN_TM_run nC_TM_run 3 (some .int) 7 x [.ref (x.2.2 0), .int a1] σ z := by
  refine en_t (own := nR_TM) hl9 (by decide) (Nat.le_of_ble_eq_true rfl) rfl ?_
  intro p e s m below meth c ls F G9 hw hl
  have F9 := F
  obtain ⟨hx, hb, hml, hr, hlk, hown, hT⟩ := F
  have hl : lv_has ls 3 [(0, .ref (x.2.2 0)), (1, .int a1)] := hl
  unfold fn_TM_run at hf
  refine lv_iload_n hx hb nD_TM_run_0 rfl (lv_at hl 1 rfl) ?_
  refine lv_iconst (v := 1) hx hb nD_TM_run_1 (by decide) ?_
  refine lv_icmp_lt (tgt := 12) hx hb nD_TM_run_2 (by decide) (fun h1 => ?_) (fun h1 => ?_)
  · rw [if_pos h1] at hf
    exact th_a F9 G9 hw hl (by decide) nD_TM_run_12 nD_TM_run_15 nD_TM_run_16 nD_TM_run_19 hf
  · rw [if_neg h1] at hf
    refine lv_iload_n hx hb nD_TM_run_5 rfl (lv_at hl 1 rfl) ?_
    refine lv_sipush (v := 300) hx hb nD_TM_run_6 (by decide) ?_
    refine lv_icmp_le (tgt := 20) hx hb nD_TM_run_9 (by decide) (fun h2 => ?_) (fun h2 => ?_)
    · rw [if_pos h2] at hf
      refine lv_aload_n hx hb nD_TM_run_20 rfl (lv_at hl 0 rfl) ?_
      obtain ⟨z3, hz3, hf⟩ := bd_of hf
      refine cg_vi (As := []) (rest := []) F9 hw (ct_TM_isBusy l x   _ _ hz3) (rc_TM ) wc_TM_77 hd_TM_isBusy ⟨by decide, by decide, by decide⟩ ⟨Nat.zero_le _, Nat.zero_le _⟩ hl rfl (Nat.le_of_ble_eq_true rfl) nD_TM_run_21 (fun H locs hw => ?_)
      refine lv_if_ne (tgt := 35) hx hb nD_TM_run_24 (by decide) (fun h4 => ?_) (fun h4 => ?_)
      · rw [if_neg h4] at hf
        refine lv_iconst (v := 0) hx hb nD_TM_run_35 (by decide) ?_
        refine lv_istore_n (lv' := [(2, .int (0 : Int32)), (0, .ref (x.2.2 0)), (1, .int a1)]) hx hb nD_TM_run_36 rfl hl (by decide) rfl (fun ls hl => ?_)
        exact bk_TM_run_37 F9 G9 302 a1 (0 : Int32) _ _ _ _  hw (lv_sub hl [1, 2, 0] rfl) hf
      · rw [if_pos h4] at hf
        exact th_s F9 G9 hw hl (by decide) nD_TM_run_27 nD_TM_run_30 nD_TM_run_31 nD_TM_run_34 hf
    · rw [if_neg h2] at hf
      exact th_a F9 G9 hw hl (by decide) nD_TM_run_12 nD_TM_run_15 nD_TM_run_16 nD_TM_run_19 hf
set_option maxRecDepth 100000 in
set_option maxHeartbeats 4000000 in
theorem ct_TM_set (l : Launch) (hl9 : l.stackTraces = false) (x : cx_T) (a1 : Int32) (a2 : Int32) (σ : sg_T) (z : tr_T) (hf : fn_TM_set a1 a2 σ = some z) : ct_t l nN_TM_set nC_TM_set 3 (some .boolean) 6 x [.ref (x.2.2 0), .int a1, .int a2] σ z := by
  refine en_t (own := nR_TM) hl9 (by decide) (Nat.le_of_ble_eq_true rfl) rfl ?_
  intro p e s m below meth c ls F G9 hw hl
  have F9 := F
  obtain ⟨hx, hb, hml, hr, hlk, hown, hT⟩ := F
  have hl : lv_has ls 3 [(0, .ref (x.2.2 0)), (1, .int a1), (2, .int a2)] := hl
  unfold fn_TM_set at hf
  refine lv_iload_n hx hb nD_TM_set_0 rfl (lv_at hl 1 rfl) ?_
  obtain ⟨z1, hz1, hf⟩ := bd_of hf
  refine cg_si (As := [.int a1]) (rest := []) F9 hw (ct_TM_isRegister l x a1  _ _ hz1) wc_TM_67 hd_TM_isRegister ⟨by decide, by decide, by decide⟩ ⟨Nat.zero_le _, Nat.zero_le _⟩ hl rfl (Nat.le_of_ble_eq_true rfl) nD_TM_set_1 (fun H locs hw => ?_)
  refine lv_if_ne (tgt := 15) hx hb nD_TM_set_4 (by decide) (fun h2 => ?_) (fun h2 => ?_)
  · rw [if_neg h2] at hf
    refine lv_aload_n hx hb nD_TM_set_15 rfl (lv_at hl 0 rfl) ?_
    obtain ⟨z3, hz3, hf⟩ := bd_of hf
    refine cg_vi (As := []) (rest := []) F9 hw (ct_TM_isBusy l x   _ _ hz3) (rc_TM ) wc_TM_77 hd_TM_isBusy ⟨by decide, by decide, by decide⟩ ⟨Nat.zero_le _, Nat.zero_le _⟩ hl rfl (Nat.le_of_ble_eq_true rfl) nD_TM_set_16 (fun H locs hw => ?_)
    refine lv_if_eq (tgt := 30) hx hb nD_TM_set_19 (by decide) (fun h4 => ?_) (fun h4 => ?_)
    · rw [if_pos h4] at hf
      refine lv_aload_n hx hb nD_TM_set_30 rfl (lv_at hl 0 rfl) ?_
      refine rd_TM_TM_registers F9 hw nD_TM_set_31 ?_
      refine lv_iload_n hx hb nD_TM_set_34 rfl (lv_at hl 1 rfl) ?_
      obtain ⟨g5, hf⟩ := gt_of hf
      refine al_registers F9 hw g5 nD_TM_set_35 ?_
      refine lv_iload_n hx hb nD_TM_set_36 rfl (lv_at hl 2 rfl) ?_
      obtain ⟨z6, hz6, hf⟩ := bd_of hf
      refine cg_vv (As := [.int a2]) (rest := []) F9 hw (ct_OPD_haveValue l x (tn_I a1) a2 (Nat.lt_of_lt_of_le (ib_lt g5) (by decide)) _ _ hz6) (rc_OPD (Nat.lt_of_lt_of_le (ib_lt g5) (by decide))) wc_TM_100 hd_OPD_haveValue ⟨by decide, by decide, by decide⟩ ⟨Nat.zero_le _, Nat.zero_le _⟩ hl rfl (Nat.le_of_ble_eq_true rfl) nD_TM_set_37 (fun H locs hw => ?_)
      refine lv_iconst (v := 1) hx hb nD_TM_set_40 (by decide) ?_
      exact rt_t F9 hw rfl nD_TM_set_41 hf
    · rw [if_neg h4] at hf
      exact th_s F9 G9 hw hl (by decide) nD_TM_set_22 nD_TM_set_25 nD_TM_set_26 nD_TM_set_29 hf
  · rw [if_pos h2] at hf
    exact th_a F9 G9 hw hl (by decide) nD_TM_set_7 nD_TM_set_10 nD_TM_set_11 nD_TM_set_14 hf
set_option maxRecDepth 100000 in
set_option maxHeartbeats 4000000 in
theorem ct_TM_store (l : Launch) (hl9 : l.stackTraces = false) (x : cx_T) (a1 : Int32) (a2 : Int32) (σ : sg_T) (z : tr_T) (hf : fn_TM_store a1 a2 σ = some z) : ct_t l nN_TM_store nC_TM_store 3 (some .boolean) 6 x [.ref (x.2.2 0), .int a1, .int a2] σ z := by
  refine en_t (own := nR_TM) hl9 (by decide) (Nat.le_of_ble_eq_true rfl) rfl ?_
  intro p e s m below meth c ls F G9 hw hl
  have F9 := F
  obtain ⟨hx, hb, hml, hr, hlk, hown, hT⟩ := F
  have hl : lv_has ls 3 [(0, .ref (x.2.2 0)), (1, .int a1), (2, .int a2)] := hl
  unfold fn_TM_store at hf
  refine lv_iload_n hx hb nD_TM_store_0 rfl (lv_at hl 1 rfl) ?_
  obtain ⟨z1, hz1, hf⟩ := bd_of hf
  refine cg_si (As := [.int a1]) (rest := []) F9 hw (ct_TM_isPlace l x a1  _ _ hz1) wc_TM_104 hd_TM_isPlace ⟨by decide, by decide, by decide⟩ ⟨Nat.zero_le _, Nat.zero_le _⟩ hl rfl (Nat.le_of_ble_eq_true rfl) nD_TM_store_1 (fun H locs hw => ?_)
  refine lv_if_ne (tgt := 15) hx hb nD_TM_store_4 (by decide) (fun h2 => ?_) (fun h2 => ?_)
  · rw [if_neg h2] at hf
    refine lv_aload_n hx hb nD_TM_store_15 rfl (lv_at hl 0 rfl) ?_
    obtain ⟨z3, hz3, hf⟩ := bd_of hf
    refine cg_vi (As := []) (rest := []) F9 hw (ct_TM_isBusy l x   _ _ hz3) (rc_TM ) wc_TM_77 hd_TM_isBusy ⟨by decide, by decide, by decide⟩ ⟨Nat.zero_le _, Nat.zero_le _⟩ hl rfl (Nat.le_of_ble_eq_true rfl) nD_TM_store_16 (fun H locs hw => ?_)
    refine lv_if_eq (tgt := 30) hx hb nD_TM_store_19 (by decide) (fun h4 => ?_) (fun h4 => ?_)
    · rw [if_pos h4] at hf
      refine lv_aload_n hx hb nD_TM_store_30 rfl (lv_at hl 0 rfl) ?_
      refine rd_TM_TM_words F9 hw nD_TM_store_31 ?_
      refine lv_iload_n hx hb nD_TM_store_34 rfl (lv_at hl 1 rfl) ?_
      refine lv_iload_n hx hb nD_TM_store_35 rfl (lv_at hl 2 rfl) ?_
      obtain ⟨g5, hf⟩ := gt_of hf
      refine as_words F9 hw g5 nD_TM_store_36 (fun H locs hw => ?_)
      refine lv_iconst (v := 1) hx hb nD_TM_store_37 (by decide) ?_
      exact rt_t F9 hw rfl nD_TM_store_38 hf
    · rw [if_neg h4] at hf
      exact th_s F9 G9 hw hl (by decide) nD_TM_store_22 nD_TM_store_25 nD_TM_store_26 nD_TM_store_29 hf
  · rw [if_pos h2] at hf
    exact th_a F9 G9 hw hl (by decide) nD_TM_store_7 nD_TM_store_10 nD_TM_store_11 nD_TM_store_14 hf
set_option maxRecDepth 100000 in
set_option maxHeartbeats 4000000 in
theorem ct_TM_reckon (l : Launch) (hl9 : l.stackTraces = false) (x : cx_T) (a1 : Int32) (a2 : Int32) (a3 : Int32) (σ : sg_T) (z : tr_T) (hf : fn_TM_reckon a1 a2 a3 σ = some z) : ct_t l nN_TM_reckon nC_TM_reckon 4 (some .int) 6 x [.ref (x.2.2 0), .int a1, .int a2, .int a3] σ z := by
  refine en_t (own := nR_TM) hl9 (by decide) (Nat.le_of_ble_eq_true rfl) rfl ?_
  intro p e s m below meth c ls F G9 hw hl
  have F9 := F
  obtain ⟨hx, hb, hml, hr, hlk, hown, hT⟩ := F
  have hl : lv_has ls 4 [(0, .ref (x.2.2 0)), (1, .int a1), (2, .int a2), (3, .int a3)] := hl
  unfold fn_TM_reckon at hf
  refine lv_iload_n hx hb nD_TM_reckon_0 rfl (lv_at hl 1 rfl) ?_
  obtain ⟨z1, hz1, hf⟩ := bd_of hf
  refine cg_si (As := [.int a1]) (rest := []) F9 hw (ct_REC_knows l x a1  _ _ hz1) wc_TM_107 hd_REC_knows ⟨by decide, by decide, by decide⟩ ⟨Nat.zero_le _, Nat.zero_le _⟩ hl rfl (Nat.le_of_ble_eq_true rfl) nD_TM_reckon_1 (fun H locs hw => ?_)
  refine lv_if_ne (tgt := 15) hx hb nD_TM_reckon_4 (by decide) (fun h2 => ?_) (fun h2 => ?_)
  · rw [if_neg h2] at hf
    refine lv_aload_n hx hb nD_TM_reckon_15 rfl (lv_at hl 0 rfl) ?_
    refine rd_TM_TM_reckoner F9 hw nD_TM_reckon_16 ?_
    refine lv_iload_n hx hb nD_TM_reckon_19 rfl (lv_at hl 1 rfl) ?_
    refine lv_iload_n hx hb nD_TM_reckon_20 rfl (lv_at hl 2 rfl) ?_
    refine lv_iload_n hx hb nD_TM_reckon_21 rfl (lv_at hl 3 rfl) ?_
    obtain ⟨z3, hz3, hf⟩ := bd_of hf
    refine cg_vv (As := [.int a1, .int a2, .int a3]) (rest := []) F9 hw (ct_REC_workOut l x a1 a2 a3  _ _ hz3) (rc_REC ) wc_TM_110 hd_REC_workOut ⟨by decide, by decide, by decide⟩ ⟨Nat.zero_le _, Nat.zero_le _⟩ hl rfl (Nat.le_of_ble_eq_true rfl) nD_TM_reckon_22 (fun H locs hw => ?_)
    refine lv_aload_n hx hb nD_TM_reckon_25 rfl (lv_at hl 0 rfl) ?_
    refine rd_TM_TM_reckoner F9 hw nD_TM_reckon_26 ?_
    refine rd_TM_REC_result F9 hw nD_TM_reckon_29 ?_
    exact rt_t F9 hw rfl nD_TM_reckon_32 hf
  · rw [if_pos h2] at hf
    exact th_a F9 G9 hw hl (by decide) nD_TM_reckon_7 nD_TM_reckon_10 nD_TM_reckon_11 nD_TM_reckon_14 hf
set_option maxRecDepth 100000 in
set_option maxHeartbeats 4000000 in
theorem ct_TM_exceptions (l : Launch) (hl9 : l.stackTraces = false) (x : cx_T) (a1 : Int32) (a2 : Int32) (a3 : Int32) (σ : sg_T) (z : tr_T) (hf : fn_TM_exceptions a1 a2 a3 σ = some z) : ct_t l nN_TM_exceptions nC_TM_exceptions 4 (some .int) 6 x [.ref (x.2.2 0), .int a1, .int a2, .int a3] σ z := by
  refine en_t (own := nR_TM) hl9 (by decide) (Nat.le_of_ble_eq_true rfl) rfl ?_
  intro p e s m below meth c ls F G9 hw hl
  have F9 := F
  obtain ⟨hx, hb, hml, hr, hlk, hown, hT⟩ := F
  have hl : lv_has ls 4 [(0, .ref (x.2.2 0)), (1, .int a1), (2, .int a2), (3, .int a3)] := hl
  unfold fn_TM_exceptions at hf
  refine lv_iload_n hx hb nD_TM_exceptions_0 rfl (lv_at hl 1 rfl) ?_
  obtain ⟨z1, hz1, hf⟩ := bd_of hf
  refine cg_si (As := [.int a1]) (rest := []) F9 hw (ct_REC_knows l x a1  _ _ hz1) wc_TM_107 hd_REC_knows ⟨by decide, by decide, by decide⟩ ⟨Nat.zero_le _, Nat.zero_le _⟩ hl rfl (Nat.le_of_ble_eq_true rfl) nD_TM_exceptions_1 (fun H locs hw => ?_)
  refine lv_if_ne (tgt := 15) hx hb nD_TM_exceptions_4 (by decide) (fun h2 => ?_) (fun h2 => ?_)
  · rw [if_neg h2] at hf
    refine lv_aload_n hx hb nD_TM_exceptions_15 rfl (lv_at hl 0 rfl) ?_
    refine rd_TM_TM_reckoner F9 hw nD_TM_exceptions_16 ?_
    refine lv_iload_n hx hb nD_TM_exceptions_19 rfl (lv_at hl 1 rfl) ?_
    refine lv_iload_n hx hb nD_TM_exceptions_20 rfl (lv_at hl 2 rfl) ?_
    refine lv_iload_n hx hb nD_TM_exceptions_21 rfl (lv_at hl 3 rfl) ?_
    obtain ⟨z3, hz3, hf⟩ := bd_of hf
    refine cg_vv (As := [.int a1, .int a2, .int a3]) (rest := []) F9 hw (ct_REC_workOut l x a1 a2 a3  _ _ hz3) (rc_REC ) wc_TM_110 hd_REC_workOut ⟨by decide, by decide, by decide⟩ ⟨Nat.zero_le _, Nat.zero_le _⟩ hl rfl (Nat.le_of_ble_eq_true rfl) nD_TM_exceptions_22 (fun H locs hw => ?_)
    refine lv_aload_n hx hb nD_TM_exceptions_25 rfl (lv_at hl 0 rfl) ?_
    refine rd_TM_TM_reckoner F9 hw nD_TM_exceptions_26 ?_
    refine rd_TM_REC_raised F9 hw nD_TM_exceptions_29 ?_
    exact rt_t F9 hw rfl nD_TM_exceptions_32 hf
  · rw [if_pos h2] at hf
    exact th_a F9 G9 hw hl (by decide) nD_TM_exceptions_7 nD_TM_exceptions_10 nD_TM_exceptions_11 nD_TM_exceptions_14 hf
end MT
