-- words (written by program)
theorem wm_266 : Cond.methodLink nR_LAW 7 nN_TM_put ∈ lw_ws := lw_m (i := 266) (by decide +kernel) (by decide +kernel)
theorem wm_267 : Cond.instanceMethod nN_TM_put ∈ lw_ws := lw_m (i := 267) (by decide +kernel) (by decide +kernel)
theorem wm_268 : Cond.selects nR_TM nN_TM_put nN_TM_put ∈ lw_ws := lw_m (i := 268) (by decide +kernel) (by decide +kernel)
set_option maxRecDepth 100000 in
theorem wm_269 : Cond.code nN_TM_put nC_TM_put 6 (some .int) ∈ lw_ws := lw_m (i := 269) rfl (by decide +kernel)
theorem wm_358 : Cond.methodLink nR_LAW 17 nN_TM_start ∈ lw_ws := lw_m (i := 358) (by decide +kernel) (by decide +kernel)
theorem wm_359 : Cond.instanceMethod nN_TM_start ∈ lw_ws := lw_m (i := 359) (by decide +kernel) (by decide +kernel)
theorem wm_360 : Cond.selects nR_TM nN_TM_start nN_TM_start ∈ lw_ws := lw_m (i := 360) (by decide +kernel) (by decide +kernel)
set_option maxRecDepth 100000 in
theorem wm_361 : Cond.code nN_TM_start nC_TM_start 2 (some .boolean) ∈ lw_ws := lw_m (i := 361) rfl (by decide +kernel)
theorem wm_369 : Cond.methodLink nR_LAW 21 nN_TM_run ∈ lw_ws := lw_m (i := 369) (by decide +kernel) (by decide +kernel)
theorem wm_370 : Cond.instanceMethod nN_TM_run ∈ lw_ws := lw_m (i := 370) (by decide +kernel) (by decide +kernel)
theorem wm_371 : Cond.selects nR_TM nN_TM_run nN_TM_run ∈ lw_ws := lw_m (i := 371) (by decide +kernel) (by decide +kernel)
set_option maxRecDepth 100000 in
theorem wm_372 : Cond.code nN_TM_run nC_TM_run 3 (some .int) ∈ lw_ws := lw_m (i := 372) rfl (by decide +kernel)
theorem wm_551 : Cond.methodLink nR_LAW 25 nN_TM_set ∈ lw_ws := lw_m (i := 551) (by decide +kernel) (by decide +kernel)
theorem wm_552 : Cond.instanceMethod nN_TM_set ∈ lw_ws := lw_m (i := 552) (by decide +kernel) (by decide +kernel)
theorem wm_553 : Cond.selects nR_TM nN_TM_set nN_TM_set ∈ lw_ws := lw_m (i := 553) (by decide +kernel) (by decide +kernel)
set_option maxRecDepth 100000 in
theorem wm_554 : Cond.code nN_TM_set nC_TM_set 3 (some .boolean) ∈ lw_ws := lw_m (i := 554) rfl (by decide +kernel)
theorem wm_559 : Cond.methodLink nR_LAW 29 nN_TM_store ∈ lw_ws := lw_m (i := 559) (by decide +kernel) (by decide +kernel)
theorem wm_560 : Cond.instanceMethod nN_TM_store ∈ lw_ws := lw_m (i := 560) (by decide +kernel) (by decide +kernel)
theorem wm_561 : Cond.selects nR_TM nN_TM_store nN_TM_store ∈ lw_ws := lw_m (i := 561) (by decide +kernel) (by decide +kernel)
set_option maxRecDepth 100000 in
theorem wm_562 : Cond.code nN_TM_store nC_TM_store 3 (some .boolean) ∈ lw_ws := lw_m (i := 562) rfl (by decide +kernel)
theorem wm_566 : Cond.methodLink nR_LAW 32 nN_TM_reckon ∈ lw_ws := lw_m (i := 566) (by decide +kernel) (by decide +kernel)
theorem wm_567 : Cond.instanceMethod nN_TM_reckon ∈ lw_ws := lw_m (i := 567) (by decide +kernel) (by decide +kernel)
theorem wm_568 : Cond.selects nR_TM nN_TM_reckon nN_TM_reckon ∈ lw_ws := lw_m (i := 568) (by decide +kernel) (by decide +kernel)
set_option maxRecDepth 100000 in
theorem wm_569 : Cond.code nN_TM_reckon nC_TM_reckon 4 (some .int) ∈ lw_ws := lw_m (i := 569) rfl (by decide +kernel)
theorem wm_576 : Cond.methodLink nR_LAW 36 nN_TM_exceptions ∈ lw_ws := lw_m (i := 576) (by decide +kernel) (by decide +kernel)
theorem wm_577 : Cond.instanceMethod nN_TM_exceptions ∈ lw_ws := lw_m (i := 577) (by decide +kernel) (by decide +kernel)
theorem wm_578 : Cond.selects nR_TM nN_TM_exceptions nN_TM_exceptions ∈ lw_ws := lw_m (i := 578) (by decide +kernel) (by decide +kernel)
set_option maxRecDepth 100000 in
theorem wm_579 : Cond.code nN_TM_exceptions nC_TM_exceptions 4 (some .int) ∈ lw_ws := lw_m (i := 579) rfl (by decide +kernel)
theorem wc_LAW_17 : GoodIn lw_ws (wsV nR_LAW 17 (nN_TM_start).cls nN_TM_start (.code nN_TM_start nC_TM_start 2 (some .boolean) :: lw_ws)) := gs_V wm_358 wm_359 wm_360 wm_49 wm_361
theorem wc_LAW_21 : GoodIn lw_ws (wsV nR_LAW 21 (nN_TM_run).cls nN_TM_run (.code nN_TM_run nC_TM_run 3 (some .int) :: lw_ws)) := gs_V wm_369 wm_370 wm_371 wm_49 wm_372
theorem wc_LAW_25 : GoodIn lw_ws (wsV nR_LAW 25 (nN_TM_set).cls nN_TM_set (.code nN_TM_set nC_TM_set 3 (some .boolean) :: lw_ws)) := gs_V wm_551 wm_552 wm_553 wm_49 wm_554
theorem wc_LAW_29 : GoodIn lw_ws (wsV nR_LAW 29 (nN_TM_store).cls nN_TM_store (.code nN_TM_store nC_TM_store 3 (some .boolean) :: lw_ws)) := gs_V wm_559 wm_560 wm_561 wm_49 wm_562
theorem wc_LAW_32 : GoodIn lw_ws (wsV nR_LAW 32 (nN_TM_reckon).cls nN_TM_reckon (.code nN_TM_reckon nC_TM_reckon 4 (some .int) :: lw_ws)) := gs_V wm_566 wm_567 wm_568 wm_49 wm_569
theorem wc_LAW_36 : GoodIn lw_ws (wsV nR_LAW 36 (nN_TM_exceptions).cls nN_TM_exceptions (.code nN_TM_exceptions nC_TM_exceptions 4 (some .int) :: lw_ws)) := gs_V wm_576 wm_577 wm_578 wm_49 wm_579
theorem wc_LAW_7 : GoodIn lw_ws (wsV nR_LAW 7 (nN_TM_put).cls nN_TM_put (.code nN_TM_put nC_TM_put 6 (some .int) :: lw_ws)) := gs_V wm_266 wm_267 wm_268 wm_49 wm_269
def fn_LAW_put (a1 : Int32) (a2 : Int32) (a3 : Int32) (a4 : Int32) (a5 : Int32) (σ : sg_T) : Option (Int32 × sg_T) := (fn_TM_put a1 a2 a3 a4 a5 σ).bind (fun z1 => if z1.1 = 0 then gt_d (ib_I (0 : Int32) 1) (gt_d (decide (z1.2.1.toInt64.toInt32.toInt64 = z1.2.1.toInt64)) (some ((0 : Int32), sg_up z1.2.2 51 0 z1.2.1.toInt64.toInt32))) else if z1.1 = 1 then some ((1 : Int32), z1.2.2) else if z1.1 = 2 then some ((2 : Int32), z1.2.2) else none)
def fn_LAW_start (a1 : Int32) (σ : sg_T) : Option (Int32 × sg_T) := (fn_TM_start a1 σ).bind (fun z1 => if z1.1 = 0 then if z1.2.1 = 0 then gt_d (ib_I (0 : Int32) 1) (gt_d (decide ((0 : Int64).toInt32.toInt64 = (0 : Int64))) (some ((0 : Int32), sg_up z1.2.2 51 0 (0 : Int64).toInt32))) else gt_d (ib_I (0 : Int32) 1) (gt_d (decide ((1 : Int64).toInt32.toInt64 = (1 : Int64))) (some ((0 : Int32), sg_up z1.2.2 51 0 (1 : Int64).toInt32))) else if z1.1 = 1 then some ((1 : Int32), z1.2.2) else if z1.1 = 2 then some ((2 : Int32), z1.2.2) else none)
def fn_LAW_run (a1 : Int32) (σ : sg_T) : Option (Int32 × sg_T) := (fn_TM_run a1 σ).bind (fun z1 => if z1.1 = 0 then gt_d (ib_I (0 : Int32) 1) (gt_d (decide (z1.2.1.toInt64.toInt32.toInt64 = z1.2.1.toInt64)) (some ((0 : Int32), sg_up z1.2.2 51 0 z1.2.1.toInt64.toInt32))) else if z1.1 = 1 then some ((1 : Int32), z1.2.2) else if z1.1 = 2 then some ((2 : Int32), z1.2.2) else none)
def fn_LAW_set (a1 : Int32) (a2 : Int32) (σ : sg_T) : Option (Int32 × sg_T) := (fn_TM_set a1 a2 σ).bind (fun z1 => if z1.1 = 0 then if z1.2.1 = 0 then gt_d (ib_I (0 : Int32) 1) (gt_d (decide ((0 : Int64).toInt32.toInt64 = (0 : Int64))) (some ((0 : Int32), sg_up z1.2.2 51 0 (0 : Int64).toInt32))) else gt_d (ib_I (0 : Int32) 1) (gt_d (decide ((1 : Int64).toInt32.toInt64 = (1 : Int64))) (some ((0 : Int32), sg_up z1.2.2 51 0 (1 : Int64).toInt32))) else if z1.1 = 1 then some ((1 : Int32), z1.2.2) else if z1.1 = 2 then some ((2 : Int32), z1.2.2) else none)
def fn_LAW_store (a1 : Int32) (a2 : Int32) (σ : sg_T) : Option (Int32 × sg_T) := (fn_TM_store a1 a2 σ).bind (fun z1 => if z1.1 = 0 then if z1.2.1 = 0 then gt_d (ib_I (0 : Int32) 1) (gt_d (decide ((0 : Int64).toInt32.toInt64 = (0 : Int64))) (some ((0 : Int32), sg_up z1.2.2 51 0 (0 : Int64).toInt32))) else gt_d (ib_I (0 : Int32) 1) (gt_d (decide ((1 : Int64).toInt32.toInt64 = (1 : Int64))) (some ((0 : Int32), sg_up z1.2.2 51 0 (1 : Int64).toInt32))) else if z1.1 = 1 then some ((1 : Int32), z1.2.2) else if z1.1 = 2 then some ((2 : Int32), z1.2.2) else none)
def fn_LAW_reckon (a1 : Int32) (a2 : Int32) (a3 : Int32) (σ : sg_T) : Option (Int32 × sg_T) := (fn_TM_reckon a1 a2 a3 σ).bind (fun z1 => if z1.1 = 0 then gt_d (ib_I (0 : Int32) 1) (gt_d (decide (z1.2.1.toInt64.toInt32.toInt64 = z1.2.1.toInt64)) (some ((0 : Int32), sg_up z1.2.2 51 0 z1.2.1.toInt64.toInt32))) else if z1.1 = 1 then some ((1 : Int32), z1.2.2) else none)
def fn_LAW_exceptions (a1 : Int32) (a2 : Int32) (a3 : Int32) (σ : sg_T) : Option (Int32 × sg_T) := (fn_TM_exceptions a1 a2 a3 σ).bind (fun z1 => if z1.1 = 0 then gt_d (ib_I (0 : Int32) 1) (gt_d (decide (z1.2.1.toInt64.toInt32.toInt64 = z1.2.1.toInt64)) (some ((0 : Int32), sg_up z1.2.2 51 0 z1.2.1.toInt64.toInt32))) else if z1.1 = 1 then some ((1 : Int32), z1.2.2) else none)
section MT
variable {p : Program} {l : Launch} {e : Env} {s : State} {m : MethodId} {args : Array Value} {below : List Frame} {meth : Method} {c : Code} {x : cx_T}
set_option maxRecDepth 100000 in
set_option maxHeartbeats 4000000 in
theorem ct_LAW_put (l : Launch) (hl9 : l.stackTraces = false) (x : cx_T) (a1 : Int32) (a2 : Int32) (a3 : Int32) (a4 : Int32) (a5 : Int32) (σ : sg_T) (z : Int32 × sg_T) (hf : fn_LAW_put a1 a2 a3 a4 a5 σ = some z) : ct_w l nN_LAW_put nC_LAW_put 8 [(0, 16, 19, 13), (0, 16, 23, 15)] 7 x [.ref (x.2.2 0), .int a1, .int a2, .int a3, .int a4, .int a5, .ref (x.2.2 102)] σ z.1 z.2 := by
  refine en_w (own := nR_LAW) (by decide) (Nat.le_of_ble_eq_true rfl) rfl ?_
  intro p e s m below meth c ls F G9 hw hl
  have F9 := F
  obtain ⟨hx, hb, hml, hr, hlk, hown, hT⟩ := F
  have hl : lv_has ls 8 [(0, .ref (x.2.2 0)), (1, .int a1), (2, .int a2), (3, .int a3), (4, .int a4), (5, .int a5), (6, .ref (x.2.2 102))] := hl
  unfold fn_LAW_put at hf
  refine lv_aload hx hb nD_LAW_put_0 (lv_at hl 6 rfl) ?_
  refine lv_iconst (v := 0) hx hb nD_LAW_put_2 (by decide) ?_
  refine lv_aload_n hx hb nD_LAW_put_3 rfl (lv_at hl 0 rfl) ?_
  refine lv_iload_n hx hb nD_LAW_put_4 rfl (lv_at hl 1 rfl) ?_
  refine lv_iload_n hx hb nD_LAW_put_5 rfl (lv_at hl 2 rfl) ?_
  refine lv_iload_n hx hb nD_LAW_put_6 rfl (lv_at hl 3 rfl) ?_
  refine lv_iload hx hb nD_LAW_put_7 (lv_at hl 4 rfl) ?_
  refine lv_iload hx hb nD_LAW_put_9 (lv_at hl 5 rfl) ?_
  obtain ⟨z1, hz1, hf⟩ := bd_of hf
  refine cg_vt (As := [.int a1, .int a2, .int a3, .int a4, .int a5]) (rest := [.int (0 : Int32), .ref (x.2.2 102)]) F9 G9.1 hw (ct_TM_put l hl9 x a1 a2 a3 a4 a5 _ _ hz1) rc_TM wc_LAW_7 hd_TM_put ⟨by decide, by decide, by decide⟩ ⟨by decide, by decide⟩ hl rfl (Nat.le_of_ble_eq_true rfl) nD_LAW_put_11 (fun E ce q9 H locs hw hE g1 g2 g3 => ?_) (fun H locs hw h0 => ?_)
  · rcases hE with ⟨hk, rfl⟩ | ⟨hk, rfl⟩
    · rw [if_neg (by rw [hk]; decide), if_pos hk] at hf
      refine ch_a 0 16 19 F9 G9 (by decide) g1 g2 g3 ?_
      refine lv_astore (lv' := [(7, .ref q9), (0, .ref (x.2.2 0)), (1, .int a1), (2, .int a2), (3, .int a3), (4, .int a4), (5, .int a5), (6, .ref (x.2.2 102))]) hx hb nD_LAW_put_19 hl (by decide) rfl (fun ls hl => ?_)
      refine lv_iconst (v := 1) hx hb nD_LAW_put_21 (by decide) ?_
      exact rt_w F9 hw nD_LAW_put_22 hf
    · rw [if_neg (by rw [hk]; decide), if_neg (by rw [hk]; decide), if_pos hk] at hf
      refine ch_s 0 16 19 0 16 23 F9 G9 (by decide) g1 g2 g3 ?_
      refine lv_astore (lv' := [(7, .ref q9), (0, .ref (x.2.2 0)), (1, .int a1), (2, .int a2), (3, .int a3), (4, .int a4), (5, .int a5), (6, .ref (x.2.2 102))]) hx hb nD_LAW_put_23 hl (by decide) rfl (fun ls hl => ?_)
      refine lv_iconst (v := 2) hx hb nD_LAW_put_25 (by decide) ?_
      exact rt_w F9 hw nD_LAW_put_26 hf
  · rw [if_pos h0] at hf
    refine lv_i2l (v := z1.2.1.toInt64) hx hb nD_LAW_put_14 rfl ?_
    obtain ⟨g2, hf⟩ := gt_of hf
    obtain ⟨g3, hf⟩ := gt_of hf
    refine as_out F9 hw g2 (of_decide_eq_true g3) nD_LAW_put_15 (fun H locs hw => ?_)
    refine lv_goto (tgt := 27) hx hb nD_LAW_put_16 (by decide) ?_
    refine lv_iconst (v := 0) hx hb nD_LAW_put_27 (by decide) ?_
    exact rt_w F9 hw nD_LAW_put_28 hf
set_option maxRecDepth 100000 in
set_option maxHeartbeats 4000000 in
theorem ct_LAW_start (l : Launch) (hl9 : l.stackTraces = false) (x : cx_T) (a1 : Int32) (σ : sg_T) (z : Int32 × sg_T) (hf : fn_LAW_start a1 σ = some z) : ct_w l nN_LAW_start nC_LAW_start 4 [(0, 16, 19, 13), (0, 16, 22, 15)] 7 x [.ref (x.2.2 0), .int a1, .ref (x.2.2 102)] σ z.1 z.2 := by
  refine en_w (own := nR_LAW) (by decide) (Nat.le_of_ble_eq_true rfl) rfl ?_
  intro p e s m below meth c ls F G9 hw hl
  have F9 := F
  obtain ⟨hx, hb, hml, hr, hlk, hown, hT⟩ := F
  have hl : lv_has ls 4 [(0, .ref (x.2.2 0)), (1, .int a1), (2, .ref (x.2.2 102))] := hl
  unfold fn_LAW_start at hf
  refine lv_aload_n hx hb nD_LAW_start_0 rfl (lv_at hl 2 rfl) ?_
  refine lv_iconst (v := 0) hx hb nD_LAW_start_1 (by decide) ?_
  refine lv_aload_n hx hb nD_LAW_start_2 rfl (lv_at hl 0 rfl) ?_
  refine lv_iload_n hx hb nD_LAW_start_3 rfl (lv_at hl 1 rfl) ?_
  obtain ⟨z1, hz1, hf⟩ := bd_of hf
  refine cg_vt (As := [.int a1]) (rest := [.int (0 : Int32), .ref (x.2.2 102)]) F9 G9.1 hw (ct_TM_start l hl9 x a1 _ _ hz1) rc_TM wc_LAW_17 hd_TM_start ⟨by decide, by decide, by decide⟩ ⟨by decide, by decide⟩ hl rfl (Nat.le_of_ble_eq_true rfl) nD_LAW_start_4 (fun E ce q9 H locs hw hE g1 g2 g3 => ?_) (fun H locs hw h0 => ?_)
  · rcases hE with ⟨hk, rfl⟩ | ⟨hk, rfl⟩
    · rw [if_neg (by rw [hk]; decide), if_pos hk] at hf
      refine ch_a 0 16 19 F9 G9 (by decide) g1 g2 g3 ?_
      refine lv_astore_n (lv' := [(3, .ref q9), (0, .ref (x.2.2 0)), (1, .int a1), (2, .ref (x.2.2 102))]) hx hb nD_LAW_start_19 rfl hl (by decide) rfl (fun ls hl => ?_)
      refine lv_iconst (v := 1) hx hb nD_LAW_start_20 (by decide) ?_
      exact rt_w F9 hw nD_LAW_start_21 hf
    · rw [if_neg (by rw [hk]; decide), if_neg (by rw [hk]; decide), if_pos hk] at hf
      refine ch_s 0 16 19 0 16 22 F9 G9 (by decide) g1 g2 g3 ?_
      refine lv_astore_n (lv' := [(3, .ref q9), (0, .ref (x.2.2 0)), (1, .int a1), (2, .ref (x.2.2 102))]) hx hb nD_LAW_start_22 rfl hl (by decide) rfl (fun ls hl => ?_)
      refine lv_iconst (v := 2) hx hb nD_LAW_start_23 (by decide) ?_
      exact rt_w F9 hw nD_LAW_start_24 hf
  · rw [if_pos h0] at hf
    refine lv_if_eq (tgt := 14) hx hb nD_LAW_start_7 (by decide) (fun h2 => ?_) (fun h2 => ?_)
    · rw [if_pos h2] at hf
      refine lv_lconst (v := 0) hx hb nD_LAW_start_14 (by decide) ?_
      obtain ⟨g3, hf⟩ := gt_of hf
      obtain ⟨g4, hf⟩ := gt_of hf
      refine as_out F9 hw g3 (of_decide_eq_true g4) nD_LAW_start_15 (fun H locs hw => ?_)
      refine lv_goto (tgt := 25) hx hb nD_LAW_start_16 (by decide) ?_
      refine lv_iconst (v := 0) hx hb nD_LAW_start_25 (by decide) ?_
      exact rt_w F9 hw nD_LAW_start_26 hf
    · rw [if_neg h2] at hf
      refine lv_lconst (v := 1) hx hb nD_LAW_start_10 (by decide) ?_
      refine lv_goto (tgt := 15) hx hb nD_LAW_start_11 (by decide) ?_
      obtain ⟨g5, hf⟩ := gt_of hf
      obtain ⟨g6, hf⟩ := gt_of hf
      refine as_out F9 hw g5 (of_decide_eq_true g6) nD_LAW_start_15 (fun H locs hw => ?_)
      refine lv_goto (tgt := 25) hx hb nD_LAW_start_16 (by decide) ?_
      refine lv_iconst (v := 0) hx hb nD_LAW_start_25 (by decide) ?_
      exact rt_w F9 hw nD_LAW_start_26 hf
set_option maxRecDepth 100000 in
set_option maxHeartbeats 4000000 in
theorem ct_LAW_run (l : Launch) (hl9 : l.stackTraces = false) (x : cx_T) (a1 : Int32) (σ : sg_T) (z : Int32 × sg_T) (hf : fn_LAW_run a1 σ = some z) : ct_w l nN_LAW_run nC_LAW_run 4 [(0, 9, 12, 13), (0, 9, 15, 15)] 8 x [.ref (x.2.2 0), .int a1, .ref (x.2.2 102)] σ z.1 z.2 := by
  refine en_w (own := nR_LAW) (by decide) (Nat.le_of_ble_eq_true rfl) rfl ?_
  intro p e s m below meth c ls F G9 hw hl
  have F9 := F
  obtain ⟨hx, hb, hml, hr, hlk, hown, hT⟩ := F
  have hl : lv_has ls 4 [(0, .ref (x.2.2 0)), (1, .int a1), (2, .ref (x.2.2 102))] := hl
  unfold fn_LAW_run at hf
  refine lv_aload_n hx hb nD_LAW_run_0 rfl (lv_at hl 2 rfl) ?_
  refine lv_iconst (v := 0) hx hb nD_LAW_run_1 (by decide) ?_
  refine lv_aload_n hx hb nD_LAW_run_2 rfl (lv_at hl 0 rfl) ?_
  refine lv_iload_n hx hb nD_LAW_run_3 rfl (lv_at hl 1 rfl) ?_
  obtain ⟨z1, hz1, hf⟩ := bd_of hf
  refine cg_vt (As := [.int a1]) (rest := [.int (0 : Int32), .ref (x.2.2 102)]) F9 G9.1 hw (ct_TM_run l hl9 x a1 _ _ hz1) rc_TM wc_LAW_21 hd_TM_run ⟨by decide, by decide, by decide⟩ ⟨by decide, by decide⟩ hl rfl (Nat.le_of_ble_eq_true rfl) nD_LAW_run_4 (fun E ce q9 H locs hw hE g1 g2 g3 => ?_) (fun H locs hw h0 => ?_)
  · rcases hE with ⟨hk, rfl⟩ | ⟨hk, rfl⟩
    · rw [if_neg (by rw [hk]; decide), if_pos hk] at hf
      refine ch_a 0 9 12 F9 G9 (by decide) g1 g2 g3 ?_
      refine lv_astore_n (lv' := [(3, .ref q9), (0, .ref (x.2.2 0)), (1, .int a1), (2, .ref (x.2.2 102))]) hx hb nD_LAW_run_12 rfl hl (by decide) rfl (fun ls hl => ?_)
      refine lv_iconst (v := 1) hx hb nD_LAW_run_13 (by decide) ?_
      exact rt_w F9 hw nD_LAW_run_14 hf
    · rw [if_neg (by rw [hk]; decide), if_neg (by rw [hk]; decide), if_pos hk] at hf
      refine ch_s 0 9 12 0 9 15 F9 G9 (by decide) g1 g2 g3 ?_
      refine lv_astore_n (lv' := [(3, .ref q9), (0, .ref (x.2.2 0)), (1, .int a1), (2, .ref (x.2.2 102))]) hx hb nD_LAW_run_15 rfl hl (by decide) rfl (fun ls hl => ?_)
      refine lv_iconst (v := 2) hx hb nD_LAW_run_16 (by decide) ?_
      exact rt_w F9 hw nD_LAW_run_17 hf
  · rw [if_pos h0] at hf
    refine lv_i2l (v := z1.2.1.toInt64) hx hb nD_LAW_run_7 rfl ?_
    obtain ⟨g2, hf⟩ := gt_of hf
    obtain ⟨g3, hf⟩ := gt_of hf
    refine as_out F9 hw g2 (of_decide_eq_true g3) nD_LAW_run_8 (fun H locs hw => ?_)
    refine lv_goto (tgt := 18) hx hb nD_LAW_run_9 (by decide) ?_
    refine lv_iconst (v := 0) hx hb nD_LAW_run_18 (by decide) ?_
    exact rt_w F9 hw nD_LAW_run_19 hf
set_option maxRecDepth 100000 in
set_option maxHeartbeats 4000000 in
theorem ct_LAW_set (l : Launch) (hl9 : l.stackTraces = false) (x : cx_T) (a1 : Int32) (a2 : Int32) (σ : sg_T) (z : Int32 × sg_T) (hf : fn_LAW_set a1 a2 σ = some z) : ct_w l nN_LAW_set nC_LAW_set 5 [(0, 17, 20, 13), (0, 17, 24, 15)] 7 x [.ref (x.2.2 0), .int a1, .int a2, .ref (x.2.2 102)] σ z.1 z.2 := by
  refine en_w (own := nR_LAW) (by decide) (Nat.le_of_ble_eq_true rfl) rfl ?_
  intro p e s m below meth c ls F G9 hw hl
  have F9 := F
  obtain ⟨hx, hb, hml, hr, hlk, hown, hT⟩ := F
  have hl : lv_has ls 5 [(0, .ref (x.2.2 0)), (1, .int a1), (2, .int a2), (3, .ref (x.2.2 102))] := hl
  unfold fn_LAW_set at hf
  refine lv_aload_n hx hb nD_LAW_set_0 rfl (lv_at hl 3 rfl) ?_
  refine lv_iconst (v := 0) hx hb nD_LAW_set_1 (by decide) ?_
  refine lv_aload_n hx hb nD_LAW_set_2 rfl (lv_at hl 0 rfl) ?_
  refine lv_iload_n hx hb nD_LAW_set_3 rfl (lv_at hl 1 rfl) ?_
  refine lv_iload_n hx hb nD_LAW_set_4 rfl (lv_at hl 2 rfl) ?_
  obtain ⟨z1, hz1, hf⟩ := bd_of hf
  refine cg_vt (As := [.int a1, .int a2]) (rest := [.int (0 : Int32), .ref (x.2.2 102)]) F9 G9.1 hw (ct_TM_set l hl9 x a1 a2 _ _ hz1) rc_TM wc_LAW_25 hd_TM_set ⟨by decide, by decide, by decide⟩ ⟨by decide, by decide⟩ hl rfl (Nat.le_of_ble_eq_true rfl) nD_LAW_set_5 (fun E ce q9 H locs hw hE g1 g2 g3 => ?_) (fun H locs hw h0 => ?_)
  · rcases hE with ⟨hk, rfl⟩ | ⟨hk, rfl⟩
    · rw [if_neg (by rw [hk]; decide), if_pos hk] at hf
      refine ch_a 0 17 20 F9 G9 (by decide) g1 g2 g3 ?_
      refine lv_astore (lv' := [(4, .ref q9), (0, .ref (x.2.2 0)), (1, .int a1), (2, .int a2), (3, .ref (x.2.2 102))]) hx hb nD_LAW_set_20 hl (by decide) rfl (fun ls hl => ?_)
      refine lv_iconst (v := 1) hx hb nD_LAW_set_22 (by decide) ?_
      exact rt_w F9 hw nD_LAW_set_23 hf
    · rw [if_neg (by rw [hk]; decide), if_neg (by rw [hk]; decide), if_pos hk] at hf
      refine ch_s 0 17 20 0 17 24 F9 G9 (by decide) g1 g2 g3 ?_
      refine lv_astore (lv' := [(4, .ref q9), (0, .ref (x.2.2 0)), (1, .int a1), (2, .int a2), (3, .ref (x.2.2 102))]) hx hb nD_LAW_set_24 hl (by decide) rfl (fun ls hl => ?_)
      refine lv_iconst (v := 2) hx hb nD_LAW_set_26 (by decide) ?_
      exact rt_w F9 hw nD_LAW_set_27 hf
  · rw [if_pos h0] at hf
    refine lv_if_eq (tgt := 15) hx hb nD_LAW_set_8 (by decide) (fun h2 => ?_) (fun h2 => ?_)
    · rw [if_pos h2] at hf
      refine lv_lconst (v := 0) hx hb nD_LAW_set_15 (by decide) ?_
      obtain ⟨g3, hf⟩ := gt_of hf
      obtain ⟨g4, hf⟩ := gt_of hf
      refine as_out F9 hw g3 (of_decide_eq_true g4) nD_LAW_set_16 (fun H locs hw => ?_)
      refine lv_goto (tgt := 28) hx hb nD_LAW_set_17 (by decide) ?_
      refine lv_iconst (v := 0) hx hb nD_LAW_set_28 (by decide) ?_
      exact rt_w F9 hw nD_LAW_set_29 hf
    · rw [if_neg h2] at hf
      refine lv_lconst (v := 1) hx hb nD_LAW_set_11 (by decide) ?_
      refine lv_goto (tgt := 16) hx hb nD_LAW_set_12 (by decide) ?_
      obtain ⟨g5, hf⟩ := gt_of hf
      obtain ⟨g6, hf⟩ := gt_of hf
      refine as_out F9 hw g5 (of_decide_eq_true g6) nD_LAW_set_16 (fun H locs hw => ?_)
      refine lv_goto (tgt := 28) hx hb nD_LAW_set_17 (by decide) ?_
      refine lv_iconst (v := 0) hx hb nD_LAW_set_28 (by decide) ?_
      exact rt_w F9 hw nD_LAW_set_29 hf
set_option maxRecDepth 100000 in
set_option maxHeartbeats 4000000 in
theorem ct_LAW_store (l : Launch) (hl9 : l.stackTraces = false) (x : cx_T) (a1 : Int32) (a2 : Int32) (σ : sg_T) (z : Int32 × sg_T) (hf : fn_LAW_store a1 a2 σ = some z) : ct_w l nN_LAW_store nC_LAW_store 5 [(0, 17, 20, 13), (0, 17, 24, 15)] 7 x [.ref (x.2.2 0), .int a1, .int a2, .ref (x.2.2 102)] σ z.1 z.2 := by
  refine en_w (own := nR_LAW) (by decide) (Nat.le_of_ble_eq_true rfl) rfl ?_
  intro p e s m below meth c ls F G9 hw hl
  have F9 := F
  obtain ⟨hx, hb, hml, hr, hlk, hown, hT⟩ := F
  have hl : lv_has ls 5 [(0, .ref (x.2.2 0)), (1, .int a1), (2, .int a2), (3, .ref (x.2.2 102))] := hl
  unfold fn_LAW_store at hf
  refine lv_aload_n hx hb nD_LAW_store_0 rfl (lv_at hl 3 rfl) ?_
  refine lv_iconst (v := 0) hx hb nD_LAW_store_1 (by decide) ?_
  refine lv_aload_n hx hb nD_LAW_store_2 rfl (lv_at hl 0 rfl) ?_
  refine lv_iload_n hx hb nD_LAW_store_3 rfl (lv_at hl 1 rfl) ?_
  refine lv_iload_n hx hb nD_LAW_store_4 rfl (lv_at hl 2 rfl) ?_
  obtain ⟨z1, hz1, hf⟩ := bd_of hf
  refine cg_vt (As := [.int a1, .int a2]) (rest := [.int (0 : Int32), .ref (x.2.2 102)]) F9 G9.1 hw (ct_TM_store l hl9 x a1 a2 _ _ hz1) rc_TM wc_LAW_29 hd_TM_store ⟨by decide, by decide, by decide⟩ ⟨by decide, by decide⟩ hl rfl (Nat.le_of_ble_eq_true rfl) nD_LAW_store_5 (fun E ce q9 H locs hw hE g1 g2 g3 => ?_) (fun H locs hw h0 => ?_)
  · rcases hE with ⟨hk, rfl⟩ | ⟨hk, rfl⟩
    · rw [if_neg (by rw [hk]; decide), if_pos hk] at hf
      refine ch_a 0 17 20 F9 G9 (by decide) g1 g2 g3 ?_
      refine lv_astore (lv' := [(4, .ref q9), (0, .ref (x.2.2 0)), (1, .int a1), (2, .int a2), (3, .ref (x.2.2 102))]) hx hb nD_LAW_store_20 hl (by decide) rfl (fun ls hl => ?_)
      refine lv_iconst (v := 1) hx hb nD_LAW_store_22 (by decide) ?_
      exact rt_w F9 hw nD_LAW_store_23 hf
    · rw [if_neg (by rw [hk]; decide), if_neg (by rw [hk]; decide), if_pos hk] at hf
      refine ch_s 0 17 20 0 17 24 F9 G9 (by decide) g1 g2 g3 ?_
      refine lv_astore (lv' := [(4, .ref q9), (0, .ref (x.2.2 0)), (1, .int a1), (2, .int a2), (3, .ref (x.2.2 102))]) hx hb nD_LAW_store_24 hl (by decide) rfl (fun ls hl => ?_)
      refine lv_iconst (v := 2) hx hb nD_LAW_store_26 (by decide) ?_
      exact rt_w F9 hw nD_LAW_store_27 hf
  · rw [if_pos h0] at hf
    refine lv_if_eq (tgt := 15) hx hb nD_LAW_store_8 (by decide) (fun h2 => ?_) (fun h2 => ?_)
    · rw [if_pos h2] at hf
      refine lv_lconst (v := 0) hx hb nD_LAW_store_15 (by decide) ?_
      obtain ⟨g3, hf⟩ := gt_of hf
      obtain ⟨g4, hf⟩ := gt_of hf
      refine as_out F9 hw g3 (of_decide_eq_true g4) nD_LAW_store_16 (fun H locs hw => ?_)
      refine lv_goto (tgt := 28) hx hb nD_LAW_store_17 (by decide) ?_
      refine lv_iconst (v := 0) hx hb nD_LAW_store_28 (by decide) ?_
      exact rt_w F9 hw nD_LAW_store_29 hf
    · rw [if_neg h2] at hf
      refine lv_lconst (v := 1) hx hb nD_LAW_store_11 (by decide) ?_
      refine lv_goto (tgt := 16) hx hb nD_LAW_store_12 (by decide) ?_
      obtain ⟨g5, hf⟩ := gt_of hf
      obtain ⟨g6, hf⟩ := gt_of hf
      refine as_out F9 hw g5 (of_decide_eq_true g6) nD_LAW_store_16 (fun H locs hw => ?_)
      refine lv_goto (tgt := 28) hx hb nD_LAW_store_17 (by decide) ?_
      refine lv_iconst (v := 0) hx hb nD_LAW_store_28 (by decide) ?_
      exact rt_w F9 hw nD_LAW_store_29 hf
set_option maxRecDepth 100000 in
set_option maxHeartbeats 4000000 in
theorem ct_LAW_reckon (l : Launch) (hl9 : l.stackTraces = false) (x : cx_T) (a1 : Int32) (a2 : Int32) (a3 : Int32) (σ : sg_T) (z : Int32 × sg_T) (hf : fn_LAW_reckon a1 a2 a3 σ = some z) : ct_w l nN_LAW_reckon nC_LAW_reckon 6 [(0, 12, 15, 13)] 7 x [.ref (x.2.2 0), .int a1, .int a2, .int a3, .ref (x.2.2 102)] σ z.1 z.2 := by
  refine en_w (own := nR_LAW) (by decide) (Nat.le_of_ble_eq_true rfl) rfl ?_
  intro p e s m below meth c ls F G9 hw hl
  have F9 := F
  obtain ⟨hx, hb, hml, hr, hlk, hown, hT⟩ := F
  have hl : lv_has ls 6 [(0, .ref (x.2.2 0)), (1, .int a1), (2, .int a2), (3, .int a3), (4, .ref (x.2.2 102))] := hl
  unfold fn_LAW_reckon at hf
  refine lv_aload hx hb nD_LAW_reckon_0 (lv_at hl 4 rfl) ?_
  refine lv_iconst (v := 0) hx hb nD_LAW_reckon_2 (by decide) ?_
  refine lv_aload_n hx hb nD_LAW_reckon_3 rfl (lv_at hl 0 rfl) ?_
  refine lv_iload_n hx hb nD_LAW_reckon_4 rfl (lv_at hl 1 rfl) ?_
  refine lv_iload_n hx hb nD_LAW_reckon_5 rfl (lv_at hl 2 rfl) ?_
  refine lv_iload_n hx hb nD_LAW_reckon_6 rfl (lv_at hl 3 rfl) ?_
  obtain ⟨z1, hz1, hf⟩ := bd_of hf
  refine cg_vt (As := [.int a1, .int a2, .int a3]) (rest := [.int (0 : Int32), .ref (x.2.2 102)]) F9 G9.1 hw (ct_TM_reckon l hl9 x a1 a2 a3 _ _ hz1) rc_TM wc_LAW_32 hd_TM_reckon ⟨by decide, by decide, by decide⟩ ⟨by decide, by decide⟩ hl rfl (Nat.le_of_ble_eq_true rfl) nD_LAW_reckon_7 (fun E ce q9 H locs hw hE g1 g2 g3 => ?_) (fun H locs hw h0 => ?_)
  · rcases hE with ⟨hk, rfl⟩ | ⟨hk, rfl⟩
    · rw [if_neg (by rw [hk]; decide), if_pos hk] at hf
      refine ch_a 0 12 15 F9 G9 (by decide) g1 g2 g3 ?_
      refine lv_astore (lv' := [(5, .ref q9), (0, .ref (x.2.2 0)), (1, .int a1), (2, .int a2), (3, .int a3), (4, .ref (x.2.2 102))]) hx hb nD_LAW_reckon_15 hl (by decide) rfl (fun ls hl => ?_)
      refine lv_iconst (v := 1) hx hb nD_LAW_reckon_17 (by decide) ?_
      exact rt_w F9 hw nD_LAW_reckon_18 hf
    · rw [if_neg (by rw [hk]; decide), if_neg (by rw [hk]; decide)] at hf
      cases hf
  · rw [if_pos h0] at hf
    refine lv_i2l (v := z1.2.1.toInt64) hx hb nD_LAW_reckon_10 rfl ?_
    obtain ⟨g2, hf⟩ := gt_of hf
    obtain ⟨g3, hf⟩ := gt_of hf
    refine as_out F9 hw g2 (of_decide_eq_true g3) nD_LAW_reckon_11 (fun H locs hw => ?_)
    refine lv_goto (tgt := 19) hx hb nD_LAW_reckon_12 (by decide) ?_
    refine lv_iconst (v := 0) hx hb nD_LAW_reckon_19 (by decide) ?_
    exact rt_w F9 hw nD_LAW_reckon_20 hf
set_option maxRecDepth 100000 in
set_option maxHeartbeats 4000000 in
theorem ct_LAW_exceptions (l : Launch) (hl9 : l.stackTraces = false) (x : cx_T) (a1 : Int32) (a2 : Int32) (a3 : Int32) (σ : sg_T) (z : Int32 × sg_T) (hf : fn_LAW_exceptions a1 a2 a3 σ = some z) : ct_w l nN_LAW_exceptions nC_LAW_exceptions 6 [(0, 12, 15, 13)] 7 x [.ref (x.2.2 0), .int a1, .int a2, .int a3, .ref (x.2.2 102)] σ z.1 z.2 := by
  refine en_w (own := nR_LAW) (by decide) (Nat.le_of_ble_eq_true rfl) rfl ?_
  intro p e s m below meth c ls F G9 hw hl
  have F9 := F
  obtain ⟨hx, hb, hml, hr, hlk, hown, hT⟩ := F
  have hl : lv_has ls 6 [(0, .ref (x.2.2 0)), (1, .int a1), (2, .int a2), (3, .int a3), (4, .ref (x.2.2 102))] := hl
  unfold fn_LAW_exceptions at hf
  refine lv_aload hx hb nD_LAW_exceptions_0 (lv_at hl 4 rfl) ?_
  refine lv_iconst (v := 0) hx hb nD_LAW_exceptions_2 (by decide) ?_
  refine lv_aload_n hx hb nD_LAW_exceptions_3 rfl (lv_at hl 0 rfl) ?_
  refine lv_iload_n hx hb nD_LAW_exceptions_4 rfl (lv_at hl 1 rfl) ?_
  refine lv_iload_n hx hb nD_LAW_exceptions_5 rfl (lv_at hl 2 rfl) ?_
  refine lv_iload_n hx hb nD_LAW_exceptions_6 rfl (lv_at hl 3 rfl) ?_
  obtain ⟨z1, hz1, hf⟩ := bd_of hf
  refine cg_vt (As := [.int a1, .int a2, .int a3]) (rest := [.int (0 : Int32), .ref (x.2.2 102)]) F9 G9.1 hw (ct_TM_exceptions l hl9 x a1 a2 a3 _ _ hz1) rc_TM wc_LAW_36 hd_TM_exceptions ⟨by decide, by decide, by decide⟩ ⟨by decide, by decide⟩ hl rfl (Nat.le_of_ble_eq_true rfl) nD_LAW_exceptions_7 (fun E ce q9 H locs hw hE g1 g2 g3 => ?_) (fun H locs hw h0 => ?_)
  · rcases hE with ⟨hk, rfl⟩ | ⟨hk, rfl⟩
    · rw [if_neg (by rw [hk]; decide), if_pos hk] at hf
      refine ch_a 0 12 15 F9 G9 (by decide) g1 g2 g3 ?_
      refine lv_astore (lv' := [(5, .ref q9), (0, .ref (x.2.2 0)), (1, .int a1), (2, .int a2), (3, .int a3), (4, .ref (x.2.2 102))]) hx hb nD_LAW_exceptions_15 hl (by decide) rfl (fun ls hl => ?_)
      refine lv_iconst (v := 1) hx hb nD_LAW_exceptions_17 (by decide) ?_
      exact rt_w F9 hw nD_LAW_exceptions_18 hf
    · rw [if_neg (by rw [hk]; decide), if_neg (by rw [hk]; decide)] at hf
      cases hf
  · rw [if_pos h0] at hf
    refine lv_i2l (v := z1.2.1.toInt64) hx hb nD_LAW_exceptions_10 rfl ?_
    obtain ⟨g2, hf⟩ := gt_of hf
    obtain ⟨g3, hf⟩ := gt_of hf
    refine as_out F9 hw g2 (of_decide_eq_true g3) nD_LAW_exceptions_11 (fun H locs hw => ?_)
    refine lv_goto (tgt := 19) hx hb nD_LAW_exceptions_12 (by decide) ?_
    refine lv_iconst (v := 0) hx hb nD_LAW_exceptions_19 (by decide) ?_
    exact rt_w F9 hw nD_LAW_exceptions_20 hf
end MT
