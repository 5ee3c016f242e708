def fn_OPD_haveValue (k0 : Nat) (a1 : Int32) (σ : sg_T) : Option (sg_T) := some (sg_up (sg_up σ 6 k0 a1) 7 k0 (0 : Int32))
def fn_OPD_hear (k0 : Nat) (a1 : Int32) (a2 : Int32) (σ : sg_T) : Option (sg_T) := if (σ 7 k0) = a1 then (fn_OPD_haveValue k0 a2 σ).bind (fun z2 => some (z2)) else some (σ)
def fn_UNI_hear (k0 : Nat) (a1 : Int32) (a2 : Int32) (σ : sg_T) : Option (sg_T) := (fn_OPD_hear (5 + 2 * k0) a1 a2 σ).bind (fun z1 => (fn_OPD_hear (6 + 2 * k0) a1 a2 z1).bind (fun z2 => some (z2)))
def fn_OPD_isAwaited (k0 : Nat) (σ : sg_T) : Option (Int32 × sg_T) := if (σ 7 k0) = 0 then some ((0 : Int32), σ) else some ((1 : Int32), σ)
def fn_UNI_isReady (k0 : Nat) (σ : sg_T) : Option (Int32 × sg_T) := if (σ 12 k0) = (1 : Int32) then (fn_OPD_isAwaited (5 + 2 * k0) σ).bind (fun z2 => if z2.1 = 0 then (fn_OPD_isAwaited (6 + 2 * k0) z2.2).bind (fun z4 => if z4.1 = 0 then some ((1 : Int32), z4.2) else some ((0 : Int32), z4.2)) else some ((0 : Int32), z2.2)) else some ((0 : Int32), σ)
def fn_UNI_begin (k0 : Nat) (a1 : Int32) (a2 : Int32) (a3 : Int32) (σ : sg_T) : Option (sg_T) := some (sg_up (sg_up (sg_up (sg_up σ 12 k0 (2 : Int32)) 14 k0 a1) 15 k0 a2) 16 k0 a3)
def fn_UNI_claim (k0 : Nat) (a1 : Int32) (a2 : Int32) (a3 : Int32) (σ : sg_T) : Option (sg_T) := some (sg_up (sg_up (sg_up (sg_up σ 12 k0 (1 : Int32)) 13 k0 a1) 17 k0 a2) 18 k0 a3)
def fn_OPD_waitFor (k0 : Nat) (a1 : Int32) (σ : sg_T) : Option (sg_T) := some (sg_up σ 7 k0 a1)
def fn_OPD_copy (k0 : Nat) (k1 : Nat) (σ : sg_T) : Option (sg_T) := (fn_OPD_isAwaited k1 σ).bind (fun z1 => if z1.1 = 0 then (fn_OPD_haveValue k0 (z1.2 6 k1) z1.2).bind (fun z3 => some (z3)) else (fn_OPD_waitFor k0 (z1.2 7 k1) z1.2).bind (fun z4 => some (z4)))
def fn_INS_become (k0 : Nat) (a1 : Int32) (a2 : Int32) (a3 : Int32) (a4 : Int32) (a5 : Int32) (σ : sg_T) : Option (sg_T) := some (sg_up (sg_up (sg_up (sg_up (sg_up σ 1 k0 a1) 2 k0 a2) 3 k0 a3) 4 k0 a4) 5 k0 a5)
section MT
variable {p : Program} {l : Launch} {e : Env} {s : State} {m : MethodId} {args : Array Value} {below : List Frame} {meth : Method} {c : Code} {x : cx_T}
set_option maxRecDepth 100000 in
set_option maxHeartbeats 4000000 in
theorem ct_OPD_haveValue (l : Launch) (x : cx_T) (k0 : Nat) (a1 : Int32) (hk0 : k0 < 31) (σ : sg_T) (z : sg_T) (hf : fn_OPD_haveValue k0 a1 σ = some z) : ct_v l nN_OPD_haveValue nC_OPD_haveValue 2 0 x [.ref (x.2.2 (38 + k0)), .int a1] σ z := by
  refine en_v (own := nR_OPD) (by decide) (Nat.le_of_ble_eq_true rfl) rfl ?_
  intro p e s m below meth c ls F hw hl
  have F9 := F
  obtain ⟨hx, hb, hml, hr, hlk, hown, hT⟩ := F
  have hl : lv_has ls 2 [(0, .ref (x.2.2 (38 + k0))), (1, .int a1)] := hl
  unfold fn_OPD_haveValue at hf
  refine lv_aload_n hx hb nD_OPD_haveValue_0 rfl (lv_at hl 0 rfl) ?_
  refine lv_iload_n hx hb nD_OPD_haveValue_1 rfl (lv_at hl 1 rfl) ?_
  refine wr_OPD_OPD_value F9 hw hk0 nD_OPD_haveValue_2 (fun H locs hw => ?_)
  refine lv_aload_n hx hb nD_OPD_haveValue_5 rfl (lv_at hl 0 rfl) ?_
  refine lv_iconst (v := 0) hx hb nD_OPD_haveValue_6 (by decide) ?_
  refine wr_OPD_OPD_awaited F9 hw hk0 nD_OPD_haveValue_7 (fun H locs hw => ?_)
  exact rt_v F9 hw nD_OPD_haveValue_10 hf
set_option maxRecDepth 100000 in
set_option maxHeartbeats 4000000 in
theorem ct_OPD_hear (l : Launch) (x : cx_T) (k0 : Nat) (a1 : Int32) (a2 : Int32) (hk0 : k0 < 31) (σ : sg_T) (z : sg_T) (hf : fn_OPD_hear k0 a1 a2 σ = some z) : ct_v l nN_OPD_hear nC_OPD_hear 3 1 x [.ref (x.2.2 (38 + k0)), .int a1, .int a2] σ z := by
  refine en_v (own := nR_OPD) (by decide) (Nat.le_of_ble_eq_true rfl) rfl ?_
  intro p e s m below meth c ls F hw hl
  have F9 := F
  obtain ⟨hx, hb, hml, hr, hlk, hown, hT⟩ := F
  have hl : lv_has ls 3 [(0, .ref (x.2.2 (38 + k0))), (1, .int a1), (2, .int a2)] := hl
  unfold fn_OPD_hear at hf
  refine lv_aload_n hx hb nD_OPD_hear_0 rfl (lv_at hl 0 rfl) ?_
  refine rd_OPD_OPD_awaited F9 hw hk0 nD_OPD_hear_1 ?_
  refine lv_iload_n hx hb nD_OPD_hear_4 rfl (lv_at hl 1 rfl) ?_
  refine lv_icmp_ne (tgt := 13) hx hb nD_OPD_hear_5 (by decide) (fun h1 => ?_) (fun h1 => ?_)
  · rw [if_neg h1] at hf
    exact rt_v F9 hw nD_OPD_hear_13 hf
  · rw [if_pos h1] at hf
    refine lv_aload_n hx hb nD_OPD_hear_8 rfl (lv_at hl 0 rfl) ?_
    refine lv_iload_n hx hb nD_OPD_hear_9 rfl (lv_at hl 2 rfl) ?_
    obtain ⟨z2, hz2, hf⟩ := bd_of hf
    refine cl_vv (As := [.int a2]) (rest := []) F9 hw (ct_OPD_haveValue l x k0 a2 hk0 _ _ hz2) (rc_OPD hk0) wc_OPD_24 hd_OPD_haveValue (by decide) hl rfl (Nat.le_of_ble_eq_true rfl) nD_OPD_hear_10 (fun H locs hw => ?_)
    exact rt_v F9 hw nD_OPD_hear_13 hf
set_option maxRecDepth 100000 in
set_option maxHeartbeats 4000000 in
theorem ct_UNI_hear (l : Launch) (x : cx_T) (k0 : Nat) (a1 : Int32) (a2 : Int32) (hk0 : k0 < 13) (σ : sg_T) (z : sg_T) (hf : fn_UNI_hear k0 a1 a2 σ = some z) : ct_v l nN_UNI_hear nC_UNI_hear 3 2 x [.ref (x.2.2 (69 + k0)), .int a1, .int a2] σ z := by
  refine en_v (own := nR_UNI) (by decide) (Nat.le_of_ble_eq_true rfl) rfl ?_
  intro p e s m below meth c ls F hw hl
  have F9 := F
  obtain ⟨hx, hb, hml, hr, hlk, hown, hT⟩ := F
  have hl : lv_has ls 3 [(0, .ref (x.2.2 (69 + k0))), (1, .int a1), (2, .int a2)] := hl
  unfold fn_UNI_hear at hf
  refine lv_aload_n hx hb nD_UNI_hear_0 rfl (lv_at hl 0 rfl) ?_
  refine rd_UNI_UNI_first F9 hw hk0 nD_UNI_hear_1 ?_
  refine lv_iload_n hx hb nD_UNI_hear_4 rfl (lv_at hl 1 rfl) ?_
  refine lv_iload_n hx hb nD_UNI_hear_5 rfl (lv_at hl 2 rfl) ?_
  obtain ⟨z1, hz1, hf⟩ := bd_of hf
  refine cl_vv (As := [.int a1, .int a2]) (rest := []) F9 hw (ct_OPD_hear l x (5 + 2 * k0) a1 a2 (by have := hk0; omega) _ _ hz1) (rc_OPD (by have := hk0; omega)) wc_UNI_47 hd_OPD_hear (by decide) hl rfl (Nat.le_of_ble_eq_true rfl) nD_UNI_hear_6 (fun H locs hw => ?_)
  refine lv_aload_n hx hb nD_UNI_hear_9 rfl (lv_at hl 0 rfl) ?_
  refine rd_UNI_UNI_second F9 hw hk0 nD_UNI_hear_10 ?_
  refine lv_iload_n hx hb nD_UNI_hear_13 rfl (lv_at hl 1 rfl) ?_
  refine lv_iload_n hx hb nD_UNI_hear_14 rfl (lv_at hl 2 rfl) ?_
  obtain ⟨z2, hz2, hf⟩ := bd_of hf
  refine cl_vv (As := [.int a1, .int a2]) (rest := []) F9 hw (ct_OPD_hear l x (6 + 2 * k0) a1 a2 (by have := hk0; omega) _ _ hz2) (rc_OPD (by have := hk0; omega)) wc_UNI_47 hd_OPD_hear (by decide) hl rfl (Nat.le_of_ble_eq_true rfl) nD_UNI_hear_15 (fun H locs hw => ?_)
  exact rt_v F9 hw nD_UNI_hear_18 hf
set_option maxRecDepth 100000 in
set_option maxHeartbeats 4000000 in
theorem ct_OPD_isAwaited (l : Launch) (x : cx_T) (k0 : Nat) (hk0 : k0 < 31) (σ : sg_T) (z : Int32 × sg_T) (hf : fn_OPD_isAwaited k0 σ = some z) : ct_i l nN_OPD_isAwaited nC_OPD_isAwaited 1 (some .boolean) 0 x [.ref (x.2.2 (38 + k0))] σ z.1 z.2 := by
  refine en_i (own := nR_OPD) (by decide) (Nat.le_of_ble_eq_true rfl) rfl ?_
  intro p e s m below meth c ls F hw hl
  have F9 := F
  obtain ⟨hx, hb, hml, hr, hlk, hown, hT⟩ := F
  have hl : lv_has ls 1 [(0, .ref (x.2.2 (38 + k0)))] := hl
  unfold fn_OPD_isAwaited at hf
  refine lv_aload_n hx hb nD_OPD_isAwaited_0 rfl (lv_at hl 0 rfl) ?_
  refine rd_OPD_OPD_awaited F9 hw hk0 nD_OPD_isAwaited_1 ?_
  refine lv_if_eq (tgt := 11) hx hb nD_OPD_isAwaited_4 (by decide) (fun h1 => ?_) (fun h1 => ?_)
  · rw [if_pos h1] at hf
    refine lv_iconst (v := 0) hx hb nD_OPD_isAwaited_11 (by decide) ?_
    exact rt_i F9 hw rfl nD_OPD_isAwaited_12 hf
  · rw [if_neg h1] at hf
    refine lv_iconst (v := 1) hx hb nD_OPD_isAwaited_7 (by decide) ?_
    refine lv_goto (tgt := 12) hx hb nD_OPD_isAwaited_8 (by decide) ?_
    exact rt_i F9 hw rfl nD_OPD_isAwaited_12 hf
set_option maxRecDepth 100000 in
set_option maxHeartbeats 4000000 in
theorem ct_UNI_isReady (l : Launch) (x : cx_T) (k0 : Nat) (hk0 : k0 < 13) (σ : sg_T) (z : Int32 × sg_T) (hf : fn_UNI_isReady k0 σ = some z) : ct_i l nN_UNI_isReady nC_UNI_isReady 1 (some .boolean) 1 x [.ref (x.2.2 (69 + k0))] σ z.1 z.2 := by
  refine en_i (own := nR_UNI) (by decide) (Nat.le_of_ble_eq_true rfl) rfl ?_
  intro p e s m below meth c ls F hw hl
  have F9 := F
  obtain ⟨hx, hb, hml, hr, hlk, hown, hT⟩ := F
  have hl : lv_has ls 1 [(0, .ref (x.2.2 (69 + k0)))] := hl
  unfold fn_UNI_isReady at hf
  refine lv_aload_n hx hb nD_UNI_isReady_0 rfl (lv_at hl 0 rfl) ?_
  refine rd_UNI_UNI_state F9 hw hk0 nD_UNI_isReady_1 ?_
  refine lv_iconst (v := 1) hx hb nD_UNI_isReady_4 (by decide) ?_
  refine lv_icmp_ne (tgt := 32) hx hb nD_UNI_isReady_5 (by decide) (fun h1 => ?_) (fun h1 => ?_)
  · rw [if_neg h1] at hf
    refine lv_iconst (v := 0) hx hb nD_UNI_isReady_32 (by decide) ?_
    exact rt_i F9 hw rfl nD_UNI_isReady_33 hf
  · rw [if_pos h1] at hf
    refine lv_aload_n hx hb nD_UNI_isReady_8 rfl (lv_at hl 0 rfl) ?_
    refine rd_UNI_UNI_first F9 hw hk0 nD_UNI_isReady_9 ?_
    obtain ⟨z2, hz2, hf⟩ := bd_of hf
    refine cl_vi (As := []) (rest := []) F9 hw (ct_OPD_isAwaited l x (5 + 2 * k0) (by have := hk0; omega) _ _ hz2) (rc_OPD (by have := hk0; omega)) wc_UNI_25 hd_OPD_isAwaited (by decide) hl rfl (Nat.le_of_ble_eq_true rfl) nD_UNI_isReady_12 (fun H locs hw => ?_)
    refine lv_if_ne (tgt := 32) hx hb nD_UNI_isReady_15 (by decide) (fun h3 => ?_) (fun h3 => ?_)
    · rw [if_neg h3] at hf
      refine lv_iconst (v := 0) hx hb nD_UNI_isReady_32 (by decide) ?_
      exact rt_i F9 hw rfl nD_UNI_isReady_33 hf
    · rw [if_pos h3] at hf
      refine lv_aload_n hx hb nD_UNI_isReady_18 rfl (lv_at hl 0 rfl) ?_
      refine rd_UNI_UNI_second F9 hw hk0 nD_UNI_isReady_19 ?_
      obtain ⟨z4, hz4, hf⟩ := bd_of hf
      refine cl_vi (As := []) (rest := []) F9 hw (ct_OPD_isAwaited l x (6 + 2 * k0) (by have := hk0; omega) _ _ hz4) (rc_OPD (by have := hk0; omega)) wc_UNI_25 hd_OPD_isAwaited (by decide) hl rfl (Nat.le_of_ble_eq_true rfl) nD_UNI_isReady_22 (fun H locs hw => ?_)
      refine lv_if_ne (tgt := 32) hx hb nD_UNI_isReady_25 (by decide) (fun h5 => ?_) (fun h5 => ?_)
      · rw [if_neg h5] at hf
        refine lv_iconst (v := 0) hx hb nD_UNI_isReady_32 (by decide) ?_
        exact rt_i F9 hw rfl nD_UNI_isReady_33 hf
      · rw [if_pos h5] at hf
        refine lv_iconst (v := 1) hx hb nD_UNI_isReady_28 (by decide) ?_
        refine lv_goto (tgt := 33) hx hb nD_UNI_isReady_29 (by decide) ?_
        exact rt_i F9 hw rfl nD_UNI_isReady_33 hf
set_option maxRecDepth 100000 in
set_option maxHeartbeats 4000000 in
theorem ct_UNI_begin (l : Launch) (x : cx_T) (k0 : Nat) (a1 : Int32) (a2 : Int32) (a3 : Int32) (hk0 : k0 < 13) (σ : sg_T) (z : sg_T) (hf : fn_UNI_begin k0 a1 a2 a3 σ = some z) : ct_v l nN_UNI_begin nC_UNI_begin 4 0 x [.ref (x.2.2 (69 + k0)), .int a1, .int a2, .int a3] σ z := by
  refine en_v (own := nR_UNI) (by decide) (Nat.le_of_ble_eq_true rfl) rfl ?_
  intro p e s m below meth c ls F hw hl
  have F9 := F
  obtain ⟨hx, hb, hml, hr, hlk, hown, hT⟩ := F
  have hl : lv_has ls 4 [(0, .ref (x.2.2 (69 + k0))), (1, .int a1), (2, .int a2), (3, .int a3)] := hl
  unfold fn_UNI_begin at hf
  refine lv_aload_n hx hb nD_UNI_begin_0 rfl (lv_at hl 0 rfl) ?_
  refine lv_iconst (v := 2) hx hb nD_UNI_begin_1 (by decide) ?_
  refine wr_UNI_UNI_state F9 hw hk0 nD_UNI_begin_2 (fun H locs hw => ?_)
  refine lv_aload_n hx hb nD_UNI_begin_5 rfl (lv_at hl 0 rfl) ?_
  refine lv_iload_n hx hb nD_UNI_begin_6 rfl (lv_at hl 1 rfl) ?_
  refine wr_UNI_UNI_toGo F9 hw hk0 nD_UNI_begin_7 (fun H locs hw => ?_)
  refine lv_aload_n hx hb nD_UNI_begin_10 rfl (lv_at hl 0 rfl) ?_
  refine lv_iload_n hx hb nD_UNI_begin_11 rfl (lv_at hl 2 rfl) ?_
  refine wr_UNI_UNI_result F9 hw hk0 nD_UNI_begin_12 (fun H locs hw => ?_)
  refine lv_aload_n hx hb nD_UNI_begin_15 rfl (lv_at hl 0 rfl) ?_
  refine lv_iload_n hx hb nD_UNI_begin_16 rfl (lv_at hl 3 rfl) ?_
  refine wr_UNI_UNI_raised F9 hw hk0 nD_UNI_begin_17 (fun H locs hw => ?_)
  exact rt_v F9 hw nD_UNI_begin_20 hf
set_option maxRecDepth 100000 in
set_option maxHeartbeats 4000000 in
theorem ct_UNI_claim (l : Launch) (x : cx_T) (k0 : Nat) (a1 : Int32) (a2 : Int32) (a3 : Int32) (hk0 : k0 < 13) (σ : sg_T) (z : sg_T) (hf : fn_UNI_claim k0 a1 a2 a3 σ = some z) : ct_v l nN_UNI_claim nC_UNI_claim 4 0 x [.ref (x.2.2 (69 + k0)), .int a1, .int a2, .int a3] σ z := by
  refine en_v (own := nR_UNI) (by decide) (Nat.le_of_ble_eq_true rfl) rfl ?_
  intro p e s m below meth c ls F hw hl
  have F9 := F
  obtain ⟨hx, hb, hml, hr, hlk, hown, hT⟩ := F
  have hl : lv_has ls 4 [(0, .ref (x.2.2 (69 + k0))), (1, .int a1), (2, .int a2), (3, .int a3)] := hl
  unfold fn_UNI_claim at hf
  refine lv_aload_n hx hb nD_UNI_claim_0 rfl (lv_at hl 0 rfl) ?_
  refine lv_iconst (v := 1) hx hb nD_UNI_claim_1 (by decide) ?_
  refine wr_UNI_UNI_state F9 hw hk0 nD_UNI_claim_2 (fun H locs hw => ?_)
  refine lv_aload_n hx hb nD_UNI_claim_5 rfl (lv_at hl 0 rfl) ?_
  refine lv_iload_n hx hb nD_UNI_claim_6 rfl (lv_at hl 1 rfl) ?_
  refine wr_UNI_UNI_op F9 hw hk0 nD_UNI_claim_7 (fun H locs hw => ?_)
  refine lv_aload_n hx hb nD_UNI_claim_10 rfl (lv_at hl 0 rfl) ?_
  refine lv_iload_n hx hb nD_UNI_claim_11 rfl (lv_at hl 2 rfl) ?_
  refine wr_UNI_UNI_address F9 hw hk0 nD_UNI_claim_12 (fun H locs hw => ?_)
  refine lv_aload_n hx hb nD_UNI_claim_15 rfl (lv_at hl 0 rfl) ?_
  refine lv_iload_n hx hb nD_UNI_claim_16 rfl (lv_at hl 3 rfl) ?_
  refine wr_UNI_UNI_order F9 hw hk0 nD_UNI_claim_17 (fun H locs hw => ?_)
  exact rt_v F9 hw nD_UNI_claim_20 hf
set_option maxRecDepth 100000 in
set_option maxHeartbeats 4000000 in
theorem ct_OPD_waitFor (l : Launch) (x : cx_T) (k0 : Nat) (a1 : Int32) (hk0 : k0 < 31) (σ : sg_T) (z : sg_T) (hf : fn_OPD_waitFor k0 a1 σ = some z) : ct_v l nN_OPD_waitFor nC_OPD_waitFor 2 0 x [.ref (x.2.2 (38 + k0)), .int a1] σ z := by
  refine en_v (own := nR_OPD) (by decide) (Nat.le_of_ble_eq_true rfl) rfl ?_
  intro p e s m below meth c ls F hw hl
  have F9 := F
  obtain ⟨hx, hb, hml, hr, hlk, hown, hT⟩ := F
  have hl : lv_has ls 2 [(0, .ref (x.2.2 (38 + k0))), (1, .int a1)] := hl
  unfold fn_OPD_waitFor at hf
  refine lv_aload_n hx hb nD_OPD_waitFor_0 rfl (lv_at hl 0 rfl) ?_
  refine lv_iload_n hx hb nD_OPD_waitFor_1 rfl (lv_at hl 1 rfl) ?_
  refine wr_OPD_OPD_awaited F9 hw hk0 nD_OPD_waitFor_2 (fun H locs hw => ?_)
  exact rt_v F9 hw nD_OPD_waitFor_5 hf
set_option maxRecDepth 100000 in
set_option maxHeartbeats 4000000 in
theorem ct_OPD_copy (l : Launch) (x : cx_T) (k0 : Nat) (k1 : Nat) (hk0 : k0 < 31) (hk1 : k1 < 31) (σ : sg_T) (z : sg_T) (hf : fn_OPD_copy k0 k1 σ = some z) : ct_v l nN_OPD_copy nC_OPD_copy 2 1 x [.ref (x.2.2 (38 + k0)), .ref (x.2.2 (38 + k1))] σ z := by
  refine en_v (own := nR_OPD) (by decide) (Nat.le_of_ble_eq_true rfl) rfl ?_
  intro p e s m below meth c ls F hw hl
  have F9 := F
  obtain ⟨hx, hb, hml, hr, hlk, hown, hT⟩ := F
  have hl : lv_has ls 2 [(0, .ref (x.2.2 (38 + k0))), (1, .ref (x.2.2 (38 + k1)))] := hl
  unfold fn_OPD_copy at hf
  refine lv_aload_n hx hb nD_OPD_copy_0 rfl (lv_at hl 1 rfl) ?_
  obtain ⟨z1, hz1, hf⟩ := bd_of hf
  refine cl_vi (As := []) (rest := []) F9 hw (ct_OPD_isAwaited l x k1 hk1 _ _ hz1) (rc_OPD hk1) wc_OPD_16 hd_OPD_isAwaited (by decide) hl rfl (Nat.le_of_ble_eq_true rfl) nD_OPD_copy_1 (fun H locs hw => ?_)
  refine lv_if_eq (tgt := 18) hx hb nD_OPD_copy_4 (by decide) (fun h2 => ?_) (fun h2 => ?_)
  · rw [if_pos h2] at hf
    refine lv_aload_n hx hb nD_OPD_copy_18 rfl (lv_at hl 0 rfl) ?_
    refine lv_aload_n hx hb nD_OPD_copy_19 rfl (lv_at hl 1 rfl) ?_
    refine rd_OPD_OPD_value F9 hw hk1 nD_OPD_copy_20 ?_
    obtain ⟨z3, hz3, hf⟩ := bd_of hf
    refine cl_vv (As := [.int (z1.2 6 k1)]) (rest := []) F9 hw (ct_OPD_haveValue l x k0 (z1.2 6 k1) hk0 _ _ hz3) (rc_OPD hk0) wc_OPD_24 hd_OPD_haveValue (by decide) hl rfl (Nat.le_of_ble_eq_true rfl) nD_OPD_copy_23 (fun H locs hw => ?_)
    exact rt_v F9 hw nD_OPD_copy_26 hf
  · rw [if_neg h2] at hf
    refine lv_aload_n hx hb nD_OPD_copy_7 rfl (lv_at hl 0 rfl) ?_
    refine lv_aload_n hx hb nD_OPD_copy_8 rfl (lv_at hl 1 rfl) ?_
    refine rd_OPD_OPD_awaited F9 hw hk1 nD_OPD_copy_9 ?_
    obtain ⟨z4, hz4, hf⟩ := bd_of hf
    refine cl_vv (As := [.int (z1.2 7 k1)]) (rest := []) F9 hw (ct_OPD_waitFor l x k0 (z1.2 7 k1) hk0 _ _ hz4) (rc_OPD hk0) wc_OPD_20 hd_OPD_waitFor (by decide) hl rfl (Nat.le_of_ble_eq_true rfl) nD_OPD_copy_12 (fun H locs hw => ?_)
    refine lv_goto (tgt := 26) hx hb nD_OPD_copy_15 (by decide) ?_
    exact rt_v F9 hw nD_OPD_copy_26 hf
set_option maxRecDepth 100000 in
set_option maxHeartbeats 4000000 in
theorem ct_INS_become (l : Launch) (x : cx_T) (k0 : Nat) (a1 : Int32) (a2 : Int32) (a3 : Int32) (a4 : Int32) (a5 : Int32) (hk0 : k0 < 30) (σ : sg_T) (z : sg_T) (hf : fn_INS_become k0 a1 a2 a3 a4 a5 σ = some z) : ct_v l nN_INS_become nC_INS_become 6 0 x [.ref (x.2.2 (8 + k0)), .int a1, .int a2, .int a3, .int a4, .int a5] σ z := by
  refine en_v (own := nR_INS) (by decide) (Nat.le_of_ble_eq_true rfl) rfl ?_
  intro p e s m below meth c ls F hw hl
  have F9 := F
  obtain ⟨hx, hb, hml, hr, hlk, hown, hT⟩ := F
  have hl : lv_has ls 6 [(0, .ref (x.2.2 (8 + k0))), (1, .int a1), (2, .int a2), (3, .int a3), (4, .int a4), (5, .int a5)] := hl
  unfold fn_INS_become at hf
  refine lv_aload_n hx hb nD_INS_become_0 rfl (lv_at hl 0 rfl) ?_
  refine lv_iload_n hx hb nD_INS_become_1 rfl (lv_at hl 1 rfl) ?_
  refine wr_INS_INS_op F9 hw hk0 nD_INS_become_2 (fun H locs hw => ?_)
  refine lv_aload_n hx hb nD_INS_become_5 rfl (lv_at hl 0 rfl) ?_
  refine lv_iload_n hx hb nD_INS_become_6 rfl (lv_at hl 2 rfl) ?_
  refine wr_INS_INS_r F9 hw hk0 nD_INS_become_7 (fun H locs hw => ?_)
  refine lv_aload_n hx hb nD_INS_become_10 rfl (lv_at hl 0 rfl) ?_
  refine lv_iload_n hx hb nD_INS_become_11 rfl (lv_at hl 3 rfl) ?_
  refine wr_INS_INS_s F9 hw hk0 nD_INS_become_12 (fun H locs hw => ?_)
  refine lv_aload_n hx hb nD_INS_become_15 rfl (lv_at hl 0 rfl) ?_
  refine lv_iload hx hb nD_INS_become_16 (lv_at hl 4 rfl) ?_
  refine wr_INS_INS_b F9 hw hk0 nD_INS_become_18 (fun H locs hw => ?_)
  refine lv_aload_n hx hb nD_INS_become_21 rfl (lv_at hl 0 rfl) ?_
  refine lv_iload hx hb nD_INS_become_22 (lv_at hl 5 rfl) ?_
  refine wr_INS_INS_n F9 hw hk0 nD_INS_become_24 (fun H locs hw => ?_)
  exact rt_v F9 hw nD_INS_become_27 hf
end MT
