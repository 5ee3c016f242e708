def fn_REC_characteristic (a0 : Int32) (σ : sg_T) : Option (Int32 × sg_T) := some ((a0 >>> ((24 : Int32) &&& 31)) &&& (127 : Int32), σ)
def fn_REC_fraction (a0 : Int32) (σ : sg_T) : Option (Int32 × sg_T) := some (a0 &&& (16777215 : Int32), σ)
def fn_REC_aligned (a0 : Int32) (a1 : Int32) (σ : sg_T) : Option (Int32 × sg_T) := (fn_REC_fraction a0 σ).bind (fun z1 => if 0 ≤ a0 then some (((16 : Int32) * z1.1) >>> (((4 : Int32) * (if (0 : Int32) < (if a1 < (7 : Int32) then a1 else (7 : Int32)) then (if a1 < (7 : Int32) then a1 else (7 : Int32)) else (0 : Int32))) &&& 31), z1.2) else some (-(((16 : Int32) * z1.1) >>> (((4 : Int32) * (if (0 : Int32) < (if a1 < (7 : Int32) then a1 else (7 : Int32)) then (if a1 < (7 : Int32) then a1 else (7 : Int32)) else (0 : Int32))) &&& 31)), z1.2))
def fn_REC_alignedSum (a0 : Int32) (a1 : Int32) (σ : sg_T) : Option (Int32 × sg_T) := (fn_REC_characteristic a0 σ).bind (fun z1 => (fn_REC_characteristic a1 z1.2).bind (fun z2 => (fn_REC_aligned a0 (-(z1.1 - z2.1)) z2.2).bind (fun z3 => (fn_REC_aligned a1 (z1.1 - z2.1) z3.2).bind (fun z4 => some (z3.1 + z4.1, z4.2)))))
def fn_REC_greaterCharacteristic (a0 : Int32) (a1 : Int32) (σ : sg_T) : Option (Int32 × sg_T) := (fn_REC_characteristic a0 σ).bind (fun z1 => (fn_REC_characteristic a1 z1.2).bind (fun z2 => some ((if z1.1 < z2.1 then z2.1 else z1.1), z2.2)))
def fb_REC_leadingZeros_2 : Nat → Int32 → Int32 → Int32 → sg_T → Option (Int32 × sg_T)
  | 0, _, _, _, _ => none
  | n + 1, a0, a1, a2, σ => if a1 ≤ a2 then some (a2, σ) else if (a0 >>> (((4 : Int32) * ((a1 - (1 : Int32)) - a2)) &&& 31)) = 0 then fb_REC_leadingZeros_2 n a0 a1 (a2 + (1 : Int32)) σ else some (a2, σ)
def fn_REC_leadingZeros (a0 : Int32) (a1 : Int32) (σ : sg_T) : Option (Int32 × sg_T) := fb_REC_leadingZeros_2 9 a0 a1 (0 : Int32) σ
def fb_REC_finish_71 (a5 : Int32) (a6 : Int32) (t0 : Int32) (σ : sg_T) : Option (sg_T) := some (sg_up σ 20 0 ((t0 ||| (a6 <<< ((24 : Int32) &&& 31))) ||| a5))
def fb_REC_finish_60 (a1 : Int32) (a5 : Int32) (a6 : Int32) (σ : sg_T) : Option (sg_T) := if a1 = 0 then fb_REC_finish_71 a5 a6 (0 : Int32) σ else fb_REC_finish_71 a5 a6 (-2147483648 : Int32) σ
def fn_REC_finish (a1 : Int32) (a2 : Int32) (a3 : Int32) (σ : sg_T) : Option (sg_T) := if a3 = 0 then some (sg_up σ 20 0 (0 : Int32)) else (fn_REC_leadingZeros a3 (7 : Int32) (sg_up σ 20 0 (0 : Int32))).bind (fun z2 => if 0 ≤ (a2 - z2.1) then if (a2 - z2.1) ≤ (127 : Int32) then fb_REC_finish_60 a1 ((a3 <<< (((4 : Int32) * z2.1) &&& 31)) >>> ((4 : Int32) &&& 31)) (a2 - z2.1) z2.2 else fb_REC_finish_60 a1 ((a3 <<< (((4 : Int32) * z2.1) &&& 31)) >>> ((4 : Int32) &&& 31)) ((a2 - z2.1) + (-128)) (sg_up z2.2 20 1 (1 : Int32)) else some (sg_up z2.2 20 1 (2 : Int32)))
def fb_REC_add_51 (a4 : Int32) (a5 : Int32) (t0 : Int32) (σ : sg_T) : Option (sg_T) := (fn_REC_finish t0 a5 a4 σ).bind (fun z6 => some (z6))
def fb_REC_add_41 (a3 : Int32) (a4 : Int32) (a5 : Int32) (σ : sg_T) : Option (sg_T) := if 0 ≤ a3 then fb_REC_add_51 a4 a5 (0 : Int32) σ else fb_REC_add_51 a4 a5 (1 : Int32) σ
def fb_REC_add_16 (a1 : Int32) (a2 : Int32) (a3 : Int32) (t0 : Int32) (σ : sg_T) : Option (sg_T) := (fn_REC_greaterCharacteristic a1 a2 σ).bind (fun z3 => if t0 < (268435456 : Int32) then fb_REC_add_41 a3 t0 z3.1 z3.2 else fb_REC_add_41 a3 (t0 >>> ((4 : Int32) &&& 31)) (z3.1 + (1 : Int32)) z3.2)
def fn_REC_add (a1 : Int32) (a2 : Int32) (σ : sg_T) : Option (sg_T) := (fn_REC_alignedSum a1 a2 σ).bind (fun z1 => if 0 ≤ z1.1 then fb_REC_add_16 a1 a2 z1.1 z1.1 z1.2 else fb_REC_add_16 a1 a2 z1.1 (-z1.1) z1.2)
def fn_REC_normalFraction (a0 : Int32) (σ : sg_T) : Option (Int32 × sg_T) := (fn_REC_fraction a0 σ).bind (fun z1 => (fn_REC_leadingZeros z1.1 (6 : Int32) z1.2).bind (fun z2 => some (z1.1 <<< (((4 : Int32) * z2.1) &&& 31), z2.2)))
def fn_REC_normalCharacteristic (a0 : Int32) (σ : sg_T) : Option (Int32 × sg_T) := (fn_REC_characteristic a0 σ).bind (fun z1 => (fn_REC_fraction a0 z1.2).bind (fun z2 => (fn_REC_leadingZeros z2.1 (6 : Int32) z2.2).bind (fun z3 => some (z1.1 - z3.1, z3.2))))
def fb_REC_multiply_47 (a1 : Int32) (a2 : Int32) (a3 : Int64) (t0 : Int32) (σ : sg_T) : Option (sg_T) := (fn_REC_normalCharacteristic a1 σ).bind (fun z8 => (fn_REC_normalCharacteristic a2 z8.2).bind (fun z9 => (fn_REC_finish t0 ((z8.1 + z9.1) - (64 : Int32)) a3.toInt32 z9.2).bind (fun z10 => some (z10))))
def fn_REC_multiply (a1 : Int32) (a2 : Int32) (σ : sg_T) : Option (sg_T) := (fn_REC_fraction a1 σ).bind (fun z1 => if z1.1 = 0 then some (sg_up z1.2 20 0 (0 : Int32)) else (fn_REC_fraction a2 z1.2).bind (fun z3 => if z3.1 = 0 then some (sg_up z3.2 20 0 (0 : Int32)) else (fn_REC_normalFraction a1 z3.2).bind (fun z5 => (fn_REC_normalFraction a2 z5.2).bind (fun z6 => if 0 ≤ (a1 ^^^ a2) then fb_REC_multiply_47 a1 a2 ((z5.1.toInt64 * z6.1.toInt64) >>> ((20 : Int32).toInt64 &&& 63)) (0 : Int32) z6.2 else fb_REC_multiply_47 a1 a2 ((z5.1.toInt64 * z6.1.toInt64) >>> ((20 : Int32).toInt64 &&& 63)) (1 : Int32) z6.2))))
def fb_REC_divide_45 (a1 : Int32) (a2 : Int32) (a4 : Int64) (t0 : Int32) (σ : sg_T) : Option (sg_T) := (fn_REC_normalCharacteristic a1 σ).bind (fun z6 => (fn_REC_normalCharacteristic a2 z6.2).bind (fun z7 => (fn_REC_finish t0 ((z6.1 - z7.1) + (65 : Int32)) a4.toInt32 z7.2).bind (fun z8 => some (z8))))
def fn_REC_divide (a1 : Int32) (a2 : Int32) (σ : sg_T) : Option (sg_T) := (fn_REC_normalFraction a2 σ).bind (fun z1 => if z1.1 = 0 then some (sg_up (sg_up z1.2 20 1 (4 : Int32)) 20 0 a1) else (fn_REC_normalFraction a1 z1.2).bind (fun z3 => gt_d (decide (¬ z1.1.toInt64 = 0)) (if 0 ≤ (a1 ^^^ a2) then fb_REC_divide_45 a1 a2 ((z3.1.toInt64 <<< ((24 : Int32).toInt64 &&& 63)) / z1.1.toInt64) (0 : Int32) z3.2 else fb_REC_divide_45 a1 a2 ((z3.1.toInt64 <<< ((24 : Int32).toInt64 &&& 63)) / z1.1.toInt64) (1 : Int32) z3.2)))
def fn_REC_compare (a1 : Int32) (a2 : Int32) (σ : sg_T) : Option (sg_T) := (fn_REC_alignedSum a1 (a2 ^^^ (-2147483648 : Int32)) σ).bind (fun z1 => if z1.1 = 0 then some (sg_up z1.2 20 0 (0 : Int32)) else if 0 ≤ z1.1 then some (sg_up z1.2 20 0 (2 : Int32)) else some (sg_up z1.2 20 0 (1 : Int32)))
def fn_REC_workOut (a1 : Int32) (a2 : Int32) (a3 : Int32) (σ : sg_T) : Option (sg_T) := if a1 = 0 then (fn_REC_add a2 a3 (sg_up σ 20 1 (0 : Int32))).bind (fun z2 => some (z2)) else if a1 = 1 then (fn_REC_add a2 (a3 ^^^ (-2147483648 : Int32)) (sg_up σ 20 1 (0 : Int32))).bind (fun z4 => some (z4)) else if a1 = 2 then (fn_REC_multiply a2 a3 (sg_up σ 20 1 (0 : Int32))).bind (fun z6 => some (z6)) else if a1 = 3 then (fn_REC_divide a2 a3 (sg_up σ 20 1 (0 : Int32))).bind (fun z8 => some (z8)) else (fn_REC_compare a2 a3 (sg_up σ 20 1 (0 : Int32))).bind (fun z9 => some (z9))
def fn_REC_knows (a0 : Int32) (σ : sg_T) : Option (Int32 × sg_T) := if a0 < 0 then some ((0 : Int32), σ) else if (4 : Int32) < a0 then some ((0 : Int32), σ) else some ((1 : Int32), σ)
section MT
variable {p : Program} {l : Launch} {e : Env} {s : State} {m : MethodId} {args : Array Value} {below : List Frame} {meth : Method} {c : Code} {x : cx_T}
set_option maxRecDepth 100000 in
set_option maxHeartbeats 4000000 in
theorem ct_REC_characteristic (l : Launch) (x : cx_T) (a0 : Int32) (σ : sg_T) (z : Int32 × sg_T) (hf : fn_REC_characteristic a0 σ = some z) : ct_i l nN_REC_characteristic nC_REC_characteristic 1 (some .int) 0 x [.int a0] σ z.1 z.2 := by
  refine en_i (own := nR_REC) (by decide) (Nat.le_of_ble_eq_true rfl) rfl ?_
  intro p e s m below meth c ls F hw hl
  have F9 := F
  obtain ⟨hx, hb, hml, hr, hlk, hown, hT⟩ := F
  have hl : lv_has ls 1 [(0, .int a0)] := hl
  unfold fn_REC_characteristic at hf
  refine lv_iload_n hx hb nD_REC_characteristic_0 rfl (lv_at hl 0 rfl) ?_
  refine lv_bipush (v := 24) hx hb nD_REC_characteristic_1 (by decide) ?_
  refine lv_ishr hx hb nD_REC_characteristic_3 ?_
  refine lv_bipush (v := 127) hx hb nD_REC_characteristic_4 (by decide) ?_
  refine lv_iand hx hb nD_REC_characteristic_6 ?_
  exact rt_i F9 hw rfl nD_REC_characteristic_7 hf
set_option maxRecDepth 100000 in
set_option maxHeartbeats 4000000 in
theorem ct_REC_fraction (l : Launch) (x : cx_T) (a0 : Int32) (σ : sg_T) (z : Int32 × sg_T) (hf : fn_REC_fraction a0 σ = some z) : ct_i l nN_REC_fraction nC_REC_fraction 1 (some .int) 0 x [.int a0] σ z.1 z.2 := by
  refine en_i (own := nR_REC) (by decide) (Nat.le_of_ble_eq_true rfl) rfl ?_
  intro p e s m below meth c ls F hw hl
  have F9 := F
  obtain ⟨hx, hb, hml, hr, hlk, hown, hT⟩ := F
  have hl : lv_has ls 1 [(0, .int a0)] := hl
  unfold fn_REC_fraction at hf
  refine lv_iload_n hx hb nD_REC_fraction_0 rfl (lv_at hl 0 rfl) ?_
  refine lv_ldc (v := 16777215) hx hb hown (hT _ wm_459) nD_REC_fraction_1 ?_
  refine lv_iand hx hb nD_REC_fraction_3 ?_
  exact rt_i F9 hw rfl nD_REC_fraction_4 hf
set_option maxRecDepth 100000 in
set_option maxHeartbeats 4000000 in
theorem ct_REC_aligned (l : Launch) (x : cx_T) (a0 : Int32) (a1 : Int32) (σ : sg_T) (z : Int32 × sg_T) (hf : fn_REC_aligned a0 a1 σ = some z) : ct_i l nN_REC_aligned nC_REC_aligned 4 (some .int) 1 x [.int a0, .int a1] σ z.1 z.2 := by
  refine en_i (own := nR_REC) (by decide) (Nat.le_of_ble_eq_true rfl) rfl ?_
  intro p e s m below meth c ls F hw hl
  have F9 := F
  obtain ⟨hx, hb, hml, hr, hlk, hown, hT⟩ := F
  have hl : lv_has ls 4 [(0, .int a0), (1, .int a1)] := hl
  unfold fn_REC_aligned at hf
  refine lv_iconst (v := 0) hx hb nD_REC_aligned_0 (by decide) ?_
  refine lv_bipush (v := 7) hx hb nD_REC_aligned_1 (by decide) ?_
  refine lv_iload_n hx hb nD_REC_aligned_3 rfl (lv_at hl 1 rfl) ?_
  refine mm_REC_min F9 hl (by decide) (Nat.le_of_ble_eq_true rfl) nD_REC_aligned_4 ?_
  refine mm_REC_max F9 hl (by decide) (Nat.le_of_ble_eq_true rfl) nD_REC_aligned_7 ?_
  refine lv_istore_n (lv' := [(2, .int (if (0 : Int32) < (if a1 < (7 : Int32) then a1 else (7 : Int32)) then (if a1 < (7 : Int32) then a1 else (7 : Int32)) else (0 : Int32))), (0, .int a0), (1, .int a1)]) hx hb nD_REC_aligned_10 rfl hl (by decide) rfl (fun ls hl => ?_)
  refine lv_bipush (v := 16) hx hb nD_REC_aligned_11 (by decide) ?_
  refine lv_iload_n hx hb nD_REC_aligned_13 rfl (lv_at hl 1 rfl) ?_
  obtain ⟨z1, hz1, hf⟩ := bd_of hf
  refine cl_si (As := [.int a0]) (rest := [.int (16 : Int32)]) F9 hw (ct_REC_fraction l x a0  _ _ hz1) wc_REC_42 hd_REC_fraction (by decide) hl rfl (Nat.le_of_ble_eq_true rfl) nD_REC_aligned_14 (fun H locs hw => ?_)
  refine lv_imul hx hb nD_REC_aligned_17 ?_
  refine lv_iconst (v := 4) hx hb nD_REC_aligned_18 (by decide) ?_
  refine lv_iload_n hx hb nD_REC_aligned_19 rfl (lv_at hl 0 rfl) ?_
  refine lv_imul hx hb nD_REC_aligned_20 ?_
  refine lv_ishr hx hb nD_REC_aligned_21 ?_
  refine lv_istore_n (lv' := [(3, .int (((16 : Int32) * z1.1) >>> (((4 : Int32) * (if (0 : Int32) < (if a1 < (7 : Int32) then a1 else (7 : Int32)) then (if a1 < (7 : Int32) then a1 else (7 : Int32)) else (0 : Int32))) &&& 31))), (2, .int (if (0 : Int32) < (if a1 < (7 : Int32) then a1 else (7 : Int32)) then (if a1 < (7 : Int32) then a1 else (7 : Int32)) else (0 : Int32))), (0, .int a0), (1, .int a1)]) hx hb nD_REC_aligned_22 rfl hl (by decide) rfl (fun ls hl => ?_)
  refine lv_iload_n hx hb nD_REC_aligned_23 rfl (lv_at hl 2 rfl) ?_
  refine lv_if_ge (tgt := 32) hx hb nD_REC_aligned_24 (by decide) (fun h2 => ?_) (fun h2 => ?_)
  · rw [if_pos h2] at hf
    refine lv_iload_n hx hb nD_REC_aligned_32 rfl (lv_at hl 0 rfl) ?_
    exact rt_i F9 hw rfl nD_REC_aligned_33 hf
  · rw [if_neg h2] at hf
    refine lv_iload_n hx hb nD_REC_aligned_27 rfl (lv_at hl 0 rfl) ?_
    refine lv_ineg hx hb nD_REC_aligned_28 ?_
    refine lv_goto (tgt := 33) hx hb nD_REC_aligned_29 (by decide) ?_
    exact rt_i F9 hw rfl nD_REC_aligned_33 hf
set_option maxRecDepth 100000 in
set_option maxHeartbeats 4000000 in
theorem ct_REC_alignedSum (l : Launch) (x : cx_T) (a0 : Int32) (a1 : Int32) (σ : sg_T) (z : Int32 × sg_T) (hf : fn_REC_alignedSum a0 a1 σ = some z) : ct_i l nN_REC_alignedSum nC_REC_alignedSum 3 (some .int) 2 x [.int a0, .int a1] σ z.1 z.2 := by
  refine en_i (own := nR_REC) (by decide) (Nat.le_of_ble_eq_true rfl) rfl ?_
  intro p e s m below meth c ls F hw hl
  have F9 := F
  obtain ⟨hx, hb, hml, hr, hlk, hown, hT⟩ := F
  have hl : lv_has ls 3 [(0, .int a0), (1, .int a1)] := hl
  unfold fn_REC_alignedSum at hf
  refine lv_iload_n hx hb nD_REC_alignedSum_0 rfl (lv_at hl 0 rfl) ?_
  obtain ⟨z1, hz1, hf⟩ := bd_of hf
  refine cl_si (As := [.int a0]) (rest := []) F9 hw (ct_REC_characteristic l x a0  _ _ hz1) wc_REC_56 hd_REC_characteristic (by decide) hl rfl (Nat.le_of_ble_eq_true rfl) nD_REC_alignedSum_1 (fun H locs hw => ?_)
  refine lv_iload_n hx hb nD_REC_alignedSum_4 rfl (lv_at hl 1 rfl) ?_
  obtain ⟨z2, hz2, hf⟩ := bd_of hf
  refine cl_si (As := [.int a1]) (rest := [.int z1.1]) F9 hw (ct_REC_characteristic l x a1  _ _ hz2) wc_REC_56 hd_REC_characteristic (by decide) hl rfl (Nat.le_of_ble_eq_true rfl) nD_REC_alignedSum_5 (fun H locs hw => ?_)
  refine lv_isub hx hb nD_REC_alignedSum_8 ?_
  refine lv_istore_n (lv' := [(2, .int (z1.1 - z2.1)), (0, .int a0), (1, .int a1)]) hx hb nD_REC_alignedSum_9 rfl hl (by decide) rfl (fun ls hl => ?_)
  refine lv_iload_n hx hb nD_REC_alignedSum_10 rfl (lv_at hl 1 rfl) ?_
  refine lv_iload_n hx hb nD_REC_alignedSum_11 rfl (lv_at hl 0 rfl) ?_
  refine lv_ineg hx hb nD_REC_alignedSum_12 ?_
  obtain ⟨z3, hz3, hf⟩ := bd_of hf
  refine cl_si (As := [.int a0, .int (-(z1.1 - z2.1))]) (rest := []) F9 hw (ct_REC_aligned l x a0 (-(z1.1 - z2.1))  _ _ hz3) wc_REC_64 hd_REC_aligned (by decide) hl rfl (Nat.le_of_ble_eq_true rfl) nD_REC_alignedSum_13 (fun H locs hw => ?_)
  refine lv_iload_n hx hb nD_REC_alignedSum_16 rfl (lv_at hl 2 rfl) ?_
  refine lv_iload_n hx hb nD_REC_alignedSum_17 rfl (lv_at hl 0 rfl) ?_
  obtain ⟨z4, hz4, hf⟩ := bd_of hf
  refine cl_si (As := [.int a1, .int (z1.1 - z2.1)]) (rest := [.int z3.1]) F9 hw (ct_REC_aligned l x a1 (z1.1 - z2.1)  _ _ hz4) wc_REC_64 hd_REC_aligned (by decide) hl rfl (Nat.le_of_ble_eq_true rfl) nD_REC_alignedSum_18 (fun H locs hw => ?_)
  refine lv_iadd hx hb nD_REC_alignedSum_21 ?_
  exact rt_i F9 hw rfl nD_REC_alignedSum_22 hf
set_option maxRecDepth 100000 in
set_option maxHeartbeats 4000000 in
theorem ct_REC_greaterCharacteristic (l : Launch) (x : cx_T) (a0 : Int32) (a1 : Int32) (σ : sg_T) (z : Int32 × sg_T) (hf : fn_REC_greaterCharacteristic a0 a1 σ = some z) : ct_i l nN_REC_greaterCharacteristic nC_REC_greaterCharacteristic 2 (some .int) 1 x [.int a0, .int a1] σ z.1 z.2 := by
  refine en_i (own := nR_REC) (by decide) (Nat.le_of_ble_eq_true rfl) rfl ?_
  intro p e s m below meth c ls F hw hl
  have F9 := F
  obtain ⟨hx, hb, hml, hr, hlk, hown, hT⟩ := F
  have hl : lv_has ls 2 [(0, .int a0), (1, .int a1)] := hl
  unfold fn_REC_greaterCharacteristic at hf
  refine lv_iload_n hx hb nD_REC_greaterCharacteristic_0 rfl (lv_at hl 0 rfl) ?_
  obtain ⟨z1, hz1, hf⟩ := bd_of hf
  refine cl_si (As := [.int a0]) (rest := []) F9 hw (ct_REC_characteristic l x a0  _ _ hz1) wc_REC_56 hd_REC_characteristic (by decide) hl rfl (Nat.le_of_ble_eq_true rfl) nD_REC_greaterCharacteristic_1 (fun H locs hw => ?_)
  refine lv_iload_n hx hb nD_REC_greaterCharacteristic_4 rfl (lv_at hl 1 rfl) ?_
  obtain ⟨z2, hz2, hf⟩ := bd_of hf
  refine cl_si (As := [.int a1]) (rest := [.int z1.1]) F9 hw (ct_REC_characteristic l x a1  _ _ hz2) wc_REC_56 hd_REC_characteristic (by decide) hl rfl (Nat.le_of_ble_eq_true rfl) nD_REC_greaterCharacteristic_5 (fun H locs hw => ?_)
  refine mm_REC_max F9 hl (by decide) (Nat.le_of_ble_eq_true rfl) nD_REC_greaterCharacteristic_8 ?_
  exact rt_i F9 hw rfl nD_REC_greaterCharacteristic_11 hf
set_option maxRecDepth 100000 in
set_option maxHeartbeats 4000000 in
theorem bk_REC_leadingZeros_2 {z : Int32 × sg_T} (F : fx_F p s m args meth c nC_REC_leadingZeros 3 (some .int) nR_REC) : ∀ (n : Nat) (a0 : Int32) (a1 : Int32) (a2 : Int32) (σ : sg_T) (H : Heap) (locs : List Loc) (ls : Array Slot), ww_P x s H locs σ → lv_has ls 3 [(0, .int a0), (1, .int a1), (2, .int a2)] → fb_REC_leadingZeros_2 n a0 a1 a2 σ = some z → W p l e (rm_D 0) s m args below meth c H locs 0 0 (qi_Q x s below args z.1 z.2) (F0 m 2 ls []) := by
  have F9 := F
  obtain ⟨hx, hb, hml, hr, hlk, hown, hT⟩ := F
  intro n
  induction n with
  | zero =>
    intro a0 a1 a2 σ H locs ls  hw hl hf
    simp [fb_REC_leadingZeros_2] at hf
  | succ n ih =>
    intro a0 a1 a2 σ H locs ls  hw hl hf
    unfold fb_REC_leadingZeros_2 at hf
    refine lv_iload_n hx hb nD_REC_leadingZeros_2 rfl (lv_at hl 2 rfl) ?_
    refine lv_iload_n hx hb nD_REC_leadingZeros_3 rfl (lv_at hl 1 rfl) ?_
    refine lv_icmp_ge (tgt := 25) hx hb nD_REC_leadingZeros_4 (by decide) (fun h1 => ?_) (fun h1 => ?_)
    · rw [if_pos h1] at hf
      refine lv_iload_n hx hb nD_REC_leadingZeros_25 rfl (lv_at hl 2 rfl) ?_
      exact rt_i F9 hw rfl nD_REC_leadingZeros_26 hf
    · rw [if_neg h1] at hf
      refine lv_iload_n hx hb nD_REC_leadingZeros_7 rfl (lv_at hl 0 rfl) ?_
      refine lv_iconst (v := 4) hx hb nD_REC_leadingZeros_8 (by decide) ?_
      refine lv_iload_n hx hb nD_REC_leadingZeros_9 rfl (lv_at hl 1 rfl) ?_
      refine lv_iconst (v := 1) hx hb nD_REC_leadingZeros_10 (by decide) ?_
      refine lv_isub hx hb nD_REC_leadingZeros_11 ?_
      refine lv_iload_n hx hb nD_REC_leadingZeros_12 rfl (lv_at hl 2 rfl) ?_
      refine lv_isub hx hb nD_REC_leadingZeros_13 ?_
      refine lv_imul hx hb nD_REC_leadingZeros_14 ?_
      refine lv_ishr hx hb nD_REC_leadingZeros_15 ?_
      refine lv_if_ne (tgt := 25) hx hb nD_REC_leadingZeros_16 (by decide) (fun h2 => ?_) (fun h2 => ?_)
      · rw [if_neg h2] at hf
        refine lv_iload_n hx hb nD_REC_leadingZeros_25 rfl (lv_at hl 2 rfl) ?_
        exact rt_i F9 hw rfl nD_REC_leadingZeros_26 hf
      · rw [if_pos h2] at hf
        refine lv_iinc (k := 2) (v := a2 + (1 : Int32)) (lv' := [(2, .int (a2 + (1 : Int32))), (0, .int a0), (1, .int a1)]) hx hb nD_REC_leadingZeros_19 hl rfl (ic_p1 _) (by decide) rfl (fun ls hl => ?_)
        refine lv_goto (tgt := 2) hx hb nD_REC_leadingZeros_22 (by decide) ?_
        exact ih a0 a1 (a2 + (1 : Int32)) _ _ _ _  hw (lv_sub hl [1, 2, 0] rfl) hf
set_option maxRecDepth 100000 in
set_option maxHeartbeats 4000000 in
theorem ct_REC_leadingZeros (l : Launch) (x : cx_T) (a0 : Int32) (a1 : Int32) (σ : sg_T) (z : Int32 × sg_T) (hf : fn_REC_leadingZeros a0 a1 σ = some z) : ct_i l nN_REC_leadingZeros nC_REC_leadingZeros 3 (some .int) 0 x [.int a0, .int a1] σ z.1 z.2 := by
  refine en_i (own := nR_REC) (by decide) (Nat.le_of_ble_eq_true rfl) rfl ?_
  intro p e s m below meth c ls F hw hl
  have F9 := F
  obtain ⟨hx, hb, hml, hr, hlk, hown, hT⟩ := F
  have hl : lv_has ls 3 [(0, .int a0), (1, .int a1)] := hl
  unfold fn_REC_leadingZeros at hf
  refine lv_iconst (v := 0) hx hb nD_REC_leadingZeros_0 (by decide) ?_
  refine lv_istore_n (lv' := [(2, .int (0 : Int32)), (0, .int a0), (1, .int a1)]) hx hb nD_REC_leadingZeros_1 rfl hl (by decide) rfl (fun ls hl => ?_)
  exact bk_REC_leadingZeros_2 F9 9 a0 a1 (0 : Int32) _ _ _ _  hw (lv_sub hl [1, 2, 0] rfl) hf
set_option maxRecDepth 100000 in
set_option maxHeartbeats 4000000 in
theorem bk_REC_finish_71 {z : sg_T} (F : fx_F p s m args meth c nC_REC_finish 7 none nR_REC) (a5 : Int32) (a6 : Int32) (t0 : Int32) {σ : sg_T} {H : Heap} {locs : List Loc} {ls : Array Slot} (hw : ww_P x s H locs σ) (hl : lv_has ls 7 [(5, .int a5), (6, .int a6)]) (hf : fb_REC_finish_71 a5 a6 t0 σ = some z) : W p l e (rm_D 1) s m args below meth c H locs 0 0 (qv_Q x s below args z) (F0 m 71 ls [.int t0, .ref (x.2.2 7)]) := by
  have F9 := F
  obtain ⟨hx, hb, hml, hr, hlk, hown, hT⟩ := F
  unfold fb_REC_finish_71 at hf
  refine lv_iload hx hb nD_REC_finish_71 (lv_at hl 1 rfl) ?_
  refine lv_bipush (v := 24) hx hb nD_REC_finish_73 (by decide) ?_
  refine lv_ishl hx hb nD_REC_finish_75 ?_
  refine lv_ior hx hb nD_REC_finish_76 ?_
  refine lv_iload hx hb nD_REC_finish_77 (lv_at hl 0 rfl) ?_
  refine lv_ior hx hb nD_REC_finish_79 ?_
  refine wr_REC_REC_result F9 hw nD_REC_finish_80 (fun H locs hw => ?_)
  exact rt_v F9 hw nD_REC_finish_83 hf
set_option maxRecDepth 100000 in
set_option maxHeartbeats 4000000 in
theorem bk_REC_finish_60 {z : sg_T} (F : fx_F p s m args meth c nC_REC_finish 7 none nR_REC) (a1 : Int32) (a5 : Int32) (a6 : Int32) {σ : sg_T} {H : Heap} {locs : List Loc} {ls : Array Slot} (hw : ww_P x s H locs σ) (hl : lv_has ls 7 [(0, .ref (x.2.2 7)), (1, .int a1), (5, .int a5), (6, .int a6)]) (hf : fb_REC_finish_60 a1 a5 a6 σ = some z) : W p l e (rm_D 1) s m args below meth c H locs 0 0 (qv_Q x s below args z) (F0 m 60 ls []) := by
  have F9 := F
  obtain ⟨hx, hb, hml, hr, hlk, hown, hT⟩ := F
  unfold fb_REC_finish_60 at hf
  refine lv_aload_n hx hb nD_REC_finish_60 rfl (lv_at hl 0 rfl) ?_
  refine lv_iload_n hx hb nD_REC_finish_61 rfl (lv_at hl 1 rfl) ?_
  refine lv_if_eq (tgt := 70) hx hb nD_REC_finish_62 (by decide) (fun h5 => ?_) (fun h5 => ?_)
  · rw [if_pos h5] at hf
    refine lv_iconst (v := 0) hx hb nD_REC_finish_70 (by decide) ?_
    exact bk_REC_finish_71 F9 a5 a6 (0 : Int32)  hw (lv_sub hl [2, 3] rfl) hf
  · rw [if_neg h5] at hf
    refine lv_ldc (v := -2147483648) hx hb hown (hT _ wm_471) nD_REC_finish_65 ?_
    refine lv_goto (tgt := 71) hx hb nD_REC_finish_67 (by decide) ?_
    exact bk_REC_finish_71 F9 a5 a6 (-2147483648 : Int32)  hw (lv_sub hl [2, 3] rfl) hf
set_option maxRecDepth 100000 in
set_option maxHeartbeats 4000000 in
theorem ct_REC_finish (l : Launch) (x : cx_T) (a1 : Int32) (a2 : Int32) (a3 : Int32) (σ : sg_T) (z : sg_T) (hf : fn_REC_finish a1 a2 a3 σ = some z) : ct_v l nN_REC_finish nC_REC_finish 7 1 x [.ref (x.2.2 7), .int a1, .int a2, .int a3] σ z := by
  refine en_v (own := nR_REC) (by decide) (Nat.le_of_ble_eq_true rfl) rfl ?_
  intro p e s m below meth c ls F hw hl
  have F9 := F
  obtain ⟨hx, hb, hml, hr, hlk, hown, hT⟩ := F
  have hl : lv_has ls 7 [(0, .ref (x.2.2 7)), (1, .int a1), (2, .int a2), (3, .int a3)] := hl
  unfold fn_REC_finish at hf
  refine lv_aload_n hx hb nD_REC_finish_0 rfl (lv_at hl 0 rfl) ?_
  refine lv_iconst (v := 0) hx hb nD_REC_finish_1 (by decide) ?_
  refine wr_REC_REC_result F9 hw nD_REC_finish_2 (fun H locs hw => ?_)
  refine lv_iload_n hx hb nD_REC_finish_5 rfl (lv_at hl 3 rfl) ?_
  refine lv_if_ne (tgt := 10) hx hb nD_REC_finish_6 (by decide) (fun h1 => ?_) (fun h1 => ?_)
  · rw [if_neg h1] at hf
    refine lv_iload_n hx hb nD_REC_finish_10 rfl (lv_at hl 3 rfl) ?_
    refine lv_bipush (v := 7) hx hb nD_REC_finish_11 (by decide) ?_
    obtain ⟨z2, hz2, hf⟩ := bd_of hf
    refine cl_si (As := [.int a3, .int (7 : Int32)]) (rest := []) F9 hw (ct_REC_leadingZeros l x a3 (7 : Int32)  _ _ hz2) wc_REC_52 hd_REC_leadingZeros (by decide) hl rfl (Nat.le_of_ble_eq_true rfl) nD_REC_finish_13 (fun H locs hw => ?_)
    refine lv_istore (lv' := [(4, .int z2.1), (0, .ref (x.2.2 7)), (1, .int a1), (2, .int a2), (3, .int a3)]) hx hb nD_REC_finish_16 hl (by decide) rfl (fun ls hl => ?_)
    refine lv_iload_n hx hb nD_REC_finish_18 rfl (lv_at hl 4 rfl) ?_
    refine lv_iconst (v := 4) hx hb nD_REC_finish_19 (by decide) ?_
    refine lv_iload hx hb nD_REC_finish_20 (lv_at hl 0 rfl) ?_
    refine lv_imul hx hb nD_REC_finish_22 ?_
    refine lv_ishl hx hb nD_REC_finish_23 ?_
    refine lv_iconst (v := 4) hx hb nD_REC_finish_24 (by decide) ?_
    refine lv_ishr hx hb nD_REC_finish_25 ?_
    refine lv_istore (lv' := [(5, .int ((a3 <<< (((4 : Int32) * z2.1) &&& 31)) >>> ((4 : Int32) &&& 31))), (4, .int z2.1), (0, .ref (x.2.2 7)), (1, .int a1), (2, .int a2), (3, .int a3)]) hx hb nD_REC_finish_26 hl (by decide) rfl (fun ls hl => ?_)
    refine lv_iload_n hx hb nD_REC_finish_28 rfl (lv_at hl 4 rfl) ?_
    refine lv_iload hx hb nD_REC_finish_29 (lv_at hl 1 rfl) ?_
    refine lv_isub hx hb nD_REC_finish_31 ?_
    refine lv_istore (lv' := [(6, .int (a2 - z2.1)), (5, .int ((a3 <<< (((4 : Int32) * z2.1) &&& 31)) >>> ((4 : Int32) &&& 31))), (4, .int z2.1), (0, .ref (x.2.2 7)), (1, .int a1), (2, .int a2), (3, .int a3)]) hx hb nD_REC_finish_32 hl (by decide) rfl (fun ls hl => ?_)
    refine lv_iload hx hb nD_REC_finish_34 (lv_at hl 0 rfl) ?_
    refine lv_if_ge (tgt := 45) hx hb nD_REC_finish_36 (by decide) (fun h3 => ?_) (fun h3 => ?_)
    · rw [if_pos h3] at hf
      refine lv_iload hx hb nD_REC_finish_45 (lv_at hl 0 rfl) ?_
      refine lv_bipush (v := 127) hx hb nD_REC_finish_47 (by decide) ?_
      refine lv_icmp_le (tgt := 60) hx hb nD_REC_finish_49 (by decide) (fun h4 => ?_) (fun h4 => ?_)
      · rw [if_pos h4] at hf
        exact bk_REC_finish_60 F9 a1 ((a3 <<< (((4 : Int32) * z2.1) &&& 31)) >>> ((4 : Int32) &&& 31)) (a2 - z2.1)  hw (lv_sub hl [3, 4, 1, 0] rfl) hf
      · rw [if_neg h4] at hf
        refine lv_aload_n hx hb nD_REC_finish_52 rfl (lv_at hl 3 rfl) ?_
        refine lv_iconst (v := 1) hx hb nD_REC_finish_53 (by decide) ?_
        refine wr_REC_REC_raised F9 hw nD_REC_finish_54 (fun H locs hw => ?_)
        refine lv_iinc (k := 0) (v := (a2 - z2.1) + (-128)) (lv' := [(6, .int ((a2 - z2.1) + (-128))), (5, .int ((a3 <<< (((4 : Int32) * z2.1) &&& 31)) >>> ((4 : Int32) &&& 31))), (4, .int z2.1), (0, .ref (x.2.2 7)), (1, .int a1), (2, .int a2), (3, .int a3)]) hx hb nD_REC_finish_57 hl rfl (ic_m128 _) (by decide) rfl (fun ls hl => ?_)
        exact bk_REC_finish_60 F9 a1 ((a3 <<< (((4 : Int32) * z2.1) &&& 31)) >>> ((4 : Int32) &&& 31)) ((a2 - z2.1) + (-128))  hw (lv_sub hl [3, 4, 1, 0] rfl) hf
    · rw [if_neg h3] at hf
      refine lv_aload_n hx hb nD_REC_finish_39 rfl (lv_at hl 3 rfl) ?_
      refine lv_iconst (v := 2) hx hb nD_REC_finish_40 (by decide) ?_
      refine wr_REC_REC_raised F9 hw nD_REC_finish_41 (fun H locs hw => ?_)
      exact rt_v F9 hw nD_REC_finish_44 hf
  · rw [if_pos h1] at hf
    exact rt_v F9 hw nD_REC_finish_9 hf
set_option maxRecDepth 100000 in
set_option maxHeartbeats 4000000 in
theorem bk_REC_add_51 {z : sg_T} (F : fx_F p s m args meth c nC_REC_add 6 none nR_REC) (a4 : Int32) (a5 : Int32) (t0 : Int32) {σ : sg_T} {H : Heap} {locs : List Loc} {ls : Array Slot} (hw : ww_P x s H locs σ) (hl : lv_has ls 6 [(4, .int a4), (5, .int a5)]) (hf : fb_REC_add_51 a4 a5 t0 σ = some z) : W p l e (rm_D 3) s m args below meth c H locs 0 0 (qv_Q x s below args z) (F0 m 51 ls [.int t0, .ref (x.2.2 7)]) := by
  have F9 := F
  obtain ⟨hx, hb, hml, hr, hlk, hown, hT⟩ := F
  unfold fb_REC_add_51 at hf
  refine lv_iload hx hb nD_REC_add_51 (lv_at hl 1 rfl) ?_
  refine lv_iload hx hb nD_REC_add_53 (lv_at hl 0 rfl) ?_
  obtain ⟨z6, hz6, hf⟩ := bd_of hf
  refine cl_vv (As := [.int t0, .int a5, .int a4]) (rest := []) F9 hw (ct_REC_finish l x t0 a5 a4  _ _ hz6) (rc_REC ) wc_REC_35 hd_REC_finish (by decide) hl rfl (Nat.le_of_ble_eq_true rfl) nD_REC_add_55 (fun H locs hw => ?_)
  exact rt_v F9 hw nD_REC_add_58 hf
set_option maxRecDepth 100000 in
set_option maxHeartbeats 4000000 in
theorem bk_REC_add_41 {z : sg_T} (F : fx_F p s m args meth c nC_REC_add 6 none nR_REC) (a3 : Int32) (a4 : Int32) (a5 : Int32) {σ : sg_T} {H : Heap} {locs : List Loc} {ls : Array Slot} (hw : ww_P x s H locs σ) (hl : lv_has ls 6 [(0, .ref (x.2.2 7)), (3, .int a3), (4, .int a4), (5, .int a5)]) (hf : fb_REC_add_41 a3 a4 a5 σ = some z) : W p l e (rm_D 3) s m args below meth c H locs 0 0 (qv_Q x s below args z) (F0 m 41 ls []) := by
  have F9 := F
  obtain ⟨hx, hb, hml, hr, hlk, hown, hT⟩ := F
  unfold fb_REC_add_41 at hf
  refine lv_aload_n hx hb nD_REC_add_41 rfl (lv_at hl 0 rfl) ?_
  refine lv_iload_n hx hb nD_REC_add_42 rfl (lv_at hl 1 rfl) ?_
  refine lv_if_ge (tgt := 50) hx hb nD_REC_add_43 (by decide) (fun h5 => ?_) (fun h5 => ?_)
  · rw [if_pos h5] at hf
    refine lv_iconst (v := 0) hx hb nD_REC_add_50 (by decide) ?_
    exact bk_REC_add_51 F9 a4 a5 (0 : Int32)  hw (lv_sub hl [2, 3] rfl) hf
  · rw [if_neg h5] at hf
    refine lv_iconst (v := 1) hx hb nD_REC_add_46 (by decide) ?_
    refine lv_goto (tgt := 51) hx hb nD_REC_add_47 (by decide) ?_
    exact bk_REC_add_51 F9 a4 a5 (1 : Int32)  hw (lv_sub hl [2, 3] rfl) hf
set_option maxRecDepth 100000 in
set_option maxHeartbeats 4000000 in
theorem bk_REC_add_16 {z : sg_T} (F : fx_F p s m args meth c nC_REC_add 6 none nR_REC) (a1 : Int32) (a2 : Int32) (a3 : Int32) (t0 : Int32) {σ : sg_T} {H : Heap} {locs : List Loc} {ls : Array Slot} (hw : ww_P x s H locs σ) (hl : lv_has ls 6 [(0, .ref (x.2.2 7)), (1, .int a1), (2, .int a2), (3, .int a3)]) (hf : fb_REC_add_16 a1 a2 a3 t0 σ = some z) : W p l e (rm_D 3) s m args below meth c H locs 0 0 (qv_Q x s below args z) (F0 m 16 ls [.int t0]) := by
  have F9 := F
  obtain ⟨hx, hb, hml, hr, hlk, hown, hT⟩ := F
  unfold fb_REC_add_16 at hf
  refine lv_istore (lv' := [(4, .int t0), (0, .ref (x.2.2 7)), (1, .int a1), (2, .int a2), (3, .int a3)]) hx hb nD_REC_add_16 hl (by decide) rfl (fun ls hl => ?_)
  refine lv_iload_n hx hb nD_REC_add_18 rfl (lv_at hl 2 rfl) ?_
  refine lv_iload_n hx hb nD_REC_add_19 rfl (lv_at hl 3 rfl) ?_
  obtain ⟨z3, hz3, hf⟩ := bd_of hf
  refine cl_si (As := [.int a1, .int a2]) (rest := []) F9 hw (ct_REC_greaterCharacteristic l x a1 a2  _ _ hz3) wc_REC_31 hd_REC_greaterCharacteristic (by decide) hl rfl (Nat.le_of_ble_eq_true rfl) nD_REC_add_20 (fun H locs hw => ?_)
  refine lv_istore (lv' := [(5, .int z3.1), (4, .int t0), (0, .ref (x.2.2 7)), (1, .int a1), (2, .int a2), (3, .int a3)]) hx hb nD_REC_add_23 hl (by decide) rfl (fun ls hl => ?_)
  refine lv_iload hx hb nD_REC_add_25 (lv_at hl 1 rfl) ?_
  refine lv_ldc (v := 268435456) hx hb hown (hT _ wm_463) nD_REC_add_27 ?_
  refine lv_icmp_lt (tgt := 41) hx hb nD_REC_add_29 (by decide) (fun h4 => ?_) (fun h4 => ?_)
  · rw [if_pos h4] at hf
    exact bk_REC_add_41 F9 a3 t0 z3.1  hw (lv_sub hl [2, 5, 1, 0] rfl) hf
  · rw [if_neg h4] at hf
    refine lv_iload hx hb nD_REC_add_32 (lv_at hl 1 rfl) ?_
    refine lv_iconst (v := 4) hx hb nD_REC_add_34 (by decide) ?_
    refine lv_ishr hx hb nD_REC_add_35 ?_
    refine lv_istore (lv' := [(4, .int (t0 >>> ((4 : Int32) &&& 31))), (5, .int z3.1), (0, .ref (x.2.2 7)), (1, .int a1), (2, .int a2), (3, .int a3)]) hx hb nD_REC_add_36 hl (by decide) rfl (fun ls hl => ?_)
    refine lv_iinc (k := 1) (v := z3.1 + (1 : Int32)) (lv' := [(5, .int (z3.1 + (1 : Int32))), (4, .int (t0 >>> ((4 : Int32) &&& 31))), (0, .ref (x.2.2 7)), (1, .int a1), (2, .int a2), (3, .int a3)]) hx hb nD_REC_add_38 hl rfl (ic_p1 _) (by decide) rfl (fun ls hl => ?_)
    exact bk_REC_add_41 F9 a3 (t0 >>> ((4 : Int32) &&& 31)) (z3.1 + (1 : Int32))  hw (lv_sub hl [2, 5, 1, 0] rfl) hf
set_option maxRecDepth 100000 in
set_option maxHeartbeats 4000000 in
theorem ct_REC_add (l : Launch) (x : cx_T) (a1 : Int32) (a2 : Int32) (σ : sg_T) (z : sg_T) (hf : fn_REC_add a1 a2 σ = some z) : ct_v l nN_REC_add nC_REC_add 6 3 x [.ref (x.2.2 7), .int a1, .int a2] σ z := by
  refine en_v (own := nR_REC) (by decide) (Nat.le_of_ble_eq_true rfl) rfl ?_
  intro p e s m below meth c ls F hw hl
  have F9 := F
  obtain ⟨hx, hb, hml, hr, hlk, hown, hT⟩ := F
  have hl : lv_has ls 6 [(0, .ref (x.2.2 7)), (1, .int a1), (2, .int a2)] := hl
  unfold fn_REC_add at hf
  refine lv_iload_n hx hb nD_REC_add_0 rfl (lv_at hl 1 rfl) ?_
  refine lv_iload_n hx hb nD_REC_add_1 rfl (lv_at hl 2 rfl) ?_
  obtain ⟨z1, hz1, hf⟩ := bd_of hf
  refine cl_si (As := [.int a1, .int a2]) (rest := []) F9 hw (ct_REC_alignedSum l x a1 a2  _ _ hz1) wc_REC_27 hd_REC_alignedSum (by decide) hl rfl (Nat.le_of_ble_eq_true rfl) nD_REC_add_2 (fun H locs hw => ?_)
  refine lv_istore_n (lv' := [(3, .int z1.1), (0, .ref (x.2.2 7)), (1, .int a1), (2, .int a2)]) hx hb nD_REC_add_5 rfl hl (by decide) rfl (fun ls hl => ?_)
  refine lv_iload_n hx hb nD_REC_add_6 rfl (lv_at hl 0 rfl) ?_
  refine lv_if_ge (tgt := 15) hx hb nD_REC_add_7 (by decide) (fun h2 => ?_) (fun h2 => ?_)
  · rw [if_pos h2] at hf
    refine lv_iload_n hx hb nD_REC_add_15 rfl (lv_at hl 0 rfl) ?_
    exact bk_REC_add_16 F9 a1 a2 z1.1 z1.1  hw (lv_sub hl [1, 2, 3, 0] rfl) hf
  · rw [if_neg h2] at hf
    refine lv_iload_n hx hb nD_REC_add_10 rfl (lv_at hl 0 rfl) ?_
    refine lv_ineg hx hb nD_REC_add_11 ?_
    refine lv_goto (tgt := 16) hx hb nD_REC_add_12 (by decide) ?_
    exact bk_REC_add_16 F9 a1 a2 z1.1 (-z1.1)  hw (lv_sub hl [1, 2, 3, 0] rfl) hf
set_option maxRecDepth 100000 in
set_option maxHeartbeats 4000000 in
theorem ct_REC_normalFraction (l : Launch) (x : cx_T) (a0 : Int32) (σ : sg_T) (z : Int32 × sg_T) (hf : fn_REC_normalFraction a0 σ = some z) : ct_i l nN_REC_normalFraction nC_REC_normalFraction 2 (some .int) 1 x [.int a0] σ z.1 z.2 := by
  refine en_i (own := nR_REC) (by decide) (Nat.le_of_ble_eq_true rfl) rfl ?_
  intro p e s m below meth c ls F hw hl
  have F9 := F
  obtain ⟨hx, hb, hml, hr, hlk, hown, hT⟩ := F
  have hl : lv_has ls 2 [(0, .int a0)] := hl
  unfold fn_REC_normalFraction at hf
  refine lv_iload_n hx hb nD_REC_normalFraction_0 rfl (lv_at hl 0 rfl) ?_
  obtain ⟨z1, hz1, hf⟩ := bd_of hf
  refine cl_si (As := [.int a0]) (rest := []) F9 hw (ct_REC_fraction l x a0  _ _ hz1) wc_REC_42 hd_REC_fraction (by decide) hl rfl (Nat.le_of_ble_eq_true rfl) nD_REC_normalFraction_1 (fun H locs hw => ?_)
  refine lv_istore_n (lv' := [(1, .int z1.1), (0, .int a0)]) hx hb nD_REC_normalFraction_4 rfl hl (by decide) rfl (fun ls hl => ?_)
  refine lv_iload_n hx hb nD_REC_normalFraction_5 rfl (lv_at hl 0 rfl) ?_
  refine lv_iconst (v := 4) hx hb nD_REC_normalFraction_6 (by decide) ?_
  refine lv_iload_n hx hb nD_REC_normalFraction_7 rfl (lv_at hl 0 rfl) ?_
  refine lv_bipush (v := 6) hx hb nD_REC_normalFraction_8 (by decide) ?_
  obtain ⟨z2, hz2, hf⟩ := bd_of hf
  refine cl_si (As := [.int z1.1, .int (6 : Int32)]) (rest := [.int (4 : Int32), .int z1.1]) F9 hw (ct_REC_leadingZeros l x z1.1 (6 : Int32)  _ _ hz2) wc_REC_52 hd_REC_leadingZeros (by decide) hl rfl (Nat.le_of_ble_eq_true rfl) nD_REC_normalFraction_10 (fun H locs hw => ?_)
  refine lv_imul hx hb nD_REC_normalFraction_13 ?_
  refine lv_ishl hx hb nD_REC_normalFraction_14 ?_
  exact rt_i F9 hw rfl nD_REC_normalFraction_15 hf
set_option maxRecDepth 100000 in
set_option maxHeartbeats 4000000 in
theorem ct_REC_normalCharacteristic (l : Launch) (x : cx_T) (a0 : Int32) (σ : sg_T) (z : Int32 × sg_T) (hf : fn_REC_normalCharacteristic a0 σ = some z) : ct_i l nN_REC_normalCharacteristic nC_REC_normalCharacteristic 1 (some .int) 1 x [.int a0] σ z.1 z.2 := by
  refine en_i (own := nR_REC) (by decide) (Nat.le_of_ble_eq_true rfl) rfl ?_
  intro p e s m below meth c ls F hw hl
  have F9 := F
  obtain ⟨hx, hb, hml, hr, hlk, hown, hT⟩ := F
  have hl : lv_has ls 1 [(0, .int a0)] := hl
  unfold fn_REC_normalCharacteristic at hf
  refine lv_iload_n hx hb nD_REC_normalCharacteristic_0 rfl (lv_at hl 0 rfl) ?_
  obtain ⟨z1, hz1, hf⟩ := bd_of hf
  refine cl_si (As := [.int a0]) (rest := []) F9 hw (ct_REC_characteristic l x a0  _ _ hz1) wc_REC_56 hd_REC_characteristic (by decide) hl rfl (Nat.le_of_ble_eq_true rfl) nD_REC_normalCharacteristic_1 (fun H locs hw => ?_)
  refine lv_iload_n hx hb nD_REC_normalCharacteristic_4 rfl (lv_at hl 0 rfl) ?_
  obtain ⟨z2, hz2, hf⟩ := bd_of hf
  refine cl_si (As := [.int a0]) (rest := [.int z1.1]) F9 hw (ct_REC_fraction l x a0  _ _ hz2) wc_REC_42 hd_REC_fraction (by decide) hl rfl (Nat.le_of_ble_eq_true rfl) nD_REC_normalCharacteristic_5 (fun H locs hw => ?_)
  refine lv_bipush (v := 6) hx hb nD_REC_normalCharacteristic_8 (by decide) ?_
  obtain ⟨z3, hz3, hf⟩ := bd_of hf
  refine cl_si (As := [.int z2.1, .int (6 : Int32)]) (rest := [.int z1.1]) F9 hw (ct_REC_leadingZeros l x z2.1 (6 : Int32)  _ _ hz3) wc_REC_52 hd_REC_leadingZeros (by decide) hl rfl (Nat.le_of_ble_eq_true rfl) nD_REC_normalCharacteristic_10 (fun H locs hw => ?_)
  refine lv_isub hx hb nD_REC_normalCharacteristic_13 ?_
  exact rt_i F9 hw rfl nD_REC_normalCharacteristic_14 hf
set_option maxRecDepth 100000 in
set_option maxHeartbeats 4000000 in
theorem bk_REC_multiply_47 {z : sg_T} (F : fx_F p s m args meth c nC_REC_multiply 5 none nR_REC) (a1 : Int32) (a2 : Int32) (a3 : Int64) (t0 : Int32) {σ : sg_T} {H : Heap} {locs : List Loc} {ls : Array Slot} (hw : ww_P x s H locs σ) (hl : lv_has ls 5 [(1, .int a1), (2, .int a2), (3, .long a3)]) (hf : fb_REC_multiply_47 a1 a2 a3 t0 σ = some z) : W p l e (rm_D 2) s m args below meth c H locs 0 0 (qv_Q x s below args z) (F0 m 47 ls [.int t0, .ref (x.2.2 7)]) := by
  have F9 := F
  obtain ⟨hx, hb, hml, hr, hlk, hown, hT⟩ := F
  unfold fb_REC_multiply_47 at hf
  refine lv_iload_n hx hb nD_REC_multiply_47 rfl (lv_at hl 0 rfl) ?_
  obtain ⟨z8, hz8, hf⟩ := bd_of hf
  refine cl_si (As := [.int a1]) (rest := [.int t0, .ref (x.2.2 7)]) F9 hw (ct_REC_normalCharacteristic l x a1  _ _ hz8) wc_REC_49 hd_REC_normalCharacteristic (by decide) hl rfl (Nat.le_of_ble_eq_true rfl) nD_REC_multiply_48 (fun H locs hw => ?_)
  refine lv_iload_n hx hb nD_REC_multiply_51 rfl (lv_at hl 1 rfl) ?_
  obtain ⟨z9, hz9, hf⟩ := bd_of hf
  refine cl_si (As := [.int a2]) (rest := [.int z8.1, .int t0, .ref (x.2.2 7)]) F9 hw (ct_REC_normalCharacteristic l x a2  _ _ hz9) wc_REC_49 hd_REC_normalCharacteristic (by decide) hl rfl (Nat.le_of_ble_eq_true rfl) nD_REC_multiply_52 (fun H locs hw => ?_)
  refine lv_iadd hx hb nD_REC_multiply_55 ?_
  refine lv_bipush (v := 64) hx hb nD_REC_multiply_56 (by decide) ?_
  refine lv_isub hx hb nD_REC_multiply_58 ?_
  refine lv_lload_n hx hb nD_REC_multiply_59 rfl (lv_at hl 2 rfl) ?_
  refine lv_l2i (v := a3.toInt32) hx hb nD_REC_multiply_60 rfl ?_
  obtain ⟨z10, hz10, hf⟩ := bd_of hf
  refine cl_vv (As := [.int t0, .int ((z8.1 + z9.1) - (64 : Int32)), .int a3.toInt32]) (rest := []) F9 hw (ct_REC_finish l x t0 ((z8.1 + z9.1) - (64 : Int32)) a3.toInt32  _ _ hz10) (rc_REC ) wc_REC_35 hd_REC_finish (by decide) hl rfl (Nat.le_of_ble_eq_true rfl) nD_REC_multiply_61 (fun H locs hw => ?_)
  exact rt_v F9 hw nD_REC_multiply_64 hf
set_option maxRecDepth 100000 in
set_option maxHeartbeats 4000000 in
theorem ct_REC_multiply (l : Launch) (x : cx_T) (a1 : Int32) (a2 : Int32) (σ : sg_T) (z : sg_T) (hf : fn_REC_multiply a1 a2 σ = some z) : ct_v l nN_REC_multiply nC_REC_multiply 5 2 x [.ref (x.2.2 7), .int a1, .int a2] σ z := by
  refine en_v (own := nR_REC) (by decide) (Nat.le_of_ble_eq_true rfl) rfl ?_
  intro p e s m below meth c ls F hw hl
  have F9 := F
  obtain ⟨hx, hb, hml, hr, hlk, hown, hT⟩ := F
  have hl : lv_has ls 5 [(0, .ref (x.2.2 7)), (1, .int a1), (2, .int a2)] := hl
  unfold fn_REC_multiply at hf
  refine lv_iload_n hx hb nD_REC_multiply_0 rfl (lv_at hl 1 rfl) ?_
  obtain ⟨z1, hz1, hf⟩ := bd_of hf
  refine cl_si (As := [.int a1]) (rest := []) F9 hw (ct_REC_fraction l x a1  _ _ hz1) wc_REC_42 hd_REC_fraction (by decide) hl rfl (Nat.le_of_ble_eq_true rfl) nD_REC_multiply_1 (fun H locs hw => ?_)
  refine lv_if_eq (tgt := 14) hx hb nD_REC_multiply_4 (by decide) (fun h2 => ?_) (fun h2 => ?_)
  · rw [if_pos h2] at hf
    refine lv_aload_n hx hb nD_REC_multiply_14 rfl (lv_at hl 0 rfl) ?_
    refine lv_iconst (v := 0) hx hb nD_REC_multiply_15 (by decide) ?_
    refine wr_REC_REC_result F9 hw nD_REC_multiply_16 (fun H locs hw => ?_)
    exact rt_v F9 hw nD_REC_multiply_19 hf
  · rw [if_neg h2] at hf
    refine lv_iload_n hx hb nD_REC_multiply_7 rfl (lv_at hl 2 rfl) ?_
    obtain ⟨z3, hz3, hf⟩ := bd_of hf
    refine cl_si (As := [.int a2]) (rest := []) F9 hw (ct_REC_fraction l x a2  _ _ hz3) wc_REC_42 hd_REC_fraction (by decide) hl rfl (Nat.le_of_ble_eq_true rfl) nD_REC_multiply_8 (fun H locs hw => ?_)
    refine lv_if_ne (tgt := 20) hx hb nD_REC_multiply_11 (by decide) (fun h4 => ?_) (fun h4 => ?_)
    · rw [if_neg h4] at hf
      refine lv_iload_n hx hb nD_REC_multiply_20 rfl (lv_at hl 1 rfl) ?_
      obtain ⟨z5, hz5, hf⟩ := bd_of hf
      refine cl_si (As := [.int a1]) (rest := []) F9 hw (ct_REC_normalFraction l x a1  _ _ hz5) wc_REC_46 hd_REC_normalFraction (by decide) hl rfl (Nat.le_of_ble_eq_true rfl) nD_REC_multiply_21 (fun H locs hw => ?_)
      refine lv_i2l (v := z5.1.toInt64) hx hb nD_REC_multiply_24 rfl ?_
      refine lv_iload_n hx hb nD_REC_multiply_25 rfl (lv_at hl 2 rfl) ?_
      obtain ⟨z6, hz6, hf⟩ := bd_of hf
      refine cl_si (As := [.int a2]) (rest := [.long z5.1.toInt64]) F9 hw (ct_REC_normalFraction l x a2  _ _ hz6) wc_REC_46 hd_REC_normalFraction (by decide) hl rfl (Nat.le_of_ble_eq_true rfl) nD_REC_multiply_26 (fun H locs hw => ?_)
      refine lv_i2l (v := z6.1.toInt64) hx hb nD_REC_multiply_29 rfl ?_
      refine lv_lmul hx hb nD_REC_multiply_30 ?_
      refine lv_bipush (v := 20) hx hb nD_REC_multiply_31 (by decide) ?_
      refine lv_lshr (v := (z5.1.toInt64 * z6.1.toInt64) >>> ((20 : Int32).toInt64 &&& 63)) hx hb nD_REC_multiply_33 rfl ?_
      refine lv_lstore_n (lv' := [(3, .long ((z5.1.toInt64 * z6.1.toInt64) >>> ((20 : Int32).toInt64 &&& 63))), (0, .ref (x.2.2 7)), (1, .int a1), (2, .int a2)]) hx hb nD_REC_multiply_34 rfl hl (by decide) rfl (fun ls hl => ?_)
      refine lv_aload_n hx hb nD_REC_multiply_35 rfl (lv_at hl 1 rfl) ?_
      refine lv_iload_n hx hb nD_REC_multiply_36 rfl (lv_at hl 2 rfl) ?_
      refine lv_iload_n hx hb nD_REC_multiply_37 rfl (lv_at hl 3 rfl) ?_
      refine lv_ixor hx hb nD_REC_multiply_38 ?_
      refine lv_if_ge (tgt := 46) hx hb nD_REC_multiply_39 (by decide) (fun h7 => ?_) (fun h7 => ?_)
      · rw [if_pos h7] at hf
        refine lv_iconst (v := 0) hx hb nD_REC_multiply_46 (by decide) ?_
        exact bk_REC_multiply_47 F9 a1 a2 ((z5.1.toInt64 * z6.1.toInt64) >>> ((20 : Int32).toInt64 &&& 63)) (0 : Int32)  hw (lv_sub hl [2, 3, 0] rfl) hf
      · rw [if_neg h7] at hf
        refine lv_iconst (v := 1) hx hb nD_REC_multiply_42 (by decide) ?_
        refine lv_goto (tgt := 47) hx hb nD_REC_multiply_43 (by decide) ?_
        exact bk_REC_multiply_47 F9 a1 a2 ((z5.1.toInt64 * z6.1.toInt64) >>> ((20 : Int32).toInt64 &&& 63)) (1 : Int32)  hw (lv_sub hl [2, 3, 0] rfl) hf
    · rw [if_pos h4] at hf
      refine lv_aload_n hx hb nD_REC_multiply_14 rfl (lv_at hl 0 rfl) ?_
      refine lv_iconst (v := 0) hx hb nD_REC_multiply_15 (by decide) ?_
      refine wr_REC_REC_result F9 hw nD_REC_multiply_16 (fun H locs hw => ?_)
      exact rt_v F9 hw nD_REC_multiply_19 hf
set_option maxRecDepth 100000 in
set_option maxHeartbeats 4000000 in
theorem bk_REC_divide_45 {z : sg_T} (F : fx_F p s m args meth c nC_REC_divide 6 none nR_REC) (a1 : Int32) (a2 : Int32) (a4 : Int64) (t0 : Int32) {σ : sg_T} {H : Heap} {locs : List Loc} {ls : Array Slot} (hw : ww_P x s H locs σ) (hl : lv_has ls 6 [(1, .int a1), (2, .int a2), (4, .long a4)]) (hf : fb_REC_divide_45 a1 a2 a4 t0 σ = some z) : W p l e (rm_D 2) s m args below meth c H locs 0 0 (qv_Q x s below args z) (F0 m 45 ls [.int t0, .ref (x.2.2 7)]) := by
  have F9 := F
  obtain ⟨hx, hb, hml, hr, hlk, hown, hT⟩ := F
  unfold fb_REC_divide_45 at hf
  refine lv_iload_n hx hb nD_REC_divide_45 rfl (lv_at hl 0 rfl) ?_
  obtain ⟨z6, hz6, hf⟩ := bd_of hf
  refine cl_si (As := [.int a1]) (rest := [.int t0, .ref (x.2.2 7)]) F9 hw (ct_REC_normalCharacteristic l x a1  _ _ hz6) wc_REC_49 hd_REC_normalCharacteristic (by decide) hl rfl (Nat.le_of_ble_eq_true rfl) nD_REC_divide_46 (fun H locs hw => ?_)
  refine lv_iload_n hx hb nD_REC_divide_49 rfl (lv_at hl 1 rfl) ?_
  obtain ⟨z7, hz7, hf⟩ := bd_of hf
  refine cl_si (As := [.int a2]) (rest := [.int z6.1, .int t0, .ref (x.2.2 7)]) F9 hw (ct_REC_normalCharacteristic l x a2  _ _ hz7) wc_REC_49 hd_REC_normalCharacteristic (by decide) hl rfl (Nat.le_of_ble_eq_true rfl) nD_REC_divide_50 (fun H locs hw => ?_)
  refine lv_isub hx hb nD_REC_divide_53 ?_
  refine lv_bipush (v := 65) hx hb nD_REC_divide_54 (by decide) ?_
  refine lv_iadd hx hb nD_REC_divide_56 ?_
  refine lv_lload hx hb nD_REC_divide_57 (lv_at hl 2 rfl) ?_
  refine lv_l2i (v := a4.toInt32) hx hb nD_REC_divide_59 rfl ?_
  obtain ⟨z8, hz8, hf⟩ := bd_of hf
  refine cl_vv (As := [.int t0, .int ((z6.1 - z7.1) + (65 : Int32)), .int a4.toInt32]) (rest := []) F9 hw (ct_REC_finish l x t0 ((z6.1 - z7.1) + (65 : Int32)) a4.toInt32  _ _ hz8) (rc_REC ) wc_REC_35 hd_REC_finish (by decide) hl rfl (Nat.le_of_ble_eq_true rfl) nD_REC_divide_60 (fun H locs hw => ?_)
  exact rt_v F9 hw nD_REC_divide_63 hf
set_option maxRecDepth 100000 in
set_option maxHeartbeats 4000000 in
theorem ct_REC_divide (l : Launch) (x : cx_T) (a1 : Int32) (a2 : Int32) (σ : sg_T) (z : sg_T) (hf : fn_REC_divide a1 a2 σ = some z) : ct_v l nN_REC_divide nC_REC_divide 6 2 x [.ref (x.2.2 7), .int a1, .int a2] σ z := by
  refine en_v (own := nR_REC) (by decide) (Nat.le_of_ble_eq_true rfl) rfl ?_
  intro p e s m below meth c ls F hw hl
  have F9 := F
  obtain ⟨hx, hb, hml, hr, hlk, hown, hT⟩ := F
  have hl : lv_has ls 6 [(0, .ref (x.2.2 7)), (1, .int a1), (2, .int a2)] := hl
  unfold fn_REC_divide at hf
  refine lv_iload_n hx hb nD_REC_divide_0 rfl (lv_at hl 2 rfl) ?_
  obtain ⟨z1, hz1, hf⟩ := bd_of hf
  refine cl_si (As := [.int a2]) (rest := []) F9 hw (ct_REC_normalFraction l x a2  _ _ hz1) wc_REC_46 hd_REC_normalFraction (by decide) hl rfl (Nat.le_of_ble_eq_true rfl) nD_REC_divide_1 (fun H locs hw => ?_)
  refine lv_istore_n (lv' := [(3, .int z1.1), (0, .ref (x.2.2 7)), (1, .int a1), (2, .int a2)]) hx hb nD_REC_divide_4 rfl hl (by decide) rfl (fun ls hl => ?_)
  refine lv_iload_n hx hb nD_REC_divide_5 rfl (lv_at hl 0 rfl) ?_
  refine lv_if_ne (tgt := 20) hx hb nD_REC_divide_6 (by decide) (fun h2 => ?_) (fun h2 => ?_)
  · rw [if_neg h2] at hf
    refine lv_iload_n hx hb nD_REC_divide_20 rfl (lv_at hl 2 rfl) ?_
    obtain ⟨z3, hz3, hf⟩ := bd_of hf
    refine cl_si (As := [.int a1]) (rest := []) F9 hw (ct_REC_normalFraction l x a1  _ _ hz3) wc_REC_46 hd_REC_normalFraction (by decide) hl rfl (Nat.le_of_ble_eq_true rfl) nD_REC_divide_21 (fun H locs hw => ?_)
    refine lv_i2l (v := z3.1.toInt64) hx hb nD_REC_divide_24 rfl ?_
    refine lv_bipush (v := 24) hx hb nD_REC_divide_25 (by decide) ?_
    refine lv_lshl (v := z3.1.toInt64 <<< ((24 : Int32).toInt64 &&& 63)) hx hb nD_REC_divide_27 rfl ?_
    refine lv_iload_n hx hb nD_REC_divide_28 rfl (lv_at hl 0 rfl) ?_
    refine lv_i2l (v := z1.1.toInt64) hx hb nD_REC_divide_29 rfl ?_
    obtain ⟨g4, hf⟩ := gt_of hf
    refine lv_ldiv hx hb nD_REC_divide_30 (of_decide_eq_true g4) ?_
    refine lv_lstore (lv' := [(4, .long ((z3.1.toInt64 <<< ((24 : Int32).toInt64 &&& 63)) / z1.1.toInt64)), (3, .int z1.1), (0, .ref (x.2.2 7)), (1, .int a1), (2, .int a2)]) hx hb nD_REC_divide_31 hl (by decide) rfl (fun ls hl => ?_)
    refine lv_aload_n hx hb nD_REC_divide_33 rfl (lv_at hl 2 rfl) ?_
    refine lv_iload_n hx hb nD_REC_divide_34 rfl (lv_at hl 3 rfl) ?_
    refine lv_iload_n hx hb nD_REC_divide_35 rfl (lv_at hl 4 rfl) ?_
    refine lv_ixor hx hb nD_REC_divide_36 ?_
    refine lv_if_ge (tgt := 44) hx hb nD_REC_divide_37 (by decide) (fun h5 => ?_) (fun h5 => ?_)
    · rw [if_pos h5] at hf
      refine lv_iconst (v := 0) hx hb nD_REC_divide_44 (by decide) ?_
      exact bk_REC_divide_45 F9 a1 a2 ((z3.1.toInt64 <<< ((24 : Int32).toInt64 &&& 63)) / z1.1.toInt64) (0 : Int32)  hw (lv_sub hl [3, 4, 0] rfl) hf
    · rw [if_neg h5] at hf
      refine lv_iconst (v := 1) hx hb nD_REC_divide_40 (by decide) ?_
      refine lv_goto (tgt := 45) hx hb nD_REC_divide_41 (by decide) ?_
      exact bk_REC_divide_45 F9 a1 a2 ((z3.1.toInt64 <<< ((24 : Int32).toInt64 &&& 63)) / z1.1.toInt64) (1 : Int32)  hw (lv_sub hl [3, 4, 0] rfl) hf
  · rw [if_pos h2] at hf
    refine lv_aload_n hx hb nD_REC_divide_9 rfl (lv_at hl 1 rfl) ?_
    refine lv_iconst (v := 4) hx hb nD_REC_divide_10 (by decide) ?_
    refine wr_REC_REC_raised F9 hw nD_REC_divide_11 (fun H locs hw => ?_)
    refine lv_aload_n hx hb nD_REC_divide_14 rfl (lv_at hl 1 rfl) ?_
    refine lv_iload_n hx hb nD_REC_divide_15 rfl (lv_at hl 2 rfl) ?_
    refine wr_REC_REC_result F9 hw nD_REC_divide_16 (fun H locs hw => ?_)
    exact rt_v F9 hw nD_REC_divide_19 hf
set_option maxRecDepth 100000 in
set_option maxHeartbeats 4000000 in
theorem ct_REC_compare (l : Launch) (x : cx_T) (a1 : Int32) (a2 : Int32) (σ : sg_T) (z : sg_T) (hf : fn_REC_compare a1 a2 σ = some z) : ct_v l nN_REC_compare nC_REC_compare 4 3 x [.ref (x.2.2 7), .int a1, .int a2] σ z := by
  refine en_v (own := nR_REC) (by decide) (Nat.le_of_ble_eq_true rfl) rfl ?_
  intro p e s m below meth c ls F hw hl
  have F9 := F
  obtain ⟨hx, hb, hml, hr, hlk, hown, hT⟩ := F
  have hl : lv_has ls 4 [(0, .ref (x.2.2 7)), (1, .int a1), (2, .int a2)] := hl
  unfold fn_REC_compare at hf
  refine lv_iload_n hx hb nD_REC_compare_0 rfl (lv_at hl 1 rfl) ?_
  refine lv_iload_n hx hb nD_REC_compare_1 rfl (lv_at hl 2 rfl) ?_
  refine lv_ldc (v := -2147483648) hx hb hown (hT _ wm_471) nD_REC_compare_2 ?_
  refine lv_ixor hx hb nD_REC_compare_4 ?_
  obtain ⟨z1, hz1, hf⟩ := bd_of hf
  refine cl_si (As := [.int a1, .int (a2 ^^^ (-2147483648 : Int32))]) (rest := []) F9 hw (ct_REC_alignedSum l x a1 (a2 ^^^ (-2147483648 : Int32))  _ _ hz1) wc_REC_27 hd_REC_alignedSum (by decide) hl rfl (Nat.le_of_ble_eq_true rfl) nD_REC_compare_5 (fun H locs hw => ?_)
  refine lv_istore_n (lv' := [(3, .int z1.1), (0, .ref (x.2.2 7)), (1, .int a1), (2, .int a2)]) hx hb nD_REC_compare_8 rfl hl (by decide) rfl (fun ls hl => ?_)
  refine lv_iload_n hx hb nD_REC_compare_9 rfl (lv_at hl 0 rfl) ?_
  refine lv_if_ne (tgt := 21) hx hb nD_REC_compare_10 (by decide) (fun h2 => ?_) (fun h2 => ?_)
  · rw [if_neg h2] at hf
    refine lv_aload_n hx hb nD_REC_compare_21 rfl (lv_at hl 1 rfl) ?_
    refine lv_iload_n hx hb nD_REC_compare_22 rfl (lv_at hl 0 rfl) ?_
    refine lv_if_ge (tgt := 30) hx hb nD_REC_compare_23 (by decide) (fun h3 => ?_) (fun h3 => ?_)
    · rw [if_pos h3] at hf
      refine lv_iconst (v := 2) hx hb nD_REC_compare_30 (by decide) ?_
      refine wr_REC_REC_result F9 hw nD_REC_compare_31 (fun H locs hw => ?_)
      exact rt_v F9 hw nD_REC_compare_34 hf
    · rw [if_neg h3] at hf
      refine lv_iconst (v := 1) hx hb nD_REC_compare_26 (by decide) ?_
      refine lv_goto (tgt := 31) hx hb nD_REC_compare_27 (by decide) ?_
      refine wr_REC_REC_result F9 hw nD_REC_compare_31 (fun H locs hw => ?_)
      exact rt_v F9 hw nD_REC_compare_34 hf
  · rw [if_pos h2] at hf
    refine lv_aload_n hx hb nD_REC_compare_13 rfl (lv_at hl 1 rfl) ?_
    refine lv_iconst (v := 0) hx hb nD_REC_compare_14 (by decide) ?_
    refine wr_REC_REC_result F9 hw nD_REC_compare_15 (fun H locs hw => ?_)
    refine lv_goto (tgt := 34) hx hb nD_REC_compare_18 (by decide) ?_
    exact rt_v F9 hw nD_REC_compare_34 hf
set_option maxRecDepth 100000 in
set_option maxHeartbeats 4000000 in
theorem ct_REC_workOut (l : Launch) (x : cx_T) (a1 : Int32) (a2 : Int32) (a3 : Int32) (σ : sg_T) (z : sg_T) (hf : fn_REC_workOut a1 a2 a3 σ = some z) : ct_v l nN_REC_workOut nC_REC_workOut 4 4 x [.ref (x.2.2 7), .int a1, .int a2, .int a3] σ z := by
  refine en_v (own := nR_REC) (by decide) (Nat.le_of_ble_eq_true rfl) rfl ?_
  intro p e s m below meth c ls F hw hl
  have F9 := F
  obtain ⟨hx, hb, hml, hr, hlk, hown, hT⟩ := F
  have hl : lv_has ls 4 [(0, .ref (x.2.2 7)), (1, .int a1), (2, .int a2), (3, .int a3)] := hl
  unfold fn_REC_workOut at hf
  refine lv_aload_n hx hb nD_REC_workOut_0 rfl (lv_at hl 0 rfl) ?_
  refine lv_iconst (v := 0) hx hb nD_REC_workOut_1 (by decide) ?_
  refine wr_REC_REC_raised F9 hw nD_REC_workOut_2 (fun H locs hw => ?_)
  refine lv_iload_n hx hb nD_REC_workOut_5 rfl (lv_at hl 1 rfl) ?_
  by_cases h1 : a1 = (0 : Int32)
  · rw [if_pos h1] at hf
    refine sw_in (tgt := 36) (0) hx hb nD_REC_workOut_6 h1 (by decide) (by decide) rfl (by decide) ?_
    refine lv_aload_n hx hb nD_REC_workOut_36 rfl (lv_at hl 0 rfl) ?_
    refine lv_iload_n hx hb nD_REC_workOut_37 rfl (lv_at hl 2 rfl) ?_
    refine lv_iload_n hx hb nD_REC_workOut_38 rfl (lv_at hl 3 rfl) ?_
    obtain ⟨z2, hz2, hf⟩ := bd_of hf
    refine cl_vv (As := [.int a2, .int a3]) (rest := []) F9 hw (ct_REC_add l x a2 a3  _ _ hz2) (rc_REC ) wc_REC_13 hd_REC_add (by decide) hl rfl (Nat.le_of_ble_eq_true rfl) nD_REC_workOut_39 (fun H locs hw => ?_)
    refine lv_goto (tgt := 81) hx hb nD_REC_workOut_42 (by decide) ?_
    exact rt_v F9 hw nD_REC_workOut_81 hf
  rw [if_neg h1] at hf
  by_cases h3 : a1 = (1 : Int32)
  · rw [if_pos h3] at hf
    refine sw_in (tgt := 45) (1) hx hb nD_REC_workOut_6 h3 (by decide) (by decide) rfl (by decide) ?_
    refine lv_aload_n hx hb nD_REC_workOut_45 rfl (lv_at hl 0 rfl) ?_
    refine lv_iload_n hx hb nD_REC_workOut_46 rfl (lv_at hl 2 rfl) ?_
    refine lv_iload_n hx hb nD_REC_workOut_47 rfl (lv_at hl 3 rfl) ?_
    refine lv_ldc (v := -2147483648) hx hb hown (hT _ wm_471) nD_REC_workOut_48 ?_
    refine lv_ixor hx hb nD_REC_workOut_50 ?_
    obtain ⟨z4, hz4, hf⟩ := bd_of hf
    refine cl_vv (As := [.int a2, .int (a3 ^^^ (-2147483648 : Int32))]) (rest := []) F9 hw (ct_REC_add l x a2 (a3 ^^^ (-2147483648 : Int32))  _ _ hz4) (rc_REC ) wc_REC_13 hd_REC_add (by decide) hl rfl (Nat.le_of_ble_eq_true rfl) nD_REC_workOut_51 (fun H locs hw => ?_)
    refine lv_goto (tgt := 81) hx hb nD_REC_workOut_54 (by decide) ?_
    exact rt_v F9 hw nD_REC_workOut_81 hf
  rw [if_neg h3] at hf
  by_cases h5 : a1 = (2 : Int32)
  · rw [if_pos h5] at hf
    refine sw_in (tgt := 57) (2) hx hb nD_REC_workOut_6 h5 (by decide) (by decide) rfl (by decide) ?_
    refine lv_aload_n hx hb nD_REC_workOut_57 rfl (lv_at hl 0 rfl) ?_
    refine lv_iload_n hx hb nD_REC_workOut_58 rfl (lv_at hl 2 rfl) ?_
    refine lv_iload_n hx hb nD_REC_workOut_59 rfl (lv_at hl 3 rfl) ?_
    obtain ⟨z6, hz6, hf⟩ := bd_of hf
    refine cl_vv (As := [.int a2, .int a3]) (rest := []) F9 hw (ct_REC_multiply l x a2 a3  _ _ hz6) (rc_REC ) wc_REC_18 hd_REC_multiply (by decide) hl rfl (Nat.le_of_ble_eq_true rfl) nD_REC_workOut_60 (fun H locs hw => ?_)
    refine lv_goto (tgt := 81) hx hb nD_REC_workOut_63 (by decide) ?_
    exact rt_v F9 hw nD_REC_workOut_81 hf
  rw [if_neg h5] at hf
  by_cases h7 : a1 = (3 : Int32)
  · rw [if_pos h7] at hf
    refine sw_in (tgt := 66) (3) hx hb nD_REC_workOut_6 h7 (by decide) (by decide) rfl (by decide) ?_
    refine lv_aload_n hx hb nD_REC_workOut_66 rfl (lv_at hl 0 rfl) ?_
    refine lv_iload_n hx hb nD_REC_workOut_67 rfl (lv_at hl 2 rfl) ?_
    refine lv_iload_n hx hb nD_REC_workOut_68 rfl (lv_at hl 3 rfl) ?_
    obtain ⟨z8, hz8, hf⟩ := bd_of hf
    refine cl_vv (As := [.int a2, .int a3]) (rest := []) F9 hw (ct_REC_divide l x a2 a3  _ _ hz8) (rc_REC ) wc_REC_21 hd_REC_divide (by decide) hl rfl (Nat.le_of_ble_eq_true rfl) nD_REC_workOut_69 (fun H locs hw => ?_)
    refine lv_goto (tgt := 81) hx hb nD_REC_workOut_72 (by decide) ?_
    exact rt_v F9 hw nD_REC_workOut_81 hf
  rw [if_neg h7] at hf
  refine lv_tableOut (tgt := 75) hx hb nD_REC_workOut_6 (by have q0 := it_ne h1; have q1 := it_ne h3; have q2 := it_ne h5; have q3 := it_ne h7; simp only [show (0 : Int32).toInt = 0 from rfl, show (1 : Int32).toInt = 1 from rfl, show (2 : Int32).toInt = 2 from rfl, show (3 : Int32).toInt = 3 from rfl] at *; omega) (by decide) ?_
  refine lv_aload_n hx hb nD_REC_workOut_75 rfl (lv_at hl 0 rfl) ?_
  refine lv_iload_n hx hb nD_REC_workOut_76 rfl (lv_at hl 2 rfl) ?_
  refine lv_iload_n hx hb nD_REC_workOut_77 rfl (lv_at hl 3 rfl) ?_
  obtain ⟨z9, hz9, hf⟩ := bd_of hf
  refine cl_vv (As := [.int a2, .int a3]) (rest := []) F9 hw (ct_REC_compare l x a2 a3  _ _ hz9) (rc_REC ) wc_REC_24 hd_REC_compare (by decide) hl rfl (Nat.le_of_ble_eq_true rfl) nD_REC_workOut_78 (fun H locs hw => ?_)
  exact rt_v F9 hw nD_REC_workOut_81 hf
set_option maxRecDepth 100000 in
set_option maxHeartbeats 4000000 in
theorem ct_REC_knows (l : Launch) (x : cx_T) (a0 : Int32) (σ : sg_T) (z : Int32 × sg_T) (hf : fn_REC_knows a0 σ = some z) : ct_i l nN_REC_knows nC_REC_knows 1 (some .boolean) 0 x [.int a0] σ z.1 z.2 := by
  refine en_i (own := nR_REC) (by decide) (Nat.le_of_ble_eq_true rfl) rfl ?_
  intro p e s m below meth c ls F hw hl
  have F9 := F
  obtain ⟨hx, hb, hml, hr, hlk, hown, hT⟩ := F
  have hl : lv_has ls 1 [(0, .int a0)] := hl
  unfold fn_REC_knows at hf
  refine lv_iload_n hx hb nD_REC_knows_0 rfl (lv_at hl 0 rfl) ?_
  refine lv_if_lt (tgt := 13) hx hb nD_REC_knows_1 (by decide) (fun h1 => ?_) (fun h1 => ?_)
  · rw [if_pos h1] at hf
    refine lv_iconst (v := 0) hx hb nD_REC_knows_13 (by decide) ?_
    exact rt_i F9 hw rfl nD_REC_knows_14 hf
  · rw [if_neg h1] at hf
    refine lv_iload_n hx hb nD_REC_knows_4 rfl (lv_at hl 0 rfl) ?_
    refine lv_iconst (v := 4) hx hb nD_REC_knows_5 (by decide) ?_
    refine lv_icmp_gt (tgt := 13) hx hb nD_REC_knows_6 (by decide) (fun h2 => ?_) (fun h2 => ?_)
    · rw [if_pos h2] at hf
      refine lv_iconst (v := 0) hx hb nD_REC_knows_13 (by decide) ?_
      exact rt_i F9 hw rfl nD_REC_knows_14 hf
    · rw [if_neg h2] at hf
      refine lv_iconst (v := 1) hx hb nD_REC_knows_9 (by decide) ?_
      refine lv_goto (tgt := 14) hx hb nD_REC_knows_10 (by decide) ?_
      exact rt_i F9 hw rfl nD_REC_knows_14 hf
end MT
