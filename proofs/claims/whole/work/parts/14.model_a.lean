def fn_MOD_thrown (σ : sg_T) : Option (Int32 × sg_T) := some (σ 30 9, σ)
def fn_MOD_minus (a0 : Int32) (σ : sg_T) : Option (Int32 × sg_T) := if 0 ≤ a0 then some ((0 : Int32), σ) else some ((1 : Int32), σ)
def fn_MOD_charOf (a0 : Int32) (σ : sg_T) : Option (Int32 × sg_T) := some ((a0 >>> ((24 : Int32) &&& 31)) &&& (127 : Int32), σ)
def fn_MOD_partOf (a0 : Int32) (σ : sg_T) : Option (Int64 × sg_T) := some ((a0 &&& (16777215 : Int32)).toInt64, σ)
def fb_MOD_finish_114 (t0 : Int64) (t1 : Int64) (σ : sg_T) : Option (Int32 × sg_T) := some ((t1 + t0).toInt32, σ)
def fb_MOD_finish_91 (a1 : Int32) (a5 : Int64) (t0 : Int32) (σ : sg_T) : Option (Int32 × sg_T) := if a1 = 0 then fb_MOD_finish_114 (0 : Int64) ((t0.toInt64 * (16777216 : Int64)) + a5) σ else fb_MOD_finish_114 (2147483648 : Int64) ((t0.toInt64 * (16777216 : Int64)) + a5) σ
def fb_MOD_finish_70 (a1 : Int32) (a5 : Int64) (a7 : Int32) (t0 : Int32) (σ : sg_T) : Option (Int32 × sg_T) := if a7 ≤ (127 : Int32) then fb_MOD_finish_91 a1 a5 a7 (sg_up σ 30 8 t0) else fb_MOD_finish_91 a1 a5 (a7 - (128 : Int32)) (sg_up σ 30 8 t0)
def fb_MOD_finish_14 : Nat → Int32 → Int64 → Int32 → sg_T → Option (Int32 × sg_T)
  | 0, _, _, _, _ => none
  | n + 1, a1, a5, a7, σ => if 0 ≤ (lg_cmp a5 (16777216 : Int64)) then gt_d (decide (¬ (16 : Int64) = 0)) (if 0 ≤ a7 then if a7 ≤ (127 : Int32) then fb_MOD_finish_70 a1 (a5 / (16 : Int64)) a7 (0 : Int32) σ else fb_MOD_finish_70 a1 (a5 / (16 : Int64)) a7 (1 : Int32) σ else some ((0 : Int32), sg_up σ 30 8 (2 : Int32))) else fb_MOD_finish_14 n a1 ((16 : Int64) * a5) (a7 + (-1)) σ
def fn_MOD_finish (a1 : Int32) (a2 : Int32) (a3 : Int64) (σ : sg_T) : Option (Int32 × sg_T) := if (lg_cmp a3 (0 : Int64)) = 0 then some ((0 : Int32), σ) else fb_MOD_finish_14 8 a1 a3 a2 σ
def fb_MOD_align_153 (a4 : Int32) (t0 : Int64) (t1 : Int64) (σ : sg_T) : Option (Int32 × sg_T) := gt_d (decide ((t1 + t0).toInt32.toInt64 = t1 + t0)) ((fn_MOD_charOf a4 (sg_up σ 50 0 (t1 + t0).toInt32)).bind (fun z17 => some (z17.1, z17.2)))
def fb_MOD_align_137 (a4 : Int32) (a5 : Int32) (a7 : Int64) (t0 : Int64) (σ : sg_T) : Option (Int32 × sg_T) := (fn_MOD_minus a5 σ).bind (fun z14 => if z14.1 = 0 then fb_MOD_align_153 a4 a7 t0 z14.2 else fb_MOD_align_153 a4 (-a7) t0 z14.2)
def fb_MOD_align_107 (a4 : Int32) (a5 : Int32) (t0 : Int64) (σ : sg_T) : Option (Int32 × sg_T) := (fn_MOD_partOf a4 σ).bind (fun z11 => (fn_MOD_minus a4 z11.2).bind (fun z12 => if z12.1 = 0 then fb_MOD_align_137 a4 a5 t0 ((16 : Int64) * z11.1) z12.2 else fb_MOD_align_137 a4 a5 t0 (-((16 : Int64) * z11.1)) z12.2))
def fb_MOD_align_94 (a4 : Int32) (a5 : Int32) (a6 : Int32) (a7 : Int64) (σ : sg_T) : Option (Int32 × sg_T) := if a6 ≤ (7 : Int32) then fb_MOD_align_107 a4 a5 a7 σ else fb_MOD_align_107 a4 a5 (0 : Int64) σ
def fb_MOD_align_66 : Nat → Int32 → Int32 → Int32 → Int64 → Int32 → sg_T → Option (Int32 × sg_T)
  | 0, _, _, _, _, _, _ => none
  | n + 1, a4, a5, a6, a7, a9, σ => if a6 ≤ a9 then fb_MOD_align_94 a4 a5 a6 a7 σ else if (8 : Int32) ≤ a9 then fb_MOD_align_94 a4 a5 a6 a7 σ else gt_d (decide (¬ (16 : Int64) = 0)) (fb_MOD_align_66 n a4 a5 a6 (a7 / (16 : Int64)) (a9 + (1 : Int32)) σ)
def fb_MOD_align_37 (a4 : Int32) (t0 : Int32) (σ : sg_T) : Option (Int32 × sg_T) := (fn_MOD_charOf a4 σ).bind (fun z6 => (fn_MOD_charOf t0 z6.2).bind (fun z7 => (fn_MOD_partOf t0 z7.2).bind (fun z8 => fb_MOD_align_66 9 a4 t0 (z6.1 - z7.1) ((16 : Int64) * z8.1) (0 : Int32) z8.2)))
def fb_MOD_align_26 (a1 : Int32) (a2 : Int32) (a3 : Int32) (t0 : Int32) (σ : sg_T) : Option (Int32 × sg_T) := if a3 = 0 then fb_MOD_align_37 t0 a1 σ else fb_MOD_align_37 t0 a2 σ
def fb_MOD_align_16 (a1 : Int32) (a2 : Int32) (t0 : Int32) (σ : sg_T) : Option (Int32 × sg_T) := if t0 = 0 then fb_MOD_align_26 a1 a2 t0 a2 σ else fb_MOD_align_26 a1 a2 t0 a1 σ
def fn_MOD_align (a1 : Int32) (a2 : Int32) (σ : sg_T) : Option (Int32 × sg_T) := (fn_MOD_charOf a1 σ).bind (fun z1 => (fn_MOD_charOf a2 z1.2).bind (fun z2 => if z1.1 < z2.1 then fb_MOD_align_16 a1 a2 (0 : Int32) z2.2 else fb_MOD_align_16 a1 a2 (1 : Int32) z2.2))
def fb_MOD_sum_89 (t0 : Int64) (t1 : Int32) (t2 : Int32) (σ : sg_T) : Option (Int32 × sg_T) := (fn_MOD_finish t2 t1 t0 σ).bind (fun z7 => some (z7.1, z7.2))
def fb_MOD_sum_73 (a4 : Int64) (a6 : Int32) (t0 : Int32) (t1 : Int32) (σ : sg_T) : Option (Int32 × sg_T) := if a6 = 0 then fb_MOD_sum_89 a4 t0 t1 σ else gt_d (decide (¬ (16 : Int64) = 0)) (fb_MOD_sum_89 (a4 / (16 : Int64)) t0 t1 σ)
def fb_MOD_sum_61 (a3 : Int32) (a4 : Int64) (a6 : Int32) (t0 : Int32) (σ : sg_T) : Option (Int32 × sg_T) := if a6 = 0 then fb_MOD_sum_73 a4 a6 a3 t0 σ else fb_MOD_sum_73 a4 a6 (a3 + (1 : Int32)) t0 σ
def fb_MOD_sum_44 (a3 : Int32) (a4 : Int64) (t0 : Int32) (σ : sg_T) : Option (Int32 × sg_T) := if 0 ≤ (lg_cmp ((σ 50 0).toInt64) (0 : Int64)) then fb_MOD_sum_61 a3 a4 t0 (0 : Int32) σ else fb_MOD_sum_61 a3 a4 t0 (1 : Int32) σ
def fb_MOD_sum_28 (a3 : Int32) (t0 : Int64) (σ : sg_T) : Option (Int32 × sg_T) := if (lg_cmp t0 (268435456 : Int64)) < 0 then fb_MOD_sum_44 a3 t0 (0 : Int32) σ else fb_MOD_sum_44 a3 t0 (1 : Int32) σ
def fn_MOD_sum (a1 : Int32) (a2 : Int32) (σ : sg_T) : Option (Int32 × sg_T) := (fn_MOD_align a1 a2 σ).bind (fun z1 => if 0 ≤ (lg_cmp ((z1.2 50 0).toInt64) (0 : Int64)) then fb_MOD_sum_28 z1.1 ((z1.2 50 0).toInt64) z1.2 else fb_MOD_sum_28 z1.1 (-((z1.2 50 0).toInt64)) z1.2)
def fn_MOD_other (a0 : Int32) (σ : sg_T) : Option (Int32 × sg_T) := some (a0 ^^^ (-2147483648 : Int32), σ)
def fn_MOD_compared (a1 : Int32) (a2 : Int32) (σ : sg_T) : Option (Int32 × sg_T) := (fn_MOD_other a2 σ).bind (fun z1 => (fn_MOD_align a1 z1.1 z1.2).bind (fun z2 => if (lg_cmp ((z2.2 50 0).toInt64) (0 : Int64)) = 0 then some ((0 : Int32), z2.2) else if 0 ≤ (lg_cmp ((z2.2 50 0).toInt64) (0 : Int64)) then some ((2 : Int32), z2.2) else some ((1 : Int32), z2.2)))
def fb_MOD_short0_7 : Nat → Int64 → Int32 → sg_T → Option (Int32 × sg_T)
  | 0, _, _, _ => none
  | n + 1, a1, a3, σ => if 0 ≤ (lg_cmp a1 (1048576 : Int64)) then some (a3, σ) else fb_MOD_short0_7 n ((16 : Int64) * a1) (a3 + (1 : Int32)) σ
def fn_MOD_short0 (a0 : Int32) (σ : sg_T) : Option (Int32 × sg_T) := (fn_MOD_partOf a0 σ).bind (fun z1 => fb_MOD_short0_7 7 z1.1 (0 : Int32) z1.2)
def fb_MOD_normal_13 : Nat → Int64 → Int32 → Int32 → sg_T → Option (Int64 × sg_T)
  | 0, _, _, _, _ => none
  | n + 1, a1, a3, a4, σ => if a3 ≤ a4 then some (a1, σ) else fb_MOD_normal_13 n ((16 : Int64) * a1) a3 (a4 + (1 : Int32)) σ
def fn_MOD_normal (a0 : Int32) (σ : sg_T) : Option (Int64 × sg_T) := (fn_MOD_partOf a0 σ).bind (fun z1 => (fn_MOD_short0 a0 z1.2).bind (fun z2 => fb_MOD_normal_13 8 z1.1 z2.1 (0 : Int32) z2.2))
def fb_MOD_product_75 (a3 : Int32) (a4 : Int64) (t0 : Int32) (σ : sg_T) : Option (Int32 × sg_T) := (fn_MOD_finish t0 a3 a4 σ).bind (fun z15 => some (z15.1, z15.2))
def fn_MOD_product (a1 : Int32) (a2 : Int32) (σ : sg_T) : Option (Int32 × sg_T) := (fn_MOD_partOf a1 σ).bind (fun z1 => if (lg_cmp z1.1 (0 : Int64)) = 0 then some ((0 : Int32), z1.2) else (fn_MOD_partOf a2 z1.2).bind (fun z3 => if (lg_cmp z3.1 (0 : Int64)) = 0 then some ((0 : Int32), z3.2) else (fn_MOD_charOf a1 z3.2).bind (fun z5 => (fn_MOD_short0 a1 z5.2).bind (fun z6 => (fn_MOD_charOf a2 z6.2).bind (fun z7 => (fn_MOD_short0 a2 z7.2).bind (fun z8 => (fn_MOD_normal a1 z8.2).bind (fun z9 => (fn_MOD_normal a2 z9.2).bind (fun z10 => gt_d (decide (¬ (1048576 : Int64) = 0)) ((fn_MOD_minus a1 z10.2).bind (fun z12 => (fn_MOD_minus a2 z12.2).bind (fun z13 => if z12.1 = z13.1 then fb_MOD_product_75 ((((z5.1 - z6.1) + z7.1) - z8.1) - (64 : Int32)) ((z9.1 * z10.1) / (1048576 : Int64)) (0 : Int32) z13.2 else fb_MOD_product_75 ((((z5.1 - z6.1) + z7.1) - z8.1) - (64 : Int32)) ((z9.1 * z10.1) / (1048576 : Int64)) (1 : Int32) z13.2)))))))))))
def fb_MOD_quotient_82 (a3 : Int32) (a4 : Int64) (t0 : Int32) (σ : sg_T) : Option (Int32 × sg_T) := (fn_MOD_finish t0 a3 a4 σ).bind (fun z15 => some (z15.1, z15.2))
def fn_MOD_quotient (a1 : Int32) (a2 : Int32) (σ : sg_T) : Option (Int32 × sg_T) := (fn_MOD_partOf a2 σ).bind (fun z1 => if (lg_cmp z1.1 (0 : Int64)) = 0 then some (a1, sg_up z1.2 30 8 (4 : Int32)) else (fn_MOD_partOf a1 z1.2).bind (fun z3 => if (lg_cmp z3.1 (0 : Int64)) = 0 then some ((0 : Int32), z3.2) else (fn_MOD_charOf a1 z3.2).bind (fun z5 => (fn_MOD_short0 a1 z5.2).bind (fun z6 => (fn_MOD_charOf a2 z6.2).bind (fun z7 => (fn_MOD_short0 a2 z7.2).bind (fun z8 => (fn_MOD_normal a1 z8.2).bind (fun z9 => (fn_MOD_normal a2 z9.2).bind (fun z10 => gt_d (decide (¬ z10.1 = 0)) ((fn_MOD_minus a1 z10.2).bind (fun z12 => (fn_MOD_minus a2 z12.2).bind (fun z13 => if z12.1 = z13.1 then fb_MOD_quotient_82 (((z5.1 - z6.1) - (z7.1 - z8.1)) + (65 : Int32)) ((z9.1 * (16777216 : Int64)) / z10.1) (0 : Int32) z13.2 else fb_MOD_quotient_82 (((z5.1 - z6.1) - (z7.1 - z8.1)) + (65 : Int32)) ((z9.1 * (16777216 : Int64)) / z10.1) (1 : Int32) z13.2)))))))))))
def fn_MOD_result (a1 : Int32) (a2 : Int32) (a3 : Int32) (σ : sg_T) : Option (Int32 × sg_T) := if a1 = 0 then (fn_MOD_sum a2 a3 (sg_up σ 30 8 (0 : Int32))).bind (fun z2 => some (z2.1, z2.2)) else if a1 = 1 then (fn_MOD_other a3 (sg_up σ 30 8 (0 : Int32))).bind (fun z4 => (fn_MOD_sum a2 z4.1 z4.2).bind (fun z5 => some (z5.1, z5.2))) else if a1 = 2 then (fn_MOD_product a2 a3 (sg_up σ 30 8 (0 : Int32))).bind (fun z7 => some (z7.1, z7.2)) else if a1 = 3 then (fn_MOD_quotient a2 a3 (sg_up σ 30 8 (0 : Int32))).bind (fun z9 => some (z9.1, z9.2)) else (fn_MOD_compared a2 a3 (sg_up σ 30 8 (0 : Int32))).bind (fun z10 => some (z10.1, z10.2))
def fb_MOD_reckon_15 (a1 : Int32) (a2 : Int32) (a3 : Int32) (t0 : Int32) (σ : sg_T) : Option (Int32 × sg_T) := if ((sg_up σ 30 9 t0) 30 9) ≤ 0 then (fn_MOD_result a1 a2 a3 (sg_up σ 30 9 t0)).bind (fun z3 => some (z3.1, z3.2)) else some ((0 : Int32), sg_up σ 30 9 t0)
def fb_MOD_reckon_10 (a1 : Int32) (a2 : Int32) (a3 : Int32) (σ : sg_T) : Option (Int32 × sg_T) := fb_MOD_reckon_15 a1 a2 a3 (1 : Int32) σ
def fn_MOD_reckon (a1 : Int32) (a2 : Int32) (a3 : Int32) (σ : sg_T) : Option (Int32 × sg_T) := if a1 < 0 then fb_MOD_reckon_10 a1 a2 a3 σ else if a1 ≤ (4 : Int32) then fb_MOD_reckon_15 a1 a2 a3 (0 : Int32) σ else fb_MOD_reckon_10 a1 a2 a3 σ
def fb_MOD_exceptions_15 (a1 : Int32) (a2 : Int32) (a3 : Int32) (t0 : Int32) (σ : sg_T) : Option (Int32 × sg_T) := if ((sg_up σ 30 9 t0) 30 9) ≤ 0 then (fn_MOD_result a1 a2 a3 (sg_up σ 30 9 t0)).bind (fun z3 => if a1 = (4 : Int32) then if z3.1 < 0 then some (z3.2 30 8, z3.2) else some ((0 : Int32), z3.2) else some (z3.2 30 8, z3.2)) else some ((0 : Int32), sg_up σ 30 9 t0)
def fb_MOD_exceptions_10 (a1 : Int32) (a2 : Int32) (a3 : Int32) (σ : sg_T) : Option (Int32 × sg_T) := fb_MOD_exceptions_15 a1 a2 a3 (1 : Int32) σ
def fn_MOD_exceptions (a1 : Int32) (a2 : Int32) (a3 : Int32) (σ : sg_T) : Option (Int32 × sg_T) := if a1 < 0 then fb_MOD_exceptions_10 a1 a2 a3 σ else if a1 ≤ (4 : Int32) then fb_MOD_exceptions_15 a1 a2 a3 (0 : Int32) σ else fb_MOD_exceptions_10 a1 a2 a3 σ
section MT
variable {p : Program} {l : Launch} {e : Env} {s : State} {m : MethodId} {args : Array Value} {below : List Frame} {meth : Method} {c : Code} {x : cx_T}
set_option maxRecDepth 100000 in
set_option maxHeartbeats 4000000 in
theorem ct_MOD_thrown (l : Launch) (x : cx_T) (σ : sg_T) (z : Int32 × sg_T) (hf : fn_MOD_thrown  σ = some z) : ct_i l nN_MOD_thrown nC_MOD_thrown 1 (some .int) 0 x [.ref (x.2.2 82)] σ z.1 z.2 := by
  refine en_i (own := nR_MOD) (by decide) (Nat.le_of_ble_eq_true rfl) rfl ?_
  intro p e s m below meth c ls F hw hl
  have F9 := F
  obtain ⟨hx, hb, hml, hr, hlk, hown, hT⟩ := F
  have hl : lv_has ls 1 [(0, .ref (x.2.2 82))] := hl
  unfold fn_MOD_thrown at hf
  refine lv_aload_n hx hb nD_MOD_thrown_0 rfl (lv_at hl 0 rfl) ?_
  refine rd_MOD_MOD_threw F9 hw nD_MOD_thrown_1 ?_
  exact rt_i F9 hw rfl nD_MOD_thrown_4 hf
set_option maxRecDepth 100000 in
set_option maxHeartbeats 4000000 in
theorem ct_MOD_minus (l : Launch) (x : cx_T) (a0 : Int32) (σ : sg_T) (z : Int32 × sg_T) (hf : fn_MOD_minus a0 σ = some z) : ct_i l nN_MOD_minus nC_MOD_minus 1 (some .boolean) 0 x [.int a0] σ z.1 z.2 := by
  refine en_i (own := nR_MOD) (by decide) (Nat.le_of_ble_eq_true rfl) rfl ?_
  intro p e s m below meth c ls F hw hl
  have F9 := F
  obtain ⟨hx, hb, hml, hr, hlk, hown, hT⟩ := F
  have hl : lv_has ls 1 [(0, .int a0)] := hl
  unfold fn_MOD_minus at hf
  refine lv_iload_n hx hb nD_MOD_minus_0 rfl (lv_at hl 0 rfl) ?_
  refine lv_if_ge (tgt := 8) hx hb nD_MOD_minus_1 (by decide) (fun h1 => ?_) (fun h1 => ?_)
  · rw [if_pos h1] at hf
    refine lv_iconst (v := 0) hx hb nD_MOD_minus_8 (by decide) ?_
    exact rt_i F9 hw rfl nD_MOD_minus_9 hf
  · rw [if_neg h1] at hf
    refine lv_iconst (v := 1) hx hb nD_MOD_minus_4 (by decide) ?_
    refine lv_goto (tgt := 9) hx hb nD_MOD_minus_5 (by decide) ?_
    exact rt_i F9 hw rfl nD_MOD_minus_9 hf
set_option maxRecDepth 100000 in
set_option maxHeartbeats 4000000 in
theorem ct_MOD_charOf (l : Launch) (x : cx_T) (a0 : Int32) (σ : sg_T) (z : Int32 × sg_T) (hf : fn_MOD_charOf a0 σ = some z) : ct_i l nN_MOD_charOf nC_MOD_charOf 1 (some .int) 0 x [.int a0] σ z.1 z.2 := by
  refine en_i (own := nR_MOD) (by decide) (Nat.le_of_ble_eq_true rfl) rfl ?_
  intro p e s m below meth c ls F hw hl
  have F9 := F
  obtain ⟨hx, hb, hml, hr, hlk, hown, hT⟩ := F
  have hl : lv_has ls 1 [(0, .int a0)] := hl
  unfold fn_MOD_charOf at hf
  refine lv_iload_n hx hb nD_MOD_charOf_0 rfl (lv_at hl 0 rfl) ?_
  refine lv_bipush (v := 24) hx hb nD_MOD_charOf_1 (by decide) ?_
  refine lv_ishr hx hb nD_MOD_charOf_3 ?_
  refine lv_bipush (v := 127) hx hb nD_MOD_charOf_4 (by decide) ?_
  refine lv_iand hx hb nD_MOD_charOf_6 ?_
  exact rt_i F9 hw rfl nD_MOD_charOf_7 hf
set_option maxRecDepth 100000 in
set_option maxHeartbeats 4000000 in
theorem ct_MOD_partOf (l : Launch) (x : cx_T) (a0 : Int32) (σ : sg_T) (z : Int64 × sg_T) (hf : fn_MOD_partOf a0 σ = some z) : ct_l l nN_MOD_partOf nC_MOD_partOf 1 0 x [.int a0] σ z.1 z.2 := by
  refine en_l (own := nR_MOD) (by decide) (Nat.le_of_ble_eq_true rfl) rfl ?_
  intro p e s m below meth c ls F hw hl
  have F9 := F
  obtain ⟨hx, hb, hml, hr, hlk, hown, hT⟩ := F
  have hl : lv_has ls 1 [(0, .int a0)] := hl
  unfold fn_MOD_partOf at hf
  refine lv_iload_n hx hb nD_MOD_partOf_0 rfl (lv_at hl 0 rfl) ?_
  refine lv_ldc (v := 16777215) hx hb hown (hT _ wm_704) nD_MOD_partOf_1 ?_
  refine lv_iand hx hb nD_MOD_partOf_3 ?_
  refine lv_i2l (v := (a0 &&& (16777215 : Int32)).toInt64) hx hb nD_MOD_partOf_4 rfl ?_
  exact rt_l F9 hw nD_MOD_partOf_5 hf
set_option maxRecDepth 100000 in
set_option maxHeartbeats 4000000 in
theorem bk_MOD_finish_114 {z : Int32 × sg_T} (F : fx_F p s m args meth c nC_MOD_finish 10 (some .int) nR_MOD) (t0 : Int64) (t1 : Int64) {σ : sg_T} {H : Heap} {locs : List Loc} {ls : Array Slot} (hw : ww_P x s H locs σ) (hl : lv_has ls 10 []) (hf : fb_MOD_finish_114 t0 t1 σ = some z) : W p l e (rm_D 0) s m args below meth c H locs 0 0 (qi_Q x s below args z.1 z.2) (F0 m 114 ls [.long t0, .long t1]) := by
  have F9 := F
  obtain ⟨hx, hb, hml, hr, hlk, hown, hT⟩ := F
  unfold fb_MOD_finish_114 at hf
  refine lv_ladd hx hb nD_MOD_finish_114 ?_
  refine lv_lstore (lv' := [(8, .long (t1 + t0))]) hx hb nD_MOD_finish_115 hl (by decide) rfl (fun ls hl => ?_)
  refine lv_lload hx hb nD_MOD_finish_117 (lv_at hl 0 rfl) ?_
  refine lv_l2i (v := (t1 + t0).toInt32) hx hb nD_MOD_finish_119 rfl ?_
  exact rt_i F9 hw rfl nD_MOD_finish_120 hf
set_option maxRecDepth 100000 in
set_option maxHeartbeats 4000000 in
theorem bk_MOD_finish_91 {z : Int32 × sg_T} (F : fx_F p s m args meth c nC_MOD_finish 10 (some .int) nR_MOD) (a1 : Int32) (a5 : Int64) (t0 : Int32) {σ : sg_T} {H : Heap} {locs : List Loc} {ls : Array Slot} (hw : ww_P x s H locs σ) (hl : lv_has ls 10 [(1, .int a1), (5, .long a5)]) (hf : fb_MOD_finish_91 a1 a5 t0 σ = some z) : W p l e (rm_D 0) s m args below meth c H locs 0 0 (qi_Q x s below args z.1 z.2) (F0 m 91 ls [.int t0]) := by
  have F9 := F
  obtain ⟨hx, hb, hml, hr, hlk, hown, hT⟩ := F
  unfold fb_MOD_finish_91 at hf
  refine lv_istore (lv' := [(7, .int t0), (1, .int a1), (5, .long a5)]) hx hb nD_MOD_finish_91 hl (by decide) rfl (fun ls hl => ?_)
  refine lv_iload hx hb nD_MOD_finish_93 (lv_at hl 0 rfl) ?_
  refine lv_i2l (v := t0.toInt64) hx hb nD_MOD_finish_95 rfl ?_
  refine lv_ldc2 (v := 16777216) hx hb hown (hT _ wm_713) nD_MOD_finish_96 ?_
  refine lv_lmul hx hb nD_MOD_finish_99 ?_
  refine lv_lload hx hb nD_MOD_finish_100 (lv_at hl 2 rfl) ?_
  refine lv_ladd hx hb nD_MOD_finish_102 ?_
  refine lv_iload_n hx hb nD_MOD_finish_103 rfl (lv_at hl 1 rfl) ?_
  refine lv_if_eq (tgt := 113) hx hb nD_MOD_finish_104 (by decide) (fun h7 => ?_) (fun h7 => ?_)
  · rw [if_pos h7] at hf
    refine lv_lconst (v := 0) hx hb nD_MOD_finish_113 (by decide) ?_
    exact bk_MOD_finish_114 F9 (0 : Int64) ((t0.toInt64 * (16777216 : Int64)) + a5)  hw (lv_sub hl [] rfl) hf
  · rw [if_neg h7] at hf
    refine lv_ldc2 (v := 2147483648) hx hb hown (hT _ wm_714) nD_MOD_finish_107 ?_
    refine lv_goto (tgt := 114) hx hb nD_MOD_finish_110 (by decide) ?_
    exact bk_MOD_finish_114 F9 (2147483648 : Int64) ((t0.toInt64 * (16777216 : Int64)) + a5)  hw (lv_sub hl [] rfl) hf
set_option maxRecDepth 100000 in
set_option maxHeartbeats 4000000 in
theorem bk_MOD_finish_70 {z : Int32 × sg_T} (F : fx_F p s m args meth c nC_MOD_finish 10 (some .int) nR_MOD) (a1 : Int32) (a5 : Int64) (a7 : Int32) (t0 : Int32) {σ : sg_T} {H : Heap} {locs : List Loc} {ls : Array Slot} (hw : ww_P x s H locs σ) (hl : lv_has ls 10 [(1, .int a1), (5, .long a5), (7, .int a7)]) (hf : fb_MOD_finish_70 a1 a5 a7 t0 σ = some z) : W p l e (rm_D 0) s m args below meth c H locs 0 0 (qi_Q x s below args z.1 z.2) (F0 m 70 ls [.int t0, .ref (x.2.2 82)]) := by
  have F9 := F
  obtain ⟨hx, hb, hml, hr, hlk, hown, hT⟩ := F
  unfold fb_MOD_finish_70 at hf
  refine wr_MOD_MOD_exception F9 hw nD_MOD_finish_70 (fun H locs hw => ?_)
  refine lv_iload hx hb nD_MOD_finish_73 (lv_at hl 2 rfl) ?_
  refine lv_bipush (v := 127) hx hb nD_MOD_finish_75 (by decide) ?_
  refine lv_icmp_le (tgt := 89) hx hb nD_MOD_finish_77 (by decide) (fun h6 => ?_) (fun h6 => ?_)
  · rw [if_pos h6] at hf
    refine lv_iload hx hb nD_MOD_finish_89 (lv_at hl 2 rfl) ?_
    exact bk_MOD_finish_91 F9 a1 a5 a7  hw (lv_sub hl [0, 1] rfl) hf
  · rw [if_neg h6] at hf
    refine lv_iload hx hb nD_MOD_finish_80 (lv_at hl 2 rfl) ?_
    refine lv_sipush (v := 128) hx hb nD_MOD_finish_82 (by decide) ?_
    refine lv_isub hx hb nD_MOD_finish_85 ?_
    refine lv_goto (tgt := 91) hx hb nD_MOD_finish_86 (by decide) ?_
    exact bk_MOD_finish_91 F9 a1 a5 (a7 - (128 : Int32))  hw (lv_sub hl [0, 1] rfl) hf
set_option maxRecDepth 100000 in
set_option maxHeartbeats 4000000 in
theorem bk_MOD_finish_14 {z : Int32 × sg_T} (F : fx_F p s m args meth c nC_MOD_finish 10 (some .int) nR_MOD) : ∀ (n : Nat) (a1 : Int32) (a5 : Int64) (a7 : Int32) (σ : sg_T) (H : Heap) (locs : List Loc) (ls : Array Slot), ww_P x s H locs σ → lv_has ls 10 [(0, .ref (x.2.2 82)), (1, .int a1), (5, .long a5), (7, .int a7)] → fb_MOD_finish_14 n a1 a5 a7 σ = some z → W p l e (rm_D 0) s m args below meth c H locs 0 0 (qi_Q x s below args z.1 z.2) (F0 m 14 ls []) := by
  have F9 := F
  obtain ⟨hx, hb, hml, hr, hlk, hown, hT⟩ := F
  intro n
  induction n with
  | zero =>
    intro a1 a5 a7 σ H locs ls  hw hl hf
    simp [fb_MOD_finish_14] at hf
  | succ n ih =>
    intro a1 a5 a7 σ H locs ls  hw hl hf
    unfold fb_MOD_finish_14 at hf
    refine lv_lload hx hb nD_MOD_finish_14 (lv_at hl 2 rfl) ?_
    refine lv_ldc2 (v := 16777216) hx hb hown (hT _ wm_713) nD_MOD_finish_16 ?_
    refine W.lcmp hx hb nD_MOD_finish_19 ?_
    refine lv_if_ge (tgt := 37) hx hb nD_MOD_finish_20 (by decide) (fun h2 => ?_) (fun h2 => ?_)
    · rw [if_pos h2] at hf
      refine lv_lload hx hb nD_MOD_finish_37 (lv_at hl 2 rfl) ?_
      refine lv_ldc2 (v := 16) hx hb hown (hT _ wm_700) nD_MOD_finish_39 ?_
      obtain ⟨g3, hf⟩ := gt_of hf
      refine lv_ldiv hx hb nD_MOD_finish_42 (of_decide_eq_true g3) ?_
      refine lv_lstore (lv' := [(5, .long (a5 / (16 : Int64))), (0, .ref (x.2.2 82)), (1, .int a1), (7, .int a7)]) hx hb nD_MOD_finish_43 hl (by decide) rfl (fun ls hl => ?_)
      refine lv_iload hx hb nD_MOD_finish_45 (lv_at hl 3 rfl) ?_
      refine lv_if_ge (tgt := 57) hx hb nD_MOD_finish_47 (by decide) (fun h4 => ?_) (fun h4 => ?_)
      · rw [if_pos h4] at hf
        refine lv_aload_n hx hb nD_MOD_finish_57 rfl (lv_at hl 1 rfl) ?_
        refine lv_iload hx hb nD_MOD_finish_58 (lv_at hl 3 rfl) ?_
        refine lv_bipush (v := 127) hx hb nD_MOD_finish_60 (by decide) ?_
        refine lv_icmp_le (tgt := 69) hx hb nD_MOD_finish_62 (by decide) (fun h5 => ?_) (fun h5 => ?_)
        · rw [if_pos h5] at hf
          refine lv_iconst (v := 0) hx hb nD_MOD_finish_69 (by decide) ?_
          exact bk_MOD_finish_70 F9 a1 (a5 / (16 : Int64)) a7 (0 : Int32)  hw (lv_sub hl [2, 0, 3] rfl) hf
        · rw [if_neg h5] at hf
          refine lv_iconst (v := 1) hx hb nD_MOD_finish_65 (by decide) ?_
          refine lv_goto (tgt := 70) hx hb nD_MOD_finish_66 (by decide) ?_
          exact bk_MOD_finish_70 F9 a1 (a5 / (16 : Int64)) a7 (1 : Int32)  hw (lv_sub hl [2, 0, 3] rfl) hf
      · rw [if_neg h4] at hf
        refine lv_aload_n hx hb nD_MOD_finish_50 rfl (lv_at hl 1 rfl) ?_
        refine lv_iconst (v := 2) hx hb nD_MOD_finish_51 (by decide) ?_
        refine wr_MOD_MOD_exception F9 hw nD_MOD_finish_52 (fun H locs hw => ?_)
        refine lv_iconst (v := 0) hx hb nD_MOD_finish_55 (by decide) ?_
        exact rt_i F9 hw rfl nD_MOD_finish_56 hf
    · rw [if_neg h2] at hf
      refine lv_ldc2 (v := 16) hx hb hown (hT _ wm_700) nD_MOD_finish_23 ?_
      refine lv_lload hx hb nD_MOD_finish_26 (lv_at hl 2 rfl) ?_
      refine lv_lmul hx hb nD_MOD_finish_28 ?_
      refine lv_lstore (lv' := [(5, .long ((16 : Int64) * a5)), (0, .ref (x.2.2 82)), (1, .int a1), (7, .int a7)]) hx hb nD_MOD_finish_29 hl (by decide) rfl (fun ls hl => ?_)
      refine lv_iinc (k := 3) (v := a7 + (-1)) (lv' := [(7, .int (a7 + (-1))), (5, .long ((16 : Int64) * a5)), (0, .ref (x.2.2 82)), (1, .int a1)]) hx hb nD_MOD_finish_31 hl rfl (ic_m1 _) (by decide) rfl (fun ls hl => ?_)
      refine lv_goto (tgt := 14) hx hb nD_MOD_finish_34 (by decide) ?_
      exact ih a1 ((16 : Int64) * a5) (a7 + (-1)) _ _ _ _  hw (lv_sub hl [2, 3, 1, 0] rfl) hf
set_option maxRecDepth 100000 in
set_option maxHeartbeats 4000000 in
theorem ct_MOD_finish (l : Launch) (x : cx_T) (a1 : Int32) (a2 : Int32) (a3 : Int64) (σ : sg_T) (z : Int32 × sg_T) (hf : fn_MOD_finish a1 a2 a3 σ = some z) : ct_i l nN_MOD_finish nC_MOD_finish 10 (some .int) 0 x [.ref (x.2.2 82), .int a1, .int a2, .long a3] σ z.1 z.2 := by
  refine en_i (own := nR_MOD) (by decide) (Nat.le_of_ble_eq_true rfl) rfl ?_
  intro p e s m below meth c ls F hw hl
  have F9 := F
  obtain ⟨hx, hb, hml, hr, hlk, hown, hT⟩ := F
  have hl : lv_has ls 10 [(0, .ref (x.2.2 82)), (1, .int a1), (2, .int a2), (3, .long a3)] := hl
  unfold fn_MOD_finish at hf
  refine lv_lload_n hx hb nD_MOD_finish_0 rfl (lv_at hl 3 rfl) ?_
  refine lv_lconst (v := 0) hx hb nD_MOD_finish_1 (by decide) ?_
  refine W.lcmp hx hb nD_MOD_finish_2 ?_
  refine lv_if_ne (tgt := 8) hx hb nD_MOD_finish_3 (by decide) (fun h1 => ?_) (fun h1 => ?_)
  · rw [if_neg h1] at hf
    refine lv_lload_n hx hb nD_MOD_finish_8 rfl (lv_at hl 3 rfl) ?_
    refine lv_lstore (lv' := [(5, .long a3), (0, .ref (x.2.2 82)), (1, .int a1), (2, .int a2), (3, .long a3)]) hx hb nD_MOD_finish_9 hl (by decide) rfl (fun ls hl => ?_)
    refine lv_iload_n hx hb nD_MOD_finish_11 rfl (lv_at hl 3 rfl) ?_
    refine lv_istore (lv' := [(7, .int a2), (5, .long a3), (0, .ref (x.2.2 82)), (1, .int a1), (2, .int a2), (3, .long a3)]) hx hb nD_MOD_finish_12 hl (by decide) rfl (fun ls hl => ?_)
    exact bk_MOD_finish_14 F9 8 a1 a3 a2 _ _ _ _  hw (lv_sub hl [2, 3, 1, 0] rfl) hf
  · rw [if_pos h1] at hf
    refine lv_iconst (v := 0) hx hb nD_MOD_finish_6 (by decide) ?_
    exact rt_i F9 hw rfl nD_MOD_finish_7 hf
set_option maxRecDepth 100000 in
set_option maxHeartbeats 4000000 in
theorem bk_MOD_align_153 {z : Int32 × sg_T} (F : fx_F p s m args meth c nC_MOD_align 11 (some .int) nR_MOD) (a4 : Int32) (t0 : Int64) (t1 : Int64) {σ : sg_T} {H : Heap} {locs : List Loc} {ls : Array Slot} (hw : ww_P x s H locs σ) (hl : lv_has ls 11 [(4, .int a4)]) (hf : fb_MOD_align_153 a4 t0 t1 σ = some z) : W p l e (rm_D 1) s m args below meth c H locs 0 0 (qi_Q x s below args z.1 z.2) (F0 m 153 ls [.long t0, .long t1, .ref (x.2.2 82)]) := by
  have F9 := F
  obtain ⟨hx, hb, hml, hr, hlk, hown, hT⟩ := F
  unfold fb_MOD_align_153 at hf
  refine lv_ladd hx hb nD_MOD_align_153 ?_
  obtain ⟨g16, hf⟩ := gt_of hf
  refine wr_MOD_MOD_signed F9 hw (of_decide_eq_true g16) nD_MOD_align_154 (fun H locs hw => ?_)
  refine lv_iload hx hb nD_MOD_align_157 (lv_at hl 0 rfl) ?_
  obtain ⟨z17, hz17, hf⟩ := bd_of hf
  refine cl_si (As := [.int a4]) (rest := []) F9 hw (ct_MOD_charOf l x a4  _ _ hz17) wc_MOD_91 hd_MOD_charOf (by decide) hl rfl (Nat.le_of_ble_eq_true rfl) nD_MOD_align_159 (fun H locs hw => ?_)
  exact rt_i F9 hw rfl nD_MOD_align_162 hf
set_option maxRecDepth 100000 in
set_option maxHeartbeats 4000000 in
theorem bk_MOD_align_137 {z : Int32 × sg_T} (F : fx_F p s m args meth c nC_MOD_align 11 (some .int) nR_MOD) (a4 : Int32) (a5 : Int32) (a7 : Int64) (t0 : Int64) {σ : sg_T} {H : Heap} {locs : List Loc} {ls : Array Slot} (hw : ww_P x s H locs σ) (hl : lv_has ls 11 [(4, .int a4), (5, .int a5), (7, .long a7)]) (hf : fb_MOD_align_137 a4 a5 a7 t0 σ = some z) : W p l e (rm_D 1) s m args below meth c H locs 0 0 (qi_Q x s below args z.1 z.2) (F0 m 137 ls [.long t0, .ref (x.2.2 82)]) := by
  have F9 := F
  obtain ⟨hx, hb, hml, hr, hlk, hown, hT⟩ := F
  unfold fb_MOD_align_137 at hf
  refine lv_iload hx hb nD_MOD_align_137 (lv_at hl 1 rfl) ?_
  obtain ⟨z14, hz14, hf⟩ := bd_of hf
  refine cl_si (As := [.int a5]) (rest := [.long t0, .ref (x.2.2 82)]) F9 hw (ct_MOD_minus l x a5  _ _ hz14) wc_MOD_99 hd_MOD_minus (by decide) hl rfl (Nat.le_of_ble_eq_true rfl) nD_MOD_align_139 (fun H locs hw => ?_)
  refine lv_if_eq (tgt := 151) hx hb nD_MOD_align_142 (by decide) (fun h15 => ?_) (fun h15 => ?_)
  · rw [if_pos h15] at hf
    refine lv_lload hx hb nD_MOD_align_151 (lv_at hl 2 rfl) ?_
    exact bk_MOD_align_153 F9 a4 a7 t0  hw (lv_sub hl [0] rfl) hf
  · rw [if_neg h15] at hf
    refine lv_lload hx hb nD_MOD_align_145 (lv_at hl 2 rfl) ?_
    refine lv_lneg hx hb nD_MOD_align_147 ?_
    refine lv_goto (tgt := 153) hx hb nD_MOD_align_148 (by decide) ?_
    exact bk_MOD_align_153 F9 a4 (-a7) t0  hw (lv_sub hl [0] rfl) hf
set_option maxRecDepth 100000 in
set_option maxHeartbeats 4000000 in
theorem bk_MOD_align_107 {z : Int32 × sg_T} (F : fx_F p s m args meth c nC_MOD_align 11 (some .int) nR_MOD) (a4 : Int32) (a5 : Int32) (t0 : Int64) {σ : sg_T} {H : Heap} {locs : List Loc} {ls : Array Slot} (hw : ww_P x s H locs σ) (hl : lv_has ls 11 [(0, .ref (x.2.2 82)), (4, .int a4), (5, .int a5)]) (hf : fb_MOD_align_107 a4 a5 t0 σ = some z) : W p l e (rm_D 1) s m args below meth c H locs 0 0 (qi_Q x s below args z.1 z.2) (F0 m 107 ls [.long t0]) := by
  have F9 := F
  obtain ⟨hx, hb, hml, hr, hlk, hown, hT⟩ := F
  unfold fb_MOD_align_107 at hf
  refine lv_lstore (lv' := [(7, .long t0), (0, .ref (x.2.2 82)), (4, .int a4), (5, .int a5)]) hx hb nD_MOD_align_107 hl (by decide) rfl (fun ls hl => ?_)
  refine lv_ldc2 (v := 16) hx hb hown (hT _ wm_700) nD_MOD_align_109 ?_
  refine lv_iload hx hb nD_MOD_align_112 (lv_at hl 2 rfl) ?_
  obtain ⟨z11, hz11, hf⟩ := bd_of hf
  refine cl_sl (As := [.int a4]) (rest := [.long (16 : Int64)]) F9 hw (ct_MOD_partOf l x a4  _ _ hz11) wc_MOD_95 hd_MOD_partOf (by decide) hl rfl (Nat.le_of_ble_eq_true rfl) nD_MOD_align_114 (fun H locs hw => ?_)
  refine lv_lmul hx hb nD_MOD_align_117 ?_
  refine lv_lstore (lv' := [(9, .long ((16 : Int64) * z11.1)), (7, .long t0), (0, .ref (x.2.2 82)), (4, .int a4), (5, .int a5)]) hx hb nD_MOD_align_118 hl (by decide) rfl (fun ls hl => ?_)
  refine lv_aload_n hx hb nD_MOD_align_120 rfl (lv_at hl 2 rfl) ?_
  refine lv_iload hx hb nD_MOD_align_121 (lv_at hl 3 rfl) ?_
  obtain ⟨z12, hz12, hf⟩ := bd_of hf
  refine cl_si (As := [.int a4]) (rest := [.ref (x.2.2 82)]) F9 hw (ct_MOD_minus l x a4  _ _ hz12) wc_MOD_99 hd_MOD_minus (by decide) hl rfl (Nat.le_of_ble_eq_true rfl) nD_MOD_align_123 (fun H locs hw => ?_)
  refine lv_if_eq (tgt := 135) hx hb nD_MOD_align_126 (by decide) (fun h13 => ?_) (fun h13 => ?_)
  · rw [if_pos h13] at hf
    refine lv_lload hx hb nD_MOD_align_135 (lv_at hl 0 rfl) ?_
    exact bk_MOD_align_137 F9 a4 a5 t0 ((16 : Int64) * z11.1)  hw (lv_sub hl [3, 4, 1] rfl) hf
  · rw [if_neg h13] at hf
    refine lv_lload hx hb nD_MOD_align_129 (lv_at hl 0 rfl) ?_
    refine lv_lneg hx hb nD_MOD_align_131 ?_
    refine lv_goto (tgt := 137) hx hb nD_MOD_align_132 (by decide) ?_
    exact bk_MOD_align_137 F9 a4 a5 t0 (-((16 : Int64) * z11.1))  hw (lv_sub hl [3, 4, 1] rfl) hf
set_option maxRecDepth 100000 in
set_option maxHeartbeats 4000000 in
theorem bk_MOD_align_94 {z : Int32 × sg_T} (F : fx_F p s m args meth c nC_MOD_align 11 (some .int) nR_MOD) (a4 : Int32) (a5 : Int32) (a6 : Int32) (a7 : Int64) {σ : sg_T} {H : Heap} {locs : List Loc} {ls : Array Slot} (hw : ww_P x s H locs σ) (hl : lv_has ls 11 [(0, .ref (x.2.2 82)), (4, .int a4), (5, .int a5), (6, .int a6), (7, .long a7)]) (hf : fb_MOD_align_94 a4 a5 a6 a7 σ = some z) : W p l e (rm_D 1) s m args below meth c H locs 0 0 (qi_Q x s below args z.1 z.2) (F0 m 94 ls []) := by
  have F9 := F
  obtain ⟨hx, hb, hml, hr, hlk, hown, hT⟩ := F
  unfold fb_MOD_align_94 at hf
  refine lv_iload hx hb nD_MOD_align_94 (lv_at hl 3 rfl) ?_
  refine lv_bipush (v := 7) hx hb nD_MOD_align_96 (by decide) ?_
  refine lv_icmp_le (tgt := 105) hx hb nD_MOD_align_98 (by decide) (fun h10 => ?_) (fun h10 => ?_)
  · rw [if_pos h10] at hf
    refine lv_lload hx hb nD_MOD_align_105 (lv_at hl 4 rfl) ?_
    exact bk_MOD_align_107 F9 a4 a5 a7  hw (lv_sub hl [0, 1, 2] rfl) hf
  · rw [if_neg h10] at hf
    refine lv_lconst (v := 0) hx hb nD_MOD_align_101 (by decide) ?_
    refine lv_goto (tgt := 107) hx hb nD_MOD_align_102 (by decide) ?_
    exact bk_MOD_align_107 F9 a4 a5 (0 : Int64)  hw (lv_sub hl [0, 1, 2] rfl) hf
set_option maxRecDepth 100000 in
set_option maxHeartbeats 4000000 in
theorem bk_MOD_align_66 {z : Int32 × sg_T} (F : fx_F p s m args meth c nC_MOD_align 11 (some .int) nR_MOD) : ∀ (n : Nat) (a4 : Int32) (a5 : Int32) (a6 : Int32) (a7 : Int64) (a9 : Int32) (σ : sg_T) (H : Heap) (locs : List Loc) (ls : Array Slot), ww_P x s H locs σ → lv_has ls 11 [(0, .ref (x.2.2 82)), (4, .int a4), (5, .int a5), (6, .int a6), (7, .long a7), (9, .int a9)] → fb_MOD_align_66 n a4 a5 a6 a7 a9 σ = some z → W p l e (rm_D 1) s m args below meth c H locs 0 0 (qi_Q x s below args z.1 z.2) (F0 m 66 ls []) := by
  have F9 := F
  obtain ⟨hx, hb, hml, hr, hlk, hown, hT⟩ := F
  intro n
  induction n with
  | zero =>
    intro a4 a5 a6 a7 a9 σ H locs ls  hw hl hf
    simp [fb_MOD_align_66] at hf
  | succ n ih =>
    intro a4 a5 a6 a7 a9 σ H locs ls  hw hl hf
    unfold fb_MOD_align_66 at hf
    refine lv_iload hx hb nD_MOD_align_66 (lv_at hl 5 rfl) ?_
    refine lv_iload hx hb nD_MOD_align_68 (lv_at hl 3 rfl) ?_
    refine lv_icmp_ge (tgt := 94) hx hb nD_MOD_align_70 (by decide) (fun h9 => ?_) (fun h9 => ?_)
    · rw [if_pos h9] at hf
      exact bk_MOD_align_94 F9 a4 a5 a6 a7  hw (lv_sub hl [0, 1, 2, 3, 4] rfl) hf
    · rw [if_neg h9] at hf
      refine lv_iload hx hb nD_MOD_align_73 (lv_at hl 5 rfl) ?_
      refine lv_bipush (v := 8) hx hb nD_MOD_align_75 (by decide) ?_
      refine lv_icmp_ge (tgt := 94) hx hb nD_MOD_align_77 (by decide) (fun h18 => ?_) (fun h18 => ?_)
      · rw [if_pos h18] at hf
        exact bk_MOD_align_94 F9 a4 a5 a6 a7  hw (lv_sub hl [0, 1, 2, 3, 4] rfl) hf
      · rw [if_neg h18] at hf
        refine lv_lload hx hb nD_MOD_align_80 (lv_at hl 4 rfl) ?_
        refine lv_ldc2 (v := 16) hx hb hown (hT _ wm_700) nD_MOD_align_82 ?_
        obtain ⟨g19, hf⟩ := gt_of hf
        refine lv_ldiv hx hb nD_MOD_align_85 (of_decide_eq_true g19) ?_
        refine lv_lstore (lv' := [(7, .long (a7 / (16 : Int64))), (0, .ref (x.2.2 82)), (4, .int a4), (5, .int a5), (6, .int a6), (9, .int a9)]) hx hb nD_MOD_align_86 hl (by decide) rfl (fun ls hl => ?_)
        refine lv_iinc (k := 5) (v := a9 + (1 : Int32)) (lv' := [(9, .int (a9 + (1 : Int32))), (7, .long (a7 / (16 : Int64))), (0, .ref (x.2.2 82)), (4, .int a4), (5, .int a5), (6, .int a6)]) hx hb nD_MOD_align_88 hl rfl (ic_p1 _) (by decide) rfl (fun ls hl => ?_)
        refine lv_goto (tgt := 66) hx hb nD_MOD_align_91 (by decide) ?_
        exact ih a4 a5 a6 (a7 / (16 : Int64)) (a9 + (1 : Int32)) _ _ _ _  hw (lv_sub hl [2, 3, 4, 5, 1, 0] rfl) hf
set_option maxRecDepth 100000 in
set_option maxHeartbeats 4000000 in
theorem bk_MOD_align_37 {z : Int32 × sg_T} (F : fx_F p s m args meth c nC_MOD_align 11 (some .int) nR_MOD) (a4 : Int32) (t0 : Int32) {σ : sg_T} {H : Heap} {locs : List Loc} {ls : Array Slot} (hw : ww_P x s H locs σ) (hl : lv_has ls 11 [(0, .ref (x.2.2 82)), (4, .int a4)]) (hf : fb_MOD_align_37 a4 t0 σ = some z) : W p l e (rm_D 1) s m args below meth c H locs 0 0 (qi_Q x s below args z.1 z.2) (F0 m 37 ls [.int t0]) := by
  have F9 := F
  obtain ⟨hx, hb, hml, hr, hlk, hown, hT⟩ := F
  unfold fb_MOD_align_37 at hf
  refine lv_istore (lv' := [(5, .int t0), (0, .ref (x.2.2 82)), (4, .int a4)]) hx hb nD_MOD_align_37 hl (by decide) rfl (fun ls hl => ?_)
  refine lv_iload hx hb nD_MOD_align_39 (lv_at hl 2 rfl) ?_
  obtain ⟨z6, hz6, hf⟩ := bd_of hf
  refine cl_si (As := [.int a4]) (rest := []) F9 hw (ct_MOD_charOf l x a4  _ _ hz6) wc_MOD_91 hd_MOD_charOf (by decide) hl rfl (Nat.le_of_ble_eq_true rfl) nD_MOD_align_41 (fun H locs hw => ?_)
  refine lv_iload hx hb nD_MOD_align_44 (lv_at hl 0 rfl) ?_
  obtain ⟨z7, hz7, hf⟩ := bd_of hf
  refine cl_si (As := [.int t0]) (rest := [.int z6.1]) F9 hw (ct_MOD_charOf l x t0  _ _ hz7) wc_MOD_91 hd_MOD_charOf (by decide) hl rfl (Nat.le_of_ble_eq_true rfl) nD_MOD_align_46 (fun H locs hw => ?_)
  refine lv_isub hx hb nD_MOD_align_49 ?_
  refine lv_istore (lv' := [(6, .int (z6.1 - z7.1)), (5, .int t0), (0, .ref (x.2.2 82)), (4, .int a4)]) hx hb nD_MOD_align_50 hl (by decide) rfl (fun ls hl => ?_)
  refine lv_ldc2 (v := 16) hx hb hown (hT _ wm_700) nD_MOD_align_52 ?_
  refine lv_iload hx hb nD_MOD_align_55 (lv_at hl 1 rfl) ?_
  obtain ⟨z8, hz8, hf⟩ := bd_of hf
  refine cl_sl (As := [.int t0]) (rest := [.long (16 : Int64)]) F9 hw (ct_MOD_partOf l x t0  _ _ hz8) wc_MOD_95 hd_MOD_partOf (by decide) hl rfl (Nat.le_of_ble_eq_true rfl) nD_MOD_align_57 (fun H locs hw => ?_)
  refine lv_lmul hx hb nD_MOD_align_60 ?_
  refine lv_lstore (lv' := [(7, .long ((16 : Int64) * z8.1)), (6, .int (z6.1 - z7.1)), (5, .int t0), (0, .ref (x.2.2 82)), (4, .int a4)]) hx hb nD_MOD_align_61 hl (by decide) rfl (fun ls hl => ?_)
  refine lv_iconst (v := 0) hx hb nD_MOD_align_63 (by decide) ?_
  refine lv_istore (lv' := [(9, .int (0 : Int32)), (7, .long ((16 : Int64) * z8.1)), (6, .int (z6.1 - z7.1)), (5, .int t0), (0, .ref (x.2.2 82)), (4, .int a4)]) hx hb nD_MOD_align_64 hl (by decide) rfl (fun ls hl => ?_)
  exact bk_MOD_align_66 F9 9 a4 t0 (z6.1 - z7.1) ((16 : Int64) * z8.1) (0 : Int32) _ _ _ _  hw (lv_sub hl [4, 5, 3, 2, 1, 0] rfl) hf
set_option maxRecDepth 100000 in
set_option maxHeartbeats 4000000 in
theorem bk_MOD_align_26 {z : Int32 × sg_T} (F : fx_F p s m args meth c nC_MOD_align 11 (some .int) nR_MOD) (a1 : Int32) (a2 : Int32) (a3 : Int32) (t0 : Int32) {σ : sg_T} {H : Heap} {locs : List Loc} {ls : Array Slot} (hw : ww_P x s H locs σ) (hl : lv_has ls 11 [(0, .ref (x.2.2 82)), (1, .int a1), (2, .int a2), (3, .int a3)]) (hf : fb_MOD_align_26 a1 a2 a3 t0 σ = some z) : W p l e (rm_D 1) s m args below meth c H locs 0 0 (qi_Q x s below args z.1 z.2) (F0 m 26 ls [.int t0]) := by
  have F9 := F
  obtain ⟨hx, hb, hml, hr, hlk, hown, hT⟩ := F
  unfold fb_MOD_align_26 at hf
  refine lv_istore (lv' := [(4, .int t0), (0, .ref (x.2.2 82)), (1, .int a1), (2, .int a2), (3, .int a3)]) hx hb nD_MOD_align_26 hl (by decide) rfl (fun ls hl => ?_)
  refine lv_iload_n hx hb nD_MOD_align_28 rfl (lv_at hl 4 rfl) ?_
  refine lv_if_eq (tgt := 36) hx hb nD_MOD_align_29 (by decide) (fun h5 => ?_) (fun h5 => ?_)
  · rw [if_pos h5] at hf
    refine lv_iload_n hx hb nD_MOD_align_36 rfl (lv_at hl 2 rfl) ?_
    exact bk_MOD_align_37 F9 t0 a1  hw (lv_sub hl [1, 0] rfl) hf
  · rw [if_neg h5] at hf
    refine lv_iload_n hx hb nD_MOD_align_32 rfl (lv_at hl 3 rfl) ?_
    refine lv_goto (tgt := 37) hx hb nD_MOD_align_33 (by decide) ?_
    exact bk_MOD_align_37 F9 t0 a2  hw (lv_sub hl [1, 0] rfl) hf
set_option maxRecDepth 100000 in
set_option maxHeartbeats 4000000 in
theorem bk_MOD_align_16 {z : Int32 × sg_T} (F : fx_F p s m args meth c nC_MOD_align 11 (some .int) nR_MOD) (a1 : Int32) (a2 : Int32) (t0 : Int32) {σ : sg_T} {H : Heap} {locs : List Loc} {ls : Array Slot} (hw : ww_P x s H locs σ) (hl : lv_has ls 11 [(0, .ref (x.2.2 82)), (1, .int a1), (2, .int a2)]) (hf : fb_MOD_align_16 a1 a2 t0 σ = some z) : W p l e (rm_D 1) s m args below meth c H locs 0 0 (qi_Q x s below args z.1 z.2) (F0 m 16 ls [.int t0]) := by
  have F9 := F
  obtain ⟨hx, hb, hml, hr, hlk, hown, hT⟩ := F
  unfold fb_MOD_align_16 at hf
  refine lv_istore_n (lv' := [(3, .int t0), (0, .ref (x.2.2 82)), (1, .int a1), (2, .int a2)]) hx hb nD_MOD_align_16 rfl hl (by decide) rfl (fun ls hl => ?_)
  refine lv_iload_n hx hb nD_MOD_align_17 rfl (lv_at hl 0 rfl) ?_
  refine lv_if_eq (tgt := 25) hx hb nD_MOD_align_18 (by decide) (fun h4 => ?_) (fun h4 => ?_)
  · rw [if_pos h4] at hf
    refine lv_iload_n hx hb nD_MOD_align_25 rfl (lv_at hl 3 rfl) ?_
    exact bk_MOD_align_26 F9 a1 a2 t0 a2  hw (lv_sub hl [1, 2, 3, 0] rfl) hf
  · rw [if_neg h4] at hf
    refine lv_iload_n hx hb nD_MOD_align_21 rfl (lv_at hl 2 rfl) ?_
    refine lv_goto (tgt := 26) hx hb nD_MOD_align_22 (by decide) ?_
    exact bk_MOD_align_26 F9 a1 a2 t0 a1  hw (lv_sub hl [1, 2, 3, 0] rfl) hf
set_option maxRecDepth 100000 in
set_option maxHeartbeats 4000000 in
theorem ct_MOD_align (l : Launch) (x : cx_T) (a1 : Int32) (a2 : Int32) (σ : sg_T) (z : Int32 × sg_T) (hf : fn_MOD_align a1 a2 σ = some z) : ct_i l nN_MOD_align nC_MOD_align 11 (some .int) 1 x [.ref (x.2.2 82), .int a1, .int a2] σ z.1 z.2 := by
  refine en_i (own := nR_MOD) (by decide) (Nat.le_of_ble_eq_true rfl) rfl ?_
  intro p e s m below meth c ls F hw hl
  have F9 := F
  obtain ⟨hx, hb, hml, hr, hlk, hown, hT⟩ := F
  have hl : lv_has ls 11 [(0, .ref (x.2.2 82)), (1, .int a1), (2, .int a2)] := hl
  unfold fn_MOD_align at hf
  refine lv_iload_n hx hb nD_MOD_align_0 rfl (lv_at hl 1 rfl) ?_
  obtain ⟨z1, hz1, hf⟩ := bd_of hf
  refine cl_si (As := [.int a1]) (rest := []) F9 hw (ct_MOD_charOf l x a1  _ _ hz1) wc_MOD_91 hd_MOD_charOf (by decide) hl rfl (Nat.le_of_ble_eq_true rfl) nD_MOD_align_1 (fun H locs hw => ?_)
  refine lv_iload_n hx hb nD_MOD_align_4 rfl (lv_at hl 2 rfl) ?_
  obtain ⟨z2, hz2, hf⟩ := bd_of hf
  refine cl_si (As := [.int a2]) (rest := [.int z1.1]) F9 hw (ct_MOD_charOf l x a2  _ _ hz2) wc_MOD_91 hd_MOD_charOf (by decide) hl rfl (Nat.le_of_ble_eq_true rfl) nD_MOD_align_5 (fun H locs hw => ?_)
  refine lv_icmp_lt (tgt := 15) hx hb nD_MOD_align_8 (by decide) (fun h3 => ?_) (fun h3 => ?_)
  · rw [if_pos h3] at hf
    refine lv_iconst (v := 0) hx hb nD_MOD_align_15 (by decide) ?_
    exact bk_MOD_align_16 F9 a1 a2 (0 : Int32)  hw (lv_sub hl [0, 1, 2] rfl) hf
  · rw [if_neg h3] at hf
    refine lv_iconst (v := 1) hx hb nD_MOD_align_11 (by decide) ?_
    refine lv_goto (tgt := 16) hx hb nD_MOD_align_12 (by decide) ?_
    exact bk_MOD_align_16 F9 a1 a2 (1 : Int32)  hw (lv_sub hl [0, 1, 2] rfl) hf
set_option maxRecDepth 100000 in
set_option maxHeartbeats 4000000 in
theorem bk_MOD_sum_89 {z : Int32 × sg_T} (F : fx_F p s m args meth c nC_MOD_sum 7 (some .int) nR_MOD) (t0 : Int64) (t1 : Int32) (t2 : Int32) {σ : sg_T} {H : Heap} {locs : List Loc} {ls : Array Slot} (hw : ww_P x s H locs σ) (hl : lv_has ls 7 []) (hf : fb_MOD_sum_89 t0 t1 t2 σ = some z) : W p l e (rm_D 2) s m args below meth c H locs 0 0 (qi_Q x s below args z.1 z.2) (F0 m 89 ls [.long t0, .int t1, .int t2, .ref (x.2.2 82)]) := by
  have F9 := F
  obtain ⟨hx, hb, hml, hr, hlk, hown, hT⟩ := F
  unfold fb_MOD_sum_89 at hf
  obtain ⟨z7, hz7, hf⟩ := bd_of hf
  refine cl_vi (As := [.int t2, .int t1, .long t0]) (rest := []) F9 hw (ct_MOD_finish l x t2 t1 t0  _ _ hz7) (rc_MOD ) wc_MOD_113 hd_MOD_finish (by decide) hl rfl (Nat.le_of_ble_eq_true rfl) nD_MOD_sum_89 (fun H locs hw => ?_)
  exact rt_i F9 hw rfl nD_MOD_sum_92 hf
set_option maxRecDepth 100000 in
set_option maxHeartbeats 4000000 in
theorem bk_MOD_sum_73 {z : Int32 × sg_T} (F : fx_F p s m args meth c nC_MOD_sum 7 (some .int) nR_MOD) (a4 : Int64) (a6 : Int32) (t0 : Int32) (t1 : Int32) {σ : sg_T} {H : Heap} {locs : List Loc} {ls : Array Slot} (hw : ww_P x s H locs σ) (hl : lv_has ls 7 [(4, .long a4), (6, .int a6)]) (hf : fb_MOD_sum_73 a4 a6 t0 t1 σ = some z) : W p l e (rm_D 2) s m args below meth c H locs 0 0 (qi_Q x s below args z.1 z.2) (F0 m 73 ls [.int t0, .int t1, .ref (x.2.2 82)]) := by
  have F9 := F
  obtain ⟨hx, hb, hml, hr, hlk, hown, hT⟩ := F
  unfold fb_MOD_sum_73 at hf
  refine lv_iload hx hb nD_MOD_sum_73 (lv_at hl 1 rfl) ?_
  refine lv_if_eq (tgt := 87) hx hb nD_MOD_sum_75 (by decide) (fun h6 => ?_) (fun h6 => ?_)
  · rw [if_pos h6] at hf
    refine lv_lload hx hb nD_MOD_sum_87 (lv_at hl 0 rfl) ?_
    exact bk_MOD_sum_89 F9 a4 t0 t1  hw (lv_sub hl [] rfl) hf
  · rw [if_neg h6] at hf
    refine lv_lload hx hb nD_MOD_sum_78 (lv_at hl 0 rfl) ?_
    refine lv_ldc2 (v := 16) hx hb hown (hT _ wm_700) nD_MOD_sum_80 ?_
    obtain ⟨g8, hf⟩ := gt_of hf
    refine lv_ldiv hx hb nD_MOD_sum_83 (of_decide_eq_true g8) ?_
    refine lv_goto (tgt := 89) hx hb nD_MOD_sum_84 (by decide) ?_
    exact bk_MOD_sum_89 F9 (a4 / (16 : Int64)) t0 t1  hw (lv_sub hl [] rfl) hf
set_option maxRecDepth 100000 in
set_option maxHeartbeats 4000000 in
theorem bk_MOD_sum_61 {z : Int32 × sg_T} (F : fx_F p s m args meth c nC_MOD_sum 7 (some .int) nR_MOD) (a3 : Int32) (a4 : Int64) (a6 : Int32) (t0 : Int32) {σ : sg_T} {H : Heap} {locs : List Loc} {ls : Array Slot} (hw : ww_P x s H locs σ) (hl : lv_has ls 7 [(3, .int a3), (4, .long a4), (6, .int a6)]) (hf : fb_MOD_sum_61 a3 a4 a6 t0 σ = some z) : W p l e (rm_D 2) s m args below meth c H locs 0 0 (qi_Q x s below args z.1 z.2) (F0 m 61 ls [.int t0, .ref (x.2.2 82)]) := by
  have F9 := F
  obtain ⟨hx, hb, hml, hr, hlk, hown, hT⟩ := F
  unfold fb_MOD_sum_61 at hf
  refine lv_iload hx hb nD_MOD_sum_61 (lv_at hl 2 rfl) ?_
  refine lv_if_eq (tgt := 72) hx hb nD_MOD_sum_63 (by decide) (fun h5 => ?_) (fun h5 => ?_)
  · rw [if_pos h5] at hf
    refine lv_iload_n hx hb nD_MOD_sum_72 rfl (lv_at hl 0 rfl) ?_
    exact bk_MOD_sum_73 F9 a4 a6 a3 t0  hw (lv_sub hl [1, 2] rfl) hf
  · rw [if_neg h5] at hf
    refine lv_iload_n hx hb nD_MOD_sum_66 rfl (lv_at hl 0 rfl) ?_
    refine lv_iconst (v := 1) hx hb nD_MOD_sum_67 (by decide) ?_
    refine lv_iadd hx hb nD_MOD_sum_68 ?_
    refine lv_goto (tgt := 73) hx hb nD_MOD_sum_69 (by decide) ?_
    exact bk_MOD_sum_73 F9 a4 a6 (a3 + (1 : Int32)) t0  hw (lv_sub hl [1, 2] rfl) hf
set_option maxRecDepth 100000 in
set_option maxHeartbeats 4000000 in
theorem bk_MOD_sum_44 {z : Int32 × sg_T} (F : fx_F p s m args meth c nC_MOD_sum 7 (some .int) nR_MOD) (a3 : Int32) (a4 : Int64) (t0 : Int32) {σ : sg_T} {H : Heap} {locs : List Loc} {ls : Array Slot} (hw : ww_P x s H locs σ) (hl : lv_has ls 7 [(0, .ref (x.2.2 82)), (3, .int a3), (4, .long a4)]) (hf : fb_MOD_sum_44 a3 a4 t0 σ = some z) : W p l e (rm_D 2) s m args below meth c H locs 0 0 (qi_Q x s below args z.1 z.2) (F0 m 44 ls [.int t0]) := by
  have F9 := F
  obtain ⟨hx, hb, hml, hr, hlk, hown, hT⟩ := F
  unfold fb_MOD_sum_44 at hf
  refine lv_istore (lv' := [(6, .int t0), (0, .ref (x.2.2 82)), (3, .int a3), (4, .long a4)]) hx hb nD_MOD_sum_44 hl (by decide) rfl (fun ls hl => ?_)
  refine lv_aload_n hx hb nD_MOD_sum_46 rfl (lv_at hl 1 rfl) ?_
  refine lv_aload_n hx hb nD_MOD_sum_47 rfl (lv_at hl 1 rfl) ?_
  refine rd_MOD_MOD_signed F9 hw nD_MOD_sum_48 ?_
  refine lv_lconst (v := 0) hx hb nD_MOD_sum_51 (by decide) ?_
  refine W.lcmp hx hb nD_MOD_sum_52 ?_
  refine lv_if_ge (tgt := 60) hx hb nD_MOD_sum_53 (by decide) (fun h4 => ?_) (fun h4 => ?_)
  · rw [if_pos h4] at hf
    refine lv_iconst (v := 0) hx hb nD_MOD_sum_60 (by decide) ?_
    exact bk_MOD_sum_61 F9 a3 a4 t0 (0 : Int32)  hw (lv_sub hl [2, 3, 0] rfl) hf
  · rw [if_neg h4] at hf
    refine lv_iconst (v := 1) hx hb nD_MOD_sum_56 (by decide) ?_
    refine lv_goto (tgt := 61) hx hb nD_MOD_sum_57 (by decide) ?_
    exact bk_MOD_sum_61 F9 a3 a4 t0 (1 : Int32)  hw (lv_sub hl [2, 3, 0] rfl) hf
set_option maxRecDepth 100000 in
set_option maxHeartbeats 4000000 in
theorem bk_MOD_sum_28 {z : Int32 × sg_T} (F : fx_F p s m args meth c nC_MOD_sum 7 (some .int) nR_MOD) (a3 : Int32) (t0 : Int64) {σ : sg_T} {H : Heap} {locs : List Loc} {ls : Array Slot} (hw : ww_P x s H locs σ) (hl : lv_has ls 7 [(0, .ref (x.2.2 82)), (3, .int a3)]) (hf : fb_MOD_sum_28 a3 t0 σ = some z) : W p l e (rm_D 2) s m args below meth c H locs 0 0 (qi_Q x s below args z.1 z.2) (F0 m 28 ls [.long t0]) := by
  have F9 := F
  obtain ⟨hx, hb, hml, hr, hlk, hown, hT⟩ := F
  unfold fb_MOD_sum_28 at hf
  refine lv_lstore (lv' := [(4, .long t0), (0, .ref (x.2.2 82)), (3, .int a3)]) hx hb nD_MOD_sum_28 hl (by decide) rfl (fun ls hl => ?_)
  refine lv_lload hx hb nD_MOD_sum_30 (lv_at hl 0 rfl) ?_
  refine lv_ldc2 (v := 268435456) hx hb hown (hT _ wm_708) nD_MOD_sum_32 ?_
  refine W.lcmp hx hb nD_MOD_sum_35 ?_
  refine lv_if_lt (tgt := 43) hx hb nD_MOD_sum_36 (by decide) (fun h3 => ?_) (fun h3 => ?_)
  · rw [if_pos h3] at hf
    refine lv_iconst (v := 0) hx hb nD_MOD_sum_43 (by decide) ?_
    exact bk_MOD_sum_44 F9 a3 t0 (0 : Int32)  hw (lv_sub hl [1, 2, 0] rfl) hf
  · rw [if_neg h3] at hf
    refine lv_iconst (v := 1) hx hb nD_MOD_sum_39 (by decide) ?_
    refine lv_goto (tgt := 44) hx hb nD_MOD_sum_40 (by decide) ?_
    exact bk_MOD_sum_44 F9 a3 t0 (1 : Int32)  hw (lv_sub hl [1, 2, 0] rfl) hf
set_option maxRecDepth 100000 in
set_option maxHeartbeats 4000000 in
theorem ct_MOD_sum (l : Launch) (x : cx_T) (a1 : Int32) (a2 : Int32) (σ : sg_T) (z : Int32 × sg_T) (hf : fn_MOD_sum a1 a2 σ = some z) : ct_i l nN_MOD_sum nC_MOD_sum 7 (some .int) 2 x [.ref (x.2.2 82), .int a1, .int a2] σ z.1 z.2 := by
  refine en_i (own := nR_MOD) (by decide) (Nat.le_of_ble_eq_true rfl) rfl ?_
  intro p e s m below meth c ls F hw hl
  have F9 := F
  obtain ⟨hx, hb, hml, hr, hlk, hown, hT⟩ := F
  have hl : lv_has ls 7 [(0, .ref (x.2.2 82)), (1, .int a1), (2, .int a2)] := hl
  unfold fn_MOD_sum at hf
  refine lv_aload_n hx hb nD_MOD_sum_0 rfl (lv_at hl 0 rfl) ?_
  refine lv_iload_n hx hb nD_MOD_sum_1 rfl (lv_at hl 1 rfl) ?_
  refine lv_iload_n hx hb nD_MOD_sum_2 rfl (lv_at hl 2 rfl) ?_
  obtain ⟨z1, hz1, hf⟩ := bd_of hf
  refine cl_vi (As := [.int a1, .int a2]) (rest := []) F9 hw (ct_MOD_align l x a1 a2  _ _ hz1) (rc_MOD ) wc_MOD_107 hd_MOD_align (by decide) hl rfl (Nat.le_of_ble_eq_true rfl) nD_MOD_sum_3 (fun H locs hw => ?_)
  refine lv_istore_n (lv' := [(3, .int z1.1), (0, .ref (x.2.2 82)), (1, .int a1), (2, .int a2)]) hx hb nD_MOD_sum_6 rfl hl (by decide) rfl (fun ls hl => ?_)
  refine lv_aload_n hx hb nD_MOD_sum_7 rfl (lv_at hl 1 rfl) ?_
  refine rd_MOD_MOD_signed F9 hw nD_MOD_sum_8 ?_
  refine lv_lconst (v := 0) hx hb nD_MOD_sum_11 (by decide) ?_
  refine W.lcmp hx hb nD_MOD_sum_12 ?_
  refine lv_if_ge (tgt := 24) hx hb nD_MOD_sum_13 (by decide) (fun h2 => ?_) (fun h2 => ?_)
  · rw [if_pos h2] at hf
    refine lv_aload_n hx hb nD_MOD_sum_24 rfl (lv_at hl 1 rfl) ?_
    refine rd_MOD_MOD_signed F9 hw nD_MOD_sum_25 ?_
    exact bk_MOD_sum_28 F9 z1.1 ((z1.2 50 0).toInt64)  hw (lv_sub hl [1, 0] rfl) hf
  · rw [if_neg h2] at hf
    refine lv_aload_n hx hb nD_MOD_sum_16 rfl (lv_at hl 1 rfl) ?_
    refine rd_MOD_MOD_signed F9 hw nD_MOD_sum_17 ?_
    refine lv_lneg hx hb nD_MOD_sum_20 ?_
    refine lv_goto (tgt := 28) hx hb nD_MOD_sum_21 (by decide) ?_
    exact bk_MOD_sum_28 F9 z1.1 (-((z1.2 50 0).toInt64))  hw (lv_sub hl [1, 0] rfl) hf
set_option maxRecDepth 100000 in
set_option maxHeartbeats 4000000 in
theorem ct_MOD_other (l : Launch) (x : cx_T) (a0 : Int32) (σ : sg_T) (z : Int32 × sg_T) (hf : fn_MOD_other a0 σ = some z) : ct_i l nN_MOD_other nC_MOD_other 1 (some .int) 0 x [.int a0] σ z.1 z.2 := by
  refine en_i (own := nR_MOD) (by decide) (Nat.le_of_ble_eq_true rfl) rfl ?_
  intro p e s m below meth c ls F hw hl
  have F9 := F
  obtain ⟨hx, hb, hml, hr, hlk, hown, hT⟩ := F
  have hl : lv_has ls 1 [(0, .int a0)] := hl
  unfold fn_MOD_other at hf
  refine lv_iload_n hx hb nD_MOD_other_0 rfl (lv_at hl 0 rfl) ?_
  refine lv_ldc (v := -2147483648) hx hb hown (hT _ wm_718) nD_MOD_other_1 ?_
  refine lv_ixor hx hb nD_MOD_other_3 ?_
  exact rt_i F9 hw rfl nD_MOD_other_4 hf
set_option maxRecDepth 100000 in
set_option maxHeartbeats 4000000 in
theorem ct_MOD_compared (l : Launch) (x : cx_T) (a1 : Int32) (a2 : Int32) (σ : sg_T) (z : Int32 × sg_T) (hf : fn_MOD_compared a1 a2 σ = some z) : ct_i l nN_MOD_compared nC_MOD_compared 3 (some .int) 2 x [.ref (x.2.2 82), .int a1, .int a2] σ z.1 z.2 := by
  refine en_i (own := nR_MOD) (by decide) (Nat.le_of_ble_eq_true rfl) rfl ?_
  intro p e s m below meth c ls F hw hl
  have F9 := F
  obtain ⟨hx, hb, hml, hr, hlk, hown, hT⟩ := F
  have hl : lv_has ls 3 [(0, .ref (x.2.2 82)), (1, .int a1), (2, .int a2)] := hl
  unfold fn_MOD_compared at hf
  refine lv_aload_n hx hb nD_MOD_compared_0 rfl (lv_at hl 0 rfl) ?_
  refine lv_iload_n hx hb nD_MOD_compared_1 rfl (lv_at hl 1 rfl) ?_
  refine lv_iload_n hx hb nD_MOD_compared_2 rfl (lv_at hl 2 rfl) ?_
  obtain ⟨z1, hz1, hf⟩ := bd_of hf
  refine cl_si (As := [.int a2]) (rest := [.int a1, .ref (x.2.2 82)]) F9 hw (ct_MOD_other l x a2  _ _ hz1) wc_MOD_118 hd_MOD_other (by decide) hl rfl (Nat.le_of_ble_eq_true rfl) nD_MOD_compared_3 (fun H locs hw => ?_)
  obtain ⟨z2, hz2, hf⟩ := bd_of hf
  refine cl_vi (As := [.int a1, .int z1.1]) (rest := []) F9 hw (ct_MOD_align l x a1 z1.1  _ _ hz2) (rc_MOD ) wc_MOD_107 hd_MOD_align (by decide) hl rfl (Nat.le_of_ble_eq_true rfl) nD_MOD_compared_6 (fun H locs hw => ?_)
  refine lv_pop hx hb nD_MOD_compared_9 rfl ?_
  refine lv_aload_n hx hb nD_MOD_compared_10 rfl (lv_at hl 0 rfl) ?_
  refine rd_MOD_MOD_signed F9 hw nD_MOD_compared_11 ?_
  refine lv_lconst (v := 0) hx hb nD_MOD_compared_14 (by decide) ?_
  refine W.lcmp hx hb nD_MOD_compared_15 ?_
  refine lv_if_ne (tgt := 23) hx hb nD_MOD_compared_16 (by decide) (fun h3 => ?_) (fun h3 => ?_)
  · rw [if_neg h3] at hf
    refine lv_aload_n hx hb nD_MOD_compared_23 rfl (lv_at hl 0 rfl) ?_
    refine rd_MOD_MOD_signed F9 hw nD_MOD_compared_24 ?_
    refine lv_lconst (v := 0) hx hb nD_MOD_compared_27 (by decide) ?_
    refine W.lcmp hx hb nD_MOD_compared_28 ?_
    refine lv_if_ge (tgt := 36) hx hb nD_MOD_compared_29 (by decide) (fun h4 => ?_) (fun h4 => ?_)
    · rw [if_pos h4] at hf
      refine lv_iconst (v := 2) hx hb nD_MOD_compared_36 (by decide) ?_
      exact rt_i F9 hw rfl nD_MOD_compared_37 hf
    · rw [if_neg h4] at hf
      refine lv_iconst (v := 1) hx hb nD_MOD_compared_32 (by decide) ?_
      refine lv_goto (tgt := 37) hx hb nD_MOD_compared_33 (by decide) ?_
      exact rt_i F9 hw rfl nD_MOD_compared_37 hf
  · rw [if_pos h3] at hf
    refine lv_iconst (v := 0) hx hb nD_MOD_compared_19 (by decide) ?_
    refine lv_goto (tgt := 37) hx hb nD_MOD_compared_20 (by decide) ?_
    exact rt_i F9 hw rfl nD_MOD_compared_37 hf
set_option maxRecDepth 100000 in
set_option maxHeartbeats 4000000 in
theorem bk_MOD_short0_7 {z : Int32 × sg_T} (F : fx_F p s m args meth c nC_MOD_short0 4 (some .int) nR_MOD) : ∀ (n : Nat) (a1 : Int64) (a3 : Int32) (σ : sg_T) (H : Heap) (locs : List Loc) (ls : Array Slot), ww_P x s H locs σ → lv_has ls 4 [(1, .long a1), (3, .int a3)] → fb_MOD_short0_7 n a1 a3 σ = some z → W p l e (rm_D 1) s m args below meth c H locs 0 0 (qi_Q x s below args z.1 z.2) (F0 m 7 ls []) := by
  have F9 := F
  obtain ⟨hx, hb, hml, hr, hlk, hown, hT⟩ := F
  intro n
  induction n with
  | zero =>
    intro a1 a3 σ H locs ls  hw hl hf
    simp [fb_MOD_short0_7] at hf
  | succ n ih =>
    intro a1 a3 σ H locs ls  hw hl hf
    unfold fb_MOD_short0_7 at hf
    refine lv_lload_n hx hb nD_MOD_short0_7 rfl (lv_at hl 0 rfl) ?_
    refine lv_ldc2 (v := 1048576) hx hb hown (hT _ wm_726) nD_MOD_short0_8 ?_
    refine W.lcmp hx hb nD_MOD_short0_11 ?_
    refine lv_if_ge (tgt := 27) hx hb nD_MOD_short0_12 (by decide) (fun h2 => ?_) (fun h2 => ?_)
    · rw [if_pos h2] at hf
      refine lv_iload_n hx hb nD_MOD_short0_27 rfl (lv_at hl 1 rfl) ?_
      exact rt_i F9 hw rfl nD_MOD_short0_28 hf
    · rw [if_neg h2] at hf
      refine lv_ldc2 (v := 16) hx hb hown (hT _ wm_700) nD_MOD_short0_15 ?_
      refine lv_lload_n hx hb nD_MOD_short0_18 rfl (lv_at hl 0 rfl) ?_
      refine lv_lmul hx hb nD_MOD_short0_19 ?_
      refine lv_lstore_n (lv' := [(1, .long ((16 : Int64) * a1)), (3, .int a3)]) hx hb nD_MOD_short0_20 rfl hl (by decide) rfl (fun ls hl => ?_)
      refine lv_iinc (k := 1) (v := a3 + (1 : Int32)) (lv' := [(3, .int (a3 + (1 : Int32))), (1, .long ((16 : Int64) * a1))]) hx hb nD_MOD_short0_21 hl rfl (ic_p1 _) (by decide) rfl (fun ls hl => ?_)
      refine lv_goto (tgt := 7) hx hb nD_MOD_short0_24 (by decide) ?_
      exact ih ((16 : Int64) * a1) (a3 + (1 : Int32)) _ _ _ _  hw (lv_sub hl [1, 0] rfl) hf
set_option maxRecDepth 100000 in
set_option maxHeartbeats 4000000 in
theorem ct_MOD_short0 (l : Launch) (x : cx_T) (a0 : Int32) (σ : sg_T) (z : Int32 × sg_T) (hf : fn_MOD_short0 a0 σ = some z) : ct_i l nN_MOD_short0 nC_MOD_short0 4 (some .int) 1 x [.int a0] σ z.1 z.2 := by
  refine en_i (own := nR_MOD) (by decide) (Nat.le_of_ble_eq_true rfl) rfl ?_
  intro p e s m below meth c ls F hw hl
  have F9 := F
  obtain ⟨hx, hb, hml, hr, hlk, hown, hT⟩ := F
  have hl : lv_has ls 4 [(0, .int a0)] := hl
  unfold fn_MOD_short0 at hf
  refine lv_iload_n hx hb nD_MOD_short0_0 rfl (lv_at hl 0 rfl) ?_
  obtain ⟨z1, hz1, hf⟩ := bd_of hf
  refine cl_sl (As := [.int a0]) (rest := []) F9 hw (ct_MOD_partOf l x a0  _ _ hz1) wc_MOD_95 hd_MOD_partOf (by decide) hl rfl (Nat.le_of_ble_eq_true rfl) nD_MOD_short0_1 (fun H locs hw => ?_)
  refine lv_lstore_n (lv' := [(1, .long z1.1), (0, .int a0)]) hx hb nD_MOD_short0_4 rfl hl (by decide) rfl (fun ls hl => ?_)
  refine lv_iconst (v := 0) hx hb nD_MOD_short0_5 (by decide) ?_
  refine lv_istore_n (lv' := [(3, .int (0 : Int32)), (1, .long z1.1), (0, .int a0)]) hx hb nD_MOD_short0_6 rfl hl (by decide) rfl (fun ls hl => ?_)
  exact bk_MOD_short0_7 F9 7 z1.1 (0 : Int32) _ _ _ _  hw (lv_sub hl [1, 0] rfl) hf
set_option maxRecDepth 100000 in
set_option maxHeartbeats 4000000 in
theorem bk_MOD_normal_13 {z : Int64 × sg_T} (F : fx_F p s m args meth c nC_MOD_normal 5 (some .long) nR_MOD) : ∀ (n : Nat) (a1 : Int64) (a3 : Int32) (a4 : Int32) (σ : sg_T) (H : Heap) (locs : List Loc) (ls : Array Slot), ww_P x s H locs σ → lv_has ls 5 [(1, .long a1), (3, .int a3), (4, .int a4)] → fb_MOD_normal_13 n a1 a3 a4 σ = some z → W p l e (rm_D 2) s m args below meth c H locs 0 0 (ql_Q x s below args z.1 z.2) (F0 m 13 ls []) := by
  have F9 := F
  obtain ⟨hx, hb, hml, hr, hlk, hown, hT⟩ := F
  intro n
  induction n with
  | zero =>
    intro a1 a3 a4 σ H locs ls  hw hl hf
    simp [fb_MOD_normal_13] at hf
  | succ n ih =>
    intro a1 a3 a4 σ H locs ls  hw hl hf
    unfold fb_MOD_normal_13 at hf
    refine lv_iload hx hb nD_MOD_normal_13 (lv_at hl 2 rfl) ?_
    refine lv_iload_n hx hb nD_MOD_normal_15 rfl (lv_at hl 1 rfl) ?_
    refine lv_icmp_ge (tgt := 31) hx hb nD_MOD_normal_16 (by decide) (fun h3 => ?_) (fun h3 => ?_)
    · rw [if_pos h3] at hf
      refine lv_lload_n hx hb nD_MOD_normal_31 rfl (lv_at hl 0 rfl) ?_
      exact rt_l F9 hw nD_MOD_normal_32 hf
    · rw [if_neg h3] at hf
      refine lv_ldc2 (v := 16) hx hb hown (hT _ wm_700) nD_MOD_normal_19 ?_
      refine lv_lload_n hx hb nD_MOD_normal_22 rfl (lv_at hl 0 rfl) ?_
      refine lv_lmul hx hb nD_MOD_normal_23 ?_
      refine lv_lstore_n (lv' := [(1, .long ((16 : Int64) * a1)), (3, .int a3), (4, .int a4)]) hx hb nD_MOD_normal_24 rfl hl (by decide) rfl (fun ls hl => ?_)
      refine lv_iinc (k := 2) (v := a4 + (1 : Int32)) (lv' := [(4, .int (a4 + (1 : Int32))), (1, .long ((16 : Int64) * a1)), (3, .int a3)]) hx hb nD_MOD_normal_25 hl rfl (ic_p1 _) (by decide) rfl (fun ls hl => ?_)
      refine lv_goto (tgt := 13) hx hb nD_MOD_normal_28 (by decide) ?_
      exact ih ((16 : Int64) * a1) a3 (a4 + (1 : Int32)) _ _ _ _  hw (lv_sub hl [1, 2, 0] rfl) hf
set_option maxRecDepth 100000 in
set_option maxHeartbeats 4000000 in
theorem ct_MOD_normal (l : Launch) (x : cx_T) (a0 : Int32) (σ : sg_T) (z : Int64 × sg_T) (hf : fn_MOD_normal a0 σ = some z) : ct_l l nN_MOD_normal nC_MOD_normal 5 2 x [.int a0] σ z.1 z.2 := by
  refine en_l (own := nR_MOD) (by decide) (Nat.le_of_ble_eq_true rfl) rfl ?_
  intro p e s m below meth c ls F hw hl
  have F9 := F
  obtain ⟨hx, hb, hml, hr, hlk, hown, hT⟩ := F
  have hl : lv_has ls 5 [(0, .int a0)] := hl
  unfold fn_MOD_normal at hf
  refine lv_iload_n hx hb nD_MOD_normal_0 rfl (lv_at hl 0 rfl) ?_
  obtain ⟨z1, hz1, hf⟩ := bd_of hf
  refine cl_sl (As := [.int a0]) (rest := []) F9 hw (ct_MOD_partOf l x a0  _ _ hz1) wc_MOD_95 hd_MOD_partOf (by decide) hl rfl (Nat.le_of_ble_eq_true rfl) nD_MOD_normal_1 (fun H locs hw => ?_)
  refine lv_lstore_n (lv' := [(1, .long z1.1), (0, .int a0)]) hx hb nD_MOD_normal_4 rfl hl (by decide) rfl (fun ls hl => ?_)
  refine lv_iload_n hx hb nD_MOD_normal_5 rfl (lv_at hl 1 rfl) ?_
  obtain ⟨z2, hz2, hf⟩ := bd_of hf
  refine cl_si (As := [.int a0]) (rest := []) F9 hw (ct_MOD_short0 l x a0  _ _ hz2) wc_MOD_123 hd_MOD_short0 (by decide) hl rfl (Nat.le_of_ble_eq_true rfl) nD_MOD_normal_6 (fun H locs hw => ?_)
  refine lv_istore_n (lv' := [(3, .int z2.1), (1, .long z1.1), (0, .int a0)]) hx hb nD_MOD_normal_9 rfl hl (by decide) rfl (fun ls hl => ?_)
  refine lv_iconst (v := 0) hx hb nD_MOD_normal_10 (by decide) ?_
  refine lv_istore (lv' := [(4, .int (0 : Int32)), (3, .int z2.1), (1, .long z1.1), (0, .int a0)]) hx hb nD_MOD_normal_11 hl (by decide) rfl (fun ls hl => ?_)
  exact bk_MOD_normal_13 F9 8 z1.1 z2.1 (0 : Int32) _ _ _ _  hw (lv_sub hl [2, 1, 0] rfl) hf
set_option maxRecDepth 100000 in
set_option maxHeartbeats 4000000 in
theorem bk_MOD_product_75 {z : Int32 × sg_T} (F : fx_F p s m args meth c nC_MOD_product 6 (some .int) nR_MOD) (a3 : Int32) (a4 : Int64) (t0 : Int32) {σ : sg_T} {H : Heap} {locs : List Loc} {ls : Array Slot} (hw : ww_P x s H locs σ) (hl : lv_has ls 6 [(3, .int a3), (4, .long a4)]) (hf : fb_MOD_product_75 a3 a4 t0 σ = some z) : W p l e (rm_D 3) s m args below meth c H locs 0 0 (qi_Q x s below args z.1 z.2) (F0 m 75 ls [.int t0, .ref (x.2.2 82)]) := by
  have F9 := F
  obtain ⟨hx, hb, hml, hr, hlk, hown, hT⟩ := F
  unfold fb_MOD_product_75 at hf
  refine lv_iload_n hx hb nD_MOD_product_75 rfl (lv_at hl 0 rfl) ?_
  refine lv_lload hx hb nD_MOD_product_76 (lv_at hl 1 rfl) ?_
  obtain ⟨z15, hz15, hf⟩ := bd_of hf
  refine cl_vi (As := [.int t0, .int a3, .long a4]) (rest := []) F9 hw (ct_MOD_finish l x t0 a3 a4  _ _ hz15) (rc_MOD ) wc_MOD_113 hd_MOD_finish (by decide) hl rfl (Nat.le_of_ble_eq_true rfl) nD_MOD_product_78 (fun H locs hw => ?_)
  exact rt_i F9 hw rfl nD_MOD_product_81 hf
set_option maxRecDepth 100000 in
set_option maxHeartbeats 4000000 in
theorem ct_MOD_product (l : Launch) (x : cx_T) (a1 : Int32) (a2 : Int32) (σ : sg_T) (z : Int32 × sg_T) (hf : fn_MOD_product a1 a2 σ = some z) : ct_i l nN_MOD_product nC_MOD_product 6 (some .int) 3 x [.ref (x.2.2 82), .int a1, .int a2] σ z.1 z.2 := by
  refine en_i (own := nR_MOD) (by decide) (Nat.le_of_ble_eq_true rfl) rfl ?_
  intro p e s m below meth c ls F hw hl
  have F9 := F
  obtain ⟨hx, hb, hml, hr, hlk, hown, hT⟩ := F
  have hl : lv_has ls 6 [(0, .ref (x.2.2 82)), (1, .int a1), (2, .int a2)] := hl
  unfold fn_MOD_product at hf
  refine lv_iload_n hx hb nD_MOD_product_0 rfl (lv_at hl 1 rfl) ?_
  obtain ⟨z1, hz1, hf⟩ := bd_of hf
  refine cl_sl (As := [.int a1]) (rest := []) F9 hw (ct_MOD_partOf l x a1  _ _ hz1) wc_MOD_95 hd_MOD_partOf (by decide) hl rfl (Nat.le_of_ble_eq_true rfl) nD_MOD_product_1 (fun H locs hw => ?_)
  refine lv_lconst (v := 0) hx hb nD_MOD_product_4 (by decide) ?_
  refine W.lcmp hx hb nD_MOD_product_5 ?_
  refine lv_if_eq (tgt := 18) hx hb nD_MOD_product_6 (by decide) (fun h2 => ?_) (fun h2 => ?_)
  · rw [if_pos h2] at hf
    refine lv_iconst (v := 0) hx hb nD_MOD_product_18 (by decide) ?_
    exact rt_i F9 hw rfl nD_MOD_product_19 hf
  · rw [if_neg h2] at hf
    refine lv_iload_n hx hb nD_MOD_product_9 rfl (lv_at hl 2 rfl) ?_
    obtain ⟨z3, hz3, hf⟩ := bd_of hf
    refine cl_sl (As := [.int a2]) (rest := []) F9 hw (ct_MOD_partOf l x a2  _ _ hz3) wc_MOD_95 hd_MOD_partOf (by decide) hl rfl (Nat.le_of_ble_eq_true rfl) nD_MOD_product_10 (fun H locs hw => ?_)
    refine lv_lconst (v := 0) hx hb nD_MOD_product_13 (by decide) ?_
    refine W.lcmp hx hb nD_MOD_product_14 ?_
    refine lv_if_ne (tgt := 20) hx hb nD_MOD_product_15 (by decide) (fun h4 => ?_) (fun h4 => ?_)
    · rw [if_neg h4] at hf
      refine lv_iload_n hx hb nD_MOD_product_20 rfl (lv_at hl 1 rfl) ?_
      obtain ⟨z5, hz5, hf⟩ := bd_of hf
      refine cl_si (As := [.int a1]) (rest := []) F9 hw (ct_MOD_charOf l x a1  _ _ hz5) wc_MOD_91 hd_MOD_charOf (by decide) hl rfl (Nat.le_of_ble_eq_true rfl) nD_MOD_product_21 (fun H locs hw => ?_)
      refine lv_iload_n hx hb nD_MOD_product_24 rfl (lv_at hl 1 rfl) ?_
      obtain ⟨z6, hz6, hf⟩ := bd_of hf
      refine cl_si (As := [.int a1]) (rest := [.int z5.1]) F9 hw (ct_MOD_short0 l x a1  _ _ hz6) wc_MOD_123 hd_MOD_short0 (by decide) hl rfl (Nat.le_of_ble_eq_true rfl) nD_MOD_product_25 (fun H locs hw => ?_)
      refine lv_isub hx hb nD_MOD_product_28 ?_
      refine lv_iload_n hx hb nD_MOD_product_29 rfl (lv_at hl 2 rfl) ?_
      obtain ⟨z7, hz7, hf⟩ := bd_of hf
      refine cl_si (As := [.int a2]) (rest := [.int (z5.1 - z6.1)]) F9 hw (ct_MOD_charOf l x a2  _ _ hz7) wc_MOD_91 hd_MOD_charOf (by decide) hl rfl (Nat.le_of_ble_eq_true rfl) nD_MOD_product_30 (fun H locs hw => ?_)
      refine lv_iadd hx hb nD_MOD_product_33 ?_
      refine lv_iload_n hx hb nD_MOD_product_34 rfl (lv_at hl 2 rfl) ?_
      obtain ⟨z8, hz8, hf⟩ := bd_of hf
      refine cl_si (As := [.int a2]) (rest := [.int ((z5.1 - z6.1) + z7.1)]) F9 hw (ct_MOD_short0 l x a2  _ _ hz8) wc_MOD_123 hd_MOD_short0 (by decide) hl rfl (Nat.le_of_ble_eq_true rfl) nD_MOD_product_35 (fun H locs hw => ?_)
      refine lv_isub hx hb nD_MOD_product_38 ?_
      refine lv_bipush (v := 64) hx hb nD_MOD_product_39 (by decide) ?_
      refine lv_isub hx hb nD_MOD_product_41 ?_
      refine lv_istore_n (lv' := [(3, .int ((((z5.1 - z6.1) + z7.1) - z8.1) - (64 : Int32))), (0, .ref (x.2.2 82)), (1, .int a1), (2, .int a2)]) hx hb nD_MOD_product_42 rfl hl (by decide) rfl (fun ls hl => ?_)
      refine lv_iload_n hx hb nD_MOD_product_43 rfl (lv_at hl 2 rfl) ?_
      obtain ⟨z9, hz9, hf⟩ := bd_of hf
      refine cl_sl (As := [.int a1]) (rest := []) F9 hw (ct_MOD_normal l x a1  _ _ hz9) wc_MOD_126 hd_MOD_normal (by decide) hl rfl (Nat.le_of_ble_eq_true rfl) nD_MOD_product_44 (fun H locs hw => ?_)
      refine lv_iload_n hx hb nD_MOD_product_47 rfl (lv_at hl 3 rfl) ?_
      obtain ⟨z10, hz10, hf⟩ := bd_of hf
      refine cl_sl (As := [.int a2]) (rest := [.long z9.1]) F9 hw (ct_MOD_normal l x a2  _ _ hz10) wc_MOD_126 hd_MOD_normal (by decide) hl rfl (Nat.le_of_ble_eq_true rfl) nD_MOD_product_48 (fun H locs hw => ?_)
      refine lv_lmul hx hb nD_MOD_product_51 ?_
      refine lv_ldc2 (v := 1048576) hx hb hown (hT _ wm_726) nD_MOD_product_52 ?_
      obtain ⟨g11, hf⟩ := gt_of hf
      refine lv_ldiv hx hb nD_MOD_product_55 (of_decide_eq_true g11) ?_
      refine lv_lstore (lv' := [(4, .long ((z9.1 * z10.1) / (1048576 : Int64))), (3, .int ((((z5.1 - z6.1) + z7.1) - z8.1) - (64 : Int32))), (0, .ref (x.2.2 82)), (1, .int a1), (2, .int a2)]) hx hb nD_MOD_product_56 hl (by decide) rfl (fun ls hl => ?_)
      refine lv_aload_n hx hb nD_MOD_product_58 rfl (lv_at hl 2 rfl) ?_
      refine lv_iload_n hx hb nD_MOD_product_59 rfl (lv_at hl 3 rfl) ?_
      obtain ⟨z12, hz12, hf⟩ := bd_of hf
      refine cl_si (As := [.int a1]) (rest := [.ref (x.2.2 82)]) F9 hw (ct_MOD_minus l x a1  _ _ hz12) wc_MOD_99 hd_MOD_minus (by decide) hl rfl (Nat.le_of_ble_eq_true rfl) nD_MOD_product_60 (fun H locs hw => ?_)
      refine lv_iload_n hx hb nD_MOD_product_63 rfl (lv_at hl 4 rfl) ?_
      obtain ⟨z13, hz13, hf⟩ := bd_of hf
      refine cl_si (As := [.int a2]) (rest := [.int z12.1, .ref (x.2.2 82)]) F9 hw (ct_MOD_minus l x a2  _ _ hz13) wc_MOD_99 hd_MOD_minus (by decide) hl rfl (Nat.le_of_ble_eq_true rfl) nD_MOD_product_64 (fun H locs hw => ?_)
      refine lv_icmp_eq (tgt := 74) hx hb nD_MOD_product_67 (by decide) (fun h14 => ?_) (fun h14 => ?_)
      · rw [if_pos h14] at hf
        refine lv_iconst (v := 0) hx hb nD_MOD_product_74 (by decide) ?_
        exact bk_MOD_product_75 F9 ((((z5.1 - z6.1) + z7.1) - z8.1) - (64 : Int32)) ((z9.1 * z10.1) / (1048576 : Int64)) (0 : Int32)  hw (lv_sub hl [1, 0] rfl) hf
      · rw [if_neg h14] at hf
        refine lv_iconst (v := 1) hx hb nD_MOD_product_70 (by decide) ?_
        refine lv_goto (tgt := 75) hx hb nD_MOD_product_71 (by decide) ?_
        exact bk_MOD_product_75 F9 ((((z5.1 - z6.1) + z7.1) - z8.1) - (64 : Int32)) ((z9.1 * z10.1) / (1048576 : Int64)) (1 : Int32)  hw (lv_sub hl [1, 0] rfl) hf
    · rw [if_pos h4] at hf
      refine lv_iconst (v := 0) hx hb nD_MOD_product_18 (by decide) ?_
      exact rt_i F9 hw rfl nD_MOD_product_19 hf
set_option maxRecDepth 100000 in
set_option maxHeartbeats 4000000 in
theorem bk_MOD_quotient_82 {z : Int32 × sg_T} (F : fx_F p s m args meth c nC_MOD_quotient 6 (some .int) nR_MOD) (a3 : Int32) (a4 : Int64) (t0 : Int32) {σ : sg_T} {H : Heap} {locs : List Loc} {ls : Array Slot} (hw : ww_P x s H locs σ) (hl : lv_has ls 6 [(3, .int a3), (4, .long a4)]) (hf : fb_MOD_quotient_82 a3 a4 t0 σ = some z) : W p l e (rm_D 3) s m args below meth c H locs 0 0 (qi_Q x s below args z.1 z.2) (F0 m 82 ls [.int t0, .ref (x.2.2 82)]) := by
  have F9 := F
  obtain ⟨hx, hb, hml, hr, hlk, hown, hT⟩ := F
  unfold fb_MOD_quotient_82 at hf
  refine lv_iload_n hx hb nD_MOD_quotient_82 rfl (lv_at hl 0 rfl) ?_
  refine lv_lload hx hb nD_MOD_quotient_83 (lv_at hl 1 rfl) ?_
  obtain ⟨z15, hz15, hf⟩ := bd_of hf
  refine cl_vi (As := [.int t0, .int a3, .long a4]) (rest := []) F9 hw (ct_MOD_finish l x t0 a3 a4  _ _ hz15) (rc_MOD ) wc_MOD_113 hd_MOD_finish (by decide) hl rfl (Nat.le_of_ble_eq_true rfl) nD_MOD_quotient_85 (fun H locs hw => ?_)
  exact rt_i F9 hw rfl nD_MOD_quotient_88 hf
set_option maxRecDepth 100000 in
set_option maxHeartbeats 4000000 in
theorem ct_MOD_quotient (l : Launch) (x : cx_T) (a1 : Int32) (a2 : Int32) (σ : sg_T) (z : Int32 × sg_T) (hf : fn_MOD_quotient a1 a2 σ = some z) : ct_i l nN_MOD_quotient nC_MOD_quotient 6 (some .int) 3 x [.ref (x.2.2 82), .int a1, .int a2] σ z.1 z.2 := by
  refine en_i (own := nR_MOD) (by decide) (Nat.le_of_ble_eq_true rfl) rfl ?_
  intro p e s m below meth c ls F hw hl
  have F9 := F
  obtain ⟨hx, hb, hml, hr, hlk, hown, hT⟩ := F
  have hl : lv_has ls 6 [(0, .ref (x.2.2 82)), (1, .int a1), (2, .int a2)] := hl
  unfold fn_MOD_quotient at hf
  refine lv_iload_n hx hb nD_MOD_quotient_0 rfl (lv_at hl 2 rfl) ?_
  obtain ⟨z1, hz1, hf⟩ := bd_of hf
  refine cl_sl (As := [.int a2]) (rest := []) F9 hw (ct_MOD_partOf l x a2  _ _ hz1) wc_MOD_95 hd_MOD_partOf (by decide) hl rfl (Nat.le_of_ble_eq_true rfl) nD_MOD_quotient_1 (fun H locs hw => ?_)
  refine lv_lconst (v := 0) hx hb nD_MOD_quotient_4 (by decide) ?_
  refine W.lcmp hx hb nD_MOD_quotient_5 ?_
  refine lv_if_ne (tgt := 16) hx hb nD_MOD_quotient_6 (by decide) (fun h2 => ?_) (fun h2 => ?_)
  · rw [if_neg h2] at hf
    refine lv_iload_n hx hb nD_MOD_quotient_16 rfl (lv_at hl 1 rfl) ?_
    obtain ⟨z3, hz3, hf⟩ := bd_of hf
    refine cl_sl (As := [.int a1]) (rest := []) F9 hw (ct_MOD_partOf l x a1  _ _ hz3) wc_MOD_95 hd_MOD_partOf (by decide) hl rfl (Nat.le_of_ble_eq_true rfl) nD_MOD_quotient_17 (fun H locs hw => ?_)
    refine lv_lconst (v := 0) hx hb nD_MOD_quotient_20 (by decide) ?_
    refine W.lcmp hx hb nD_MOD_quotient_21 ?_
    refine lv_if_ne (tgt := 27) hx hb nD_MOD_quotient_22 (by decide) (fun h4 => ?_) (fun h4 => ?_)
    · rw [if_neg h4] at hf
      refine lv_iload_n hx hb nD_MOD_quotient_27 rfl (lv_at hl 1 rfl) ?_
      obtain ⟨z5, hz5, hf⟩ := bd_of hf
      refine cl_si (As := [.int a1]) (rest := []) F9 hw (ct_MOD_charOf l x a1  _ _ hz5) wc_MOD_91 hd_MOD_charOf (by decide) hl rfl (Nat.le_of_ble_eq_true rfl) nD_MOD_quotient_28 (fun H locs hw => ?_)
      refine lv_iload_n hx hb nD_MOD_quotient_31 rfl (lv_at hl 1 rfl) ?_
      obtain ⟨z6, hz6, hf⟩ := bd_of hf
      refine cl_si (As := [.int a1]) (rest := [.int z5.1]) F9 hw (ct_MOD_short0 l x a1  _ _ hz6) wc_MOD_123 hd_MOD_short0 (by decide) hl rfl (Nat.le_of_ble_eq_true rfl) nD_MOD_quotient_32 (fun H locs hw => ?_)
      refine lv_isub hx hb nD_MOD_quotient_35 ?_
      refine lv_iload_n hx hb nD_MOD_quotient_36 rfl (lv_at hl 2 rfl) ?_
      obtain ⟨z7, hz7, hf⟩ := bd_of hf
      refine cl_si (As := [.int a2]) (rest := [.int (z5.1 - z6.1)]) F9 hw (ct_MOD_charOf l x a2  _ _ hz7) wc_MOD_91 hd_MOD_charOf (by decide) hl rfl (Nat.le_of_ble_eq_true rfl) nD_MOD_quotient_37 (fun H locs hw => ?_)
      refine lv_iload_n hx hb nD_MOD_quotient_40 rfl (lv_at hl 2 rfl) ?_
      obtain ⟨z8, hz8, hf⟩ := bd_of hf
      refine cl_si (As := [.int a2]) (rest := [.int z7.1, .int (z5.1 - z6.1)]) F9 hw (ct_MOD_short0 l x a2  _ _ hz8) wc_MOD_123 hd_MOD_short0 (by decide) hl rfl (Nat.le_of_ble_eq_true rfl) nD_MOD_quotient_41 (fun H locs hw => ?_)
      refine lv_isub hx hb nD_MOD_quotient_44 ?_
      refine lv_isub hx hb nD_MOD_quotient_45 ?_
      refine lv_bipush (v := 65) hx hb nD_MOD_quotient_46 (by decide) ?_
      refine lv_iadd hx hb nD_MOD_quotient_48 ?_
      refine lv_istore_n (lv' := [(3, .int (((z5.1 - z6.1) - (z7.1 - z8.1)) + (65 : Int32))), (0, .ref (x.2.2 82)), (1, .int a1), (2, .int a2)]) hx hb nD_MOD_quotient_49 rfl hl (by decide) rfl (fun ls hl => ?_)
      refine lv_iload_n hx hb nD_MOD_quotient_50 rfl (lv_at hl 2 rfl) ?_
      obtain ⟨z9, hz9, hf⟩ := bd_of hf
      refine cl_sl (As := [.int a1]) (rest := []) F9 hw (ct_MOD_normal l x a1  _ _ hz9) wc_MOD_126 hd_MOD_normal (by decide) hl rfl (Nat.le_of_ble_eq_true rfl) nD_MOD_quotient_51 (fun H locs hw => ?_)
      refine lv_ldc2 (v := 16777216) hx hb hown (hT _ wm_713) nD_MOD_quotient_54 ?_
      refine lv_lmul hx hb nD_MOD_quotient_57 ?_
      refine lv_iload_n hx hb nD_MOD_quotient_58 rfl (lv_at hl 3 rfl) ?_
      obtain ⟨z10, hz10, hf⟩ := bd_of hf
      refine cl_sl (As := [.int a2]) (rest := [.long (z9.1 * (16777216 : Int64))]) F9 hw (ct_MOD_normal l x a2  _ _ hz10) wc_MOD_126 hd_MOD_normal (by decide) hl rfl (Nat.le_of_ble_eq_true rfl) nD_MOD_quotient_59 (fun H locs hw => ?_)
      obtain ⟨g11, hf⟩ := gt_of hf
      refine lv_ldiv hx hb nD_MOD_quotient_62 (of_decide_eq_true g11) ?_
      refine lv_lstore (lv' := [(4, .long ((z9.1 * (16777216 : Int64)) / z10.1)), (3, .int (((z5.1 - z6.1) - (z7.1 - z8.1)) + (65 : Int32))), (0, .ref (x.2.2 82)), (1, .int a1), (2, .int a2)]) hx hb nD_MOD_quotient_63 hl (by decide) rfl (fun ls hl => ?_)
      refine lv_aload_n hx hb nD_MOD_quotient_65 rfl (lv_at hl 2 rfl) ?_
      refine lv_iload_n hx hb nD_MOD_quotient_66 rfl (lv_at hl 3 rfl) ?_
      obtain ⟨z12, hz12, hf⟩ := bd_of hf
      refine cl_si (As := [.int a1]) (rest := [.ref (x.2.2 82)]) F9 hw (ct_MOD_minus l x a1  _ _ hz12) wc_MOD_99 hd_MOD_minus (by decide) hl rfl (Nat.le_of_ble_eq_true rfl) nD_MOD_quotient_67 (fun H locs hw => ?_)
      refine lv_iload_n hx hb nD_MOD_quotient_70 rfl (lv_at hl 4 rfl) ?_
      obtain ⟨z13, hz13, hf⟩ := bd_of hf
      refine cl_si (As := [.int a2]) (rest := [.int z12.1, .ref (x.2.2 82)]) F9 hw (ct_MOD_minus l x a2  _ _ hz13) wc_MOD_99 hd_MOD_minus (by decide) hl rfl (Nat.le_of_ble_eq_true rfl) nD_MOD_quotient_71 (fun H locs hw => ?_)
      refine lv_icmp_eq (tgt := 81) hx hb nD_MOD_quotient_74 (by decide) (fun h14 => ?_) (fun h14 => ?_)
      · rw [if_pos h14] at hf
        refine lv_iconst (v := 0) hx hb nD_MOD_quotient_81 (by decide) ?_
        exact bk_MOD_quotient_82 F9 (((z5.1 - z6.1) - (z7.1 - z8.1)) + (65 : Int32)) ((z9.1 * (16777216 : Int64)) / z10.1) (0 : Int32)  hw (lv_sub hl [1, 0] rfl) hf
      · rw [if_neg h14] at hf
        refine lv_iconst (v := 1) hx hb nD_MOD_quotient_77 (by decide) ?_
        refine lv_goto (tgt := 82) hx hb nD_MOD_quotient_78 (by decide) ?_
        exact bk_MOD_quotient_82 F9 (((z5.1 - z6.1) - (z7.1 - z8.1)) + (65 : Int32)) ((z9.1 * (16777216 : Int64)) / z10.1) (1 : Int32)  hw (lv_sub hl [1, 0] rfl) hf
    · rw [if_pos h4] at hf
      refine lv_iconst (v := 0) hx hb nD_MOD_quotient_25 (by decide) ?_
      exact rt_i F9 hw rfl nD_MOD_quotient_26 hf
  · rw [if_pos h2] at hf
    refine lv_aload_n hx hb nD_MOD_quotient_9 rfl (lv_at hl 0 rfl) ?_
    refine lv_iconst (v := 4) hx hb nD_MOD_quotient_10 (by decide) ?_
    refine wr_MOD_MOD_exception F9 hw nD_MOD_quotient_11 (fun H locs hw => ?_)
    refine lv_iload_n hx hb nD_MOD_quotient_14 rfl (lv_at hl 1 rfl) ?_
    exact rt_i F9 hw rfl nD_MOD_quotient_15 hf
set_option maxRecDepth 100000 in
set_option maxHeartbeats 4000000 in
theorem ct_MOD_result (l : Launch) (x : cx_T) (a1 : Int32) (a2 : Int32) (a3 : Int32) (σ : sg_T) (z : Int32 × sg_T) (hf : fn_MOD_result a1 a2 a3 σ = some z) : ct_i l nN_MOD_result nC_MOD_result 4 (some .int) 4 x [.ref (x.2.2 82), .int a1, .int a2, .int a3] σ z.1 z.2 := by
  refine en_i (own := nR_MOD) (by decide) (Nat.le_of_ble_eq_true rfl) rfl ?_
  intro p e s m below meth c ls F hw hl
  have F9 := F
  obtain ⟨hx, hb, hml, hr, hlk, hown, hT⟩ := F
  have hl : lv_has ls 4 [(0, .ref (x.2.2 82)), (1, .int a1), (2, .int a2), (3, .int a3)] := hl
  unfold fn_MOD_result at hf
  refine lv_aload_n hx hb nD_MOD_result_0 rfl (lv_at hl 0 rfl) ?_
  refine lv_iconst (v := 0) hx hb nD_MOD_result_1 (by decide) ?_
  refine wr_MOD_MOD_exception F9 hw nD_MOD_result_2 (fun H locs hw => ?_)
  refine lv_iload_n hx hb nD_MOD_result_5 rfl (lv_at hl 1 rfl) ?_
  by_cases h1 : a1 = (0 : Int32)
  · rw [if_pos h1] at hf
    refine sw_in (tgt := 36) (0) hx hb nD_MOD_result_6 h1 (by decide) (by decide) rfl (by decide) ?_
    refine lv_aload_n hx hb nD_MOD_result_36 rfl (lv_at hl 0 rfl) ?_
    refine lv_iload_n hx hb nD_MOD_result_37 rfl (lv_at hl 2 rfl) ?_
    refine lv_iload_n hx hb nD_MOD_result_38 rfl (lv_at hl 3 rfl) ?_
    obtain ⟨z2, hz2, hf⟩ := bd_of hf
    refine cl_vi (As := [.int a2, .int a3]) (rest := []) F9 hw (ct_MOD_sum l x a2 a3  _ _ hz2) (rc_MOD ) wc_MOD_129 hd_MOD_sum (by decide) hl rfl (Nat.le_of_ble_eq_true rfl) nD_MOD_result_39 (fun H locs hw => ?_)
    exact rt_i F9 hw rfl nD_MOD_result_42 hf
  rw [if_neg h1] at hf
  by_cases h3 : a1 = (1 : Int32)
  · rw [if_pos h3] at hf
    refine sw_in (tgt := 43) (1) hx hb nD_MOD_result_6 h3 (by decide) (by decide) rfl (by decide) ?_
    refine lv_aload_n hx hb nD_MOD_result_43 rfl (lv_at hl 0 rfl) ?_
    refine lv_iload_n hx hb nD_MOD_result_44 rfl (lv_at hl 2 rfl) ?_
    refine lv_iload_n hx hb nD_MOD_result_45 rfl (lv_at hl 3 rfl) ?_
    obtain ⟨z4, hz4, hf⟩ := bd_of hf
    refine cl_si (As := [.int a3]) (rest := [.int a2, .ref (x.2.2 82)]) F9 hw (ct_MOD_other l x a3  _ _ hz4) wc_MOD_118 hd_MOD_other (by decide) hl rfl (Nat.le_of_ble_eq_true rfl) nD_MOD_result_46 (fun H locs hw => ?_)
    obtain ⟨z5, hz5, hf⟩ := bd_of hf
    refine cl_vi (As := [.int a2, .int z4.1]) (rest := []) F9 hw (ct_MOD_sum l x a2 z4.1  _ _ hz5) (rc_MOD ) wc_MOD_129 hd_MOD_sum (by decide) hl rfl (Nat.le_of_ble_eq_true rfl) nD_MOD_result_49 (fun H locs hw => ?_)
    exact rt_i F9 hw rfl nD_MOD_result_52 hf
  rw [if_neg h3] at hf
  by_cases h6 : a1 = (2 : Int32)
  · rw [if_pos h6] at hf
    refine sw_in (tgt := 53) (2) hx hb nD_MOD_result_6 h6 (by decide) (by decide) rfl (by decide) ?_
    refine lv_aload_n hx hb nD_MOD_result_53 rfl (lv_at hl 0 rfl) ?_
    refine lv_iload_n hx hb nD_MOD_result_54 rfl (lv_at hl 2 rfl) ?_
    refine lv_iload_n hx hb nD_MOD_result_55 rfl (lv_at hl 3 rfl) ?_
    obtain ⟨z7, hz7, hf⟩ := bd_of hf
    refine cl_vi (As := [.int a2, .int a3]) (rest := []) F9 hw (ct_MOD_product l x a2 a3  _ _ hz7) (rc_MOD ) wc_MOD_132 hd_MOD_product (by decide) hl rfl (Nat.le_of_ble_eq_true rfl) nD_MOD_result_56 (fun H locs hw => ?_)
    exact rt_i F9 hw rfl nD_MOD_result_59 hf
  rw [if_neg h6] at hf
  by_cases h8 : a1 = (3 : Int32)
  · rw [if_pos h8] at hf
    refine sw_in (tgt := 60) (3) hx hb nD_MOD_result_6 h8 (by decide) (by decide) rfl (by decide) ?_
    refine lv_aload_n hx hb nD_MOD_result_60 rfl (lv_at hl 0 rfl) ?_
    refine lv_iload_n hx hb nD_MOD_result_61 rfl (lv_at hl 2 rfl) ?_
    refine lv_iload_n hx hb nD_MOD_result_62 rfl (lv_at hl 3 rfl) ?_
    obtain ⟨z9, hz9, hf⟩ := bd_of hf
    refine cl_vi (As := [.int a2, .int a3]) (rest := []) F9 hw (ct_MOD_quotient l x a2 a3  _ _ hz9) (rc_MOD ) wc_MOD_135 hd_MOD_quotient (by decide) hl rfl (Nat.le_of_ble_eq_true rfl) nD_MOD_result_63 (fun H locs hw => ?_)
    exact rt_i F9 hw rfl nD_MOD_result_66 hf
  rw [if_neg h8] at hf
  refine lv_tableOut (tgt := 67) hx hb nD_MOD_result_6 (by have q0 := it_ne h1; have q1 := it_ne h3; have q2 := it_ne h6; have q3 := it_ne h8; simp only [show (0 : Int32).toInt = 0 from rfl, show (1 : Int32).toInt = 1 from rfl, show (2 : Int32).toInt = 2 from rfl, show (3 : Int32).toInt = 3 from rfl] at *; omega) (by decide) ?_
  refine lv_aload_n hx hb nD_MOD_result_67 rfl (lv_at hl 0 rfl) ?_
  refine lv_iload_n hx hb nD_MOD_result_68 rfl (lv_at hl 2 rfl) ?_
  refine lv_iload_n hx hb nD_MOD_result_69 rfl (lv_at hl 3 rfl) ?_
  obtain ⟨z10, hz10, hf⟩ := bd_of hf
  refine cl_vi (As := [.int a2, .int a3]) (rest := []) F9 hw (ct_MOD_compared l x a2 a3  _ _ hz10) (rc_MOD ) wc_MOD_138 hd_MOD_compared (by decide) hl rfl (Nat.le_of_ble_eq_true rfl) nD_MOD_result_70 (fun H locs hw => ?_)
  exact rt_i F9 hw rfl nD_MOD_result_73 hf
set_option maxRecDepth 100000 in
set_option maxHeartbeats 4000000 in
theorem bk_MOD_reckon_15 {z : Int32 × sg_T} (F : fx_F p s m args meth c nC_MOD_reckon 4 (some .int) nR_MOD) (a1 : Int32) (a2 : Int32) (a3 : Int32) (t0 : Int32) {σ : sg_T} {H : Heap} {locs : List Loc} {ls : Array Slot} (hw : ww_P x s H locs σ) (hl : lv_has ls 4 [(0, .ref (x.2.2 82)), (1, .int a1), (2, .int a2), (3, .int a3)]) (hf : fb_MOD_reckon_15 a1 a2 a3 t0 σ = some z) : W p l e (rm_D 5) s m args below meth c H locs 0 0 (qi_Q x s below args z.1 z.2) (F0 m 15 ls [.int t0, .ref (x.2.2 82)]) := by
  have F9 := F
  obtain ⟨hx, hb, hml, hr, hlk, hown, hT⟩ := F
  unfold fb_MOD_reckon_15 at hf
  refine wr_MOD_MOD_threw F9 hw nD_MOD_reckon_15 (fun H locs hw => ?_)
  refine lv_aload_n hx hb nD_MOD_reckon_18 rfl (lv_at hl 0 rfl) ?_
  refine rd_MOD_MOD_threw F9 hw nD_MOD_reckon_19 ?_
  refine lv_if_le (tgt := 29) hx hb nD_MOD_reckon_22 (by decide) (fun h2 => ?_) (fun h2 => ?_)
  · rw [if_pos h2] at hf
    refine lv_aload_n hx hb nD_MOD_reckon_29 rfl (lv_at hl 0 rfl) ?_
    refine lv_iload_n hx hb nD_MOD_reckon_30 rfl (lv_at hl 1 rfl) ?_
    refine lv_iload_n hx hb nD_MOD_reckon_31 rfl (lv_at hl 2 rfl) ?_
    refine lv_iload_n hx hb nD_MOD_reckon_32 rfl (lv_at hl 3 rfl) ?_
    obtain ⟨z3, hz3, hf⟩ := bd_of hf
    refine cl_vi (As := [.int a1, .int a2, .int a3]) (rest := []) F9 hw (ct_MOD_result l x a1 a2 a3  _ _ hz3) (rc_MOD ) wc_MOD_141 hd_MOD_result (by decide) hl rfl (Nat.le_of_ble_eq_true rfl) nD_MOD_reckon_33 (fun H locs hw => ?_)
    exact rt_i F9 hw rfl nD_MOD_reckon_36 hf
  · rw [if_neg h2] at hf
    refine lv_iconst (v := 0) hx hb nD_MOD_reckon_25 (by decide) ?_
    refine lv_goto (tgt := 36) hx hb nD_MOD_reckon_26 (by decide) ?_
    exact rt_i F9 hw rfl nD_MOD_reckon_36 hf
set_option maxRecDepth 100000 in
set_option maxHeartbeats 4000000 in
theorem bk_MOD_reckon_10 {z : Int32 × sg_T} (F : fx_F p s m args meth c nC_MOD_reckon 4 (some .int) nR_MOD) (a1 : Int32) (a2 : Int32) (a3 : Int32) {σ : sg_T} {H : Heap} {locs : List Loc} {ls : Array Slot} (hw : ww_P x s H locs σ) (hl : lv_has ls 4 [(0, .ref (x.2.2 82)), (1, .int a1), (2, .int a2), (3, .int a3)]) (hf : fb_MOD_reckon_10 a1 a2 a3 σ = some z) : W p l e (rm_D 5) s m args below meth c H locs 0 0 (qi_Q x s below args z.1 z.2) (F0 m 10 ls [.ref (x.2.2 82)]) := by
  have F9 := F
  obtain ⟨hx, hb, hml, hr, hlk, hown, hT⟩ := F
  unfold fb_MOD_reckon_10 at hf
  refine lv_iconst (v := 1) hx hb nD_MOD_reckon_10 (by decide) ?_
  refine lv_goto (tgt := 15) hx hb nD_MOD_reckon_11 (by decide) ?_
  exact bk_MOD_reckon_15 F9 a1 a2 a3 (1 : Int32)  hw (lv_sub hl [0, 1, 2, 3] rfl) hf
set_option maxRecDepth 100000 in
set_option maxHeartbeats 4000000 in
theorem ct_MOD_reckon (l : Launch) (x : cx_T) (a1 : Int32) (a2 : Int32) (a3 : Int32) (σ : sg_T) (z : Int32 × sg_T) (hf : fn_MOD_reckon a1 a2 a3 σ = some z) : ct_i l nN_MOD_reckon nC_MOD_reckon 4 (some .int) 5 x [.ref (x.2.2 82), .int a1, .int a2, .int a3] σ z.1 z.2 := by
  refine en_i (own := nR_MOD) (by decide) (Nat.le_of_ble_eq_true rfl) rfl ?_
  intro p e s m below meth c ls F hw hl
  have F9 := F
  obtain ⟨hx, hb, hml, hr, hlk, hown, hT⟩ := F
  have hl : lv_has ls 4 [(0, .ref (x.2.2 82)), (1, .int a1), (2, .int a2), (3, .int a3)] := hl
  unfold fn_MOD_reckon at hf
  refine lv_aload_n hx hb nD_MOD_reckon_0 rfl (lv_at hl 0 rfl) ?_
  refine lv_iload_n hx hb nD_MOD_reckon_1 rfl (lv_at hl 1 rfl) ?_
  refine lv_if_lt (tgt := 10) hx hb nD_MOD_reckon_2 (by decide) (fun h1 => ?_) (fun h1 => ?_)
  · rw [if_pos h1] at hf
    exact bk_MOD_reckon_10 F9 a1 a2 a3  hw (lv_sub hl [0, 1, 2, 3] rfl) hf
  · rw [if_neg h1] at hf
    refine lv_iload_n hx hb nD_MOD_reckon_5 rfl (lv_at hl 1 rfl) ?_
    refine lv_iconst (v := 4) hx hb nD_MOD_reckon_6 (by decide) ?_
    refine lv_icmp_le (tgt := 14) hx hb nD_MOD_reckon_7 (by decide) (fun h4 => ?_) (fun h4 => ?_)
    · rw [if_pos h4] at hf
      refine lv_iconst (v := 0) hx hb nD_MOD_reckon_14 (by decide) ?_
      exact bk_MOD_reckon_15 F9 a1 a2 a3 (0 : Int32)  hw (lv_sub hl [0, 1, 2, 3] rfl) hf
    · rw [if_neg h4] at hf
      exact bk_MOD_reckon_10 F9 a1 a2 a3  hw (lv_sub hl [0, 1, 2, 3] rfl) hf
set_option maxRecDepth 100000 in
set_option maxHeartbeats 4000000 in
theorem bk_MOD_exceptions_15 {z : Int32 × sg_T} (F : fx_F p s m args meth c nC_MOD_exceptions 5 (some .int) nR_MOD) (a1 : Int32) (a2 : Int32) (a3 : Int32) (t0 : Int32) {σ : sg_T} {H : Heap} {locs : List Loc} {ls : Array Slot} (hw : ww_P x s H locs σ) (hl : lv_has ls 5 [(0, .ref (x.2.2 82)), (1, .int a1), (2, .int a2), (3, .int a3)]) (hf : fb_MOD_exceptions_15 a1 a2 a3 t0 σ = some z) : W p l e (rm_D 5) s m args below meth c H locs 0 0 (qi_Q x s below args z.1 z.2) (F0 m 15 ls [.int t0, .ref (x.2.2 82)]) := by
  have F9 := F
  obtain ⟨hx, hb, hml, hr, hlk, hown, hT⟩ := F
  unfold fb_MOD_exceptions_15 at hf
  refine wr_MOD_MOD_threw F9 hw nD_MOD_exceptions_15 (fun H locs hw => ?_)
  refine lv_aload_n hx hb nD_MOD_exceptions_18 rfl (lv_at hl 0 rfl) ?_
  refine rd_MOD_MOD_threw F9 hw nD_MOD_exceptions_19 ?_
  refine lv_if_le (tgt := 27) hx hb nD_MOD_exceptions_22 (by decide) (fun h2 => ?_) (fun h2 => ?_)
  · rw [if_pos h2] at hf
    refine lv_aload_n hx hb nD_MOD_exceptions_27 rfl (lv_at hl 0 rfl) ?_
    refine lv_iload_n hx hb nD_MOD_exceptions_28 rfl (lv_at hl 1 rfl) ?_
    refine lv_iload_n hx hb nD_MOD_exceptions_29 rfl (lv_at hl 2 rfl) ?_
    refine lv_iload_n hx hb nD_MOD_exceptions_30 rfl (lv_at hl 3 rfl) ?_
    obtain ⟨z3, hz3, hf⟩ := bd_of hf
    refine cl_vi (As := [.int a1, .int a2, .int a3]) (rest := []) F9 hw (ct_MOD_result l x a1 a2 a3  _ _ hz3) (rc_MOD ) wc_MOD_141 hd_MOD_result (by decide) hl rfl (Nat.le_of_ble_eq_true rfl) nD_MOD_exceptions_31 (fun H locs hw => ?_)
    refine lv_istore (lv' := [(4, .int z3.1), (0, .ref (x.2.2 82)), (1, .int a1), (2, .int a2), (3, .int a3)]) hx hb nD_MOD_exceptions_34 hl (by decide) rfl (fun ls hl => ?_)
    refine lv_iload_n hx hb nD_MOD_exceptions_36 rfl (lv_at hl 2 rfl) ?_
    refine lv_iconst (v := 4) hx hb nD_MOD_exceptions_37 (by decide) ?_
    refine lv_icmp_ne (tgt := 50) hx hb nD_MOD_exceptions_38 (by decide) (fun h4 => ?_) (fun h4 => ?_)
    · rw [if_neg h4] at hf
      refine lv_aload_n hx hb nD_MOD_exceptions_50 rfl (lv_at hl 1 rfl) ?_
      refine rd_MOD_MOD_exception F9 hw nD_MOD_exceptions_51 ?_
      exact rt_i F9 hw rfl nD_MOD_exceptions_54 hf
    · rw [if_pos h4] at hf
      refine lv_iload hx hb nD_MOD_exceptions_41 (lv_at hl 0 rfl) ?_
      refine lv_if_lt (tgt := 50) hx hb nD_MOD_exceptions_43 (by decide) (fun h5 => ?_) (fun h5 => ?_)
      · rw [if_pos h5] at hf
        refine lv_aload_n hx hb nD_MOD_exceptions_50 rfl (lv_at hl 1 rfl) ?_
        refine rd_MOD_MOD_exception F9 hw nD_MOD_exceptions_51 ?_
        exact rt_i F9 hw rfl nD_MOD_exceptions_54 hf
      · rw [if_neg h5] at hf
        refine lv_iconst (v := 0) hx hb nD_MOD_exceptions_46 (by decide) ?_
        refine lv_goto (tgt := 54) hx hb nD_MOD_exceptions_47 (by decide) ?_
        exact rt_i F9 hw rfl nD_MOD_exceptions_54 hf
  · rw [if_neg h2] at hf
    refine lv_iconst (v := 0) hx hb nD_MOD_exceptions_25 (by decide) ?_
    exact rt_i F9 hw rfl nD_MOD_exceptions_26 hf
set_option maxRecDepth 100000 in
set_option maxHeartbeats 4000000 in
theorem bk_MOD_exceptions_10 {z : Int32 × sg_T} (F : fx_F p s m args meth c nC_MOD_exceptions 5 (some .int) nR_MOD) (a1 : Int32) (a2 : Int32) (a3 : Int32) {σ : sg_T} {H : Heap} {locs : List Loc} {ls : Array Slot} (hw : ww_P x s H locs σ) (hl : lv_has ls 5 [(0, .ref (x.2.2 82)), (1, .int a1), (2, .int a2), (3, .int a3)]) (hf : fb_MOD_exceptions_10 a1 a2 a3 σ = some z) : W p l e (rm_D 5) s m args below meth c H locs 0 0 (qi_Q x s below args z.1 z.2) (F0 m 10 ls [.ref (x.2.2 82)]) := by
  have F9 := F
  obtain ⟨hx, hb, hml, hr, hlk, hown, hT⟩ := F
  unfold fb_MOD_exceptions_10 at hf
  refine lv_iconst (v := 1) hx hb nD_MOD_exceptions_10 (by decide) ?_
  refine lv_goto (tgt := 15) hx hb nD_MOD_exceptions_11 (by decide) ?_
  exact bk_MOD_exceptions_15 F9 a1 a2 a3 (1 : Int32)  hw (lv_sub hl [0, 1, 2, 3] rfl) hf
set_option maxRecDepth 100000 in
set_option maxHeartbeats 4000000 in
theorem ct_MOD_exceptions (l : Launch) (x : cx_T) (a1 : Int32) (a2 : Int32) (a3 : Int32) (σ : sg_T) (z : Int32 × sg_T) (hf : fn_MOD_exceptions a1 a2 a3 σ = some z) : ct_i l nN_MOD_exceptions nC_MOD_exceptions 5 (some .int) 5 x [.ref (x.2.2 82), .int a1, .int a2, .int a3] σ z.1 z.2 := by
  refine en_i (own := nR_MOD) (by decide) (Nat.le_of_ble_eq_true rfl) rfl ?_
  intro p e s m below meth c ls F hw hl
  have F9 := F
  obtain ⟨hx, hb, hml, hr, hlk, hown, hT⟩ := F
  have hl : lv_has ls 5 [(0, .ref (x.2.2 82)), (1, .int a1), (2, .int a2), (3, .int a3)] := hl
  unfold fn_MOD_exceptions at hf
  refine lv_aload_n hx hb nD_MOD_exceptions_0 rfl (lv_at hl 0 rfl) ?_
  refine lv_iload_n hx hb nD_MOD_exceptions_1 rfl (lv_at hl 1 rfl) ?_
  refine lv_if_lt (tgt := 10) hx hb nD_MOD_exceptions_2 (by decide) (fun h1 => ?_) (fun h1 => ?_)
  · rw [if_pos h1] at hf
    exact bk_MOD_exceptions_10 F9 a1 a2 a3  hw (lv_sub hl [0, 1, 2, 3] rfl) hf
  · rw [if_neg h1] at hf
    refine lv_iload_n hx hb nD_MOD_exceptions_5 rfl (lv_at hl 1 rfl) ?_
    refine lv_iconst (v := 4) hx hb nD_MOD_exceptions_6 (by decide) ?_
    refine lv_icmp_le (tgt := 14) hx hb nD_MOD_exceptions_7 (by decide) (fun h6 => ?_) (fun h6 => ?_)
    · rw [if_pos h6] at hf
      refine lv_iconst (v := 0) hx hb nD_MOD_exceptions_14 (by decide) ?_
      exact bk_MOD_exceptions_15 F9 a1 a2 a3 (0 : Int32)  hw (lv_sub hl [0, 1, 2, 3] rfl) hf
    · rw [if_neg h6] at hf
      exact bk_MOD_exceptions_10 F9 a1 a2 a3  hw (lv_sub hl [0, 1, 2, 3] rfl) hf
end MT
