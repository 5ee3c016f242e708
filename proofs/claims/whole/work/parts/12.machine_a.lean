def fn_TM_isRegister (a0 : Int32) (σ : sg_T) : Option (Int32 × sg_T) := if a0 < 0 then some ((0 : Int32), σ) else if (4 : Int32) ≤ a0 then some ((0 : Int32), σ) else some ((1 : Int32), σ)
def fn_TM_floating (a1 : Int32) (σ : sg_T) : Option (Int32 × sg_T) := (fn_TM_isRegister a1 σ).bind (fun z1 => if z1.1 = 0 then some ((0 : Int32), z1.2) else gt_d (ib_I a1 5) (some (z1.2 6 (tn_I a1), z1.2)))
def fn_TM_general (a1 : Int32) (σ : sg_T) : Option (Int32 × sg_T) := (fn_TM_isRegister a1 σ).bind (fun z1 => if z1.1 = 0 then some ((0 : Int32), z1.2) else gt_d (ib_I a1 4) (some (z1.2 10 (tn_I a1), z1.2)))
def fn_TM_isPlace (a0 : Int32) (σ : sg_T) : Option (Int32 × sg_T) := if a0 < 0 then some ((0 : Int32), σ) else if (32 : Int32) ≤ a0 then some ((0 : Int32), σ) else some ((1 : Int32), σ)
def fn_TM_word (a1 : Int32) (σ : sg_T) : Option (Int32 × sg_T) := (fn_TM_isPlace a1 σ).bind (fun z1 => if z1.1 = 0 then some ((0 : Int32), z1.2) else gt_d (ib_I a1 32) (some (z1.2 11 (tn_I a1), z1.2)))
def fb_TM_tag_12 (a1 : Int32) (σ : sg_T) : Option (Int32 × sg_T) := gt_d (ib_I a1 5) (some (σ 7 (tn_I a1), σ))
def fn_TM_tag (a1 : Int32) (σ : sg_T) : Option (Int32 × sg_T) := (fn_TM_isRegister a1 σ).bind (fun z1 => if z1.1 = 0 then if a1 = (4 : Int32) then fb_TM_tag_12 a1 z1.2 else some ((-1 : Int32), z1.2) else fb_TM_tag_12 a1 z1.2)
def fn_TM_place (a1 : Int32) (σ : sg_T) : Option (Int32 × sg_T) := if a1 < (1 : Int32) then some ((-1 : Int32), σ) else if (12 : Int32) < a1 then some ((-1 : Int32), σ) else gt_d (ib_I a1 13) (some (σ 12 (tn_I a1), σ))
def fn_TM_about (a1 : Int32) (σ : sg_T) : Option (Int32 × sg_T) := if a1 = 0 then some (σ 0 3, σ) else if a1 = 1 then some (σ 0 4, σ) else if a1 = 2 then some (σ 0 5, σ) else if a1 = 3 then gt_d (ib_I (4 : Int32) 5) (some (σ 6 (tn_I (4 : Int32)), σ)) else if a1 = 4 then some (σ 0 6, σ) else if a1 = 5 then some (σ 0 7, σ) else if a1 = 6 then some (σ 0 2, σ) else some ((-1 : Int32), σ)
def fn_TM_usesStorage (a0 : Int32) (σ : sg_T) : Option (Int32 × sg_T) := if a0 = 0 then some ((1 : Int32), σ) else if a0 = (1 : Int32) then some ((1 : Int32), σ) else some ((0 : Int32), σ)
def fn_TM_isInstruction (a1 : Int32) (σ : sg_T) : Option (Int32 × sg_T) := if a1 < 0 then some ((0 : Int32), σ) else if (σ 0 2) ≤ a1 then some ((0 : Int32), σ) else some ((1 : Int32), σ)
def fn_TM_isBusy (σ : sg_T) : Option (Int32 × sg_T) := if (σ 0 3) = 0 then some ((1 : Int32), σ) else if (σ 0 3) = (1 : Int32) then some ((1 : Int32), σ) else some ((0 : Int32), σ)
def fb_TM_firstLike_3 : Nat → Int32 → Int32 → Int32 → sg_T → Option (Int32 × sg_T)
  | 0, _, _, _, _ => none
  | n + 1, a1, a3, a4, σ => if a3 < a4 then some ((-1 : Int32), σ) else gt_d (ib_I a4 13) (if (σ 12 (tn_I a4)) = a1 then some (a4, σ) else fb_TM_firstLike_3 n a1 a3 (a4 + (1 : Int32)) σ)
def fn_TM_firstLike (a1 : Int32) (a2 : Int32) (a3 : Int32) (σ : sg_T) : Option (Int32 × sg_T) := fb_TM_firstLike_3 14 a1 a3 a2 σ
def fn_TM_note (a1 : Int32) (σ : sg_T) : Option (sg_T) := if a1 = 0 then some (σ) else some (sg_up (sg_up σ 0 5 ((σ 0 5) ||| a1)) 0 3 (1 : Int32))
def fb_TM_send_37 : Nat → Int32 → Nat → Int32 → sg_T → Option (sg_T)
  | 0, _, _, _, _ => none
  | n + 1, a1, a2, a3, σ => if (4 : Int32) < a3 then (fn_TM_note ((sg_up σ 12 a2 (0 : Int32)) 16 a2) (sg_up σ 12 a2 (0 : Int32))).bind (fun z4 => some (z4)) else gt_d (ib_I a3 5) ((fn_OPD_hear (tn_I a3) a1 (σ 15 a2) σ).bind (fun z6 => fb_TM_send_37 n a1 a2 (a3 + (1 : Int32)) z6))
def fb_TM_send_9 : Nat → Int32 → Nat → Int32 → sg_T → Option (sg_T)
  | 0, _, _, _, _ => none
  | n + 1, a1, a2, a3, σ => if (12 : Int32) < a3 then fb_TM_send_37 14 a1 a2 (0 : Int32) σ else gt_d (ib_I a3 13) ((fn_UNI_hear (tn_I a3) a1 (σ 15 a2) σ).bind (fun z8 => fb_TM_send_9 n a1 a2 (a3 + (1 : Int32)) z8))
def fn_TM_send (a1 : Int32) (σ : sg_T) : Option (sg_T) := gt_d (ib_I a1 13) (fb_TM_send_9 14 a1 (tn_I a1) (1 : Int32) σ)
def fb_TM_useBus_23 (a1 : Int32) (σ : sg_T) : Option (sg_T) := if a1 = (-1 : Int32) then some (σ) else (fn_TM_send a1 σ).bind (fun z4 => some (z4))
def fn_TM_useBus (σ : sg_T) : Option (sg_T) := (fn_TM_firstLike (3 : Int32) (6 : Int32) (9 : Int32) σ).bind (fun z1 => if z1.1 = (-1 : Int32) then (fn_TM_firstLike (3 : Int32) (1 : Int32) (5 : Int32) z1.2).bind (fun z5 => fb_TM_useBus_23 z5.1 z5.2) else fb_TM_useBus_23 z1.1 z1.2)
section MT
variable {p : Program} {l : Launch} {e : Env} {s : State} {m : MethodId} {args : Array Value} {below : List Frame} {meth : Method} {c : Code} {x : cx_T}
set_option maxRecDepth 100000 in
set_option maxHeartbeats 4000000 in
theorem ct_TM_isRegister (l : Launch) (x : cx_T) (a0 : Int32) (σ : sg_T) (z : Int32 × sg_T) (hf : fn_TM_isRegister a0 σ = some z) : ct_i l nN_TM_isRegister nC_TM_isRegister 1 (some .boolean) 0 x [.int a0] σ z.1 z.2 := by
  refine en_i (own := nR_TM) (by decide) (Nat.le_of_ble_eq_true rfl) rfl ?_
  intro p e s m below meth c ls F hw hl
  have F9 := F
  obtain ⟨hx, hb, hml, hr, hlk, hown, hT⟩ := F
  have hl : lv_has ls 1 [(0, .int a0)] := hl
  unfold fn_TM_isRegister at hf
  refine lv_iload_n hx hb nD_TM_isRegister_0 rfl (lv_at hl 0 rfl) ?_
  refine lv_if_lt (tgt := 13) hx hb nD_TM_isRegister_1 (by decide) (fun h1 => ?_) (fun h1 => ?_)
  · rw [if_pos h1] at hf
    refine lv_iconst (v := 0) hx hb nD_TM_isRegister_13 (by decide) ?_
    exact rt_i F9 hw rfl nD_TM_isRegister_14 hf
  · rw [if_neg h1] at hf
    refine lv_iload_n hx hb nD_TM_isRegister_4 rfl (lv_at hl 0 rfl) ?_
    refine lv_iconst (v := 4) hx hb nD_TM_isRegister_5 (by decide) ?_
    refine lv_icmp_ge (tgt := 13) hx hb nD_TM_isRegister_6 (by decide) (fun h2 => ?_) (fun h2 => ?_)
    · rw [if_pos h2] at hf
      refine lv_iconst (v := 0) hx hb nD_TM_isRegister_13 (by decide) ?_
      exact rt_i F9 hw rfl nD_TM_isRegister_14 hf
    · rw [if_neg h2] at hf
      refine lv_iconst (v := 1) hx hb nD_TM_isRegister_9 (by decide) ?_
      refine lv_goto (tgt := 14) hx hb nD_TM_isRegister_10 (by decide) ?_
      exact rt_i F9 hw rfl nD_TM_isRegister_14 hf
set_option maxRecDepth 100000 in
set_option maxHeartbeats 4000000 in
theorem ct_TM_floating (l : Launch) (x : cx_T) (a1 : Int32) (σ : sg_T) (z : Int32 × sg_T) (hf : fn_TM_floating a1 σ = some z) : ct_i l nN_TM_floating nC_TM_floating 2 (some .int) 1 x [.ref (x.2.2 0), .int a1] σ z.1 z.2 := by
  refine en_i (own := nR_TM) (by decide) (Nat.le_of_ble_eq_true rfl) rfl ?_
  intro p e s m below meth c ls F hw hl
  have F9 := F
  obtain ⟨hx, hb, hml, hr, hlk, hown, hT⟩ := F
  have hl : lv_has ls 2 [(0, .ref (x.2.2 0)), (1, .int a1)] := hl
  unfold fn_TM_floating at hf
  refine lv_iload_n hx hb nD_TM_floating_0 rfl (lv_at hl 1 rfl) ?_
  obtain ⟨z1, hz1, hf⟩ := bd_of hf
  refine cl_si (As := [.int a1]) (rest := []) F9 hw (ct_TM_isRegister l x a1  _ _ hz1) wc_TM_67 hd_TM_isRegister (by decide) hl rfl (Nat.le_of_ble_eq_true rfl) nD_TM_floating_1 (fun H locs hw => ?_)
  refine lv_if_eq (tgt := 19) hx hb nD_TM_floating_4 (by decide) (fun h2 => ?_) (fun h2 => ?_)
  · rw [if_pos h2] at hf
    refine lv_iconst (v := 0) hx hb nD_TM_floating_19 (by decide) ?_
    exact rt_i F9 hw rfl nD_TM_floating_20 hf
  · rw [if_neg h2] at hf
    refine lv_aload_n hx hb nD_TM_floating_7 rfl (lv_at hl 0 rfl) ?_
    refine rd_TM_TM_registers F9 hw nD_TM_floating_8 ?_
    refine lv_iload_n hx hb nD_TM_floating_11 rfl (lv_at hl 1 rfl) ?_
    obtain ⟨g3, hf⟩ := gt_of hf
    refine al_registers F9 hw g3 nD_TM_floating_12 ?_
    refine rd_TM_OPD_value F9 hw (Nat.lt_of_lt_of_le (ib_lt g3) (by decide)) nD_TM_floating_13 ?_
    refine lv_goto (tgt := 20) hx hb nD_TM_floating_16 (by decide) ?_
    exact rt_i F9 hw rfl nD_TM_floating_20 hf
set_option maxRecDepth 100000 in
set_option maxHeartbeats 4000000 in
theorem ct_TM_general (l : Launch) (x : cx_T) (a1 : Int32) (σ : sg_T) (z : Int32 × sg_T) (hf : fn_TM_general a1 σ = some z) : ct_i l nN_TM_general nC_TM_general 2 (some .int) 1 x [.ref (x.2.2 0), .int a1] σ z.1 z.2 := by
  refine en_i (own := nR_TM) (by decide) (Nat.le_of_ble_eq_true rfl) rfl ?_
  intro p e s m below meth c ls F hw hl
  have F9 := F
  obtain ⟨hx, hb, hml, hr, hlk, hown, hT⟩ := F
  have hl : lv_has ls 2 [(0, .ref (x.2.2 0)), (1, .int a1)] := hl
  unfold fn_TM_general at hf
  refine lv_iload_n hx hb nD_TM_general_0 rfl (lv_at hl 1 rfl) ?_
  obtain ⟨z1, hz1, hf⟩ := bd_of hf
  refine cl_si (As := [.int a1]) (rest := []) F9 hw (ct_TM_isRegister l x a1  _ _ hz1) wc_TM_67 hd_TM_isRegister (by decide) hl rfl (Nat.le_of_ble_eq_true rfl) nD_TM_general_1 (fun H locs hw => ?_)
  refine lv_if_eq (tgt := 16) hx hb nD_TM_general_4 (by decide) (fun h2 => ?_) (fun h2 => ?_)
  · rw [if_pos h2] at hf
    refine lv_iconst (v := 0) hx hb nD_TM_general_16 (by decide) ?_
    exact rt_i F9 hw rfl nD_TM_general_17 hf
  · rw [if_neg h2] at hf
    refine lv_aload_n hx hb nD_TM_general_7 rfl (lv_at hl 0 rfl) ?_
    refine rd_TM_TM_integers F9 hw nD_TM_general_8 ?_
    refine lv_iload_n hx hb nD_TM_general_11 rfl (lv_at hl 1 rfl) ?_
    obtain ⟨g3, hf⟩ := gt_of hf
    refine al_integers F9 hw g3 nD_TM_general_12 ?_
    refine lv_goto (tgt := 17) hx hb nD_TM_general_13 (by decide) ?_
    exact rt_i F9 hw rfl nD_TM_general_17 hf
set_option maxRecDepth 100000 in
set_option maxHeartbeats 4000000 in
theorem ct_TM_isPlace (l : Launch) (x : cx_T) (a0 : Int32) (σ : sg_T) (z : Int32 × sg_T) (hf : fn_TM_isPlace a0 σ = some z) : ct_i l nN_TM_isPlace nC_TM_isPlace 1 (some .boolean) 0 x [.int a0] σ z.1 z.2 := by
  refine en_i (own := nR_TM) (by decide) (Nat.le_of_ble_eq_true rfl) rfl ?_
  intro p e s m below meth c ls F hw hl
  have F9 := F
  obtain ⟨hx, hb, hml, hr, hlk, hown, hT⟩ := F
  have hl : lv_has ls 1 [(0, .int a0)] := hl
  unfold fn_TM_isPlace at hf
  refine lv_iload_n hx hb nD_TM_isPlace_0 rfl (lv_at hl 0 rfl) ?_
  refine lv_if_lt (tgt := 14) hx hb nD_TM_isPlace_1 (by decide) (fun h1 => ?_) (fun h1 => ?_)
  · rw [if_pos h1] at hf
    refine lv_iconst (v := 0) hx hb nD_TM_isPlace_14 (by decide) ?_
    exact rt_i F9 hw rfl nD_TM_isPlace_15 hf
  · rw [if_neg h1] at hf
    refine lv_iload_n hx hb nD_TM_isPlace_4 rfl (lv_at hl 0 rfl) ?_
    refine lv_bipush (v := 32) hx hb nD_TM_isPlace_5 (by decide) ?_
    refine lv_icmp_ge (tgt := 14) hx hb nD_TM_isPlace_7 (by decide) (fun h2 => ?_) (fun h2 => ?_)
    · rw [if_pos h2] at hf
      refine lv_iconst (v := 0) hx hb nD_TM_isPlace_14 (by decide) ?_
      exact rt_i F9 hw rfl nD_TM_isPlace_15 hf
    · rw [if_neg h2] at hf
      refine lv_iconst (v := 1) hx hb nD_TM_isPlace_10 (by decide) ?_
      refine lv_goto (tgt := 15) hx hb nD_TM_isPlace_11 (by decide) ?_
      exact rt_i F9 hw rfl nD_TM_isPlace_15 hf
set_option maxRecDepth 100000 in
set_option maxHeartbeats 4000000 in
theorem ct_TM_word (l : Launch) (x : cx_T) (a1 : Int32) (σ : sg_T) (z : Int32 × sg_T) (hf : fn_TM_word a1 σ = some z) : ct_i l nN_TM_word nC_TM_word 2 (some .int) 1 x [.ref (x.2.2 0), .int a1] σ z.1 z.2 := by
  refine en_i (own := nR_TM) (by decide) (Nat.le_of_ble_eq_true rfl) rfl ?_
  intro p e s m below meth c ls F hw hl
  have F9 := F
  obtain ⟨hx, hb, hml, hr, hlk, hown, hT⟩ := F
  have hl : lv_has ls 2 [(0, .ref (x.2.2 0)), (1, .int a1)] := hl
  unfold fn_TM_word at hf
  refine lv_iload_n hx hb nD_TM_word_0 rfl (lv_at hl 1 rfl) ?_
  obtain ⟨z1, hz1, hf⟩ := bd_of hf
  refine cl_si (As := [.int a1]) (rest := []) F9 hw (ct_TM_isPlace l x a1  _ _ hz1) wc_TM_104 hd_TM_isPlace (by decide) hl rfl (Nat.le_of_ble_eq_true rfl) nD_TM_word_1 (fun H locs hw => ?_)
  refine lv_if_eq (tgt := 16) hx hb nD_TM_word_4 (by decide) (fun h2 => ?_) (fun h2 => ?_)
  · rw [if_pos h2] at hf
    refine lv_iconst (v := 0) hx hb nD_TM_word_16 (by decide) ?_
    exact rt_i F9 hw rfl nD_TM_word_17 hf
  · rw [if_neg h2] at hf
    refine lv_aload_n hx hb nD_TM_word_7 rfl (lv_at hl 0 rfl) ?_
    refine rd_TM_TM_words F9 hw nD_TM_word_8 ?_
    refine lv_iload_n hx hb nD_TM_word_11 rfl (lv_at hl 1 rfl) ?_
    obtain ⟨g3, hf⟩ := gt_of hf
    refine al_words F9 hw g3 nD_TM_word_12 ?_
    refine lv_goto (tgt := 17) hx hb nD_TM_word_13 (by decide) ?_
    exact rt_i F9 hw rfl nD_TM_word_17 hf
set_option maxRecDepth 100000 in
set_option maxHeartbeats 4000000 in
theorem bk_TM_tag_12 {z : Int32 × sg_T} (F : fx_F p s m args meth c nC_TM_tag 2 (some .int) nR_TM) (a1 : Int32) {σ : sg_T} {H : Heap} {locs : List Loc} {ls : Array Slot} (hw : ww_P x s H locs σ) (hl : lv_has ls 2 [(0, .ref (x.2.2 0)), (1, .int a1)]) (hf : fb_TM_tag_12 a1 σ = some z) : W p l e (rm_D 1) s m args below meth c H locs 0 0 (qi_Q x s below args z.1 z.2) (F0 m 12 ls []) := by
  have F9 := F
  obtain ⟨hx, hb, hml, hr, hlk, hown, hT⟩ := F
  unfold fb_TM_tag_12 at hf
  refine lv_aload_n hx hb nD_TM_tag_12 rfl (lv_at hl 0 rfl) ?_
  refine rd_TM_TM_registers F9 hw nD_TM_tag_13 ?_
  refine lv_iload_n hx hb nD_TM_tag_16 rfl (lv_at hl 1 rfl) ?_
  obtain ⟨g3, hf⟩ := gt_of hf
  refine al_registers F9 hw g3 nD_TM_tag_17 ?_
  refine rd_TM_OPD_awaited F9 hw (Nat.lt_of_lt_of_le (ib_lt g3) (by decide)) nD_TM_tag_18 ?_
  refine lv_goto (tgt := 25) hx hb nD_TM_tag_21 (by decide) ?_
  exact rt_i F9 hw rfl nD_TM_tag_25 hf
set_option maxRecDepth 100000 in
set_option maxHeartbeats 4000000 in
theorem ct_TM_tag (l : Launch) (x : cx_T) (a1 : Int32) (σ : sg_T) (z : Int32 × sg_T) (hf : fn_TM_tag a1 σ = some z) : ct_i l nN_TM_tag nC_TM_tag 2 (some .int) 1 x [.ref (x.2.2 0), .int a1] σ z.1 z.2 := by
  refine en_i (own := nR_TM) (by decide) (Nat.le_of_ble_eq_true rfl) rfl ?_
  intro p e s m below meth c ls F hw hl
  have F9 := F
  obtain ⟨hx, hb, hml, hr, hlk, hown, hT⟩ := F
  have hl : lv_has ls 2 [(0, .ref (x.2.2 0)), (1, .int a1)] := hl
  unfold fn_TM_tag at hf
  refine lv_iload_n hx hb nD_TM_tag_0 rfl (lv_at hl 1 rfl) ?_
  obtain ⟨z1, hz1, hf⟩ := bd_of hf
  refine cl_si (As := [.int a1]) (rest := []) F9 hw (ct_TM_isRegister l x a1  _ _ hz1) wc_TM_67 hd_TM_isRegister (by decide) hl rfl (Nat.le_of_ble_eq_true rfl) nD_TM_tag_1 (fun H locs hw => ?_)
  refine lv_if_ne (tgt := 12) hx hb nD_TM_tag_4 (by decide) (fun h2 => ?_) (fun h2 => ?_)
  · rw [if_neg h2] at hf
    exact bk_TM_tag_12 F9 a1  hw (lv_sub hl [0, 1] rfl) hf
  · rw [if_pos h2] at hf
    refine lv_iload_n hx hb nD_TM_tag_7 rfl (lv_at hl 1 rfl) ?_
    refine lv_iconst (v := 4) hx hb nD_TM_tag_8 (by decide) ?_
    refine lv_icmp_ne (tgt := 24) hx hb nD_TM_tag_9 (by decide) (fun h4 => ?_) (fun h4 => ?_)
    · rw [if_neg h4] at hf
      refine lv_iconst (v := -1) hx hb nD_TM_tag_24 (by decide) ?_
      exact rt_i F9 hw rfl nD_TM_tag_25 hf
    · rw [if_pos h4] at hf
      exact bk_TM_tag_12 F9 a1  hw (lv_sub hl [0, 1] rfl) hf
set_option maxRecDepth 100000 in
set_option maxHeartbeats 4000000 in
theorem ct_TM_place (l : Launch) (x : cx_T) (a1 : Int32) (σ : sg_T) (z : Int32 × sg_T) (hf : fn_TM_place a1 σ = some z) : ct_i l nN_TM_place nC_TM_place 2 (some .int) 0 x [.ref (x.2.2 0), .int a1] σ z.1 z.2 := by
  refine en_i (own := nR_TM) (by decide) (Nat.le_of_ble_eq_true rfl) rfl ?_
  intro p e s m below meth c ls F hw hl
  have F9 := F
  obtain ⟨hx, hb, hml, hr, hlk, hown, hT⟩ := F
  have hl : lv_has ls 2 [(0, .ref (x.2.2 0)), (1, .int a1)] := hl
  unfold fn_TM_place at hf
  refine lv_iload_n hx hb nD_TM_place_0 rfl (lv_at hl 1 rfl) ?_
  refine lv_iconst (v := 1) hx hb nD_TM_place_1 (by decide) ?_
  refine lv_icmp_lt (tgt := 23) hx hb nD_TM_place_2 (by decide) (fun h1 => ?_) (fun h1 => ?_)
  · rw [if_pos h1] at hf
    refine lv_iconst (v := -1) hx hb nD_TM_place_23 (by decide) ?_
    exact rt_i F9 hw rfl nD_TM_place_24 hf
  · rw [if_neg h1] at hf
    refine lv_iload_n hx hb nD_TM_place_5 rfl (lv_at hl 1 rfl) ?_
    refine lv_bipush (v := 12) hx hb nD_TM_place_6 (by decide) ?_
    refine lv_icmp_gt (tgt := 23) hx hb nD_TM_place_8 (by decide) (fun h2 => ?_) (fun h2 => ?_)
    · rw [if_pos h2] at hf
      refine lv_iconst (v := -1) hx hb nD_TM_place_23 (by decide) ?_
      exact rt_i F9 hw rfl nD_TM_place_24 hf
    · rw [if_neg h2] at hf
      refine lv_aload_n hx hb nD_TM_place_11 rfl (lv_at hl 0 rfl) ?_
      refine rd_TM_TM_units F9 hw nD_TM_place_12 ?_
      refine lv_iload_n hx hb nD_TM_place_15 rfl (lv_at hl 1 rfl) ?_
      obtain ⟨g3, hf⟩ := gt_of hf
      refine al_units F9 hw g3 nD_TM_place_16 ?_
      refine rd_TM_UNI_state F9 hw (ib_lt g3) nD_TM_place_17 ?_
      refine lv_goto (tgt := 24) hx hb nD_TM_place_20 (by decide) ?_
      exact rt_i F9 hw rfl nD_TM_place_24 hf
set_option maxRecDepth 100000 in
set_option maxHeartbeats 4000000 in
theorem ct_TM_about (l : Launch) (x : cx_T) (a1 : Int32) (σ : sg_T) (z : Int32 × sg_T) (hf : fn_TM_about a1 σ = some z) : ct_i l nN_TM_about nC_TM_about 2 (some .int) 0 x [.ref (x.2.2 0), .int a1] σ z.1 z.2 := by
  refine en_i (own := nR_TM) (by decide) (Nat.le_of_ble_eq_true rfl) rfl ?_
  intro p e s m below meth c ls F hw hl
  have F9 := F
  obtain ⟨hx, hb, hml, hr, hlk, hown, hT⟩ := F
  have hl : lv_has ls 2 [(0, .ref (x.2.2 0)), (1, .int a1)] := hl
  unfold fn_TM_about at hf
  refine lv_iload_n hx hb nD_TM_about_0 rfl (lv_at hl 1 rfl) ?_
  by_cases h1 : a1 = (0 : Int32)
  · rw [if_pos h1] at hf
    refine sw_in (tgt := 44) (0) hx hb nD_TM_about_1 h1 (by decide) (by decide) rfl (by decide) ?_
    refine lv_aload_n hx hb nD_TM_about_44 rfl (lv_at hl 0 rfl) ?_
    refine rd_TM_TM_mode F9 hw nD_TM_about_45 ?_
    exact rt_i F9 hw rfl nD_TM_about_48 hf
  rw [if_neg h1] at hf
  by_cases h2 : a1 = (1 : Int32)
  · rw [if_pos h2] at hf
    refine sw_in (tgt := 49) (1) hx hb nD_TM_about_1 h2 (by decide) (by decide) rfl (by decide) ?_
    refine lv_aload_n hx hb nD_TM_about_49 rfl (lv_at hl 0 rfl) ?_
    refine rd_TM_TM_next F9 hw nD_TM_about_50 ?_
    exact rt_i F9 hw rfl nD_TM_about_53 hf
  rw [if_neg h2] at hf
  by_cases h3 : a1 = (2 : Int32)
  · rw [if_pos h3] at hf
    refine sw_in (tgt := 54) (2) hx hb nD_TM_about_1 h3 (by decide) (by decide) rfl (by decide) ?_
    refine lv_aload_n hx hb nD_TM_about_54 rfl (lv_at hl 0 rfl) ?_
    refine rd_TM_TM_noted F9 hw nD_TM_about_55 ?_
    exact rt_i F9 hw rfl nD_TM_about_58 hf
  rw [if_neg h3] at hf
  by_cases h4 : a1 = (3 : Int32)
  · rw [if_pos h4] at hf
    refine sw_in (tgt := 59) (3) hx hb nD_TM_about_1 h4 (by decide) (by decide) rfl (by decide) ?_
    refine lv_aload_n hx hb nD_TM_about_59 rfl (lv_at hl 0 rfl) ?_
    refine rd_TM_TM_registers F9 hw nD_TM_about_60 ?_
    refine lv_iconst (v := 4) hx hb nD_TM_about_63 (by decide) ?_
    obtain ⟨g5, hf⟩ := gt_of hf
    refine al_registers F9 hw g5 nD_TM_about_64 ?_
    refine rd_TM_OPD_value F9 hw (Nat.lt_of_lt_of_le (ib_lt g5) (by decide)) nD_TM_about_65 ?_
    exact rt_i F9 hw rfl nD_TM_about_68 hf
  rw [if_neg h4] at hf
  by_cases h6 : a1 = (4 : Int32)
  · rw [if_pos h6] at hf
    refine sw_in (tgt := 69) (4) hx hb nD_TM_about_1 h6 (by decide) (by decide) rfl (by decide) ?_
    refine lv_aload_n hx hb nD_TM_about_69 rfl (lv_at hl 0 rfl) ?_
    refine rd_TM_TM_cycles F9 hw nD_TM_about_70 ?_
    exact rt_i F9 hw rfl nD_TM_about_73 hf
  rw [if_neg h6] at hf
  by_cases h7 : a1 = (5 : Int32)
  · rw [if_pos h7] at hf
    refine sw_in (tgt := 74) (5) hx hb nD_TM_about_1 h7 (by decide) (by decide) rfl (by decide) ?_
    refine lv_aload_n hx hb nD_TM_about_74 rfl (lv_at hl 0 rfl) ?_
    refine rd_TM_TM_handedOut F9 hw nD_TM_about_75 ?_
    exact rt_i F9 hw rfl nD_TM_about_78 hf
  rw [if_neg h7] at hf
  by_cases h8 : a1 = (6 : Int32)
  · rw [if_pos h8] at hf
    refine sw_in (tgt := 79) (6) hx hb nD_TM_about_1 h8 (by decide) (by decide) rfl (by decide) ?_
    refine lv_aload_n hx hb nD_TM_about_79 rfl (lv_at hl 0 rfl) ?_
    refine rd_TM_TM_instructions F9 hw nD_TM_about_80 ?_
    exact rt_i F9 hw rfl nD_TM_about_83 hf
  rw [if_neg h8] at hf
  refine lv_tableOut (tgt := 84) hx hb nD_TM_about_1 (by have q0 := it_ne h1; have q1 := it_ne h2; have q2 := it_ne h3; have q3 := it_ne h4; have q4 := it_ne h6; have q5 := it_ne h7; have q6 := it_ne h8; simp only [show (0 : Int32).toInt = 0 from rfl, show (1 : Int32).toInt = 1 from rfl, show (2 : Int32).toInt = 2 from rfl, show (3 : Int32).toInt = 3 from rfl, show (4 : Int32).toInt = 4 from rfl, show (5 : Int32).toInt = 5 from rfl, show (6 : Int32).toInt = 6 from rfl] at *; omega) (by decide) ?_
  refine lv_iconst (v := -1) hx hb nD_TM_about_84 (by decide) ?_
  exact rt_i F9 hw rfl nD_TM_about_85 hf
set_option maxRecDepth 100000 in
set_option maxHeartbeats 4000000 in
theorem ct_TM_usesStorage (l : Launch) (x : cx_T) (a0 : Int32) (σ : sg_T) (z : Int32 × sg_T) (hf : fn_TM_usesStorage a0 σ = some z) : ct_i l nN_TM_usesStorage nC_TM_usesStorage 1 (some .boolean) 0 x [.int a0] σ z.1 z.2 := by
  refine en_i (own := nR_TM) (by decide) (Nat.le_of_ble_eq_true rfl) rfl ?_
  intro p e s m below meth c ls F hw hl
  have F9 := F
  obtain ⟨hx, hb, hml, hr, hlk, hown, hT⟩ := F
  have hl : lv_has ls 1 [(0, .int a0)] := hl
  unfold fn_TM_usesStorage at hf
  refine lv_iload_n hx hb nD_TM_usesStorage_0 rfl (lv_at hl 0 rfl) ?_
  refine lv_if_eq (tgt := 9) hx hb nD_TM_usesStorage_1 (by decide) (fun h1 => ?_) (fun h1 => ?_)
  · rw [if_pos h1] at hf
    refine lv_iconst (v := 1) hx hb nD_TM_usesStorage_9 (by decide) ?_
    refine lv_goto (tgt := 14) hx hb nD_TM_usesStorage_10 (by decide) ?_
    exact rt_i F9 hw rfl nD_TM_usesStorage_14 hf
  · rw [if_neg h1] at hf
    refine lv_iload_n hx hb nD_TM_usesStorage_4 rfl (lv_at hl 0 rfl) ?_
    refine lv_iconst (v := 1) hx hb nD_TM_usesStorage_5 (by decide) ?_
    refine lv_icmp_ne (tgt := 13) hx hb nD_TM_usesStorage_6 (by decide) (fun h2 => ?_) (fun h2 => ?_)
    · rw [if_neg h2] at hf
      refine lv_iconst (v := 0) hx hb nD_TM_usesStorage_13 (by decide) ?_
      exact rt_i F9 hw rfl nD_TM_usesStorage_14 hf
    · rw [if_pos h2] at hf
      refine lv_iconst (v := 1) hx hb nD_TM_usesStorage_9 (by decide) ?_
      refine lv_goto (tgt := 14) hx hb nD_TM_usesStorage_10 (by decide) ?_
      exact rt_i F9 hw rfl nD_TM_usesStorage_14 hf
set_option maxRecDepth 100000 in
set_option maxHeartbeats 4000000 in
theorem ct_TM_isInstruction (l : Launch) (x : cx_T) (a1 : Int32) (σ : sg_T) (z : Int32 × sg_T) (hf : fn_TM_isInstruction a1 σ = some z) : ct_i l nN_TM_isInstruction nC_TM_isInstruction 2 (some .boolean) 0 x [.ref (x.2.2 0), .int a1] σ z.1 z.2 := by
  refine en_i (own := nR_TM) (by decide) (Nat.le_of_ble_eq_true rfl) rfl ?_
  intro p e s m below meth c ls F hw hl
  have F9 := F
  obtain ⟨hx, hb, hml, hr, hlk, hown, hT⟩ := F
  have hl : lv_has ls 2 [(0, .ref (x.2.2 0)), (1, .int a1)] := hl
  unfold fn_TM_isInstruction at hf
  refine lv_iload_n hx hb nD_TM_isInstruction_0 rfl (lv_at hl 1 rfl) ?_
  refine lv_if_lt (tgt := 16) hx hb nD_TM_isInstruction_1 (by decide) (fun h1 => ?_) (fun h1 => ?_)
  · rw [if_pos h1] at hf
    refine lv_iconst (v := 0) hx hb nD_TM_isInstruction_16 (by decide) ?_
    exact rt_i F9 hw rfl nD_TM_isInstruction_17 hf
  · rw [if_neg h1] at hf
    refine lv_iload_n hx hb nD_TM_isInstruction_4 rfl (lv_at hl 1 rfl) ?_
    refine lv_aload_n hx hb nD_TM_isInstruction_5 rfl (lv_at hl 0 rfl) ?_
    refine rd_TM_TM_instructions F9 hw nD_TM_isInstruction_6 ?_
    refine lv_icmp_ge (tgt := 16) hx hb nD_TM_isInstruction_9 (by decide) (fun h2 => ?_) (fun h2 => ?_)
    · rw [if_pos h2] at hf
      refine lv_iconst (v := 0) hx hb nD_TM_isInstruction_16 (by decide) ?_
      exact rt_i F9 hw rfl nD_TM_isInstruction_17 hf
    · rw [if_neg h2] at hf
      refine lv_iconst (v := 1) hx hb nD_TM_isInstruction_12 (by decide) ?_
      refine lv_goto (tgt := 17) hx hb nD_TM_isInstruction_13 (by decide) ?_
      exact rt_i F9 hw rfl nD_TM_isInstruction_17 hf
set_option maxRecDepth 100000 in
set_option maxHeartbeats 4000000 in
theorem ct_TM_isBusy (l : Launch) (x : cx_T) (σ : sg_T) (z : Int32 × sg_T) (hf : fn_TM_isBusy  σ = some z) : ct_i l nN_TM_isBusy nC_TM_isBusy 1 (some .boolean) 0 x [.ref (x.2.2 0)] σ z.1 z.2 := by
  refine en_i (own := nR_TM) (by decide) (Nat.le_of_ble_eq_true rfl) rfl ?_
  intro p e s m below meth c ls F hw hl
  have F9 := F
  obtain ⟨hx, hb, hml, hr, hlk, hown, hT⟩ := F
  have hl : lv_has ls 1 [(0, .ref (x.2.2 0))] := hl
  unfold fn_TM_isBusy at hf
  refine lv_aload_n hx hb nD_TM_isBusy_0 rfl (lv_at hl 0 rfl) ?_
  refine rd_TM_TM_mode F9 hw nD_TM_isBusy_1 ?_
  refine lv_if_eq (tgt := 15) hx hb nD_TM_isBusy_4 (by decide) (fun h1 => ?_) (fun h1 => ?_)
  · rw [if_pos h1] at hf
    refine lv_iconst (v := 1) hx hb nD_TM_isBusy_15 (by decide) ?_
    refine lv_goto (tgt := 20) hx hb nD_TM_isBusy_16 (by decide) ?_
    exact rt_i F9 hw rfl nD_TM_isBusy_20 hf
  · rw [if_neg h1] at hf
    refine lv_aload_n hx hb nD_TM_isBusy_7 rfl (lv_at hl 0 rfl) ?_
    refine rd_TM_TM_mode F9 hw nD_TM_isBusy_8 ?_
    refine lv_iconst (v := 1) hx hb nD_TM_isBusy_11 (by decide) ?_
    refine lv_icmp_ne (tgt := 19) hx hb nD_TM_isBusy_12 (by decide) (fun h2 => ?_) (fun h2 => ?_)
    · rw [if_neg h2] at hf
      refine lv_iconst (v := 0) hx hb nD_TM_isBusy_19 (by decide) ?_
      exact rt_i F9 hw rfl nD_TM_isBusy_20 hf
    · rw [if_pos h2] at hf
      refine lv_iconst (v := 1) hx hb nD_TM_isBusy_15 (by decide) ?_
      refine lv_goto (tgt := 20) hx hb nD_TM_isBusy_16 (by decide) ?_
      exact rt_i F9 hw rfl nD_TM_isBusy_20 hf
set_option maxRecDepth 100000 in
set_option maxHeartbeats 4000000 in
theorem bk_TM_firstLike_3 {z : Int32 × sg_T} (F : fx_F p s m args meth c nC_TM_firstLike 5 (some .int) nR_TM) : ∀ (n : Nat) (a1 : Int32) (a3 : Int32) (a4 : Int32) (σ : sg_T) (H : Heap) (locs : List Loc) (ls : Array Slot), ww_P x s H locs σ → lv_has ls 5 [(0, .ref (x.2.2 0)), (1, .int a1), (3, .int a3), (4, .int a4)] → fb_TM_firstLike_3 n a1 a3 a4 σ = some z → W p l e (rm_D 0) s m args below meth c H locs 0 0 (qi_Q x s below args z.1 z.2) (F0 m 3 ls []) := by
  have F9 := F
  obtain ⟨hx, hb, hml, hr, hlk, hown, hT⟩ := F
  intro n
  induction n with
  | zero =>
    intro a1 a3 a4 σ H locs ls  hw hl hf
    simp [fb_TM_firstLike_3] at hf
  | succ n ih =>
    intro a1 a3 a4 σ H locs ls  hw hl hf
    unfold fb_TM_firstLike_3 at hf
    refine lv_iload hx hb nD_TM_firstLike_3 (lv_at hl 3 rfl) ?_
    refine lv_iload_n hx hb nD_TM_firstLike_5 rfl (lv_at hl 2 rfl) ?_
    refine lv_icmp_gt (tgt := 32) hx hb nD_TM_firstLike_6 (by decide) (fun h1 => ?_) (fun h1 => ?_)
    · rw [if_pos h1] at hf
      refine lv_iconst (v := -1) hx hb nD_TM_firstLike_32 (by decide) ?_
      exact rt_i F9 hw rfl nD_TM_firstLike_33 hf
    · rw [if_neg h1] at hf
      refine lv_aload_n hx hb nD_TM_firstLike_9 rfl (lv_at hl 0 rfl) ?_
      refine rd_TM_TM_units F9 hw nD_TM_firstLike_10 ?_
      refine lv_iload hx hb nD_TM_firstLike_13 (lv_at hl 3 rfl) ?_
      obtain ⟨g2, hf⟩ := gt_of hf
      refine al_units F9 hw g2 nD_TM_firstLike_15 ?_
      refine rd_TM_UNI_state F9 hw (ib_lt g2) nD_TM_firstLike_16 ?_
      refine lv_iload_n hx hb nD_TM_firstLike_19 rfl (lv_at hl 1 rfl) ?_
      refine lv_icmp_ne (tgt := 26) hx hb nD_TM_firstLike_20 (by decide) (fun h3 => ?_) (fun h3 => ?_)
      · rw [if_neg h3] at hf
        refine lv_iinc (k := 3) (v := a4 + (1 : Int32)) (lv' := [(4, .int (a4 + (1 : Int32))), (0, .ref (x.2.2 0)), (1, .int a1), (3, .int a3)]) hx hb nD_TM_firstLike_26 hl rfl (ic_p1 _) (by decide) rfl (fun ls hl => ?_)
        refine lv_goto (tgt := 3) hx hb nD_TM_firstLike_29 (by decide) ?_
        exact ih a1 a3 (a4 + (1 : Int32)) _ _ _ _  hw (lv_sub hl [1, 2, 3, 0] rfl) hf
      · rw [if_pos h3] at hf
        refine lv_iload hx hb nD_TM_firstLike_23 (lv_at hl 3 rfl) ?_
        exact rt_i F9 hw rfl nD_TM_firstLike_25 hf
set_option maxRecDepth 100000 in
set_option maxHeartbeats 4000000 in
theorem ct_TM_firstLike (l : Launch) (x : cx_T) (a1 : Int32) (a2 : Int32) (a3 : Int32) (σ : sg_T) (z : Int32 × sg_T) (hf : fn_TM_firstLike a1 a2 a3 σ = some z) : ct_i l nN_TM_firstLike nC_TM_firstLike 5 (some .int) 0 x [.ref (x.2.2 0), .int a1, .int a2, .int a3] σ z.1 z.2 := by
  refine en_i (own := nR_TM) (by decide) (Nat.le_of_ble_eq_true rfl) rfl ?_
  intro p e s m below meth c ls F hw hl
  have F9 := F
  obtain ⟨hx, hb, hml, hr, hlk, hown, hT⟩ := F
  have hl : lv_has ls 5 [(0, .ref (x.2.2 0)), (1, .int a1), (2, .int a2), (3, .int a3)] := hl
  unfold fn_TM_firstLike at hf
  refine lv_iload_n hx hb nD_TM_firstLike_0 rfl (lv_at hl 2 rfl) ?_
  refine lv_istore (lv' := [(4, .int a2), (0, .ref (x.2.2 0)), (1, .int a1), (2, .int a2), (3, .int a3)]) hx hb nD_TM_firstLike_1 hl (by decide) rfl (fun ls hl => ?_)
  exact bk_TM_firstLike_3 F9 14 a1 a3 a2 _ _ _ _  hw (lv_sub hl [1, 2, 4, 0] rfl) hf
set_option maxRecDepth 100000 in
set_option maxHeartbeats 4000000 in
theorem ct_TM_note (l : Launch) (x : cx_T) (a1 : Int32) (σ : sg_T) (z : sg_T) (hf : fn_TM_note a1 σ = some z) : ct_v l nN_TM_note nC_TM_note 2 0 x [.ref (x.2.2 0), .int a1] σ z := by
  refine en_v (own := nR_TM) (by decide) (Nat.le_of_ble_eq_true rfl) rfl ?_
  intro p e s m below meth c ls F hw hl
  have F9 := F
  obtain ⟨hx, hb, hml, hr, hlk, hown, hT⟩ := F
  have hl : lv_has ls 2 [(0, .ref (x.2.2 0)), (1, .int a1)] := hl
  unfold fn_TM_note at hf
  refine lv_iload_n hx hb nD_TM_note_0 rfl (lv_at hl 1 rfl) ?_
  refine lv_if_eq (tgt := 19) hx hb nD_TM_note_1 (by decide) (fun h1 => ?_) (fun h1 => ?_)
  · rw [if_pos h1] at hf
    exact rt_v F9 hw nD_TM_note_19 hf
  · rw [if_neg h1] at hf
    refine lv_aload_n hx hb nD_TM_note_4 rfl (lv_at hl 0 rfl) ?_
    refine lv_dup hx hb nD_TM_note_5 rfl ?_
    refine rd_TM_TM_noted F9 hw nD_TM_note_6 ?_
    refine lv_iload_n hx hb nD_TM_note_9 rfl (lv_at hl 1 rfl) ?_
    refine lv_ior hx hb nD_TM_note_10 ?_
    refine wr_TM_TM_noted F9 hw nD_TM_note_11 (fun H locs hw => ?_)
    refine lv_aload_n hx hb nD_TM_note_14 rfl (lv_at hl 0 rfl) ?_
    refine lv_iconst (v := 1) hx hb nD_TM_note_15 (by decide) ?_
    refine wr_TM_TM_mode F9 hw nD_TM_note_16 (fun H locs hw => ?_)
    exact rt_v F9 hw nD_TM_note_19 hf
set_option maxRecDepth 100000 in
set_option maxHeartbeats 4000000 in
theorem bk_TM_send_37 {z : sg_T} (F : fx_F p s m args meth c nC_TM_send 4 none nR_TM) : ∀ (n : Nat) (a1 : Int32) (a2 : Nat) (a3 : Int32) (σ : sg_T) (H : Heap) (locs : List Loc) (ls : Array Slot), a2 < 13 → ww_P x s H locs σ → lv_has ls 4 [(0, .ref (x.2.2 0)), (1, .int a1), (2, .ref (x.2.2 (69 + a2))), (3, .int a3)] → fb_TM_send_37 n a1 a2 a3 σ = some z → W p l e (rm_D 3) s m args below meth c H locs 0 0 (qv_Q x s below args z) (F0 m 37 ls []) := by
  have F9 := F
  obtain ⟨hx, hb, hml, hr, hlk, hown, hT⟩ := F
  intro n
  induction n with
  | zero =>
    intro a1 a2 a3 σ H locs ls ha2 hw hl hf
    simp [fb_TM_send_37] at hf
  | succ n ih =>
    intro a1 a2 a3 σ H locs ls ha2 hw hl hf
    unfold fb_TM_send_37 at hf
    refine lv_iload_n hx hb nD_TM_send_37 rfl (lv_at hl 3 rfl) ?_
    refine lv_iconst (v := 4) hx hb nD_TM_send_38 (by decide) ?_
    refine lv_icmp_gt (tgt := 62) hx hb nD_TM_send_39 (by decide) (fun h3 => ?_) (fun h3 => ?_)
    · rw [if_pos h3] at hf
      refine lv_aload_n hx hb nD_TM_send_62 rfl (lv_at hl 2 rfl) ?_
      refine lv_iconst (v := 0) hx hb nD_TM_send_63 (by decide) ?_
      refine wr_TM_UNI_state F9 hw ha2 nD_TM_send_64 (fun H locs hw => ?_)
      refine lv_aload_n hx hb nD_TM_send_67 rfl (lv_at hl 0 rfl) ?_
      refine lv_aload_n hx hb nD_TM_send_68 rfl (lv_at hl 2 rfl) ?_
      refine rd_TM_UNI_raised F9 hw ha2 nD_TM_send_69 ?_
      obtain ⟨z4, hz4, hf⟩ := bd_of hf
      refine cl_vv (As := [.int ((sg_up σ 12 a2 (0 : Int32)) 16 a2)]) (rest := []) F9 hw (ct_TM_note l x ((sg_up σ 12 a2 (0 : Int32)) 16 a2)  _ _ hz4) (rc_TM ) wc_TM_177 hd_TM_note (by decide) hl rfl (Nat.le_of_ble_eq_true rfl) nD_TM_send_72 (fun H locs hw => ?_)
      exact rt_v F9 hw nD_TM_send_75 hf
    · rw [if_neg h3] at hf
      refine lv_aload_n hx hb nD_TM_send_42 rfl (lv_at hl 0 rfl) ?_
      refine rd_TM_TM_registers F9 hw nD_TM_send_43 ?_
      refine lv_iload_n hx hb nD_TM_send_46 rfl (lv_at hl 3 rfl) ?_
      obtain ⟨g5, hf⟩ := gt_of hf
      refine al_registers F9 hw g5 nD_TM_send_47 ?_
      refine lv_iload_n hx hb nD_TM_send_48 rfl (lv_at hl 1 rfl) ?_
      refine lv_aload_n hx hb nD_TM_send_49 rfl (lv_at hl 2 rfl) ?_
      refine rd_TM_UNI_result F9 hw ha2 nD_TM_send_50 ?_
      obtain ⟨z6, hz6, hf⟩ := bd_of hf
      refine cl_vv (As := [.int a1, .int (σ 15 a2)]) (rest := []) F9 hw (ct_OPD_hear l x (tn_I a3) a1 (σ 15 a2) (Nat.lt_of_lt_of_le (ib_lt g5) (by decide)) _ _ hz6) (rc_OPD (Nat.lt_of_lt_of_le (ib_lt g5) (by decide))) wc_TM_175 hd_OPD_hear (by decide) hl rfl (Nat.le_of_ble_eq_true rfl) nD_TM_send_53 (fun H locs hw => ?_)
      refine lv_iinc (k := 3) (v := a3 + (1 : Int32)) (lv' := [(3, .int (a3 + (1 : Int32))), (0, .ref (x.2.2 0)), (1, .int a1), (2, .ref (x.2.2 (69 + a2)))]) hx hb nD_TM_send_56 hl rfl (ic_p1 _) (by decide) rfl (fun ls hl => ?_)
      refine lv_goto (tgt := 37) hx hb nD_TM_send_59 (by decide) ?_
      exact ih a1 a2 (a3 + (1 : Int32)) _ _ _ _ ha2 hw (lv_sub hl [1, 2, 3, 0] rfl) hf
set_option maxRecDepth 100000 in
set_option maxHeartbeats 4000000 in
theorem bk_TM_send_9 {z : sg_T} (F : fx_F p s m args meth c nC_TM_send 4 none nR_TM) : ∀ (n : Nat) (a1 : Int32) (a2 : Nat) (a3 : Int32) (σ : sg_T) (H : Heap) (locs : List Loc) (ls : Array Slot), a2 < 13 → ww_P x s H locs σ → lv_has ls 4 [(0, .ref (x.2.2 0)), (1, .int a1), (2, .ref (x.2.2 (69 + a2))), (3, .int a3)] → fb_TM_send_9 n a1 a2 a3 σ = some z → W p l e (rm_D 3) s m args below meth c H locs 0 0 (qv_Q x s below args z) (F0 m 9 ls []) := by
  have F9 := F
  obtain ⟨hx, hb, hml, hr, hlk, hown, hT⟩ := F
  intro n
  induction n with
  | zero =>
    intro a1 a2 a3 σ H locs ls ha2 hw hl hf
    simp [fb_TM_send_9] at hf
  | succ n ih =>
    intro a1 a2 a3 σ H locs ls ha2 hw hl hf
    unfold fb_TM_send_9 at hf
    refine lv_iload_n hx hb nD_TM_send_9 rfl (lv_at hl 3 rfl) ?_
    refine lv_bipush (v := 12) hx hb nD_TM_send_10 (by decide) ?_
    refine lv_icmp_gt (tgt := 35) hx hb nD_TM_send_12 (by decide) (fun h2 => ?_) (fun h2 => ?_)
    · rw [if_pos h2] at hf
      refine lv_iconst (v := 0) hx hb nD_TM_send_35 (by decide) ?_
      refine lv_istore_n (lv' := [(3, .int (0 : Int32)), (0, .ref (x.2.2 0)), (1, .int a1), (2, .ref (x.2.2 (69 + a2)))]) hx hb nD_TM_send_36 rfl hl (by decide) rfl (fun ls hl => ?_)
      exact bk_TM_send_37 F9 14 a1 a2 (0 : Int32) _ _ _ _ ha2 hw (lv_sub hl [1, 2, 3, 0] rfl) hf
    · rw [if_neg h2] at hf
      refine lv_aload_n hx hb nD_TM_send_15 rfl (lv_at hl 0 rfl) ?_
      refine rd_TM_TM_units F9 hw nD_TM_send_16 ?_
      refine lv_iload_n hx hb nD_TM_send_19 rfl (lv_at hl 3 rfl) ?_
      obtain ⟨g7, hf⟩ := gt_of hf
      refine al_units F9 hw g7 nD_TM_send_20 ?_
      refine lv_iload_n hx hb nD_TM_send_21 rfl (lv_at hl 1 rfl) ?_
      refine lv_aload_n hx hb nD_TM_send_22 rfl (lv_at hl 2 rfl) ?_
      refine rd_TM_UNI_result F9 hw ha2 nD_TM_send_23 ?_
      obtain ⟨z8, hz8, hf⟩ := bd_of hf
      refine cl_vv (As := [.int a1, .int (σ 15 a2)]) (rest := []) F9 hw (ct_UNI_hear l x (tn_I a3) a1 (σ 15 a2) (ib_lt g7) _ _ hz8) (rc_UNI (ib_lt g7)) wc_TM_171 hd_UNI_hear (by decide) hl rfl (Nat.le_of_ble_eq_true rfl) nD_TM_send_26 (fun H locs hw => ?_)
      refine lv_iinc (k := 3) (v := a3 + (1 : Int32)) (lv' := [(3, .int (a3 + (1 : Int32))), (0, .ref (x.2.2 0)), (1, .int a1), (2, .ref (x.2.2 (69 + a2)))]) hx hb nD_TM_send_29 hl rfl (ic_p1 _) (by decide) rfl (fun ls hl => ?_)
      refine lv_goto (tgt := 9) hx hb nD_TM_send_32 (by decide) ?_
      exact ih a1 a2 (a3 + (1 : Int32)) _ _ _ _ ha2 hw (lv_sub hl [1, 2, 3, 0] rfl) hf
set_option maxRecDepth 100000 in
set_option maxHeartbeats 4000000 in
theorem ct_TM_send (l : Launch) (x : cx_T) (a1 : Int32) (σ : sg_T) (z : sg_T) (hf : fn_TM_send a1 σ = some z) : ct_v l nN_TM_send nC_TM_send 4 3 x [.ref (x.2.2 0), .int a1] σ z := by
  refine en_v (own := nR_TM) (by decide) (Nat.le_of_ble_eq_true rfl) rfl ?_
  intro p e s m below meth c ls F hw hl
  have F9 := F
  obtain ⟨hx, hb, hml, hr, hlk, hown, hT⟩ := F
  have hl : lv_has ls 4 [(0, .ref (x.2.2 0)), (1, .int a1)] := hl
  unfold fn_TM_send at hf
  refine lv_aload_n hx hb nD_TM_send_0 rfl (lv_at hl 0 rfl) ?_
  refine rd_TM_TM_units F9 hw nD_TM_send_1 ?_
  refine lv_iload_n hx hb nD_TM_send_4 rfl (lv_at hl 1 rfl) ?_
  obtain ⟨g1, hf⟩ := gt_of hf
  refine al_units F9 hw g1 nD_TM_send_5 ?_
  refine lv_astore_n (lv' := [(2, .ref (x.2.2 (69 + (tn_I a1)))), (0, .ref (x.2.2 0)), (1, .int a1)]) hx hb nD_TM_send_6 rfl hl (by decide) rfl (fun ls hl => ?_)
  refine lv_iconst (v := 1) hx hb nD_TM_send_7 (by decide) ?_
  refine lv_istore_n (lv' := [(3, .int (1 : Int32)), (2, .ref (x.2.2 (69 + (tn_I a1)))), (0, .ref (x.2.2 0)), (1, .int a1)]) hx hb nD_TM_send_8 rfl hl (by decide) rfl (fun ls hl => ?_)
  exact bk_TM_send_9 F9 14 a1 (tn_I a1) (1 : Int32) _ _ _ _ (ib_lt g1) hw (lv_sub hl [2, 3, 1, 0] rfl) hf
set_option maxRecDepth 100000 in
set_option maxHeartbeats 4000000 in
theorem bk_TM_useBus_23 {z : sg_T} (F : fx_F p s m args meth c nC_TM_useBus 2 none nR_TM) (a1 : Int32) {σ : sg_T} {H : Heap} {locs : List Loc} {ls : Array Slot} (hw : ww_P x s H locs σ) (hl : lv_has ls 2 [(0, .ref (x.2.2 0)), (1, .int a1)]) (hf : fb_TM_useBus_23 a1 σ = some z) : W p l e (rm_D 4) s m args below meth c H locs 0 0 (qv_Q x s below args z) (F0 m 23 ls []) := by
  have F9 := F
  obtain ⟨hx, hb, hml, hr, hlk, hown, hT⟩ := F
  unfold fb_TM_useBus_23 at hf
  refine lv_iload_n hx hb nD_TM_useBus_23 rfl (lv_at hl 1 rfl) ?_
  refine lv_iconst (v := -1) hx hb nD_TM_useBus_24 (by decide) ?_
  refine lv_icmp_eq (tgt := 33) hx hb nD_TM_useBus_25 (by decide) (fun h3 => ?_) (fun h3 => ?_)
  · rw [if_pos h3] at hf
    exact rt_v F9 hw nD_TM_useBus_33 hf
  · rw [if_neg h3] at hf
    refine lv_aload_n hx hb nD_TM_useBus_28 rfl (lv_at hl 0 rfl) ?_
    refine lv_iload_n hx hb nD_TM_useBus_29 rfl (lv_at hl 1 rfl) ?_
    obtain ⟨z4, hz4, hf⟩ := bd_of hf
    refine cl_vv (As := [.int a1]) (rest := []) F9 hw (ct_TM_send l x a1  _ _ hz4) (rc_TM ) wc_TM_167 hd_TM_send (by decide) hl rfl (Nat.le_of_ble_eq_true rfl) nD_TM_useBus_30 (fun H locs hw => ?_)
    exact rt_v F9 hw nD_TM_useBus_33 hf
set_option maxRecDepth 100000 in
set_option maxHeartbeats 4000000 in
theorem ct_TM_useBus (l : Launch) (x : cx_T) (σ : sg_T) (z : sg_T) (hf : fn_TM_useBus  σ = some z) : ct_v l nN_TM_useBus nC_TM_useBus 2 4 x [.ref (x.2.2 0)] σ z := by
  refine en_v (own := nR_TM) (by decide) (Nat.le_of_ble_eq_true rfl) rfl ?_
  intro p e s m below meth c ls F hw hl
  have F9 := F
  obtain ⟨hx, hb, hml, hr, hlk, hown, hT⟩ := F
  have hl : lv_has ls 2 [(0, .ref (x.2.2 0))] := hl
  unfold fn_TM_useBus at hf
  refine lv_aload_n hx hb nD_TM_useBus_0 rfl (lv_at hl 0 rfl) ?_
  refine lv_iconst (v := 3) hx hb nD_TM_useBus_1 (by decide) ?_
  refine lv_bipush (v := 6) hx hb nD_TM_useBus_2 (by decide) ?_
  refine lv_bipush (v := 9) hx hb nD_TM_useBus_4 (by decide) ?_
  obtain ⟨z1, hz1, hf⟩ := bd_of hf
  refine cl_vi (As := [.int (3 : Int32), .int (6 : Int32), .int (9 : Int32)]) (rest := []) F9 hw (ct_TM_firstLike l x (3 : Int32) (6 : Int32) (9 : Int32)  _ _ hz1) (rc_TM ) wc_TM_163 hd_TM_firstLike (by decide) hl rfl (Nat.le_of_ble_eq_true rfl) nD_TM_useBus_6 (fun H locs hw => ?_)
  refine lv_istore_n (lv' := [(1, .int z1.1), (0, .ref (x.2.2 0))]) hx hb nD_TM_useBus_9 rfl hl (by decide) rfl (fun ls hl => ?_)
  refine lv_iload_n hx hb nD_TM_useBus_10 rfl (lv_at hl 0 rfl) ?_
  refine lv_iconst (v := -1) hx hb nD_TM_useBus_11 (by decide) ?_
  refine lv_icmp_ne (tgt := 23) hx hb nD_TM_useBus_12 (by decide) (fun h2 => ?_) (fun h2 => ?_)
  · rw [if_neg h2] at hf
    exact bk_TM_useBus_23 F9 z1.1  hw (lv_sub hl [1, 0] rfl) hf
  · rw [if_pos h2] at hf
    refine lv_aload_n hx hb nD_TM_useBus_15 rfl (lv_at hl 1 rfl) ?_
    refine lv_iconst (v := 3) hx hb nD_TM_useBus_16 (by decide) ?_
    refine lv_iconst (v := 1) hx hb nD_TM_useBus_17 (by decide) ?_
    refine lv_iconst (v := 5) hx hb nD_TM_useBus_18 (by decide) ?_
    obtain ⟨z5, hz5, hf⟩ := bd_of hf
    refine cl_vi (As := [.int (3 : Int32), .int (1 : Int32), .int (5 : Int32)]) (rest := []) F9 hw (ct_TM_firstLike l x (3 : Int32) (1 : Int32) (5 : Int32)  _ _ hz5) (rc_TM ) wc_TM_163 hd_TM_firstLike (by decide) hl rfl (Nat.le_of_ble_eq_true rfl) nD_TM_useBus_19 (fun H locs hw => ?_)
    refine lv_istore_n (lv' := [(1, .int z5.1), (0, .ref (x.2.2 0))]) hx hb nD_TM_useBus_22 rfl hl (by decide) rfl (fun ls hl => ?_)
    exact bk_TM_useBus_23 F9 z5.1  hw (lv_sub hl [1, 0] rfl) hf
end MT
