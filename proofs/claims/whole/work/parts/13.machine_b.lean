def fn_TM_bankOf (k1 : Nat) (σ : sg_T) : Option (Int32 × sg_T) := gt_d (decide (¬ (σ 0 0) = 0)) (some ((σ 17 k1) - (σ 17 k1) / (σ 0 0) * (σ 0 0), σ))
def fb_TM_finishWork_26 (a1 : Nat) (σ : sg_T) : Option (sg_T) := if (σ 13 a1) = (1 : Int32) then gt_d (ib_I (σ 17 a1) 32) (some (sg_up (sg_up σ 11 (tn_I (σ 17 a1)) (σ 6 (5 + 2 * a1))) 12 a1 (0 : Int32))) else some (σ)
def fn_TM_finishWork (k1 : Nat) (σ : sg_T) : Option (sg_T) := (fn_TM_usesStorage ((sg_up σ 12 k1 (3 : Int32)) 13 k1) (sg_up σ 12 k1 (3 : Int32))).bind (fun z1 => if z1.1 = 0 then fb_TM_finishWork_26 k1 z1.2 else (fn_TM_bankOf k1 z1.2).bind (fun z5 => gt_d (ib_I z5.1 8) (fb_TM_finishWork_26 k1 (sg_up z5.2 19 (tn_I z5.1) (0 : Int32)))))
def fb_TM_work_45 (kL2 : Int32 → sg_T → Option (sg_T)) (a1 : Int32) (σ : sg_T) : Option (sg_T) := kL2 (a1 + (1 : Int32)) σ
def fb_TM_work_2 : Nat → Int32 → sg_T → Option (sg_T)
  | 0, _, _ => none
  | n + 1, a1, σ => if (12 : Int32) < a1 then some (σ) else gt_d (ib_I a1 13) (if (σ 12 (tn_I a1)) = (2 : Int32) then if ((sg_up σ 14 (tn_I a1) ((σ 14 (tn_I a1)) - (1 : Int32))) 14 (tn_I a1)) = 0 then (fn_TM_finishWork (tn_I a1) (sg_up σ 14 (tn_I a1) ((σ 14 (tn_I a1)) - (1 : Int32)))).bind (fun z5 => fb_TM_work_45 (fb_TM_work_2 n) a1 z5) else fb_TM_work_45 (fb_TM_work_2 n) a1 (sg_up σ 14 (tn_I a1) ((σ 14 (tn_I a1)) - (1 : Int32))) else fb_TM_work_45 (fb_TM_work_2 n) a1 σ)
def fn_TM_work (σ : sg_T) : Option (sg_T) := fb_TM_work_2 14 (1 : Int32) σ
def fb_TM_firstReady_2 : Nat → Int32 → Int32 → sg_T → Option (Int32 × sg_T)
  | 0, _, _, _ => none
  | n + 1, a2, a3, σ => if a2 < a3 then some ((-1 : Int32), σ) else gt_d (ib_I a3 13) ((fn_UNI_isReady (tn_I a3) σ).bind (fun z3 => if z3.1 = 0 then fb_TM_firstReady_2 n a2 (a3 + (1 : Int32)) z3.2 else some (a3, z3.2)))
def fn_TM_firstReady (a1 : Int32) (a2 : Int32) (σ : sg_T) : Option (Int32 × sg_T) := fb_TM_firstReady_2 14 a2 a1 σ
def fn_TM_cyclesFor (a0 : Int32) (σ : sg_T) : Option (Int32 × sg_T) := if a0 = 4 then some ((4 : Int32), σ) else if a0 = 5 then some ((8 : Int32), σ) else some ((2 : Int32), σ)
def fn_TM_beginStation (a1 : Int32) (σ : sg_T) : Option (sg_T) := if a1 = (-1 : Int32) then some (σ) else gt_d (ib_I a1 13) ((fn_REC_workOut ((σ 13 (tn_I a1)) - (2 : Int32)) (σ 6 (5 + 2 * (tn_I a1))) (σ 6 (6 + 2 * (tn_I a1))) σ).bind (fun z3 => (fn_TM_cyclesFor (z3 13 (tn_I a1)) z3).bind (fun z4 => (fn_UNI_begin (tn_I a1) z4.1 (z4.2 20 0) (z4.2 20 1) z4.2).bind (fun z5 => some (z5)))))
def fb_TM_nextOfMultiplier_16 (t0 : Int32) (σ : sg_T) : Option (Int32 × sg_T) := if t0 = 0 then (fn_TM_firstReady (4 : Int32) (5 : Int32) σ).bind (fun z4 => some (z4.1, z4.2)) else some ((-1 : Int32), σ)
def fn_TM_nextOfMultiplier (σ : sg_T) : Option (Int32 × sg_T) := (fn_TM_firstLike (2 : Int32) (4 : Int32) (5 : Int32) σ).bind (fun z1 => if z1.1 = (-1 : Int32) then fb_TM_nextOfMultiplier_16 (0 : Int32) z1.2 else fb_TM_nextOfMultiplier_16 (1 : Int32) z1.2)
def fb_TM_earliestAccess_61 (kL5 : Int32 → Int32 → sg_T → Option (Int32 × sg_T)) (a1 : Int32) (a2 : Int32) (σ : sg_T) : Option (Int32 × sg_T) := kL5 a1 (a2 + (1 : Int32)) σ
def fb_TM_earliestAccess_59 (kL5 : Int32 → Int32 → sg_T → Option (Int32 × sg_T)) (a2 : Int32) (σ : sg_T) : Option (Int32 × sg_T) := fb_TM_earliestAccess_61 kL5 a2 a2 σ
def fb_TM_earliestAccess_5 : Nat → Int32 → Int32 → sg_T → Option (Int32 × sg_T)
  | 0, _, _, _ => none
  | n + 1, a1, a2, σ => if (12 : Int32) < a2 then some (a1, σ) else gt_d (ib_I a2 13) ((fn_UNI_isReady (tn_I a2) σ).bind (fun z3 => if z3.1 = 0 then fb_TM_earliestAccess_61 (fb_TM_earliestAccess_5 n) a1 a2 z3.2 else (fn_TM_bankOf (tn_I a2) z3.2).bind (fun z5 => gt_d (ib_I z5.1 8) (if (z5.2 19 (tn_I z5.1)) = 0 then if a1 = (-1 : Int32) then fb_TM_earliestAccess_59 (fb_TM_earliestAccess_5 n) a2 z5.2 else gt_d (ib_I a1 13) (if (z5.2 18 (tn_I a1)) ≤ (z5.2 18 (tn_I a2)) then fb_TM_earliestAccess_61 (fb_TM_earliestAccess_5 n) a1 a2 z5.2 else fb_TM_earliestAccess_59 (fb_TM_earliestAccess_5 n) a2 z5.2) else fb_TM_earliestAccess_61 (fb_TM_earliestAccess_5 n) a1 a2 z5.2))))
def fn_TM_earliestAccess (σ : sg_T) : Option (Int32 × sg_T) := fb_TM_earliestAccess_5 14 (-1 : Int32) (6 : Int32) σ
def fn_TM_beginStorage (σ : sg_T) : Option (sg_T) := (fn_TM_earliestAccess  σ).bind (fun z1 => if z1.1 = (-1 : Int32) then some (z1.2) else gt_d (ib_I z1.1 13) ((fn_TM_bankOf (tn_I z1.1) z1.2).bind (fun z4 => gt_d (ib_I z4.1 8) (gt_d (ib_I ((sg_up z4.2 19 (tn_I z4.1) (1 : Int32)) 17 (tn_I z1.1)) 32) ((fn_UNI_begin (tn_I z1.1) ((sg_up z4.2 19 (tn_I z4.1) (1 : Int32)) 0 1) ((sg_up z4.2 19 (tn_I z4.1) (1 : Int32)) 11 (tn_I ((sg_up z4.2 19 (tn_I z4.1) (1 : Int32)) 17 (tn_I z1.1)))) (0 : Int32) (sg_up z4.2 19 (tn_I z4.1) (1 : Int32))).bind (fun z7 => some (z7)))))))
def fb_TM_isToBeStored_36 (kL3 : Int32 → Int32 → sg_T → Option (Int32 × sg_T)) (a1 : Int32) (a2 : Int32) (σ : sg_T) : Option (Int32 × sg_T) := kL3 a1 (a2 + (1 : Int32)) σ
def fb_TM_isToBeStored_3 : Nat → Int32 → Int32 → sg_T → Option (Int32 × sg_T)
  | 0, _, _, _ => none
  | n + 1, a1, a2, σ => if (12 : Int32) < a2 then some ((0 : Int32), σ) else gt_d (ib_I a2 13) (if (σ 12 (tn_I a2)) = 0 then fb_TM_isToBeStored_36 (fb_TM_isToBeStored_3 n) a1 a2 σ else gt_d (ib_I a2 13) (if (σ 17 (tn_I a2)) = a1 then some ((1 : Int32), σ) else fb_TM_isToBeStored_36 (fb_TM_isToBeStored_3 n) a1 a2 σ))
def fn_TM_isToBeStored (a1 : Int32) (σ : sg_T) : Option (Int32 × sg_T) := fb_TM_isToBeStored_3 14 a1 (10 : Int32) σ
def fb_TM_handToBuffer_136 (σ : sg_T) : Option (Int32 × sg_T) := some ((1 : Int32), sg_up σ 0 4 ((σ 0 4) + (1 : Int32)))
def fb_TM_handToBuffer_58 (a1 : Nat) (a2 : Int32) (t0 : Int32) (σ : sg_T) : Option (Int32 × sg_T) := if t0 = (-1 : Int32) then some ((0 : Int32), σ) else (fn_TM_isToBeStored a2 σ).bind (fun z7 => if z7.1 = 0 then gt_d (ib_I t0 13) ((fn_UNI_claim (tn_I t0) (z7.2 1 a1) a2 (z7.2 0 7) z7.2).bind (fun z10 => if (z10 1 a1) = 0 then gt_d (ib_I (z10 2 a1) 5) ((fn_OPD_waitFor (tn_I (z10 2 a1)) t0 z10).bind (fun z16 => fb_TM_handToBuffer_136  z16)) else gt_d (ib_I t0 13) (gt_d (ib_I (z10 2 a1) 5) ((fn_OPD_copy (5 + 2 * (tn_I t0)) (tn_I (z10 2 a1)) z10).bind (fun z14 => fb_TM_handToBuffer_136  z14))))) else some ((0 : Int32), z7.2))
def fn_TM_handToBuffer (k1 : Nat) (σ : sg_T) : Option (Int32 × sg_T) := gt_d (ib_I (σ 4 k1) 4) ((fn_TM_isPlace ((σ 10 (tn_I (σ 4 k1))) + (σ 5 k1)) σ).bind (fun z2 => if z2.1 = 0 then (fn_TM_note (8 : Int32) z2.2).bind (fun z18 => some ((0 : Int32), z18)) else if (z2.2 1 k1) = 0 then (fn_TM_firstLike (0 : Int32) (6 : Int32) (9 : Int32) z2.2).bind (fun z17 => fb_TM_handToBuffer_58 k1 ((σ 10 (tn_I (σ 4 k1))) + (σ 5 k1)) z17.1 z17.2) else (fn_TM_firstLike (0 : Int32) (10 : Int32) (12 : Int32) z2.2).bind (fun z5 => fb_TM_handToBuffer_58 k1 ((σ 10 (tn_I (σ 4 k1))) + (σ 5 k1)) z5.1 z5.2)))
def fb_TM_handToStation_122 (a2 : Int32) (t0 : Int32) (σ : sg_T) : Option (Int32 × sg_T) := gt_d (ib_I t0 5) ((fn_OPD_waitFor (tn_I t0) a2 σ).bind (fun z14 => some ((1 : Int32), sg_up z14 0 4 ((z14 0 4) + (1 : Int32)))))
def fb_TM_handToStation_33 (a1 : Nat) (t0 : Int32) (σ : sg_T) : Option (Int32 × sg_T) := if t0 = (-1 : Int32) then some ((0 : Int32), σ) else gt_d (ib_I t0 13) ((fn_UNI_claim (tn_I t0) (σ 1 a1) (0 : Int32) (σ 0 7) σ).bind (fun z5 => gt_d (ib_I t0 13) (gt_d (ib_I (z5 2 a1) 5) ((fn_OPD_copy (5 + 2 * (tn_I t0)) (tn_I (z5 2 a1)) z5).bind (fun z8 => gt_d (ib_I t0 13) (gt_d (ib_I (z8 3 a1) 5) ((fn_OPD_copy (6 + 2 * (tn_I t0)) (tn_I (z8 3 a1)) z8).bind (fun z11 => if (z11 1 a1) = (6 : Int32) then fb_TM_handToStation_122 t0 (4 : Int32) z11 else fb_TM_handToStation_122 t0 (z11 2 a1) z11))))))))
def fb_TM_handToStation_16 (a1 : Nat) (σ : sg_T) : Option (Int32 × sg_T) := (fn_TM_firstLike (0 : Int32) (4 : Int32) (5 : Int32) σ).bind (fun z2 => fb_TM_handToStation_33 a1 z2.1 z2.2)
def fn_TM_handToStation (k1 : Nat) (σ : sg_T) : Option (Int32 × sg_T) := if (σ 1 k1) = (4 : Int32) then fb_TM_handToStation_16 k1 σ else if (σ 1 k1) = (5 : Int32) then fb_TM_handToStation_16 k1 σ else (fn_TM_firstLike (0 : Int32) (1 : Int32) (3 : Int32) σ).bind (fun z16 => fb_TM_handToStation_33 k1 z16.1 z16.2)
def fb_TM_doAtOnce_212 (a2 : Int32) (σ : sg_T) : Option (Int32 × sg_T) := some ((1 : Int32), sg_up σ 0 4 a2)
def fb_TM_doAtOnce_167 (t0 : Int32) (σ : sg_T) : Option (Int32 × sg_T) := fb_TM_doAtOnce_212 t0 σ
def fb_TM_doAtOnce_203 (t0 : Int32) (σ : sg_T) : Option (Int32 × sg_T) := fb_TM_doAtOnce_212 t0 σ
def fb_TM_doAtOnce_195 (a1 : Nat) (σ : sg_T) : Option (Int32 × sg_T) := fb_TM_doAtOnce_203 (σ 5 a1) σ
def fb_TM_doAtOnce_23 (a1 : Nat) (σ : sg_T) : Option (Int32 × sg_T) := if (σ 1 a1) = 7 then gt_d (ib_I (σ 2 a1) 5) (gt_d (ib_I (σ 3 a1) 5) ((fn_OPD_copy (tn_I (σ 2 a1)) (tn_I (σ 3 a1)) σ).bind (fun z5 => fb_TM_doAtOnce_212 ((σ 0 4) + (1 : Int32)) z5))) else if (σ 1 a1) = 8 then gt_d (ib_I (σ 2 a1) 4) (fb_TM_doAtOnce_212 ((σ 0 4) + (1 : Int32)) (sg_up σ 10 (tn_I (σ 2 a1)) (σ 5 a1))) else if (σ 1 a1) = 9 then gt_d (ib_I (σ 3 a1) 4) (gt_d (ib_I (σ 2 a1) 4) (fb_TM_doAtOnce_212 ((σ 0 4) + (1 : Int32)) (sg_up σ 10 (tn_I (σ 2 a1)) ((σ 10 (tn_I (σ 3 a1))) + (σ 5 a1))))) else if (σ 1 a1) = 10 then gt_d (ib_I (σ 2 a1) 4) (gt_d (ib_I (σ 2 a1) 4) (gt_d (ib_I ((sg_up σ 10 (tn_I (σ 2 a1)) ((σ 10 (tn_I (σ 2 a1))) - (1 : Int32))) 2 a1) 4) (if ((sg_up σ 10 (tn_I (σ 2 a1)) ((σ 10 (tn_I (σ 2 a1))) - (1 : Int32))) 10 (tn_I ((sg_up σ 10 (tn_I (σ 2 a1)) ((σ 10 (tn_I (σ 2 a1))) - (1 : Int32))) 2 a1))) = 0 then fb_TM_doAtOnce_167 ((σ 0 4) + (1 : Int32)) (sg_up σ 10 (tn_I (σ 2 a1)) ((σ 10 (tn_I (σ 2 a1))) - (1 : Int32))) else fb_TM_doAtOnce_167 ((sg_up σ 10 (tn_I (σ 2 a1)) ((σ 10 (tn_I (σ 2 a1))) - (1 : Int32))) 5 a1) (sg_up σ 10 (tn_I (σ 2 a1)) ((σ 10 (tn_I (σ 2 a1))) - (1 : Int32)))))) else if (σ 1 a1) = 11 then if (σ 2 a1) = (3 : Int32) then fb_TM_doAtOnce_195 a1 σ else gt_d (ib_I (4 : Int32) 5) (if (σ 2 a1) = (σ 6 (tn_I (4 : Int32))) then fb_TM_doAtOnce_195 a1 σ else fb_TM_doAtOnce_203 ((σ 0 4) + (1 : Int32)) σ) else fb_TM_doAtOnce_212 ((σ 0 4) + (1 : Int32)) (sg_up σ 0 3 (1 : Int32))
def fn_TM_doAtOnce (k1 : Nat) (σ : sg_T) : Option (Int32 × sg_T) := if (σ 1 k1) = (11 : Int32) then gt_d (ib_I (4 : Int32) 5) ((fn_OPD_isAwaited (tn_I (4 : Int32)) σ).bind (fun z21 => if z21.1 = 0 then fb_TM_doAtOnce_23 k1 z21.2 else some ((0 : Int32), z21.2))) else fb_TM_doAtOnce_23 k1 σ
def fb_TM_handOut_71 (a2 : Int32) (σ : sg_T) : Option (sg_T) := if a2 = 0 then some (σ) else some (sg_up σ 0 7 ((σ 0 7) + (1 : Int32)))
def fn_TM_handOut (σ : sg_T) : Option (sg_T) := (fn_TM_isInstruction (σ 0 4) σ).bind (fun z1 => if z1.1 = 0 then (fn_TM_note (16 : Int32) z1.2).bind (fun z11 => some (z11)) else gt_d (ib_I (z1.2 0 4) 30) ((fn_TM_usesStorage (z1.2 1 (tn_I (z1.2 0 4))) z1.2).bind (fun z4 => if z4.1 = 0 then if (6 : Int32) < (z4.2 1 (tn_I (z1.2 0 4))) then (fn_TM_doAtOnce (tn_I (z1.2 0 4)) z4.2).bind (fun z7 => fb_TM_handOut_71 z7.1 z7.2) else (fn_TM_handToStation (tn_I (z1.2 0 4)) z4.2).bind (fun z9 => fb_TM_handOut_71 z9.1 z9.2) else (fn_TM_handToBuffer (tn_I (z1.2 0 4)) z4.2).bind (fun z10 => fb_TM_handOut_71 z10.1 z10.2))))
def fb_TM_allFree_2 : Nat → Int32 → sg_T → Option (Int32 × sg_T)
  | 0, _, _ => none
  | n + 1, a1, σ => if (12 : Int32) < a1 then some ((1 : Int32), σ) else gt_d (ib_I a1 13) (if (σ 12 (tn_I a1)) = 0 then fb_TM_allFree_2 n (a1 + (1 : Int32)) σ else some ((0 : Int32), σ))
def fn_TM_allFree (σ : sg_T) : Option (Int32 × sg_T) := fb_TM_allFree_2 14 (1 : Int32) σ
def fb_TM_goOneCycle_72 (σ : sg_T) : Option (sg_T) := some (sg_up σ 0 6 ((σ 0 6) + (1 : Int32)))
def fb_TM_goOneCycle_69 (t0 : Int32) (σ : sg_T) : Option (sg_T) := fb_TM_goOneCycle_72  (sg_up σ 0 3 t0)
def fb_TM_goOneCycle_41 (σ : sg_T) : Option (sg_T) := if (σ 0 3) = (1 : Int32) then (fn_TM_allFree  σ).bind (fun z10 => if z10.1 = 0 then fb_TM_goOneCycle_72  z10.2 else if (z10.2 0 5) = 0 then fb_TM_goOneCycle_69 (2 : Int32) z10.2 else fb_TM_goOneCycle_69 (3 : Int32) z10.2) else fb_TM_goOneCycle_72  σ
def fn_TM_goOneCycle (σ : sg_T) : Option (sg_T) := (fn_TM_useBus  σ).bind (fun z1 => (fn_TM_work  z1).bind (fun z2 => (fn_TM_firstReady (1 : Int32) (3 : Int32) z2).bind (fun z3 => (fn_TM_beginStation z3.1 z3.2).bind (fun z4 => (fn_TM_nextOfMultiplier  z4).bind (fun z5 => (fn_TM_beginStation z5.1 z5.2).bind (fun z6 => (fn_TM_beginStorage  z6).bind (fun z7 => if (z7 0 3) = 0 then (fn_TM_handOut  z7).bind (fun z13 => fb_TM_goOneCycle_41  z13) else fb_TM_goOneCycle_41  z7)))))))
section MT
variable {p : Program} {l : Launch} {e : Env} {s : State} {m : MethodId} {args : Array Value} {below : List Frame} {meth : Method} {c : Code} {x : cx_T}
set_option maxRecDepth 100000 in
set_option maxHeartbeats 4000000 in
theorem ct_TM_bankOf (l : Launch) (x : cx_T) (k1 : Nat) (hk1 : k1 < 13) (σ : sg_T) (z : Int32 × sg_T) (hf : fn_TM_bankOf k1 σ = some z) : ct_i l nN_TM_bankOf nC_TM_bankOf 2 (some .int) 0 x [.ref (x.2.2 0), .ref (x.2.2 (69 + k1))] σ z.1 z.2 := by
  refine en_i (own := nR_TM) (by decide) (Nat.le_of_ble_eq_true rfl) rfl ?_
  intro p e s m below meth c ls F hw hl
  have F9 := F
  obtain ⟨hx, hb, hml, hr, hlk, hown, hT⟩ := F
  have hl : lv_has ls 2 [(0, .ref (x.2.2 0)), (1, .ref (x.2.2 (69 + k1)))] := hl
  unfold fn_TM_bankOf at hf
  refine lv_aload_n hx hb nD_TM_bankOf_0 rfl (lv_at hl 1 rfl) ?_
  refine rd_TM_UNI_address F9 hw hk1 nD_TM_bankOf_1 ?_
  refine lv_aload_n hx hb nD_TM_bankOf_4 rfl (lv_at hl 0 rfl) ?_
  refine rd_TM_TM_banks F9 hw nD_TM_bankOf_5 ?_
  obtain ⟨g1, hf⟩ := gt_of hf
  refine lv_irem hx hb nD_TM_bankOf_8 (of_decide_eq_true g1) ?_
  exact rt_i F9 hw rfl nD_TM_bankOf_9 hf
set_option maxRecDepth 100000 in
set_option maxHeartbeats 4000000 in
theorem bk_TM_finishWork_26 {z : sg_T} (F : fx_F p s m args meth c nC_TM_finishWork 2 none nR_TM) (a1 : Nat) {σ : sg_T} {H : Heap} {locs : List Loc} {ls : Array Slot} (ha1 : a1 < 13) (hw : ww_P x s H locs σ) (hl : lv_has ls 2 [(0, .ref (x.2.2 0)), (1, .ref (x.2.2 (69 + a1)))]) (hf : fb_TM_finishWork_26 a1 σ = some z) : W p l e (rm_D 1) s m args below meth c H locs 0 0 (qv_Q x s below args z) (F0 m 26 ls []) := by
  have F9 := F
  obtain ⟨hx, hb, hml, hr, hlk, hown, hT⟩ := F
  unfold fb_TM_finishWork_26 at hf
  refine lv_aload_n hx hb nD_TM_finishWork_26 rfl (lv_at hl 1 rfl) ?_
  refine rd_TM_UNI_op F9 hw ha1 nD_TM_finishWork_27 ?_
  refine lv_iconst (v := 1) hx hb nD_TM_finishWork_30 (by decide) ?_
  refine lv_icmp_ne (tgt := 55) hx hb nD_TM_finishWork_31 (by decide) (fun h3 => ?_) (fun h3 => ?_)
  · rw [if_neg h3] at hf
    exact rt_v F9 hw nD_TM_finishWork_55 hf
  · rw [if_pos h3] at hf
    refine lv_aload_n hx hb nD_TM_finishWork_34 rfl (lv_at hl 0 rfl) ?_
    refine rd_TM_TM_words F9 hw nD_TM_finishWork_35 ?_
    refine lv_aload_n hx hb nD_TM_finishWork_38 rfl (lv_at hl 1 rfl) ?_
    refine rd_TM_UNI_address F9 hw ha1 nD_TM_finishWork_39 ?_
    refine lv_aload_n hx hb nD_TM_finishWork_42 rfl (lv_at hl 1 rfl) ?_
    refine rd_TM_UNI_first F9 hw ha1 nD_TM_finishWork_43 ?_
    refine rd_TM_OPD_value F9 hw (by have := ha1; omega) nD_TM_finishWork_46 ?_
    obtain ⟨g4, hf⟩ := gt_of hf
    refine as_words F9 hw g4 nD_TM_finishWork_49 (fun H locs hw => ?_)
    refine lv_aload_n hx hb nD_TM_finishWork_50 rfl (lv_at hl 1 rfl) ?_
    refine lv_iconst (v := 0) hx hb nD_TM_finishWork_51 (by decide) ?_
    refine wr_TM_UNI_state F9 hw ha1 nD_TM_finishWork_52 (fun H locs hw => ?_)
    exact rt_v F9 hw nD_TM_finishWork_55 hf
set_option maxRecDepth 100000 in
set_option maxHeartbeats 4000000 in
theorem ct_TM_finishWork (l : Launch) (x : cx_T) (k1 : Nat) (hk1 : k1 < 13) (σ : sg_T) (z : sg_T) (hf : fn_TM_finishWork k1 σ = some z) : ct_v l nN_TM_finishWork nC_TM_finishWork 2 1 x [.ref (x.2.2 0), .ref (x.2.2 (69 + k1))] σ z := by
  refine en_v (own := nR_TM) (by decide) (Nat.le_of_ble_eq_true rfl) rfl ?_
  intro p e s m below meth c ls F hw hl
  have F9 := F
  obtain ⟨hx, hb, hml, hr, hlk, hown, hT⟩ := F
  have hl : lv_has ls 2 [(0, .ref (x.2.2 0)), (1, .ref (x.2.2 (69 + k1)))] := hl
  unfold fn_TM_finishWork at hf
  refine lv_aload_n hx hb nD_TM_finishWork_0 rfl (lv_at hl 1 rfl) ?_
  refine lv_iconst (v := 3) hx hb nD_TM_finishWork_1 (by decide) ?_
  refine wr_TM_UNI_state F9 hw hk1 nD_TM_finishWork_2 (fun H locs hw => ?_)
  refine lv_aload_n hx hb nD_TM_finishWork_5 rfl (lv_at hl 1 rfl) ?_
  refine rd_TM_UNI_op F9 hw hk1 nD_TM_finishWork_6 ?_
  obtain ⟨z1, hz1, hf⟩ := bd_of hf
  refine cl_si (As := [.int ((sg_up σ 12 k1 (3 : Int32)) 13 k1)]) (rest := []) F9 hw (ct_TM_usesStorage l x ((sg_up σ 12 k1 (3 : Int32)) 13 k1)  _ _ hz1) wc_TM_190 hd_TM_usesStorage (by decide) hl rfl (Nat.le_of_ble_eq_true rfl) nD_TM_finishWork_9 (fun H locs hw => ?_)
  refine lv_if_eq (tgt := 26) hx hb nD_TM_finishWork_12 (by decide) (fun h2 => ?_) (fun h2 => ?_)
  · rw [if_pos h2] at hf
    exact bk_TM_finishWork_26 F9 k1 hk1 hw (lv_sub hl [0, 1] rfl) hf
  · rw [if_neg h2] at hf
    refine lv_aload_n hx hb nD_TM_finishWork_15 rfl (lv_at hl 0 rfl) ?_
    refine rd_TM_TM_bankInUse F9 hw nD_TM_finishWork_16 ?_
    refine lv_aload_n hx hb nD_TM_finishWork_19 rfl (lv_at hl 0 rfl) ?_
    refine lv_aload_n hx hb nD_TM_finishWork_20 rfl (lv_at hl 1 rfl) ?_
    obtain ⟨z5, hz5, hf⟩ := bd_of hf
    refine cl_vi (As := [.ref (x.2.2 (69 + k1))]) (rest := [.ref (x.2.2 6)]) F9 hw (ct_TM_bankOf l x k1 hk1 _ _ hz5) (rc_TM ) wc_TM_193 hd_TM_bankOf (by decide) hl rfl (Nat.le_of_ble_eq_true rfl) nD_TM_finishWork_21 (fun H locs hw => ?_)
    refine lv_iconst (v := 0) hx hb nD_TM_finishWork_24 (by decide) ?_
    obtain ⟨g6, hf⟩ := gt_of hf
    refine as_bankInUse F9 hw g6 (by rfl) nD_TM_finishWork_25 (fun H locs hw => ?_)
    exact bk_TM_finishWork_26 F9 k1 hk1 hw (lv_sub hl [0, 1] rfl) hf
set_option maxRecDepth 100000 in
set_option maxHeartbeats 4000000 in
theorem bk_TM_work_45 {z : sg_T} (F : fx_F p s m args meth c nC_TM_work 3 none nR_TM) (kL2 : Int32 → sg_T → Option (sg_T)) (ih2 : ∀ (a1 : Int32) (σ : sg_T) (H : Heap) (locs : List Loc) (ls : Array Slot), ww_P x s H locs σ → lv_has ls 3 [(0, .ref (x.2.2 0)), (1, .int a1)] → kL2 a1 σ = some z → W p l e (rm_D 2) s m args below meth c H locs 0 0 (qv_Q x s below args z) (F0 m 2 ls [])) (a1 : Int32) {σ : sg_T} {H : Heap} {locs : List Loc} {ls : Array Slot} (hw : ww_P x s H locs σ) (hl : lv_has ls 3 [(0, .ref (x.2.2 0)), (1, .int a1)]) (hf : fb_TM_work_45 kL2 a1 σ = some z) : W p l e (rm_D 2) s m args below meth c H locs 0 0 (qv_Q x s below args z) (F0 m 45 ls []) := by
  have F9 := F
  obtain ⟨hx, hb, hml, hr, hlk, hown, hT⟩ := F
  unfold fb_TM_work_45 at hf
  refine lv_iinc (k := 1) (v := a1 + (1 : Int32)) (lv' := [(1, .int (a1 + (1 : Int32))), (0, .ref (x.2.2 0))]) hx hb nD_TM_work_45 hl rfl (ic_p1 _) (by decide) rfl (fun ls hl => ?_)
  refine lv_goto (tgt := 2) hx hb nD_TM_work_48 (by decide) ?_
  exact ih2 (a1 + (1 : Int32)) _ _ _ _  hw (lv_sub hl [1, 0] rfl) hf
set_option maxRecDepth 100000 in
set_option maxHeartbeats 4000000 in
theorem bk_TM_work_2 {z : sg_T} (F : fx_F p s m args meth c nC_TM_work 3 none nR_TM) : ∀ (n : Nat) (a1 : Int32) (σ : sg_T) (H : Heap) (locs : List Loc) (ls : Array Slot), ww_P x s H locs σ → lv_has ls 3 [(0, .ref (x.2.2 0)), (1, .int a1)] → fb_TM_work_2 n a1 σ = some z → W p l e (rm_D 2) s m args below meth c H locs 0 0 (qv_Q x s below args z) (F0 m 2 ls []) := by
  have F9 := F
  obtain ⟨hx, hb, hml, hr, hlk, hown, hT⟩ := F
  intro n
  induction n with
  | zero =>
    intro a1 σ H locs ls  hw hl hf
    simp [fb_TM_work_2] at hf
  | succ n ih =>
    intro a1 σ H locs ls  hw hl hf
    unfold fb_TM_work_2 at hf
    refine lv_iload_n hx hb nD_TM_work_2 rfl (lv_at hl 1 rfl) ?_
    refine lv_bipush (v := 12) hx hb nD_TM_work_3 (by decide) ?_
    refine lv_icmp_gt (tgt := 51) hx hb nD_TM_work_5 (by decide) (fun h1 => ?_) (fun h1 => ?_)
    · rw [if_pos h1] at hf
      exact rt_v F9 hw nD_TM_work_51 hf
    · rw [if_neg h1] at hf
      refine lv_aload_n hx hb nD_TM_work_8 rfl (lv_at hl 0 rfl) ?_
      refine rd_TM_TM_units F9 hw nD_TM_work_9 ?_
      refine lv_iload_n hx hb nD_TM_work_12 rfl (lv_at hl 1 rfl) ?_
      obtain ⟨g2, hf⟩ := gt_of hf
      refine al_units F9 hw g2 nD_TM_work_13 ?_
      refine lv_astore_n (lv' := [(2, .ref (x.2.2 (69 + (tn_I a1)))), (0, .ref (x.2.2 0)), (1, .int a1)]) hx hb nD_TM_work_14 rfl hl (by decide) rfl (fun ls hl => ?_)
      refine lv_aload_n hx hb nD_TM_work_15 rfl (lv_at hl 0 rfl) ?_
      refine rd_TM_UNI_state F9 hw (ib_lt g2) nD_TM_work_16 ?_
      refine lv_iconst (v := 2) hx hb nD_TM_work_19 (by decide) ?_
      refine lv_icmp_ne (tgt := 45) hx hb nD_TM_work_20 (by decide) (fun h3 => ?_) (fun h3 => ?_)
      · rw [if_neg h3] at hf
        exact bk_TM_work_45 F9 (fb_TM_work_2 n) ih a1  hw (lv_sub hl [1, 2] rfl) hf
      · rw [if_pos h3] at hf
        refine lv_aload_n hx hb nD_TM_work_23 rfl (lv_at hl 0 rfl) ?_
        refine lv_dup hx hb nD_TM_work_24 rfl ?_
        refine rd_TM_UNI_toGo F9 hw (ib_lt g2) nD_TM_work_25 ?_
        refine lv_iconst (v := 1) hx hb nD_TM_work_28 (by decide) ?_
        refine lv_isub hx hb nD_TM_work_29 ?_
        refine wr_TM_UNI_toGo F9 hw (ib_lt g2) nD_TM_work_30 (fun H locs hw => ?_)
        refine lv_aload_n hx hb nD_TM_work_33 rfl (lv_at hl 0 rfl) ?_
        refine rd_TM_UNI_toGo F9 hw (ib_lt g2) nD_TM_work_34 ?_
        refine lv_if_ne (tgt := 45) hx hb nD_TM_work_37 (by decide) (fun h4 => ?_) (fun h4 => ?_)
        · rw [if_neg h4] at hf
          exact bk_TM_work_45 F9 (fb_TM_work_2 n) ih a1  hw (lv_sub hl [1, 2] rfl) hf
        · rw [if_pos h4] at hf
          refine lv_aload_n hx hb nD_TM_work_40 rfl (lv_at hl 1 rfl) ?_
          refine lv_aload_n hx hb nD_TM_work_41 rfl (lv_at hl 0 rfl) ?_
          obtain ⟨z5, hz5, hf⟩ := bd_of hf
          refine cl_vv (As := [.ref (x.2.2 (69 + (tn_I a1)))]) (rest := []) F9 hw (ct_TM_finishWork l x (tn_I a1) (ib_lt g2) _ _ hz5) (rc_TM ) wc_TM_183 hd_TM_finishWork (by decide) hl rfl (Nat.le_of_ble_eq_true rfl) nD_TM_work_42 (fun H locs hw => ?_)
          exact bk_TM_work_45 F9 (fb_TM_work_2 n) ih a1  hw (lv_sub hl [1, 2] rfl) hf
set_option maxRecDepth 100000 in
set_option maxHeartbeats 4000000 in
theorem ct_TM_work (l : Launch) (x : cx_T) (σ : sg_T) (z : sg_T) (hf : fn_TM_work  σ = some z) : ct_v l nN_TM_work nC_TM_work 3 2 x [.ref (x.2.2 0)] σ z := by
  refine en_v (own := nR_TM) (by decide) (Nat.le_of_ble_eq_true rfl) rfl ?_
  intro p e s m below meth c ls F hw hl
  have F9 := F
  obtain ⟨hx, hb, hml, hr, hlk, hown, hT⟩ := F
  have hl : lv_has ls 3 [(0, .ref (x.2.2 0))] := hl
  unfold fn_TM_work at hf
  refine lv_iconst (v := 1) hx hb nD_TM_work_0 (by decide) ?_
  refine lv_istore_n (lv' := [(1, .int (1 : Int32)), (0, .ref (x.2.2 0))]) hx hb nD_TM_work_1 rfl hl (by decide) rfl (fun ls hl => ?_)
  exact bk_TM_work_2 F9 14 (1 : Int32) _ _ _ _  hw (lv_sub hl [1, 0] rfl) hf
set_option maxRecDepth 100000 in
set_option maxHeartbeats 4000000 in
theorem bk_TM_firstReady_2 {z : Int32 × sg_T} (F : fx_F p s m args meth c nC_TM_firstReady 4 (some .int) nR_TM) : ∀ (n : Nat) (a2 : Int32) (a3 : Int32) (σ : sg_T) (H : Heap) (locs : List Loc) (ls : Array Slot), ww_P x s H locs σ → lv_has ls 4 [(0, .ref (x.2.2 0)), (2, .int a2), (3, .int a3)] → fb_TM_firstReady_2 n a2 a3 σ = some z → W p l e (rm_D 2) s m args below meth c H locs 0 0 (qi_Q x s below args z.1 z.2) (F0 m 2 ls []) := by
  have F9 := F
  obtain ⟨hx, hb, hml, hr, hlk, hown, hT⟩ := F
  intro n
  induction n with
  | zero =>
    intro a2 a3 σ H locs ls  hw hl hf
    simp [fb_TM_firstReady_2] at hf
  | succ n ih =>
    intro a2 a3 σ H locs ls  hw hl hf
    unfold fb_TM_firstReady_2 at hf
    refine lv_iload_n hx hb nD_TM_firstReady_2 rfl (lv_at hl 2 rfl) ?_
    refine lv_iload_n hx hb nD_TM_firstReady_3 rfl (lv_at hl 1 rfl) ?_
    refine lv_icmp_gt (tgt := 27) hx hb nD_TM_firstReady_4 (by decide) (fun h1 => ?_) (fun h1 => ?_)
    · rw [if_pos h1] at hf
      refine lv_iconst (v := -1) hx hb nD_TM_firstReady_27 (by decide) ?_
      exact rt_i F9 hw rfl nD_TM_firstReady_28 hf
    · rw [if_neg h1] at hf
      refine lv_aload_n hx hb nD_TM_firstReady_7 rfl (lv_at hl 0 rfl) ?_
      refine rd_TM_TM_units F9 hw nD_TM_firstReady_8 ?_
      refine lv_iload_n hx hb nD_TM_firstReady_11 rfl (lv_at hl 2 rfl) ?_
      obtain ⟨g2, hf⟩ := gt_of hf
      refine al_units F9 hw g2 nD_TM_firstReady_12 ?_
      obtain ⟨z3, hz3, hf⟩ := bd_of hf
      refine cl_vi (As := []) (rest := []) F9 hw (ct_UNI_isReady l x (tn_I a3) (ib_lt g2) _ _ hz3) (rc_UNI (ib_lt g2)) wc_TM_160 hd_UNI_isReady (by decide) hl rfl (Nat.le_of_ble_eq_true rfl) nD_TM_firstReady_13 (fun H locs hw => ?_)
      refine lv_if_eq (tgt := 21) hx hb nD_TM_firstReady_16 (by decide) (fun h4 => ?_) (fun h4 => ?_)
      · rw [if_pos h4] at hf
        refine lv_iinc (k := 2) (v := a3 + (1 : Int32)) (lv' := [(3, .int (a3 + (1 : Int32))), (0, .ref (x.2.2 0)), (2, .int a2)]) hx hb nD_TM_firstReady_21 hl rfl (ic_p1 _) (by decide) rfl (fun ls hl => ?_)
        refine lv_goto (tgt := 2) hx hb nD_TM_firstReady_24 (by decide) ?_
        exact ih a2 (a3 + (1 : Int32)) _ _ _ _  hw (lv_sub hl [1, 2, 0] rfl) hf
      · rw [if_neg h4] at hf
        refine lv_iload_n hx hb nD_TM_firstReady_19 rfl (lv_at hl 2 rfl) ?_
        exact rt_i F9 hw rfl nD_TM_firstReady_20 hf
set_option maxRecDepth 100000 in
set_option maxHeartbeats 4000000 in
theorem ct_TM_firstReady (l : Launch) (x : cx_T) (a1 : Int32) (a2 : Int32) (σ : sg_T) (z : Int32 × sg_T) (hf : fn_TM_firstReady a1 a2 σ = some z) : ct_i l nN_TM_firstReady nC_TM_firstReady 4 (some .int) 2 x [.ref (x.2.2 0), .int a1, .int a2] σ z.1 z.2 := by
  refine en_i (own := nR_TM) (by decide) (Nat.le_of_ble_eq_true rfl) rfl ?_
  intro p e s m below meth c ls F hw hl
  have F9 := F
  obtain ⟨hx, hb, hml, hr, hlk, hown, hT⟩ := F
  have hl : lv_has ls 4 [(0, .ref (x.2.2 0)), (1, .int a1), (2, .int a2)] := hl
  unfold fn_TM_firstReady at hf
  refine lv_iload_n hx hb nD_TM_firstReady_0 rfl (lv_at hl 1 rfl) ?_
  refine lv_istore_n (lv' := [(3, .int a1), (0, .ref (x.2.2 0)), (1, .int a1), (2, .int a2)]) hx hb nD_TM_firstReady_1 rfl hl (by decide) rfl (fun ls hl => ?_)
  exact bk_TM_firstReady_2 F9 14 a2 a1 _ _ _ _  hw (lv_sub hl [1, 3, 0] rfl) hf
set_option maxRecDepth 100000 in
set_option maxHeartbeats 4000000 in
theorem ct_TM_cyclesFor (l : Launch) (x : cx_T) (a0 : Int32) (σ : sg_T) (z : Int32 × sg_T) (hf : fn_TM_cyclesFor a0 σ = some z) : ct_i l nN_TM_cyclesFor nC_TM_cyclesFor 1 (some .int) 0 x [.int a0] σ z.1 z.2 := by
  refine en_i (own := nR_TM) (by decide) (Nat.le_of_ble_eq_true rfl) rfl ?_
  intro p e s m below meth c ls F hw hl
  have F9 := F
  obtain ⟨hx, hb, hml, hr, hlk, hown, hT⟩ := F
  have hl : lv_has ls 1 [(0, .int a0)] := hl
  unfold fn_TM_cyclesFor at hf
  refine lv_iload_n hx hb nD_TM_cyclesFor_0 rfl (lv_at hl 0 rfl) ?_
  by_cases h1 : a0 = (4 : Int32)
  · rw [if_pos h1] at hf
    refine sw_lk (tgt := 28) (4) hx hb nD_TM_cyclesFor_1 h1 (by decide) rfl (by decide) ?_
    refine lv_iconst (v := 4) hx hb nD_TM_cyclesFor_28 (by decide) ?_
    exact rt_i F9 hw rfl nD_TM_cyclesFor_29 hf
  rw [if_neg h1] at hf
  by_cases h2 : a0 = (5 : Int32)
  · rw [if_pos h2] at hf
    refine sw_lk (tgt := 30) (5) hx hb nD_TM_cyclesFor_1 h2 (by decide) rfl (by decide) ?_
    refine lv_bipush (v := 8) hx hb nD_TM_cyclesFor_30 (by decide) ?_
    exact rt_i F9 hw rfl nD_TM_cyclesFor_32 hf
  rw [if_neg h2] at hf
  refine lv_lookup (off := 32) (tgt := 33) hx hb nD_TM_cyclesFor_1 rfl (by simp only [List.toList_toArray]; rw [lv_osw (a := 4) h1 rfl, lv_osw (a := 5) h2 rfl]; rfl) (by decide) ?_
  refine lv_iconst (v := 2) hx hb nD_TM_cyclesFor_33 (by decide) ?_
  exact rt_i F9 hw rfl nD_TM_cyclesFor_34 hf
set_option maxRecDepth 100000 in
set_option maxHeartbeats 4000000 in
theorem ct_TM_beginStation (l : Launch) (x : cx_T) (a1 : Int32) (σ : sg_T) (z : sg_T) (hf : fn_TM_beginStation a1 σ = some z) : ct_v l nN_TM_beginStation nC_TM_beginStation 3 5 x [.ref (x.2.2 0), .int a1] σ z := by
  refine en_v (own := nR_TM) (by decide) (Nat.le_of_ble_eq_true rfl) rfl ?_
  intro p e s m below meth c ls F hw hl
  have F9 := F
  obtain ⟨hx, hb, hml, hr, hlk, hown, hT⟩ := F
  have hl : lv_has ls 3 [(0, .ref (x.2.2 0)), (1, .int a1)] := hl
  unfold fn_TM_beginStation at hf
  refine lv_iload_n hx hb nD_TM_beginStation_0 rfl (lv_at hl 1 rfl) ?_
  refine lv_iconst (v := -1) hx hb nD_TM_beginStation_1 (by decide) ?_
  refine lv_icmp_eq (tgt := 64) hx hb nD_TM_beginStation_2 (by decide) (fun h1 => ?_) (fun h1 => ?_)
  · rw [if_pos h1] at hf
    exact rt_v F9 hw nD_TM_beginStation_64 hf
  · rw [if_neg h1] at hf
    refine lv_aload_n hx hb nD_TM_beginStation_5 rfl (lv_at hl 0 rfl) ?_
    refine rd_TM_TM_units F9 hw nD_TM_beginStation_6 ?_
    refine lv_iload_n hx hb nD_TM_beginStation_9 rfl (lv_at hl 1 rfl) ?_
    obtain ⟨g2, hf⟩ := gt_of hf
    refine al_units F9 hw g2 nD_TM_beginStation_10 ?_
    refine lv_astore_n (lv' := [(2, .ref (x.2.2 (69 + (tn_I a1)))), (0, .ref (x.2.2 0)), (1, .int a1)]) hx hb nD_TM_beginStation_11 rfl hl (by decide) rfl (fun ls hl => ?_)
    refine lv_aload_n hx hb nD_TM_beginStation_12 rfl (lv_at hl 1 rfl) ?_
    refine rd_TM_TM_reckoner F9 hw nD_TM_beginStation_13 ?_
    refine lv_aload_n hx hb nD_TM_beginStation_16 rfl (lv_at hl 0 rfl) ?_
    refine rd_TM_UNI_op F9 hw (ib_lt g2) nD_TM_beginStation_17 ?_
    refine lv_iconst (v := 2) hx hb nD_TM_beginStation_20 (by decide) ?_
    refine lv_isub hx hb nD_TM_beginStation_21 ?_
    refine lv_aload_n hx hb nD_TM_beginStation_22 rfl (lv_at hl 0 rfl) ?_
    refine rd_TM_UNI_first F9 hw (ib_lt g2) nD_TM_beginStation_23 ?_
    refine rd_TM_OPD_value F9 hw (by have := (ib_lt g2); omega) nD_TM_beginStation_26 ?_
    refine lv_aload_n hx hb nD_TM_beginStation_29 rfl (lv_at hl 0 rfl) ?_
    refine rd_TM_UNI_second F9 hw (ib_lt g2) nD_TM_beginStation_30 ?_
    refine rd_TM_OPD_value F9 hw (by have := (ib_lt g2); omega) nD_TM_beginStation_33 ?_
    obtain ⟨z3, hz3, hf⟩ := bd_of hf
    refine cl_vv (As := [.int ((σ 13 (tn_I a1)) - (2 : Int32)), .int (σ 6 (5 + 2 * (tn_I a1))), .int (σ 6 (6 + 2 * (tn_I a1)))]) (rest := []) F9 hw (ct_REC_workOut l x ((σ 13 (tn_I a1)) - (2 : Int32)) (σ 6 (5 + 2 * (tn_I a1))) (σ 6 (6 + 2 * (tn_I a1)))  _ _ hz3) (rc_REC ) wc_TM_110 hd_REC_workOut (by decide) hl rfl (Nat.le_of_ble_eq_true rfl) nD_TM_beginStation_36 (fun H locs hw => ?_)
    refine lv_aload_n hx hb nD_TM_beginStation_39 rfl (lv_at hl 0 rfl) ?_
    refine lv_aload_n hx hb nD_TM_beginStation_40 rfl (lv_at hl 0 rfl) ?_
    refine rd_TM_UNI_op F9 hw (ib_lt g2) nD_TM_beginStation_41 ?_
    obtain ⟨z4, hz4, hf⟩ := bd_of hf
    refine cl_si (As := [.int (z3 13 (tn_I a1))]) (rest := [.ref (x.2.2 (69 + (tn_I a1)))]) F9 hw (ct_TM_cyclesFor l x (z3 13 (tn_I a1))  _ _ hz4) wc_TM_207 hd_TM_cyclesFor (by decide) hl rfl (Nat.le_of_ble_eq_true rfl) nD_TM_beginStation_44 (fun H locs hw => ?_)
    refine lv_aload_n hx hb nD_TM_beginStation_47 rfl (lv_at hl 1 rfl) ?_
    refine rd_TM_TM_reckoner F9 hw nD_TM_beginStation_48 ?_
    refine rd_TM_REC_result F9 hw nD_TM_beginStation_51 ?_
    refine lv_aload_n hx hb nD_TM_beginStation_54 rfl (lv_at hl 1 rfl) ?_
    refine rd_TM_TM_reckoner F9 hw nD_TM_beginStation_55 ?_
    refine rd_TM_REC_raised F9 hw nD_TM_beginStation_58 ?_
    obtain ⟨z5, hz5, hf⟩ := bd_of hf
    refine cl_vv (As := [.int z4.1, .int (z4.2 20 0), .int (z4.2 20 1)]) (rest := []) F9 hw (ct_UNI_begin l x (tn_I a1) z4.1 (z4.2 20 0) (z4.2 20 1) (ib_lt g2) _ _ hz5) (rc_UNI (ib_lt g2)) wc_TM_211 hd_UNI_begin (by decide) hl rfl (Nat.le_of_ble_eq_true rfl) nD_TM_beginStation_61 (fun H locs hw => ?_)
    exact rt_v F9 hw nD_TM_beginStation_64 hf
set_option maxRecDepth 100000 in
set_option maxHeartbeats 4000000 in
theorem bk_TM_nextOfMultiplier_16 {z : Int32 × sg_T} (F : fx_F p s m args meth c nC_TM_nextOfMultiplier 2 (some .int) nR_TM) (t0 : Int32) {σ : sg_T} {H : Heap} {locs : List Loc} {ls : Array Slot} (hw : ww_P x s H locs σ) (hl : lv_has ls 2 [(0, .ref (x.2.2 0))]) (hf : fb_TM_nextOfMultiplier_16 t0 σ = some z) : W p l e (rm_D 3) s m args below meth c H locs 0 0 (qi_Q x s below args z.1 z.2) (F0 m 16 ls [.int t0]) := by
  have F9 := F
  obtain ⟨hx, hb, hml, hr, hlk, hown, hT⟩ := F
  unfold fb_TM_nextOfMultiplier_16 at hf
  refine lv_istore_n (lv' := [(1, .int t0), (0, .ref (x.2.2 0))]) hx hb nD_TM_nextOfMultiplier_16 rfl hl (by decide) rfl (fun ls hl => ?_)
  refine lv_iload_n hx hb nD_TM_nextOfMultiplier_17 rfl (lv_at hl 0 rfl) ?_
  refine lv_if_eq (tgt := 25) hx hb nD_TM_nextOfMultiplier_18 (by decide) (fun h3 => ?_) (fun h3 => ?_)
  · rw [if_pos h3] at hf
    refine lv_aload_n hx hb nD_TM_nextOfMultiplier_25 rfl (lv_at hl 1 rfl) ?_
    refine lv_iconst (v := 4) hx hb nD_TM_nextOfMultiplier_26 (by decide) ?_
    refine lv_iconst (v := 5) hx hb nD_TM_nextOfMultiplier_27 (by decide) ?_
    obtain ⟨z4, hz4, hf⟩ := bd_of hf
    refine cl_vi (As := [.int (4 : Int32), .int (5 : Int32)]) (rest := []) F9 hw (ct_TM_firstReady l x (4 : Int32) (5 : Int32)  _ _ hz4) (rc_TM ) wc_TM_141 hd_TM_firstReady (by decide) hl rfl (Nat.le_of_ble_eq_true rfl) nD_TM_nextOfMultiplier_28 (fun H locs hw => ?_)
    exact rt_i F9 hw rfl nD_TM_nextOfMultiplier_31 hf
  · rw [if_neg h3] at hf
    refine lv_iconst (v := -1) hx hb nD_TM_nextOfMultiplier_21 (by decide) ?_
    refine lv_goto (tgt := 31) hx hb nD_TM_nextOfMultiplier_22 (by decide) ?_
    exact rt_i F9 hw rfl nD_TM_nextOfMultiplier_31 hf
set_option maxRecDepth 100000 in
set_option maxHeartbeats 4000000 in
theorem ct_TM_nextOfMultiplier (l : Launch) (x : cx_T) (σ : sg_T) (z : Int32 × sg_T) (hf : fn_TM_nextOfMultiplier  σ = some z) : ct_i l nN_TM_nextOfMultiplier nC_TM_nextOfMultiplier 2 (some .int) 3 x [.ref (x.2.2 0)] σ z.1 z.2 := by
  refine en_i (own := nR_TM) (by decide) (Nat.le_of_ble_eq_true rfl) rfl ?_
  intro p e s m below meth c ls F hw hl
  have F9 := F
  obtain ⟨hx, hb, hml, hr, hlk, hown, hT⟩ := F
  have hl : lv_has ls 2 [(0, .ref (x.2.2 0))] := hl
  unfold fn_TM_nextOfMultiplier at hf
  refine lv_aload_n hx hb nD_TM_nextOfMultiplier_0 rfl (lv_at hl 0 rfl) ?_
  refine lv_iconst (v := 2) hx hb nD_TM_nextOfMultiplier_1 (by decide) ?_
  refine lv_iconst (v := 4) hx hb nD_TM_nextOfMultiplier_2 (by decide) ?_
  refine lv_iconst (v := 5) hx hb nD_TM_nextOfMultiplier_3 (by decide) ?_
  obtain ⟨z1, hz1, hf⟩ := bd_of hf
  refine cl_vi (As := [.int (2 : Int32), .int (4 : Int32), .int (5 : Int32)]) (rest := []) F9 hw (ct_TM_firstLike l x (2 : Int32) (4 : Int32) (5 : Int32)  _ _ hz1) (rc_TM ) wc_TM_163 hd_TM_firstLike (by decide) hl rfl (Nat.le_of_ble_eq_true rfl) nD_TM_nextOfMultiplier_4 (fun H locs hw => ?_)
  refine lv_iconst (v := -1) hx hb nD_TM_nextOfMultiplier_7 (by decide) ?_
  refine lv_icmp_eq (tgt := 15) hx hb nD_TM_nextOfMultiplier_8 (by decide) (fun h2 => ?_) (fun h2 => ?_)
  · rw [if_pos h2] at hf
    refine lv_iconst (v := 0) hx hb nD_TM_nextOfMultiplier_15 (by decide) ?_
    exact bk_TM_nextOfMultiplier_16 F9 (0 : Int32)  hw (lv_sub hl [0] rfl) hf
  · rw [if_neg h2] at hf
    refine lv_iconst (v := 1) hx hb nD_TM_nextOfMultiplier_11 (by decide) ?_
    refine lv_goto (tgt := 16) hx hb nD_TM_nextOfMultiplier_12 (by decide) ?_
    exact bk_TM_nextOfMultiplier_16 F9 (1 : Int32)  hw (lv_sub hl [0] rfl) hf
set_option maxRecDepth 100000 in
set_option maxHeartbeats 4000000 in
theorem bk_TM_earliestAccess_61 {z : Int32 × sg_T} (F : fx_F p s m args meth c nC_TM_earliestAccess 4 (some .int) nR_TM) (kL5 : Int32 → Int32 → sg_T → Option (Int32 × sg_T)) (ih5 : ∀ (a1 : Int32) (a2 : Int32) (σ : sg_T) (H : Heap) (locs : List Loc) (ls : Array Slot), ww_P x s H locs σ → lv_has ls 4 [(0, .ref (x.2.2 0)), (1, .int a1), (2, .int a2)] → kL5 a1 a2 σ = some z → W p l e (rm_D 2) s m args below meth c H locs 0 0 (qi_Q x s below args z.1 z.2) (F0 m 5 ls [])) (a1 : Int32) (a2 : Int32) {σ : sg_T} {H : Heap} {locs : List Loc} {ls : Array Slot} (hw : ww_P x s H locs σ) (hl : lv_has ls 4 [(0, .ref (x.2.2 0)), (1, .int a1), (2, .int a2)]) (hf : fb_TM_earliestAccess_61 kL5 a1 a2 σ = some z) : W p l e (rm_D 2) s m args below meth c H locs 0 0 (qi_Q x s below args z.1 z.2) (F0 m 61 ls []) := by
  have F9 := F
  obtain ⟨hx, hb, hml, hr, hlk, hown, hT⟩ := F
  unfold fb_TM_earliestAccess_61 at hf
  refine lv_iinc (k := 2) (v := a2 + (1 : Int32)) (lv' := [(2, .int (a2 + (1 : Int32))), (0, .ref (x.2.2 0)), (1, .int a1)]) hx hb nD_TM_earliestAccess_61 hl rfl (ic_p1 _) (by decide) rfl (fun ls hl => ?_)
  refine lv_goto (tgt := 5) hx hb nD_TM_earliestAccess_64 (by decide) ?_
  exact ih5 a1 (a2 + (1 : Int32)) _ _ _ _  hw (lv_sub hl [1, 2, 0] rfl) hf
set_option maxRecDepth 100000 in
set_option maxHeartbeats 4000000 in
theorem bk_TM_earliestAccess_59 {z : Int32 × sg_T} (F : fx_F p s m args meth c nC_TM_earliestAccess 4 (some .int) nR_TM) (kL5 : Int32 → Int32 → sg_T → Option (Int32 × sg_T)) (ih5 : ∀ (a1 : Int32) (a2 : Int32) (σ : sg_T) (H : Heap) (locs : List Loc) (ls : Array Slot), ww_P x s H locs σ → lv_has ls 4 [(0, .ref (x.2.2 0)), (1, .int a1), (2, .int a2)] → kL5 a1 a2 σ = some z → W p l e (rm_D 2) s m args below meth c H locs 0 0 (qi_Q x s below args z.1 z.2) (F0 m 5 ls [])) (a2 : Int32) {σ : sg_T} {H : Heap} {locs : List Loc} {ls : Array Slot} (hw : ww_P x s H locs σ) (hl : lv_has ls 4 [(0, .ref (x.2.2 0)), (2, .int a2)]) (hf : fb_TM_earliestAccess_59 kL5 a2 σ = some z) : W p l e (rm_D 2) s m args below meth c H locs 0 0 (qi_Q x s below args z.1 z.2) (F0 m 59 ls []) := by
  have F9 := F
  obtain ⟨hx, hb, hml, hr, hlk, hown, hT⟩ := F
  unfold fb_TM_earliestAccess_59 at hf
  refine lv_iload_n hx hb nD_TM_earliestAccess_59 rfl (lv_at hl 1 rfl) ?_
  refine lv_istore_n (lv' := [(1, .int a2), (0, .ref (x.2.2 0)), (2, .int a2)]) hx hb nD_TM_earliestAccess_60 rfl hl (by decide) rfl (fun ls hl => ?_)
  exact bk_TM_earliestAccess_61 F9 kL5 ih5 a2 a2  hw (lv_sub hl [1, 0, 2] rfl) hf
set_option maxRecDepth 100000 in
set_option maxHeartbeats 4000000 in
theorem bk_TM_earliestAccess_5 {z : Int32 × sg_T} (F : fx_F p s m args meth c nC_TM_earliestAccess 4 (some .int) nR_TM) : ∀ (n : Nat) (a1 : Int32) (a2 : Int32) (σ : sg_T) (H : Heap) (locs : List Loc) (ls : Array Slot), ww_P x s H locs σ → lv_has ls 4 [(0, .ref (x.2.2 0)), (1, .int a1), (2, .int a2)] → fb_TM_earliestAccess_5 n a1 a2 σ = some z → W p l e (rm_D 2) s m args below meth c H locs 0 0 (qi_Q x s below args z.1 z.2) (F0 m 5 ls []) := by
  have F9 := F
  obtain ⟨hx, hb, hml, hr, hlk, hown, hT⟩ := F
  intro n
  induction n with
  | zero =>
    intro a1 a2 σ H locs ls  hw hl hf
    simp [fb_TM_earliestAccess_5] at hf
  | succ n ih =>
    intro a1 a2 σ H locs ls  hw hl hf
    unfold fb_TM_earliestAccess_5 at hf
    refine lv_iload_n hx hb nD_TM_earliestAccess_5 rfl (lv_at hl 2 rfl) ?_
    refine lv_bipush (v := 12) hx hb nD_TM_earliestAccess_6 (by decide) ?_
    refine lv_icmp_gt (tgt := 67) hx hb nD_TM_earliestAccess_8 (by decide) (fun h1 => ?_) (fun h1 => ?_)
    · rw [if_pos h1] at hf
      refine lv_iload_n hx hb nD_TM_earliestAccess_67 rfl (lv_at hl 1 rfl) ?_
      exact rt_i F9 hw rfl nD_TM_earliestAccess_68 hf
    · rw [if_neg h1] at hf
      refine lv_aload_n hx hb nD_TM_earliestAccess_11 rfl (lv_at hl 0 rfl) ?_
      refine rd_TM_TM_units F9 hw nD_TM_earliestAccess_12 ?_
      refine lv_iload_n hx hb nD_TM_earliestAccess_15 rfl (lv_at hl 2 rfl) ?_
      obtain ⟨g2, hf⟩ := gt_of hf
      refine al_units F9 hw g2 nD_TM_earliestAccess_16 ?_
      refine lv_astore_n (lv' := [(3, .ref (x.2.2 (69 + (tn_I a2)))), (0, .ref (x.2.2 0)), (1, .int a1), (2, .int a2)]) hx hb nD_TM_earliestAccess_17 rfl hl (by decide) rfl (fun ls hl => ?_)
      refine lv_aload_n hx hb nD_TM_earliestAccess_18 rfl (lv_at hl 0 rfl) ?_
      obtain ⟨z3, hz3, hf⟩ := bd_of hf
      refine cl_vi (As := []) (rest := []) F9 hw (ct_UNI_isReady l x (tn_I a2) (ib_lt g2) _ _ hz3) (rc_UNI (ib_lt g2)) wc_TM_160 hd_UNI_isReady (by decide) hl rfl (Nat.le_of_ble_eq_true rfl) nD_TM_earliestAccess_19 (fun H locs hw => ?_)
      refine lv_if_eq (tgt := 61) hx hb nD_TM_earliestAccess_22 (by decide) (fun h4 => ?_) (fun h4 => ?_)
      · rw [if_pos h4] at hf
        exact bk_TM_earliestAccess_61 F9 (fb_TM_earliestAccess_5 n) ih a1 a2  hw (lv_sub hl [1, 2, 3] rfl) hf
      · rw [if_neg h4] at hf
        refine lv_aload_n hx hb nD_TM_earliestAccess_25 rfl (lv_at hl 1 rfl) ?_
        refine rd_TM_TM_bankInUse F9 hw nD_TM_earliestAccess_26 ?_
        refine lv_aload_n hx hb nD_TM_earliestAccess_29 rfl (lv_at hl 1 rfl) ?_
        refine lv_aload_n hx hb nD_TM_earliestAccess_30 rfl (lv_at hl 0 rfl) ?_
        obtain ⟨z5, hz5, hf⟩ := bd_of hf
        refine cl_vi (As := [.ref (x.2.2 (69 + (tn_I a2)))]) (rest := [.ref (x.2.2 6)]) F9 hw (ct_TM_bankOf l x (tn_I a2) (ib_lt g2) _ _ hz5) (rc_TM ) wc_TM_193 hd_TM_bankOf (by decide) hl rfl (Nat.le_of_ble_eq_true rfl) nD_TM_earliestAccess_31 (fun H locs hw => ?_)
        obtain ⟨g6, hf⟩ := gt_of hf
        refine al_bankInUse F9 hw g6 nD_TM_earliestAccess_34 ?_
        refine lv_if_ne (tgt := 61) hx hb nD_TM_earliestAccess_35 (by decide) (fun h7 => ?_) (fun h7 => ?_)
        · rw [if_neg h7] at hf
          exact bk_TM_earliestAccess_61 F9 (fb_TM_earliestAccess_5 n) ih a1 a2  hw (lv_sub hl [1, 2, 3] rfl) hf
        · rw [if_pos h7] at hf
          refine lv_iload_n hx hb nD_TM_earliestAccess_38 rfl (lv_at hl 2 rfl) ?_
          refine lv_iconst (v := -1) hx hb nD_TM_earliestAccess_39 (by decide) ?_
          refine lv_icmp_eq (tgt := 59) hx hb nD_TM_earliestAccess_40 (by decide) (fun h8 => ?_) (fun h8 => ?_)
          · rw [if_pos h8] at hf
            exact bk_TM_earliestAccess_59 F9 (fb_TM_earliestAccess_5 n) ih a2  hw (lv_sub hl [1, 3] rfl) hf
          · rw [if_neg h8] at hf
            refine lv_aload_n hx hb nD_TM_earliestAccess_43 rfl (lv_at hl 0 rfl) ?_
            refine rd_TM_UNI_order F9 hw (ib_lt g2) nD_TM_earliestAccess_44 ?_
            refine lv_aload_n hx hb nD_TM_earliestAccess_47 rfl (lv_at hl 1 rfl) ?_
            refine rd_TM_TM_units F9 hw nD_TM_earliestAccess_48 ?_
            refine lv_iload_n hx hb nD_TM_earliestAccess_51 rfl (lv_at hl 2 rfl) ?_
            obtain ⟨g9, hf⟩ := gt_of hf
            refine al_units F9 hw g9 nD_TM_earliestAccess_52 ?_
            refine rd_TM_UNI_order F9 hw (ib_lt g9) nD_TM_earliestAccess_53 ?_
            refine lv_icmp_ge (tgt := 61) hx hb nD_TM_earliestAccess_56 (by decide) (fun h10 => ?_) (fun h10 => ?_)
            · rw [if_pos h10] at hf
              exact bk_TM_earliestAccess_61 F9 (fb_TM_earliestAccess_5 n) ih a1 a2  hw (lv_sub hl [1, 2, 3] rfl) hf
            · rw [if_neg h10] at hf
              exact bk_TM_earliestAccess_59 F9 (fb_TM_earliestAccess_5 n) ih a2  hw (lv_sub hl [1, 3] rfl) hf
set_option maxRecDepth 100000 in
set_option maxHeartbeats 4000000 in
theorem ct_TM_earliestAccess (l : Launch) (x : cx_T) (σ : sg_T) (z : Int32 × sg_T) (hf : fn_TM_earliestAccess  σ = some z) : ct_i l nN_TM_earliestAccess nC_TM_earliestAccess 4 (some .int) 2 x [.ref (x.2.2 0)] σ z.1 z.2 := by
  refine en_i (own := nR_TM) (by decide) (Nat.le_of_ble_eq_true rfl) rfl ?_
  intro p e s m below meth c ls F hw hl
  have F9 := F
  obtain ⟨hx, hb, hml, hr, hlk, hown, hT⟩ := F
  have hl : lv_has ls 4 [(0, .ref (x.2.2 0))] := hl
  unfold fn_TM_earliestAccess at hf
  refine lv_iconst (v := -1) hx hb nD_TM_earliestAccess_0 (by decide) ?_
  refine lv_istore_n (lv' := [(1, .int (-1 : Int32)), (0, .ref (x.2.2 0))]) hx hb nD_TM_earliestAccess_1 rfl hl (by decide) rfl (fun ls hl => ?_)
  refine lv_bipush (v := 6) hx hb nD_TM_earliestAccess_2 (by decide) ?_
  refine lv_istore_n (lv' := [(2, .int (6 : Int32)), (1, .int (-1 : Int32)), (0, .ref (x.2.2 0))]) hx hb nD_TM_earliestAccess_4 rfl hl (by decide) rfl (fun ls hl => ?_)
  exact bk_TM_earliestAccess_5 F9 14 (-1 : Int32) (6 : Int32) _ _ _ _  hw (lv_sub hl [2, 1, 0] rfl) hf
set_option maxRecDepth 100000 in
set_option maxHeartbeats 4000000 in
theorem ct_TM_beginStorage (l : Launch) (x : cx_T) (σ : sg_T) (z : sg_T) (hf : fn_TM_beginStorage  σ = some z) : ct_v l nN_TM_beginStorage nC_TM_beginStorage 3 3 x [.ref (x.2.2 0)] σ z := by
  refine en_v (own := nR_TM) (by decide) (Nat.le_of_ble_eq_true rfl) rfl ?_
  intro p e s m below meth c ls F hw hl
  have F9 := F
  obtain ⟨hx, hb, hml, hr, hlk, hown, hT⟩ := F
  have hl : lv_has ls 3 [(0, .ref (x.2.2 0))] := hl
  unfold fn_TM_beginStorage at hf
  refine lv_aload_n hx hb nD_TM_beginStorage_0 rfl (lv_at hl 0 rfl) ?_
  obtain ⟨z1, hz1, hf⟩ := bd_of hf
  refine cl_vi (As := []) (rest := []) F9 hw (ct_TM_earliestAccess l x   _ _ hz1) (rc_TM ) wc_TM_214 hd_TM_earliestAccess (by decide) hl rfl (Nat.le_of_ble_eq_true rfl) nD_TM_beginStorage_1 (fun H locs hw => ?_)
  refine lv_istore_n (lv' := [(1, .int z1.1), (0, .ref (x.2.2 0))]) hx hb nD_TM_beginStorage_4 rfl hl (by decide) rfl (fun ls hl => ?_)
  refine lv_iload_n hx hb nD_TM_beginStorage_5 rfl (lv_at hl 0 rfl) ?_
  refine lv_iconst (v := -1) hx hb nD_TM_beginStorage_6 (by decide) ?_
  refine lv_icmp_eq (tgt := 46) hx hb nD_TM_beginStorage_7 (by decide) (fun h2 => ?_) (fun h2 => ?_)
  · rw [if_pos h2] at hf
    exact rt_v F9 hw nD_TM_beginStorage_46 hf
  · rw [if_neg h2] at hf
    refine lv_aload_n hx hb nD_TM_beginStorage_10 rfl (lv_at hl 1 rfl) ?_
    refine rd_TM_TM_units F9 hw nD_TM_beginStorage_11 ?_
    refine lv_iload_n hx hb nD_TM_beginStorage_14 rfl (lv_at hl 0 rfl) ?_
    obtain ⟨g3, hf⟩ := gt_of hf
    refine al_units F9 hw g3 nD_TM_beginStorage_15 ?_
    refine lv_astore_n (lv' := [(2, .ref (x.2.2 (69 + (tn_I z1.1)))), (1, .int z1.1), (0, .ref (x.2.2 0))]) hx hb nD_TM_beginStorage_16 rfl hl (by decide) rfl (fun ls hl => ?_)
    refine lv_aload_n hx hb nD_TM_beginStorage_17 rfl (lv_at hl 2 rfl) ?_
    refine rd_TM_TM_bankInUse F9 hw nD_TM_beginStorage_18 ?_
    refine lv_aload_n hx hb nD_TM_beginStorage_21 rfl (lv_at hl 2 rfl) ?_
    refine lv_aload_n hx hb nD_TM_beginStorage_22 rfl (lv_at hl 0 rfl) ?_
    obtain ⟨z4, hz4, hf⟩ := bd_of hf
    refine cl_vi (As := [.ref (x.2.2 (69 + (tn_I z1.1)))]) (rest := [.ref (x.2.2 6)]) F9 hw (ct_TM_bankOf l x (tn_I z1.1) (ib_lt g3) _ _ hz4) (rc_TM ) wc_TM_193 hd_TM_bankOf (by decide) hl rfl (Nat.le_of_ble_eq_true rfl) nD_TM_beginStorage_23 (fun H locs hw => ?_)
    refine lv_iconst (v := 1) hx hb nD_TM_beginStorage_26 (by decide) ?_
    obtain ⟨g5, hf⟩ := gt_of hf
    refine as_bankInUse F9 hw g5 (by rfl) nD_TM_beginStorage_27 (fun H locs hw => ?_)
    refine lv_aload_n hx hb nD_TM_beginStorage_28 rfl (lv_at hl 0 rfl) ?_
    refine lv_aload_n hx hb nD_TM_beginStorage_29 rfl (lv_at hl 2 rfl) ?_
    refine rd_TM_TM_latency F9 hw nD_TM_beginStorage_30 ?_
    refine lv_aload_n hx hb nD_TM_beginStorage_33 rfl (lv_at hl 2 rfl) ?_
    refine rd_TM_TM_words F9 hw nD_TM_beginStorage_34 ?_
    refine lv_aload_n hx hb nD_TM_beginStorage_37 rfl (lv_at hl 0 rfl) ?_
    refine rd_TM_UNI_address F9 hw (ib_lt g3) nD_TM_beginStorage_38 ?_
    obtain ⟨g6, hf⟩ := gt_of hf
    refine al_words F9 hw g6 nD_TM_beginStorage_41 ?_
    refine lv_iconst (v := 0) hx hb nD_TM_beginStorage_42 (by decide) ?_
    obtain ⟨z7, hz7, hf⟩ := bd_of hf
    refine cl_vv (As := [.int ((sg_up z4.2 19 (tn_I z4.1) (1 : Int32)) 0 1), .int ((sg_up z4.2 19 (tn_I z4.1) (1 : Int32)) 11 (tn_I ((sg_up z4.2 19 (tn_I z4.1) (1 : Int32)) 17 (tn_I z1.1)))), .int (0 : Int32)]) (rest := []) F9 hw (ct_UNI_begin l x (tn_I z1.1) ((sg_up z4.2 19 (tn_I z4.1) (1 : Int32)) 0 1) ((sg_up z4.2 19 (tn_I z4.1) (1 : Int32)) 11 (tn_I ((sg_up z4.2 19 (tn_I z4.1) (1 : Int32)) 17 (tn_I z1.1)))) (0 : Int32) (ib_lt g3) _ _ hz7) (rc_UNI (ib_lt g3)) wc_TM_211 hd_UNI_begin (by decide) hl rfl (Nat.le_of_ble_eq_true rfl) nD_TM_beginStorage_43 (fun H locs hw => ?_)
    exact rt_v F9 hw nD_TM_beginStorage_46 hf
set_option maxRecDepth 100000 in
set_option maxHeartbeats 4000000 in
theorem bk_TM_isToBeStored_36 {z : Int32 × sg_T} (F : fx_F p s m args meth c nC_TM_isToBeStored 3 (some .boolean) nR_TM) (kL3 : Int32 → Int32 → sg_T → Option (Int32 × sg_T)) (ih3 : ∀ (a1 : Int32) (a2 : Int32) (σ : sg_T) (H : Heap) (locs : List Loc) (ls : Array Slot), ww_P x s H locs σ → lv_has ls 3 [(0, .ref (x.2.2 0)), (1, .int a1), (2, .int a2)] → kL3 a1 a2 σ = some z → W p l e (rm_D 0) s m args below meth c H locs 0 0 (qi_Q x s below args z.1 z.2) (F0 m 3 ls [])) (a1 : Int32) (a2 : Int32) {σ : sg_T} {H : Heap} {locs : List Loc} {ls : Array Slot} (hw : ww_P x s H locs σ) (hl : lv_has ls 3 [(0, .ref (x.2.2 0)), (1, .int a1), (2, .int a2)]) (hf : fb_TM_isToBeStored_36 kL3 a1 a2 σ = some z) : W p l e (rm_D 0) s m args below meth c H locs 0 0 (qi_Q x s below args z.1 z.2) (F0 m 36 ls []) := by
  have F9 := F
  obtain ⟨hx, hb, hml, hr, hlk, hown, hT⟩ := F
  unfold fb_TM_isToBeStored_36 at hf
  refine lv_iinc (k := 2) (v := a2 + (1 : Int32)) (lv' := [(2, .int (a2 + (1 : Int32))), (0, .ref (x.2.2 0)), (1, .int a1)]) hx hb nD_TM_isToBeStored_36 hl rfl (ic_p1 _) (by decide) rfl (fun ls hl => ?_)
  refine lv_goto (tgt := 3) hx hb nD_TM_isToBeStored_39 (by decide) ?_
  exact ih3 a1 (a2 + (1 : Int32)) _ _ _ _  hw (lv_sub hl [1, 2, 0] rfl) hf
set_option maxRecDepth 100000 in
set_option maxHeartbeats 4000000 in
theorem bk_TM_isToBeStored_3 {z : Int32 × sg_T} (F : fx_F p s m args meth c nC_TM_isToBeStored 3 (some .boolean) nR_TM) : ∀ (n : Nat) (a1 : Int32) (a2 : Int32) (σ : sg_T) (H : Heap) (locs : List Loc) (ls : Array Slot), ww_P x s H locs σ → lv_has ls 3 [(0, .ref (x.2.2 0)), (1, .int a1), (2, .int a2)] → fb_TM_isToBeStored_3 n a1 a2 σ = some z → W p l e (rm_D 0) s m args below meth c H locs 0 0 (qi_Q x s below args z.1 z.2) (F0 m 3 ls []) := by
  have F9 := F
  obtain ⟨hx, hb, hml, hr, hlk, hown, hT⟩ := F
  intro n
  induction n with
  | zero =>
    intro a1 a2 σ H locs ls  hw hl hf
    simp [fb_TM_isToBeStored_3] at hf
  | succ n ih =>
    intro a1 a2 σ H locs ls  hw hl hf
    unfold fb_TM_isToBeStored_3 at hf
    refine lv_iload_n hx hb nD_TM_isToBeStored_3 rfl (lv_at hl 2 rfl) ?_
    refine lv_bipush (v := 12) hx hb nD_TM_isToBeStored_4 (by decide) ?_
    refine lv_icmp_gt (tgt := 42) hx hb nD_TM_isToBeStored_6 (by decide) (fun h1 => ?_) (fun h1 => ?_)
    · rw [if_pos h1] at hf
      refine lv_iconst (v := 0) hx hb nD_TM_isToBeStored_42 (by decide) ?_
      exact rt_i F9 hw rfl nD_TM_isToBeStored_43 hf
    · rw [if_neg h1] at hf
      refine lv_aload_n hx hb nD_TM_isToBeStored_9 rfl (lv_at hl 0 rfl) ?_
      refine rd_TM_TM_units F9 hw nD_TM_isToBeStored_10 ?_
      refine lv_iload_n hx hb nD_TM_isToBeStored_13 rfl (lv_at hl 2 rfl) ?_
      obtain ⟨g2, hf⟩ := gt_of hf
      refine al_units F9 hw g2 nD_TM_isToBeStored_14 ?_
      refine rd_TM_UNI_state F9 hw (ib_lt g2) nD_TM_isToBeStored_15 ?_
      refine lv_if_eq (tgt := 36) hx hb nD_TM_isToBeStored_18 (by decide) (fun h3 => ?_) (fun h3 => ?_)
      · rw [if_pos h3] at hf
        exact bk_TM_isToBeStored_36 F9 (fb_TM_isToBeStored_3 n) ih a1 a2  hw (lv_sub hl [0, 1, 2] rfl) hf
      · rw [if_neg h3] at hf
        refine lv_aload_n hx hb nD_TM_isToBeStored_21 rfl (lv_at hl 0 rfl) ?_
        refine rd_TM_TM_units F9 hw nD_TM_isToBeStored_22 ?_
        refine lv_iload_n hx hb nD_TM_isToBeStored_25 rfl (lv_at hl 2 rfl) ?_
        obtain ⟨g4, hf⟩ := gt_of hf
        refine al_units F9 hw g4 nD_TM_isToBeStored_26 ?_
        refine rd_TM_UNI_address F9 hw (ib_lt g4) nD_TM_isToBeStored_27 ?_
        refine lv_iload_n hx hb nD_TM_isToBeStored_30 rfl (lv_at hl 1 rfl) ?_
        refine lv_icmp_ne (tgt := 36) hx hb nD_TM_isToBeStored_31 (by decide) (fun h5 => ?_) (fun h5 => ?_)
        · rw [if_neg h5] at hf
          exact bk_TM_isToBeStored_36 F9 (fb_TM_isToBeStored_3 n) ih a1 a2  hw (lv_sub hl [0, 1, 2] rfl) hf
        · rw [if_pos h5] at hf
          refine lv_iconst (v := 1) hx hb nD_TM_isToBeStored_34 (by decide) ?_
          exact rt_i F9 hw rfl nD_TM_isToBeStored_35 hf
set_option maxRecDepth 100000 in
set_option maxHeartbeats 4000000 in
theorem ct_TM_isToBeStored (l : Launch) (x : cx_T) (a1 : Int32) (σ : sg_T) (z : Int32 × sg_T) (hf : fn_TM_isToBeStored a1 σ = some z) : ct_i l nN_TM_isToBeStored nC_TM_isToBeStored 3 (some .boolean) 0 x [.ref (x.2.2 0), .int a1] σ z.1 z.2 := by
  refine en_i (own := nR_TM) (by decide) (Nat.le_of_ble_eq_true rfl) rfl ?_
  intro p e s m below meth c ls F hw hl
  have F9 := F
  obtain ⟨hx, hb, hml, hr, hlk, hown, hT⟩ := F
  have hl : lv_has ls 3 [(0, .ref (x.2.2 0)), (1, .int a1)] := hl
  unfold fn_TM_isToBeStored at hf
  refine lv_bipush (v := 10) hx hb nD_TM_isToBeStored_0 (by decide) ?_
  refine lv_istore_n (lv' := [(2, .int (10 : Int32)), (0, .ref (x.2.2 0)), (1, .int a1)]) hx hb nD_TM_isToBeStored_2 rfl hl (by decide) rfl (fun ls hl => ?_)
  exact bk_TM_isToBeStored_3 F9 14 a1 (10 : Int32) _ _ _ _  hw (lv_sub hl [1, 2, 0] rfl) hf
set_option maxRecDepth 100000 in
set_option maxHeartbeats 4000000 in
theorem bk_TM_handToBuffer_136 {z : Int32 × sg_T} (F : fx_F p s m args meth c nC_TM_handToBuffer 4 (some .boolean) nR_TM) {σ : sg_T} {H : Heap} {locs : List Loc} {ls : Array Slot} (hw : ww_P x s H locs σ) (hl : lv_has ls 4 [(0, .ref (x.2.2 0))]) (hf : fb_TM_handToBuffer_136  σ = some z) : W p l e (rm_D 2) s m args below meth c H locs 0 0 (qi_Q x s below args z.1 z.2) (F0 m 136 ls []) := by
  have F9 := F
  obtain ⟨hx, hb, hml, hr, hlk, hown, hT⟩ := F
  unfold fb_TM_handToBuffer_136 at hf
  refine lv_aload_n hx hb nD_TM_handToBuffer_136 rfl (lv_at hl 0 rfl) ?_
  refine lv_dup hx hb nD_TM_handToBuffer_137 rfl ?_
  refine rd_TM_TM_next F9 hw nD_TM_handToBuffer_138 ?_
  refine lv_iconst (v := 1) hx hb nD_TM_handToBuffer_141 (by decide) ?_
  refine lv_iadd hx hb nD_TM_handToBuffer_142 ?_
  refine wr_TM_TM_next F9 hw nD_TM_handToBuffer_143 (fun H locs hw => ?_)
  refine lv_iconst (v := 1) hx hb nD_TM_handToBuffer_146 (by decide) ?_
  exact rt_i F9 hw rfl nD_TM_handToBuffer_147 hf
set_option maxRecDepth 100000 in
set_option maxHeartbeats 4000000 in
theorem bk_TM_handToBuffer_58 {z : Int32 × sg_T} (F : fx_F p s m args meth c nC_TM_handToBuffer 4 (some .boolean) nR_TM) (a1 : Nat) (a2 : Int32) (t0 : Int32) {σ : sg_T} {H : Heap} {locs : List Loc} {ls : Array Slot} (ha1 : a1 < 30) (hw : ww_P x s H locs σ) (hl : lv_has ls 4 [(0, .ref (x.2.2 0)), (1, .ref (x.2.2 (8 + a1))), (2, .int a2)]) (hf : fb_TM_handToBuffer_58 a1 a2 t0 σ = some z) : W p l e (rm_D 2) s m args below meth c H locs 0 0 (qi_Q x s below args z.1 z.2) (F0 m 58 ls [.int t0]) := by
  have F9 := F
  obtain ⟨hx, hb, hml, hr, hlk, hown, hT⟩ := F
  unfold fb_TM_handToBuffer_58 at hf
  refine lv_istore_n (lv' := [(3, .int t0), (0, .ref (x.2.2 0)), (1, .ref (x.2.2 (8 + a1))), (2, .int a2)]) hx hb nD_TM_handToBuffer_58 rfl hl (by decide) rfl (fun ls hl => ?_)
  refine lv_iload_n hx hb nD_TM_handToBuffer_59 rfl (lv_at hl 0 rfl) ?_
  refine lv_iconst (v := -1) hx hb nD_TM_handToBuffer_60 (by decide) ?_
  refine lv_icmp_eq (tgt := 72) hx hb nD_TM_handToBuffer_61 (by decide) (fun h6 => ?_) (fun h6 => ?_)
  · rw [if_pos h6] at hf
    refine lv_iconst (v := 0) hx hb nD_TM_handToBuffer_72 (by decide) ?_
    exact rt_i F9 hw rfl nD_TM_handToBuffer_73 hf
  · rw [if_neg h6] at hf
    refine lv_aload_n hx hb nD_TM_handToBuffer_64 rfl (lv_at hl 1 rfl) ?_
    refine lv_iload_n hx hb nD_TM_handToBuffer_65 rfl (lv_at hl 3 rfl) ?_
    obtain ⟨z7, hz7, hf⟩ := bd_of hf
    refine cl_vi (As := [.int a2]) (rest := []) F9 hw (ct_TM_isToBeStored l x a2  _ _ hz7) (rc_TM ) wc_TM_237 hd_TM_isToBeStored (by decide) hl rfl (Nat.le_of_ble_eq_true rfl) nD_TM_handToBuffer_66 (fun H locs hw => ?_)
    refine lv_if_eq (tgt := 74) hx hb nD_TM_handToBuffer_69 (by decide) (fun h8 => ?_) (fun h8 => ?_)
    · rw [if_pos h8] at hf
      refine lv_aload_n hx hb nD_TM_handToBuffer_74 rfl (lv_at hl 1 rfl) ?_
      refine rd_TM_TM_units F9 hw nD_TM_handToBuffer_75 ?_
      refine lv_iload_n hx hb nD_TM_handToBuffer_78 rfl (lv_at hl 0 rfl) ?_
      obtain ⟨g9, hf⟩ := gt_of hf
      refine al_units F9 hw g9 nD_TM_handToBuffer_79 ?_
      refine lv_aload_n hx hb nD_TM_handToBuffer_80 rfl (lv_at hl 2 rfl) ?_
      refine rd_TM_INS_op F9 hw ha1 nD_TM_handToBuffer_81 ?_
      refine lv_iload_n hx hb nD_TM_handToBuffer_84 rfl (lv_at hl 3 rfl) ?_
      refine lv_aload_n hx hb nD_TM_handToBuffer_85 rfl (lv_at hl 1 rfl) ?_
      refine rd_TM_TM_handedOut F9 hw nD_TM_handToBuffer_86 ?_
      obtain ⟨z10, hz10, hf⟩ := bd_of hf
      refine cl_vv (As := [.int (z7.2 1 a1), .int a2, .int (z7.2 0 7)]) (rest := []) F9 hw (ct_UNI_claim l x (tn_I t0) (z7.2 1 a1) a2 (z7.2 0 7) (ib_lt g9) _ _ hz10) (rc_UNI (ib_lt g9)) wc_TM_240 hd_UNI_claim (by decide) hl rfl (Nat.le_of_ble_eq_true rfl) nD_TM_handToBuffer_89 (fun H locs hw => ?_)
      refine lv_aload_n hx hb nD_TM_handToBuffer_92 rfl (lv_at hl 2 rfl) ?_
      refine rd_TM_INS_op F9 hw ha1 nD_TM_handToBuffer_93 ?_
      refine lv_if_ne (tgt := 115) hx hb nD_TM_handToBuffer_96 (by decide) (fun h11 => ?_) (fun h11 => ?_)
      · rw [if_neg h11] at hf
        refine lv_aload_n hx hb nD_TM_handToBuffer_115 rfl (lv_at hl 1 rfl) ?_
        refine rd_TM_TM_units F9 hw nD_TM_handToBuffer_116 ?_
        refine lv_iload_n hx hb nD_TM_handToBuffer_119 rfl (lv_at hl 0 rfl) ?_
        obtain ⟨g12, hf⟩ := gt_of hf
        refine al_units F9 hw g12 nD_TM_handToBuffer_120 ?_
        refine rd_TM_UNI_first F9 hw (ib_lt g12) nD_TM_handToBuffer_121 ?_
        refine lv_aload_n hx hb nD_TM_handToBuffer_124 rfl (lv_at hl 1 rfl) ?_
        refine rd_TM_TM_registers F9 hw nD_TM_handToBuffer_125 ?_
        refine lv_aload_n hx hb nD_TM_handToBuffer_128 rfl (lv_at hl 2 rfl) ?_
        refine rd_TM_INS_r F9 hw ha1 nD_TM_handToBuffer_129 ?_
        obtain ⟨g13, hf⟩ := gt_of hf
        refine al_registers F9 hw g13 nD_TM_handToBuffer_132 ?_
        obtain ⟨z14, hz14, hf⟩ := bd_of hf
        refine cl_vv (As := [.ref (x.2.2 (38 + (tn_I (z10 2 a1))))]) (rest := []) F9 hw (ct_OPD_copy l x (5 + 2 * (tn_I t0)) (tn_I (z10 2 a1)) (by have := (ib_lt g12); omega) (Nat.lt_of_lt_of_le (ib_lt g13) (by decide)) _ _ hz14) (rc_OPD (by have := (ib_lt g12); omega)) wc_TM_249 hd_OPD_copy (by decide) hl rfl (Nat.le_of_ble_eq_true rfl) nD_TM_handToBuffer_133 (fun H locs hw => ?_)
        exact bk_TM_handToBuffer_136 F9   hw (lv_sub hl [1] rfl) hf
      · rw [if_pos h11] at hf
        refine lv_aload_n hx hb nD_TM_handToBuffer_99 rfl (lv_at hl 1 rfl) ?_
        refine rd_TM_TM_registers F9 hw nD_TM_handToBuffer_100 ?_
        refine lv_aload_n hx hb nD_TM_handToBuffer_103 rfl (lv_at hl 2 rfl) ?_
        refine rd_TM_INS_r F9 hw ha1 nD_TM_handToBuffer_104 ?_
        obtain ⟨g15, hf⟩ := gt_of hf
        refine al_registers F9 hw g15 nD_TM_handToBuffer_107 ?_
        refine lv_iload_n hx hb nD_TM_handToBuffer_108 rfl (lv_at hl 0 rfl) ?_
        obtain ⟨z16, hz16, hf⟩ := bd_of hf
        refine cl_vv (As := [.int t0]) (rest := []) F9 hw (ct_OPD_waitFor l x (tn_I (z10 2 a1)) t0 (Nat.lt_of_lt_of_le (ib_lt g15) (by decide)) _ _ hz16) (rc_OPD (Nat.lt_of_lt_of_le (ib_lt g15) (by decide))) wc_TM_246 hd_OPD_waitFor (by decide) hl rfl (Nat.le_of_ble_eq_true rfl) nD_TM_handToBuffer_109 (fun H locs hw => ?_)
        refine lv_goto (tgt := 136) hx hb nD_TM_handToBuffer_112 (by decide) ?_
        exact bk_TM_handToBuffer_136 F9   hw (lv_sub hl [1] rfl) hf
    · rw [if_neg h8] at hf
      refine lv_iconst (v := 0) hx hb nD_TM_handToBuffer_72 (by decide) ?_
      exact rt_i F9 hw rfl nD_TM_handToBuffer_73 hf
set_option maxRecDepth 100000 in
set_option maxHeartbeats 4000000 in
theorem ct_TM_handToBuffer (l : Launch) (x : cx_T) (k1 : Nat) (hk1 : k1 < 30) (σ : sg_T) (z : Int32 × sg_T) (hf : fn_TM_handToBuffer k1 σ = some z) : ct_i l nN_TM_handToBuffer nC_TM_handToBuffer 4 (some .boolean) 2 x [.ref (x.2.2 0), .ref (x.2.2 (8 + k1))] σ z.1 z.2 := by
  refine en_i (own := nR_TM) (by decide) (Nat.le_of_ble_eq_true rfl) rfl ?_
  intro p e s m below meth c ls F hw hl
  have F9 := F
  obtain ⟨hx, hb, hml, hr, hlk, hown, hT⟩ := F
  have hl : lv_has ls 4 [(0, .ref (x.2.2 0)), (1, .ref (x.2.2 (8 + k1)))] := hl
  unfold fn_TM_handToBuffer at hf
  refine lv_aload_n hx hb nD_TM_handToBuffer_0 rfl (lv_at hl 0 rfl) ?_
  refine rd_TM_TM_integers F9 hw nD_TM_handToBuffer_1 ?_
  refine lv_aload_n hx hb nD_TM_handToBuffer_4 rfl (lv_at hl 1 rfl) ?_
  refine rd_TM_INS_b F9 hw hk1 nD_TM_handToBuffer_5 ?_
  obtain ⟨g1, hf⟩ := gt_of hf
  refine al_integers F9 hw g1 nD_TM_handToBuffer_8 ?_
  refine lv_aload_n hx hb nD_TM_handToBuffer_9 rfl (lv_at hl 1 rfl) ?_
  refine rd_TM_INS_n F9 hw hk1 nD_TM_handToBuffer_10 ?_
  refine lv_iadd hx hb nD_TM_handToBuffer_13 ?_
  refine lv_istore_n (lv' := [(2, .int ((σ 10 (tn_I (σ 4 k1))) + (σ 5 k1))), (0, .ref (x.2.2 0)), (1, .ref (x.2.2 (8 + k1)))]) hx hb nD_TM_handToBuffer_14 rfl hl (by decide) rfl (fun ls hl => ?_)
  refine lv_iload_n hx hb nD_TM_handToBuffer_15 rfl (lv_at hl 0 rfl) ?_
  obtain ⟨z2, hz2, hf⟩ := bd_of hf
  refine cl_si (As := [.int ((σ 10 (tn_I (σ 4 k1))) + (σ 5 k1))]) (rest := []) F9 hw (ct_TM_isPlace l x ((σ 10 (tn_I (σ 4 k1))) + (σ 5 k1))  _ _ hz2) wc_TM_104 hd_TM_isPlace (by decide) hl rfl (Nat.le_of_ble_eq_true rfl) nD_TM_handToBuffer_16 (fun H locs hw => ?_)
  refine lv_if_ne (tgt := 30) hx hb nD_TM_handToBuffer_19 (by decide) (fun h3 => ?_) (fun h3 => ?_)
  · rw [if_neg h3] at hf
    refine lv_aload_n hx hb nD_TM_handToBuffer_30 rfl (lv_at hl 2 rfl) ?_
    refine rd_TM_INS_op F9 hw hk1 nD_TM_handToBuffer_31 ?_
    refine lv_if_ne (tgt := 49) hx hb nD_TM_handToBuffer_34 (by decide) (fun h4 => ?_) (fun h4 => ?_)
    · rw [if_neg h4] at hf
      refine lv_aload_n hx hb nD_TM_handToBuffer_49 rfl (lv_at hl 1 rfl) ?_
      refine lv_iconst (v := 0) hx hb nD_TM_handToBuffer_50 (by decide) ?_
      refine lv_bipush (v := 10) hx hb nD_TM_handToBuffer_51 (by decide) ?_
      refine lv_bipush (v := 12) hx hb nD_TM_handToBuffer_53 (by decide) ?_
      obtain ⟨z5, hz5, hf⟩ := bd_of hf
      refine cl_vi (As := [.int (0 : Int32), .int (10 : Int32), .int (12 : Int32)]) (rest := []) F9 hw (ct_TM_firstLike l x (0 : Int32) (10 : Int32) (12 : Int32)  _ _ hz5) (rc_TM ) wc_TM_163 hd_TM_firstLike (by decide) hl rfl (Nat.le_of_ble_eq_true rfl) nD_TM_handToBuffer_55 (fun H locs hw => ?_)
      exact bk_TM_handToBuffer_58 F9 k1 ((σ 10 (tn_I (σ 4 k1))) + (σ 5 k1)) z5.1 hk1 hw (lv_sub hl [1, 2, 0] rfl) hf
    · rw [if_pos h4] at hf
      refine lv_aload_n hx hb nD_TM_handToBuffer_37 rfl (lv_at hl 1 rfl) ?_
      refine lv_iconst (v := 0) hx hb nD_TM_handToBuffer_38 (by decide) ?_
      refine lv_bipush (v := 6) hx hb nD_TM_handToBuffer_39 (by decide) ?_
      refine lv_bipush (v := 9) hx hb nD_TM_handToBuffer_41 (by decide) ?_
      obtain ⟨z17, hz17, hf⟩ := bd_of hf
      refine cl_vi (As := [.int (0 : Int32), .int (6 : Int32), .int (9 : Int32)]) (rest := []) F9 hw (ct_TM_firstLike l x (0 : Int32) (6 : Int32) (9 : Int32)  _ _ hz17) (rc_TM ) wc_TM_163 hd_TM_firstLike (by decide) hl rfl (Nat.le_of_ble_eq_true rfl) nD_TM_handToBuffer_43 (fun H locs hw => ?_)
      refine lv_goto (tgt := 58) hx hb nD_TM_handToBuffer_46 (by decide) ?_
      exact bk_TM_handToBuffer_58 F9 k1 ((σ 10 (tn_I (σ 4 k1))) + (σ 5 k1)) z17.1 hk1 hw (lv_sub hl [1, 2, 0] rfl) hf
  · rw [if_pos h3] at hf
    refine lv_aload_n hx hb nD_TM_handToBuffer_22 rfl (lv_at hl 1 rfl) ?_
    refine lv_bipush (v := 8) hx hb nD_TM_handToBuffer_23 (by decide) ?_
    obtain ⟨z18, hz18, hf⟩ := bd_of hf
    refine cl_vv (As := [.int (8 : Int32)]) (rest := []) F9 hw (ct_TM_note l x (8 : Int32)  _ _ hz18) (rc_TM ) wc_TM_177 hd_TM_note (by decide) hl rfl (Nat.le_of_ble_eq_true rfl) nD_TM_handToBuffer_25 (fun H locs hw => ?_)
    refine lv_iconst (v := 0) hx hb nD_TM_handToBuffer_28 (by decide) ?_
    exact rt_i F9 hw rfl nD_TM_handToBuffer_29 hf
set_option maxRecDepth 100000 in
set_option maxHeartbeats 4000000 in
theorem bk_TM_handToStation_122 {z : Int32 × sg_T} (F : fx_F p s m args meth c nC_TM_handToStation 3 (some .boolean) nR_TM) (a2 : Int32) (t0 : Int32) {σ : sg_T} {H : Heap} {locs : List Loc} {ls : Array Slot} (hw : ww_P x s H locs σ) (hl : lv_has ls 3 [(0, .ref (x.2.2 0)), (2, .int a2)]) (hf : fb_TM_handToStation_122 a2 t0 σ = some z) : W p l e (rm_D 2) s m args below meth c H locs 0 0 (qi_Q x s below args z.1 z.2) (F0 m 122 ls [.int t0, .ref (x.2.2 2)]) := by
  have F9 := F
  obtain ⟨hx, hb, hml, hr, hlk, hown, hT⟩ := F
  unfold fb_TM_handToStation_122 at hf
  obtain ⟨g13, hf⟩ := gt_of hf
  refine al_registers F9 hw g13 nD_TM_handToStation_122 ?_
  refine lv_iload_n hx hb nD_TM_handToStation_123 rfl (lv_at hl 1 rfl) ?_
  obtain ⟨z14, hz14, hf⟩ := bd_of hf
  refine cl_vv (As := [.int a2]) (rest := []) F9 hw (ct_OPD_waitFor l x (tn_I t0) a2 (Nat.lt_of_lt_of_le (ib_lt g13) (by decide)) _ _ hz14) (rc_OPD (Nat.lt_of_lt_of_le (ib_lt g13) (by decide))) wc_TM_246 hd_OPD_waitFor (by decide) hl rfl (Nat.le_of_ble_eq_true rfl) nD_TM_handToStation_124 (fun H locs hw => ?_)
  refine lv_aload_n hx hb nD_TM_handToStation_127 rfl (lv_at hl 0 rfl) ?_
  refine lv_dup hx hb nD_TM_handToStation_128 rfl ?_
  refine rd_TM_TM_next F9 hw nD_TM_handToStation_129 ?_
  refine lv_iconst (v := 1) hx hb nD_TM_handToStation_132 (by decide) ?_
  refine lv_iadd hx hb nD_TM_handToStation_133 ?_
  refine wr_TM_TM_next F9 hw nD_TM_handToStation_134 (fun H locs hw => ?_)
  refine lv_iconst (v := 1) hx hb nD_TM_handToStation_137 (by decide) ?_
  exact rt_i F9 hw rfl nD_TM_handToStation_138 hf
set_option maxRecDepth 100000 in
set_option maxHeartbeats 4000000 in
theorem bk_TM_handToStation_33 {z : Int32 × sg_T} (F : fx_F p s m args meth c nC_TM_handToStation 3 (some .boolean) nR_TM) (a1 : Nat) (t0 : Int32) {σ : sg_T} {H : Heap} {locs : List Loc} {ls : Array Slot} (ha1 : a1 < 30) (hw : ww_P x s H locs σ) (hl : lv_has ls 3 [(0, .ref (x.2.2 0)), (1, .ref (x.2.2 (8 + a1)))]) (hf : fb_TM_handToStation_33 a1 t0 σ = some z) : W p l e (rm_D 2) s m args below meth c H locs 0 0 (qi_Q x s below args z.1 z.2) (F0 m 33 ls [.int t0]) := by
  have F9 := F
  obtain ⟨hx, hb, hml, hr, hlk, hown, hT⟩ := F
  unfold fb_TM_handToStation_33 at hf
  refine lv_istore_n (lv' := [(2, .int t0), (0, .ref (x.2.2 0)), (1, .ref (x.2.2 (8 + a1)))]) hx hb nD_TM_handToStation_33 rfl hl (by decide) rfl (fun ls hl => ?_)
  refine lv_iload_n hx hb nD_TM_handToStation_34 rfl (lv_at hl 0 rfl) ?_
  refine lv_iconst (v := -1) hx hb nD_TM_handToStation_35 (by decide) ?_
  refine lv_icmp_ne (tgt := 41) hx hb nD_TM_handToStation_36 (by decide) (fun h3 => ?_) (fun h3 => ?_)
  · rw [if_neg h3] at hf
    refine lv_aload_n hx hb nD_TM_handToStation_41 rfl (lv_at hl 1 rfl) ?_
    refine rd_TM_TM_units F9 hw nD_TM_handToStation_42 ?_
    refine lv_iload_n hx hb nD_TM_handToStation_45 rfl (lv_at hl 0 rfl) ?_
    obtain ⟨g4, hf⟩ := gt_of hf
    refine al_units F9 hw g4 nD_TM_handToStation_46 ?_
    refine lv_aload_n hx hb nD_TM_handToStation_47 rfl (lv_at hl 2 rfl) ?_
    refine rd_TM_INS_op F9 hw ha1 nD_TM_handToStation_48 ?_
    refine lv_iconst (v := 0) hx hb nD_TM_handToStation_51 (by decide) ?_
    refine lv_aload_n hx hb nD_TM_handToStation_52 rfl (lv_at hl 1 rfl) ?_
    refine rd_TM_TM_handedOut F9 hw nD_TM_handToStation_53 ?_
    obtain ⟨z5, hz5, hf⟩ := bd_of hf
    refine cl_vv (As := [.int (σ 1 a1), .int (0 : Int32), .int (σ 0 7)]) (rest := []) F9 hw (ct_UNI_claim l x (tn_I t0) (σ 1 a1) (0 : Int32) (σ 0 7) (ib_lt g4) _ _ hz5) (rc_UNI (ib_lt g4)) wc_TM_240 hd_UNI_claim (by decide) hl rfl (Nat.le_of_ble_eq_true rfl) nD_TM_handToStation_56 (fun H locs hw => ?_)
    refine lv_aload_n hx hb nD_TM_handToStation_59 rfl (lv_at hl 1 rfl) ?_
    refine rd_TM_TM_units F9 hw nD_TM_handToStation_60 ?_
    refine lv_iload_n hx hb nD_TM_handToStation_63 rfl (lv_at hl 0 rfl) ?_
    obtain ⟨g6, hf⟩ := gt_of hf
    refine al_units F9 hw g6 nD_TM_handToStation_64 ?_
    refine rd_TM_UNI_first F9 hw (ib_lt g6) nD_TM_handToStation_65 ?_
    refine lv_aload_n hx hb nD_TM_handToStation_68 rfl (lv_at hl 1 rfl) ?_
    refine rd_TM_TM_registers F9 hw nD_TM_handToStation_69 ?_
    refine lv_aload_n hx hb nD_TM_handToStation_72 rfl (lv_at hl 2 rfl) ?_
    refine rd_TM_INS_r F9 hw ha1 nD_TM_handToStation_73 ?_
    obtain ⟨g7, hf⟩ := gt_of hf
    refine al_registers F9 hw g7 nD_TM_handToStation_76 ?_
    obtain ⟨z8, hz8, hf⟩ := bd_of hf
    refine cl_vv (As := [.ref (x.2.2 (38 + (tn_I (z5 2 a1))))]) (rest := []) F9 hw (ct_OPD_copy l x (5 + 2 * (tn_I t0)) (tn_I (z5 2 a1)) (by have := (ib_lt g6); omega) (Nat.lt_of_lt_of_le (ib_lt g7) (by decide)) _ _ hz8) (rc_OPD (by have := (ib_lt g6); omega)) wc_TM_249 hd_OPD_copy (by decide) hl rfl (Nat.le_of_ble_eq_true rfl) nD_TM_handToStation_77 (fun H locs hw => ?_)
    refine lv_aload_n hx hb nD_TM_handToStation_80 rfl (lv_at hl 1 rfl) ?_
    refine rd_TM_TM_units F9 hw nD_TM_handToStation_81 ?_
    refine lv_iload_n hx hb nD_TM_handToStation_84 rfl (lv_at hl 0 rfl) ?_
    obtain ⟨g9, hf⟩ := gt_of hf
    refine al_units F9 hw g9 nD_TM_handToStation_85 ?_
    refine rd_TM_UNI_second F9 hw (ib_lt g9) nD_TM_handToStation_86 ?_
    refine lv_aload_n hx hb nD_TM_handToStation_89 rfl (lv_at hl 1 rfl) ?_
    refine rd_TM_TM_registers F9 hw nD_TM_handToStation_90 ?_
    refine lv_aload_n hx hb nD_TM_handToStation_93 rfl (lv_at hl 2 rfl) ?_
    refine rd_TM_INS_s F9 hw ha1 nD_TM_handToStation_94 ?_
    obtain ⟨g10, hf⟩ := gt_of hf
    refine al_registers F9 hw g10 nD_TM_handToStation_97 ?_
    obtain ⟨z11, hz11, hf⟩ := bd_of hf
    refine cl_vv (As := [.ref (x.2.2 (38 + (tn_I (z8 3 a1))))]) (rest := []) F9 hw (ct_OPD_copy l x (6 + 2 * (tn_I t0)) (tn_I (z8 3 a1)) (by have := (ib_lt g9); omega) (Nat.lt_of_lt_of_le (ib_lt g10) (by decide)) _ _ hz11) (rc_OPD (by have := (ib_lt g9); omega)) wc_TM_249 hd_OPD_copy (by decide) hl rfl (Nat.le_of_ble_eq_true rfl) nD_TM_handToStation_98 (fun H locs hw => ?_)
    refine lv_aload_n hx hb nD_TM_handToStation_101 rfl (lv_at hl 1 rfl) ?_
    refine rd_TM_TM_registers F9 hw nD_TM_handToStation_102 ?_
    refine lv_aload_n hx hb nD_TM_handToStation_105 rfl (lv_at hl 2 rfl) ?_
    refine rd_TM_INS_op F9 hw ha1 nD_TM_handToStation_106 ?_
    refine lv_bipush (v := 6) hx hb nD_TM_handToStation_109 (by decide) ?_
    refine lv_icmp_ne (tgt := 118) hx hb nD_TM_handToStation_111 (by decide) (fun h12 => ?_) (fun h12 => ?_)
    · rw [if_neg h12] at hf
      refine lv_aload_n hx hb nD_TM_handToStation_118 rfl (lv_at hl 2 rfl) ?_
      refine rd_TM_INS_r F9 hw ha1 nD_TM_handToStation_119 ?_
      exact bk_TM_handToStation_122 F9 t0 (z11 2 a1)  hw (lv_sub hl [1, 0] rfl) hf
    · rw [if_pos h12] at hf
      refine lv_iconst (v := 4) hx hb nD_TM_handToStation_114 (by decide) ?_
      refine lv_goto (tgt := 122) hx hb nD_TM_handToStation_115 (by decide) ?_
      exact bk_TM_handToStation_122 F9 t0 (4 : Int32)  hw (lv_sub hl [1, 0] rfl) hf
  · rw [if_pos h3] at hf
    refine lv_iconst (v := 0) hx hb nD_TM_handToStation_39 (by decide) ?_
    exact rt_i F9 hw rfl nD_TM_handToStation_40 hf
set_option maxRecDepth 100000 in
set_option maxHeartbeats 4000000 in
theorem bk_TM_handToStation_16 {z : Int32 × sg_T} (F : fx_F p s m args meth c nC_TM_handToStation 3 (some .boolean) nR_TM) (a1 : Nat) {σ : sg_T} {H : Heap} {locs : List Loc} {ls : Array Slot} (ha1 : a1 < 30) (hw : ww_P x s H locs σ) (hl : lv_has ls 3 [(0, .ref (x.2.2 0)), (1, .ref (x.2.2 (8 + a1)))]) (hf : fb_TM_handToStation_16 a1 σ = some z) : W p l e (rm_D 2) s m args below meth c H locs 0 0 (qi_Q x s below args z.1 z.2) (F0 m 16 ls []) := by
  have F9 := F
  obtain ⟨hx, hb, hml, hr, hlk, hown, hT⟩ := F
  unfold fb_TM_handToStation_16 at hf
  refine lv_aload_n hx hb nD_TM_handToStation_16 rfl (lv_at hl 0 rfl) ?_
  refine lv_iconst (v := 0) hx hb nD_TM_handToStation_17 (by decide) ?_
  refine lv_iconst (v := 4) hx hb nD_TM_handToStation_18 (by decide) ?_
  refine lv_iconst (v := 5) hx hb nD_TM_handToStation_19 (by decide) ?_
  obtain ⟨z2, hz2, hf⟩ := bd_of hf
  refine cl_vi (As := [.int (0 : Int32), .int (4 : Int32), .int (5 : Int32)]) (rest := []) F9 hw (ct_TM_firstLike l x (0 : Int32) (4 : Int32) (5 : Int32)  _ _ hz2) (rc_TM ) wc_TM_163 hd_TM_firstLike (by decide) hl rfl (Nat.le_of_ble_eq_true rfl) nD_TM_handToStation_20 (fun H locs hw => ?_)
  refine lv_goto (tgt := 33) hx hb nD_TM_handToStation_23 (by decide) ?_
  exact bk_TM_handToStation_33 F9 a1 z2.1 ha1 hw (lv_sub hl [0, 1] rfl) hf
set_option maxRecDepth 100000 in
set_option maxHeartbeats 4000000 in
theorem ct_TM_handToStation (l : Launch) (x : cx_T) (k1 : Nat) (hk1 : k1 < 30) (σ : sg_T) (z : Int32 × sg_T) (hf : fn_TM_handToStation k1 σ = some z) : ct_i l nN_TM_handToStation nC_TM_handToStation 3 (some .boolean) 2 x [.ref (x.2.2 0), .ref (x.2.2 (8 + k1))] σ z.1 z.2 := by
  refine en_i (own := nR_TM) (by decide) (Nat.le_of_ble_eq_true rfl) rfl ?_
  intro p e s m below meth c ls F hw hl
  have F9 := F
  obtain ⟨hx, hb, hml, hr, hlk, hown, hT⟩ := F
  have hl : lv_has ls 3 [(0, .ref (x.2.2 0)), (1, .ref (x.2.2 (8 + k1)))] := hl
  unfold fn_TM_handToStation at hf
  refine lv_aload_n hx hb nD_TM_handToStation_0 rfl (lv_at hl 1 rfl) ?_
  refine rd_TM_INS_op F9 hw hk1 nD_TM_handToStation_1 ?_
  refine lv_iconst (v := 4) hx hb nD_TM_handToStation_4 (by decide) ?_
  refine lv_icmp_eq (tgt := 16) hx hb nD_TM_handToStation_5 (by decide) (fun h1 => ?_) (fun h1 => ?_)
  · rw [if_pos h1] at hf
    exact bk_TM_handToStation_16 F9 k1 hk1 hw (lv_sub hl [0, 1] rfl) hf
  · rw [if_neg h1] at hf
    refine lv_aload_n hx hb nD_TM_handToStation_8 rfl (lv_at hl 1 rfl) ?_
    refine rd_TM_INS_op F9 hw hk1 nD_TM_handToStation_9 ?_
    refine lv_iconst (v := 5) hx hb nD_TM_handToStation_12 (by decide) ?_
    refine lv_icmp_ne (tgt := 26) hx hb nD_TM_handToStation_13 (by decide) (fun h15 => ?_) (fun h15 => ?_)
    · rw [if_neg h15] at hf
      refine lv_aload_n hx hb nD_TM_handToStation_26 rfl (lv_at hl 0 rfl) ?_
      refine lv_iconst (v := 0) hx hb nD_TM_handToStation_27 (by decide) ?_
      refine lv_iconst (v := 1) hx hb nD_TM_handToStation_28 (by decide) ?_
      refine lv_iconst (v := 3) hx hb nD_TM_handToStation_29 (by decide) ?_
      obtain ⟨z16, hz16, hf⟩ := bd_of hf
      refine cl_vi (As := [.int (0 : Int32), .int (1 : Int32), .int (3 : Int32)]) (rest := []) F9 hw (ct_TM_firstLike l x (0 : Int32) (1 : Int32) (3 : Int32)  _ _ hz16) (rc_TM ) wc_TM_163 hd_TM_firstLike (by decide) hl rfl (Nat.le_of_ble_eq_true rfl) nD_TM_handToStation_30 (fun H locs hw => ?_)
      exact bk_TM_handToStation_33 F9 k1 z16.1 hk1 hw (lv_sub hl [0, 1] rfl) hf
    · rw [if_pos h15] at hf
      exact bk_TM_handToStation_16 F9 k1 hk1 hw (lv_sub hl [0, 1] rfl) hf
set_option maxRecDepth 100000 in
set_option maxHeartbeats 4000000 in
theorem bk_TM_doAtOnce_212 {z : Int32 × sg_T} (F : fx_F p s m args meth c nC_TM_doAtOnce 3 (some .boolean) nR_TM) (a2 : Int32) {σ : sg_T} {H : Heap} {locs : List Loc} {ls : Array Slot} (hw : ww_P x s H locs σ) (hl : lv_has ls 3 [(0, .ref (x.2.2 0)), (2, .int a2)]) (hf : fb_TM_doAtOnce_212 a2 σ = some z) : W p l e (rm_D 2) s m args below meth c H locs 0 0 (qi_Q x s below args z.1 z.2) (F0 m 212 ls []) := by
  have F9 := F
  obtain ⟨hx, hb, hml, hr, hlk, hown, hT⟩ := F
  unfold fb_TM_doAtOnce_212 at hf
  refine lv_aload_n hx hb nD_TM_doAtOnce_212 rfl (lv_at hl 0 rfl) ?_
  refine lv_iload_n hx hb nD_TM_doAtOnce_213 rfl (lv_at hl 1 rfl) ?_
  refine wr_TM_TM_next F9 hw nD_TM_doAtOnce_214 (fun H locs hw => ?_)
  refine lv_iconst (v := 1) hx hb nD_TM_doAtOnce_217 (by decide) ?_
  exact rt_i F9 hw rfl nD_TM_doAtOnce_218 hf
set_option maxRecDepth 100000 in
set_option maxHeartbeats 4000000 in
theorem bk_TM_doAtOnce_167 {z : Int32 × sg_T} (F : fx_F p s m args meth c nC_TM_doAtOnce 3 (some .boolean) nR_TM) (t0 : Int32) {σ : sg_T} {H : Heap} {locs : List Loc} {ls : Array Slot} (hw : ww_P x s H locs σ) (hl : lv_has ls 3 [(0, .ref (x.2.2 0))]) (hf : fb_TM_doAtOnce_167 t0 σ = some z) : W p l e (rm_D 2) s m args below meth c H locs 0 0 (qi_Q x s below args z.1 z.2) (F0 m 167 ls [.int t0]) := by
  have F9 := F
  obtain ⟨hx, hb, hml, hr, hlk, hown, hT⟩ := F
  unfold fb_TM_doAtOnce_167 at hf
  refine lv_istore_n (lv' := [(2, .int t0), (0, .ref (x.2.2 0))]) hx hb nD_TM_doAtOnce_167 rfl hl (by decide) rfl (fun ls hl => ?_)
  refine lv_goto (tgt := 212) hx hb nD_TM_doAtOnce_168 (by decide) ?_
  exact bk_TM_doAtOnce_212 F9 t0  hw (lv_sub hl [1, 0] rfl) hf
set_option maxRecDepth 100000 in
set_option maxHeartbeats 4000000 in
theorem bk_TM_doAtOnce_203 {z : Int32 × sg_T} (F : fx_F p s m args meth c nC_TM_doAtOnce 3 (some .boolean) nR_TM) (t0 : Int32) {σ : sg_T} {H : Heap} {locs : List Loc} {ls : Array Slot} (hw : ww_P x s H locs σ) (hl : lv_has ls 3 [(0, .ref (x.2.2 0))]) (hf : fb_TM_doAtOnce_203 t0 σ = some z) : W p l e (rm_D 2) s m args below meth c H locs 0 0 (qi_Q x s below args z.1 z.2) (F0 m 203 ls [.int t0]) := by
  have F9 := F
  obtain ⟨hx, hb, hml, hr, hlk, hown, hT⟩ := F
  unfold fb_TM_doAtOnce_203 at hf
  refine lv_istore_n (lv' := [(2, .int t0), (0, .ref (x.2.2 0))]) hx hb nD_TM_doAtOnce_203 rfl hl (by decide) rfl (fun ls hl => ?_)
  refine lv_goto (tgt := 212) hx hb nD_TM_doAtOnce_204 (by decide) ?_
  exact bk_TM_doAtOnce_212 F9 t0  hw (lv_sub hl [1, 0] rfl) hf
set_option maxRecDepth 100000 in
set_option maxHeartbeats 4000000 in
theorem bk_TM_doAtOnce_195 {z : Int32 × sg_T} (F : fx_F p s m args meth c nC_TM_doAtOnce 3 (some .boolean) nR_TM) (a1 : Nat) {σ : sg_T} {H : Heap} {locs : List Loc} {ls : Array Slot} (ha1 : a1 < 30) (hw : ww_P x s H locs σ) (hl : lv_has ls 3 [(0, .ref (x.2.2 0)), (1, .ref (x.2.2 (8 + a1)))]) (hf : fb_TM_doAtOnce_195 a1 σ = some z) : W p l e (rm_D 2) s m args below meth c H locs 0 0 (qi_Q x s below args z.1 z.2) (F0 m 195 ls []) := by
  have F9 := F
  obtain ⟨hx, hb, hml, hr, hlk, hown, hT⟩ := F
  unfold fb_TM_doAtOnce_195 at hf
  refine lv_aload_n hx hb nD_TM_doAtOnce_195 rfl (lv_at hl 1 rfl) ?_
  refine rd_TM_INS_n F9 hw ha1 nD_TM_doAtOnce_196 ?_
  refine lv_goto (tgt := 203) hx hb nD_TM_doAtOnce_199 (by decide) ?_
  exact bk_TM_doAtOnce_203 F9 (σ 5 a1)  hw (lv_sub hl [0] rfl) hf
set_option maxRecDepth 100000 in
set_option maxHeartbeats 4000000 in
theorem bk_TM_doAtOnce_23 {z : Int32 × sg_T} (F : fx_F p s m args meth c nC_TM_doAtOnce 3 (some .boolean) nR_TM) (a1 : Nat) {σ : sg_T} {H : Heap} {locs : List Loc} {ls : Array Slot} (ha1 : a1 < 30) (hw : ww_P x s H locs σ) (hl : lv_has ls 3 [(0, .ref (x.2.2 0)), (1, .ref (x.2.2 (8 + a1)))]) (hf : fb_TM_doAtOnce_23 a1 σ = some z) : W p l e (rm_D 2) s m args below meth c H locs 0 0 (qi_Q x s below args z.1 z.2) (F0 m 23 ls []) := by
  have F9 := F
  obtain ⟨hx, hb, hml, hr, hlk, hown, hT⟩ := F
  unfold fb_TM_doAtOnce_23 at hf
  refine lv_aload_n hx hb nD_TM_doAtOnce_23 rfl (lv_at hl 0 rfl) ?_
  refine rd_TM_TM_next F9 hw nD_TM_doAtOnce_24 ?_
  refine lv_iconst (v := 1) hx hb nD_TM_doAtOnce_27 (by decide) ?_
  refine lv_iadd hx hb nD_TM_doAtOnce_28 ?_
  refine lv_istore_n (lv' := [(2, .int ((σ 0 4) + (1 : Int32))), (0, .ref (x.2.2 0)), (1, .ref (x.2.2 (8 + a1)))]) hx hb nD_TM_doAtOnce_29 rfl hl (by decide) rfl (fun ls hl => ?_)
  refine lv_aload_n hx hb nD_TM_doAtOnce_30 rfl (lv_at hl 2 rfl) ?_
  refine rd_TM_INS_op F9 hw ha1 nD_TM_doAtOnce_31 ?_
  by_cases h2 : (σ 1 a1) = (7 : Int32)
  · rw [if_pos h2] at hf
    refine sw_in (tgt := 68) (7) hx hb nD_TM_doAtOnce_34 h2 (by decide) (by decide) rfl (by decide) ?_
    refine lv_aload_n hx hb nD_TM_doAtOnce_68 rfl (lv_at hl 1 rfl) ?_
    refine rd_TM_TM_registers F9 hw nD_TM_doAtOnce_69 ?_
    refine lv_aload_n hx hb nD_TM_doAtOnce_72 rfl (lv_at hl 2 rfl) ?_
    refine rd_TM_INS_r F9 hw ha1 nD_TM_doAtOnce_73 ?_
    obtain ⟨g3, hf⟩ := gt_of hf
    refine al_registers F9 hw g3 nD_TM_doAtOnce_76 ?_
    refine lv_aload_n hx hb nD_TM_doAtOnce_77 rfl (lv_at hl 1 rfl) ?_
    refine rd_TM_TM_registers F9 hw nD_TM_doAtOnce_78 ?_
    refine lv_aload_n hx hb nD_TM_doAtOnce_81 rfl (lv_at hl 2 rfl) ?_
    refine rd_TM_INS_s F9 hw ha1 nD_TM_doAtOnce_82 ?_
    obtain ⟨g4, hf⟩ := gt_of hf
    refine al_registers F9 hw g4 nD_TM_doAtOnce_85 ?_
    obtain ⟨z5, hz5, hf⟩ := bd_of hf
    refine cl_vv (As := [.ref (x.2.2 (38 + (tn_I (σ 3 a1))))]) (rest := []) F9 hw (ct_OPD_copy l x (tn_I (σ 2 a1)) (tn_I (σ 3 a1)) (Nat.lt_of_lt_of_le (ib_lt g3) (by decide)) (Nat.lt_of_lt_of_le (ib_lt g4) (by decide)) _ _ hz5) (rc_OPD (Nat.lt_of_lt_of_le (ib_lt g3) (by decide))) wc_TM_249 hd_OPD_copy (by decide) hl rfl (Nat.le_of_ble_eq_true rfl) nD_TM_doAtOnce_86 (fun H locs hw => ?_)
    refine lv_goto (tgt := 212) hx hb nD_TM_doAtOnce_89 (by decide) ?_
    exact bk_TM_doAtOnce_212 F9 ((σ 0 4) + (1 : Int32))  hw (lv_sub hl [1, 0] rfl) hf
  rw [if_neg h2] at hf
  by_cases h6 : (σ 1 a1) = (8 : Int32)
  · rw [if_pos h6] at hf
    refine sw_in (tgt := 92) (8) hx hb nD_TM_doAtOnce_34 h6 (by decide) (by decide) rfl (by decide) ?_
    refine lv_aload_n hx hb nD_TM_doAtOnce_92 rfl (lv_at hl 1 rfl) ?_
    refine rd_TM_TM_integers F9 hw nD_TM_doAtOnce_93 ?_
    refine lv_aload_n hx hb nD_TM_doAtOnce_96 rfl (lv_at hl 2 rfl) ?_
    refine rd_TM_INS_r F9 hw ha1 nD_TM_doAtOnce_97 ?_
    refine lv_aload_n hx hb nD_TM_doAtOnce_100 rfl (lv_at hl 2 rfl) ?_
    refine rd_TM_INS_n F9 hw ha1 nD_TM_doAtOnce_101 ?_
    obtain ⟨g7, hf⟩ := gt_of hf
    refine as_integers F9 hw g7 nD_TM_doAtOnce_104 (fun H locs hw => ?_)
    refine lv_goto (tgt := 212) hx hb nD_TM_doAtOnce_105 (by decide) ?_
    exact bk_TM_doAtOnce_212 F9 ((σ 0 4) + (1 : Int32))  hw (lv_sub hl [1, 0] rfl) hf
  rw [if_neg h6] at hf
  by_cases h8 : (σ 1 a1) = (9 : Int32)
  · rw [if_pos h8] at hf
    refine sw_in (tgt := 108) (9) hx hb nD_TM_doAtOnce_34 h8 (by decide) (by decide) rfl (by decide) ?_
    refine lv_aload_n hx hb nD_TM_doAtOnce_108 rfl (lv_at hl 1 rfl) ?_
    refine rd_TM_TM_integers F9 hw nD_TM_doAtOnce_109 ?_
    refine lv_aload_n hx hb nD_TM_doAtOnce_112 rfl (lv_at hl 2 rfl) ?_
    refine rd_TM_INS_r F9 hw ha1 nD_TM_doAtOnce_113 ?_
    refine lv_aload_n hx hb nD_TM_doAtOnce_116 rfl (lv_at hl 1 rfl) ?_
    refine rd_TM_TM_integers F9 hw nD_TM_doAtOnce_117 ?_
    refine lv_aload_n hx hb nD_TM_doAtOnce_120 rfl (lv_at hl 2 rfl) ?_
    refine rd_TM_INS_s F9 hw ha1 nD_TM_doAtOnce_121 ?_
    obtain ⟨g9, hf⟩ := gt_of hf
    refine al_integers F9 hw g9 nD_TM_doAtOnce_124 ?_
    refine lv_aload_n hx hb nD_TM_doAtOnce_125 rfl (lv_at hl 2 rfl) ?_
    refine rd_TM_INS_n F9 hw ha1 nD_TM_doAtOnce_126 ?_
    refine lv_iadd hx hb nD_TM_doAtOnce_129 ?_
    obtain ⟨g10, hf⟩ := gt_of hf
    refine as_integers F9 hw g10 nD_TM_doAtOnce_130 (fun H locs hw => ?_)
    refine lv_goto (tgt := 212) hx hb nD_TM_doAtOnce_131 (by decide) ?_
    exact bk_TM_doAtOnce_212 F9 ((σ 0 4) + (1 : Int32))  hw (lv_sub hl [1, 0] rfl) hf
  rw [if_neg h8] at hf
  by_cases h11 : (σ 1 a1) = (10 : Int32)
  · rw [if_pos h11] at hf
    refine sw_in (tgt := 134) (10) hx hb nD_TM_doAtOnce_34 h11 (by decide) (by decide) rfl (by decide) ?_
    refine lv_aload_n hx hb nD_TM_doAtOnce_134 rfl (lv_at hl 1 rfl) ?_
    refine rd_TM_TM_integers F9 hw nD_TM_doAtOnce_135 ?_
    refine lv_aload_n hx hb nD_TM_doAtOnce_138 rfl (lv_at hl 2 rfl) ?_
    refine rd_TM_INS_r F9 hw ha1 nD_TM_doAtOnce_139 ?_
    refine lv_dup2_11 hx hb nD_TM_doAtOnce_142 rfl rfl ?_
    obtain ⟨g12, hf⟩ := gt_of hf
    refine al_integers F9 hw g12 nD_TM_doAtOnce_143 ?_
    refine lv_iconst (v := 1) hx hb nD_TM_doAtOnce_144 (by decide) ?_
    refine lv_isub hx hb nD_TM_doAtOnce_145 ?_
    obtain ⟨g13, hf⟩ := gt_of hf
    refine as_integers F9 hw g13 nD_TM_doAtOnce_146 (fun H locs hw => ?_)
    refine lv_aload_n hx hb nD_TM_doAtOnce_147 rfl (lv_at hl 1 rfl) ?_
    refine rd_TM_TM_integers F9 hw nD_TM_doAtOnce_148 ?_
    refine lv_aload_n hx hb nD_TM_doAtOnce_151 rfl (lv_at hl 2 rfl) ?_
    refine rd_TM_INS_r F9 hw ha1 nD_TM_doAtOnce_152 ?_
    obtain ⟨g14, hf⟩ := gt_of hf
    refine al_integers F9 hw g14 nD_TM_doAtOnce_155 ?_
    refine lv_if_eq (tgt := 166) hx hb nD_TM_doAtOnce_156 (by decide) (fun h15 => ?_) (fun h15 => ?_)
    · rw [if_pos h15] at hf
      refine lv_iload_n hx hb nD_TM_doAtOnce_166 rfl (lv_at hl 0 rfl) ?_
      exact bk_TM_doAtOnce_167 F9 ((σ 0 4) + (1 : Int32))  hw (lv_sub hl [1] rfl) hf
    · rw [if_neg h15] at hf
      refine lv_aload_n hx hb nD_TM_doAtOnce_159 rfl (lv_at hl 2 rfl) ?_
      refine rd_TM_INS_n F9 hw ha1 nD_TM_doAtOnce_160 ?_
      refine lv_goto (tgt := 167) hx hb nD_TM_doAtOnce_163 (by decide) ?_
      exact bk_TM_doAtOnce_167 F9 ((sg_up σ 10 (tn_I (σ 2 a1)) ((σ 10 (tn_I (σ 2 a1))) - (1 : Int32))) 5 a1)  hw (lv_sub hl [1] rfl) hf
  rw [if_neg h11] at hf
  by_cases h16 : (σ 1 a1) = (11 : Int32)
  · rw [if_pos h16] at hf
    refine sw_in (tgt := 171) (11) hx hb nD_TM_doAtOnce_34 h16 (by decide) (by decide) rfl (by decide) ?_
    refine lv_aload_n hx hb nD_TM_doAtOnce_171 rfl (lv_at hl 2 rfl) ?_
    refine rd_TM_INS_r F9 hw ha1 nD_TM_doAtOnce_172 ?_
    refine lv_iconst (v := 3) hx hb nD_TM_doAtOnce_175 (by decide) ?_
    refine lv_icmp_eq (tgt := 195) hx hb nD_TM_doAtOnce_176 (by decide) (fun h17 => ?_) (fun h17 => ?_)
    · rw [if_pos h17] at hf
      exact bk_TM_doAtOnce_195 F9 a1 ha1 hw (lv_sub hl [1, 2] rfl) hf
    · rw [if_neg h17] at hf
      refine lv_aload_n hx hb nD_TM_doAtOnce_179 rfl (lv_at hl 2 rfl) ?_
      refine rd_TM_INS_r F9 hw ha1 nD_TM_doAtOnce_180 ?_
      refine lv_aload_n hx hb nD_TM_doAtOnce_183 rfl (lv_at hl 1 rfl) ?_
      refine rd_TM_TM_registers F9 hw nD_TM_doAtOnce_184 ?_
      refine lv_iconst (v := 4) hx hb nD_TM_doAtOnce_187 (by decide) ?_
      obtain ⟨g18, hf⟩ := gt_of hf
      refine al_registers F9 hw g18 nD_TM_doAtOnce_188 ?_
      refine rd_TM_OPD_value F9 hw (Nat.lt_of_lt_of_le (ib_lt g18) (by decide)) nD_TM_doAtOnce_189 ?_
      refine lv_icmp_ne (tgt := 202) hx hb nD_TM_doAtOnce_192 (by decide) (fun h19 => ?_) (fun h19 => ?_)
      · rw [if_neg h19] at hf
        refine lv_iload_n hx hb nD_TM_doAtOnce_202 rfl (lv_at hl 0 rfl) ?_
        exact bk_TM_doAtOnce_203 F9 ((σ 0 4) + (1 : Int32))  hw (lv_sub hl [1] rfl) hf
      · rw [if_pos h19] at hf
        exact bk_TM_doAtOnce_195 F9 a1 ha1 hw (lv_sub hl [1, 2] rfl) hf
  rw [if_neg h16] at hf
  refine lv_tableOut (tgt := 207) hx hb nD_TM_doAtOnce_34 (by have q0 := it_ne h2; have q1 := it_ne h6; have q2 := it_ne h8; have q3 := it_ne h11; have q4 := it_ne h16; simp only [show (7 : Int32).toInt = 7 from rfl, show (8 : Int32).toInt = 8 from rfl, show (9 : Int32).toInt = 9 from rfl, show (10 : Int32).toInt = 10 from rfl, show (11 : Int32).toInt = 11 from rfl] at *; omega) (by decide) ?_
  refine lv_aload_n hx hb nD_TM_doAtOnce_207 rfl (lv_at hl 1 rfl) ?_
  refine lv_iconst (v := 1) hx hb nD_TM_doAtOnce_208 (by decide) ?_
  refine wr_TM_TM_mode F9 hw nD_TM_doAtOnce_209 (fun H locs hw => ?_)
  exact bk_TM_doAtOnce_212 F9 ((σ 0 4) + (1 : Int32))  hw (lv_sub hl [1, 0] rfl) hf
set_option maxRecDepth 100000 in
set_option maxHeartbeats 4000000 in
theorem ct_TM_doAtOnce (l : Launch) (x : cx_T) (k1 : Nat) (hk1 : k1 < 30) (σ : sg_T) (z : Int32 × sg_T) (hf : fn_TM_doAtOnce k1 σ = some z) : ct_i l nN_TM_doAtOnce nC_TM_doAtOnce 3 (some .boolean) 2 x [.ref (x.2.2 0), .ref (x.2.2 (8 + k1))] σ z.1 z.2 := by
  refine en_i (own := nR_TM) (by decide) (Nat.le_of_ble_eq_true rfl) rfl ?_
  intro p e s m below meth c ls F hw hl
  have F9 := F
  obtain ⟨hx, hb, hml, hr, hlk, hown, hT⟩ := F
  have hl : lv_has ls 3 [(0, .ref (x.2.2 0)), (1, .ref (x.2.2 (8 + k1)))] := hl
  unfold fn_TM_doAtOnce at hf
  refine lv_aload_n hx hb nD_TM_doAtOnce_0 rfl (lv_at hl 1 rfl) ?_
  refine rd_TM_INS_op F9 hw hk1 nD_TM_doAtOnce_1 ?_
  refine lv_bipush (v := 11) hx hb nD_TM_doAtOnce_4 (by decide) ?_
  refine lv_icmp_ne (tgt := 23) hx hb nD_TM_doAtOnce_6 (by decide) (fun h1 => ?_) (fun h1 => ?_)
  · rw [if_neg h1] at hf
    exact bk_TM_doAtOnce_23 F9 k1 hk1 hw (lv_sub hl [0, 1] rfl) hf
  · rw [if_pos h1] at hf
    refine lv_aload_n hx hb nD_TM_doAtOnce_9 rfl (lv_at hl 0 rfl) ?_
    refine rd_TM_TM_registers F9 hw nD_TM_doAtOnce_10 ?_
    refine lv_iconst (v := 4) hx hb nD_TM_doAtOnce_13 (by decide) ?_
    obtain ⟨g20, hf⟩ := gt_of hf
    refine al_registers F9 hw g20 nD_TM_doAtOnce_14 ?_
    obtain ⟨z21, hz21, hf⟩ := bd_of hf
    refine cl_vi (As := []) (rest := []) F9 hw (ct_OPD_isAwaited l x (tn_I (4 : Int32)) (Nat.lt_of_lt_of_le (ib_lt g20) (by decide)) _ _ hz21) (rc_OPD (Nat.lt_of_lt_of_le (ib_lt g20) (by decide))) wc_TM_256 hd_OPD_isAwaited (by decide) hl rfl (Nat.le_of_ble_eq_true rfl) nD_TM_doAtOnce_15 (fun H locs hw => ?_)
    refine lv_if_eq (tgt := 23) hx hb nD_TM_doAtOnce_18 (by decide) (fun h22 => ?_) (fun h22 => ?_)
    · rw [if_pos h22] at hf
      exact bk_TM_doAtOnce_23 F9 k1 hk1 hw (lv_sub hl [0, 1] rfl) hf
    · rw [if_neg h22] at hf
      refine lv_iconst (v := 0) hx hb nD_TM_doAtOnce_21 (by decide) ?_
      exact rt_i F9 hw rfl nD_TM_doAtOnce_22 hf
set_option maxRecDepth 100000 in
set_option maxHeartbeats 4000000 in
theorem bk_TM_handOut_71 {z : sg_T} (F : fx_F p s m args meth c nC_TM_handOut 3 none nR_TM) (a2 : Int32) {σ : sg_T} {H : Heap} {locs : List Loc} {ls : Array Slot} (hw : ww_P x s H locs σ) (hl : lv_has ls 3 [(0, .ref (x.2.2 0)), (2, .int a2)]) (hf : fb_TM_handOut_71 a2 σ = some z) : W p l e (rm_D 3) s m args below meth c H locs 0 0 (qv_Q x s below args z) (F0 m 71 ls []) := by
  have F9 := F
  obtain ⟨hx, hb, hml, hr, hlk, hown, hT⟩ := F
  unfold fb_TM_handOut_71 at hf
  refine lv_iload_n hx hb nD_TM_handOut_71 rfl (lv_at hl 1 rfl) ?_
  refine lv_if_eq (tgt := 85) hx hb nD_TM_handOut_72 (by decide) (fun h8 => ?_) (fun h8 => ?_)
  · rw [if_pos h8] at hf
    exact rt_v F9 hw nD_TM_handOut_85 hf
  · rw [if_neg h8] at hf
    refine lv_aload_n hx hb nD_TM_handOut_75 rfl (lv_at hl 0 rfl) ?_
    refine lv_dup hx hb nD_TM_handOut_76 rfl ?_
    refine rd_TM_TM_handedOut F9 hw nD_TM_handOut_77 ?_
    refine lv_iconst (v := 1) hx hb nD_TM_handOut_80 (by decide) ?_
    refine lv_iadd hx hb nD_TM_handOut_81 ?_
    refine wr_TM_TM_handedOut F9 hw nD_TM_handOut_82 (fun H locs hw => ?_)
    exact rt_v F9 hw nD_TM_handOut_85 hf
set_option maxRecDepth 100000 in
set_option maxHeartbeats 4000000 in
theorem ct_TM_handOut (l : Launch) (x : cx_T) (σ : sg_T) (z : sg_T) (hf : fn_TM_handOut  σ = some z) : ct_v l nN_TM_handOut nC_TM_handOut 3 3 x [.ref (x.2.2 0)] σ z := by
  refine en_v (own := nR_TM) (by decide) (Nat.le_of_ble_eq_true rfl) rfl ?_
  intro p e s m below meth c ls F hw hl
  have F9 := F
  obtain ⟨hx, hb, hml, hr, hlk, hown, hT⟩ := F
  have hl : lv_has ls 3 [(0, .ref (x.2.2 0))] := hl
  unfold fn_TM_handOut at hf
  refine lv_aload_n hx hb nD_TM_handOut_0 rfl (lv_at hl 0 rfl) ?_
  refine lv_aload_n hx hb nD_TM_handOut_1 rfl (lv_at hl 0 rfl) ?_
  refine rd_TM_TM_next F9 hw nD_TM_handOut_2 ?_
  obtain ⟨z1, hz1, hf⟩ := bd_of hf
  refine cl_vi (As := [.int (σ 0 4)]) (rest := []) F9 hw (ct_TM_isInstruction l x (σ 0 4)  _ _ hz1) (rc_TM ) wc_TM_88 hd_TM_isInstruction (by decide) hl rfl (Nat.le_of_ble_eq_true rfl) nD_TM_handOut_5 (fun H locs hw => ?_)
  refine lv_if_ne (tgt := 18) hx hb nD_TM_handOut_8 (by decide) (fun h2 => ?_) (fun h2 => ?_)
  · rw [if_neg h2] at hf
    refine lv_aload_n hx hb nD_TM_handOut_18 rfl (lv_at hl 0 rfl) ?_
    refine rd_TM_TM_program F9 hw nD_TM_handOut_19 ?_
    refine lv_aload_n hx hb nD_TM_handOut_22 rfl (lv_at hl 0 rfl) ?_
    refine rd_TM_TM_next F9 hw nD_TM_handOut_23 ?_
    obtain ⟨g3, hf⟩ := gt_of hf
    refine al_program F9 hw g3 nD_TM_handOut_26 ?_
    refine lv_astore_n (lv' := [(1, .ref (x.2.2 (8 + (tn_I (z1.2 0 4))))), (0, .ref (x.2.2 0))]) hx hb nD_TM_handOut_27 rfl hl (by decide) rfl (fun ls hl => ?_)
    refine lv_aload_n hx hb nD_TM_handOut_28 rfl (lv_at hl 0 rfl) ?_
    refine rd_TM_INS_op F9 hw (ib_lt g3) nD_TM_handOut_29 ?_
    obtain ⟨z4, hz4, hf⟩ := bd_of hf
    refine cl_si (As := [.int (z1.2 1 (tn_I (z1.2 0 4)))]) (rest := []) F9 hw (ct_TM_usesStorage l x (z1.2 1 (tn_I (z1.2 0 4)))  _ _ hz4) wc_TM_190 hd_TM_usesStorage (by decide) hl rfl (Nat.le_of_ble_eq_true rfl) nD_TM_handOut_32 (fun H locs hw => ?_)
    refine lv_if_eq (tgt := 47) hx hb nD_TM_handOut_35 (by decide) (fun h5 => ?_) (fun h5 => ?_)
    · rw [if_pos h5] at hf
      refine lv_aload_n hx hb nD_TM_handOut_47 rfl (lv_at hl 0 rfl) ?_
      refine rd_TM_INS_op F9 hw (ib_lt g3) nD_TM_handOut_48 ?_
      refine lv_bipush (v := 6) hx hb nD_TM_handOut_51 (by decide) ?_
      refine lv_icmp_gt (tgt := 65) hx hb nD_TM_handOut_53 (by decide) (fun h6 => ?_) (fun h6 => ?_)
      · rw [if_pos h6] at hf
        refine lv_aload_n hx hb nD_TM_handOut_65 rfl (lv_at hl 1 rfl) ?_
        refine lv_aload_n hx hb nD_TM_handOut_66 rfl (lv_at hl 0 rfl) ?_
        obtain ⟨z7, hz7, hf⟩ := bd_of hf
        refine cl_vi (As := [.ref (x.2.2 (8 + (tn_I (z1.2 0 4))))]) (rest := []) F9 hw (ct_TM_doAtOnce l x (tn_I (z1.2 0 4)) (ib_lt g3) _ _ hz7) (rc_TM ) wc_TM_228 hd_TM_doAtOnce (by decide) hl rfl (Nat.le_of_ble_eq_true rfl) nD_TM_handOut_67 (fun H locs hw => ?_)
        refine lv_istore_n (lv' := [(2, .int z7.1), (1, .ref (x.2.2 (8 + (tn_I (z1.2 0 4))))), (0, .ref (x.2.2 0))]) hx hb nD_TM_handOut_70 rfl hl (by decide) rfl (fun ls hl => ?_)
        exact bk_TM_handOut_71 F9 z7.1  hw (lv_sub hl [2, 0] rfl) hf
      · rw [if_neg h6] at hf
        refine lv_aload_n hx hb nD_TM_handOut_56 rfl (lv_at hl 1 rfl) ?_
        refine lv_aload_n hx hb nD_TM_handOut_57 rfl (lv_at hl 0 rfl) ?_
        obtain ⟨z9, hz9, hf⟩ := bd_of hf
        refine cl_vi (As := [.ref (x.2.2 (8 + (tn_I (z1.2 0 4))))]) (rest := []) F9 hw (ct_TM_handToStation l x (tn_I (z1.2 0 4)) (ib_lt g3) _ _ hz9) (rc_TM ) wc_TM_225 hd_TM_handToStation (by decide) hl rfl (Nat.le_of_ble_eq_true rfl) nD_TM_handOut_58 (fun H locs hw => ?_)
        refine lv_istore_n (lv' := [(2, .int z9.1), (1, .ref (x.2.2 (8 + (tn_I (z1.2 0 4))))), (0, .ref (x.2.2 0))]) hx hb nD_TM_handOut_61 rfl hl (by decide) rfl (fun ls hl => ?_)
        refine lv_goto (tgt := 71) hx hb nD_TM_handOut_62 (by decide) ?_
        exact bk_TM_handOut_71 F9 z9.1  hw (lv_sub hl [2, 0] rfl) hf
    · rw [if_neg h5] at hf
      refine lv_aload_n hx hb nD_TM_handOut_38 rfl (lv_at hl 1 rfl) ?_
      refine lv_aload_n hx hb nD_TM_handOut_39 rfl (lv_at hl 0 rfl) ?_
      obtain ⟨z10, hz10, hf⟩ := bd_of hf
      refine cl_vi (As := [.ref (x.2.2 (8 + (tn_I (z1.2 0 4))))]) (rest := []) F9 hw (ct_TM_handToBuffer l x (tn_I (z1.2 0 4)) (ib_lt g3) _ _ hz10) (rc_TM ) wc_TM_221 hd_TM_handToBuffer (by decide) hl rfl (Nat.le_of_ble_eq_true rfl) nD_TM_handOut_40 (fun H locs hw => ?_)
      refine lv_istore_n (lv' := [(2, .int z10.1), (1, .ref (x.2.2 (8 + (tn_I (z1.2 0 4))))), (0, .ref (x.2.2 0))]) hx hb nD_TM_handOut_43 rfl hl (by decide) rfl (fun ls hl => ?_)
      refine lv_goto (tgt := 71) hx hb nD_TM_handOut_44 (by decide) ?_
      exact bk_TM_handOut_71 F9 z10.1  hw (lv_sub hl [2, 0] rfl) hf
  · rw [if_pos h2] at hf
    refine lv_aload_n hx hb nD_TM_handOut_11 rfl (lv_at hl 0 rfl) ?_
    refine lv_bipush (v := 16) hx hb nD_TM_handOut_12 (by decide) ?_
    obtain ⟨z11, hz11, hf⟩ := bd_of hf
    refine cl_vv (As := [.int (16 : Int32)]) (rest := []) F9 hw (ct_TM_note l x (16 : Int32)  _ _ hz11) (rc_TM ) wc_TM_177 hd_TM_note (by decide) hl rfl (Nat.le_of_ble_eq_true rfl) nD_TM_handOut_14 (fun H locs hw => ?_)
    exact rt_v F9 hw nD_TM_handOut_17 hf
set_option maxRecDepth 100000 in
set_option maxHeartbeats 4000000 in
theorem bk_TM_allFree_2 {z : Int32 × sg_T} (F : fx_F p s m args meth c nC_TM_allFree 2 (some .boolean) nR_TM) : ∀ (n : Nat) (a1 : Int32) (σ : sg_T) (H : Heap) (locs : List Loc) (ls : Array Slot), ww_P x s H locs σ → lv_has ls 2 [(0, .ref (x.2.2 0)), (1, .int a1)] → fb_TM_allFree_2 n a1 σ = some z → W p l e (rm_D 0) s m args below meth c H locs 0 0 (qi_Q x s below args z.1 z.2) (F0 m 2 ls []) := by
  have F9 := F
  obtain ⟨hx, hb, hml, hr, hlk, hown, hT⟩ := F
  intro n
  induction n with
  | zero =>
    intro a1 σ H locs ls  hw hl hf
    simp [fb_TM_allFree_2] at hf
  | succ n ih =>
    intro a1 σ H locs ls  hw hl hf
    unfold fb_TM_allFree_2 at hf
    refine lv_iload_n hx hb nD_TM_allFree_2 rfl (lv_at hl 1 rfl) ?_
    refine lv_bipush (v := 12) hx hb nD_TM_allFree_3 (by decide) ?_
    refine lv_icmp_gt (tgt := 28) hx hb nD_TM_allFree_5 (by decide) (fun h1 => ?_) (fun h1 => ?_)
    · rw [if_pos h1] at hf
      refine lv_iconst (v := 1) hx hb nD_TM_allFree_28 (by decide) ?_
      exact rt_i F9 hw rfl nD_TM_allFree_29 hf
    · rw [if_neg h1] at hf
      refine lv_aload_n hx hb nD_TM_allFree_8 rfl (lv_at hl 0 rfl) ?_
      refine rd_TM_TM_units F9 hw nD_TM_allFree_9 ?_
      refine lv_iload_n hx hb nD_TM_allFree_12 rfl (lv_at hl 1 rfl) ?_
      obtain ⟨g2, hf⟩ := gt_of hf
      refine al_units F9 hw g2 nD_TM_allFree_13 ?_
      refine rd_TM_UNI_state F9 hw (ib_lt g2) nD_TM_allFree_14 ?_
      refine lv_if_eq (tgt := 22) hx hb nD_TM_allFree_17 (by decide) (fun h3 => ?_) (fun h3 => ?_)
      · rw [if_pos h3] at hf
        refine lv_iinc (k := 1) (v := a1 + (1 : Int32)) (lv' := [(1, .int (a1 + (1 : Int32))), (0, .ref (x.2.2 0))]) hx hb nD_TM_allFree_22 hl rfl (ic_p1 _) (by decide) rfl (fun ls hl => ?_)
        refine lv_goto (tgt := 2) hx hb nD_TM_allFree_25 (by decide) ?_
        exact ih (a1 + (1 : Int32)) _ _ _ _  hw (lv_sub hl [1, 0] rfl) hf
      · rw [if_neg h3] at hf
        refine lv_iconst (v := 0) hx hb nD_TM_allFree_20 (by decide) ?_
        exact rt_i F9 hw rfl nD_TM_allFree_21 hf
set_option maxRecDepth 100000 in
set_option maxHeartbeats 4000000 in
theorem ct_TM_allFree (l : Launch) (x : cx_T) (σ : sg_T) (z : Int32 × sg_T) (hf : fn_TM_allFree  σ = some z) : ct_i l nN_TM_allFree nC_TM_allFree 2 (some .boolean) 0 x [.ref (x.2.2 0)] σ z.1 z.2 := by
  refine en_i (own := nR_TM) (by decide) (Nat.le_of_ble_eq_true rfl) rfl ?_
  intro p e s m below meth c ls F hw hl
  have F9 := F
  obtain ⟨hx, hb, hml, hr, hlk, hown, hT⟩ := F
  have hl : lv_has ls 2 [(0, .ref (x.2.2 0))] := hl
  unfold fn_TM_allFree at hf
  refine lv_iconst (v := 1) hx hb nD_TM_allFree_0 (by decide) ?_
  refine lv_istore_n (lv' := [(1, .int (1 : Int32)), (0, .ref (x.2.2 0))]) hx hb nD_TM_allFree_1 rfl hl (by decide) rfl (fun ls hl => ?_)
  exact bk_TM_allFree_2 F9 14 (1 : Int32) _ _ _ _  hw (lv_sub hl [1, 0] rfl) hf
set_option maxRecDepth 100000 in
set_option maxHeartbeats 4000000 in
theorem bk_TM_goOneCycle_72 {z : sg_T} (F : fx_F p s m args meth c nC_TM_goOneCycle 1 none nR_TM) {σ : sg_T} {H : Heap} {locs : List Loc} {ls : Array Slot} (hw : ww_P x s H locs σ) (hl : lv_has ls 1 [(0, .ref (x.2.2 0))]) (hf : fb_TM_goOneCycle_72  σ = some z) : W p l e (rm_D 6) s m args below meth c H locs 0 0 (qv_Q x s below args z) (F0 m 72 ls []) := by
  have F9 := F
  obtain ⟨hx, hb, hml, hr, hlk, hown, hT⟩ := F
  unfold fb_TM_goOneCycle_72 at hf
  refine lv_aload_n hx hb nD_TM_goOneCycle_72 rfl (lv_at hl 0 rfl) ?_
  refine lv_dup hx hb nD_TM_goOneCycle_73 rfl ?_
  refine rd_TM_TM_cycles F9 hw nD_TM_goOneCycle_74 ?_
  refine lv_iconst (v := 1) hx hb nD_TM_goOneCycle_77 (by decide) ?_
  refine lv_iadd hx hb nD_TM_goOneCycle_78 ?_
  refine wr_TM_TM_cycles F9 hw nD_TM_goOneCycle_79 (fun H locs hw => ?_)
  exact rt_v F9 hw nD_TM_goOneCycle_82 hf
set_option maxRecDepth 100000 in
set_option maxHeartbeats 4000000 in
theorem bk_TM_goOneCycle_69 {z : sg_T} (F : fx_F p s m args meth c nC_TM_goOneCycle 1 none nR_TM) (t0 : Int32) {σ : sg_T} {H : Heap} {locs : List Loc} {ls : Array Slot} (hw : ww_P x s H locs σ) (hl : lv_has ls 1 [(0, .ref (x.2.2 0))]) (hf : fb_TM_goOneCycle_69 t0 σ = some z) : W p l e (rm_D 6) s m args below meth c H locs 0 0 (qv_Q x s below args z) (F0 m 69 ls [.int t0, .ref (x.2.2 0)]) := by
  have F9 := F
  obtain ⟨hx, hb, hml, hr, hlk, hown, hT⟩ := F
  unfold fb_TM_goOneCycle_69 at hf
  refine wr_TM_TM_mode F9 hw nD_TM_goOneCycle_69 (fun H locs hw => ?_)
  exact bk_TM_goOneCycle_72 F9   hw (lv_sub hl [0] rfl) hf
set_option maxRecDepth 100000 in
set_option maxHeartbeats 4000000 in
theorem bk_TM_goOneCycle_41 {z : sg_T} (F : fx_F p s m args meth c nC_TM_goOneCycle 1 none nR_TM) {σ : sg_T} {H : Heap} {locs : List Loc} {ls : Array Slot} (hw : ww_P x s H locs σ) (hl : lv_has ls 1 [(0, .ref (x.2.2 0))]) (hf : fb_TM_goOneCycle_41  σ = some z) : W p l e (rm_D 6) s m args below meth c H locs 0 0 (qv_Q x s below args z) (F0 m 41 ls []) := by
  have F9 := F
  obtain ⟨hx, hb, hml, hr, hlk, hown, hT⟩ := F
  unfold fb_TM_goOneCycle_41 at hf
  refine lv_aload_n hx hb nD_TM_goOneCycle_41 rfl (lv_at hl 0 rfl) ?_
  refine rd_TM_TM_mode F9 hw nD_TM_goOneCycle_42 ?_
  refine lv_iconst (v := 1) hx hb nD_TM_goOneCycle_45 (by decide) ?_
  refine lv_icmp_ne (tgt := 72) hx hb nD_TM_goOneCycle_46 (by decide) (fun h9 => ?_) (fun h9 => ?_)
  · rw [if_neg h9] at hf
    exact bk_TM_goOneCycle_72 F9   hw (lv_sub hl [0] rfl) hf
  · rw [if_pos h9] at hf
    refine lv_aload_n hx hb nD_TM_goOneCycle_49 rfl (lv_at hl 0 rfl) ?_
    obtain ⟨z10, hz10, hf⟩ := bd_of hf
    refine cl_vi (As := []) (rest := []) F9 hw (ct_TM_allFree l x   _ _ hz10) (rc_TM ) wc_TM_157 hd_TM_allFree (by decide) hl rfl (Nat.le_of_ble_eq_true rfl) nD_TM_goOneCycle_50 (fun H locs hw => ?_)
    refine lv_if_eq (tgt := 72) hx hb nD_TM_goOneCycle_53 (by decide) (fun h11 => ?_) (fun h11 => ?_)
    · rw [if_pos h11] at hf
      exact bk_TM_goOneCycle_72 F9   hw (lv_sub hl [0] rfl) hf
    · rw [if_neg h11] at hf
      refine lv_aload_n hx hb nD_TM_goOneCycle_56 rfl (lv_at hl 0 rfl) ?_
      refine lv_aload_n hx hb nD_TM_goOneCycle_57 rfl (lv_at hl 0 rfl) ?_
      refine rd_TM_TM_noted F9 hw nD_TM_goOneCycle_58 ?_
      refine lv_if_eq (tgt := 68) hx hb nD_TM_goOneCycle_61 (by decide) (fun h12 => ?_) (fun h12 => ?_)
      · rw [if_pos h12] at hf
        refine lv_iconst (v := 2) hx hb nD_TM_goOneCycle_68 (by decide) ?_
        exact bk_TM_goOneCycle_69 F9 (2 : Int32)  hw (lv_sub hl [0] rfl) hf
      · rw [if_neg h12] at hf
        refine lv_iconst (v := 3) hx hb nD_TM_goOneCycle_64 (by decide) ?_
        refine lv_goto (tgt := 69) hx hb nD_TM_goOneCycle_65 (by decide) ?_
        exact bk_TM_goOneCycle_69 F9 (3 : Int32)  hw (lv_sub hl [0] rfl) hf
set_option maxRecDepth 100000 in
set_option maxHeartbeats 4000000 in
theorem ct_TM_goOneCycle (l : Launch) (x : cx_T) (σ : sg_T) (z : sg_T) (hf : fn_TM_goOneCycle  σ = some z) : ct_v l nN_TM_goOneCycle nC_TM_goOneCycle 1 6 x [.ref (x.2.2 0)] σ z := by
  refine en_v (own := nR_TM) (by decide) (Nat.le_of_ble_eq_true rfl) rfl ?_
  intro p e s m below meth c ls F hw hl
  have F9 := F
  obtain ⟨hx, hb, hml, hr, hlk, hown, hT⟩ := F
  have hl : lv_has ls 1 [(0, .ref (x.2.2 0))] := hl
  unfold fn_TM_goOneCycle at hf
  refine lv_aload_n hx hb nD_TM_goOneCycle_0 rfl (lv_at hl 0 rfl) ?_
  obtain ⟨z1, hz1, hf⟩ := bd_of hf
  refine cl_vv (As := []) (rest := []) F9 hw (ct_TM_useBus l x   _ _ hz1) (rc_TM ) wc_TM_135 hd_TM_useBus (by decide) hl rfl (Nat.le_of_ble_eq_true rfl) nD_TM_goOneCycle_1 (fun H locs hw => ?_)
  refine lv_aload_n hx hb nD_TM_goOneCycle_4 rfl (lv_at hl 0 rfl) ?_
  obtain ⟨z2, hz2, hf⟩ := bd_of hf
  refine cl_vv (As := []) (rest := []) F9 hw (ct_TM_work l x   _ _ hz2) (rc_TM ) wc_TM_138 hd_TM_work (by decide) hl rfl (Nat.le_of_ble_eq_true rfl) nD_TM_goOneCycle_5 (fun H locs hw => ?_)
  refine lv_aload_n hx hb nD_TM_goOneCycle_8 rfl (lv_at hl 0 rfl) ?_
  refine lv_aload_n hx hb nD_TM_goOneCycle_9 rfl (lv_at hl 0 rfl) ?_
  refine lv_iconst (v := 1) hx hb nD_TM_goOneCycle_10 (by decide) ?_
  refine lv_iconst (v := 3) hx hb nD_TM_goOneCycle_11 (by decide) ?_
  obtain ⟨z3, hz3, hf⟩ := bd_of hf
  refine cl_vi (As := [.int (1 : Int32), .int (3 : Int32)]) (rest := [.ref (x.2.2 0)]) F9 hw (ct_TM_firstReady l x (1 : Int32) (3 : Int32)  _ _ hz3) (rc_TM ) wc_TM_141 hd_TM_firstReady (by decide) hl rfl (Nat.le_of_ble_eq_true rfl) nD_TM_goOneCycle_12 (fun H locs hw => ?_)
  obtain ⟨z4, hz4, hf⟩ := bd_of hf
  refine cl_vv (As := [.int z3.1]) (rest := []) F9 hw (ct_TM_beginStation l x z3.1  _ _ hz4) (rc_TM ) wc_TM_144 hd_TM_beginStation (by decide) hl rfl (Nat.le_of_ble_eq_true rfl) nD_TM_goOneCycle_15 (fun H locs hw => ?_)
  refine lv_aload_n hx hb nD_TM_goOneCycle_18 rfl (lv_at hl 0 rfl) ?_
  refine lv_aload_n hx hb nD_TM_goOneCycle_19 rfl (lv_at hl 0 rfl) ?_
  obtain ⟨z5, hz5, hf⟩ := bd_of hf
  refine cl_vi (As := []) (rest := [.ref (x.2.2 0)]) F9 hw (ct_TM_nextOfMultiplier l x   _ _ hz5) (rc_TM ) wc_TM_147 hd_TM_nextOfMultiplier (by decide) hl rfl (Nat.le_of_ble_eq_true rfl) nD_TM_goOneCycle_20 (fun H locs hw => ?_)
  obtain ⟨z6, hz6, hf⟩ := bd_of hf
  refine cl_vv (As := [.int z5.1]) (rest := []) F9 hw (ct_TM_beginStation l x z5.1  _ _ hz6) (rc_TM ) wc_TM_144 hd_TM_beginStation (by decide) hl rfl (Nat.le_of_ble_eq_true rfl) nD_TM_goOneCycle_23 (fun H locs hw => ?_)
  refine lv_aload_n hx hb nD_TM_goOneCycle_26 rfl (lv_at hl 0 rfl) ?_
  obtain ⟨z7, hz7, hf⟩ := bd_of hf
  refine cl_vv (As := []) (rest := []) F9 hw (ct_TM_beginStorage l x   _ _ hz7) (rc_TM ) wc_TM_151 hd_TM_beginStorage (by decide) hl rfl (Nat.le_of_ble_eq_true rfl) nD_TM_goOneCycle_27 (fun H locs hw => ?_)
  refine lv_aload_n hx hb nD_TM_goOneCycle_30 rfl (lv_at hl 0 rfl) ?_
  refine rd_TM_TM_mode F9 hw nD_TM_goOneCycle_31 ?_
  refine lv_if_ne (tgt := 41) hx hb nD_TM_goOneCycle_34 (by decide) (fun h8 => ?_) (fun h8 => ?_)
  · rw [if_neg h8] at hf
    exact bk_TM_goOneCycle_41 F9   hw (lv_sub hl [0] rfl) hf
  · rw [if_pos h8] at hf
    refine lv_aload_n hx hb nD_TM_goOneCycle_37 rfl (lv_at hl 0 rfl) ?_
    obtain ⟨z13, hz13, hf⟩ := bd_of hf
    refine cl_vv (As := []) (rest := []) F9 hw (ct_TM_handOut l x   _ _ hz13) (rc_TM ) wc_TM_154 hd_TM_handOut (by decide) hl rfl (Nat.le_of_ble_eq_true rfl) nD_TM_goOneCycle_38 (fun H locs hw => ?_)
    exact bk_TM_goOneCycle_41 F9   hw (lv_sub hl [0] rfl) hf
end MT
