def fb_MOD_free_27 (kL5 : Int32 → Int32 → Int32 → sg_T → Option (Int32 × sg_T)) (a1 : Int32) (a4 : Int32) (t0 : Int32) (σ : sg_T) : Option (Int32 × sg_T) := kL5 a1 t0 (a4 + (-1)) σ
def fb_MOD_free_5 : Nat → Int32 → Int32 → Int32 → sg_T → Option (Int32 × sg_T)
  | 0, _, _, _, _ => none
  | n + 1, a1, a3, a4, σ => if a4 < a1 then some (a3, σ) else gt_d (ib_I a4 13) (if (σ 40 (tn_I a4)) = 0 then fb_MOD_free_27 (fb_MOD_free_5 n) a1 a4 a4 σ else fb_MOD_free_27 (fb_MOD_free_5 n) a1 a4 a3 σ)
def fn_MOD_free (a1 : Int32) (a2 : Int32) (σ : sg_T) : Option (Int32 × sg_T) := fb_MOD_free_5 14 a1 (0 : Int32) a2 σ
def fb_MOD_storing_39 (kL5 : Int32 → Int32 → Int32 → sg_T → Option (Int32 × sg_T)) (a1 : Int32) (a3 : Int32) (t0 : Int32) (σ : sg_T) : Option (Int32 × sg_T) := kL5 a1 t0 (a3 + (1 : Int32)) σ
def fb_MOD_storing_34 (kL5 : Int32 → Int32 → Int32 → sg_T → Option (Int32 × sg_T)) (a1 : Int32) (a3 : Int32) (σ : sg_T) : Option (Int32 × sg_T) := fb_MOD_storing_39 kL5 a1 a3 (1 : Int32) σ
def fb_MOD_storing_38 (kL5 : Int32 → Int32 → Int32 → sg_T → Option (Int32 × sg_T)) (a1 : Int32) (a3 : Int32) (σ : sg_T) : Option (Int32 × sg_T) := fb_MOD_storing_39 kL5 a1 a3 (0 : Int32) σ
def fb_MOD_storing_5 : Nat → Int32 → Int32 → Int32 → sg_T → Option (Int32 × sg_T)
  | 0, _, _, _, _ => none
  | n + 1, a1, a2, a3, σ => if (13 : Int32) ≤ a3 then gt_d (decide (a2 = 0 ∨ a2 = 1)) (some (a2, σ)) else if a2 = 0 then gt_d (ib_I a3 13) (if (σ 40 (tn_I a3)) ≤ 0 then fb_MOD_storing_38 (fb_MOD_storing_5 n) a1 a3 σ else gt_d (ib_I a3 13) (if (σ 47 (tn_I a3)) = a1 then fb_MOD_storing_34 (fb_MOD_storing_5 n) a1 a3 σ else fb_MOD_storing_38 (fb_MOD_storing_5 n) a1 a3 σ)) else fb_MOD_storing_34 (fb_MOD_storing_5 n) a1 a3 σ
def fn_MOD_storing (a1 : Int32) (σ : sg_T) : Option (Int32 × sg_T) := fb_MOD_storing_5 14 a1 (0 : Int32) (10 : Int32) σ
def fn_MOD_take (a1 : Int32) (a2 : Int32) (a3 : Int32) (a4 : Int32) (σ : sg_T) : Option (sg_T) := gt_d (ib_I a1 13) (gt_d (ib_I a1 13) (gt_d (ib_I a3 5) (gt_d (ib_I ((2 : Int32) * a1) 26) (gt_d (ib_I a3 5) (gt_d (ib_I ((2 : Int32) * a1) 26) (gt_d (ib_I a4 5) (gt_d (ib_I (((2 : Int32) * a1) + (1 : Int32)) 26) (gt_d (ib_I a4 5) (gt_d (ib_I (((2 : Int32) * a1) + (1 : Int32)) 26) (gt_d (ib_I a1 13) (some (sg_up (sg_up (sg_up (sg_up (sg_up (sg_up (sg_up σ 40 (tn_I a1) (1 : Int32)) 41 (tn_I a1) a2) 45 (tn_I ((2 : Int32) * a1)) ((sg_up (sg_up σ 40 (tn_I a1) (1 : Int32)) 41 (tn_I a1) a2) 36 (tn_I a3))) 46 (tn_I ((2 : Int32) * a1)) ((sg_up (sg_up (sg_up σ 40 (tn_I a1) (1 : Int32)) 41 (tn_I a1) a2) 45 (tn_I ((2 : Int32) * a1)) ((sg_up (sg_up σ 40 (tn_I a1) (1 : Int32)) 41 (tn_I a1) a2) 36 (tn_I a3))) 37 (tn_I a3))) 45 (tn_I (((2 : Int32) * a1) + (1 : Int32))) ((sg_up (sg_up (sg_up (sg_up σ 40 (tn_I a1) (1 : Int32)) 41 (tn_I a1) a2) 45 (tn_I ((2 : Int32) * a1)) ((sg_up (sg_up σ 40 (tn_I a1) (1 : Int32)) 41 (tn_I a1) a2) 36 (tn_I a3))) 46 (tn_I ((2 : Int32) * a1)) ((sg_up (sg_up (sg_up σ 40 (tn_I a1) (1 : Int32)) 41 (tn_I a1) a2) 45 (tn_I ((2 : Int32) * a1)) ((sg_up (sg_up σ 40 (tn_I a1) (1 : Int32)) 41 (tn_I a1) a2) 36 (tn_I a3))) 37 (tn_I a3))) 36 (tn_I a4))) 46 (tn_I (((2 : Int32) * a1) + (1 : Int32))) ((sg_up (sg_up (sg_up (sg_up (sg_up σ 40 (tn_I a1) (1 : Int32)) 41 (tn_I a1) a2) 45 (tn_I ((2 : Int32) * a1)) ((sg_up (sg_up σ 40 (tn_I a1) (1 : Int32)) 41 (tn_I a1) a2) 36 (tn_I a3))) 46 (tn_I ((2 : Int32) * a1)) ((sg_up (sg_up (sg_up σ 40 (tn_I a1) (1 : Int32)) 41 (tn_I a1) a2) 45 (tn_I ((2 : Int32) * a1)) ((sg_up (sg_up σ 40 (tn_I a1) (1 : Int32)) 41 (tn_I a1) a2) 36 (tn_I a3))) 37 (tn_I a3))) 45 (tn_I (((2 : Int32) * a1) + (1 : Int32))) ((sg_up (sg_up (sg_up (sg_up σ 40 (tn_I a1) (1 : Int32)) 41 (tn_I a1) a2) 45 (tn_I ((2 : Int32) * a1)) ((sg_up (sg_up σ 40 (tn_I a1) (1 : Int32)) 41 (tn_I a1) a2) 36 (tn_I a3))) 46 (tn_I ((2 : Int32) * a1)) ((sg_up (sg_up (sg_up σ 40 (tn_I a1) (1 : Int32)) 41 (tn_I a1) a2) 45 (tn_I ((2 : Int32) * a1)) ((sg_up (sg_up σ 40 (tn_I a1) (1 : Int32)) 41 (tn_I a1) a2) 36 (tn_I a3))) 37 (tn_I a3))) 36 (tn_I a4))) 37 (tn_I a4))) 48 (tn_I a1) ((sg_up (sg_up (sg_up (sg_up (sg_up (sg_up σ 40 (tn_I a1) (1 : Int32)) 41 (tn_I a1) a2) 45 (tn_I ((2 : Int32) * a1)) ((sg_up (sg_up σ 40 (tn_I a1) (1 : Int32)) 41 (tn_I a1) a2) 36 (tn_I a3))) 46 (tn_I ((2 : Int32) * a1)) ((sg_up (sg_up (sg_up σ 40 (tn_I a1) (1 : Int32)) 41 (tn_I a1) a2) 45 (tn_I ((2 : Int32) * a1)) ((sg_up (sg_up σ 40 (tn_I a1) (1 : Int32)) 41 (tn_I a1) a2) 36 (tn_I a3))) 37 (tn_I a3))) 45 (tn_I (((2 : Int32) * a1) + (1 : Int32))) ((sg_up (sg_up (sg_up (sg_up σ 40 (tn_I a1) (1 : Int32)) 41 (tn_I a1) a2) 45 (tn_I ((2 : Int32) * a1)) ((sg_up (sg_up σ 40 (tn_I a1) (1 : Int32)) 41 (tn_I a1) a2) 36 (tn_I a3))) 46 (tn_I ((2 : Int32) * a1)) ((sg_up (sg_up (sg_up σ 40 (tn_I a1) (1 : Int32)) 41 (tn_I a1) a2) 45 (tn_I ((2 : Int32) * a1)) ((sg_up (sg_up σ 40 (tn_I a1) (1 : Int32)) 41 (tn_I a1) a2) 36 (tn_I a3))) 37 (tn_I a3))) 36 (tn_I a4))) 46 (tn_I (((2 : Int32) * a1) + (1 : Int32))) ((sg_up (sg_up (sg_up (sg_up (sg_up σ 40 (tn_I a1) (1 : Int32)) 41 (tn_I a1) a2) 45 (tn_I ((2 : Int32) * a1)) ((sg_up (sg_up σ 40 (tn_I a1) (1 : Int32)) 41 (tn_I a1) a2) 36 (tn_I a3))) 46 (tn_I ((2 : Int32) * a1)) ((sg_up (sg_up (sg_up σ 40 (tn_I a1) (1 : Int32)) 41 (tn_I a1) a2) 45 (tn_I ((2 : Int32) * a1)) ((sg_up (sg_up σ 40 (tn_I a1) (1 : Int32)) 41 (tn_I a1) a2) 36 (tn_I a3))) 37 (tn_I a3))) 45 (tn_I (((2 : Int32) * a1) + (1 : Int32))) ((sg_up (sg_up (sg_up (sg_up σ 40 (tn_I a1) (1 : Int32)) 41 (tn_I a1) a2) 45 (tn_I ((2 : Int32) * a1)) ((sg_up (sg_up σ 40 (tn_I a1) (1 : Int32)) 41 (tn_I a1) a2) 36 (tn_I a3))) 46 (tn_I ((2 : Int32) * a1)) ((sg_up (sg_up (sg_up σ 40 (tn_I a1) (1 : Int32)) 41 (tn_I a1) a2) 45 (tn_I ((2 : Int32) * a1)) ((sg_up (sg_up σ 40 (tn_I a1) (1 : Int32)) 41 (tn_I a1) a2) 36 (tn_I a3))) 37 (tn_I a3))) 36 (tn_I a4))) 37 (tn_I a4))) 30 7)))))))))))))
def fb_MOD_storage_67 (a1 : Int32) (a2 : Int32) (t0 : Int32) (σ : sg_T) : Option (Int32 × sg_T) := if t0 = 0 then some ((0 : Int32), σ) else (fn_MOD_storing a2 σ).bind (fun z10 => if z10.1 = 0 then gt_d (ib_I a1 30) (gt_d (ib_I a1 30) (gt_d (ib_I a1 30) ((fn_MOD_take t0 (z10.2 31 (tn_I a1)) (z10.2 32 (tn_I a1)) (z10.2 32 (tn_I a1)) z10.2).bind (fun z15 => gt_d (ib_I t0 13) (gt_d (ib_I a1 30) (if ((sg_up z15 47 (tn_I t0) a2) 31 (tn_I a1)) = 0 then gt_d (ib_I ((2 : Int32) * t0) 26) (gt_d (ib_I (((2 : Int32) * t0) + (1 : Int32)) 26) (gt_d (ib_I a1 30) (gt_d (ib_I ((sg_up (sg_up (sg_up z15 47 (tn_I t0) a2) 46 (tn_I ((2 : Int32) * t0)) (0 : Int32)) 46 (tn_I (((2 : Int32) * t0) + (1 : Int32))) (0 : Int32)) 32 (tn_I a1)) 5) (some ((1 : Int32), sg_up (sg_up (sg_up (sg_up z15 47 (tn_I t0) a2) 46 (tn_I ((2 : Int32) * t0)) (0 : Int32)) 46 (tn_I (((2 : Int32) * t0) + (1 : Int32))) (0 : Int32)) 37 (tn_I ((sg_up (sg_up (sg_up z15 47 (tn_I t0) a2) 46 (tn_I ((2 : Int32) * t0)) (0 : Int32)) 46 (tn_I (((2 : Int32) * t0) + (1 : Int32))) (0 : Int32)) 32 (tn_I a1))) t0))))) else some ((1 : Int32), sg_up z15 47 (tn_I t0) a2))))))) else some ((0 : Int32), z10.2))
def fn_MOD_storage (a1 : Int32) (σ : sg_T) : Option (Int32 × sg_T) := gt_d (ib_I a1 30) (gt_d (ib_I (σ 34 (tn_I a1)) 4) (gt_d (ib_I a1 30) ((fn_MOD_isPlace ((σ 38 (tn_I (σ 34 (tn_I a1)))) + (σ 35 (tn_I a1))) σ).bind (fun z4 => if z4.1 = 0 then some ((0 : Int32), sg_up z4.2 30 5 ((z4.2 30 5) ||| (8 : Int32))) else gt_d (ib_I a1 30) (if (z4.2 31 (tn_I a1)) = 0 then (fn_MOD_free (6 : Int32) (9 : Int32) z4.2).bind (fun z23 => fb_MOD_storage_67 a1 ((σ 38 (tn_I (σ 34 (tn_I a1)))) + (σ 35 (tn_I a1))) z23.1 z23.2) else (fn_MOD_free (10 : Int32) (12 : Int32) z4.2).bind (fun z8 => fb_MOD_storage_67 a1 ((σ 38 (tn_I (σ 34 (tn_I a1)))) + (σ 35 (tn_I a1))) z8.1 z8.2))))))
def fb_MOD_reckoned_56 (a1 : Int32) (t0 : Int32) (σ : sg_T) : Option (Int32 × sg_T) := if t0 = 0 then some ((0 : Int32), σ) else gt_d (ib_I a1 30) (gt_d (ib_I a1 30) (gt_d (ib_I a1 30) ((fn_MOD_take t0 (σ 31 (tn_I a1)) (σ 32 (tn_I a1)) (σ 33 (tn_I a1)) σ).bind (fun z9 => gt_d (ib_I a1 30) (if (z9 31 (tn_I a1)) = (6 : Int32) then gt_d (ib_I (4 : Int32) 5) (some ((1 : Int32), sg_up z9 37 (tn_I (4 : Int32)) t0)) else gt_d (ib_I a1 30) (gt_d (ib_I (z9 32 (tn_I a1)) 5) (some ((1 : Int32), sg_up z9 37 (tn_I (z9 32 (tn_I a1))) t0))))))))
def fb_MOD_reckoned_36 (a1 : Int32) (t0 : Int32) (σ : sg_T) : Option (Int32 × sg_T) := if t0 = 0 then (fn_MOD_free (4 : Int32) (5 : Int32) σ).bind (fun z4 => fb_MOD_reckoned_56 a1 z4.1 z4.2) else (fn_MOD_free (1 : Int32) (3 : Int32) σ).bind (fun z15 => fb_MOD_reckoned_56 a1 z15.1 z15.2)
def fb_MOD_reckoned_31 (a1 : Int32) (σ : sg_T) : Option (Int32 × sg_T) := fb_MOD_reckoned_36 a1 (1 : Int32) σ
def fn_MOD_reckoned (a1 : Int32) (σ : sg_T) : Option (Int32 × sg_T) := gt_d (ib_I a1 30) (if (σ 31 (tn_I a1)) = (2 : Int32) then fb_MOD_reckoned_31 a1 σ else gt_d (ib_I a1 30) (if (σ 31 (tn_I a1)) = (3 : Int32) then fb_MOD_reckoned_31 a1 σ else gt_d (ib_I a1 30) (if (σ 31 (tn_I a1)) = (6 : Int32) then fb_MOD_reckoned_31 a1 σ else fb_MOD_reckoned_36 a1 (0 : Int32) σ)))
def fb_MOD_handOut_18 (σ : sg_T) : Option (sg_T) := some (sg_up σ 30 5 ((σ 30 5) ||| (16 : Int32)))
def fb_MOD_handOut_311 (a1 : Int32) (σ : sg_T) : Option (sg_T) := gt_d (ib_I a1 30) (some (sg_up σ 30 4 (σ 35 (tn_I a1))))
def fb_MOD_handOut_169 (a1 : Int32) (a3 : Int32) (t0 : Int32) (t1 : Int32) (σ : sg_T) : Option (sg_T) := gt_d (ib_I t1 5) (gt_d (ib_I a1 30) (gt_d (ib_I ((sg_up σ 36 (tn_I t1) t0) 33 (tn_I a1)) 5) (gt_d (ib_I a3 5) (some (sg_up (sg_up σ 36 (tn_I t1) t0) 37 (tn_I a3) ((sg_up σ 36 (tn_I t1) t0) 37 (tn_I ((sg_up σ 36 (tn_I t1) t0) 33 (tn_I a1)))))))))
def fb_MOD_handOut_96 (a1 : Int32) (a2 : Int32) (a3 : Int32) (t0 : Int32) (σ : sg_T) : Option (sg_T) := if t0 = 0 then some (σ) else if a2 = (7 : Int32) then gt_d (ib_I a1 30) (gt_d (ib_I ((sg_up (sg_up σ 30 7 ((σ 30 7) + (1 : Int32))) 30 4 (((sg_up σ 30 7 ((σ 30 7) + (1 : Int32))) 30 4) + (1 : Int32))) 33 (tn_I a1)) 5) (if ((sg_up (sg_up σ 30 7 ((σ 30 7) + (1 : Int32))) 30 4 (((sg_up σ 30 7 ((σ 30 7) + (1 : Int32))) 30 4) + (1 : Int32))) 37 (tn_I ((sg_up (sg_up σ 30 7 ((σ 30 7) + (1 : Int32))) 30 4 (((sg_up σ 30 7 ((σ 30 7) + (1 : Int32))) 30 4) + (1 : Int32))) 33 (tn_I a1)))) = 0 then gt_d (ib_I a1 30) (gt_d (ib_I ((sg_up (sg_up σ 30 7 ((σ 30 7) + (1 : Int32))) 30 4 (((sg_up σ 30 7 ((σ 30 7) + (1 : Int32))) 30 4) + (1 : Int32))) 33 (tn_I a1)) 5) (fb_MOD_handOut_169 a1 a3 ((sg_up (sg_up σ 30 7 ((σ 30 7) + (1 : Int32))) 30 4 (((sg_up σ 30 7 ((σ 30 7) + (1 : Int32))) 30 4) + (1 : Int32))) 36 (tn_I ((sg_up (sg_up σ 30 7 ((σ 30 7) + (1 : Int32))) 30 4 (((sg_up σ 30 7 ((σ 30 7) + (1 : Int32))) 30 4) + (1 : Int32))) 33 (tn_I a1)))) a3 (sg_up (sg_up σ 30 7 ((σ 30 7) + (1 : Int32))) 30 4 (((sg_up σ 30 7 ((σ 30 7) + (1 : Int32))) 30 4) + (1 : Int32))))) else gt_d (ib_I a3 5) (fb_MOD_handOut_169 a1 a3 ((sg_up (sg_up σ 30 7 ((σ 30 7) + (1 : Int32))) 30 4 (((sg_up σ 30 7 ((σ 30 7) + (1 : Int32))) 30 4) + (1 : Int32))) 36 (tn_I a3)) a3 (sg_up (sg_up σ 30 7 ((σ 30 7) + (1 : Int32))) 30 4 (((sg_up σ 30 7 ((σ 30 7) + (1 : Int32))) 30 4) + (1 : Int32)))))) else if a2 = (8 : Int32) then gt_d (ib_I a1 30) (gt_d (ib_I a3 4) (some (sg_up (sg_up (sg_up σ 30 7 ((σ 30 7) + (1 : Int32))) 30 4 (((sg_up σ 30 7 ((σ 30 7) + (1 : Int32))) 30 4) + (1 : Int32))) 38 (tn_I a3) ((sg_up (sg_up σ 30 7 ((σ 30 7) + (1 : Int32))) 30 4 (((sg_up σ 30 7 ((σ 30 7) + (1 : Int32))) 30 4) + (1 : Int32))) 35 (tn_I a1))))) else if a2 = (9 : Int32) then gt_d (ib_I a1 30) (gt_d (ib_I ((sg_up (sg_up σ 30 7 ((σ 30 7) + (1 : Int32))) 30 4 (((sg_up σ 30 7 ((σ 30 7) + (1 : Int32))) 30 4) + (1 : Int32))) 33 (tn_I a1)) 4) (gt_d (ib_I a1 30) (gt_d (ib_I a3 4) (some (sg_up (sg_up (sg_up σ 30 7 ((σ 30 7) + (1 : Int32))) 30 4 (((sg_up σ 30 7 ((σ 30 7) + (1 : Int32))) 30 4) + (1 : Int32))) 38 (tn_I a3) (((sg_up (sg_up σ 30 7 ((σ 30 7) + (1 : Int32))) 30 4 (((sg_up σ 30 7 ((σ 30 7) + (1 : Int32))) 30 4) + (1 : Int32))) 38 (tn_I ((sg_up (sg_up σ 30 7 ((σ 30 7) + (1 : Int32))) 30 4 (((sg_up σ 30 7 ((σ 30 7) + (1 : Int32))) 30 4) + (1 : Int32))) 33 (tn_I a1)))) + ((sg_up (sg_up σ 30 7 ((σ 30 7) + (1 : Int32))) 30 4 (((sg_up σ 30 7 ((σ 30 7) + (1 : Int32))) 30 4) + (1 : Int32))) 35 (tn_I a1)))))))) else if a2 = (10 : Int32) then gt_d (ib_I a3 4) (gt_d (ib_I a3 4) (gt_d (ib_I a3 4) (if ((sg_up (sg_up (sg_up σ 30 7 ((σ 30 7) + (1 : Int32))) 30 4 (((sg_up σ 30 7 ((σ 30 7) + (1 : Int32))) 30 4) + (1 : Int32))) 38 (tn_I a3) (((sg_up (sg_up σ 30 7 ((σ 30 7) + (1 : Int32))) 30 4 (((sg_up σ 30 7 ((σ 30 7) + (1 : Int32))) 30 4) + (1 : Int32))) 38 (tn_I a3)) - (1 : Int32))) 38 (tn_I a3)) = 0 then some (sg_up (sg_up (sg_up (sg_up σ 30 7 ((σ 30 7) + (1 : Int32))) 30 4 (((sg_up σ 30 7 ((σ 30 7) + (1 : Int32))) 30 4) + (1 : Int32))) 38 (tn_I a3) (((sg_up (sg_up σ 30 7 ((σ 30 7) + (1 : Int32))) 30 4 (((sg_up σ 30 7 ((σ 30 7) + (1 : Int32))) 30 4) + (1 : Int32))) 38 (tn_I a3)) - (1 : Int32))) 30 4 ((sg_up (sg_up (sg_up σ 30 7 ((σ 30 7) + (1 : Int32))) 30 4 (((sg_up σ 30 7 ((σ 30 7) + (1 : Int32))) 30 4) + (1 : Int32))) 38 (tn_I a3) (((sg_up (sg_up σ 30 7 ((σ 30 7) + (1 : Int32))) 30 4 (((sg_up σ 30 7 ((σ 30 7) + (1 : Int32))) 30 4) + (1 : Int32))) 38 (tn_I a3)) - (1 : Int32))) 30 4)) else gt_d (ib_I a1 30) (some (sg_up (sg_up (sg_up (sg_up σ 30 7 ((σ 30 7) + (1 : Int32))) 30 4 (((sg_up σ 30 7 ((σ 30 7) + (1 : Int32))) 30 4) + (1 : Int32))) 38 (tn_I a3) (((sg_up (sg_up σ 30 7 ((σ 30 7) + (1 : Int32))) 30 4 (((sg_up σ 30 7 ((σ 30 7) + (1 : Int32))) 30 4) + (1 : Int32))) 38 (tn_I a3)) - (1 : Int32))) 30 4 ((sg_up (sg_up (sg_up σ 30 7 ((σ 30 7) + (1 : Int32))) 30 4 (((sg_up σ 30 7 ((σ 30 7) + (1 : Int32))) 30 4) + (1 : Int32))) 38 (tn_I a3) (((sg_up (sg_up σ 30 7 ((σ 30 7) + (1 : Int32))) 30 4 (((sg_up σ 30 7 ((σ 30 7) + (1 : Int32))) 30 4) + (1 : Int32))) 38 (tn_I a3)) - (1 : Int32))) 35 (tn_I a1))))))) else if a2 = (11 : Int32) then if a3 = (3 : Int32) then fb_MOD_handOut_311 a1 (sg_up (sg_up σ 30 7 ((σ 30 7) + (1 : Int32))) 30 4 (((sg_up σ 30 7 ((σ 30 7) + (1 : Int32))) 30 4) + (1 : Int32))) else gt_d (ib_I (4 : Int32) 5) (if ((sg_up (sg_up σ 30 7 ((σ 30 7) + (1 : Int32))) 30 4 (((sg_up σ 30 7 ((σ 30 7) + (1 : Int32))) 30 4) + (1 : Int32))) 36 (tn_I (4 : Int32))) = a3 then fb_MOD_handOut_311 a1 (sg_up (sg_up σ 30 7 ((σ 30 7) + (1 : Int32))) 30 4 (((sg_up σ 30 7 ((σ 30 7) + (1 : Int32))) 30 4) + (1 : Int32))) else some (sg_up (sg_up (sg_up σ 30 7 ((σ 30 7) + (1 : Int32))) 30 4 (((sg_up σ 30 7 ((σ 30 7) + (1 : Int32))) 30 4) + (1 : Int32))) 30 4 ((sg_up (sg_up σ 30 7 ((σ 30 7) + (1 : Int32))) 30 4 (((sg_up σ 30 7 ((σ 30 7) + (1 : Int32))) 30 4) + (1 : Int32))) 30 4))) else if a2 = (12 : Int32) then some (sg_up (sg_up (sg_up σ 30 7 ((σ 30 7) + (1 : Int32))) 30 4 (((sg_up σ 30 7 ((σ 30 7) + (1 : Int32))) 30 4) + (1 : Int32))) 30 3 (1 : Int32)) else some (sg_up (sg_up σ 30 7 ((σ 30 7) + (1 : Int32))) 30 4 (((sg_up σ 30 7 ((σ 30 7) + (1 : Int32))) 30 4) + (1 : Int32)))
def fb_MOD_handOut_91 (a1 : Int32) (a2 : Int32) (a3 : Int32) (σ : sg_T) : Option (sg_T) := fb_MOD_handOut_96 a1 a2 a3 (1 : Int32) σ
def fn_MOD_handOut (σ : sg_T) : Option (sg_T) := if (σ 30 4) < 0 then fb_MOD_handOut_18  σ else if (σ 30 4) < (σ 30 2) then gt_d (ib_I (σ 30 4) 30) (gt_d (ib_I (σ 30 4) 30) (if (2 : Int32) ≤ (σ 31 (tn_I (σ 30 4))) then if (6 : Int32) < (σ 31 (tn_I (σ 30 4))) then if (σ 31 (tn_I (σ 30 4))) = (11 : Int32) then gt_d (ib_I (4 : Int32) 5) (if (σ 37 (tn_I (4 : Int32))) = 0 then fb_MOD_handOut_91 (σ 30 4) (σ 31 (tn_I (σ 30 4))) (σ 32 (tn_I (σ 30 4))) σ else fb_MOD_handOut_96 (σ 30 4) (σ 31 (tn_I (σ 30 4))) (σ 32 (tn_I (σ 30 4))) (0 : Int32) σ) else fb_MOD_handOut_91 (σ 30 4) (σ 31 (tn_I (σ 30 4))) (σ 32 (tn_I (σ 30 4))) σ else (fn_MOD_reckoned (σ 30 4) σ).bind (fun z42 => fb_MOD_handOut_96 (σ 30 4) (σ 31 (tn_I (σ 30 4))) (σ 32 (tn_I (σ 30 4))) z42.1 z42.2) else (fn_MOD_storage (σ 30 4) σ).bind (fun z43 => fb_MOD_handOut_96 (σ 30 4) (σ 31 (tn_I (σ 30 4))) (σ 32 (tn_I (σ 30 4))) z43.1 z43.2))) else fb_MOD_handOut_18  σ
def fb_MOD_cycle_87 (kL63 : Int32 → Int32 → sg_T → Option (sg_T)) (a2 : Int32) (t0 : Int32) (σ : sg_T) : Option (sg_T) := kL63 t0 (a2 + (1 : Int32)) σ
def fb_MOD_cycle_86 (kL63 : Int32 → Int32 → sg_T → Option (sg_T)) (a2 : Int32) (σ : sg_T) : Option (sg_T) := fb_MOD_cycle_87 kL63 a2 (0 : Int32) σ
def fb_MOD_cycle_63 : Nat → Int32 → Int32 → sg_T → Option (sg_T)
  | 0, _, _, _ => none
  | n + 1, a1, a2, σ => if (13 : Int32) ≤ a2 then if (σ 30 3) = (1 : Int32) then if a1 = 0 then some (sg_up σ 30 3 (σ 30 3)) else if (σ 30 5) = 0 then some (sg_up σ 30 3 (2 : Int32)) else some (sg_up σ 30 3 (3 : Int32)) else some (sg_up σ 30 3 (σ 30 3)) else if a1 = 0 then fb_MOD_cycle_86 (fb_MOD_cycle_63 n) a2 σ else gt_d (ib_I a2 13) (if (σ 40 (tn_I a2)) = 0 then fb_MOD_cycle_87 (fb_MOD_cycle_63 n) a2 (1 : Int32) σ else fb_MOD_cycle_86 (fb_MOD_cycle_63 n) a2 σ)
def fb_MOD_cycle_56 (t0 : Int32) (σ : sg_T) : Option (sg_T) := fb_MOD_cycle_63 14 (1 : Int32) (1 : Int32) (sg_up σ 30 3 t0)
def fb_MOD_cycle_40 (σ : sg_T) : Option (sg_T) := if (σ 30 5) = 0 then fb_MOD_cycle_56 (σ 30 3) σ else fb_MOD_cycle_56 (1 : Int32) σ
def fn_MOD_cycle (σ : sg_T) : Option (sg_T) := (fn_MOD_bus  (sg_up σ 30 6 ((σ 30 6) + (1 : Int32)))).bind (fun z1 => (fn_MOD_work  z1).bind (fun z2 => (fn_MOD_begin  z2).bind (fun z3 => if (z3 30 3) = 0 then if (z3 30 5) = 0 then (fn_MOD_handOut  z3).bind (fun z14 => fb_MOD_cycle_40  z14) else fb_MOD_cycle_40  z3 else fb_MOD_cycle_40  z3)))
def fb_MOD_run_34 : Nat → Int32 → Int32 → sg_T → Option (Int32 × sg_T)
  | 0, _, _, _ => none
  | n + 1, a1, a2, σ => if (σ 30 9) = 0 then if a1 ≤ a2 then some (a2, σ) else (fn_MOD_goes  σ).bind (fun z4 => if z4.1 = 0 then some (a2, z4.2) else (fn_MOD_cycle  z4.2).bind (fun z6 => fb_MOD_run_34 n a1 (a2 + (1 : Int32)) z6)) else some (a2, σ)
def fb_MOD_run_29 (a1 : Int32) (t0 : Int32) (σ : sg_T) : Option (Int32 × sg_T) := fb_MOD_run_34 302 a1 (0 : Int32) (sg_up σ 30 9 t0)
def fb_MOD_run_13 (a1 : Int32) (σ : sg_T) : Option (Int32 × sg_T) := fb_MOD_run_29 a1 (1 : Int32) σ
def fn_MOD_run (a1 : Int32) (σ : sg_T) : Option (Int32 × sg_T) := if a1 < (1 : Int32) then fb_MOD_run_13 a1 σ else if a1 ≤ (300 : Int32) then (fn_MOD_goes  σ).bind (fun z8 => if z8.1 = 0 then fb_MOD_run_29 a1 (2 : Int32) z8.2 else fb_MOD_run_29 a1 (0 : Int32) z8.2) else fb_MOD_run_13 a1 σ
def fn_MOD_floating (a1 : Int32) (σ : sg_T) : Option (Int32 × sg_T) := (fn_MOD_isRegister a1 (sg_up σ 30 9 (0 : Int32))).bind (fun z1 => if z1.1 = 0 then some ((0 : Int32), z1.2) else gt_d (ib_I a1 5) (some (z1.2 36 (tn_I a1), z1.2)))
def fn_MOD_general (a1 : Int32) (σ : sg_T) : Option (Int32 × sg_T) := (fn_MOD_isRegister a1 (sg_up σ 30 9 (0 : Int32))).bind (fun z1 => if z1.1 = 0 then some ((0 : Int32), z1.2) else gt_d (ib_I a1 4) (some (z1.2 38 (tn_I a1), z1.2)))
def fn_MOD_word (a1 : Int32) (σ : sg_T) : Option (Int32 × sg_T) := (fn_MOD_isPlace a1 (sg_up σ 30 9 (0 : Int32))).bind (fun z1 => if z1.1 = 0 then some ((0 : Int32), z1.2) else gt_d (ib_I a1 32) (some (z1.2 39 (tn_I a1), z1.2)))
def fn_MOD_tag (a1 : Int32) (σ : sg_T) : Option (Int32 × sg_T) := if a1 < 0 then some ((-1 : Int32), sg_up σ 30 9 (0 : Int32)) else if (4 : Int32) < a1 then some ((-1 : Int32), sg_up σ 30 9 (0 : Int32)) else gt_d (ib_I a1 5) (some ((sg_up σ 30 9 (0 : Int32)) 37 (tn_I a1), sg_up σ 30 9 (0 : Int32)))
def fn_MOD_place (a1 : Int32) (σ : sg_T) : Option (Int32 × sg_T) := if a1 < (1 : Int32) then some ((-1 : Int32), sg_up σ 30 9 (0 : Int32)) else if (12 : Int32) < a1 then some ((-1 : Int32), sg_up σ 30 9 (0 : Int32)) else gt_d (ib_I a1 13) (some ((sg_up σ 30 9 (0 : Int32)) 40 (tn_I a1), sg_up σ 30 9 (0 : Int32)))
def fn_MOD_about (a1 : Int32) (σ : sg_T) : Option (Int32 × sg_T) := if a1 = 0 then some ((sg_up σ 30 9 (0 : Int32)) 30 3, sg_up σ 30 9 (0 : Int32)) else if a1 = 1 then some ((sg_up σ 30 9 (0 : Int32)) 30 4, sg_up σ 30 9 (0 : Int32)) else if a1 = 2 then some ((sg_up σ 30 9 (0 : Int32)) 30 5, sg_up σ 30 9 (0 : Int32)) else if a1 = 3 then gt_d (ib_I (4 : Int32) 5) (some ((sg_up σ 30 9 (0 : Int32)) 36 (tn_I (4 : Int32)), sg_up σ 30 9 (0 : Int32))) else if a1 = 4 then some ((sg_up σ 30 9 (0 : Int32)) 30 6, sg_up σ 30 9 (0 : Int32)) else if a1 = 5 then some ((sg_up σ 30 9 (0 : Int32)) 30 7, sg_up σ 30 9 (0 : Int32)) else if a1 = 6 then some ((sg_up σ 30 9 (0 : Int32)) 30 2, sg_up σ 30 9 (0 : Int32)) else some ((-1 : Int32), sg_up σ 30 9 (0 : Int32))
section MT
variable {p : Program} {l : Launch} {e : Env} {s : State} {m : MethodId} {args : Array Value} {below : List Frame} {meth : Method} {c : Code} {x : cx_T}
set_option maxRecDepth 100000 in
set_option maxHeartbeats 4000000 in
theorem bk_MOD_free_27 {z : Int32 × sg_T} (F : fx_F p s m args meth c nC_MOD_free 5 (some .int) nR_MOD) (kL5 : Int32 → Int32 → Int32 → sg_T → Option (Int32 × sg_T)) (ih5 : ∀ (a1 : Int32) (a3 : Int32) (a4 : Int32) (σ : sg_T) (H : Heap) (locs : List Loc) (ls : Array Slot), ww_P x s H locs σ → lv_has ls 5 [(0, .ref (x.2.2 82)), (1, .int a1), (3, .int a3), (4, .int a4)] → kL5 a1 a3 a4 σ = some z → W p l e (rm_D 0) s m args below meth c H locs 0 0 (qi_Q x s below args z.1 z.2) (F0 m 5 ls [])) (a1 : Int32) (a4 : Int32) (t0 : Int32) {σ : sg_T} {H : Heap} {locs : List Loc} {ls : Array Slot} (hw : ww_P x s H locs σ) (hl : lv_has ls 5 [(0, .ref (x.2.2 82)), (1, .int a1), (4, .int a4)]) (hf : fb_MOD_free_27 kL5 a1 a4 t0 σ = some z) : W p l e (rm_D 0) s m args below meth c H locs 0 0 (qi_Q x s below args z.1 z.2) (F0 m 27 ls [.int t0]) := by
  have F9 := F
  obtain ⟨hx, hb, hml, hr, hlk, hown, hT⟩ := F
  unfold fb_MOD_free_27 at hf
  refine lv_istore_n (lv' := [(3, .int t0), (0, .ref (x.2.2 82)), (1, .int a1), (4, .int a4)]) hx hb nD_MOD_free_27 rfl hl (by decide) rfl (fun ls hl => ?_)
  refine lv_iinc (k := 3) (v := a4 + (-1)) (lv' := [(4, .int (a4 + (-1))), (3, .int t0), (0, .ref (x.2.2 82)), (1, .int a1)]) hx hb nD_MOD_free_28 hl rfl (ic_m1 _) (by decide) rfl (fun ls hl => ?_)
  refine lv_goto (tgt := 5) hx hb nD_MOD_free_31 (by decide) ?_
  exact ih5 a1 t0 (a4 + (-1)) _ _ _ _  hw (lv_sub hl [2, 3, 1, 0] rfl) hf
set_option maxRecDepth 100000 in
set_option maxHeartbeats 4000000 in
theorem bk_MOD_free_5 {z : Int32 × sg_T} (F : fx_F p s m args meth c nC_MOD_free 5 (some .int) nR_MOD) : ∀ (n : Nat) (a1 : Int32) (a3 : Int32) (a4 : Int32) (σ : sg_T) (H : Heap) (locs : List Loc) (ls : Array Slot), ww_P x s H locs σ → lv_has ls 5 [(0, .ref (x.2.2 82)), (1, .int a1), (3, .int a3), (4, .int a4)] → fb_MOD_free_5 n a1 a3 a4 σ = some z → W p l e (rm_D 0) s m args below meth c H locs 0 0 (qi_Q x s below args z.1 z.2) (F0 m 5 ls []) := by
  have F9 := F
  obtain ⟨hx, hb, hml, hr, hlk, hown, hT⟩ := F
  intro n
  induction n with
  | zero =>
    intro a1 a3 a4 σ H locs ls  hw hl hf
    simp [fb_MOD_free_5] at hf
  | succ n ih =>
    intro a1 a3 a4 σ H locs ls  hw hl hf
    unfold fb_MOD_free_5 at hf
    refine lv_iload hx hb nD_MOD_free_5 (lv_at hl 3 rfl) ?_
    refine lv_iload_n hx hb nD_MOD_free_7 rfl (lv_at hl 1 rfl) ?_
    refine lv_icmp_lt (tgt := 34) hx hb nD_MOD_free_8 (by decide) (fun h1 => ?_) (fun h1 => ?_)
    · rw [if_pos h1] at hf
      refine lv_iload_n hx hb nD_MOD_free_34 rfl (lv_at hl 2 rfl) ?_
      exact rt_i F9 hw rfl nD_MOD_free_35 hf
    · rw [if_neg h1] at hf
      refine lv_aload_n hx hb nD_MOD_free_11 rfl (lv_at hl 0 rfl) ?_
      refine rd_MOD_MOD_place F9 hw nD_MOD_free_12 ?_
      refine lv_iload hx hb nD_MOD_free_15 (lv_at hl 3 rfl) ?_
      obtain ⟨g2, hf⟩ := gt_of hf
      refine al_m_place F9 hw g2 nD_MOD_free_17 ?_
      refine lv_if_ne (tgt := 26) hx hb nD_MOD_free_18 (by decide) (fun h3 => ?_) (fun h3 => ?_)
      · rw [if_neg h3] at hf
        refine lv_iload_n hx hb nD_MOD_free_26 rfl (lv_at hl 2 rfl) ?_
        exact bk_MOD_free_27 F9 (fb_MOD_free_5 n) ih a1 a4 a3  hw (lv_sub hl [0, 1, 3] rfl) hf
      · rw [if_pos h3] at hf
        refine lv_iload hx hb nD_MOD_free_21 (lv_at hl 3 rfl) ?_
        refine lv_goto (tgt := 27) hx hb nD_MOD_free_23 (by decide) ?_
        exact bk_MOD_free_27 F9 (fb_MOD_free_5 n) ih a1 a4 a4  hw (lv_sub hl [0, 1, 3] rfl) hf
set_option maxRecDepth 100000 in
set_option maxHeartbeats 4000000 in
theorem ct_MOD_free (l : Launch) (x : cx_T) (a1 : Int32) (a2 : Int32) (σ : sg_T) (z : Int32 × sg_T) (hf : fn_MOD_free a1 a2 σ = some z) : ct_i l nN_MOD_free nC_MOD_free 5 (some .int) 0 x [.ref (x.2.2 82), .int a1, .int a2] σ z.1 z.2 := by
  refine en_i (own := nR_MOD) (by decide) (Nat.le_of_ble_eq_true rfl) rfl ?_
  intro p e s m below meth c ls F hw hl
  have F9 := F
  obtain ⟨hx, hb, hml, hr, hlk, hown, hT⟩ := F
  have hl : lv_has ls 5 [(0, .ref (x.2.2 82)), (1, .int a1), (2, .int a2)] := hl
  unfold fn_MOD_free at hf
  refine lv_iconst (v := 0) hx hb nD_MOD_free_0 (by decide) ?_
  refine lv_istore_n (lv' := [(3, .int (0 : Int32)), (0, .ref (x.2.2 82)), (1, .int a1), (2, .int a2)]) hx hb nD_MOD_free_1 rfl hl (by decide) rfl (fun ls hl => ?_)
  refine lv_iload_n hx hb nD_MOD_free_2 rfl (lv_at hl 3 rfl) ?_
  refine lv_istore (lv' := [(4, .int a2), (3, .int (0 : Int32)), (0, .ref (x.2.2 82)), (1, .int a1), (2, .int a2)]) hx hb nD_MOD_free_3 hl (by decide) rfl (fun ls hl => ?_)
  exact bk_MOD_free_5 F9 14 a1 (0 : Int32) a2 _ _ _ _  hw (lv_sub hl [2, 3, 1, 0] rfl) hf
set_option maxRecDepth 100000 in
set_option maxHeartbeats 4000000 in
theorem bk_MOD_storing_39 {z : Int32 × sg_T} (F : fx_F p s m args meth c nC_MOD_storing 4 (some .boolean) nR_MOD) (kL5 : Int32 → Int32 → Int32 → sg_T → Option (Int32 × sg_T)) (ih5 : ∀ (a1 : Int32) (a2 : Int32) (a3 : Int32) (σ : sg_T) (H : Heap) (locs : List Loc) (ls : Array Slot), ww_P x s H locs σ → lv_has ls 4 [(0, .ref (x.2.2 82)), (1, .int a1), (2, .int a2), (3, .int a3)] → kL5 a1 a2 a3 σ = some z → W p l e (rm_D 0) s m args below meth c H locs 0 0 (qi_Q x s below args z.1 z.2) (F0 m 5 ls [])) (a1 : Int32) (a3 : Int32) (t0 : Int32) {σ : sg_T} {H : Heap} {locs : List Loc} {ls : Array Slot} (hw : ww_P x s H locs σ) (hl : lv_has ls 4 [(0, .ref (x.2.2 82)), (1, .int a1), (3, .int a3)]) (hf : fb_MOD_storing_39 kL5 a1 a3 t0 σ = some z) : W p l e (rm_D 0) s m args below meth c H locs 0 0 (qi_Q x s below args z.1 z.2) (F0 m 39 ls [.int t0]) := by
  have F9 := F
  obtain ⟨hx, hb, hml, hr, hlk, hown, hT⟩ := F
  unfold fb_MOD_storing_39 at hf
  refine lv_istore_n (lv' := [(2, .int t0), (0, .ref (x.2.2 82)), (1, .int a1), (3, .int a3)]) hx hb nD_MOD_storing_39 rfl hl (by decide) rfl (fun ls hl => ?_)
  refine lv_iinc (k := 3) (v := a3 + (1 : Int32)) (lv' := [(3, .int (a3 + (1 : Int32))), (2, .int t0), (0, .ref (x.2.2 82)), (1, .int a1)]) hx hb nD_MOD_storing_40 hl rfl (ic_p1 _) (by decide) rfl (fun ls hl => ?_)
  refine lv_goto (tgt := 5) hx hb nD_MOD_storing_43 (by decide) ?_
  exact ih5 a1 t0 (a3 + (1 : Int32)) _ _ _ _  hw (lv_sub hl [2, 3, 1, 0] rfl) hf
set_option maxRecDepth 100000 in
set_option maxHeartbeats 4000000 in
theorem bk_MOD_storing_34 {z : Int32 × sg_T} (F : fx_F p s m args meth c nC_MOD_storing 4 (some .boolean) nR_MOD) (kL5 : Int32 → Int32 → Int32 → sg_T → Option (Int32 × sg_T)) (ih5 : ∀ (a1 : Int32) (a2 : Int32) (a3 : Int32) (σ : sg_T) (H : Heap) (locs : List Loc) (ls : Array Slot), ww_P x s H locs σ → lv_has ls 4 [(0, .ref (x.2.2 82)), (1, .int a1), (2, .int a2), (3, .int a3)] → kL5 a1 a2 a3 σ = some z → W p l e (rm_D 0) s m args below meth c H locs 0 0 (qi_Q x s below args z.1 z.2) (F0 m 5 ls [])) (a1 : Int32) (a3 : Int32) {σ : sg_T} {H : Heap} {locs : List Loc} {ls : Array Slot} (hw : ww_P x s H locs σ) (hl : lv_has ls 4 [(0, .ref (x.2.2 82)), (1, .int a1), (3, .int a3)]) (hf : fb_MOD_storing_34 kL5 a1 a3 σ = some z) : W p l e (rm_D 0) s m args below meth c H locs 0 0 (qi_Q x s below args z.1 z.2) (F0 m 34 ls []) := by
  have F9 := F
  obtain ⟨hx, hb, hml, hr, hlk, hown, hT⟩ := F
  unfold fb_MOD_storing_34 at hf
  refine lv_iconst (v := 1) hx hb nD_MOD_storing_34 (by decide) ?_
  refine lv_goto (tgt := 39) hx hb nD_MOD_storing_35 (by decide) ?_
  exact bk_MOD_storing_39 F9 kL5 ih5 a1 a3 (1 : Int32)  hw (lv_sub hl [0, 1, 2] rfl) hf
set_option maxRecDepth 100000 in
set_option maxHeartbeats 4000000 in
theorem bk_MOD_storing_38 {z : Int32 × sg_T} (F : fx_F p s m args meth c nC_MOD_storing 4 (some .boolean) nR_MOD) (kL5 : Int32 → Int32 → Int32 → sg_T → Option (Int32 × sg_T)) (ih5 : ∀ (a1 : Int32) (a2 : Int32) (a3 : Int32) (σ : sg_T) (H : Heap) (locs : List Loc) (ls : Array Slot), ww_P x s H locs σ → lv_has ls 4 [(0, .ref (x.2.2 82)), (1, .int a1), (2, .int a2), (3, .int a3)] → kL5 a1 a2 a3 σ = some z → W p l e (rm_D 0) s m args below meth c H locs 0 0 (qi_Q x s below args z.1 z.2) (F0 m 5 ls [])) (a1 : Int32) (a3 : Int32) {σ : sg_T} {H : Heap} {locs : List Loc} {ls : Array Slot} (hw : ww_P x s H locs σ) (hl : lv_has ls 4 [(0, .ref (x.2.2 82)), (1, .int a1), (3, .int a3)]) (hf : fb_MOD_storing_38 kL5 a1 a3 σ = some z) : W p l e (rm_D 0) s m args below meth c H locs 0 0 (qi_Q x s below args z.1 z.2) (F0 m 38 ls []) := by
  have F9 := F
  obtain ⟨hx, hb, hml, hr, hlk, hown, hT⟩ := F
  unfold fb_MOD_storing_38 at hf
  refine lv_iconst (v := 0) hx hb nD_MOD_storing_38 (by decide) ?_
  exact bk_MOD_storing_39 F9 kL5 ih5 a1 a3 (0 : Int32)  hw (lv_sub hl [0, 1, 2] rfl) hf
set_option maxRecDepth 100000 in
set_option maxHeartbeats 4000000 in
theorem bk_MOD_storing_5 {z : Int32 × sg_T} (F : fx_F p s m args meth c nC_MOD_storing 4 (some .boolean) nR_MOD) : ∀ (n : Nat) (a1 : Int32) (a2 : Int32) (a3 : Int32) (σ : sg_T) (H : Heap) (locs : List Loc) (ls : Array Slot), ww_P x s H locs σ → lv_has ls 4 [(0, .ref (x.2.2 82)), (1, .int a1), (2, .int a2), (3, .int a3)] → fb_MOD_storing_5 n a1 a2 a3 σ = some z → W p l e (rm_D 0) s m args below meth c H locs 0 0 (qi_Q x s below args z.1 z.2) (F0 m 5 ls []) := by
  have F9 := F
  obtain ⟨hx, hb, hml, hr, hlk, hown, hT⟩ := F
  intro n
  induction n with
  | zero =>
    intro a1 a2 a3 σ H locs ls  hw hl hf
    simp [fb_MOD_storing_5] at hf
  | succ n ih =>
    intro a1 a2 a3 σ H locs ls  hw hl hf
    unfold fb_MOD_storing_5 at hf
    refine lv_iload_n hx hb nD_MOD_storing_5 rfl (lv_at hl 3 rfl) ?_
    refine lv_bipush (v := 13) hx hb nD_MOD_storing_6 (by decide) ?_
    refine lv_icmp_ge (tgt := 46) hx hb nD_MOD_storing_8 (by decide) (fun h1 => ?_) (fun h1 => ?_)
    · rw [if_pos h1] at hf
      refine lv_iload_n hx hb nD_MOD_storing_46 rfl (lv_at hl 2 rfl) ?_
      obtain ⟨g2, hf⟩ := gt_of hf
      exact rt_i F9 hw (nb_01 g2) nD_MOD_storing_47 hf
    · rw [if_neg h1] at hf
      refine lv_iload_n hx hb nD_MOD_storing_11 rfl (lv_at hl 2 rfl) ?_
      refine lv_if_ne (tgt := 34) hx hb nD_MOD_storing_12 (by decide) (fun h3 => ?_) (fun h3 => ?_)
      · rw [if_neg h3] at hf
        exact bk_MOD_storing_34 F9 (fb_MOD_storing_5 n) ih a1 a3  hw (lv_sub hl [0, 1, 3] rfl) hf
      · rw [if_pos h3] at hf
        refine lv_aload_n hx hb nD_MOD_storing_15 rfl (lv_at hl 0 rfl) ?_
        refine rd_MOD_MOD_place F9 hw nD_MOD_storing_16 ?_
        refine lv_iload_n hx hb nD_MOD_storing_19 rfl (lv_at hl 3 rfl) ?_
        obtain ⟨g4, hf⟩ := gt_of hf
        refine al_m_place F9 hw g4 nD_MOD_storing_20 ?_
        refine lv_if_le (tgt := 38) hx hb nD_MOD_storing_21 (by decide) (fun h5 => ?_) (fun h5 => ?_)
        · rw [if_pos h5] at hf
          exact bk_MOD_storing_38 F9 (fb_MOD_storing_5 n) ih a1 a3  hw (lv_sub hl [0, 1, 3] rfl) hf
        · rw [if_neg h5] at hf
          refine lv_aload_n hx hb nD_MOD_storing_24 rfl (lv_at hl 0 rfl) ?_
          refine rd_MOD_MOD_where F9 hw nD_MOD_storing_25 ?_
          refine lv_iload_n hx hb nD_MOD_storing_28 rfl (lv_at hl 3 rfl) ?_
          obtain ⟨g6, hf⟩ := gt_of hf
          refine al_m_where F9 hw g6 nD_MOD_storing_29 ?_
          refine lv_iload_n hx hb nD_MOD_storing_30 rfl (lv_at hl 1 rfl) ?_
          refine lv_icmp_ne (tgt := 38) hx hb nD_MOD_storing_31 (by decide) (fun h7 => ?_) (fun h7 => ?_)
          · rw [if_neg h7] at hf
            exact bk_MOD_storing_38 F9 (fb_MOD_storing_5 n) ih a1 a3  hw (lv_sub hl [0, 1, 3] rfl) hf
          · rw [if_pos h7] at hf
            exact bk_MOD_storing_34 F9 (fb_MOD_storing_5 n) ih a1 a3  hw (lv_sub hl [0, 1, 3] rfl) hf
set_option maxRecDepth 100000 in
set_option maxHeartbeats 4000000 in
theorem ct_MOD_storing (l : Launch) (x : cx_T) (a1 : Int32) (σ : sg_T) (z : Int32 × sg_T) (hf : fn_MOD_storing a1 σ = some z) : ct_i l nN_MOD_storing nC_MOD_storing 4 (some .boolean) 0 x [.ref (x.2.2 82), .int a1] σ z.1 z.2 := by
  refine en_i (own := nR_MOD) (by decide) (Nat.le_of_ble_eq_true rfl) rfl ?_
  intro p e s m below meth c ls F hw hl
  have F9 := F
  obtain ⟨hx, hb, hml, hr, hlk, hown, hT⟩ := F
  have hl : lv_has ls 4 [(0, .ref (x.2.2 82)), (1, .int a1)] := hl
  unfold fn_MOD_storing at hf
  refine lv_iconst (v := 0) hx hb nD_MOD_storing_0 (by decide) ?_
  refine lv_istore_n (lv' := [(2, .int (0 : Int32)), (0, .ref (x.2.2 82)), (1, .int a1)]) hx hb nD_MOD_storing_1 rfl hl (by decide) rfl (fun ls hl => ?_)
  refine lv_bipush (v := 10) hx hb nD_MOD_storing_2 (by decide) ?_
  refine lv_istore_n (lv' := [(3, .int (10 : Int32)), (2, .int (0 : Int32)), (0, .ref (x.2.2 82)), (1, .int a1)]) hx hb nD_MOD_storing_4 rfl hl (by decide) rfl (fun ls hl => ?_)
  exact bk_MOD_storing_5 F9 14 a1 (0 : Int32) (10 : Int32) _ _ _ _  hw (lv_sub hl [2, 3, 1, 0] rfl) hf
set_option maxRecDepth 100000 in
set_option maxHeartbeats 4000000 in
theorem ct_MOD_take (l : Launch) (x : cx_T) (a1 : Int32) (a2 : Int32) (a3 : Int32) (a4 : Int32) (σ : sg_T) (z : sg_T) (hf : fn_MOD_take a1 a2 a3 a4 σ = some z) : ct_v l nN_MOD_take nC_MOD_take 5 0 x [.ref (x.2.2 82), .int a1, .int a2, .int a3, .int a4] σ z := by
  refine en_v (own := nR_MOD) (by decide) (Nat.le_of_ble_eq_true rfl) rfl ?_
  intro p e s m below meth c ls F hw hl
  have F9 := F
  obtain ⟨hx, hb, hml, hr, hlk, hown, hT⟩ := F
  have hl : lv_has ls 5 [(0, .ref (x.2.2 82)), (1, .int a1), (2, .int a2), (3, .int a3), (4, .int a4)] := hl
  unfold fn_MOD_take at hf
  refine lv_aload_n hx hb nD_MOD_take_0 rfl (lv_at hl 0 rfl) ?_
  refine rd_MOD_MOD_place F9 hw nD_MOD_take_1 ?_
  refine lv_iload_n hx hb nD_MOD_take_4 rfl (lv_at hl 1 rfl) ?_
  refine lv_iconst (v := 1) hx hb nD_MOD_take_5 (by decide) ?_
  obtain ⟨g1, hf⟩ := gt_of hf
  refine as_m_place F9 hw g1 nD_MOD_take_6 (fun H locs hw => ?_)
  refine lv_aload_n hx hb nD_MOD_take_7 rfl (lv_at hl 0 rfl) ?_
  refine rd_MOD_MOD_what F9 hw nD_MOD_take_8 ?_
  refine lv_iload_n hx hb nD_MOD_take_11 rfl (lv_at hl 1 rfl) ?_
  refine lv_iload_n hx hb nD_MOD_take_12 rfl (lv_at hl 2 rfl) ?_
  obtain ⟨g2, hf⟩ := gt_of hf
  refine as_m_what F9 hw g2 nD_MOD_take_13 (fun H locs hw => ?_)
  refine lv_aload_n hx hb nD_MOD_take_14 rfl (lv_at hl 0 rfl) ?_
  refine rd_MOD_MOD_operand F9 hw nD_MOD_take_15 ?_
  refine lv_iconst (v := 2) hx hb nD_MOD_take_18 (by decide) ?_
  refine lv_iload_n hx hb nD_MOD_take_19 rfl (lv_at hl 1 rfl) ?_
  refine lv_imul hx hb nD_MOD_take_20 ?_
  refine lv_aload_n hx hb nD_MOD_take_21 rfl (lv_at hl 0 rfl) ?_
  refine rd_MOD_MOD_value F9 hw nD_MOD_take_22 ?_
  refine lv_iload_n hx hb nD_MOD_take_25 rfl (lv_at hl 3 rfl) ?_
  obtain ⟨g3, hf⟩ := gt_of hf
  refine al_m_value F9 hw g3 nD_MOD_take_26 ?_
  obtain ⟨g4, hf⟩ := gt_of hf
  refine as_m_operand F9 hw g4 nD_MOD_take_27 (fun H locs hw => ?_)
  refine lv_aload_n hx hb nD_MOD_take_28 rfl (lv_at hl 0 rfl) ?_
  refine rd_MOD_MOD_tag F9 hw nD_MOD_take_29 ?_
  refine lv_iconst (v := 2) hx hb nD_MOD_take_32 (by decide) ?_
  refine lv_iload_n hx hb nD_MOD_take_33 rfl (lv_at hl 1 rfl) ?_
  refine lv_imul hx hb nD_MOD_take_34 ?_
  refine lv_aload_n hx hb nD_MOD_take_35 rfl (lv_at hl 0 rfl) ?_
  refine rd_MOD_MOD_waits F9 hw nD_MOD_take_36 ?_
  refine lv_iload_n hx hb nD_MOD_take_39 rfl (lv_at hl 3 rfl) ?_
  obtain ⟨g5, hf⟩ := gt_of hf
  refine al_m_waits F9 hw g5 nD_MOD_take_40 ?_
  obtain ⟨g6, hf⟩ := gt_of hf
  refine as_m_tag F9 hw g6 nD_MOD_take_41 (fun H locs hw => ?_)
  refine lv_aload_n hx hb nD_MOD_take_42 rfl (lv_at hl 0 rfl) ?_
  refine rd_MOD_MOD_operand F9 hw nD_MOD_take_43 ?_
  refine lv_iconst (v := 2) hx hb nD_MOD_take_46 (by decide) ?_
  refine lv_iload_n hx hb nD_MOD_take_47 rfl (lv_at hl 1 rfl) ?_
  refine lv_imul hx hb nD_MOD_take_48 ?_
  refine lv_iconst (v := 1) hx hb nD_MOD_take_49 (by decide) ?_
  refine lv_iadd hx hb nD_MOD_take_50 ?_
  refine lv_aload_n hx hb nD_MOD_take_51 rfl (lv_at hl 0 rfl) ?_
  refine rd_MOD_MOD_value F9 hw nD_MOD_take_52 ?_
  refine lv_iload hx hb nD_MOD_take_55 (lv_at hl 4 rfl) ?_
  obtain ⟨g7, hf⟩ := gt_of hf
  refine al_m_value F9 hw g7 nD_MOD_take_57 ?_
  obtain ⟨g8, hf⟩ := gt_of hf
  refine as_m_operand F9 hw g8 nD_MOD_take_58 (fun H locs hw => ?_)
  refine lv_aload_n hx hb nD_MOD_take_59 rfl (lv_at hl 0 rfl) ?_
  refine rd_MOD_MOD_tag F9 hw nD_MOD_take_60 ?_
  refine lv_iconst (v := 2) hx hb nD_MOD_take_63 (by decide) ?_
  refine lv_iload_n hx hb nD_MOD_take_64 rfl (lv_at hl 1 rfl) ?_
  refine lv_imul hx hb nD_MOD_take_65 ?_
  refine lv_iconst (v := 1) hx hb nD_MOD_take_66 (by decide) ?_
  refine lv_iadd hx hb nD_MOD_take_67 ?_
  refine lv_aload_n hx hb nD_MOD_take_68 rfl (lv_at hl 0 rfl) ?_
  refine rd_MOD_MOD_waits F9 hw nD_MOD_take_69 ?_
  refine lv_iload hx hb nD_MOD_take_72 (lv_at hl 4 rfl) ?_
  obtain ⟨g9, hf⟩ := gt_of hf
  refine al_m_waits F9 hw g9 nD_MOD_take_74 ?_
  obtain ⟨g10, hf⟩ := gt_of hf
  refine as_m_tag F9 hw g10 nD_MOD_take_75 (fun H locs hw => ?_)
  refine lv_aload_n hx hb nD_MOD_take_76 rfl (lv_at hl 0 rfl) ?_
  refine rd_MOD_MOD_order F9 hw nD_MOD_take_77 ?_
  refine lv_iload_n hx hb nD_MOD_take_80 rfl (lv_at hl 1 rfl) ?_
  refine lv_aload_n hx hb nD_MOD_take_81 rfl (lv_at hl 0 rfl) ?_
  refine rd_MOD_MOD_handed F9 hw nD_MOD_take_82 ?_
  obtain ⟨g11, hf⟩ := gt_of hf
  refine as_m_order F9 hw g11 nD_MOD_take_85 (fun H locs hw => ?_)
  exact rt_v F9 hw nD_MOD_take_86 hf
set_option maxRecDepth 100000 in
set_option maxHeartbeats 4000000 in
theorem bk_MOD_storage_67 {z : Int32 × sg_T} (F : fx_F p s m args meth c nC_MOD_storage 4 (some .boolean) nR_MOD) (a1 : Int32) (a2 : Int32) (t0 : Int32) {σ : sg_T} {H : Heap} {locs : List Loc} {ls : Array Slot} (hw : ww_P x s H locs σ) (hl : lv_has ls 4 [(0, .ref (x.2.2 82)), (1, .int a1), (2, .int a2)]) (hf : fb_MOD_storage_67 a1 a2 t0 σ = some z) : W p l e (rm_D 1) s m args below meth c H locs 0 0 (qi_Q x s below args z.1 z.2) (F0 m 67 ls [.int t0]) := by
  have F9 := F
  obtain ⟨hx, hb, hml, hr, hlk, hown, hT⟩ := F
  unfold fb_MOD_storage_67 at hf
  refine lv_istore_n (lv' := [(3, .int t0), (0, .ref (x.2.2 82)), (1, .int a1), (2, .int a2)]) hx hb nD_MOD_storage_67 rfl hl (by decide) rfl (fun ls hl => ?_)
  refine lv_iload_n hx hb nD_MOD_storage_68 rfl (lv_at hl 0 rfl) ?_
  refine lv_if_eq (tgt := 80) hx hb nD_MOD_storage_69 (by decide) (fun h9 => ?_) (fun h9 => ?_)
  · rw [if_pos h9] at hf
    refine lv_iconst (v := 0) hx hb nD_MOD_storage_80 (by decide) ?_
    exact rt_i F9 hw rfl nD_MOD_storage_81 hf
  · rw [if_neg h9] at hf
    refine lv_aload_n hx hb nD_MOD_storage_72 rfl (lv_at hl 1 rfl) ?_
    refine lv_iload_n hx hb nD_MOD_storage_73 rfl (lv_at hl 3 rfl) ?_
    obtain ⟨z10, hz10, hf⟩ := bd_of hf
    refine cl_vi (As := [.int a2]) (rest := []) F9 hw (ct_MOD_storing l x a2  _ _ hz10) (rc_MOD ) wc_MOD_184 hd_MOD_storing (by decide) hl rfl (Nat.le_of_ble_eq_true rfl) nD_MOD_storage_74 (fun H locs hw => ?_)
    refine lv_if_eq (tgt := 82) hx hb nD_MOD_storage_77 (by decide) (fun h11 => ?_) (fun h11 => ?_)
    · rw [if_pos h11] at hf
      refine lv_aload_n hx hb nD_MOD_storage_82 rfl (lv_at hl 1 rfl) ?_
      refine lv_iload_n hx hb nD_MOD_storage_83 rfl (lv_at hl 0 rfl) ?_
      refine lv_aload_n hx hb nD_MOD_storage_84 rfl (lv_at hl 1 rfl) ?_
      refine rd_MOD_MOD_op F9 hw nD_MOD_storage_85 ?_
      refine lv_iload_n hx hb nD_MOD_storage_88 rfl (lv_at hl 2 rfl) ?_
      obtain ⟨g12, hf⟩ := gt_of hf
      refine al_m_op F9 hw g12 nD_MOD_storage_89 ?_
      refine lv_aload_n hx hb nD_MOD_storage_90 rfl (lv_at hl 1 rfl) ?_
      refine rd_MOD_MOD_rs F9 hw nD_MOD_storage_91 ?_
      refine lv_iload_n hx hb nD_MOD_storage_94 rfl (lv_at hl 2 rfl) ?_
      obtain ⟨g13, hf⟩ := gt_of hf
      refine al_m_rs F9 hw g13 nD_MOD_storage_95 ?_
      refine lv_aload_n hx hb nD_MOD_storage_96 rfl (lv_at hl 1 rfl) ?_
      refine rd_MOD_MOD_rs F9 hw nD_MOD_storage_97 ?_
      refine lv_iload_n hx hb nD_MOD_storage_100 rfl (lv_at hl 2 rfl) ?_
      obtain ⟨g14, hf⟩ := gt_of hf
      refine al_m_rs F9 hw g14 nD_MOD_storage_101 ?_
      obtain ⟨z15, hz15, hf⟩ := bd_of hf
      refine cl_vv (As := [.int t0, .int (z10.2 31 (tn_I a1)), .int (z10.2 32 (tn_I a1)), .int (z10.2 32 (tn_I a1))]) (rest := []) F9 hw (ct_MOD_take l x t0 (z10.2 31 (tn_I a1)) (z10.2 32 (tn_I a1)) (z10.2 32 (tn_I a1))  _ _ hz15) (rc_MOD ) wc_MOD_187 hd_MOD_take (by decide) hl rfl (Nat.le_of_ble_eq_true rfl) nD_MOD_storage_102 (fun H locs hw => ?_)
      refine lv_aload_n hx hb nD_MOD_storage_105 rfl (lv_at hl 1 rfl) ?_
      refine rd_MOD_MOD_where F9 hw nD_MOD_storage_106 ?_
      refine lv_iload_n hx hb nD_MOD_storage_109 rfl (lv_at hl 0 rfl) ?_
      refine lv_iload_n hx hb nD_MOD_storage_110 rfl (lv_at hl 3 rfl) ?_
      obtain ⟨g16, hf⟩ := gt_of hf
      refine as_m_where F9 hw g16 nD_MOD_storage_111 (fun H locs hw => ?_)
      refine lv_aload_n hx hb nD_MOD_storage_112 rfl (lv_at hl 1 rfl) ?_
      refine rd_MOD_MOD_op F9 hw nD_MOD_storage_113 ?_
      refine lv_iload_n hx hb nD_MOD_storage_116 rfl (lv_at hl 2 rfl) ?_
      obtain ⟨g17, hf⟩ := gt_of hf
      refine al_m_op F9 hw g17 nD_MOD_storage_117 ?_
      refine lv_if_ne (tgt := 153) hx hb nD_MOD_storage_118 (by decide) (fun h18 => ?_) (fun h18 => ?_)
      · rw [if_neg h18] at hf
        refine lv_iconst (v := 1) hx hb nD_MOD_storage_153 (by decide) ?_
        exact rt_i F9 hw rfl nD_MOD_storage_154 hf
      · rw [if_pos h18] at hf
        refine lv_aload_n hx hb nD_MOD_storage_121 rfl (lv_at hl 1 rfl) ?_
        refine rd_MOD_MOD_tag F9 hw nD_MOD_storage_122 ?_
        refine lv_iconst (v := 2) hx hb nD_MOD_storage_125 (by decide) ?_
        refine lv_iload_n hx hb nD_MOD_storage_126 rfl (lv_at hl 0 rfl) ?_
        refine lv_imul hx hb nD_MOD_storage_127 ?_
        refine lv_iconst (v := 0) hx hb nD_MOD_storage_128 (by decide) ?_
        obtain ⟨g19, hf⟩ := gt_of hf
        refine as_m_tag F9 hw g19 nD_MOD_storage_129 (fun H locs hw => ?_)
        refine lv_aload_n hx hb nD_MOD_storage_130 rfl (lv_at hl 1 rfl) ?_
        refine rd_MOD_MOD_tag F9 hw nD_MOD_storage_131 ?_
        refine lv_iconst (v := 2) hx hb nD_MOD_storage_134 (by decide) ?_
        refine lv_iload_n hx hb nD_MOD_storage_135 rfl (lv_at hl 0 rfl) ?_
        refine lv_imul hx hb nD_MOD_storage_136 ?_
        refine lv_iconst (v := 1) hx hb nD_MOD_storage_137 (by decide) ?_
        refine lv_iadd hx hb nD_MOD_storage_138 ?_
        refine lv_iconst (v := 0) hx hb nD_MOD_storage_139 (by decide) ?_
        obtain ⟨g20, hf⟩ := gt_of hf
        refine as_m_tag F9 hw g20 nD_MOD_storage_140 (fun H locs hw => ?_)
        refine lv_aload_n hx hb nD_MOD_storage_141 rfl (lv_at hl 1 rfl) ?_
        refine rd_MOD_MOD_waits F9 hw nD_MOD_storage_142 ?_
        refine lv_aload_n hx hb nD_MOD_storage_145 rfl (lv_at hl 1 rfl) ?_
        refine rd_MOD_MOD_rs F9 hw nD_MOD_storage_146 ?_
        refine lv_iload_n hx hb nD_MOD_storage_149 rfl (lv_at hl 2 rfl) ?_
        obtain ⟨g21, hf⟩ := gt_of hf
        refine al_m_rs F9 hw g21 nD_MOD_storage_150 ?_
        refine lv_iload_n hx hb nD_MOD_storage_151 rfl (lv_at hl 0 rfl) ?_
        obtain ⟨g22, hf⟩ := gt_of hf
        refine as_m_waits F9 hw g22 nD_MOD_storage_152 (fun H locs hw => ?_)
        refine lv_iconst (v := 1) hx hb nD_MOD_storage_153 (by decide) ?_
        exact rt_i F9 hw rfl nD_MOD_storage_154 hf
    · rw [if_neg h11] at hf
      refine lv_iconst (v := 0) hx hb nD_MOD_storage_80 (by decide) ?_
      exact rt_i F9 hw rfl nD_MOD_storage_81 hf
set_option maxRecDepth 100000 in
set_option maxHeartbeats 4000000 in
theorem ct_MOD_storage (l : Launch) (x : cx_T) (a1 : Int32) (σ : sg_T) (z : Int32 × sg_T) (hf : fn_MOD_storage a1 σ = some z) : ct_i l nN_MOD_storage nC_MOD_storage 4 (some .boolean) 1 x [.ref (x.2.2 82), .int a1] σ z.1 z.2 := by
  refine en_i (own := nR_MOD) (by decide) (Nat.le_of_ble_eq_true rfl) rfl ?_
  intro p e s m below meth c ls F hw hl
  have F9 := F
  obtain ⟨hx, hb, hml, hr, hlk, hown, hT⟩ := F
  have hl : lv_has ls 4 [(0, .ref (x.2.2 82)), (1, .int a1)] := hl
  unfold fn_MOD_storage at hf
  refine lv_aload_n hx hb nD_MOD_storage_0 rfl (lv_at hl 0 rfl) ?_
  refine rd_MOD_MOD_general F9 hw nD_MOD_storage_1 ?_
  refine lv_aload_n hx hb nD_MOD_storage_4 rfl (lv_at hl 0 rfl) ?_
  refine rd_MOD_MOD_bs F9 hw nD_MOD_storage_5 ?_
  refine lv_iload_n hx hb nD_MOD_storage_8 rfl (lv_at hl 1 rfl) ?_
  obtain ⟨g1, hf⟩ := gt_of hf
  refine al_m_bs F9 hw g1 nD_MOD_storage_9 ?_
  obtain ⟨g2, hf⟩ := gt_of hf
  refine al_m_general F9 hw g2 nD_MOD_storage_10 ?_
  refine lv_aload_n hx hb nD_MOD_storage_11 rfl (lv_at hl 0 rfl) ?_
  refine rd_MOD_MOD_ns F9 hw nD_MOD_storage_12 ?_
  refine lv_iload_n hx hb nD_MOD_storage_15 rfl (lv_at hl 1 rfl) ?_
  obtain ⟨g3, hf⟩ := gt_of hf
  refine al_m_ns F9 hw g3 nD_MOD_storage_16 ?_
  refine lv_iadd hx hb nD_MOD_storage_17 ?_
  refine lv_istore_n (lv' := [(2, .int ((σ 38 (tn_I (σ 34 (tn_I a1)))) + (σ 35 (tn_I a1)))), (0, .ref (x.2.2 82)), (1, .int a1)]) hx hb nD_MOD_storage_18 rfl hl (by decide) rfl (fun ls hl => ?_)
  refine lv_iload_n hx hb nD_MOD_storage_19 rfl (lv_at hl 0 rfl) ?_
  obtain ⟨z4, hz4, hf⟩ := bd_of hf
  refine cl_si (As := [.int ((σ 38 (tn_I (σ 34 (tn_I a1)))) + (σ 35 (tn_I a1)))]) (rest := []) F9 hw (ct_MOD_isPlace l x ((σ 38 (tn_I (σ 34 (tn_I a1)))) + (σ 35 (tn_I a1)))  _ _ hz4) wc_MOD_161 hd_MOD_isPlace (by decide) hl rfl (Nat.le_of_ble_eq_true rfl) nD_MOD_storage_20 (fun H locs hw => ?_)
  refine lv_if_ne (tgt := 39) hx hb nD_MOD_storage_23 (by decide) (fun h5 => ?_) (fun h5 => ?_)
  · rw [if_neg h5] at hf
    refine lv_aload_n hx hb nD_MOD_storage_39 rfl (lv_at hl 1 rfl) ?_
    refine rd_MOD_MOD_op F9 hw nD_MOD_storage_40 ?_
    refine lv_iload_n hx hb nD_MOD_storage_43 rfl (lv_at hl 2 rfl) ?_
    obtain ⟨g6, hf⟩ := gt_of hf
    refine al_m_op F9 hw g6 nD_MOD_storage_44 ?_
    refine lv_if_ne (tgt := 59) hx hb nD_MOD_storage_45 (by decide) (fun h7 => ?_) (fun h7 => ?_)
    · rw [if_neg h7] at hf
      refine lv_aload_n hx hb nD_MOD_storage_59 rfl (lv_at hl 1 rfl) ?_
      refine lv_bipush (v := 10) hx hb nD_MOD_storage_60 (by decide) ?_
      refine lv_bipush (v := 12) hx hb nD_MOD_storage_62 (by decide) ?_
      obtain ⟨z8, hz8, hf⟩ := bd_of hf
      refine cl_vi (As := [.int (10 : Int32), .int (12 : Int32)]) (rest := []) F9 hw (ct_MOD_free l x (10 : Int32) (12 : Int32)  _ _ hz8) (rc_MOD ) wc_MOD_181 hd_MOD_free (by decide) hl rfl (Nat.le_of_ble_eq_true rfl) nD_MOD_storage_64 (fun H locs hw => ?_)
      exact bk_MOD_storage_67 F9 a1 ((σ 38 (tn_I (σ 34 (tn_I a1)))) + (σ 35 (tn_I a1))) z8.1  hw (lv_sub hl [1, 2, 0] rfl) hf
    · rw [if_pos h7] at hf
      refine lv_aload_n hx hb nD_MOD_storage_48 rfl (lv_at hl 1 rfl) ?_
      refine lv_bipush (v := 6) hx hb nD_MOD_storage_49 (by decide) ?_
      refine lv_bipush (v := 9) hx hb nD_MOD_storage_51 (by decide) ?_
      obtain ⟨z23, hz23, hf⟩ := bd_of hf
      refine cl_vi (As := [.int (6 : Int32), .int (9 : Int32)]) (rest := []) F9 hw (ct_MOD_free l x (6 : Int32) (9 : Int32)  _ _ hz23) (rc_MOD ) wc_MOD_181 hd_MOD_free (by decide) hl rfl (Nat.le_of_ble_eq_true rfl) nD_MOD_storage_53 (fun H locs hw => ?_)
      refine lv_goto (tgt := 67) hx hb nD_MOD_storage_56 (by decide) ?_
      exact bk_MOD_storage_67 F9 a1 ((σ 38 (tn_I (σ 34 (tn_I a1)))) + (σ 35 (tn_I a1))) z23.1  hw (lv_sub hl [1, 2, 0] rfl) hf
  · rw [if_pos h5] at hf
    refine lv_aload_n hx hb nD_MOD_storage_26 rfl (lv_at hl 1 rfl) ?_
    refine lv_aload_n hx hb nD_MOD_storage_27 rfl (lv_at hl 1 rfl) ?_
    refine rd_MOD_MOD_noted F9 hw nD_MOD_storage_28 ?_
    refine lv_bipush (v := 8) hx hb nD_MOD_storage_31 (by decide) ?_
    refine lv_ior hx hb nD_MOD_storage_33 ?_
    refine wr_MOD_MOD_noted F9 hw nD_MOD_storage_34 (fun H locs hw => ?_)
    refine lv_iconst (v := 0) hx hb nD_MOD_storage_37 (by decide) ?_
    exact rt_i F9 hw rfl nD_MOD_storage_38 hf
set_option maxRecDepth 100000 in
set_option maxHeartbeats 4000000 in
theorem bk_MOD_reckoned_56 {z : Int32 × sg_T} (F : fx_F p s m args meth c nC_MOD_reckoned 4 (some .boolean) nR_MOD) (a1 : Int32) (t0 : Int32) {σ : sg_T} {H : Heap} {locs : List Loc} {ls : Array Slot} (hw : ww_P x s H locs σ) (hl : lv_has ls 4 [(0, .ref (x.2.2 82)), (1, .int a1)]) (hf : fb_MOD_reckoned_56 a1 t0 σ = some z) : W p l e (rm_D 1) s m args below meth c H locs 0 0 (qi_Q x s below args z.1 z.2) (F0 m 56 ls [.int t0]) := by
  have F9 := F
  obtain ⟨hx, hb, hml, hr, hlk, hown, hT⟩ := F
  unfold fb_MOD_reckoned_56 at hf
  refine lv_istore_n (lv' := [(3, .int t0), (0, .ref (x.2.2 82)), (1, .int a1)]) hx hb nD_MOD_reckoned_56 rfl hl (by decide) rfl (fun ls hl => ?_)
  refine lv_iload_n hx hb nD_MOD_reckoned_57 rfl (lv_at hl 0 rfl) ?_
  refine lv_if_ne (tgt := 63) hx hb nD_MOD_reckoned_58 (by decide) (fun h5 => ?_) (fun h5 => ?_)
  · rw [if_neg h5] at hf
    refine lv_aload_n hx hb nD_MOD_reckoned_63 rfl (lv_at hl 1 rfl) ?_
    refine lv_iload_n hx hb nD_MOD_reckoned_64 rfl (lv_at hl 0 rfl) ?_
    refine lv_aload_n hx hb nD_MOD_reckoned_65 rfl (lv_at hl 1 rfl) ?_
    refine rd_MOD_MOD_op F9 hw nD_MOD_reckoned_66 ?_
    refine lv_iload_n hx hb nD_MOD_reckoned_69 rfl (lv_at hl 2 rfl) ?_
    obtain ⟨g6, hf⟩ := gt_of hf
    refine al_m_op F9 hw g6 nD_MOD_reckoned_70 ?_
    refine lv_aload_n hx hb nD_MOD_reckoned_71 rfl (lv_at hl 1 rfl) ?_
    refine rd_MOD_MOD_rs F9 hw nD_MOD_reckoned_72 ?_
    refine lv_iload_n hx hb nD_MOD_reckoned_75 rfl (lv_at hl 2 rfl) ?_
    obtain ⟨g7, hf⟩ := gt_of hf
    refine al_m_rs F9 hw g7 nD_MOD_reckoned_76 ?_
    refine lv_aload_n hx hb nD_MOD_reckoned_77 rfl (lv_at hl 1 rfl) ?_
    refine rd_MOD_MOD_ss F9 hw nD_MOD_reckoned_78 ?_
    refine lv_iload_n hx hb nD_MOD_reckoned_81 rfl (lv_at hl 2 rfl) ?_
    obtain ⟨g8, hf⟩ := gt_of hf
    refine al_m_ss F9 hw g8 nD_MOD_reckoned_82 ?_
    obtain ⟨z9, hz9, hf⟩ := bd_of hf
    refine cl_vv (As := [.int t0, .int (σ 31 (tn_I a1)), .int (σ 32 (tn_I a1)), .int (σ 33 (tn_I a1))]) (rest := []) F9 hw (ct_MOD_take l x t0 (σ 31 (tn_I a1)) (σ 32 (tn_I a1)) (σ 33 (tn_I a1))  _ _ hz9) (rc_MOD ) wc_MOD_187 hd_MOD_take (by decide) hl rfl (Nat.le_of_ble_eq_true rfl) nD_MOD_reckoned_83 (fun H locs hw => ?_)
    refine lv_aload_n hx hb nD_MOD_reckoned_86 rfl (lv_at hl 1 rfl) ?_
    refine rd_MOD_MOD_waits F9 hw nD_MOD_reckoned_87 ?_
    refine lv_aload_n hx hb nD_MOD_reckoned_90 rfl (lv_at hl 1 rfl) ?_
    refine rd_MOD_MOD_op F9 hw nD_MOD_reckoned_91 ?_
    refine lv_iload_n hx hb nD_MOD_reckoned_94 rfl (lv_at hl 2 rfl) ?_
    obtain ⟨g10, hf⟩ := gt_of hf
    refine al_m_op F9 hw g10 nD_MOD_reckoned_95 ?_
    refine lv_bipush (v := 6) hx hb nD_MOD_reckoned_96 (by decide) ?_
    refine lv_icmp_ne (tgt := 105) hx hb nD_MOD_reckoned_98 (by decide) (fun h11 => ?_) (fun h11 => ?_)
    · rw [if_neg h11] at hf
      refine lv_aload_n hx hb nD_MOD_reckoned_105 rfl (lv_at hl 1 rfl) ?_
      refine rd_MOD_MOD_rs F9 hw nD_MOD_reckoned_106 ?_
      refine lv_iload_n hx hb nD_MOD_reckoned_109 rfl (lv_at hl 2 rfl) ?_
      obtain ⟨g12, hf⟩ := gt_of hf
      refine al_m_rs F9 hw g12 nD_MOD_reckoned_110 ?_
      refine lv_iload_n hx hb nD_MOD_reckoned_111 rfl (lv_at hl 0 rfl) ?_
      obtain ⟨g13, hf⟩ := gt_of hf
      refine as_m_waits F9 hw g13 nD_MOD_reckoned_112 (fun H locs hw => ?_)
      refine lv_iconst (v := 1) hx hb nD_MOD_reckoned_113 (by decide) ?_
      exact rt_i F9 hw rfl nD_MOD_reckoned_114 hf
    · rw [if_pos h11] at hf
      refine lv_iconst (v := 4) hx hb nD_MOD_reckoned_101 (by decide) ?_
      refine lv_goto (tgt := 111) hx hb nD_MOD_reckoned_102 (by decide) ?_
      refine lv_iload_n hx hb nD_MOD_reckoned_111 rfl (lv_at hl 0 rfl) ?_
      obtain ⟨g14, hf⟩ := gt_of hf
      refine as_m_waits F9 hw g14 nD_MOD_reckoned_112 (fun H locs hw => ?_)
      refine lv_iconst (v := 1) hx hb nD_MOD_reckoned_113 (by decide) ?_
      exact rt_i F9 hw rfl nD_MOD_reckoned_114 hf
  · rw [if_pos h5] at hf
    refine lv_iconst (v := 0) hx hb nD_MOD_reckoned_61 (by decide) ?_
    exact rt_i F9 hw rfl nD_MOD_reckoned_62 hf
set_option maxRecDepth 100000 in
set_option maxHeartbeats 4000000 in
theorem bk_MOD_reckoned_36 {z : Int32 × sg_T} (F : fx_F p s m args meth c nC_MOD_reckoned 4 (some .boolean) nR_MOD) (a1 : Int32) (t0 : Int32) {σ : sg_T} {H : Heap} {locs : List Loc} {ls : Array Slot} (hw : ww_P x s H locs σ) (hl : lv_has ls 4 [(0, .ref (x.2.2 82)), (1, .int a1)]) (hf : fb_MOD_reckoned_36 a1 t0 σ = some z) : W p l e (rm_D 1) s m args below meth c H locs 0 0 (qi_Q x s below args z.1 z.2) (F0 m 36 ls [.int t0]) := by
  have F9 := F
  obtain ⟨hx, hb, hml, hr, hlk, hown, hT⟩ := F
  unfold fb_MOD_reckoned_36 at hf
  refine lv_istore_n (lv' := [(2, .int t0), (0, .ref (x.2.2 82)), (1, .int a1)]) hx hb nD_MOD_reckoned_36 rfl hl (by decide) rfl (fun ls hl => ?_)
  refine lv_iload_n hx hb nD_MOD_reckoned_37 rfl (lv_at hl 0 rfl) ?_
  refine lv_if_eq (tgt := 50) hx hb nD_MOD_reckoned_38 (by decide) (fun h3 => ?_) (fun h3 => ?_)
  · rw [if_pos h3] at hf
    refine lv_aload_n hx hb nD_MOD_reckoned_50 rfl (lv_at hl 1 rfl) ?_
    refine lv_iconst (v := 4) hx hb nD_MOD_reckoned_51 (by decide) ?_
    refine lv_iconst (v := 5) hx hb nD_MOD_reckoned_52 (by decide) ?_
    obtain ⟨z4, hz4, hf⟩ := bd_of hf
    refine cl_vi (As := [.int (4 : Int32), .int (5 : Int32)]) (rest := []) F9 hw (ct_MOD_free l x (4 : Int32) (5 : Int32)  _ _ hz4) (rc_MOD ) wc_MOD_181 hd_MOD_free (by decide) hl rfl (Nat.le_of_ble_eq_true rfl) nD_MOD_reckoned_53 (fun H locs hw => ?_)
    exact bk_MOD_reckoned_56 F9 a1 z4.1  hw (lv_sub hl [1, 2] rfl) hf
  · rw [if_neg h3] at hf
    refine lv_aload_n hx hb nD_MOD_reckoned_41 rfl (lv_at hl 1 rfl) ?_
    refine lv_iconst (v := 1) hx hb nD_MOD_reckoned_42 (by decide) ?_
    refine lv_iconst (v := 3) hx hb nD_MOD_reckoned_43 (by decide) ?_
    obtain ⟨z15, hz15, hf⟩ := bd_of hf
    refine cl_vi (As := [.int (1 : Int32), .int (3 : Int32)]) (rest := []) F9 hw (ct_MOD_free l x (1 : Int32) (3 : Int32)  _ _ hz15) (rc_MOD ) wc_MOD_181 hd_MOD_free (by decide) hl rfl (Nat.le_of_ble_eq_true rfl) nD_MOD_reckoned_44 (fun H locs hw => ?_)
    refine lv_goto (tgt := 56) hx hb nD_MOD_reckoned_47 (by decide) ?_
    exact bk_MOD_reckoned_56 F9 a1 z15.1  hw (lv_sub hl [1, 2] rfl) hf
set_option maxRecDepth 100000 in
set_option maxHeartbeats 4000000 in
theorem bk_MOD_reckoned_31 {z : Int32 × sg_T} (F : fx_F p s m args meth c nC_MOD_reckoned 4 (some .boolean) nR_MOD) (a1 : Int32) {σ : sg_T} {H : Heap} {locs : List Loc} {ls : Array Slot} (hw : ww_P x s H locs σ) (hl : lv_has ls 4 [(0, .ref (x.2.2 82)), (1, .int a1)]) (hf : fb_MOD_reckoned_31 a1 σ = some z) : W p l e (rm_D 1) s m args below meth c H locs 0 0 (qi_Q x s below args z.1 z.2) (F0 m 31 ls []) := by
  have F9 := F
  obtain ⟨hx, hb, hml, hr, hlk, hown, hT⟩ := F
  unfold fb_MOD_reckoned_31 at hf
  refine lv_iconst (v := 1) hx hb nD_MOD_reckoned_31 (by decide) ?_
  refine lv_goto (tgt := 36) hx hb nD_MOD_reckoned_32 (by decide) ?_
  exact bk_MOD_reckoned_36 F9 a1 (1 : Int32)  hw (lv_sub hl [0, 1] rfl) hf
set_option maxRecDepth 100000 in
set_option maxHeartbeats 4000000 in
theorem ct_MOD_reckoned (l : Launch) (x : cx_T) (a1 : Int32) (σ : sg_T) (z : Int32 × sg_T) (hf : fn_MOD_reckoned a1 σ = some z) : ct_i l nN_MOD_reckoned nC_MOD_reckoned 4 (some .boolean) 1 x [.ref (x.2.2 82), .int a1] σ z.1 z.2 := by
  refine en_i (own := nR_MOD) (by decide) (Nat.le_of_ble_eq_true rfl) rfl ?_
  intro p e s m below meth c ls F hw hl
  have F9 := F
  obtain ⟨hx, hb, hml, hr, hlk, hown, hT⟩ := F
  have hl : lv_has ls 4 [(0, .ref (x.2.2 82)), (1, .int a1)] := hl
  unfold fn_MOD_reckoned at hf
  refine lv_aload_n hx hb nD_MOD_reckoned_0 rfl (lv_at hl 0 rfl) ?_
  refine rd_MOD_MOD_op F9 hw nD_MOD_reckoned_1 ?_
  refine lv_iload_n hx hb nD_MOD_reckoned_4 rfl (lv_at hl 1 rfl) ?_
  obtain ⟨g1, hf⟩ := gt_of hf
  refine al_m_op F9 hw g1 nD_MOD_reckoned_5 ?_
  refine lv_iconst (v := 2) hx hb nD_MOD_reckoned_6 (by decide) ?_
  refine lv_icmp_eq (tgt := 31) hx hb nD_MOD_reckoned_7 (by decide) (fun h2 => ?_) (fun h2 => ?_)
  · rw [if_pos h2] at hf
    exact bk_MOD_reckoned_31 F9 a1  hw (lv_sub hl [0, 1] rfl) hf
  · rw [if_neg h2] at hf
    refine lv_aload_n hx hb nD_MOD_reckoned_10 rfl (lv_at hl 0 rfl) ?_
    refine rd_MOD_MOD_op F9 hw nD_MOD_reckoned_11 ?_
    refine lv_iload_n hx hb nD_MOD_reckoned_14 rfl (lv_at hl 1 rfl) ?_
    obtain ⟨g16, hf⟩ := gt_of hf
    refine al_m_op F9 hw g16 nD_MOD_reckoned_15 ?_
    refine lv_iconst (v := 3) hx hb nD_MOD_reckoned_16 (by decide) ?_
    refine lv_icmp_eq (tgt := 31) hx hb nD_MOD_reckoned_17 (by decide) (fun h17 => ?_) (fun h17 => ?_)
    · rw [if_pos h17] at hf
      exact bk_MOD_reckoned_31 F9 a1  hw (lv_sub hl [0, 1] rfl) hf
    · rw [if_neg h17] at hf
      refine lv_aload_n hx hb nD_MOD_reckoned_20 rfl (lv_at hl 0 rfl) ?_
      refine rd_MOD_MOD_op F9 hw nD_MOD_reckoned_21 ?_
      refine lv_iload_n hx hb nD_MOD_reckoned_24 rfl (lv_at hl 1 rfl) ?_
      obtain ⟨g18, hf⟩ := gt_of hf
      refine al_m_op F9 hw g18 nD_MOD_reckoned_25 ?_
      refine lv_bipush (v := 6) hx hb nD_MOD_reckoned_26 (by decide) ?_
      refine lv_icmp_ne (tgt := 35) hx hb nD_MOD_reckoned_28 (by decide) (fun h19 => ?_) (fun h19 => ?_)
      · rw [if_neg h19] at hf
        refine lv_iconst (v := 0) hx hb nD_MOD_reckoned_35 (by decide) ?_
        exact bk_MOD_reckoned_36 F9 a1 (0 : Int32)  hw (lv_sub hl [0, 1] rfl) hf
      · rw [if_pos h19] at hf
        exact bk_MOD_reckoned_31 F9 a1  hw (lv_sub hl [0, 1] rfl) hf
set_option maxRecDepth 100000 in
set_option maxHeartbeats 4000000 in
theorem bk_MOD_handOut_18 {z : sg_T} (F : fx_F p s m args meth c nC_MOD_handOut 5 none nR_MOD) {σ : sg_T} {H : Heap} {locs : List Loc} {ls : Array Slot} (hw : ww_P x s H locs σ) (hl : lv_has ls 5 [(0, .ref (x.2.2 82))]) (hf : fb_MOD_handOut_18  σ = some z) : W p l e (rm_D 2) s m args below meth c H locs 0 0 (qv_Q x s below args z) (F0 m 18 ls []) := by
  have F9 := F
  obtain ⟨hx, hb, hml, hr, hlk, hown, hT⟩ := F
  unfold fb_MOD_handOut_18 at hf
  refine lv_aload_n hx hb nD_MOD_handOut_18 rfl (lv_at hl 0 rfl) ?_
  refine lv_aload_n hx hb nD_MOD_handOut_19 rfl (lv_at hl 0 rfl) ?_
  refine rd_MOD_MOD_noted F9 hw nD_MOD_handOut_20 ?_
  refine lv_bipush (v := 16) hx hb nD_MOD_handOut_23 (by decide) ?_
  refine lv_ior hx hb nD_MOD_handOut_25 ?_
  refine wr_MOD_MOD_noted F9 hw nD_MOD_handOut_26 (fun H locs hw => ?_)
  exact rt_v F9 hw nD_MOD_handOut_29 hf
set_option maxRecDepth 100000 in
set_option maxHeartbeats 4000000 in
theorem bk_MOD_handOut_311 {z : sg_T} (F : fx_F p s m args meth c nC_MOD_handOut 5 none nR_MOD) (a1 : Int32) {σ : sg_T} {H : Heap} {locs : List Loc} {ls : Array Slot} (hw : ww_P x s H locs σ) (hl : lv_has ls 5 [(0, .ref (x.2.2 82)), (1, .int a1)]) (hf : fb_MOD_handOut_311 a1 σ = some z) : W p l e (rm_D 2) s m args below meth c H locs 0 0 (qv_Q x s below args z) (F0 m 311 ls [.ref (x.2.2 82)]) := by
  have F9 := F
  obtain ⟨hx, hb, hml, hr, hlk, hown, hT⟩ := F
  unfold fb_MOD_handOut_311 at hf
  refine lv_aload_n hx hb nD_MOD_handOut_311 rfl (lv_at hl 0 rfl) ?_
  refine rd_MOD_MOD_ns F9 hw nD_MOD_handOut_312 ?_
  refine lv_iload_n hx hb nD_MOD_handOut_315 rfl (lv_at hl 1 rfl) ?_
  obtain ⟨g16, hf⟩ := gt_of hf
  refine al_m_ns F9 hw g16 nD_MOD_handOut_316 ?_
  refine lv_goto (tgt := 324) hx hb nD_MOD_handOut_317 (by decide) ?_
  refine wr_MOD_MOD_next F9 hw nD_MOD_handOut_324 (fun H locs hw => ?_)
  refine lv_goto (tgt := 341) hx hb nD_MOD_handOut_327 (by decide) ?_
  exact rt_v F9 hw nD_MOD_handOut_341 hf
set_option maxRecDepth 100000 in
set_option maxHeartbeats 4000000 in
theorem bk_MOD_handOut_169 {z : sg_T} (F : fx_F p s m args meth c nC_MOD_handOut 5 none nR_MOD) (a1 : Int32) (a3 : Int32) (t0 : Int32) (t1 : Int32) {σ : sg_T} {H : Heap} {locs : List Loc} {ls : Array Slot} (hw : ww_P x s H locs σ) (hl : lv_has ls 5 [(0, .ref (x.2.2 82)), (1, .int a1), (3, .int a3)]) (hf : fb_MOD_handOut_169 a1 a3 t0 t1 σ = some z) : W p l e (rm_D 2) s m args below meth c H locs 0 0 (qv_Q x s below args z) (F0 m 169 ls [.int t0, .int t1, .ref (x.2.2 88)]) := by
  have F9 := F
  obtain ⟨hx, hb, hml, hr, hlk, hown, hT⟩ := F
  unfold fb_MOD_handOut_169 at hf
  obtain ⟨g34, hf⟩ := gt_of hf
  refine as_m_value F9 hw g34 nD_MOD_handOut_169 (fun H locs hw => ?_)
  refine lv_aload_n hx hb nD_MOD_handOut_170 rfl (lv_at hl 0 rfl) ?_
  refine rd_MOD_MOD_waits F9 hw nD_MOD_handOut_171 ?_
  refine lv_iload_n hx hb nD_MOD_handOut_174 rfl (lv_at hl 2 rfl) ?_
  refine lv_aload_n hx hb nD_MOD_handOut_175 rfl (lv_at hl 0 rfl) ?_
  refine rd_MOD_MOD_waits F9 hw nD_MOD_handOut_176 ?_
  refine lv_aload_n hx hb nD_MOD_handOut_179 rfl (lv_at hl 0 rfl) ?_
  refine rd_MOD_MOD_ss F9 hw nD_MOD_handOut_180 ?_
  refine lv_iload_n hx hb nD_MOD_handOut_183 rfl (lv_at hl 1 rfl) ?_
  obtain ⟨g35, hf⟩ := gt_of hf
  refine al_m_ss F9 hw g35 nD_MOD_handOut_184 ?_
  obtain ⟨g36, hf⟩ := gt_of hf
  refine al_m_waits F9 hw g36 nD_MOD_handOut_185 ?_
  obtain ⟨g37, hf⟩ := gt_of hf
  refine as_m_waits F9 hw g37 nD_MOD_handOut_186 (fun H locs hw => ?_)
  refine lv_goto (tgt := 341) hx hb nD_MOD_handOut_187 (by decide) ?_
  exact rt_v F9 hw nD_MOD_handOut_341 hf
set_option maxRecDepth 100000 in
set_option maxHeartbeats 4000000 in
theorem bk_MOD_handOut_96 {z : sg_T} (F : fx_F p s m args meth c nC_MOD_handOut 5 none nR_MOD) (a1 : Int32) (a2 : Int32) (a3 : Int32) (t0 : Int32) {σ : sg_T} {H : Heap} {locs : List Loc} {ls : Array Slot} (hw : ww_P x s H locs σ) (hl : lv_has ls 5 [(0, .ref (x.2.2 82)), (1, .int a1), (2, .int a2), (3, .int a3)]) (hf : fb_MOD_handOut_96 a1 a2 a3 t0 σ = some z) : W p l e (rm_D 2) s m args below meth c H locs 0 0 (qv_Q x s below args z) (F0 m 96 ls [.int t0]) := by
  have F9 := F
  obtain ⟨hx, hb, hml, hr, hlk, hown, hT⟩ := F
  unfold fb_MOD_handOut_96 at hf
  refine lv_istore (lv' := [(4, .int t0), (0, .ref (x.2.2 82)), (1, .int a1), (2, .int a2), (3, .int a3)]) hx hb nD_MOD_handOut_96 hl (by decide) rfl (fun ls hl => ?_)
  refine lv_iload hx hb nD_MOD_handOut_98 (lv_at hl 0 rfl) ?_
  refine lv_if_ne (tgt := 104) hx hb nD_MOD_handOut_100 (by decide) (fun h8 => ?_) (fun h8 => ?_)
  · rw [if_neg h8] at hf
    refine lv_aload_n hx hb nD_MOD_handOut_104 rfl (lv_at hl 1 rfl) ?_
    refine lv_dup hx hb nD_MOD_handOut_105 rfl ?_
    refine rd_MOD_MOD_handed F9 hw nD_MOD_handOut_106 ?_
    refine lv_iconst (v := 1) hx hb nD_MOD_handOut_109 (by decide) ?_
    refine lv_iadd hx hb nD_MOD_handOut_110 ?_
    refine wr_MOD_MOD_handed F9 hw nD_MOD_handOut_111 (fun H locs hw => ?_)
    refine lv_aload_n hx hb nD_MOD_handOut_114 rfl (lv_at hl 1 rfl) ?_
    refine lv_dup hx hb nD_MOD_handOut_115 rfl ?_
    refine rd_MOD_MOD_next F9 hw nD_MOD_handOut_116 ?_
    refine lv_iconst (v := 1) hx hb nD_MOD_handOut_119 (by decide) ?_
    refine lv_iadd hx hb nD_MOD_handOut_120 ?_
    refine wr_MOD_MOD_next F9 hw nD_MOD_handOut_121 (fun H locs hw => ?_)
    refine lv_iload_n hx hb nD_MOD_handOut_124 rfl (lv_at hl 3 rfl) ?_
    refine lv_bipush (v := 7) hx hb nD_MOD_handOut_125 (by decide) ?_
    refine lv_icmp_ne (tgt := 190) hx hb nD_MOD_handOut_127 (by decide) (fun h9 => ?_) (fun h9 => ?_)
    · rw [if_neg h9] at hf
      refine lv_iload_n hx hb nD_MOD_handOut_190 rfl (lv_at hl 3 rfl) ?_
      refine lv_bipush (v := 8) hx hb nD_MOD_handOut_191 (by decide) ?_
      refine lv_icmp_ne (tgt := 211) hx hb nD_MOD_handOut_193 (by decide) (fun h10 => ?_) (fun h10 => ?_)
      · rw [if_neg h10] at hf
        refine lv_iload_n hx hb nD_MOD_handOut_211 rfl (lv_at hl 3 rfl) ?_
        refine lv_bipush (v := 9) hx hb nD_MOD_handOut_212 (by decide) ?_
        refine lv_icmp_ne (tgt := 244) hx hb nD_MOD_handOut_214 (by decide) (fun h11 => ?_) (fun h11 => ?_)
        · rw [if_neg h11] at hf
          refine lv_iload_n hx hb nD_MOD_handOut_244 rfl (lv_at hl 3 rfl) ?_
          refine lv_bipush (v := 10) hx hb nD_MOD_handOut_245 (by decide) ?_
          refine lv_icmp_ne (tgt := 289) hx hb nD_MOD_handOut_247 (by decide) (fun h12 => ?_) (fun h12 => ?_)
          · rw [if_neg h12] at hf
            refine lv_iload_n hx hb nD_MOD_handOut_289 rfl (lv_at hl 3 rfl) ?_
            refine lv_bipush (v := 11) hx hb nD_MOD_handOut_290 (by decide) ?_
            refine lv_icmp_ne (tgt := 330) hx hb nD_MOD_handOut_292 (by decide) (fun h13 => ?_) (fun h13 => ?_)
            · rw [if_neg h13] at hf
              refine lv_iload_n hx hb nD_MOD_handOut_330 rfl (lv_at hl 3 rfl) ?_
              refine lv_bipush (v := 12) hx hb nD_MOD_handOut_331 (by decide) ?_
              refine lv_icmp_ne (tgt := 341) hx hb nD_MOD_handOut_333 (by decide) (fun h14 => ?_) (fun h14 => ?_)
              · rw [if_neg h14] at hf
                exact rt_v F9 hw nD_MOD_handOut_341 hf
              · rw [if_pos h14] at hf
                refine lv_aload_n hx hb nD_MOD_handOut_336 rfl (lv_at hl 1 rfl) ?_
                refine lv_iconst (v := 1) hx hb nD_MOD_handOut_337 (by decide) ?_
                refine wr_MOD_MOD_state F9 hw nD_MOD_handOut_338 (fun H locs hw => ?_)
                exact rt_v F9 hw nD_MOD_handOut_341 hf
            · rw [if_pos h13] at hf
              refine lv_aload_n hx hb nD_MOD_handOut_295 rfl (lv_at hl 1 rfl) ?_
              refine lv_iload_n hx hb nD_MOD_handOut_296 rfl (lv_at hl 4 rfl) ?_
              refine lv_iconst (v := 3) hx hb nD_MOD_handOut_297 (by decide) ?_
              refine lv_icmp_eq (tgt := 311) hx hb nD_MOD_handOut_298 (by decide) (fun h15 => ?_) (fun h15 => ?_)
              · rw [if_pos h15] at hf
                exact bk_MOD_handOut_311 F9 a1  hw (lv_sub hl [1, 2] rfl) hf
              · rw [if_neg h15] at hf
                refine lv_aload_n hx hb nD_MOD_handOut_301 rfl (lv_at hl 1 rfl) ?_
                refine rd_MOD_MOD_value F9 hw nD_MOD_handOut_302 ?_
                refine lv_iconst (v := 4) hx hb nD_MOD_handOut_305 (by decide) ?_
                obtain ⟨g17, hf⟩ := gt_of hf
                refine al_m_value F9 hw g17 nD_MOD_handOut_306 ?_
                refine lv_iload_n hx hb nD_MOD_handOut_307 rfl (lv_at hl 4 rfl) ?_
                refine lv_icmp_ne (tgt := 320) hx hb nD_MOD_handOut_308 (by decide) (fun h18 => ?_) (fun h18 => ?_)
                · rw [if_neg h18] at hf
                  refine lv_aload_n hx hb nD_MOD_handOut_320 rfl (lv_at hl 1 rfl) ?_
                  refine rd_MOD_MOD_next F9 hw nD_MOD_handOut_321 ?_
                  refine wr_MOD_MOD_next F9 hw nD_MOD_handOut_324 (fun H locs hw => ?_)
                  refine lv_goto (tgt := 341) hx hb nD_MOD_handOut_327 (by decide) ?_
                  exact rt_v F9 hw nD_MOD_handOut_341 hf
                · rw [if_pos h18] at hf
                  exact bk_MOD_handOut_311 F9 a1  hw (lv_sub hl [1, 2] rfl) hf
          · rw [if_pos h12] at hf
            refine lv_aload_n hx hb nD_MOD_handOut_250 rfl (lv_at hl 1 rfl) ?_
            refine rd_MOD_MOD_general F9 hw nD_MOD_handOut_251 ?_
            refine lv_iload_n hx hb nD_MOD_handOut_254 rfl (lv_at hl 4 rfl) ?_
            refine lv_dup2_11 hx hb nD_MOD_handOut_255 rfl rfl ?_
            obtain ⟨g19, hf⟩ := gt_of hf
            refine al_m_general F9 hw g19 nD_MOD_handOut_256 ?_
            refine lv_iconst (v := 1) hx hb nD_MOD_handOut_257 (by decide) ?_
            refine lv_isub hx hb nD_MOD_handOut_258 ?_
            obtain ⟨g20, hf⟩ := gt_of hf
            refine as_m_general F9 hw g20 nD_MOD_handOut_259 (fun H locs hw => ?_)
            refine lv_aload_n hx hb nD_MOD_handOut_260 rfl (lv_at hl 1 rfl) ?_
            refine lv_aload_n hx hb nD_MOD_handOut_261 rfl (lv_at hl 1 rfl) ?_
            refine rd_MOD_MOD_general F9 hw nD_MOD_handOut_262 ?_
            refine lv_iload_n hx hb nD_MOD_handOut_265 rfl (lv_at hl 4 rfl) ?_
            obtain ⟨g21, hf⟩ := gt_of hf
            refine al_m_general F9 hw g21 nD_MOD_handOut_266 ?_
            refine lv_if_eq (tgt := 279) hx hb nD_MOD_handOut_267 (by decide) (fun h22 => ?_) (fun h22 => ?_)
            · rw [if_pos h22] at hf
              refine lv_aload_n hx hb nD_MOD_handOut_279 rfl (lv_at hl 1 rfl) ?_
              refine rd_MOD_MOD_next F9 hw nD_MOD_handOut_280 ?_
              refine wr_MOD_MOD_next F9 hw nD_MOD_handOut_283 (fun H locs hw => ?_)
              refine lv_goto (tgt := 341) hx hb nD_MOD_handOut_286 (by decide) ?_
              exact rt_v F9 hw nD_MOD_handOut_341 hf
            · rw [if_neg h22] at hf
              refine lv_aload_n hx hb nD_MOD_handOut_270 rfl (lv_at hl 1 rfl) ?_
              refine rd_MOD_MOD_ns F9 hw nD_MOD_handOut_271 ?_
              refine lv_iload_n hx hb nD_MOD_handOut_274 rfl (lv_at hl 2 rfl) ?_
              obtain ⟨g23, hf⟩ := gt_of hf
              refine al_m_ns F9 hw g23 nD_MOD_handOut_275 ?_
              refine lv_goto (tgt := 283) hx hb nD_MOD_handOut_276 (by decide) ?_
              refine wr_MOD_MOD_next F9 hw nD_MOD_handOut_283 (fun H locs hw => ?_)
              refine lv_goto (tgt := 341) hx hb nD_MOD_handOut_286 (by decide) ?_
              exact rt_v F9 hw nD_MOD_handOut_341 hf
        · rw [if_pos h11] at hf
          refine lv_aload_n hx hb nD_MOD_handOut_217 rfl (lv_at hl 1 rfl) ?_
          refine rd_MOD_MOD_general F9 hw nD_MOD_handOut_218 ?_
          refine lv_iload_n hx hb nD_MOD_handOut_221 rfl (lv_at hl 4 rfl) ?_
          refine lv_aload_n hx hb nD_MOD_handOut_222 rfl (lv_at hl 1 rfl) ?_
          refine rd_MOD_MOD_general F9 hw nD_MOD_handOut_223 ?_
          refine lv_aload_n hx hb nD_MOD_handOut_226 rfl (lv_at hl 1 rfl) ?_
          refine rd_MOD_MOD_ss F9 hw nD_MOD_handOut_227 ?_
          refine lv_iload_n hx hb nD_MOD_handOut_230 rfl (lv_at hl 2 rfl) ?_
          obtain ⟨g24, hf⟩ := gt_of hf
          refine al_m_ss F9 hw g24 nD_MOD_handOut_231 ?_
          obtain ⟨g25, hf⟩ := gt_of hf
          refine al_m_general F9 hw g25 nD_MOD_handOut_232 ?_
          refine lv_aload_n hx hb nD_MOD_handOut_233 rfl (lv_at hl 1 rfl) ?_
          refine rd_MOD_MOD_ns F9 hw nD_MOD_handOut_234 ?_
          refine lv_iload_n hx hb nD_MOD_handOut_237 rfl (lv_at hl 2 rfl) ?_
          obtain ⟨g26, hf⟩ := gt_of hf
          refine al_m_ns F9 hw g26 nD_MOD_handOut_238 ?_
          refine lv_iadd hx hb nD_MOD_handOut_239 ?_
          obtain ⟨g27, hf⟩ := gt_of hf
          refine as_m_general F9 hw g27 nD_MOD_handOut_240 (fun H locs hw => ?_)
          refine lv_goto (tgt := 341) hx hb nD_MOD_handOut_241 (by decide) ?_
          exact rt_v F9 hw nD_MOD_handOut_341 hf
      · rw [if_pos h10] at hf
        refine lv_aload_n hx hb nD_MOD_handOut_196 rfl (lv_at hl 1 rfl) ?_
        refine rd_MOD_MOD_general F9 hw nD_MOD_handOut_197 ?_
        refine lv_iload_n hx hb nD_MOD_handOut_200 rfl (lv_at hl 4 rfl) ?_
        refine lv_aload_n hx hb nD_MOD_handOut_201 rfl (lv_at hl 1 rfl) ?_
        refine rd_MOD_MOD_ns F9 hw nD_MOD_handOut_202 ?_
        refine lv_iload_n hx hb nD_MOD_handOut_205 rfl (lv_at hl 2 rfl) ?_
        obtain ⟨g28, hf⟩ := gt_of hf
        refine al_m_ns F9 hw g28 nD_MOD_handOut_206 ?_
        obtain ⟨g29, hf⟩ := gt_of hf
        refine as_m_general F9 hw g29 nD_MOD_handOut_207 (fun H locs hw => ?_)
        refine lv_goto (tgt := 341) hx hb nD_MOD_handOut_208 (by decide) ?_
        exact rt_v F9 hw nD_MOD_handOut_341 hf
    · rw [if_pos h9] at hf
      refine lv_aload_n hx hb nD_MOD_handOut_130 rfl (lv_at hl 1 rfl) ?_
      refine rd_MOD_MOD_value F9 hw nD_MOD_handOut_131 ?_
      refine lv_iload_n hx hb nD_MOD_handOut_134 rfl (lv_at hl 4 rfl) ?_
      refine lv_aload_n hx hb nD_MOD_handOut_135 rfl (lv_at hl 1 rfl) ?_
      refine rd_MOD_MOD_waits F9 hw nD_MOD_handOut_136 ?_
      refine lv_aload_n hx hb nD_MOD_handOut_139 rfl (lv_at hl 1 rfl) ?_
      refine rd_MOD_MOD_ss F9 hw nD_MOD_handOut_140 ?_
      refine lv_iload_n hx hb nD_MOD_handOut_143 rfl (lv_at hl 2 rfl) ?_
      obtain ⟨g30, hf⟩ := gt_of hf
      refine al_m_ss F9 hw g30 nD_MOD_handOut_144 ?_
      obtain ⟨g31, hf⟩ := gt_of hf
      refine al_m_waits F9 hw g31 nD_MOD_handOut_145 ?_
      refine lv_if_ne (tgt := 163) hx hb nD_MOD_handOut_146 (by decide) (fun h32 => ?_) (fun h32 => ?_)
      · rw [if_neg h32] at hf
        refine lv_aload_n hx hb nD_MOD_handOut_163 rfl (lv_at hl 1 rfl) ?_
        refine rd_MOD_MOD_value F9 hw nD_MOD_handOut_164 ?_
        refine lv_iload_n hx hb nD_MOD_handOut_167 rfl (lv_at hl 4 rfl) ?_
        obtain ⟨g33, hf⟩ := gt_of hf
        refine al_m_value F9 hw g33 nD_MOD_handOut_168 ?_
        exact bk_MOD_handOut_169 F9 a1 a3 ((sg_up (sg_up σ 30 7 ((σ 30 7) + (1 : Int32))) 30 4 (((sg_up σ 30 7 ((σ 30 7) + (1 : Int32))) 30 4) + (1 : Int32))) 36 (tn_I a3)) a3  hw (lv_sub hl [1, 2, 4] rfl) hf
      · rw [if_pos h32] at hf
        refine lv_aload_n hx hb nD_MOD_handOut_149 rfl (lv_at hl 1 rfl) ?_
        refine rd_MOD_MOD_value F9 hw nD_MOD_handOut_150 ?_
        refine lv_aload_n hx hb nD_MOD_handOut_153 rfl (lv_at hl 1 rfl) ?_
        refine rd_MOD_MOD_ss F9 hw nD_MOD_handOut_154 ?_
        refine lv_iload_n hx hb nD_MOD_handOut_157 rfl (lv_at hl 2 rfl) ?_
        obtain ⟨g38, hf⟩ := gt_of hf
        refine al_m_ss F9 hw g38 nD_MOD_handOut_158 ?_
        obtain ⟨g39, hf⟩ := gt_of hf
        refine al_m_value F9 hw g39 nD_MOD_handOut_159 ?_
        refine lv_goto (tgt := 169) hx hb nD_MOD_handOut_160 (by decide) ?_
        exact bk_MOD_handOut_169 F9 a1 a3 ((sg_up (sg_up σ 30 7 ((σ 30 7) + (1 : Int32))) 30 4 (((sg_up σ 30 7 ((σ 30 7) + (1 : Int32))) 30 4) + (1 : Int32))) 36 (tn_I ((sg_up (sg_up σ 30 7 ((σ 30 7) + (1 : Int32))) 30 4 (((sg_up σ 30 7 ((σ 30 7) + (1 : Int32))) 30 4) + (1 : Int32))) 33 (tn_I a1)))) a3  hw (lv_sub hl [1, 2, 4] rfl) hf
  · rw [if_pos h8] at hf
    exact rt_v F9 hw nD_MOD_handOut_103 hf
set_option maxRecDepth 100000 in
set_option maxHeartbeats 4000000 in
theorem bk_MOD_handOut_91 {z : sg_T} (F : fx_F p s m args meth c nC_MOD_handOut 5 none nR_MOD) (a1 : Int32) (a2 : Int32) (a3 : Int32) {σ : sg_T} {H : Heap} {locs : List Loc} {ls : Array Slot} (hw : ww_P x s H locs σ) (hl : lv_has ls 5 [(0, .ref (x.2.2 82)), (1, .int a1), (2, .int a2), (3, .int a3)]) (hf : fb_MOD_handOut_91 a1 a2 a3 σ = some z) : W p l e (rm_D 2) s m args below meth c H locs 0 0 (qv_Q x s below args z) (F0 m 91 ls []) := by
  have F9 := F
  obtain ⟨hx, hb, hml, hr, hlk, hown, hT⟩ := F
  unfold fb_MOD_handOut_91 at hf
  refine lv_iconst (v := 1) hx hb nD_MOD_handOut_91 (by decide) ?_
  refine lv_goto (tgt := 96) hx hb nD_MOD_handOut_92 (by decide) ?_
  exact bk_MOD_handOut_96 F9 a1 a2 a3 (1 : Int32)  hw (lv_sub hl [0, 1, 2, 3] rfl) hf
set_option maxRecDepth 100000 in
set_option maxHeartbeats 4000000 in
theorem ct_MOD_handOut (l : Launch) (x : cx_T) (σ : sg_T) (z : sg_T) (hf : fn_MOD_handOut  σ = some z) : ct_v l nN_MOD_handOut nC_MOD_handOut 5 2 x [.ref (x.2.2 82)] σ z := by
  refine en_v (own := nR_MOD) (by decide) (Nat.le_of_ble_eq_true rfl) rfl ?_
  intro p e s m below meth c ls F hw hl
  have F9 := F
  obtain ⟨hx, hb, hml, hr, hlk, hown, hT⟩ := F
  have hl : lv_has ls 5 [(0, .ref (x.2.2 82))] := hl
  unfold fn_MOD_handOut at hf
  refine lv_aload_n hx hb nD_MOD_handOut_0 rfl (lv_at hl 0 rfl) ?_
  refine rd_MOD_MOD_next F9 hw nD_MOD_handOut_1 ?_
  refine lv_if_lt (tgt := 18) hx hb nD_MOD_handOut_4 (by decide) (fun h1 => ?_) (fun h1 => ?_)
  · rw [if_pos h1] at hf
    exact bk_MOD_handOut_18 F9   hw (lv_sub hl [0] rfl) hf
  · rw [if_neg h1] at hf
    refine lv_aload_n hx hb nD_MOD_handOut_7 rfl (lv_at hl 0 rfl) ?_
    refine rd_MOD_MOD_next F9 hw nD_MOD_handOut_8 ?_
    refine lv_aload_n hx hb nD_MOD_handOut_11 rfl (lv_at hl 0 rfl) ?_
    refine rd_MOD_MOD_many F9 hw nD_MOD_handOut_12 ?_
    refine lv_icmp_lt (tgt := 30) hx hb nD_MOD_handOut_15 (by decide) (fun h2 => ?_) (fun h2 => ?_)
    · rw [if_pos h2] at hf
      refine lv_aload_n hx hb nD_MOD_handOut_30 rfl (lv_at hl 0 rfl) ?_
      refine rd_MOD_MOD_next F9 hw nD_MOD_handOut_31 ?_
      refine lv_istore_n (lv' := [(1, .int (σ 30 4)), (0, .ref (x.2.2 82))]) hx hb nD_MOD_handOut_34 rfl hl (by decide) rfl (fun ls hl => ?_)
      refine lv_aload_n hx hb nD_MOD_handOut_35 rfl (lv_at hl 1 rfl) ?_
      refine rd_MOD_MOD_op F9 hw nD_MOD_handOut_36 ?_
      refine lv_iload_n hx hb nD_MOD_handOut_39 rfl (lv_at hl 0 rfl) ?_
      obtain ⟨g3, hf⟩ := gt_of hf
      refine al_m_op F9 hw g3 nD_MOD_handOut_40 ?_
      refine lv_istore_n (lv' := [(2, .int (σ 31 (tn_I (σ 30 4)))), (1, .int (σ 30 4)), (0, .ref (x.2.2 82))]) hx hb nD_MOD_handOut_41 rfl hl (by decide) rfl (fun ls hl => ?_)
      refine lv_aload_n hx hb nD_MOD_handOut_42 rfl (lv_at hl 2 rfl) ?_
      refine rd_MOD_MOD_rs F9 hw nD_MOD_handOut_43 ?_
      refine lv_iload_n hx hb nD_MOD_handOut_46 rfl (lv_at hl 1 rfl) ?_
      obtain ⟨g4, hf⟩ := gt_of hf
      refine al_m_rs F9 hw g4 nD_MOD_handOut_47 ?_
      refine lv_istore_n (lv' := [(3, .int (σ 32 (tn_I (σ 30 4)))), (2, .int (σ 31 (tn_I (σ 30 4)))), (1, .int (σ 30 4)), (0, .ref (x.2.2 82))]) hx hb nD_MOD_handOut_48 rfl hl (by decide) rfl (fun ls hl => ?_)
      refine lv_iload_n hx hb nD_MOD_handOut_49 rfl (lv_at hl 1 rfl) ?_
      refine lv_iconst (v := 2) hx hb nD_MOD_handOut_50 (by decide) ?_
      refine lv_icmp_ge (tgt := 62) hx hb nD_MOD_handOut_51 (by decide) (fun h5 => ?_) (fun h5 => ?_)
      · rw [if_pos h5] at hf
        refine lv_iload_n hx hb nD_MOD_handOut_62 rfl (lv_at hl 1 rfl) ?_
        refine lv_bipush (v := 6) hx hb nD_MOD_handOut_63 (by decide) ?_
        refine lv_icmp_gt (tgt := 76) hx hb nD_MOD_handOut_65 (by decide) (fun h6 => ?_) (fun h6 => ?_)
        · rw [if_pos h6] at hf
          refine lv_iload_n hx hb nD_MOD_handOut_76 rfl (lv_at hl 1 rfl) ?_
          refine lv_bipush (v := 11) hx hb nD_MOD_handOut_77 (by decide) ?_
          refine lv_icmp_ne (tgt := 91) hx hb nD_MOD_handOut_79 (by decide) (fun h7 => ?_) (fun h7 => ?_)
          · rw [if_neg h7] at hf
            exact bk_MOD_handOut_91 F9 (σ 30 4) (σ 31 (tn_I (σ 30 4))) (σ 32 (tn_I (σ 30 4)))  hw (lv_sub hl [3, 2, 1, 0] rfl) hf
          · rw [if_pos h7] at hf
            refine lv_aload_n hx hb nD_MOD_handOut_82 rfl (lv_at hl 3 rfl) ?_
            refine rd_MOD_MOD_waits F9 hw nD_MOD_handOut_83 ?_
            refine lv_iconst (v := 4) hx hb nD_MOD_handOut_86 (by decide) ?_
            obtain ⟨g40, hf⟩ := gt_of hf
            refine al_m_waits F9 hw g40 nD_MOD_handOut_87 ?_
            refine lv_if_ne (tgt := 95) hx hb nD_MOD_handOut_88 (by decide) (fun h41 => ?_) (fun h41 => ?_)
            · rw [if_neg h41] at hf
              refine lv_iconst (v := 0) hx hb nD_MOD_handOut_95 (by decide) ?_
              exact bk_MOD_handOut_96 F9 (σ 30 4) (σ 31 (tn_I (σ 30 4))) (σ 32 (tn_I (σ 30 4))) (0 : Int32)  hw (lv_sub hl [3, 2, 1, 0] rfl) hf
            · rw [if_pos h41] at hf
              exact bk_MOD_handOut_91 F9 (σ 30 4) (σ 31 (tn_I (σ 30 4))) (σ 32 (tn_I (σ 30 4)))  hw (lv_sub hl [3, 2, 1, 0] rfl) hf
        · rw [if_neg h6] at hf
          refine lv_aload_n hx hb nD_MOD_handOut_68 rfl (lv_at hl 3 rfl) ?_
          refine lv_iload_n hx hb nD_MOD_handOut_69 rfl (lv_at hl 2 rfl) ?_
          obtain ⟨z42, hz42, hf⟩ := bd_of hf
          refine cl_vi (As := [.int (σ 30 4)]) (rest := []) F9 hw (ct_MOD_reckoned l x (σ 30 4)  _ _ hz42) (rc_MOD ) wc_MOD_194 hd_MOD_reckoned (by decide) hl rfl (Nat.le_of_ble_eq_true rfl) nD_MOD_handOut_70 (fun H locs hw => ?_)
          refine lv_goto (tgt := 96) hx hb nD_MOD_handOut_73 (by decide) ?_
          exact bk_MOD_handOut_96 F9 (σ 30 4) (σ 31 (tn_I (σ 30 4))) (σ 32 (tn_I (σ 30 4))) z42.1  hw (lv_sub hl [3, 2, 1, 0] rfl) hf
      · rw [if_neg h5] at hf
        refine lv_aload_n hx hb nD_MOD_handOut_54 rfl (lv_at hl 3 rfl) ?_
        refine lv_iload_n hx hb nD_MOD_handOut_55 rfl (lv_at hl 2 rfl) ?_
        obtain ⟨z43, hz43, hf⟩ := bd_of hf
        refine cl_vi (As := [.int (σ 30 4)]) (rest := []) F9 hw (ct_MOD_storage l x (σ 30 4)  _ _ hz43) (rc_MOD ) wc_MOD_191 hd_MOD_storage (by decide) hl rfl (Nat.le_of_ble_eq_true rfl) nD_MOD_handOut_56 (fun H locs hw => ?_)
        refine lv_goto (tgt := 96) hx hb nD_MOD_handOut_59 (by decide) ?_
        exact bk_MOD_handOut_96 F9 (σ 30 4) (σ 31 (tn_I (σ 30 4))) (σ 32 (tn_I (σ 30 4))) z43.1  hw (lv_sub hl [3, 2, 1, 0] rfl) hf
    · rw [if_neg h2] at hf
      exact bk_MOD_handOut_18 F9   hw (lv_sub hl [0] rfl) hf
set_option maxRecDepth 100000 in
set_option maxHeartbeats 4000000 in
theorem bk_MOD_cycle_87 {z : sg_T} (F : fx_F p s m args meth c nC_MOD_cycle 3 none nR_MOD) (kL63 : Int32 → Int32 → sg_T → Option (sg_T)) (ih63 : ∀ (a1 : Int32) (a2 : Int32) (σ : sg_T) (H : Heap) (locs : List Loc) (ls : Array Slot), ww_P x s H locs σ → lv_has ls 3 [(0, .ref (x.2.2 82)), (1, .int a1), (2, .int a2)] → kL63 a1 a2 σ = some z → W p l e (rm_D 7) s m args below meth c H locs 0 0 (qv_Q x s below args z) (F0 m 63 ls [])) (a2 : Int32) (t0 : Int32) {σ : sg_T} {H : Heap} {locs : List Loc} {ls : Array Slot} (hw : ww_P x s H locs σ) (hl : lv_has ls 3 [(0, .ref (x.2.2 82)), (2, .int a2)]) (hf : fb_MOD_cycle_87 kL63 a2 t0 σ = some z) : W p l e (rm_D 7) s m args below meth c H locs 0 0 (qv_Q x s below args z) (F0 m 87 ls [.int t0]) := by
  have F9 := F
  obtain ⟨hx, hb, hml, hr, hlk, hown, hT⟩ := F
  unfold fb_MOD_cycle_87 at hf
  refine lv_istore_n (lv' := [(1, .int t0), (0, .ref (x.2.2 82)), (2, .int a2)]) hx hb nD_MOD_cycle_87 rfl hl (by decide) rfl (fun ls hl => ?_)
  refine lv_iinc (k := 2) (v := a2 + (1 : Int32)) (lv' := [(2, .int (a2 + (1 : Int32))), (1, .int t0), (0, .ref (x.2.2 82))]) hx hb nD_MOD_cycle_88 hl rfl (ic_p1 _) (by decide) rfl (fun ls hl => ?_)
  refine lv_goto (tgt := 63) hx hb nD_MOD_cycle_91 (by decide) ?_
  exact ih63 t0 (a2 + (1 : Int32)) _ _ _ _  hw (lv_sub hl [2, 1, 0] rfl) hf
set_option maxRecDepth 100000 in
set_option maxHeartbeats 4000000 in
theorem bk_MOD_cycle_86 {z : sg_T} (F : fx_F p s m args meth c nC_MOD_cycle 3 none nR_MOD) (kL63 : Int32 → Int32 → sg_T → Option (sg_T)) (ih63 : ∀ (a1 : Int32) (a2 : Int32) (σ : sg_T) (H : Heap) (locs : List Loc) (ls : Array Slot), ww_P x s H locs σ → lv_has ls 3 [(0, .ref (x.2.2 82)), (1, .int a1), (2, .int a2)] → kL63 a1 a2 σ = some z → W p l e (rm_D 7) s m args below meth c H locs 0 0 (qv_Q x s below args z) (F0 m 63 ls [])) (a2 : Int32) {σ : sg_T} {H : Heap} {locs : List Loc} {ls : Array Slot} (hw : ww_P x s H locs σ) (hl : lv_has ls 3 [(0, .ref (x.2.2 82)), (2, .int a2)]) (hf : fb_MOD_cycle_86 kL63 a2 σ = some z) : W p l e (rm_D 7) s m args below meth c H locs 0 0 (qv_Q x s below args z) (F0 m 86 ls []) := by
  have F9 := F
  obtain ⟨hx, hb, hml, hr, hlk, hown, hT⟩ := F
  unfold fb_MOD_cycle_86 at hf
  refine lv_iconst (v := 0) hx hb nD_MOD_cycle_86 (by decide) ?_
  exact bk_MOD_cycle_87 F9 kL63 ih63 a2 (0 : Int32)  hw (lv_sub hl [0, 1] rfl) hf
set_option maxRecDepth 100000 in
set_option maxHeartbeats 4000000 in
theorem bk_MOD_cycle_63 {z : sg_T} (F : fx_F p s m args meth c nC_MOD_cycle 3 none nR_MOD) : ∀ (n : Nat) (a1 : Int32) (a2 : Int32) (σ : sg_T) (H : Heap) (locs : List Loc) (ls : Array Slot), ww_P x s H locs σ → lv_has ls 3 [(0, .ref (x.2.2 82)), (1, .int a1), (2, .int a2)] → fb_MOD_cycle_63 n a1 a2 σ = some z → W p l e (rm_D 7) s m args below meth c H locs 0 0 (qv_Q x s below args z) (F0 m 63 ls []) := by
  have F9 := F
  obtain ⟨hx, hb, hml, hr, hlk, hown, hT⟩ := F
  intro n
  induction n with
  | zero =>
    intro a1 a2 σ H locs ls  hw hl hf
    simp [fb_MOD_cycle_63] at hf
  | succ n ih =>
    intro a1 a2 σ H locs ls  hw hl hf
    unfold fb_MOD_cycle_63 at hf
    refine lv_iload_n hx hb nD_MOD_cycle_63 rfl (lv_at hl 2 rfl) ?_
    refine lv_bipush (v := 13) hx hb nD_MOD_cycle_64 (by decide) ?_
    refine lv_icmp_ge (tgt := 94) hx hb nD_MOD_cycle_66 (by decide) (fun h6 => ?_) (fun h6 => ?_)
    · rw [if_pos h6] at hf
      refine lv_aload_n hx hb nD_MOD_cycle_94 rfl (lv_at hl 0 rfl) ?_
      refine lv_aload_n hx hb nD_MOD_cycle_95 rfl (lv_at hl 0 rfl) ?_
      refine rd_MOD_MOD_state F9 hw nD_MOD_cycle_96 ?_
      refine lv_iconst (v := 1) hx hb nD_MOD_cycle_99 (by decide) ?_
      refine lv_icmp_ne (tgt := 122) hx hb nD_MOD_cycle_100 (by decide) (fun h7 => ?_) (fun h7 => ?_)
      · rw [if_neg h7] at hf
        refine lv_aload_n hx hb nD_MOD_cycle_122 rfl (lv_at hl 0 rfl) ?_
        refine rd_MOD_MOD_state F9 hw nD_MOD_cycle_123 ?_
        refine wr_MOD_MOD_state F9 hw nD_MOD_cycle_126 (fun H locs hw => ?_)
        exact rt_v F9 hw nD_MOD_cycle_129 hf
      · rw [if_pos h7] at hf
        refine lv_iload_n hx hb nD_MOD_cycle_103 rfl (lv_at hl 1 rfl) ?_
        refine lv_if_eq (tgt := 122) hx hb nD_MOD_cycle_104 (by decide) (fun h8 => ?_) (fun h8 => ?_)
        · rw [if_pos h8] at hf
          refine lv_aload_n hx hb nD_MOD_cycle_122 rfl (lv_at hl 0 rfl) ?_
          refine rd_MOD_MOD_state F9 hw nD_MOD_cycle_123 ?_
          refine wr_MOD_MOD_state F9 hw nD_MOD_cycle_126 (fun H locs hw => ?_)
          exact rt_v F9 hw nD_MOD_cycle_129 hf
        · rw [if_neg h8] at hf
          refine lv_aload_n hx hb nD_MOD_cycle_107 rfl (lv_at hl 0 rfl) ?_
          refine rd_MOD_MOD_noted F9 hw nD_MOD_cycle_108 ?_
          refine lv_if_eq (tgt := 118) hx hb nD_MOD_cycle_111 (by decide) (fun h9 => ?_) (fun h9 => ?_)
          · rw [if_pos h9] at hf
            refine lv_iconst (v := 2) hx hb nD_MOD_cycle_118 (by decide) ?_
            refine lv_goto (tgt := 126) hx hb nD_MOD_cycle_119 (by decide) ?_
            refine wr_MOD_MOD_state F9 hw nD_MOD_cycle_126 (fun H locs hw => ?_)
            exact rt_v F9 hw nD_MOD_cycle_129 hf
          · rw [if_neg h9] at hf
            refine lv_iconst (v := 3) hx hb nD_MOD_cycle_114 (by decide) ?_
            refine lv_goto (tgt := 126) hx hb nD_MOD_cycle_115 (by decide) ?_
            refine wr_MOD_MOD_state F9 hw nD_MOD_cycle_126 (fun H locs hw => ?_)
            exact rt_v F9 hw nD_MOD_cycle_129 hf
    · rw [if_neg h6] at hf
      refine lv_iload_n hx hb nD_MOD_cycle_69 rfl (lv_at hl 1 rfl) ?_
      refine lv_if_eq (tgt := 86) hx hb nD_MOD_cycle_70 (by decide) (fun h10 => ?_) (fun h10 => ?_)
      · rw [if_pos h10] at hf
        exact bk_MOD_cycle_86 F9 (fb_MOD_cycle_63 n) ih a2  hw (lv_sub hl [0, 2] rfl) hf
      · rw [if_neg h10] at hf
        refine lv_aload_n hx hb nD_MOD_cycle_73 rfl (lv_at hl 0 rfl) ?_
        refine rd_MOD_MOD_place F9 hw nD_MOD_cycle_74 ?_
        refine lv_iload_n hx hb nD_MOD_cycle_77 rfl (lv_at hl 2 rfl) ?_
        obtain ⟨g11, hf⟩ := gt_of hf
        refine al_m_place F9 hw g11 nD_MOD_cycle_78 ?_
        refine lv_if_ne (tgt := 86) hx hb nD_MOD_cycle_79 (by decide) (fun h12 => ?_) (fun h12 => ?_)
        · rw [if_neg h12] at hf
          exact bk_MOD_cycle_86 F9 (fb_MOD_cycle_63 n) ih a2  hw (lv_sub hl [0, 2] rfl) hf
        · rw [if_pos h12] at hf
          refine lv_iconst (v := 1) hx hb nD_MOD_cycle_82 (by decide) ?_
          refine lv_goto (tgt := 87) hx hb nD_MOD_cycle_83 (by decide) ?_
          exact bk_MOD_cycle_87 F9 (fb_MOD_cycle_63 n) ih a2 (1 : Int32)  hw (lv_sub hl [0, 2] rfl) hf
set_option maxRecDepth 100000 in
set_option maxHeartbeats 4000000 in
theorem bk_MOD_cycle_56 {z : sg_T} (F : fx_F p s m args meth c nC_MOD_cycle 3 none nR_MOD) (t0 : Int32) {σ : sg_T} {H : Heap} {locs : List Loc} {ls : Array Slot} (hw : ww_P x s H locs σ) (hl : lv_has ls 3 [(0, .ref (x.2.2 82))]) (hf : fb_MOD_cycle_56 t0 σ = some z) : W p l e (rm_D 7) s m args below meth c H locs 0 0 (qv_Q x s below args z) (F0 m 56 ls [.int t0, .ref (x.2.2 82)]) := by
  have F9 := F
  obtain ⟨hx, hb, hml, hr, hlk, hown, hT⟩ := F
  unfold fb_MOD_cycle_56 at hf
  refine wr_MOD_MOD_state F9 hw nD_MOD_cycle_56 (fun H locs hw => ?_)
  refine lv_iconst (v := 1) hx hb nD_MOD_cycle_59 (by decide) ?_
  refine lv_istore_n (lv' := [(1, .int (1 : Int32)), (0, .ref (x.2.2 82))]) hx hb nD_MOD_cycle_60 rfl hl (by decide) rfl (fun ls hl => ?_)
  refine lv_iconst (v := 1) hx hb nD_MOD_cycle_61 (by decide) ?_
  refine lv_istore_n (lv' := [(2, .int (1 : Int32)), (1, .int (1 : Int32)), (0, .ref (x.2.2 82))]) hx hb nD_MOD_cycle_62 rfl hl (by decide) rfl (fun ls hl => ?_)
  exact bk_MOD_cycle_63 F9 14 (1 : Int32) (1 : Int32) _ _ _ _  hw (lv_sub hl [2, 1, 0] rfl) hf
set_option maxRecDepth 100000 in
set_option maxHeartbeats 4000000 in
theorem bk_MOD_cycle_40 {z : sg_T} (F : fx_F p s m args meth c nC_MOD_cycle 3 none nR_MOD) {σ : sg_T} {H : Heap} {locs : List Loc} {ls : Array Slot} (hw : ww_P x s H locs σ) (hl : lv_has ls 3 [(0, .ref (x.2.2 82))]) (hf : fb_MOD_cycle_40  σ = some z) : W p l e (rm_D 7) s m args below meth c H locs 0 0 (qv_Q x s below args z) (F0 m 40 ls []) := by
  have F9 := F
  obtain ⟨hx, hb, hml, hr, hlk, hown, hT⟩ := F
  unfold fb_MOD_cycle_40 at hf
  refine lv_aload_n hx hb nD_MOD_cycle_40 rfl (lv_at hl 0 rfl) ?_
  refine lv_aload_n hx hb nD_MOD_cycle_41 rfl (lv_at hl 0 rfl) ?_
  refine rd_MOD_MOD_noted F9 hw nD_MOD_cycle_42 ?_
  refine lv_if_eq (tgt := 52) hx hb nD_MOD_cycle_45 (by decide) (fun h5 => ?_) (fun h5 => ?_)
  · rw [if_pos h5] at hf
    refine lv_aload_n hx hb nD_MOD_cycle_52 rfl (lv_at hl 0 rfl) ?_
    refine rd_MOD_MOD_state F9 hw nD_MOD_cycle_53 ?_
    exact bk_MOD_cycle_56 F9 (σ 30 3)  hw (lv_sub hl [0] rfl) hf
  · rw [if_neg h5] at hf
    refine lv_iconst (v := 1) hx hb nD_MOD_cycle_48 (by decide) ?_
    refine lv_goto (tgt := 56) hx hb nD_MOD_cycle_49 (by decide) ?_
    exact bk_MOD_cycle_56 F9 (1 : Int32)  hw (lv_sub hl [0] rfl) hf
set_option maxRecDepth 100000 in
set_option maxHeartbeats 4000000 in
theorem ct_MOD_cycle (l : Launch) (x : cx_T) (σ : sg_T) (z : sg_T) (hf : fn_MOD_cycle  σ = some z) : ct_v l nN_MOD_cycle nC_MOD_cycle 3 7 x [.ref (x.2.2 82)] σ z := by
  refine en_v (own := nR_MOD) (by decide) (Nat.le_of_ble_eq_true rfl) rfl ?_
  intro p e s m below meth c ls F hw hl
  have F9 := F
  obtain ⟨hx, hb, hml, hr, hlk, hown, hT⟩ := F
  have hl : lv_has ls 3 [(0, .ref (x.2.2 82))] := hl
  unfold fn_MOD_cycle at hf
  refine lv_aload_n hx hb nD_MOD_cycle_0 rfl (lv_at hl 0 rfl) ?_
  refine lv_dup hx hb nD_MOD_cycle_1 rfl ?_
  refine rd_MOD_MOD_cycles F9 hw nD_MOD_cycle_2 ?_
  refine lv_iconst (v := 1) hx hb nD_MOD_cycle_5 (by decide) ?_
  refine lv_iadd hx hb nD_MOD_cycle_6 ?_
  refine wr_MOD_MOD_cycles F9 hw nD_MOD_cycle_7 (fun H locs hw => ?_)
  refine lv_aload_n hx hb nD_MOD_cycle_10 rfl (lv_at hl 0 rfl) ?_
  obtain ⟨z1, hz1, hf⟩ := bd_of hf
  refine cl_vv (As := []) (rest := []) F9 hw (ct_MOD_bus l x   _ _ hz1) (rc_MOD ) wc_MOD_200 hd_MOD_bus (by decide) hl rfl (Nat.le_of_ble_eq_true rfl) nD_MOD_cycle_11 (fun H locs hw => ?_)
  refine lv_aload_n hx hb nD_MOD_cycle_14 rfl (lv_at hl 0 rfl) ?_
  obtain ⟨z2, hz2, hf⟩ := bd_of hf
  refine cl_vv (As := []) (rest := []) F9 hw (ct_MOD_work l x   _ _ hz2) (rc_MOD ) wc_MOD_203 hd_MOD_work (by decide) hl rfl (Nat.le_of_ble_eq_true rfl) nD_MOD_cycle_15 (fun H locs hw => ?_)
  refine lv_aload_n hx hb nD_MOD_cycle_18 rfl (lv_at hl 0 rfl) ?_
  obtain ⟨z3, hz3, hf⟩ := bd_of hf
  refine cl_vv (As := []) (rest := []) F9 hw (ct_MOD_begin l x   _ _ hz3) (rc_MOD ) wc_MOD_206 hd_MOD_begin (by decide) hl rfl (Nat.le_of_ble_eq_true rfl) nD_MOD_cycle_19 (fun H locs hw => ?_)
  refine lv_aload_n hx hb nD_MOD_cycle_22 rfl (lv_at hl 0 rfl) ?_
  refine rd_MOD_MOD_state F9 hw nD_MOD_cycle_23 ?_
  refine lv_if_ne (tgt := 40) hx hb nD_MOD_cycle_26 (by decide) (fun h4 => ?_) (fun h4 => ?_)
  · rw [if_neg h4] at hf
    exact bk_MOD_cycle_40 F9   hw (lv_sub hl [0] rfl) hf
  · rw [if_pos h4] at hf
    refine lv_aload_n hx hb nD_MOD_cycle_29 rfl (lv_at hl 0 rfl) ?_
    refine rd_MOD_MOD_noted F9 hw nD_MOD_cycle_30 ?_
    refine lv_if_ne (tgt := 40) hx hb nD_MOD_cycle_33 (by decide) (fun h13 => ?_) (fun h13 => ?_)
    · rw [if_neg h13] at hf
      exact bk_MOD_cycle_40 F9   hw (lv_sub hl [0] rfl) hf
    · rw [if_pos h13] at hf
      refine lv_aload_n hx hb nD_MOD_cycle_36 rfl (lv_at hl 0 rfl) ?_
      obtain ⟨z14, hz14, hf⟩ := bd_of hf
      refine cl_vv (As := []) (rest := []) F9 hw (ct_MOD_handOut l x   _ _ hz14) (rc_MOD ) wc_MOD_209 hd_MOD_handOut (by decide) hl rfl (Nat.le_of_ble_eq_true rfl) nD_MOD_cycle_37 (fun H locs hw => ?_)
      exact bk_MOD_cycle_40 F9   hw (lv_sub hl [0] rfl) hf
set_option maxRecDepth 100000 in
set_option maxHeartbeats 4000000 in
theorem bk_MOD_run_34 {z : Int32 × sg_T} (F : fx_F p s m args meth c nC_MOD_run 3 (some .int) nR_MOD) : ∀ (n : Nat) (a1 : Int32) (a2 : Int32) (σ : sg_T) (H : Heap) (locs : List Loc) (ls : Array Slot), ww_P x s H locs σ → lv_has ls 3 [(0, .ref (x.2.2 82)), (1, .int a1), (2, .int a2)] → fb_MOD_run_34 n a1 a2 σ = some z → W p l e (rm_D 8) s m args below meth c H locs 0 0 (qi_Q x s below args z.1 z.2) (F0 m 34 ls []) := by
  have F9 := F
  obtain ⟨hx, hb, hml, hr, hlk, hown, hT⟩ := F
  intro n
  induction n with
  | zero =>
    intro a1 a2 σ H locs ls  hw hl hf
    simp [fb_MOD_run_34] at hf
  | succ n ih =>
    intro a1 a2 σ H locs ls  hw hl hf
    unfold fb_MOD_run_34 at hf
    refine lv_aload_n hx hb nD_MOD_run_34 rfl (lv_at hl 0 rfl) ?_
    refine rd_MOD_MOD_threw F9 hw nD_MOD_run_35 ?_
    refine lv_if_ne (tgt := 63) hx hb nD_MOD_run_38 (by decide) (fun h2 => ?_) (fun h2 => ?_)
    · rw [if_neg h2] at hf
      refine lv_iload_n hx hb nD_MOD_run_63 rfl (lv_at hl 2 rfl) ?_
      exact rt_i F9 hw rfl nD_MOD_run_64 hf
    · rw [if_pos h2] at hf
      refine lv_iload_n hx hb nD_MOD_run_41 rfl (lv_at hl 2 rfl) ?_
      refine lv_iload_n hx hb nD_MOD_run_42 rfl (lv_at hl 1 rfl) ?_
      refine lv_icmp_ge (tgt := 63) hx hb nD_MOD_run_43 (by decide) (fun h3 => ?_) (fun h3 => ?_)
      · rw [if_pos h3] at hf
        refine lv_iload_n hx hb nD_MOD_run_63 rfl (lv_at hl 2 rfl) ?_
        exact rt_i F9 hw rfl nD_MOD_run_64 hf
      · rw [if_neg h3] at hf
        refine lv_aload_n hx hb nD_MOD_run_46 rfl (lv_at hl 0 rfl) ?_
        obtain ⟨z4, hz4, hf⟩ := bd_of hf
        refine cl_vi (As := []) (rest := []) F9 hw (ct_MOD_goes l x   _ _ hz4) (rc_MOD ) wc_MOD_151 hd_MOD_goes (by decide) hl rfl (Nat.le_of_ble_eq_true rfl) nD_MOD_run_47 (fun H locs hw => ?_)
        refine lv_if_eq (tgt := 63) hx hb nD_MOD_run_50 (by decide) (fun h5 => ?_) (fun h5 => ?_)
        · rw [if_pos h5] at hf
          refine lv_iload_n hx hb nD_MOD_run_63 rfl (lv_at hl 2 rfl) ?_
          exact rt_i F9 hw rfl nD_MOD_run_64 hf
        · rw [if_neg h5] at hf
          refine lv_aload_n hx hb nD_MOD_run_53 rfl (lv_at hl 0 rfl) ?_
          obtain ⟨z6, hz6, hf⟩ := bd_of hf
          refine cl_vv (As := []) (rest := []) F9 hw (ct_MOD_cycle l x   _ _ hz6) (rc_MOD ) wc_MOD_212 hd_MOD_cycle (by decide) hl rfl (Nat.le_of_ble_eq_true rfl) nD_MOD_run_54 (fun H locs hw => ?_)
          refine lv_iinc (k := 2) (v := a2 + (1 : Int32)) (lv' := [(2, .int (a2 + (1 : Int32))), (0, .ref (x.2.2 82)), (1, .int a1)]) hx hb nD_MOD_run_57 hl rfl (ic_p1 _) (by decide) rfl (fun ls hl => ?_)
          refine lv_goto (tgt := 34) hx hb nD_MOD_run_60 (by decide) ?_
          exact ih a1 (a2 + (1 : Int32)) _ _ _ _  hw (lv_sub hl [1, 2, 0] rfl) hf
set_option maxRecDepth 100000 in
set_option maxHeartbeats 4000000 in
theorem bk_MOD_run_29 {z : Int32 × sg_T} (F : fx_F p s m args meth c nC_MOD_run 3 (some .int) nR_MOD) (a1 : Int32) (t0 : Int32) {σ : sg_T} {H : Heap} {locs : List Loc} {ls : Array Slot} (hw : ww_P x s H locs σ) (hl : lv_has ls 3 [(0, .ref (x.2.2 82)), (1, .int a1)]) (hf : fb_MOD_run_29 a1 t0 σ = some z) : W p l e (rm_D 8) s m args below meth c H locs 0 0 (qi_Q x s below args z.1 z.2) (F0 m 29 ls [.int t0, .ref (x.2.2 82)]) := by
  have F9 := F
  obtain ⟨hx, hb, hml, hr, hlk, hown, hT⟩ := F
  unfold fb_MOD_run_29 at hf
  refine wr_MOD_MOD_threw F9 hw nD_MOD_run_29 (fun H locs hw => ?_)
  refine lv_iconst (v := 0) hx hb nD_MOD_run_32 (by decide) ?_
  refine lv_istore_n (lv' := [(2, .int (0 : Int32)), (0, .ref (x.2.2 82)), (1, .int a1)]) hx hb nD_MOD_run_33 rfl hl (by decide) rfl (fun ls hl => ?_)
  exact bk_MOD_run_34 F9 302 a1 (0 : Int32) _ _ _ _  hw (lv_sub hl [1, 2, 0] rfl) hf
set_option maxRecDepth 100000 in
set_option maxHeartbeats 4000000 in
theorem bk_MOD_run_13 {z : Int32 × sg_T} (F : fx_F p s m args meth c nC_MOD_run 3 (some .int) nR_MOD) (a1 : Int32) {σ : sg_T} {H : Heap} {locs : List Loc} {ls : Array Slot} (hw : ww_P x s H locs σ) (hl : lv_has ls 3 [(0, .ref (x.2.2 82)), (1, .int a1)]) (hf : fb_MOD_run_13 a1 σ = some z) : W p l e (rm_D 8) s m args below meth c H locs 0 0 (qi_Q x s below args z.1 z.2) (F0 m 13 ls [.ref (x.2.2 82)]) := by
  have F9 := F
  obtain ⟨hx, hb, hml, hr, hlk, hown, hT⟩ := F
  unfold fb_MOD_run_13 at hf
  refine lv_iconst (v := 1) hx hb nD_MOD_run_13 (by decide) ?_
  refine lv_goto (tgt := 29) hx hb nD_MOD_run_14 (by decide) ?_
  exact bk_MOD_run_29 F9 a1 (1 : Int32)  hw (lv_sub hl [0, 1] rfl) hf
set_option maxRecDepth 100000 in
set_option maxHeartbeats 4000000 in
theorem ct_MOD_run (l : Launch) (x : cx_T) (a1 : Int32) (σ : sg_T) (z : Int32 × sg_T) (hf : fn_MOD_run a1 σ = some z) : ct_i l nN_MOD_run nC_MOD_run 3 (some .int) 8 x [.ref (x.2.2 82), .int a1] σ z.1 z.2 := by
  refine en_i (own := nR_MOD) (by decide) (Nat.le_of_ble_eq_true rfl) rfl ?_
  intro p e s m below meth c ls F hw hl
  have F9 := F
  obtain ⟨hx, hb, hml, hr, hlk, hown, hT⟩ := F
  have hl : lv_has ls 3 [(0, .ref (x.2.2 82)), (1, .int a1)] := hl
  unfold fn_MOD_run at hf
  refine lv_aload_n hx hb nD_MOD_run_0 rfl (lv_at hl 0 rfl) ?_
  refine lv_iload_n hx hb nD_MOD_run_1 rfl (lv_at hl 1 rfl) ?_
  refine lv_iconst (v := 1) hx hb nD_MOD_run_2 (by decide) ?_
  refine lv_icmp_lt (tgt := 13) hx hb nD_MOD_run_3 (by decide) (fun h1 => ?_) (fun h1 => ?_)
  · rw [if_pos h1] at hf
    exact bk_MOD_run_13 F9 a1  hw (lv_sub hl [0, 1] rfl) hf
  · rw [if_neg h1] at hf
    refine lv_iload_n hx hb nD_MOD_run_6 rfl (lv_at hl 1 rfl) ?_
    refine lv_sipush (v := 300) hx hb nD_MOD_run_7 (by decide) ?_
    refine lv_icmp_le (tgt := 17) hx hb nD_MOD_run_10 (by decide) (fun h7 => ?_) (fun h7 => ?_)
    · rw [if_pos h7] at hf
      refine lv_aload_n hx hb nD_MOD_run_17 rfl (lv_at hl 0 rfl) ?_
      obtain ⟨z8, hz8, hf⟩ := bd_of hf
      refine cl_vi (As := []) (rest := [.ref (x.2.2 82)]) F9 hw (ct_MOD_goes l x   _ _ hz8) (rc_MOD ) wc_MOD_151 hd_MOD_goes (by decide) hl rfl (Nat.le_of_ble_eq_true rfl) nD_MOD_run_18 (fun H locs hw => ?_)
      refine lv_if_ne (tgt := 28) hx hb nD_MOD_run_21 (by decide) (fun h9 => ?_) (fun h9 => ?_)
      · rw [if_neg h9] at hf
        refine lv_iconst (v := 0) hx hb nD_MOD_run_28 (by decide) ?_
        exact bk_MOD_run_29 F9 a1 (0 : Int32)  hw (lv_sub hl [0, 1] rfl) hf
      · rw [if_pos h9] at hf
        refine lv_iconst (v := 2) hx hb nD_MOD_run_24 (by decide) ?_
        refine lv_goto (tgt := 29) hx hb nD_MOD_run_25 (by decide) ?_
        exact bk_MOD_run_29 F9 a1 (2 : Int32)  hw (lv_sub hl [0, 1] rfl) hf
    · rw [if_neg h7] at hf
      exact bk_MOD_run_13 F9 a1  hw (lv_sub hl [0, 1] rfl) hf
set_option maxRecDepth 100000 in
set_option maxHeartbeats 4000000 in
theorem ct_MOD_floating (l : Launch) (x : cx_T) (a1 : Int32) (σ : sg_T) (z : Int32 × sg_T) (hf : fn_MOD_floating a1 σ = some z) : ct_i l nN_MOD_floating nC_MOD_floating 2 (some .int) 1 x [.ref (x.2.2 82), .int a1] σ z.1 z.2 := by
  refine en_i (own := nR_MOD) (by decide) (Nat.le_of_ble_eq_true rfl) rfl ?_
  intro p e s m below meth c ls F hw hl
  have F9 := F
  obtain ⟨hx, hb, hml, hr, hlk, hown, hT⟩ := F
  have hl : lv_has ls 2 [(0, .ref (x.2.2 82)), (1, .int a1)] := hl
  unfold fn_MOD_floating at hf
  refine lv_aload_n hx hb nD_MOD_floating_0 rfl (lv_at hl 0 rfl) ?_
  refine lv_iconst (v := 0) hx hb nD_MOD_floating_1 (by decide) ?_
  refine wr_MOD_MOD_threw F9 hw nD_MOD_floating_2 (fun H locs hw => ?_)
  refine lv_iload_n hx hb nD_MOD_floating_5 rfl (lv_at hl 1 rfl) ?_
  obtain ⟨z1, hz1, hf⟩ := bd_of hf
  refine cl_si (As := [.int a1]) (rest := []) F9 hw (ct_MOD_isRegister l x a1  _ _ hz1) wc_MOD_145 hd_MOD_isRegister (by decide) hl rfl (Nat.le_of_ble_eq_true rfl) nD_MOD_floating_6 (fun H locs hw => ?_)
  refine lv_if_eq (tgt := 21) hx hb nD_MOD_floating_9 (by decide) (fun h2 => ?_) (fun h2 => ?_)
  · rw [if_pos h2] at hf
    refine lv_iconst (v := 0) hx hb nD_MOD_floating_21 (by decide) ?_
    exact rt_i F9 hw rfl nD_MOD_floating_22 hf
  · rw [if_neg h2] at hf
    refine lv_aload_n hx hb nD_MOD_floating_12 rfl (lv_at hl 0 rfl) ?_
    refine rd_MOD_MOD_value F9 hw nD_MOD_floating_13 ?_
    refine lv_iload_n hx hb nD_MOD_floating_16 rfl (lv_at hl 1 rfl) ?_
    obtain ⟨g3, hf⟩ := gt_of hf
    refine al_m_value F9 hw g3 nD_MOD_floating_17 ?_
    refine lv_goto (tgt := 22) hx hb nD_MOD_floating_18 (by decide) ?_
    exact rt_i F9 hw rfl nD_MOD_floating_22 hf
set_option maxRecDepth 100000 in
set_option maxHeartbeats 4000000 in
theorem ct_MOD_general (l : Launch) (x : cx_T) (a1 : Int32) (σ : sg_T) (z : Int32 × sg_T) (hf : fn_MOD_general a1 σ = some z) : ct_i l nN_MOD_general nC_MOD_general 2 (some .int) 1 x [.ref (x.2.2 82), .int a1] σ z.1 z.2 := by
  refine en_i (own := nR_MOD) (by decide) (Nat.le_of_ble_eq_true rfl) rfl ?_
  intro p e s m below meth c ls F hw hl
  have F9 := F
  obtain ⟨hx, hb, hml, hr, hlk, hown, hT⟩ := F
  have hl : lv_has ls 2 [(0, .ref (x.2.2 82)), (1, .int a1)] := hl
  unfold fn_MOD_general at hf
  refine lv_aload_n hx hb nD_MOD_general_0 rfl (lv_at hl 0 rfl) ?_
  refine lv_iconst (v := 0) hx hb nD_MOD_general_1 (by decide) ?_
  refine wr_MOD_MOD_threw F9 hw nD_MOD_general_2 (fun H locs hw => ?_)
  refine lv_iload_n hx hb nD_MOD_general_5 rfl (lv_at hl 1 rfl) ?_
  obtain ⟨z1, hz1, hf⟩ := bd_of hf
  refine cl_si (As := [.int a1]) (rest := []) F9 hw (ct_MOD_isRegister l x a1  _ _ hz1) wc_MOD_145 hd_MOD_isRegister (by decide) hl rfl (Nat.le_of_ble_eq_true rfl) nD_MOD_general_6 (fun H locs hw => ?_)
  refine lv_if_eq (tgt := 21) hx hb nD_MOD_general_9 (by decide) (fun h2 => ?_) (fun h2 => ?_)
  · rw [if_pos h2] at hf
    refine lv_iconst (v := 0) hx hb nD_MOD_general_21 (by decide) ?_
    exact rt_i F9 hw rfl nD_MOD_general_22 hf
  · rw [if_neg h2] at hf
    refine lv_aload_n hx hb nD_MOD_general_12 rfl (lv_at hl 0 rfl) ?_
    refine rd_MOD_MOD_general F9 hw nD_MOD_general_13 ?_
    refine lv_iload_n hx hb nD_MOD_general_16 rfl (lv_at hl 1 rfl) ?_
    obtain ⟨g3, hf⟩ := gt_of hf
    refine al_m_general F9 hw g3 nD_MOD_general_17 ?_
    refine lv_goto (tgt := 22) hx hb nD_MOD_general_18 (by decide) ?_
    exact rt_i F9 hw rfl nD_MOD_general_22 hf
set_option maxRecDepth 100000 in
set_option maxHeartbeats 4000000 in
theorem ct_MOD_word (l : Launch) (x : cx_T) (a1 : Int32) (σ : sg_T) (z : Int32 × sg_T) (hf : fn_MOD_word a1 σ = some z) : ct_i l nN_MOD_word nC_MOD_word 2 (some .int) 1 x [.ref (x.2.2 82), .int a1] σ z.1 z.2 := by
  refine en_i (own := nR_MOD) (by decide) (Nat.le_of_ble_eq_true rfl) rfl ?_
  intro p e s m below meth c ls F hw hl
  have F9 := F
  obtain ⟨hx, hb, hml, hr, hlk, hown, hT⟩ := F
  have hl : lv_has ls 2 [(0, .ref (x.2.2 82)), (1, .int a1)] := hl
  unfold fn_MOD_word at hf
  refine lv_aload_n hx hb nD_MOD_word_0 rfl (lv_at hl 0 rfl) ?_
  refine lv_iconst (v := 0) hx hb nD_MOD_word_1 (by decide) ?_
  refine wr_MOD_MOD_threw F9 hw nD_MOD_word_2 (fun H locs hw => ?_)
  refine lv_iload_n hx hb nD_MOD_word_5 rfl (lv_at hl 1 rfl) ?_
  obtain ⟨z1, hz1, hf⟩ := bd_of hf
  refine cl_si (As := [.int a1]) (rest := []) F9 hw (ct_MOD_isPlace l x a1  _ _ hz1) wc_MOD_161 hd_MOD_isPlace (by decide) hl rfl (Nat.le_of_ble_eq_true rfl) nD_MOD_word_6 (fun H locs hw => ?_)
  refine lv_if_eq (tgt := 21) hx hb nD_MOD_word_9 (by decide) (fun h2 => ?_) (fun h2 => ?_)
  · rw [if_pos h2] at hf
    refine lv_iconst (v := 0) hx hb nD_MOD_word_21 (by decide) ?_
    exact rt_i F9 hw rfl nD_MOD_word_22 hf
  · rw [if_neg h2] at hf
    refine lv_aload_n hx hb nD_MOD_word_12 rfl (lv_at hl 0 rfl) ?_
    refine rd_MOD_MOD_words F9 hw nD_MOD_word_13 ?_
    refine lv_iload_n hx hb nD_MOD_word_16 rfl (lv_at hl 1 rfl) ?_
    obtain ⟨g3, hf⟩ := gt_of hf
    refine al_m_words F9 hw g3 nD_MOD_word_17 ?_
    refine lv_goto (tgt := 22) hx hb nD_MOD_word_18 (by decide) ?_
    exact rt_i F9 hw rfl nD_MOD_word_22 hf
set_option maxRecDepth 100000 in
set_option maxHeartbeats 4000000 in
theorem ct_MOD_tag (l : Launch) (x : cx_T) (a1 : Int32) (σ : sg_T) (z : Int32 × sg_T) (hf : fn_MOD_tag a1 σ = some z) : ct_i l nN_MOD_tag nC_MOD_tag 2 (some .int) 0 x [.ref (x.2.2 82), .int a1] σ z.1 z.2 := by
  refine en_i (own := nR_MOD) (by decide) (Nat.le_of_ble_eq_true rfl) rfl ?_
  intro p e s m below meth c ls F hw hl
  have F9 := F
  obtain ⟨hx, hb, hml, hr, hlk, hown, hT⟩ := F
  have hl : lv_has ls 2 [(0, .ref (x.2.2 82)), (1, .int a1)] := hl
  unfold fn_MOD_tag at hf
  refine lv_aload_n hx hb nD_MOD_tag_0 rfl (lv_at hl 0 rfl) ?_
  refine lv_iconst (v := 0) hx hb nD_MOD_tag_1 (by decide) ?_
  refine wr_MOD_MOD_threw F9 hw nD_MOD_tag_2 (fun H locs hw => ?_)
  refine lv_iload_n hx hb nD_MOD_tag_5 rfl (lv_at hl 1 rfl) ?_
  refine lv_if_lt (tgt := 23) hx hb nD_MOD_tag_6 (by decide) (fun h1 => ?_) (fun h1 => ?_)
  · rw [if_pos h1] at hf
    refine lv_iconst (v := -1) hx hb nD_MOD_tag_23 (by decide) ?_
    exact rt_i F9 hw rfl nD_MOD_tag_24 hf
  · rw [if_neg h1] at hf
    refine lv_iload_n hx hb nD_MOD_tag_9 rfl (lv_at hl 1 rfl) ?_
    refine lv_iconst (v := 4) hx hb nD_MOD_tag_10 (by decide) ?_
    refine lv_icmp_gt (tgt := 23) hx hb nD_MOD_tag_11 (by decide) (fun h2 => ?_) (fun h2 => ?_)
    · rw [if_pos h2] at hf
      refine lv_iconst (v := -1) hx hb nD_MOD_tag_23 (by decide) ?_
      exact rt_i F9 hw rfl nD_MOD_tag_24 hf
    · rw [if_neg h2] at hf
      refine lv_aload_n hx hb nD_MOD_tag_14 rfl (lv_at hl 0 rfl) ?_
      refine rd_MOD_MOD_waits F9 hw nD_MOD_tag_15 ?_
      refine lv_iload_n hx hb nD_MOD_tag_18 rfl (lv_at hl 1 rfl) ?_
      obtain ⟨g3, hf⟩ := gt_of hf
      refine al_m_waits F9 hw g3 nD_MOD_tag_19 ?_
      refine lv_goto (tgt := 24) hx hb nD_MOD_tag_20 (by decide) ?_
      exact rt_i F9 hw rfl nD_MOD_tag_24 hf
set_option maxRecDepth 100000 in
set_option maxHeartbeats 4000000 in
theorem ct_MOD_place (l : Launch) (x : cx_T) (a1 : Int32) (σ : sg_T) (z : Int32 × sg_T) (hf : fn_MOD_place a1 σ = some z) : ct_i l nN_MOD_place nC_MOD_place 2 (some .int) 0 x [.ref (x.2.2 82), .int a1] σ z.1 z.2 := by
  refine en_i (own := nR_MOD) (by decide) (Nat.le_of_ble_eq_true rfl) rfl ?_
  intro p e s m below meth c ls F hw hl
  have F9 := F
  obtain ⟨hx, hb, hml, hr, hlk, hown, hT⟩ := F
  have hl : lv_has ls 2 [(0, .ref (x.2.2 82)), (1, .int a1)] := hl
  unfold fn_MOD_place at hf
  refine lv_aload_n hx hb nD_MOD_place_0 rfl (lv_at hl 0 rfl) ?_
  refine lv_iconst (v := 0) hx hb nD_MOD_place_1 (by decide) ?_
  refine wr_MOD_MOD_threw F9 hw nD_MOD_place_2 (fun H locs hw => ?_)
  refine lv_iload_n hx hb nD_MOD_place_5 rfl (lv_at hl 1 rfl) ?_
  refine lv_iconst (v := 1) hx hb nD_MOD_place_6 (by decide) ?_
  refine lv_icmp_lt (tgt := 25) hx hb nD_MOD_place_7 (by decide) (fun h1 => ?_) (fun h1 => ?_)
  · rw [if_pos h1] at hf
    refine lv_iconst (v := -1) hx hb nD_MOD_place_25 (by decide) ?_
    exact rt_i F9 hw rfl nD_MOD_place_26 hf
  · rw [if_neg h1] at hf
    refine lv_iload_n hx hb nD_MOD_place_10 rfl (lv_at hl 1 rfl) ?_
    refine lv_bipush (v := 12) hx hb nD_MOD_place_11 (by decide) ?_
    refine lv_icmp_gt (tgt := 25) hx hb nD_MOD_place_13 (by decide) (fun h2 => ?_) (fun h2 => ?_)
    · rw [if_pos h2] at hf
      refine lv_iconst (v := -1) hx hb nD_MOD_place_25 (by decide) ?_
      exact rt_i F9 hw rfl nD_MOD_place_26 hf
    · rw [if_neg h2] at hf
      refine lv_aload_n hx hb nD_MOD_place_16 rfl (lv_at hl 0 rfl) ?_
      refine rd_MOD_MOD_place F9 hw nD_MOD_place_17 ?_
      refine lv_iload_n hx hb nD_MOD_place_20 rfl (lv_at hl 1 rfl) ?_
      obtain ⟨g3, hf⟩ := gt_of hf
      refine al_m_place F9 hw g3 nD_MOD_place_21 ?_
      refine lv_goto (tgt := 26) hx hb nD_MOD_place_22 (by decide) ?_
      exact rt_i F9 hw rfl nD_MOD_place_26 hf
set_option maxRecDepth 100000 in
set_option maxHeartbeats 4000000 in
theorem ct_MOD_about (l : Launch) (x : cx_T) (a1 : Int32) (σ : sg_T) (z : Int32 × sg_T) (hf : fn_MOD_about a1 σ = some z) : ct_i l nN_MOD_about nC_MOD_about 2 (some .int) 0 x [.ref (x.2.2 82), .int a1] σ z.1 z.2 := by
  refine en_i (own := nR_MOD) (by decide) (Nat.le_of_ble_eq_true rfl) rfl ?_
  intro p e s m below meth c ls F hw hl
  have F9 := F
  obtain ⟨hx, hb, hml, hr, hlk, hown, hT⟩ := F
  have hl : lv_has ls 2 [(0, .ref (x.2.2 82)), (1, .int a1)] := hl
  unfold fn_MOD_about at hf
  refine lv_aload_n hx hb nD_MOD_about_0 rfl (lv_at hl 0 rfl) ?_
  refine lv_iconst (v := 0) hx hb nD_MOD_about_1 (by decide) ?_
  refine wr_MOD_MOD_threw F9 hw nD_MOD_about_2 (fun H locs hw => ?_)
  refine lv_iload_n hx hb nD_MOD_about_5 rfl (lv_at hl 1 rfl) ?_
  by_cases h1 : a1 = (0 : Int32)
  · rw [if_pos h1] at hf
    refine sw_in (tgt := 48) (0) hx hb nD_MOD_about_6 h1 (by decide) (by decide) rfl (by decide) ?_
    refine lv_aload_n hx hb nD_MOD_about_48 rfl (lv_at hl 0 rfl) ?_
    refine rd_MOD_MOD_state F9 hw nD_MOD_about_49 ?_
    exact rt_i F9 hw rfl nD_MOD_about_52 hf
  rw [if_neg h1] at hf
  by_cases h2 : a1 = (1 : Int32)
  · rw [if_pos h2] at hf
    refine sw_in (tgt := 53) (1) hx hb nD_MOD_about_6 h2 (by decide) (by decide) rfl (by decide) ?_
    refine lv_aload_n hx hb nD_MOD_about_53 rfl (lv_at hl 0 rfl) ?_
    refine rd_MOD_MOD_next F9 hw nD_MOD_about_54 ?_
    exact rt_i F9 hw rfl nD_MOD_about_57 hf
  rw [if_neg h2] at hf
  by_cases h3 : a1 = (2 : Int32)
  · rw [if_pos h3] at hf
    refine sw_in (tgt := 58) (2) hx hb nD_MOD_about_6 h3 (by decide) (by decide) rfl (by decide) ?_
    refine lv_aload_n hx hb nD_MOD_about_58 rfl (lv_at hl 0 rfl) ?_
    refine rd_MOD_MOD_noted F9 hw nD_MOD_about_59 ?_
    exact rt_i F9 hw rfl nD_MOD_about_62 hf
  rw [if_neg h3] at hf
  by_cases h4 : a1 = (3 : Int32)
  · rw [if_pos h4] at hf
    refine sw_in (tgt := 63) (3) hx hb nD_MOD_about_6 h4 (by decide) (by decide) rfl (by decide) ?_
    refine lv_aload_n hx hb nD_MOD_about_63 rfl (lv_at hl 0 rfl) ?_
    refine rd_MOD_MOD_value F9 hw nD_MOD_about_64 ?_
    refine lv_iconst (v := 4) hx hb nD_MOD_about_67 (by decide) ?_
    obtain ⟨g5, hf⟩ := gt_of hf
    refine al_m_value F9 hw g5 nD_MOD_about_68 ?_
    exact rt_i F9 hw rfl nD_MOD_about_69 hf
  rw [if_neg h4] at hf
  by_cases h6 : a1 = (4 : Int32)
  · rw [if_pos h6] at hf
    refine sw_in (tgt := 70) (4) hx hb nD_MOD_about_6 h6 (by decide) (by decide) rfl (by decide) ?_
    refine lv_aload_n hx hb nD_MOD_about_70 rfl (lv_at hl 0 rfl) ?_
    refine rd_MOD_MOD_cycles F9 hw nD_MOD_about_71 ?_
    exact rt_i F9 hw rfl nD_MOD_about_74 hf
  rw [if_neg h6] at hf
  by_cases h7 : a1 = (5 : Int32)
  · rw [if_pos h7] at hf
    refine sw_in (tgt := 75) (5) hx hb nD_MOD_about_6 h7 (by decide) (by decide) rfl (by decide) ?_
    refine lv_aload_n hx hb nD_MOD_about_75 rfl (lv_at hl 0 rfl) ?_
    refine rd_MOD_MOD_handed F9 hw nD_MOD_about_76 ?_
    exact rt_i F9 hw rfl nD_MOD_about_79 hf
  rw [if_neg h7] at hf
  by_cases h8 : a1 = (6 : Int32)
  · rw [if_pos h8] at hf
    refine sw_in (tgt := 80) (6) hx hb nD_MOD_about_6 h8 (by decide) (by decide) rfl (by decide) ?_
    refine lv_aload_n hx hb nD_MOD_about_80 rfl (lv_at hl 0 rfl) ?_
    refine rd_MOD_MOD_many F9 hw nD_MOD_about_81 ?_
    exact rt_i F9 hw rfl nD_MOD_about_84 hf
  rw [if_neg h8] at hf
  refine lv_tableOut (tgt := 85) hx hb nD_MOD_about_6 (by have q0 := it_ne h1; have q1 := it_ne h2; have q2 := it_ne h3; have q3 := it_ne h4; have q4 := it_ne h6; have q5 := it_ne h7; have q6 := it_ne h8; simp only [show (0 : Int32).toInt = 0 from rfl, show (1 : Int32).toInt = 1 from rfl, show (2 : Int32).toInt = 2 from rfl, show (3 : Int32).toInt = 3 from rfl, show (4 : Int32).toInt = 4 from rfl, show (5 : Int32).toInt = 5 from rfl, show (6 : Int32).toInt = 6 from rfl] at *; omega) (by decide) ?_
  refine lv_iconst (v := -1) hx hb nD_MOD_about_85 (by decide) ?_
  exact rt_i F9 hw rfl nD_MOD_about_86 hf
end MT
