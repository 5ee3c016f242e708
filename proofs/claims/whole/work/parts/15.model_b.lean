def fn_MOD_isRegister (a0 : Int32) (σ : sg_T) : Option (Int32 × sg_T) := if a0 < 0 then some ((0 : Int32), σ) else if (3 : Int32) < a0 then some ((0 : Int32), σ) else some ((1 : Int32), σ)
def fn_MOD_goes (σ : sg_T) : Option (Int32 × sg_T) := if (σ 30 3) = 0 then some ((1 : Int32), σ) else if (σ 30 3) = (1 : Int32) then some ((1 : Int32), σ) else some ((0 : Int32), σ)
def fb_MOD_put_92 (a1 : Int32) (a2 : Int32) (a3 : Int32) (a4 : Int32) (a5 : Int32) (t0 : Int32) (σ : sg_T) : Option (Int32 × sg_T) := if ((sg_up σ 30 9 t0) 30 9) ≤ 0 then gt_d (ib_I ((sg_up σ 30 9 t0) 30 2) 30) (gt_d (ib_I ((sg_up (sg_up σ 30 9 t0) 31 (tn_I ((sg_up σ 30 9 t0) 30 2)) a1) 30 2) 30) (gt_d (ib_I ((sg_up (sg_up (sg_up σ 30 9 t0) 31 (tn_I ((sg_up σ 30 9 t0) 30 2)) a1) 32 (tn_I ((sg_up (sg_up σ 30 9 t0) 31 (tn_I ((sg_up σ 30 9 t0) 30 2)) a1) 30 2)) a2) 30 2) 30) (gt_d (ib_I ((sg_up (sg_up (sg_up (sg_up σ 30 9 t0) 31 (tn_I ((sg_up σ 30 9 t0) 30 2)) a1) 32 (tn_I ((sg_up (sg_up σ 30 9 t0) 31 (tn_I ((sg_up σ 30 9 t0) 30 2)) a1) 30 2)) a2) 33 (tn_I ((sg_up (sg_up (sg_up σ 30 9 t0) 31 (tn_I ((sg_up σ 30 9 t0) 30 2)) a1) 32 (tn_I ((sg_up (sg_up σ 30 9 t0) 31 (tn_I ((sg_up σ 30 9 t0) 30 2)) a1) 30 2)) a2) 30 2)) a3) 30 2) 30) (gt_d (ib_I ((sg_up (sg_up (sg_up (sg_up (sg_up σ 30 9 t0) 31 (tn_I ((sg_up σ 30 9 t0) 30 2)) a1) 32 (tn_I ((sg_up (sg_up σ 30 9 t0) 31 (tn_I ((sg_up σ 30 9 t0) 30 2)) a1) 30 2)) a2) 33 (tn_I ((sg_up (sg_up (sg_up σ 30 9 t0) 31 (tn_I ((sg_up σ 30 9 t0) 30 2)) a1) 32 (tn_I ((sg_up (sg_up σ 30 9 t0) 31 (tn_I ((sg_up σ 30 9 t0) 30 2)) a1) 30 2)) a2) 30 2)) a3) 34 (tn_I ((sg_up (sg_up (sg_up (sg_up σ 30 9 t0) 31 (tn_I ((sg_up σ 30 9 t0) 30 2)) a1) 32 (tn_I ((sg_up (sg_up σ 30 9 t0) 31 (tn_I ((sg_up σ 30 9 t0) 30 2)) a1) 30 2)) a2) 33 (tn_I ((sg_up (sg_up (sg_up σ 30 9 t0) 31 (tn_I ((sg_up σ 30 9 t0) 30 2)) a1) 32 (tn_I ((sg_up (sg_up σ 30 9 t0) 31 (tn_I ((sg_up σ 30 9 t0) 30 2)) a1) 30 2)) a2) 30 2)) a3) 30 2)) a4) 30 2) 30) (some (((sg_up (sg_up (sg_up (sg_up (sg_up (sg_up (sg_up σ 30 9 t0) 31 (tn_I ((sg_up σ 30 9 t0) 30 2)) a1) 32 (tn_I ((sg_up (sg_up σ 30 9 t0) 31 (tn_I ((sg_up σ 30 9 t0) 30 2)) a1) 30 2)) a2) 33 (tn_I ((sg_up (sg_up (sg_up σ 30 9 t0) 31 (tn_I ((sg_up σ 30 9 t0) 30 2)) a1) 32 (tn_I ((sg_up (sg_up σ 30 9 t0) 31 (tn_I ((sg_up σ 30 9 t0) 30 2)) a1) 30 2)) a2) 30 2)) a3) 34 (tn_I ((sg_up (sg_up (sg_up (sg_up σ 30 9 t0) 31 (tn_I ((sg_up σ 30 9 t0) 30 2)) a1) 32 (tn_I ((sg_up (sg_up σ 30 9 t0) 31 (tn_I ((sg_up σ 30 9 t0) 30 2)) a1) 30 2)) a2) 33 (tn_I ((sg_up (sg_up (sg_up σ 30 9 t0) 31 (tn_I ((sg_up σ 30 9 t0) 30 2)) a1) 32 (tn_I ((sg_up (sg_up σ 30 9 t0) 31 (tn_I ((sg_up σ 30 9 t0) 30 2)) a1) 30 2)) a2) 30 2)) a3) 30 2)) a4) 35 (tn_I ((sg_up (sg_up (sg_up (sg_up (sg_up σ 30 9 t0) 31 (tn_I ((sg_up σ 30 9 t0) 30 2)) a1) 32 (tn_I ((sg_up (sg_up σ 30 9 t0) 31 (tn_I ((sg_up σ 30 9 t0) 30 2)) a1) 30 2)) a2) 33 (tn_I ((sg_up (sg_up (sg_up σ 30 9 t0) 31 (tn_I ((sg_up σ 30 9 t0) 30 2)) a1) 32 (tn_I ((sg_up (sg_up σ 30 9 t0) 31 (tn_I ((sg_up σ 30 9 t0) 30 2)) a1) 30 2)) a2) 30 2)) a3) 34 (tn_I ((sg_up (sg_up (sg_up (sg_up σ 30 9 t0) 31 (tn_I ((sg_up σ 30 9 t0) 30 2)) a1) 32 (tn_I ((sg_up (sg_up σ 30 9 t0) 31 (tn_I ((sg_up σ 30 9 t0) 30 2)) a1) 30 2)) a2) 33 (tn_I ((sg_up (sg_up (sg_up σ 30 9 t0) 31 (tn_I ((sg_up σ 30 9 t0) 30 2)) a1) 32 (tn_I ((sg_up (sg_up σ 30 9 t0) 31 (tn_I ((sg_up σ 30 9 t0) 30 2)) a1) 30 2)) a2) 30 2)) a3) 30 2)) a4) 30 2)) a5) 30 2 (((sg_up (sg_up (sg_up (sg_up (sg_up (sg_up σ 30 9 t0) 31 (tn_I ((sg_up σ 30 9 t0) 30 2)) a1) 32 (tn_I ((sg_up (sg_up σ 30 9 t0) 31 (tn_I ((sg_up σ 30 9 t0) 30 2)) a1) 30 2)) a2) 33 (tn_I ((sg_up (sg_up (sg_up σ 30 9 t0) 31 (tn_I ((sg_up σ 30 9 t0) 30 2)) a1) 32 (tn_I ((sg_up (sg_up σ 30 9 t0) 31 (tn_I ((sg_up σ 30 9 t0) 30 2)) a1) 30 2)) a2) 30 2)) a3) 34 (tn_I ((sg_up (sg_up (sg_up (sg_up σ 30 9 t0) 31 (tn_I ((sg_up σ 30 9 t0) 30 2)) a1) 32 (tn_I ((sg_up (sg_up σ 30 9 t0) 31 (tn_I ((sg_up σ 30 9 t0) 30 2)) a1) 30 2)) a2) 33 (tn_I ((sg_up (sg_up (sg_up σ 30 9 t0) 31 (tn_I ((sg_up σ 30 9 t0) 30 2)) a1) 32 (tn_I ((sg_up (sg_up σ 30 9 t0) 31 (tn_I ((sg_up σ 30 9 t0) 30 2)) a1) 30 2)) a2) 30 2)) a3) 30 2)) a4) 35 (tn_I ((sg_up (sg_up (sg_up (sg_up (sg_up σ 30 9 t0) 31 (tn_I ((sg_up σ 30 9 t0) 30 2)) a1) 32 (tn_I ((sg_up (sg_up σ 30 9 t0) 31 (tn_I ((sg_up σ 30 9 t0) 30 2)) a1) 30 2)) a2) 33 (tn_I ((sg_up (sg_up (sg_up σ 30 9 t0) 31 (tn_I ((sg_up σ 30 9 t0) 30 2)) a1) 32 (tn_I ((sg_up (sg_up σ 30 9 t0) 31 (tn_I ((sg_up σ 30 9 t0) 30 2)) a1) 30 2)) a2) 30 2)) a3) 34 (tn_I ((sg_up (sg_up (sg_up (sg_up σ 30 9 t0) 31 (tn_I ((sg_up σ 30 9 t0) 30 2)) a1) 32 (tn_I ((sg_up (sg_up σ 30 9 t0) 31 (tn_I ((sg_up σ 30 9 t0) 30 2)) a1) 30 2)) a2) 33 (tn_I ((sg_up (sg_up (sg_up σ 30 9 t0) 31 (tn_I ((sg_up σ 30 9 t0) 30 2)) a1) 32 (tn_I ((sg_up (sg_up σ 30 9 t0) 31 (tn_I ((sg_up σ 30 9 t0) 30 2)) a1) 30 2)) a2) 30 2)) a3) 30 2)) a4) 30 2)) a5) 30 2) + (1 : Int32))) 30 2) - (1 : Int32), sg_up (sg_up (sg_up (sg_up (sg_up (sg_up (sg_up σ 30 9 t0) 31 (tn_I ((sg_up σ 30 9 t0) 30 2)) a1) 32 (tn_I ((sg_up (sg_up σ 30 9 t0) 31 (tn_I ((sg_up σ 30 9 t0) 30 2)) a1) 30 2)) a2) 33 (tn_I ((sg_up (sg_up (sg_up σ 30 9 t0) 31 (tn_I ((sg_up σ 30 9 t0) 30 2)) a1) 32 (tn_I ((sg_up (sg_up σ 30 9 t0) 31 (tn_I ((sg_up σ 30 9 t0) 30 2)) a1) 30 2)) a2) 30 2)) a3) 34 (tn_I ((sg_up (sg_up (sg_up (sg_up σ 30 9 t0) 31 (tn_I ((sg_up σ 30 9 t0) 30 2)) a1) 32 (tn_I ((sg_up (sg_up σ 30 9 t0) 31 (tn_I ((sg_up σ 30 9 t0) 30 2)) a1) 30 2)) a2) 33 (tn_I ((sg_up (sg_up (sg_up σ 30 9 t0) 31 (tn_I ((sg_up σ 30 9 t0) 30 2)) a1) 32 (tn_I ((sg_up (sg_up σ 30 9 t0) 31 (tn_I ((sg_up σ 30 9 t0) 30 2)) a1) 30 2)) a2) 30 2)) a3) 30 2)) a4) 35 (tn_I ((sg_up (sg_up (sg_up (sg_up (sg_up σ 30 9 t0) 31 (tn_I ((sg_up σ 30 9 t0) 30 2)) a1) 32 (tn_I ((sg_up (sg_up σ 30 9 t0) 31 (tn_I ((sg_up σ 30 9 t0) 30 2)) a1) 30 2)) a2) 33 (tn_I ((sg_up (sg_up (sg_up σ 30 9 t0) 31 (tn_I ((sg_up σ 30 9 t0) 30 2)) a1) 32 (tn_I ((sg_up (sg_up σ 30 9 t0) 31 (tn_I ((sg_up σ 30 9 t0) 30 2)) a1) 30 2)) a2) 30 2)) a3) 34 (tn_I ((sg_up (sg_up (sg_up (sg_up σ 30 9 t0) 31 (tn_I ((sg_up σ 30 9 t0) 30 2)) a1) 32 (tn_I ((sg_up (sg_up σ 30 9 t0) 31 (tn_I ((sg_up σ 30 9 t0) 30 2)) a1) 30 2)) a2) 33 (tn_I ((sg_up (sg_up (sg_up σ 30 9 t0) 31 (tn_I ((sg_up σ 30 9 t0) 30 2)) a1) 32 (tn_I ((sg_up (sg_up σ 30 9 t0) 31 (tn_I ((sg_up σ 30 9 t0) 30 2)) a1) 30 2)) a2) 30 2)) a3) 30 2)) a4) 30 2)) a5) 30 2 (((sg_up (sg_up (sg_up (sg_up (sg_up (sg_up σ 30 9 t0) 31 (tn_I ((sg_up σ 30 9 t0) 30 2)) a1) 32 (tn_I ((sg_up (sg_up σ 30 9 t0) 31 (tn_I ((sg_up σ 30 9 t0) 30 2)) a1) 30 2)) a2) 33 (tn_I ((sg_up (sg_up (sg_up σ 30 9 t0) 31 (tn_I ((sg_up σ 30 9 t0) 30 2)) a1) 32 (tn_I ((sg_up (sg_up σ 30 9 t0) 31 (tn_I ((sg_up σ 30 9 t0) 30 2)) a1) 30 2)) a2) 30 2)) a3) 34 (tn_I ((sg_up (sg_up (sg_up (sg_up σ 30 9 t0) 31 (tn_I ((sg_up σ 30 9 t0) 30 2)) a1) 32 (tn_I ((sg_up (sg_up σ 30 9 t0) 31 (tn_I ((sg_up σ 30 9 t0) 30 2)) a1) 30 2)) a2) 33 (tn_I ((sg_up (sg_up (sg_up σ 30 9 t0) 31 (tn_I ((sg_up σ 30 9 t0) 30 2)) a1) 32 (tn_I ((sg_up (sg_up σ 30 9 t0) 31 (tn_I ((sg_up σ 30 9 t0) 30 2)) a1) 30 2)) a2) 30 2)) a3) 30 2)) a4) 35 (tn_I ((sg_up (sg_up (sg_up (sg_up (sg_up σ 30 9 t0) 31 (tn_I ((sg_up σ 30 9 t0) 30 2)) a1) 32 (tn_I ((sg_up (sg_up σ 30 9 t0) 31 (tn_I ((sg_up σ 30 9 t0) 30 2)) a1) 30 2)) a2) 33 (tn_I ((sg_up (sg_up (sg_up σ 30 9 t0) 31 (tn_I ((sg_up σ 30 9 t0) 30 2)) a1) 32 (tn_I ((sg_up (sg_up σ 30 9 t0) 31 (tn_I ((sg_up σ 30 9 t0) 30 2)) a1) 30 2)) a2) 30 2)) a3) 34 (tn_I ((sg_up (sg_up (sg_up (sg_up σ 30 9 t0) 31 (tn_I ((sg_up σ 30 9 t0) 30 2)) a1) 32 (tn_I ((sg_up (sg_up σ 30 9 t0) 31 (tn_I ((sg_up σ 30 9 t0) 30 2)) a1) 30 2)) a2) 33 (tn_I ((sg_up (sg_up (sg_up σ 30 9 t0) 31 (tn_I ((sg_up σ 30 9 t0) 30 2)) a1) 32 (tn_I ((sg_up (sg_up σ 30 9 t0) 31 (tn_I ((sg_up σ 30 9 t0) 30 2)) a1) 30 2)) a2) 30 2)) a3) 30 2)) a4) 30 2)) a5) 30 2) + (1 : Int32)))))))) else some ((0 : Int32), sg_up σ 30 9 t0)
def fb_MOD_put_87 (a1 : Int32) (a2 : Int32) (a3 : Int32) (a4 : Int32) (a5 : Int32) (σ : sg_T) : Option (Int32 × sg_T) := fb_MOD_put_92 a1 a2 a3 a4 a5 (2 : Int32) σ
def fb_MOD_put_59 (a1 : Int32) (a2 : Int32) (a3 : Int32) (a4 : Int32) (a5 : Int32) (t0 : Int32) (σ : sg_T) : Option (Int32 × sg_T) := if t0 = 0 then fb_MOD_put_92 a1 a2 a3 a4 a5 (1 : Int32) σ else if (σ 30 2) = (30 : Int32) then fb_MOD_put_87 a1 a2 a3 a4 a5 σ else (fn_MOD_goes  σ).bind (fun z10 => if z10.1 = 0 then fb_MOD_put_92 a1 a2 a3 a4 a5 (0 : Int32) z10.2 else fb_MOD_put_87 a1 a2 a3 a4 a5 z10.2)
def fb_MOD_put_58 (a1 : Int32) (a2 : Int32) (a3 : Int32) (a4 : Int32) (a5 : Int32) (σ : sg_T) : Option (Int32 × sg_T) := fb_MOD_put_59 a1 a2 a3 a4 a5 (0 : Int32) σ
def fb_MOD_put_54 (a1 : Int32) (a2 : Int32) (a3 : Int32) (a4 : Int32) (a5 : Int32) (σ : sg_T) : Option (Int32 × sg_T) := fb_MOD_put_59 a1 a2 a3 a4 a5 (1 : Int32) σ
def fn_MOD_put (a1 : Int32) (a2 : Int32) (a3 : Int32) (a4 : Int32) (a5 : Int32) (σ : sg_T) : Option (Int32 × sg_T) := if a1 < 0 then fb_MOD_put_58 a1 a2 a3 a4 a5 σ else if (12 : Int32) < a1 then fb_MOD_put_58 a1 a2 a3 a4 a5 σ else (fn_MOD_isRegister a2 σ).bind (fun z13 => if z13.1 = 0 then fb_MOD_put_58 a1 a2 a3 a4 a5 z13.2 else (fn_MOD_isRegister a3 z13.2).bind (fun z15 => if z15.1 = 0 then fb_MOD_put_58 a1 a2 a3 a4 a5 z15.2 else (fn_MOD_isRegister a4 z15.2).bind (fun z17 => if z17.1 = 0 then fb_MOD_put_58 a1 a2 a3 a4 a5 z17.2 else if a1 = (8 : Int32) then fb_MOD_put_54 a1 a2 a3 a4 a5 z17.2 else if a5 < (-1000 : Int32) then fb_MOD_put_58 a1 a2 a3 a4 a5 z17.2 else if (1000 : Int32) < a5 then fb_MOD_put_58 a1 a2 a3 a4 a5 z17.2 else fb_MOD_put_54 a1 a2 a3 a4 a5 z17.2)))
def fb_MOD_start_29 (a1 : Int32) (t0 : Int32) (σ : sg_T) : Option (Int32 × sg_T) := if ((sg_up σ 30 9 t0) 30 9) ≤ 0 then some ((1 : Int32), sg_up (sg_up (sg_up (sg_up σ 30 9 t0) 30 4 a1) 30 5 (0 : Int32)) 30 3 (0 : Int32)) else some ((0 : Int32), sg_up σ 30 9 t0)
def fb_MOD_start_13 (a1 : Int32) (σ : sg_T) : Option (Int32 × sg_T) := fb_MOD_start_29 a1 (1 : Int32) σ
def fn_MOD_start (a1 : Int32) (σ : sg_T) : Option (Int32 × sg_T) := if a1 < 0 then fb_MOD_start_13 a1 σ else if a1 < (σ 30 2) then (fn_MOD_goes  σ).bind (fun z4 => if z4.1 = 0 then fb_MOD_start_29 a1 (0 : Int32) z4.2 else fb_MOD_start_29 a1 (2 : Int32) z4.2) else fb_MOD_start_13 a1 σ
def fb_MOD_set_24 (a1 : Int32) (a2 : Int32) (t0 : Int32) (σ : sg_T) : Option (Int32 × sg_T) := if ((sg_up σ 30 9 t0) 30 9) ≤ 0 then gt_d (ib_I a1 5) (some ((1 : Int32), sg_up (sg_up σ 30 9 t0) 36 (tn_I a1) a2)) else some ((0 : Int32), sg_up σ 30 9 t0)
def fn_MOD_set (a1 : Int32) (a2 : Int32) (σ : sg_T) : Option (Int32 × sg_T) := (fn_MOD_isRegister a1 σ).bind (fun z1 => if z1.1 = 0 then fb_MOD_set_24 a1 a2 (1 : Int32) z1.2 else (fn_MOD_goes  z1.2).bind (fun z3 => if z3.1 = 0 then fb_MOD_set_24 a1 a2 (0 : Int32) z3.2 else fb_MOD_set_24 a1 a2 (2 : Int32) z3.2))
def fn_MOD_isPlace (a0 : Int32) (σ : sg_T) : Option (Int32 × sg_T) := if a0 < 0 then some ((0 : Int32), σ) else if (31 : Int32) < a0 then some ((0 : Int32), σ) else some ((1 : Int32), σ)
def fb_MOD_store_24 (a1 : Int32) (a2 : Int32) (t0 : Int32) (σ : sg_T) : Option (Int32 × sg_T) := if ((sg_up σ 30 9 t0) 30 9) ≤ 0 then gt_d (ib_I a1 32) (some ((1 : Int32), sg_up (sg_up σ 30 9 t0) 39 (tn_I a1) a2)) else some ((0 : Int32), sg_up σ 30 9 t0)
def fn_MOD_store (a1 : Int32) (a2 : Int32) (σ : sg_T) : Option (Int32 × sg_T) := (fn_MOD_isPlace a1 σ).bind (fun z1 => if z1.1 = 0 then fb_MOD_store_24 a1 a2 (1 : Int32) z1.2 else (fn_MOD_goes  z1.2).bind (fun z3 => if z3.1 = 0 then fb_MOD_store_24 a1 a2 (0 : Int32) z3.2 else fb_MOD_store_24 a1 a2 (2 : Int32) z3.2))
def fn_MOD_turnOf (a0 : Int32) (σ : sg_T) : Option (Int32 × sg_T) := if (4 : Int32) ≤ a0 then some (a0 - (3 : Int32), σ) else some ((6 : Int32) + a0, σ)
def fb_MOD_bus_195 (kL130 : Int32 → Int32 → sg_T → Option (sg_T)) (a1 : Int32) (a2 : Int32) (t0 : Int32) (t1 : Int32) (σ : sg_T) : Option (sg_T) := gt_d (ib_I t1 5) (kL130 a1 (a2 + (1 : Int32)) (sg_up σ 37 (tn_I t1) t0))
def fb_MOD_bus_175 (kL130 : Int32 → Int32 → sg_T → Option (sg_T)) (a1 : Int32) (a2 : Int32) (a3 : Int32) (t0 : Int32) (t1 : Int32) (σ : sg_T) : Option (sg_T) := gt_d (ib_I t1 5) (if a3 = 0 then gt_d (ib_I a2 5) (fb_MOD_bus_195 kL130 a1 a2 ((sg_up σ 36 (tn_I t1) t0) 37 (tn_I a2)) a2 (sg_up σ 36 (tn_I t1) t0)) else fb_MOD_bus_195 kL130 a1 a2 (0 : Int32) a2 (sg_up σ 36 (tn_I t1) t0))
def fb_MOD_bus_150 (kL130 : Int32 → Int32 → sg_T → Option (sg_T)) (a1 : Int32) (a2 : Int32) (t0 : Int32) (σ : sg_T) : Option (sg_T) := if t0 = 0 then gt_d (ib_I a2 5) (fb_MOD_bus_175 kL130 a1 a2 t0 (σ 36 (tn_I a2)) a2 σ) else gt_d (ib_I a1 13) (fb_MOD_bus_175 kL130 a1 a2 t0 (σ 43 (tn_I a1)) a2 σ)
def fb_MOD_bus_130 : Nat → Int32 → Int32 → sg_T → Option (sg_T)
  | 0, _, _, _ => none
  | n + 1, a1, a2, σ => if (5 : Int32) ≤ a2 then gt_d (ib_I a1 13) (gt_d (ib_I a1 13) (some (sg_up (sg_up σ 30 5 ((σ 30 5) ||| (σ 44 (tn_I a1)))) 40 (tn_I a1) (0 : Int32)))) else gt_d (ib_I a2 5) (if (σ 37 (tn_I a2)) = a1 then fb_MOD_bus_150 (fb_MOD_bus_130 n) a1 a2 (1 : Int32) σ else fb_MOD_bus_150 (fb_MOD_bus_130 n) a1 a2 (0 : Int32) σ)
def fb_MOD_bus_121 (kL44 : Int32 → Int32 → sg_T → Option (sg_T)) (a1 : Int32) (a2 : Int32) (t0 : Int32) (t1 : Int32) (σ : sg_T) : Option (sg_T) := gt_d (ib_I t1 26) (kL44 a1 (a2 + (1 : Int32)) (sg_up σ 46 (tn_I t1) t0))
def fb_MOD_bus_101 (kL44 : Int32 → Int32 → sg_T → Option (sg_T)) (a1 : Int32) (a2 : Int32) (a3 : Int32) (t0 : Int32) (t1 : Int32) (σ : sg_T) : Option (sg_T) := gt_d (ib_I t1 26) (if a3 = 0 then gt_d (ib_I a2 26) (fb_MOD_bus_121 kL44 a1 a2 ((sg_up σ 45 (tn_I t1) t0) 46 (tn_I a2)) a2 (sg_up σ 45 (tn_I t1) t0)) else fb_MOD_bus_121 kL44 a1 a2 (0 : Int32) a2 (sg_up σ 45 (tn_I t1) t0))
def fb_MOD_bus_76 (kL44 : Int32 → Int32 → sg_T → Option (sg_T)) (a1 : Int32) (a2 : Int32) (t0 : Int32) (σ : sg_T) : Option (sg_T) := if t0 = 0 then gt_d (ib_I a2 26) (fb_MOD_bus_101 kL44 a1 a2 t0 (σ 45 (tn_I a2)) a2 σ) else gt_d (ib_I a1 13) (fb_MOD_bus_101 kL44 a1 a2 t0 (σ 43 (tn_I a1)) a2 σ)
def fb_MOD_bus_75 (kL44 : Int32 → Int32 → sg_T → Option (sg_T)) (a1 : Int32) (a2 : Int32) (σ : sg_T) : Option (sg_T) := fb_MOD_bus_76 kL44 a1 a2 (0 : Int32) σ
def fb_MOD_bus_44 : Nat → Int32 → Int32 → sg_T → Option (sg_T)
  | 0, _, _, _ => none
  | n + 1, a1, a2, σ => if (26 : Int32) ≤ a2 then fb_MOD_bus_130 27 a1 (0 : Int32) σ else gt_d (ib_I a2 26) (if (σ 46 (tn_I a2)) = a1 then gt_d (decide (¬ (2 : Int32) = 0)) (gt_d (ib_I (a2 / (2 : Int32)) 13) (if (σ 40 (tn_I (a2 / (2 : Int32)))) ≤ 0 then fb_MOD_bus_75 (fb_MOD_bus_44 n) a1 a2 σ else fb_MOD_bus_76 (fb_MOD_bus_44 n) a1 a2 (1 : Int32) σ)) else fb_MOD_bus_75 (fb_MOD_bus_44 n) a1 a2 σ)
def fb_MOD_bus_30 (kL5 : Int32 → Int32 → sg_T → Option (sg_T)) (a2 : Int32) (t0 : Int32) (σ : sg_T) : Option (sg_T) := kL5 t0 (a2 + (-1)) σ
def fb_MOD_bus_5 : Nat → Int32 → Int32 → sg_T → Option (sg_T)
  | 0, _, _, _ => none
  | n + 1, a1, a2, σ => if a2 < 0 then if a1 = 0 then some (σ) else fb_MOD_bus_44 27 a1 (0 : Int32) σ else (fn_MOD_turnOf a2 σ).bind (fun z28 => gt_d (ib_I z28.1 13) (if (z28.2 40 (tn_I z28.1)) = (3 : Int32) then (fn_MOD_turnOf a2 z28.2).bind (fun z31 => fb_MOD_bus_30 (fb_MOD_bus_5 n) a2 z31.1 z31.2) else fb_MOD_bus_30 (fb_MOD_bus_5 n) a2 a1 z28.2))
def fn_MOD_bus (σ : sg_T) : Option (sg_T) := fb_MOD_bus_5 27 (0 : Int32) (8 : Int32) σ
def fb_MOD_ends_39 (a1 : Int32) (σ : sg_T) : Option (sg_T) := if a1 ≤ (9 : Int32) then some (σ) else gt_d (ib_I a1 13) (gt_d (ib_I ((2 : Int32) * a1) 26) (gt_d (ib_I (σ 47 (tn_I a1)) 32) (some (sg_up σ 39 (tn_I (σ 47 (tn_I a1))) (σ 45 (tn_I ((2 : Int32) * a1)))))))
def fb_MOD_ends_16 (a1 : Int32) (t0 : Int32) (t1 : Int32) (σ : sg_T) : Option (sg_T) := gt_d (ib_I t1 13) (if a1 ≤ (5 : Int32) then fb_MOD_ends_39 a1 (sg_up σ 40 (tn_I t1) t0) else gt_d (ib_I a1 13) (gt_d (decide (¬ ((sg_up σ 40 (tn_I t1) t0) 30 0) = 0)) (gt_d (ib_I (((sg_up σ 40 (tn_I t1) t0) 47 (tn_I a1)) - ((sg_up σ 40 (tn_I t1) t0) 47 (tn_I a1)) / ((sg_up σ 40 (tn_I t1) t0) 30 0) * ((sg_up σ 40 (tn_I t1) t0) 30 0)) 8) (fb_MOD_ends_39 a1 (sg_up (sg_up σ 40 (tn_I t1) t0) 49 (tn_I (((sg_up σ 40 (tn_I t1) t0) 47 (tn_I a1)) - ((sg_up σ 40 (tn_I t1) t0) 47 (tn_I a1)) / ((sg_up σ 40 (tn_I t1) t0) 30 0) * ((sg_up σ 40 (tn_I t1) t0) 30 0))) (0 : Int32))))))
def fn_MOD_ends (a1 : Int32) (σ : sg_T) : Option (sg_T) := if a1 ≤ (9 : Int32) then fb_MOD_ends_16 a1 (3 : Int32) a1 σ else fb_MOD_ends_16 a1 (0 : Int32) a1 σ
def fb_MOD_work_42 (kL2 : Int32 → sg_T → Option (sg_T)) (a1 : Int32) (σ : sg_T) : Option (sg_T) := kL2 (a1 + (1 : Int32)) σ
def fb_MOD_work_2 : Nat → Int32 → sg_T → Option (sg_T)
  | 0, _, _ => none
  | n + 1, a1, σ => if (13 : Int32) ≤ a1 then some (σ) else gt_d (ib_I a1 13) (if (σ 40 (tn_I a1)) = (2 : Int32) then gt_d (ib_I a1 13) (gt_d (ib_I a1 13) (gt_d (ib_I a1 13) (if ((sg_up σ 42 (tn_I a1) ((σ 42 (tn_I a1)) - (1 : Int32))) 42 (tn_I a1)) = 0 then (fn_MOD_ends a1 (sg_up σ 42 (tn_I a1) ((σ 42 (tn_I a1)) - (1 : Int32)))).bind (fun z8 => fb_MOD_work_42 (fb_MOD_work_2 n) a1 z8) else fb_MOD_work_42 (fb_MOD_work_2 n) a1 (sg_up σ 42 (tn_I a1) ((σ 42 (tn_I a1)) - (1 : Int32)))))) else fb_MOD_work_42 (fb_MOD_work_2 n) a1 σ)
def fn_MOD_work (σ : sg_T) : Option (sg_T) := fb_MOD_work_2 14 (1 : Int32) σ
def fn_MOD_ready (a1 : Int32) (σ : sg_T) : Option (Int32 × sg_T) := gt_d (ib_I a1 13) (if (σ 40 (tn_I a1)) = (1 : Int32) then gt_d (ib_I ((2 : Int32) * a1) 26) (if (σ 46 (tn_I ((2 : Int32) * a1))) = 0 then if (9 : Int32) < a1 then some ((1 : Int32), σ) else gt_d (ib_I (((2 : Int32) * a1) + (1 : Int32)) 26) (if (σ 46 (tn_I (((2 : Int32) * a1) + (1 : Int32)))) = 0 then some ((1 : Int32), σ) else some ((0 : Int32), σ)) else some ((0 : Int32), σ)) else some ((0 : Int32), σ))
def fb_MOD_begins_44 (a1 : Int32) (a2 : Int32) (t0 : Int32) (σ : sg_T) : Option (sg_T) := gt_d (ib_I ((2 : Int32) * a1) 26) (gt_d (ib_I (((2 : Int32) * a1) + (1 : Int32)) 26) ((fn_MOD_result t0 (σ 45 (tn_I ((2 : Int32) * a1))) (σ 45 (tn_I (((2 : Int32) * a1) + (1 : Int32)))) σ).bind (fun z8 => gt_d (ib_I a1 13) (gt_d (ib_I a1 13) (gt_d (ib_I a1 13) (gt_d (ib_I a1 13) (some (sg_up (sg_up (sg_up (sg_up z8.2 43 (tn_I a1) z8.1) 44 (tn_I a1) ((sg_up z8.2 43 (tn_I a1) z8.1) 30 8)) 40 (tn_I a1) (2 : Int32)) 42 (tn_I a1) a2))))))))
def fn_MOD_begins (a1 : Int32) (a2 : Int32) (σ : sg_T) : Option (sg_T) := gt_d (ib_I a1 13) (if (σ 41 (tn_I a1)) = (2 : Int32) then fb_MOD_begins_44 a1 a2 (0 : Int32) σ else if (σ 41 (tn_I a1)) = (3 : Int32) then fb_MOD_begins_44 a1 a2 (1 : Int32) σ else if (σ 41 (tn_I a1)) = (4 : Int32) then fb_MOD_begins_44 a1 a2 (2 : Int32) σ else if (σ 41 (tn_I a1)) = (5 : Int32) then fb_MOD_begins_44 a1 a2 (3 : Int32) σ else fb_MOD_begins_44 a1 a2 (4 : Int32) σ)
def fb_MOD_begin_295 (a3 : Int32) (t0 : Int32) (t1 : Int32) (σ : sg_T) : Option (sg_T) := gt_d (ib_I t1 13) (gt_d (ib_I a3 13) (some (sg_up (sg_up σ 43 (tn_I t1) t0) 44 (tn_I a3) (0 : Int32))))
def fb_MOD_begin_224 (kL129 : Int32 → Int32 → sg_T → Option (sg_T)) (a4 : Int32) (t0 : Int32) (σ : sg_T) : Option (sg_T) := kL129 t0 (a4 + (1 : Int32)) σ
def fb_MOD_begin_223 (kL129 : Int32 → Int32 → sg_T → Option (sg_T)) (a3 : Int32) (a4 : Int32) (σ : sg_T) : Option (sg_T) := fb_MOD_begin_224 kL129 a4 a3 σ
def fb_MOD_begin_218 (kL129 : Int32 → Int32 → sg_T → Option (sg_T)) (a4 : Int32) (σ : sg_T) : Option (sg_T) := fb_MOD_begin_224 kL129 a4 a4 σ
def fb_MOD_begin_191 (kL129 : Int32 → Int32 → sg_T → Option (sg_T)) (a3 : Int32) (a4 : Int32) (t0 : Int32) (σ : sg_T) : Option (sg_T) := if t0 = 0 then fb_MOD_begin_223 kL129 a3 a4 σ else if a3 = 0 then fb_MOD_begin_218 kL129 a4 σ else gt_d (ib_I a4 13) (gt_d (ib_I a3 13) (if (σ 48 (tn_I a3)) ≤ (σ 48 (tn_I a4)) then fb_MOD_begin_223 kL129 a3 a4 σ else fb_MOD_begin_218 kL129 a4 σ))
def fb_MOD_begin_190 (kL129 : Int32 → Int32 → sg_T → Option (sg_T)) (a3 : Int32) (a4 : Int32) (σ : sg_T) : Option (sg_T) := fb_MOD_begin_191 kL129 a3 a4 (0 : Int32) σ
def fb_MOD_begin_166 (kL129 : Int32 → Int32 → sg_T → Option (sg_T)) (a3 : Int32) (a4 : Int32) (σ : sg_T) : Option (sg_T) := gt_d (ib_I a4 13) (gt_d (decide (¬ (σ 30 0) = 0)) (gt_d (ib_I ((σ 47 (tn_I a4)) - (σ 47 (tn_I a4)) / (σ 30 0) * (σ 30 0)) 8) (if (σ 49 (tn_I ((σ 47 (tn_I a4)) - (σ 47 (tn_I a4)) / (σ 30 0) * (σ 30 0)))) = 0 then fb_MOD_begin_191 kL129 a3 a4 (1 : Int32) σ else fb_MOD_begin_190 kL129 a3 a4 σ)))
def fb_MOD_begin_129 : Nat → Int32 → Int32 → sg_T → Option (sg_T)
  | 0, _, _, _ => none
  | n + 1, a3, a4, σ => if (13 : Int32) ≤ a4 then if a3 ≤ 0 then some (σ) else gt_d (ib_I a3 13) (gt_d (decide (¬ (σ 30 0) = 0)) (gt_d (ib_I ((σ 47 (tn_I a3)) - (σ 47 (tn_I a3)) / (σ 30 0) * (σ 30 0)) 8) (gt_d (ib_I a3 13) (gt_d (ib_I a3 13) (if (10 : Int32) ≤ a3 then fb_MOD_begin_295 a3 (0 : Int32) a3 (sg_up (sg_up (sg_up σ 49 (tn_I ((σ 47 (tn_I a3)) - (σ 47 (tn_I a3)) / (σ 30 0) * (σ 30 0))) (1 : Int32)) 40 (tn_I a3) (2 : Int32)) 42 (tn_I a3) ((sg_up (sg_up σ 49 (tn_I ((σ 47 (tn_I a3)) - (σ 47 (tn_I a3)) / (σ 30 0) * (σ 30 0))) (1 : Int32)) 40 (tn_I a3) (2 : Int32)) 30 1)) else gt_d (ib_I a3 13) (gt_d (ib_I ((sg_up (sg_up (sg_up σ 49 (tn_I ((σ 47 (tn_I a3)) - (σ 47 (tn_I a3)) / (σ 30 0) * (σ 30 0))) (1 : Int32)) 40 (tn_I a3) (2 : Int32)) 42 (tn_I a3) ((sg_up (sg_up σ 49 (tn_I ((σ 47 (tn_I a3)) - (σ 47 (tn_I a3)) / (σ 30 0) * (σ 30 0))) (1 : Int32)) 40 (tn_I a3) (2 : Int32)) 30 1)) 47 (tn_I a3)) 32) (fb_MOD_begin_295 a3 ((sg_up (sg_up (sg_up σ 49 (tn_I ((σ 47 (tn_I a3)) - (σ 47 (tn_I a3)) / (σ 30 0) * (σ 30 0))) (1 : Int32)) 40 (tn_I a3) (2 : Int32)) 42 (tn_I a3) ((sg_up (sg_up σ 49 (tn_I ((σ 47 (tn_I a3)) - (σ 47 (tn_I a3)) / (σ 30 0) * (σ 30 0))) (1 : Int32)) 40 (tn_I a3) (2 : Int32)) 30 1)) 39 (tn_I ((sg_up (sg_up (sg_up σ 49 (tn_I ((σ 47 (tn_I a3)) - (σ 47 (tn_I a3)) / (σ 30 0) * (σ 30 0))) (1 : Int32)) 40 (tn_I a3) (2 : Int32)) 42 (tn_I a3) ((sg_up (sg_up σ 49 (tn_I ((σ 47 (tn_I a3)) - (σ 47 (tn_I a3)) / (σ 30 0) * (σ 30 0))) (1 : Int32)) 40 (tn_I a3) (2 : Int32)) 30 1)) 47 (tn_I a3)))) a3 (sg_up (sg_up (sg_up σ 49 (tn_I ((σ 47 (tn_I a3)) - (σ 47 (tn_I a3)) / (σ 30 0) * (σ 30 0))) (1 : Int32)) 40 (tn_I a3) (2 : Int32)) 42 (tn_I a3) ((sg_up (sg_up σ 49 (tn_I ((σ 47 (tn_I a3)) - (σ 47 (tn_I a3)) / (σ 30 0) * (σ 30 0))) (1 : Int32)) 40 (tn_I a3) (2 : Int32)) 30 1))))))))) else gt_d (ib_I a4 13) (if (σ 40 (tn_I a4)) = (1 : Int32) then if a4 < (10 : Int32) then fb_MOD_begin_166 (fb_MOD_begin_129 n) a3 a4 σ else gt_d (ib_I ((2 : Int32) * a4) 26) (if (σ 46 (tn_I ((2 : Int32) * a4))) = 0 then fb_MOD_begin_166 (fb_MOD_begin_129 n) a3 a4 σ else fb_MOD_begin_190 (fb_MOD_begin_129 n) a3 a4 σ) else fb_MOD_begin_190 (fb_MOD_begin_129 n) a3 a4 σ)
def fb_MOD_begin_123 (σ : sg_T) : Option (sg_T) := fb_MOD_begin_129 14 (0 : Int32) (6 : Int32) σ
def fb_MOD_begin_120 (t0 : Int32) (t1 : Int32) (σ : sg_T) : Option (sg_T) := (fn_MOD_begins t1 t0 σ).bind (fun z39 => fb_MOD_begin_123  z39)
def fb_MOD_begin_97 (t0 : Int32) (σ : sg_T) : Option (sg_T) := if t0 ≤ 0 then fb_MOD_begin_123  σ else gt_d (ib_I t0 13) (if (σ 41 (tn_I t0)) = (4 : Int32) then fb_MOD_begin_120 (4 : Int32) t0 σ else fb_MOD_begin_120 (8 : Int32) t0 σ)
def fb_MOD_begin_68 (σ : sg_T) : Option (sg_T) := fb_MOD_begin_97 (0 : Int32) σ
def fb_MOD_begin_48 (σ : sg_T) : Option (sg_T) := gt_d (ib_I (4 : Int32) 13) (if (σ 40 (tn_I (4 : Int32))) = (2 : Int32) then fb_MOD_begin_68  σ else gt_d (ib_I (5 : Int32) 13) (if (σ 40 (tn_I (5 : Int32))) = (2 : Int32) then fb_MOD_begin_68  σ else (fn_MOD_ready (4 : Int32) σ).bind (fun z42 => if z42.1 = 0 then (fn_MOD_ready (5 : Int32) z42.2).bind (fun z44 => if z44.1 = 0 then fb_MOD_begin_97 (0 : Int32) z44.2 else fb_MOD_begin_97 (5 : Int32) z44.2) else fb_MOD_begin_97 (4 : Int32) z42.2)))
def fb_MOD_begin_37 (t0 : Int32) (σ : sg_T) : Option (sg_T) := if t0 ≤ 0 then fb_MOD_begin_48  σ else (fn_MOD_begins t0 (2 : Int32) σ).bind (fun z46 => fb_MOD_begin_48  z46)
def fn_MOD_begin (σ : sg_T) : Option (sg_T) := (fn_MOD_ready (1 : Int32) σ).bind (fun z1 => if z1.1 = 0 then (fn_MOD_ready (2 : Int32) z1.2).bind (fun z3 => if z3.1 = 0 then (fn_MOD_ready (3 : Int32) z3.2).bind (fun z5 => if z5.1 = 0 then fb_MOD_begin_37 (0 : Int32) z5.2 else fb_MOD_begin_37 (3 : Int32) z5.2) else fb_MOD_begin_37 (2 : Int32) z3.2) else fb_MOD_begin_37 (1 : Int32) z1.2)
section MT
variable {p : Program} {l : Launch} {e : Env} {s : State} {m : MethodId} {args : Array Value} {below : List Frame} {meth : Method} {c : Code} {x : cx_T}
set_option maxRecDepth 100000 in
set_option maxHeartbeats 4000000 in
theorem ct_MOD_isRegister (l : Launch) (x : cx_T) (a0 : Int32) (σ : sg_T) (z : Int32 × sg_T) (hf : fn_MOD_isRegister a0 σ = some z) : ct_i l nN_MOD_isRegister nC_MOD_isRegister 1 (some .boolean) 0 x [.int a0] σ z.1 z.2 := by
  refine en_i (own := nR_MOD) (by decide) (Nat.le_of_ble_eq_true rfl) rfl ?_
  intro p e s m below meth c ls F hw hl
  have F9 := F
  obtain ⟨hx, hb, hml, hr, hlk, hown, hT⟩ := F
  have hl : lv_has ls 1 [(0, .int a0)] := hl
  unfold fn_MOD_isRegister at hf
  refine lv_iload_n hx hb nD_MOD_isRegister_0 rfl (lv_at hl 0 rfl) ?_
  refine lv_if_lt (tgt := 13) hx hb nD_MOD_isRegister_1 (by decide) (fun h1 => ?_) (fun h1 => ?_)
  · rw [if_pos h1] at hf
    refine lv_iconst (v := 0) hx hb nD_MOD_isRegister_13 (by decide) ?_
    exact rt_i F9 hw rfl nD_MOD_isRegister_14 hf
  · rw [if_neg h1] at hf
    refine lv_iload_n hx hb nD_MOD_isRegister_4 rfl (lv_at hl 0 rfl) ?_
    refine lv_iconst (v := 3) hx hb nD_MOD_isRegister_5 (by decide) ?_
    refine lv_icmp_gt (tgt := 13) hx hb nD_MOD_isRegister_6 (by decide) (fun h2 => ?_) (fun h2 => ?_)
    · rw [if_pos h2] at hf
      refine lv_iconst (v := 0) hx hb nD_MOD_isRegister_13 (by decide) ?_
      exact rt_i F9 hw rfl nD_MOD_isRegister_14 hf
    · rw [if_neg h2] at hf
      refine lv_iconst (v := 1) hx hb nD_MOD_isRegister_9 (by decide) ?_
      refine lv_goto (tgt := 14) hx hb nD_MOD_isRegister_10 (by decide) ?_
      exact rt_i F9 hw rfl nD_MOD_isRegister_14 hf
set_option maxRecDepth 100000 in
set_option maxHeartbeats 4000000 in
theorem ct_MOD_goes (l : Launch) (x : cx_T) (σ : sg_T) (z : Int32 × sg_T) (hf : fn_MOD_goes  σ = some z) : ct_i l nN_MOD_goes nC_MOD_goes 1 (some .boolean) 0 x [.ref (x.2.2 82)] σ z.1 z.2 := by
  refine en_i (own := nR_MOD) (by decide) (Nat.le_of_ble_eq_true rfl) rfl ?_
  intro p e s m below meth c ls F hw hl
  have F9 := F
  obtain ⟨hx, hb, hml, hr, hlk, hown, hT⟩ := F
  have hl : lv_has ls 1 [(0, .ref (x.2.2 82))] := hl
  unfold fn_MOD_goes at hf
  refine lv_aload_n hx hb nD_MOD_goes_0 rfl (lv_at hl 0 rfl) ?_
  refine rd_MOD_MOD_state F9 hw nD_MOD_goes_1 ?_
  refine lv_if_eq (tgt := 15) hx hb nD_MOD_goes_4 (by decide) (fun h1 => ?_) (fun h1 => ?_)
  · rw [if_pos h1] at hf
    refine lv_iconst (v := 1) hx hb nD_MOD_goes_15 (by decide) ?_
    refine lv_goto (tgt := 20) hx hb nD_MOD_goes_16 (by decide) ?_
    exact rt_i F9 hw rfl nD_MOD_goes_20 hf
  · rw [if_neg h1] at hf
    refine lv_aload_n hx hb nD_MOD_goes_7 rfl (lv_at hl 0 rfl) ?_
    refine rd_MOD_MOD_state F9 hw nD_MOD_goes_8 ?_
    refine lv_iconst (v := 1) hx hb nD_MOD_goes_11 (by decide) ?_
    refine lv_icmp_ne (tgt := 19) hx hb nD_MOD_goes_12 (by decide) (fun h2 => ?_) (fun h2 => ?_)
    · rw [if_neg h2] at hf
      refine lv_iconst (v := 0) hx hb nD_MOD_goes_19 (by decide) ?_
      exact rt_i F9 hw rfl nD_MOD_goes_20 hf
    · rw [if_pos h2] at hf
      refine lv_iconst (v := 1) hx hb nD_MOD_goes_15 (by decide) ?_
      refine lv_goto (tgt := 20) hx hb nD_MOD_goes_16 (by decide) ?_
      exact rt_i F9 hw rfl nD_MOD_goes_20 hf
set_option maxRecDepth 100000 in
set_option maxHeartbeats 4000000 in
theorem bk_MOD_put_92 {z : Int32 × sg_T} (F : fx_F p s m args meth c nC_MOD_put 7 (some .int) nR_MOD) (a1 : Int32) (a2 : Int32) (a3 : Int32) (a4 : Int32) (a5 : Int32) (t0 : Int32) {σ : sg_T} {H : Heap} {locs : List Loc} {ls : Array Slot} (hw : ww_P x s H locs σ) (hl : lv_has ls 7 [(0, .ref (x.2.2 82)), (1, .int a1), (2, .int a2), (3, .int a3), (4, .int a4), (5, .int a5)]) (hf : fb_MOD_put_92 a1 a2 a3 a4 a5 t0 σ = some z) : W p l e (rm_D 1) s m args below meth c H locs 0 0 (qi_Q x s below args z.1 z.2) (F0 m 92 ls [.int t0, .ref (x.2.2 82)]) := by
  have F9 := F
  obtain ⟨hx, hb, hml, hr, hlk, hown, hT⟩ := F
  unfold fb_MOD_put_92 at hf
  refine wr_MOD_MOD_threw F9 hw nD_MOD_put_92 (fun H locs hw => ?_)
  refine lv_aload_n hx hb nD_MOD_put_95 rfl (lv_at hl 0 rfl) ?_
  refine rd_MOD_MOD_threw F9 hw nD_MOD_put_96 ?_
  refine lv_if_le (tgt := 104) hx hb nD_MOD_put_99 (by decide) (fun h4 => ?_) (fun h4 => ?_)
  · rw [if_pos h4] at hf
    refine lv_aload_n hx hb nD_MOD_put_104 rfl (lv_at hl 0 rfl) ?_
    refine rd_MOD_MOD_op F9 hw nD_MOD_put_105 ?_
    refine lv_aload_n hx hb nD_MOD_put_108 rfl (lv_at hl 0 rfl) ?_
    refine rd_MOD_MOD_many F9 hw nD_MOD_put_109 ?_
    refine lv_iload_n hx hb nD_MOD_put_112 rfl (lv_at hl 1 rfl) ?_
    obtain ⟨g5, hf⟩ := gt_of hf
    refine as_m_op F9 hw g5 nD_MOD_put_113 (fun H locs hw => ?_)
    refine lv_aload_n hx hb nD_MOD_put_114 rfl (lv_at hl 0 rfl) ?_
    refine rd_MOD_MOD_rs F9 hw nD_MOD_put_115 ?_
    refine lv_aload_n hx hb nD_MOD_put_118 rfl (lv_at hl 0 rfl) ?_
    refine rd_MOD_MOD_many F9 hw nD_MOD_put_119 ?_
    refine lv_iload_n hx hb nD_MOD_put_122 rfl (lv_at hl 2 rfl) ?_
    obtain ⟨g6, hf⟩ := gt_of hf
    refine as_m_rs F9 hw g6 nD_MOD_put_123 (fun H locs hw => ?_)
    refine lv_aload_n hx hb nD_MOD_put_124 rfl (lv_at hl 0 rfl) ?_
    refine rd_MOD_MOD_ss F9 hw nD_MOD_put_125 ?_
    refine lv_aload_n hx hb nD_MOD_put_128 rfl (lv_at hl 0 rfl) ?_
    refine rd_MOD_MOD_many F9 hw nD_MOD_put_129 ?_
    refine lv_iload_n hx hb nD_MOD_put_132 rfl (lv_at hl 3 rfl) ?_
    obtain ⟨g7, hf⟩ := gt_of hf
    refine as_m_ss F9 hw g7 nD_MOD_put_133 (fun H locs hw => ?_)
    refine lv_aload_n hx hb nD_MOD_put_134 rfl (lv_at hl 0 rfl) ?_
    refine rd_MOD_MOD_bs F9 hw nD_MOD_put_135 ?_
    refine lv_aload_n hx hb nD_MOD_put_138 rfl (lv_at hl 0 rfl) ?_
    refine rd_MOD_MOD_many F9 hw nD_MOD_put_139 ?_
    refine lv_iload hx hb nD_MOD_put_142 (lv_at hl 4 rfl) ?_
    obtain ⟨g8, hf⟩ := gt_of hf
    refine as_m_bs F9 hw g8 nD_MOD_put_144 (fun H locs hw => ?_)
    refine lv_aload_n hx hb nD_MOD_put_145 rfl (lv_at hl 0 rfl) ?_
    refine rd_MOD_MOD_ns F9 hw nD_MOD_put_146 ?_
    refine lv_aload_n hx hb nD_MOD_put_149 rfl (lv_at hl 0 rfl) ?_
    refine rd_MOD_MOD_many F9 hw nD_MOD_put_150 ?_
    refine lv_iload hx hb nD_MOD_put_153 (lv_at hl 5 rfl) ?_
    obtain ⟨g9, hf⟩ := gt_of hf
    refine as_m_ns F9 hw g9 nD_MOD_put_155 (fun H locs hw => ?_)
    refine lv_aload_n hx hb nD_MOD_put_156 rfl (lv_at hl 0 rfl) ?_
    refine lv_dup hx hb nD_MOD_put_157 rfl ?_
    refine rd_MOD_MOD_many F9 hw nD_MOD_put_158 ?_
    refine lv_iconst (v := 1) hx hb nD_MOD_put_161 (by decide) ?_
    refine lv_iadd hx hb nD_MOD_put_162 ?_
    refine wr_MOD_MOD_many F9 hw nD_MOD_put_163 (fun H locs hw => ?_)
    refine lv_aload_n hx hb nD_MOD_put_166 rfl (lv_at hl 0 rfl) ?_
    refine rd_MOD_MOD_many F9 hw nD_MOD_put_167 ?_
    refine lv_iconst (v := 1) hx hb nD_MOD_put_170 (by decide) ?_
    refine lv_isub hx hb nD_MOD_put_171 ?_
    exact rt_i F9 hw rfl nD_MOD_put_172 hf
  · rw [if_neg h4] at hf
    refine lv_iconst (v := 0) hx hb nD_MOD_put_102 (by decide) ?_
    exact rt_i F9 hw rfl nD_MOD_put_103 hf
set_option maxRecDepth 100000 in
set_option maxHeartbeats 4000000 in
theorem bk_MOD_put_87 {z : Int32 × sg_T} (F : fx_F p s m args meth c nC_MOD_put 7 (some .int) nR_MOD) (a1 : Int32) (a2 : Int32) (a3 : Int32) (a4 : Int32) (a5 : Int32) {σ : sg_T} {H : Heap} {locs : List Loc} {ls : Array Slot} (hw : ww_P x s H locs σ) (hl : lv_has ls 7 [(0, .ref (x.2.2 82)), (1, .int a1), (2, .int a2), (3, .int a3), (4, .int a4), (5, .int a5)]) (hf : fb_MOD_put_87 a1 a2 a3 a4 a5 σ = some z) : W p l e (rm_D 1) s m args below meth c H locs 0 0 (qi_Q x s below args z.1 z.2) (F0 m 87 ls [.ref (x.2.2 82)]) := by
  have F9 := F
  obtain ⟨hx, hb, hml, hr, hlk, hown, hT⟩ := F
  unfold fb_MOD_put_87 at hf
  refine lv_iconst (v := 2) hx hb nD_MOD_put_87 (by decide) ?_
  refine lv_goto (tgt := 92) hx hb nD_MOD_put_88 (by decide) ?_
  exact bk_MOD_put_92 F9 a1 a2 a3 a4 a5 (2 : Int32)  hw (lv_sub hl [0, 1, 2, 3, 4, 5] rfl) hf
set_option maxRecDepth 100000 in
set_option maxHeartbeats 4000000 in
theorem bk_MOD_put_59 {z : Int32 × sg_T} (F : fx_F p s m args meth c nC_MOD_put 7 (some .int) nR_MOD) (a1 : Int32) (a2 : Int32) (a3 : Int32) (a4 : Int32) (a5 : Int32) (t0 : Int32) {σ : sg_T} {H : Heap} {locs : List Loc} {ls : Array Slot} (hw : ww_P x s H locs σ) (hl : lv_has ls 7 [(0, .ref (x.2.2 82)), (1, .int a1), (2, .int a2), (3, .int a3), (4, .int a4), (5, .int a5)]) (hf : fb_MOD_put_59 a1 a2 a3 a4 a5 t0 σ = some z) : W p l e (rm_D 1) s m args below meth c H locs 0 0 (qi_Q x s below args z.1 z.2) (F0 m 59 ls [.int t0]) := by
  have F9 := F
  obtain ⟨hx, hb, hml, hr, hlk, hown, hT⟩ := F
  unfold fb_MOD_put_59 at hf
  refine lv_istore (lv' := [(6, .int t0), (0, .ref (x.2.2 82)), (1, .int a1), (2, .int a2), (3, .int a3), (4, .int a4), (5, .int a5)]) hx hb nD_MOD_put_59 hl (by decide) rfl (fun ls hl => ?_)
  refine lv_aload_n hx hb nD_MOD_put_61 rfl (lv_at hl 1 rfl) ?_
  refine lv_iload hx hb nD_MOD_put_62 (lv_at hl 0 rfl) ?_
  refine lv_if_ne (tgt := 71) hx hb nD_MOD_put_64 (by decide) (fun h2 => ?_) (fun h2 => ?_)
  · rw [if_neg h2] at hf
    refine lv_aload_n hx hb nD_MOD_put_71 rfl (lv_at hl 1 rfl) ?_
    refine rd_MOD_MOD_many F9 hw nD_MOD_put_72 ?_
    refine lv_bipush (v := 30) hx hb nD_MOD_put_75 (by decide) ?_
    refine lv_icmp_eq (tgt := 87) hx hb nD_MOD_put_77 (by decide) (fun h3 => ?_) (fun h3 => ?_)
    · rw [if_pos h3] at hf
      exact bk_MOD_put_87 F9 a1 a2 a3 a4 a5  hw (lv_sub hl [1, 2, 3, 4, 5, 6] rfl) hf
    · rw [if_neg h3] at hf
      refine lv_aload_n hx hb nD_MOD_put_80 rfl (lv_at hl 1 rfl) ?_
      obtain ⟨z10, hz10, hf⟩ := bd_of hf
      refine cl_vi (As := []) (rest := [.ref (x.2.2 82)]) F9 hw (ct_MOD_goes l x   _ _ hz10) (rc_MOD ) wc_MOD_151 hd_MOD_goes (by decide) hl rfl (Nat.le_of_ble_eq_true rfl) nD_MOD_put_81 (fun H locs hw => ?_)
      refine lv_if_eq (tgt := 91) hx hb nD_MOD_put_84 (by decide) (fun h11 => ?_) (fun h11 => ?_)
      · rw [if_pos h11] at hf
        refine lv_iconst (v := 0) hx hb nD_MOD_put_91 (by decide) ?_
        exact bk_MOD_put_92 F9 a1 a2 a3 a4 a5 (0 : Int32)  hw (lv_sub hl [1, 2, 3, 4, 5, 6] rfl) hf
      · rw [if_neg h11] at hf
        exact bk_MOD_put_87 F9 a1 a2 a3 a4 a5  hw (lv_sub hl [1, 2, 3, 4, 5, 6] rfl) hf
  · rw [if_pos h2] at hf
    refine lv_iconst (v := 1) hx hb nD_MOD_put_67 (by decide) ?_
    refine lv_goto (tgt := 92) hx hb nD_MOD_put_68 (by decide) ?_
    exact bk_MOD_put_92 F9 a1 a2 a3 a4 a5 (1 : Int32)  hw (lv_sub hl [1, 2, 3, 4, 5, 6] rfl) hf
set_option maxRecDepth 100000 in
set_option maxHeartbeats 4000000 in
theorem bk_MOD_put_58 {z : Int32 × sg_T} (F : fx_F p s m args meth c nC_MOD_put 7 (some .int) nR_MOD) (a1 : Int32) (a2 : Int32) (a3 : Int32) (a4 : Int32) (a5 : Int32) {σ : sg_T} {H : Heap} {locs : List Loc} {ls : Array Slot} (hw : ww_P x s H locs σ) (hl : lv_has ls 7 [(0, .ref (x.2.2 82)), (1, .int a1), (2, .int a2), (3, .int a3), (4, .int a4), (5, .int a5)]) (hf : fb_MOD_put_58 a1 a2 a3 a4 a5 σ = some z) : W p l e (rm_D 1) s m args below meth c H locs 0 0 (qi_Q x s below args z.1 z.2) (F0 m 58 ls []) := by
  have F9 := F
  obtain ⟨hx, hb, hml, hr, hlk, hown, hT⟩ := F
  unfold fb_MOD_put_58 at hf
  refine lv_iconst (v := 0) hx hb nD_MOD_put_58 (by decide) ?_
  exact bk_MOD_put_59 F9 a1 a2 a3 a4 a5 (0 : Int32)  hw (lv_sub hl [0, 1, 2, 3, 4, 5] rfl) hf
set_option maxRecDepth 100000 in
set_option maxHeartbeats 4000000 in
theorem bk_MOD_put_54 {z : Int32 × sg_T} (F : fx_F p s m args meth c nC_MOD_put 7 (some .int) nR_MOD) (a1 : Int32) (a2 : Int32) (a3 : Int32) (a4 : Int32) (a5 : Int32) {σ : sg_T} {H : Heap} {locs : List Loc} {ls : Array Slot} (hw : ww_P x s H locs σ) (hl : lv_has ls 7 [(0, .ref (x.2.2 82)), (1, .int a1), (2, .int a2), (3, .int a3), (4, .int a4), (5, .int a5)]) (hf : fb_MOD_put_54 a1 a2 a3 a4 a5 σ = some z) : W p l e (rm_D 1) s m args below meth c H locs 0 0 (qi_Q x s below args z.1 z.2) (F0 m 54 ls []) := by
  have F9 := F
  obtain ⟨hx, hb, hml, hr, hlk, hown, hT⟩ := F
  unfold fb_MOD_put_54 at hf
  refine lv_iconst (v := 1) hx hb nD_MOD_put_54 (by decide) ?_
  refine lv_goto (tgt := 59) hx hb nD_MOD_put_55 (by decide) ?_
  exact bk_MOD_put_59 F9 a1 a2 a3 a4 a5 (1 : Int32)  hw (lv_sub hl [0, 1, 2, 3, 4, 5] rfl) hf
set_option maxRecDepth 100000 in
set_option maxHeartbeats 4000000 in
theorem ct_MOD_put (l : Launch) (x : cx_T) (a1 : Int32) (a2 : Int32) (a3 : Int32) (a4 : Int32) (a5 : Int32) (σ : sg_T) (z : Int32 × sg_T) (hf : fn_MOD_put a1 a2 a3 a4 a5 σ = some z) : ct_i l nN_MOD_put nC_MOD_put 7 (some .int) 1 x [.ref (x.2.2 82), .int a1, .int a2, .int a3, .int a4, .int a5] σ z.1 z.2 := by
  refine en_i (own := nR_MOD) (by decide) (Nat.le_of_ble_eq_true rfl) rfl ?_
  intro p e s m below meth c ls F hw hl
  have F9 := F
  obtain ⟨hx, hb, hml, hr, hlk, hown, hT⟩ := F
  have hl : lv_has ls 7 [(0, .ref (x.2.2 82)), (1, .int a1), (2, .int a2), (3, .int a3), (4, .int a4), (5, .int a5)] := hl
  unfold fn_MOD_put at hf
  refine lv_iload_n hx hb nD_MOD_put_0 rfl (lv_at hl 1 rfl) ?_
  refine lv_if_lt (tgt := 58) hx hb nD_MOD_put_1 (by decide) (fun h1 => ?_) (fun h1 => ?_)
  · rw [if_pos h1] at hf
    exact bk_MOD_put_58 F9 a1 a2 a3 a4 a5  hw (lv_sub hl [0, 1, 2, 3, 4, 5] rfl) hf
  · rw [if_neg h1] at hf
    refine lv_iload_n hx hb nD_MOD_put_4 rfl (lv_at hl 1 rfl) ?_
    refine lv_bipush (v := 12) hx hb nD_MOD_put_5 (by decide) ?_
    refine lv_icmp_gt (tgt := 58) hx hb nD_MOD_put_7 (by decide) (fun h12 => ?_) (fun h12 => ?_)
    · rw [if_pos h12] at hf
      exact bk_MOD_put_58 F9 a1 a2 a3 a4 a5  hw (lv_sub hl [0, 1, 2, 3, 4, 5] rfl) hf
    · rw [if_neg h12] at hf
      refine lv_iload_n hx hb nD_MOD_put_10 rfl (lv_at hl 2 rfl) ?_
      obtain ⟨z13, hz13, hf⟩ := bd_of hf
      refine cl_si (As := [.int a2]) (rest := []) F9 hw (ct_MOD_isRegister l x a2  _ _ hz13) wc_MOD_145 hd_MOD_isRegister (by decide) hl rfl (Nat.le_of_ble_eq_true rfl) nD_MOD_put_11 (fun H locs hw => ?_)
      refine lv_if_eq (tgt := 58) hx hb nD_MOD_put_14 (by decide) (fun h14 => ?_) (fun h14 => ?_)
      · rw [if_pos h14] at hf
        exact bk_MOD_put_58 F9 a1 a2 a3 a4 a5  hw (lv_sub hl [0, 1, 2, 3, 4, 5] rfl) hf
      · rw [if_neg h14] at hf
        refine lv_iload_n hx hb nD_MOD_put_17 rfl (lv_at hl 3 rfl) ?_
        obtain ⟨z15, hz15, hf⟩ := bd_of hf
        refine cl_si (As := [.int a3]) (rest := []) F9 hw (ct_MOD_isRegister l x a3  _ _ hz15) wc_MOD_145 hd_MOD_isRegister (by decide) hl rfl (Nat.le_of_ble_eq_true rfl) nD_MOD_put_18 (fun H locs hw => ?_)
        refine lv_if_eq (tgt := 58) hx hb nD_MOD_put_21 (by decide) (fun h16 => ?_) (fun h16 => ?_)
        · rw [if_pos h16] at hf
          exact bk_MOD_put_58 F9 a1 a2 a3 a4 a5  hw (lv_sub hl [0, 1, 2, 3, 4, 5] rfl) hf
        · rw [if_neg h16] at hf
          refine lv_iload hx hb nD_MOD_put_24 (lv_at hl 4 rfl) ?_
          obtain ⟨z17, hz17, hf⟩ := bd_of hf
          refine cl_si (As := [.int a4]) (rest := []) F9 hw (ct_MOD_isRegister l x a4  _ _ hz17) wc_MOD_145 hd_MOD_isRegister (by decide) hl rfl (Nat.le_of_ble_eq_true rfl) nD_MOD_put_26 (fun H locs hw => ?_)
          refine lv_if_eq (tgt := 58) hx hb nD_MOD_put_29 (by decide) (fun h18 => ?_) (fun h18 => ?_)
          · rw [if_pos h18] at hf
            exact bk_MOD_put_58 F9 a1 a2 a3 a4 a5  hw (lv_sub hl [0, 1, 2, 3, 4, 5] rfl) hf
          · rw [if_neg h18] at hf
            refine lv_iload_n hx hb nD_MOD_put_32 rfl (lv_at hl 1 rfl) ?_
            refine lv_bipush (v := 8) hx hb nD_MOD_put_33 (by decide) ?_
            refine lv_icmp_eq (tgt := 54) hx hb nD_MOD_put_35 (by decide) (fun h19 => ?_) (fun h19 => ?_)
            · rw [if_pos h19] at hf
              exact bk_MOD_put_54 F9 a1 a2 a3 a4 a5  hw (lv_sub hl [0, 1, 2, 3, 4, 5] rfl) hf
            · rw [if_neg h19] at hf
              refine lv_iload hx hb nD_MOD_put_38 (lv_at hl 5 rfl) ?_
              refine lv_sipush (v := -1000) hx hb nD_MOD_put_40 (by decide) ?_
              refine lv_icmp_lt (tgt := 58) hx hb nD_MOD_put_43 (by decide) (fun h20 => ?_) (fun h20 => ?_)
              · rw [if_pos h20] at hf
                exact bk_MOD_put_58 F9 a1 a2 a3 a4 a5  hw (lv_sub hl [0, 1, 2, 3, 4, 5] rfl) hf
              · rw [if_neg h20] at hf
                refine lv_iload hx hb nD_MOD_put_46 (lv_at hl 5 rfl) ?_
                refine lv_sipush (v := 1000) hx hb nD_MOD_put_48 (by decide) ?_
                refine lv_icmp_gt (tgt := 58) hx hb nD_MOD_put_51 (by decide) (fun h21 => ?_) (fun h21 => ?_)
                · rw [if_pos h21] at hf
                  exact bk_MOD_put_58 F9 a1 a2 a3 a4 a5  hw (lv_sub hl [0, 1, 2, 3, 4, 5] rfl) hf
                · rw [if_neg h21] at hf
                  exact bk_MOD_put_54 F9 a1 a2 a3 a4 a5  hw (lv_sub hl [0, 1, 2, 3, 4, 5] rfl) hf
set_option maxRecDepth 100000 in
set_option maxHeartbeats 4000000 in
theorem bk_MOD_start_29 {z : Int32 × sg_T} (F : fx_F p s m args meth c nC_MOD_start 2 (some .boolean) nR_MOD) (a1 : Int32) (t0 : Int32) {σ : sg_T} {H : Heap} {locs : List Loc} {ls : Array Slot} (hw : ww_P x s H locs σ) (hl : lv_has ls 2 [(0, .ref (x.2.2 82)), (1, .int a1)]) (hf : fb_MOD_start_29 a1 t0 σ = some z) : W p l e (rm_D 1) s m args below meth c H locs 0 0 (qi_Q x s below args z.1 z.2) (F0 m 29 ls [.int t0, .ref (x.2.2 82)]) := by
  have F9 := F
  obtain ⟨hx, hb, hml, hr, hlk, hown, hT⟩ := F
  unfold fb_MOD_start_29 at hf
  refine wr_MOD_MOD_threw F9 hw nD_MOD_start_29 (fun H locs hw => ?_)
  refine lv_aload_n hx hb nD_MOD_start_32 rfl (lv_at hl 0 rfl) ?_
  refine rd_MOD_MOD_threw F9 hw nD_MOD_start_33 ?_
  refine lv_if_le (tgt := 41) hx hb nD_MOD_start_36 (by decide) (fun h2 => ?_) (fun h2 => ?_)
  · rw [if_pos h2] at hf
    refine lv_aload_n hx hb nD_MOD_start_41 rfl (lv_at hl 0 rfl) ?_
    refine lv_iload_n hx hb nD_MOD_start_42 rfl (lv_at hl 1 rfl) ?_
    refine wr_MOD_MOD_next F9 hw nD_MOD_start_43 (fun H locs hw => ?_)
    refine lv_aload_n hx hb nD_MOD_start_46 rfl (lv_at hl 0 rfl) ?_
    refine lv_iconst (v := 0) hx hb nD_MOD_start_47 (by decide) ?_
    refine wr_MOD_MOD_noted F9 hw nD_MOD_start_48 (fun H locs hw => ?_)
    refine lv_aload_n hx hb nD_MOD_start_51 rfl (lv_at hl 0 rfl) ?_
    refine lv_iconst (v := 0) hx hb nD_MOD_start_52 (by decide) ?_
    refine wr_MOD_MOD_state F9 hw nD_MOD_start_53 (fun H locs hw => ?_)
    refine lv_iconst (v := 1) hx hb nD_MOD_start_56 (by decide) ?_
    exact rt_i F9 hw rfl nD_MOD_start_57 hf
  · rw [if_neg h2] at hf
    refine lv_iconst (v := 0) hx hb nD_MOD_start_39 (by decide) ?_
    exact rt_i F9 hw rfl nD_MOD_start_40 hf
set_option maxRecDepth 100000 in
set_option maxHeartbeats 4000000 in
theorem bk_MOD_start_13 {z : Int32 × sg_T} (F : fx_F p s m args meth c nC_MOD_start 2 (some .boolean) nR_MOD) (a1 : Int32) {σ : sg_T} {H : Heap} {locs : List Loc} {ls : Array Slot} (hw : ww_P x s H locs σ) (hl : lv_has ls 2 [(0, .ref (x.2.2 82)), (1, .int a1)]) (hf : fb_MOD_start_13 a1 σ = some z) : W p l e (rm_D 1) s m args below meth c H locs 0 0 (qi_Q x s below args z.1 z.2) (F0 m 13 ls [.ref (x.2.2 82)]) := by
  have F9 := F
  obtain ⟨hx, hb, hml, hr, hlk, hown, hT⟩ := F
  unfold fb_MOD_start_13 at hf
  refine lv_iconst (v := 1) hx hb nD_MOD_start_13 (by decide) ?_
  refine lv_goto (tgt := 29) hx hb nD_MOD_start_14 (by decide) ?_
  exact bk_MOD_start_29 F9 a1 (1 : Int32)  hw (lv_sub hl [0, 1] rfl) hf
set_option maxRecDepth 100000 in
set_option maxHeartbeats 4000000 in
theorem ct_MOD_start (l : Launch) (x : cx_T) (a1 : Int32) (σ : sg_T) (z : Int32 × sg_T) (hf : fn_MOD_start a1 σ = some z) : ct_i l nN_MOD_start nC_MOD_start 2 (some .boolean) 1 x [.ref (x.2.2 82), .int a1] σ z.1 z.2 := by
  refine en_i (own := nR_MOD) (by decide) (Nat.le_of_ble_eq_true rfl) rfl ?_
  intro p e s m below meth c ls F hw hl
  have F9 := F
  obtain ⟨hx, hb, hml, hr, hlk, hown, hT⟩ := F
  have hl : lv_has ls 2 [(0, .ref (x.2.2 82)), (1, .int a1)] := hl
  unfold fn_MOD_start at hf
  refine lv_aload_n hx hb nD_MOD_start_0 rfl (lv_at hl 0 rfl) ?_
  refine lv_iload_n hx hb nD_MOD_start_1 rfl (lv_at hl 1 rfl) ?_
  refine lv_if_lt (tgt := 13) hx hb nD_MOD_start_2 (by decide) (fun h1 => ?_) (fun h1 => ?_)
  · rw [if_pos h1] at hf
    exact bk_MOD_start_13 F9 a1  hw (lv_sub hl [0, 1] rfl) hf
  · rw [if_neg h1] at hf
    refine lv_iload_n hx hb nD_MOD_start_5 rfl (lv_at hl 1 rfl) ?_
    refine lv_aload_n hx hb nD_MOD_start_6 rfl (lv_at hl 0 rfl) ?_
    refine rd_MOD_MOD_many F9 hw nD_MOD_start_7 ?_
    refine lv_icmp_lt (tgt := 17) hx hb nD_MOD_start_10 (by decide) (fun h3 => ?_) (fun h3 => ?_)
    · rw [if_pos h3] at hf
      refine lv_aload_n hx hb nD_MOD_start_17 rfl (lv_at hl 0 rfl) ?_
      obtain ⟨z4, hz4, hf⟩ := bd_of hf
      refine cl_vi (As := []) (rest := [.ref (x.2.2 82)]) F9 hw (ct_MOD_goes l x   _ _ hz4) (rc_MOD ) wc_MOD_151 hd_MOD_goes (by decide) hl rfl (Nat.le_of_ble_eq_true rfl) nD_MOD_start_18 (fun H locs hw => ?_)
      refine lv_if_eq (tgt := 28) hx hb nD_MOD_start_21 (by decide) (fun h5 => ?_) (fun h5 => ?_)
      · rw [if_pos h5] at hf
        refine lv_iconst (v := 0) hx hb nD_MOD_start_28 (by decide) ?_
        exact bk_MOD_start_29 F9 a1 (0 : Int32)  hw (lv_sub hl [0, 1] rfl) hf
      · rw [if_neg h5] at hf
        refine lv_iconst (v := 2) hx hb nD_MOD_start_24 (by decide) ?_
        refine lv_goto (tgt := 29) hx hb nD_MOD_start_25 (by decide) ?_
        exact bk_MOD_start_29 F9 a1 (2 : Int32)  hw (lv_sub hl [0, 1] rfl) hf
    · rw [if_neg h3] at hf
      exact bk_MOD_start_13 F9 a1  hw (lv_sub hl [0, 1] rfl) hf
set_option maxRecDepth 100000 in
set_option maxHeartbeats 4000000 in
theorem bk_MOD_set_24 {z : Int32 × sg_T} (F : fx_F p s m args meth c nC_MOD_set 3 (some .boolean) nR_MOD) (a1 : Int32) (a2 : Int32) (t0 : Int32) {σ : sg_T} {H : Heap} {locs : List Loc} {ls : Array Slot} (hw : ww_P x s H locs σ) (hl : lv_has ls 3 [(0, .ref (x.2.2 82)), (1, .int a1), (2, .int a2)]) (hf : fb_MOD_set_24 a1 a2 t0 σ = some z) : W p l e (rm_D 1) s m args below meth c H locs 0 0 (qi_Q x s below args z.1 z.2) (F0 m 24 ls [.int t0, .ref (x.2.2 82)]) := by
  have F9 := F
  obtain ⟨hx, hb, hml, hr, hlk, hown, hT⟩ := F
  unfold fb_MOD_set_24 at hf
  refine wr_MOD_MOD_threw F9 hw nD_MOD_set_24 (fun H locs hw => ?_)
  refine lv_aload_n hx hb nD_MOD_set_27 rfl (lv_at hl 0 rfl) ?_
  refine rd_MOD_MOD_threw F9 hw nD_MOD_set_28 ?_
  refine lv_if_le (tgt := 36) hx hb nD_MOD_set_31 (by decide) (fun h5 => ?_) (fun h5 => ?_)
  · rw [if_pos h5] at hf
    refine lv_aload_n hx hb nD_MOD_set_36 rfl (lv_at hl 0 rfl) ?_
    refine rd_MOD_MOD_value F9 hw nD_MOD_set_37 ?_
    refine lv_iload_n hx hb nD_MOD_set_40 rfl (lv_at hl 1 rfl) ?_
    refine lv_iload_n hx hb nD_MOD_set_41 rfl (lv_at hl 2 rfl) ?_
    obtain ⟨g6, hf⟩ := gt_of hf
    refine as_m_value F9 hw g6 nD_MOD_set_42 (fun H locs hw => ?_)
    refine lv_iconst (v := 1) hx hb nD_MOD_set_43 (by decide) ?_
    exact rt_i F9 hw rfl nD_MOD_set_44 hf
  · rw [if_neg h5] at hf
    refine lv_iconst (v := 0) hx hb nD_MOD_set_34 (by decide) ?_
    exact rt_i F9 hw rfl nD_MOD_set_35 hf
set_option maxRecDepth 100000 in
set_option maxHeartbeats 4000000 in
theorem ct_MOD_set (l : Launch) (x : cx_T) (a1 : Int32) (a2 : Int32) (σ : sg_T) (z : Int32 × sg_T) (hf : fn_MOD_set a1 a2 σ = some z) : ct_i l nN_MOD_set nC_MOD_set 3 (some .boolean) 1 x [.ref (x.2.2 82), .int a1, .int a2] σ z.1 z.2 := by
  refine en_i (own := nR_MOD) (by decide) (Nat.le_of_ble_eq_true rfl) rfl ?_
  intro p e s m below meth c ls F hw hl
  have F9 := F
  obtain ⟨hx, hb, hml, hr, hlk, hown, hT⟩ := F
  have hl : lv_has ls 3 [(0, .ref (x.2.2 82)), (1, .int a1), (2, .int a2)] := hl
  unfold fn_MOD_set at hf
  refine lv_aload_n hx hb nD_MOD_set_0 rfl (lv_at hl 0 rfl) ?_
  refine lv_iload_n hx hb nD_MOD_set_1 rfl (lv_at hl 1 rfl) ?_
  obtain ⟨z1, hz1, hf⟩ := bd_of hf
  refine cl_si (As := [.int a1]) (rest := [.ref (x.2.2 82)]) F9 hw (ct_MOD_isRegister l x a1  _ _ hz1) wc_MOD_145 hd_MOD_isRegister (by decide) hl rfl (Nat.le_of_ble_eq_true rfl) nD_MOD_set_2 (fun H locs hw => ?_)
  refine lv_if_ne (tgt := 12) hx hb nD_MOD_set_5 (by decide) (fun h2 => ?_) (fun h2 => ?_)
  · rw [if_neg h2] at hf
    refine lv_aload_n hx hb nD_MOD_set_12 rfl (lv_at hl 0 rfl) ?_
    obtain ⟨z3, hz3, hf⟩ := bd_of hf
    refine cl_vi (As := []) (rest := [.ref (x.2.2 82)]) F9 hw (ct_MOD_goes l x   _ _ hz3) (rc_MOD ) wc_MOD_151 hd_MOD_goes (by decide) hl rfl (Nat.le_of_ble_eq_true rfl) nD_MOD_set_13 (fun H locs hw => ?_)
    refine lv_if_eq (tgt := 23) hx hb nD_MOD_set_16 (by decide) (fun h4 => ?_) (fun h4 => ?_)
    · rw [if_pos h4] at hf
      refine lv_iconst (v := 0) hx hb nD_MOD_set_23 (by decide) ?_
      exact bk_MOD_set_24 F9 a1 a2 (0 : Int32)  hw (lv_sub hl [0, 1, 2] rfl) hf
    · rw [if_neg h4] at hf
      refine lv_iconst (v := 2) hx hb nD_MOD_set_19 (by decide) ?_
      refine lv_goto (tgt := 24) hx hb nD_MOD_set_20 (by decide) ?_
      exact bk_MOD_set_24 F9 a1 a2 (2 : Int32)  hw (lv_sub hl [0, 1, 2] rfl) hf
  · rw [if_pos h2] at hf
    refine lv_iconst (v := 1) hx hb nD_MOD_set_8 (by decide) ?_
    refine lv_goto (tgt := 24) hx hb nD_MOD_set_9 (by decide) ?_
    exact bk_MOD_set_24 F9 a1 a2 (1 : Int32)  hw (lv_sub hl [0, 1, 2] rfl) hf
set_option maxRecDepth 100000 in
set_option maxHeartbeats 4000000 in
theorem ct_MOD_isPlace (l : Launch) (x : cx_T) (a0 : Int32) (σ : sg_T) (z : Int32 × sg_T) (hf : fn_MOD_isPlace a0 σ = some z) : ct_i l nN_MOD_isPlace nC_MOD_isPlace 1 (some .boolean) 0 x [.int a0] σ z.1 z.2 := by
  refine en_i (own := nR_MOD) (by decide) (Nat.le_of_ble_eq_true rfl) rfl ?_
  intro p e s m below meth c ls F hw hl
  have F9 := F
  obtain ⟨hx, hb, hml, hr, hlk, hown, hT⟩ := F
  have hl : lv_has ls 1 [(0, .int a0)] := hl
  unfold fn_MOD_isPlace at hf
  refine lv_iload_n hx hb nD_MOD_isPlace_0 rfl (lv_at hl 0 rfl) ?_
  refine lv_if_lt (tgt := 14) hx hb nD_MOD_isPlace_1 (by decide) (fun h1 => ?_) (fun h1 => ?_)
  · rw [if_pos h1] at hf
    refine lv_iconst (v := 0) hx hb nD_MOD_isPlace_14 (by decide) ?_
    exact rt_i F9 hw rfl nD_MOD_isPlace_15 hf
  · rw [if_neg h1] at hf
    refine lv_iload_n hx hb nD_MOD_isPlace_4 rfl (lv_at hl 0 rfl) ?_
    refine lv_bipush (v := 31) hx hb nD_MOD_isPlace_5 (by decide) ?_
    refine lv_icmp_gt (tgt := 14) hx hb nD_MOD_isPlace_7 (by decide) (fun h2 => ?_) (fun h2 => ?_)
    · rw [if_pos h2] at hf
      refine lv_iconst (v := 0) hx hb nD_MOD_isPlace_14 (by decide) ?_
      exact rt_i F9 hw rfl nD_MOD_isPlace_15 hf
    · rw [if_neg h2] at hf
      refine lv_iconst (v := 1) hx hb nD_MOD_isPlace_10 (by decide) ?_
      refine lv_goto (tgt := 15) hx hb nD_MOD_isPlace_11 (by decide) ?_
      exact rt_i F9 hw rfl nD_MOD_isPlace_15 hf
set_option maxRecDepth 100000 in
set_option maxHeartbeats 4000000 in
theorem bk_MOD_store_24 {z : Int32 × sg_T} (F : fx_F p s m args meth c nC_MOD_store 3 (some .boolean) nR_MOD) (a1 : Int32) (a2 : Int32) (t0 : Int32) {σ : sg_T} {H : Heap} {locs : List Loc} {ls : Array Slot} (hw : ww_P x s H locs σ) (hl : lv_has ls 3 [(0, .ref (x.2.2 82)), (1, .int a1), (2, .int a2)]) (hf : fb_MOD_store_24 a1 a2 t0 σ = some z) : W p l e (rm_D 1) s m args below meth c H locs 0 0 (qi_Q x s below args z.1 z.2) (F0 m 24 ls [.int t0, .ref (x.2.2 82)]) := by
  have F9 := F
  obtain ⟨hx, hb, hml, hr, hlk, hown, hT⟩ := F
  unfold fb_MOD_store_24 at hf
  refine wr_MOD_MOD_threw F9 hw nD_MOD_store_24 (fun H locs hw => ?_)
  refine lv_aload_n hx hb nD_MOD_store_27 rfl (lv_at hl 0 rfl) ?_
  refine rd_MOD_MOD_threw F9 hw nD_MOD_store_28 ?_
  refine lv_if_le (tgt := 36) hx hb nD_MOD_store_31 (by decide) (fun h5 => ?_) (fun h5 => ?_)
  · rw [if_pos h5] at hf
    refine lv_aload_n hx hb nD_MOD_store_36 rfl (lv_at hl 0 rfl) ?_
    refine rd_MOD_MOD_words F9 hw nD_MOD_store_37 ?_
    refine lv_iload_n hx hb nD_MOD_store_40 rfl (lv_at hl 1 rfl) ?_
    refine lv_iload_n hx hb nD_MOD_store_41 rfl (lv_at hl 2 rfl) ?_
    obtain ⟨g6, hf⟩ := gt_of hf
    refine as_m_words F9 hw g6 nD_MOD_store_42 (fun H locs hw => ?_)
    refine lv_iconst (v := 1) hx hb nD_MOD_store_43 (by decide) ?_
    exact rt_i F9 hw rfl nD_MOD_store_44 hf
  · rw [if_neg h5] at hf
    refine lv_iconst (v := 0) hx hb nD_MOD_store_34 (by decide) ?_
    exact rt_i F9 hw rfl nD_MOD_store_35 hf
set_option maxRecDepth 100000 in
set_option maxHeartbeats 4000000 in
theorem ct_MOD_store (l : Launch) (x : cx_T) (a1 : Int32) (a2 : Int32) (σ : sg_T) (z : Int32 × sg_T) (hf : fn_MOD_store a1 a2 σ = some z) : ct_i l nN_MOD_store nC_MOD_store 3 (some .boolean) 1 x [.ref (x.2.2 82), .int a1, .int a2] σ z.1 z.2 := by
  refine en_i (own := nR_MOD) (by decide) (Nat.le_of_ble_eq_true rfl) rfl ?_
  intro p e s m below meth c ls F hw hl
  have F9 := F
  obtain ⟨hx, hb, hml, hr, hlk, hown, hT⟩ := F
  have hl : lv_has ls 3 [(0, .ref (x.2.2 82)), (1, .int a1), (2, .int a2)] := hl
  unfold fn_MOD_store at hf
  refine lv_aload_n hx hb nD_MOD_store_0 rfl (lv_at hl 0 rfl) ?_
  refine lv_iload_n hx hb nD_MOD_store_1 rfl (lv_at hl 1 rfl) ?_
  obtain ⟨z1, hz1, hf⟩ := bd_of hf
  refine cl_si (As := [.int a1]) (rest := [.ref (x.2.2 82)]) F9 hw (ct_MOD_isPlace l x a1  _ _ hz1) wc_MOD_161 hd_MOD_isPlace (by decide) hl rfl (Nat.le_of_ble_eq_true rfl) nD_MOD_store_2 (fun H locs hw => ?_)
  refine lv_if_ne (tgt := 12) hx hb nD_MOD_store_5 (by decide) (fun h2 => ?_) (fun h2 => ?_)
  · rw [if_neg h2] at hf
    refine lv_aload_n hx hb nD_MOD_store_12 rfl (lv_at hl 0 rfl) ?_
    obtain ⟨z3, hz3, hf⟩ := bd_of hf
    refine cl_vi (As := []) (rest := [.ref (x.2.2 82)]) F9 hw (ct_MOD_goes l x   _ _ hz3) (rc_MOD ) wc_MOD_151 hd_MOD_goes (by decide) hl rfl (Nat.le_of_ble_eq_true rfl) nD_MOD_store_13 (fun H locs hw => ?_)
    refine lv_if_eq (tgt := 23) hx hb nD_MOD_store_16 (by decide) (fun h4 => ?_) (fun h4 => ?_)
    · rw [if_pos h4] at hf
      refine lv_iconst (v := 0) hx hb nD_MOD_store_23 (by decide) ?_
      exact bk_MOD_store_24 F9 a1 a2 (0 : Int32)  hw (lv_sub hl [0, 1, 2] rfl) hf
    · rw [if_neg h4] at hf
      refine lv_iconst (v := 2) hx hb nD_MOD_store_19 (by decide) ?_
      refine lv_goto (tgt := 24) hx hb nD_MOD_store_20 (by decide) ?_
      exact bk_MOD_store_24 F9 a1 a2 (2 : Int32)  hw (lv_sub hl [0, 1, 2] rfl) hf
  · rw [if_pos h2] at hf
    refine lv_iconst (v := 1) hx hb nD_MOD_store_8 (by decide) ?_
    refine lv_goto (tgt := 24) hx hb nD_MOD_store_9 (by decide) ?_
    exact bk_MOD_store_24 F9 a1 a2 (1 : Int32)  hw (lv_sub hl [0, 1, 2] rfl) hf
set_option maxRecDepth 100000 in
set_option maxHeartbeats 4000000 in
theorem ct_MOD_turnOf (l : Launch) (x : cx_T) (a0 : Int32) (σ : sg_T) (z : Int32 × sg_T) (hf : fn_MOD_turnOf a0 σ = some z) : ct_i l nN_MOD_turnOf nC_MOD_turnOf 1 (some .int) 0 x [.int a0] σ z.1 z.2 := by
  refine en_i (own := nR_MOD) (by decide) (Nat.le_of_ble_eq_true rfl) rfl ?_
  intro p e s m below meth c ls F hw hl
  have F9 := F
  obtain ⟨hx, hb, hml, hr, hlk, hown, hT⟩ := F
  have hl : lv_has ls 1 [(0, .int a0)] := hl
  unfold fn_MOD_turnOf at hf
  refine lv_iload_n hx hb nD_MOD_turnOf_0 rfl (lv_at hl 0 rfl) ?_
  refine lv_iconst (v := 4) hx hb nD_MOD_turnOf_1 (by decide) ?_
  refine lv_icmp_ge (tgt := 12) hx hb nD_MOD_turnOf_2 (by decide) (fun h1 => ?_) (fun h1 => ?_)
  · rw [if_pos h1] at hf
    refine lv_iload_n hx hb nD_MOD_turnOf_12 rfl (lv_at hl 0 rfl) ?_
    refine lv_iconst (v := 3) hx hb nD_MOD_turnOf_13 (by decide) ?_
    refine lv_isub hx hb nD_MOD_turnOf_14 ?_
    exact rt_i F9 hw rfl nD_MOD_turnOf_15 hf
  · rw [if_neg h1] at hf
    refine lv_bipush (v := 6) hx hb nD_MOD_turnOf_5 (by decide) ?_
    refine lv_iload_n hx hb nD_MOD_turnOf_7 rfl (lv_at hl 0 rfl) ?_
    refine lv_iadd hx hb nD_MOD_turnOf_8 ?_
    refine lv_goto (tgt := 15) hx hb nD_MOD_turnOf_9 (by decide) ?_
    exact rt_i F9 hw rfl nD_MOD_turnOf_15 hf
set_option maxRecDepth 100000 in
set_option maxHeartbeats 4000000 in
theorem bk_MOD_bus_195 {z : sg_T} (F : fx_F p s m args meth c nC_MOD_bus 4 none nR_MOD) (kL130 : Int32 → Int32 → sg_T → Option (sg_T)) (ih130 : ∀ (a1 : Int32) (a2 : Int32) (σ : sg_T) (H : Heap) (locs : List Loc) (ls : Array Slot), ww_P x s H locs σ → lv_has ls 4 [(0, .ref (x.2.2 82)), (1, .int a1), (2, .int a2)] → kL130 a1 a2 σ = some z → W p l e (rm_D 1) s m args below meth c H locs 0 0 (qv_Q x s below args z) (F0 m 130 ls [])) (a1 : Int32) (a2 : Int32) (t0 : Int32) (t1 : Int32) {σ : sg_T} {H : Heap} {locs : List Loc} {ls : Array Slot} (hw : ww_P x s H locs σ) (hl : lv_has ls 4 [(0, .ref (x.2.2 82)), (1, .int a1), (2, .int a2)]) (hf : fb_MOD_bus_195 kL130 a1 a2 t0 t1 σ = some z) : W p l e (rm_D 1) s m args below meth c H locs 0 0 (qv_Q x s below args z) (F0 m 195 ls [.int t0, .int t1, .ref (x.2.2 89)]) := by
  have F9 := F
  obtain ⟨hx, hb, hml, hr, hlk, hown, hT⟩ := F
  unfold fb_MOD_bus_195 at hf
  obtain ⟨g14, hf⟩ := gt_of hf
  refine as_m_waits F9 hw g14 nD_MOD_bus_195 (fun H locs hw => ?_)
  refine lv_iinc (k := 2) (v := a2 + (1 : Int32)) (lv' := [(2, .int (a2 + (1 : Int32))), (0, .ref (x.2.2 82)), (1, .int a1)]) hx hb nD_MOD_bus_196 hl rfl (ic_p1 _) (by decide) rfl (fun ls hl => ?_)
  refine lv_goto (tgt := 130) hx hb nD_MOD_bus_199 (by decide) ?_
  exact ih130 a1 (a2 + (1 : Int32)) _ _ _ _  hw (lv_sub hl [1, 2, 0] rfl) hf
set_option maxRecDepth 100000 in
set_option maxHeartbeats 4000000 in
theorem bk_MOD_bus_175 {z : sg_T} (F : fx_F p s m args meth c nC_MOD_bus 4 none nR_MOD) (kL130 : Int32 → Int32 → sg_T → Option (sg_T)) (ih130 : ∀ (a1 : Int32) (a2 : Int32) (σ : sg_T) (H : Heap) (locs : List Loc) (ls : Array Slot), ww_P x s H locs σ → lv_has ls 4 [(0, .ref (x.2.2 82)), (1, .int a1), (2, .int a2)] → kL130 a1 a2 σ = some z → W p l e (rm_D 1) s m args below meth c H locs 0 0 (qv_Q x s below args z) (F0 m 130 ls [])) (a1 : Int32) (a2 : Int32) (a3 : Int32) (t0 : Int32) (t1 : Int32) {σ : sg_T} {H : Heap} {locs : List Loc} {ls : Array Slot} (hw : ww_P x s H locs σ) (hl : lv_has ls 4 [(0, .ref (x.2.2 82)), (1, .int a1), (2, .int a2), (3, .int a3)]) (hf : fb_MOD_bus_175 kL130 a1 a2 a3 t0 t1 σ = some z) : W p l e (rm_D 1) s m args below meth c H locs 0 0 (qv_Q x s below args z) (F0 m 175 ls [.int t0, .int t1, .ref (x.2.2 88)]) := by
  have F9 := F
  obtain ⟨hx, hb, hml, hr, hlk, hown, hT⟩ := F
  unfold fb_MOD_bus_175 at hf
  obtain ⟨g11, hf⟩ := gt_of hf
  refine as_m_value F9 hw g11 nD_MOD_bus_175 (fun H locs hw => ?_)
  refine lv_aload_n hx hb nD_MOD_bus_176 rfl (lv_at hl 0 rfl) ?_
  refine rd_MOD_MOD_waits F9 hw nD_MOD_bus_177 ?_
  refine lv_iload_n hx hb nD_MOD_bus_180 rfl (lv_at hl 2 rfl) ?_
  refine lv_iload_n hx hb nD_MOD_bus_181 rfl (lv_at hl 3 rfl) ?_
  refine lv_if_eq (tgt := 189) hx hb nD_MOD_bus_182 (by decide) (fun h12 => ?_) (fun h12 => ?_)
  · rw [if_pos h12] at hf
    refine lv_aload_n hx hb nD_MOD_bus_189 rfl (lv_at hl 0 rfl) ?_
    refine rd_MOD_MOD_waits F9 hw nD_MOD_bus_190 ?_
    refine lv_iload_n hx hb nD_MOD_bus_193 rfl (lv_at hl 2 rfl) ?_
    obtain ⟨g13, hf⟩ := gt_of hf
    refine al_m_waits F9 hw g13 nD_MOD_bus_194 ?_
    exact bk_MOD_bus_195 F9 kL130 ih130 a1 a2 ((sg_up σ 36 (tn_I t1) t0) 37 (tn_I a2)) a2  hw (lv_sub hl [0, 1, 2] rfl) hf
  · rw [if_neg h12] at hf
    refine lv_iconst (v := 0) hx hb nD_MOD_bus_185 (by decide) ?_
    refine lv_goto (tgt := 195) hx hb nD_MOD_bus_186 (by decide) ?_
    exact bk_MOD_bus_195 F9 kL130 ih130 a1 a2 (0 : Int32) a2  hw (lv_sub hl [0, 1, 2] rfl) hf
set_option maxRecDepth 100000 in
set_option maxHeartbeats 4000000 in
theorem bk_MOD_bus_150 {z : sg_T} (F : fx_F p s m args meth c nC_MOD_bus 4 none nR_MOD) (kL130 : Int32 → Int32 → sg_T → Option (sg_T)) (ih130 : ∀ (a1 : Int32) (a2 : Int32) (σ : sg_T) (H : Heap) (locs : List Loc) (ls : Array Slot), ww_P x s H locs σ → lv_has ls 4 [(0, .ref (x.2.2 82)), (1, .int a1), (2, .int a2)] → kL130 a1 a2 σ = some z → W p l e (rm_D 1) s m args below meth c H locs 0 0 (qv_Q x s below args z) (F0 m 130 ls [])) (a1 : Int32) (a2 : Int32) (t0 : Int32) {σ : sg_T} {H : Heap} {locs : List Loc} {ls : Array Slot} (hw : ww_P x s H locs σ) (hl : lv_has ls 4 [(0, .ref (x.2.2 82)), (1, .int a1), (2, .int a2)]) (hf : fb_MOD_bus_150 kL130 a1 a2 t0 σ = some z) : W p l e (rm_D 1) s m args below meth c H locs 0 0 (qv_Q x s below args z) (F0 m 150 ls [.int t0]) := by
  have F9 := F
  obtain ⟨hx, hb, hml, hr, hlk, hown, hT⟩ := F
  unfold fb_MOD_bus_150 at hf
  refine lv_istore_n (lv' := [(3, .int t0), (0, .ref (x.2.2 82)), (1, .int a1), (2, .int a2)]) hx hb nD_MOD_bus_150 rfl hl (by decide) rfl (fun ls hl => ?_)
  refine lv_aload_n hx hb nD_MOD_bus_151 rfl (lv_at hl 1 rfl) ?_
  refine rd_MOD_MOD_value F9 hw nD_MOD_bus_152 ?_
  refine lv_iload_n hx hb nD_MOD_bus_155 rfl (lv_at hl 3 rfl) ?_
  refine lv_iload_n hx hb nD_MOD_bus_156 rfl (lv_at hl 0 rfl) ?_
  refine lv_if_eq (tgt := 169) hx hb nD_MOD_bus_157 (by decide) (fun h9 => ?_) (fun h9 => ?_)
  · rw [if_pos h9] at hf
    refine lv_aload_n hx hb nD_MOD_bus_169 rfl (lv_at hl 1 rfl) ?_
    refine rd_MOD_MOD_value F9 hw nD_MOD_bus_170 ?_
    refine lv_iload_n hx hb nD_MOD_bus_173 rfl (lv_at hl 3 rfl) ?_
    obtain ⟨g10, hf⟩ := gt_of hf
    refine al_m_value F9 hw g10 nD_MOD_bus_174 ?_
    exact bk_MOD_bus_175 F9 kL130 ih130 a1 a2 t0 (σ 36 (tn_I a2)) a2  hw (lv_sub hl [1, 2, 3, 0] rfl) hf
  · rw [if_neg h9] at hf
    refine lv_aload_n hx hb nD_MOD_bus_160 rfl (lv_at hl 1 rfl) ?_
    refine rd_MOD_MOD_gives F9 hw nD_MOD_bus_161 ?_
    refine lv_iload_n hx hb nD_MOD_bus_164 rfl (lv_at hl 2 rfl) ?_
    obtain ⟨g15, hf⟩ := gt_of hf
    refine al_m_gives F9 hw g15 nD_MOD_bus_165 ?_
    refine lv_goto (tgt := 175) hx hb nD_MOD_bus_166 (by decide) ?_
    exact bk_MOD_bus_175 F9 kL130 ih130 a1 a2 t0 (σ 43 (tn_I a1)) a2  hw (lv_sub hl [1, 2, 3, 0] rfl) hf
set_option maxRecDepth 100000 in
set_option maxHeartbeats 4000000 in
theorem bk_MOD_bus_130 {z : sg_T} (F : fx_F p s m args meth c nC_MOD_bus 4 none nR_MOD) : ∀ (n : Nat) (a1 : Int32) (a2 : Int32) (σ : sg_T) (H : Heap) (locs : List Loc) (ls : Array Slot), ww_P x s H locs σ → lv_has ls 4 [(0, .ref (x.2.2 82)), (1, .int a1), (2, .int a2)] → fb_MOD_bus_130 n a1 a2 σ = some z → W p l e (rm_D 1) s m args below meth c H locs 0 0 (qv_Q x s below args z) (F0 m 130 ls []) := by
  have F9 := F
  obtain ⟨hx, hb, hml, hr, hlk, hown, hT⟩ := F
  intro n
  induction n with
  | zero =>
    intro a1 a2 σ H locs ls  hw hl hf
    simp [fb_MOD_bus_130] at hf
  | succ n ih =>
    intro a1 a2 σ H locs ls  hw hl hf
    unfold fb_MOD_bus_130 at hf
    refine lv_iload_n hx hb nD_MOD_bus_130 rfl (lv_at hl 2 rfl) ?_
    refine lv_iconst (v := 5) hx hb nD_MOD_bus_131 (by decide) ?_
    refine lv_icmp_ge (tgt := 202) hx hb nD_MOD_bus_132 (by decide) (fun h4 => ?_) (fun h4 => ?_)
    · rw [if_pos h4] at hf
      refine lv_aload_n hx hb nD_MOD_bus_202 rfl (lv_at hl 0 rfl) ?_
      refine lv_aload_n hx hb nD_MOD_bus_203 rfl (lv_at hl 0 rfl) ?_
      refine rd_MOD_MOD_noted F9 hw nD_MOD_bus_204 ?_
      refine lv_aload_n hx hb nD_MOD_bus_207 rfl (lv_at hl 0 rfl) ?_
      refine rd_MOD_MOD_notes F9 hw nD_MOD_bus_208 ?_
      refine lv_iload_n hx hb nD_MOD_bus_211 rfl (lv_at hl 1 rfl) ?_
      obtain ⟨g5, hf⟩ := gt_of hf
      refine al_m_notes F9 hw g5 nD_MOD_bus_212 ?_
      refine lv_ior hx hb nD_MOD_bus_213 ?_
      refine wr_MOD_MOD_noted F9 hw nD_MOD_bus_214 (fun H locs hw => ?_)
      refine lv_aload_n hx hb nD_MOD_bus_217 rfl (lv_at hl 0 rfl) ?_
      refine rd_MOD_MOD_place F9 hw nD_MOD_bus_218 ?_
      refine lv_iload_n hx hb nD_MOD_bus_221 rfl (lv_at hl 1 rfl) ?_
      refine lv_iconst (v := 0) hx hb nD_MOD_bus_222 (by decide) ?_
      obtain ⟨g6, hf⟩ := gt_of hf
      refine as_m_place F9 hw g6 nD_MOD_bus_223 (fun H locs hw => ?_)
      exact rt_v F9 hw nD_MOD_bus_224 hf
    · rw [if_neg h4] at hf
      refine lv_aload_n hx hb nD_MOD_bus_135 rfl (lv_at hl 0 rfl) ?_
      refine rd_MOD_MOD_waits F9 hw nD_MOD_bus_136 ?_
      refine lv_iload_n hx hb nD_MOD_bus_139 rfl (lv_at hl 2 rfl) ?_
      obtain ⟨g7, hf⟩ := gt_of hf
      refine al_m_waits F9 hw g7 nD_MOD_bus_140 ?_
      refine lv_iload_n hx hb nD_MOD_bus_141 rfl (lv_at hl 1 rfl) ?_
      refine lv_icmp_ne (tgt := 149) hx hb nD_MOD_bus_142 (by decide) (fun h8 => ?_) (fun h8 => ?_)
      · rw [if_neg h8] at hf
        refine lv_iconst (v := 0) hx hb nD_MOD_bus_149 (by decide) ?_
        exact bk_MOD_bus_150 F9 (fb_MOD_bus_130 n) ih a1 a2 (0 : Int32)  hw (lv_sub hl [0, 1, 2] rfl) hf
      · rw [if_pos h8] at hf
        refine lv_iconst (v := 1) hx hb nD_MOD_bus_145 (by decide) ?_
        refine lv_goto (tgt := 150) hx hb nD_MOD_bus_146 (by decide) ?_
        exact bk_MOD_bus_150 F9 (fb_MOD_bus_130 n) ih a1 a2 (1 : Int32)  hw (lv_sub hl [0, 1, 2] rfl) hf
set_option maxRecDepth 100000 in
set_option maxHeartbeats 4000000 in
theorem bk_MOD_bus_121 {z : sg_T} (F : fx_F p s m args meth c nC_MOD_bus 4 none nR_MOD) (kL44 : Int32 → Int32 → sg_T → Option (sg_T)) (ih44 : ∀ (a1 : Int32) (a2 : Int32) (σ : sg_T) (H : Heap) (locs : List Loc) (ls : Array Slot), ww_P x s H locs σ → lv_has ls 4 [(0, .ref (x.2.2 82)), (1, .int a1), (2, .int a2)] → kL44 a1 a2 σ = some z → W p l e (rm_D 1) s m args below meth c H locs 0 0 (qv_Q x s below args z) (F0 m 44 ls [])) (a1 : Int32) (a2 : Int32) (t0 : Int32) (t1 : Int32) {σ : sg_T} {H : Heap} {locs : List Loc} {ls : Array Slot} (hw : ww_P x s H locs σ) (hl : lv_has ls 4 [(0, .ref (x.2.2 82)), (1, .int a1), (2, .int a2)]) (hf : fb_MOD_bus_121 kL44 a1 a2 t0 t1 σ = some z) : W p l e (rm_D 1) s m args below meth c H locs 0 0 (qv_Q x s below args z) (F0 m 121 ls [.int t0, .int t1, .ref (x.2.2 98)]) := by
  have F9 := F
  obtain ⟨hx, hb, hml, hr, hlk, hown, hT⟩ := F
  unfold fb_MOD_bus_121 at hf
  obtain ⟨g23, hf⟩ := gt_of hf
  refine as_m_tag F9 hw g23 nD_MOD_bus_121 (fun H locs hw => ?_)
  refine lv_iinc (k := 2) (v := a2 + (1 : Int32)) (lv' := [(2, .int (a2 + (1 : Int32))), (0, .ref (x.2.2 82)), (1, .int a1)]) hx hb nD_MOD_bus_122 hl rfl (ic_p1 _) (by decide) rfl (fun ls hl => ?_)
  refine lv_goto (tgt := 44) hx hb nD_MOD_bus_125 (by decide) ?_
  exact ih44 a1 (a2 + (1 : Int32)) _ _ _ _  hw (lv_sub hl [1, 2, 0] rfl) hf
set_option maxRecDepth 100000 in
set_option maxHeartbeats 4000000 in
theorem bk_MOD_bus_101 {z : sg_T} (F : fx_F p s m args meth c nC_MOD_bus 4 none nR_MOD) (kL44 : Int32 → Int32 → sg_T → Option (sg_T)) (ih44 : ∀ (a1 : Int32) (a2 : Int32) (σ : sg_T) (H : Heap) (locs : List Loc) (ls : Array Slot), ww_P x s H locs σ → lv_has ls 4 [(0, .ref (x.2.2 82)), (1, .int a1), (2, .int a2)] → kL44 a1 a2 σ = some z → W p l e (rm_D 1) s m args below meth c H locs 0 0 (qv_Q x s below args z) (F0 m 44 ls [])) (a1 : Int32) (a2 : Int32) (a3 : Int32) (t0 : Int32) (t1 : Int32) {σ : sg_T} {H : Heap} {locs : List Loc} {ls : Array Slot} (hw : ww_P x s H locs σ) (hl : lv_has ls 4 [(0, .ref (x.2.2 82)), (1, .int a1), (2, .int a2), (3, .int a3)]) (hf : fb_MOD_bus_101 kL44 a1 a2 a3 t0 t1 σ = some z) : W p l e (rm_D 1) s m args below meth c H locs 0 0 (qv_Q x s below args z) (F0 m 101 ls [.int t0, .int t1, .ref (x.2.2 97)]) := by
  have F9 := F
  obtain ⟨hx, hb, hml, hr, hlk, hown, hT⟩ := F
  unfold fb_MOD_bus_101 at hf
  obtain ⟨g20, hf⟩ := gt_of hf
  refine as_m_operand F9 hw g20 nD_MOD_bus_101 (fun H locs hw => ?_)
  refine lv_aload_n hx hb nD_MOD_bus_102 rfl (lv_at hl 0 rfl) ?_
  refine rd_MOD_MOD_tag F9 hw nD_MOD_bus_103 ?_
  refine lv_iload_n hx hb nD_MOD_bus_106 rfl (lv_at hl 2 rfl) ?_
  refine lv_iload_n hx hb nD_MOD_bus_107 rfl (lv_at hl 3 rfl) ?_
  refine lv_if_eq (tgt := 115) hx hb nD_MOD_bus_108 (by decide) (fun h21 => ?_) (fun h21 => ?_)
  · rw [if_pos h21] at hf
    refine lv_aload_n hx hb nD_MOD_bus_115 rfl (lv_at hl 0 rfl) ?_
    refine rd_MOD_MOD_tag F9 hw nD_MOD_bus_116 ?_
    refine lv_iload_n hx hb nD_MOD_bus_119 rfl (lv_at hl 2 rfl) ?_
    obtain ⟨g22, hf⟩ := gt_of hf
    refine al_m_tag F9 hw g22 nD_MOD_bus_120 ?_
    exact bk_MOD_bus_121 F9 kL44 ih44 a1 a2 ((sg_up σ 45 (tn_I t1) t0) 46 (tn_I a2)) a2  hw (lv_sub hl [0, 1, 2] rfl) hf
  · rw [if_neg h21] at hf
    refine lv_iconst (v := 0) hx hb nD_MOD_bus_111 (by decide) ?_
    refine lv_goto (tgt := 121) hx hb nD_MOD_bus_112 (by decide) ?_
    exact bk_MOD_bus_121 F9 kL44 ih44 a1 a2 (0 : Int32) a2  hw (lv_sub hl [0, 1, 2] rfl) hf
set_option maxRecDepth 100000 in
set_option maxHeartbeats 4000000 in
theorem bk_MOD_bus_76 {z : sg_T} (F : fx_F p s m args meth c nC_MOD_bus 4 none nR_MOD) (kL44 : Int32 → Int32 → sg_T → Option (sg_T)) (ih44 : ∀ (a1 : Int32) (a2 : Int32) (σ : sg_T) (H : Heap) (locs : List Loc) (ls : Array Slot), ww_P x s H locs σ → lv_has ls 4 [(0, .ref (x.2.2 82)), (1, .int a1), (2, .int a2)] → kL44 a1 a2 σ = some z → W p l e (rm_D 1) s m args below meth c H locs 0 0 (qv_Q x s below args z) (F0 m 44 ls [])) (a1 : Int32) (a2 : Int32) (t0 : Int32) {σ : sg_T} {H : Heap} {locs : List Loc} {ls : Array Slot} (hw : ww_P x s H locs σ) (hl : lv_has ls 4 [(0, .ref (x.2.2 82)), (1, .int a1), (2, .int a2)]) (hf : fb_MOD_bus_76 kL44 a1 a2 t0 σ = some z) : W p l e (rm_D 1) s m args below meth c H locs 0 0 (qv_Q x s below args z) (F0 m 76 ls [.int t0]) := by
  have F9 := F
  obtain ⟨hx, hb, hml, hr, hlk, hown, hT⟩ := F
  unfold fb_MOD_bus_76 at hf
  refine lv_istore_n (lv' := [(3, .int t0), (0, .ref (x.2.2 82)), (1, .int a1), (2, .int a2)]) hx hb nD_MOD_bus_76 rfl hl (by decide) rfl (fun ls hl => ?_)
  refine lv_aload_n hx hb nD_MOD_bus_77 rfl (lv_at hl 1 rfl) ?_
  refine rd_MOD_MOD_operand F9 hw nD_MOD_bus_78 ?_
  refine lv_iload_n hx hb nD_MOD_bus_81 rfl (lv_at hl 3 rfl) ?_
  refine lv_iload_n hx hb nD_MOD_bus_82 rfl (lv_at hl 0 rfl) ?_
  refine lv_if_eq (tgt := 95) hx hb nD_MOD_bus_83 (by decide) (fun h18 => ?_) (fun h18 => ?_)
  · rw [if_pos h18] at hf
    refine lv_aload_n hx hb nD_MOD_bus_95 rfl (lv_at hl 1 rfl) ?_
    refine rd_MOD_MOD_operand F9 hw nD_MOD_bus_96 ?_
    refine lv_iload_n hx hb nD_MOD_bus_99 rfl (lv_at hl 3 rfl) ?_
    obtain ⟨g19, hf⟩ := gt_of hf
    refine al_m_operand F9 hw g19 nD_MOD_bus_100 ?_
    exact bk_MOD_bus_101 F9 kL44 ih44 a1 a2 t0 (σ 45 (tn_I a2)) a2  hw (lv_sub hl [1, 2, 3, 0] rfl) hf
  · rw [if_neg h18] at hf
    refine lv_aload_n hx hb nD_MOD_bus_86 rfl (lv_at hl 1 rfl) ?_
    refine rd_MOD_MOD_gives F9 hw nD_MOD_bus_87 ?_
    refine lv_iload_n hx hb nD_MOD_bus_90 rfl (lv_at hl 2 rfl) ?_
    obtain ⟨g24, hf⟩ := gt_of hf
    refine al_m_gives F9 hw g24 nD_MOD_bus_91 ?_
    refine lv_goto (tgt := 101) hx hb nD_MOD_bus_92 (by decide) ?_
    exact bk_MOD_bus_101 F9 kL44 ih44 a1 a2 t0 (σ 43 (tn_I a1)) a2  hw (lv_sub hl [1, 2, 3, 0] rfl) hf
set_option maxRecDepth 100000 in
set_option maxHeartbeats 4000000 in
theorem bk_MOD_bus_75 {z : sg_T} (F : fx_F p s m args meth c nC_MOD_bus 4 none nR_MOD) (kL44 : Int32 → Int32 → sg_T → Option (sg_T)) (ih44 : ∀ (a1 : Int32) (a2 : Int32) (σ : sg_T) (H : Heap) (locs : List Loc) (ls : Array Slot), ww_P x s H locs σ → lv_has ls 4 [(0, .ref (x.2.2 82)), (1, .int a1), (2, .int a2)] → kL44 a1 a2 σ = some z → W p l e (rm_D 1) s m args below meth c H locs 0 0 (qv_Q x s below args z) (F0 m 44 ls [])) (a1 : Int32) (a2 : Int32) {σ : sg_T} {H : Heap} {locs : List Loc} {ls : Array Slot} (hw : ww_P x s H locs σ) (hl : lv_has ls 4 [(0, .ref (x.2.2 82)), (1, .int a1), (2, .int a2)]) (hf : fb_MOD_bus_75 kL44 a1 a2 σ = some z) : W p l e (rm_D 1) s m args below meth c H locs 0 0 (qv_Q x s below args z) (F0 m 75 ls []) := by
  have F9 := F
  obtain ⟨hx, hb, hml, hr, hlk, hown, hT⟩ := F
  unfold fb_MOD_bus_75 at hf
  refine lv_iconst (v := 0) hx hb nD_MOD_bus_75 (by decide) ?_
  exact bk_MOD_bus_76 F9 kL44 ih44 a1 a2 (0 : Int32)  hw (lv_sub hl [0, 1, 2] rfl) hf
set_option maxRecDepth 100000 in
set_option maxHeartbeats 4000000 in
theorem bk_MOD_bus_44 {z : sg_T} (F : fx_F p s m args meth c nC_MOD_bus 4 none nR_MOD) : ∀ (n : Nat) (a1 : Int32) (a2 : Int32) (σ : sg_T) (H : Heap) (locs : List Loc) (ls : Array Slot), ww_P x s H locs σ → lv_has ls 4 [(0, .ref (x.2.2 82)), (1, .int a1), (2, .int a2)] → fb_MOD_bus_44 n a1 a2 σ = some z → W p l e (rm_D 1) s m args below meth c H locs 0 0 (qv_Q x s below args z) (F0 m 44 ls []) := by
  have F9 := F
  obtain ⟨hx, hb, hml, hr, hlk, hown, hT⟩ := F
  intro n
  induction n with
  | zero =>
    intro a1 a2 σ H locs ls  hw hl hf
    simp [fb_MOD_bus_44] at hf
  | succ n ih =>
    intro a1 a2 σ H locs ls  hw hl hf
    unfold fb_MOD_bus_44 at hf
    refine lv_iload_n hx hb nD_MOD_bus_44 rfl (lv_at hl 2 rfl) ?_
    refine lv_bipush (v := 26) hx hb nD_MOD_bus_45 (by decide) ?_
    refine lv_icmp_ge (tgt := 128) hx hb nD_MOD_bus_47 (by decide) (fun h3 => ?_) (fun h3 => ?_)
    · rw [if_pos h3] at hf
      refine lv_iconst (v := 0) hx hb nD_MOD_bus_128 (by decide) ?_
      refine lv_istore_n (lv' := [(2, .int (0 : Int32)), (0, .ref (x.2.2 82)), (1, .int a1)]) hx hb nD_MOD_bus_129 rfl hl (by decide) rfl (fun ls hl => ?_)
      exact bk_MOD_bus_130 F9 27 a1 (0 : Int32) _ _ _ _  hw (lv_sub hl [1, 2, 0] rfl) hf
    · rw [if_neg h3] at hf
      refine lv_aload_n hx hb nD_MOD_bus_50 rfl (lv_at hl 0 rfl) ?_
      refine rd_MOD_MOD_tag F9 hw nD_MOD_bus_51 ?_
      refine lv_iload_n hx hb nD_MOD_bus_54 rfl (lv_at hl 2 rfl) ?_
      obtain ⟨g16, hf⟩ := gt_of hf
      refine al_m_tag F9 hw g16 nD_MOD_bus_55 ?_
      refine lv_iload_n hx hb nD_MOD_bus_56 rfl (lv_at hl 1 rfl) ?_
      refine lv_icmp_ne (tgt := 75) hx hb nD_MOD_bus_57 (by decide) (fun h17 => ?_) (fun h17 => ?_)
      · rw [if_neg h17] at hf
        exact bk_MOD_bus_75 F9 (fb_MOD_bus_44 n) ih a1 a2  hw (lv_sub hl [0, 1, 2] rfl) hf
      · rw [if_pos h17] at hf
        refine lv_aload_n hx hb nD_MOD_bus_60 rfl (lv_at hl 0 rfl) ?_
        refine rd_MOD_MOD_place F9 hw nD_MOD_bus_61 ?_
        refine lv_iload_n hx hb nD_MOD_bus_64 rfl (lv_at hl 2 rfl) ?_
        refine lv_iconst (v := 2) hx hb nD_MOD_bus_65 (by decide) ?_
        obtain ⟨g25, hf⟩ := gt_of hf
        refine lv_idiv hx hb nD_MOD_bus_66 (of_decide_eq_true g25) ?_
        obtain ⟨g26, hf⟩ := gt_of hf
        refine al_m_place F9 hw g26 nD_MOD_bus_67 ?_
        refine lv_if_le (tgt := 75) hx hb nD_MOD_bus_68 (by decide) (fun h27 => ?_) (fun h27 => ?_)
        · rw [if_pos h27] at hf
          exact bk_MOD_bus_75 F9 (fb_MOD_bus_44 n) ih a1 a2  hw (lv_sub hl [0, 1, 2] rfl) hf
        · rw [if_neg h27] at hf
          refine lv_iconst (v := 1) hx hb nD_MOD_bus_71 (by decide) ?_
          refine lv_goto (tgt := 76) hx hb nD_MOD_bus_72 (by decide) ?_
          exact bk_MOD_bus_76 F9 (fb_MOD_bus_44 n) ih a1 a2 (1 : Int32)  hw (lv_sub hl [0, 1, 2] rfl) hf
set_option maxRecDepth 100000 in
set_option maxHeartbeats 4000000 in
theorem bk_MOD_bus_30 {z : sg_T} (F : fx_F p s m args meth c nC_MOD_bus 4 none nR_MOD) (kL5 : Int32 → Int32 → sg_T → Option (sg_T)) (ih5 : ∀ (a1 : Int32) (a2 : Int32) (σ : sg_T) (H : Heap) (locs : List Loc) (ls : Array Slot), ww_P x s H locs σ → lv_has ls 4 [(0, .ref (x.2.2 82)), (1, .int a1), (2, .int a2)] → kL5 a1 a2 σ = some z → W p l e (rm_D 1) s m args below meth c H locs 0 0 (qv_Q x s below args z) (F0 m 5 ls [])) (a2 : Int32) (t0 : Int32) {σ : sg_T} {H : Heap} {locs : List Loc} {ls : Array Slot} (hw : ww_P x s H locs σ) (hl : lv_has ls 4 [(0, .ref (x.2.2 82)), (2, .int a2)]) (hf : fb_MOD_bus_30 kL5 a2 t0 σ = some z) : W p l e (rm_D 1) s m args below meth c H locs 0 0 (qv_Q x s below args z) (F0 m 30 ls [.int t0]) := by
  have F9 := F
  obtain ⟨hx, hb, hml, hr, hlk, hown, hT⟩ := F
  unfold fb_MOD_bus_30 at hf
  refine lv_istore_n (lv' := [(1, .int t0), (0, .ref (x.2.2 82)), (2, .int a2)]) hx hb nD_MOD_bus_30 rfl hl (by decide) rfl (fun ls hl => ?_)
  refine lv_iinc (k := 2) (v := a2 + (-1)) (lv' := [(2, .int (a2 + (-1))), (1, .int t0), (0, .ref (x.2.2 82))]) hx hb nD_MOD_bus_31 hl rfl (ic_m1 _) (by decide) rfl (fun ls hl => ?_)
  refine lv_goto (tgt := 5) hx hb nD_MOD_bus_34 (by decide) ?_
  exact ih5 t0 (a2 + (-1)) _ _ _ _  hw (lv_sub hl [2, 1, 0] rfl) hf
set_option maxRecDepth 100000 in
set_option maxHeartbeats 4000000 in
theorem bk_MOD_bus_5 {z : sg_T} (F : fx_F p s m args meth c nC_MOD_bus 4 none nR_MOD) : ∀ (n : Nat) (a1 : Int32) (a2 : Int32) (σ : sg_T) (H : Heap) (locs : List Loc) (ls : Array Slot), ww_P x s H locs σ → lv_has ls 4 [(0, .ref (x.2.2 82)), (1, .int a1), (2, .int a2)] → fb_MOD_bus_5 n a1 a2 σ = some z → W p l e (rm_D 1) s m args below meth c H locs 0 0 (qv_Q x s below args z) (F0 m 5 ls []) := by
  have F9 := F
  obtain ⟨hx, hb, hml, hr, hlk, hown, hT⟩ := F
  intro n
  induction n with
  | zero =>
    intro a1 a2 σ H locs ls  hw hl hf
    simp [fb_MOD_bus_5] at hf
  | succ n ih =>
    intro a1 a2 σ H locs ls  hw hl hf
    unfold fb_MOD_bus_5 at hf
    refine lv_iload_n hx hb nD_MOD_bus_5 rfl (lv_at hl 2 rfl) ?_
    refine lv_if_lt (tgt := 37) hx hb nD_MOD_bus_6 (by decide) (fun h1 => ?_) (fun h1 => ?_)
    · rw [if_pos h1] at hf
      refine lv_iload_n hx hb nD_MOD_bus_37 rfl (lv_at hl 1 rfl) ?_
      refine lv_if_ne (tgt := 42) hx hb nD_MOD_bus_38 (by decide) (fun h2 => ?_) (fun h2 => ?_)
      · rw [if_neg h2] at hf
        refine lv_iconst (v := 0) hx hb nD_MOD_bus_42 (by decide) ?_
        refine lv_istore_n (lv' := [(2, .int (0 : Int32)), (0, .ref (x.2.2 82)), (1, .int a1)]) hx hb nD_MOD_bus_43 rfl hl (by decide) rfl (fun ls hl => ?_)
        exact bk_MOD_bus_44 F9 27 a1 (0 : Int32) _ _ _ _  hw (lv_sub hl [1, 2, 0] rfl) hf
      · rw [if_pos h2] at hf
        exact rt_v F9 hw nD_MOD_bus_41 hf
    · rw [if_neg h1] at hf
      refine lv_aload_n hx hb nD_MOD_bus_9 rfl (lv_at hl 0 rfl) ?_
      refine rd_MOD_MOD_place F9 hw nD_MOD_bus_10 ?_
      refine lv_iload_n hx hb nD_MOD_bus_13 rfl (lv_at hl 2 rfl) ?_
      obtain ⟨z28, hz28, hf⟩ := bd_of hf
      refine cl_si (As := [.int a2]) (rest := [.ref (x.2.2 92)]) F9 hw (ct_MOD_turnOf l x a2  _ _ hz28) wc_MOD_164 hd_MOD_turnOf (by decide) hl rfl (Nat.le_of_ble_eq_true rfl) nD_MOD_bus_14 (fun H locs hw => ?_)
      obtain ⟨g29, hf⟩ := gt_of hf
      refine al_m_place F9 hw g29 nD_MOD_bus_17 ?_
      refine lv_iconst (v := 3) hx hb nD_MOD_bus_18 (by decide) ?_
      refine lv_icmp_ne (tgt := 29) hx hb nD_MOD_bus_19 (by decide) (fun h30 => ?_) (fun h30 => ?_)
      · rw [if_neg h30] at hf
        refine lv_iload_n hx hb nD_MOD_bus_29 rfl (lv_at hl 1 rfl) ?_
        exact bk_MOD_bus_30 F9 (fb_MOD_bus_5 n) ih a2 a1  hw (lv_sub hl [0, 2] rfl) hf
      · rw [if_pos h30] at hf
        refine lv_iload_n hx hb nD_MOD_bus_22 rfl (lv_at hl 2 rfl) ?_
        obtain ⟨z31, hz31, hf⟩ := bd_of hf
        refine cl_si (As := [.int a2]) (rest := []) F9 hw (ct_MOD_turnOf l x a2  _ _ hz31) wc_MOD_164 hd_MOD_turnOf (by decide) hl rfl (Nat.le_of_ble_eq_true rfl) nD_MOD_bus_23 (fun H locs hw => ?_)
        refine lv_goto (tgt := 30) hx hb nD_MOD_bus_26 (by decide) ?_
        exact bk_MOD_bus_30 F9 (fb_MOD_bus_5 n) ih a2 z31.1  hw (lv_sub hl [0, 2] rfl) hf
set_option maxRecDepth 100000 in
set_option maxHeartbeats 4000000 in
theorem ct_MOD_bus (l : Launch) (x : cx_T) (σ : sg_T) (z : sg_T) (hf : fn_MOD_bus  σ = some z) : ct_v l nN_MOD_bus nC_MOD_bus 4 1 x [.ref (x.2.2 82)] σ z := by
  refine en_v (own := nR_MOD) (by decide) (Nat.le_of_ble_eq_true rfl) rfl ?_
  intro p e s m below meth c ls F hw hl
  have F9 := F
  obtain ⟨hx, hb, hml, hr, hlk, hown, hT⟩ := F
  have hl : lv_has ls 4 [(0, .ref (x.2.2 82))] := hl
  unfold fn_MOD_bus at hf
  refine lv_iconst (v := 0) hx hb nD_MOD_bus_0 (by decide) ?_
  refine lv_istore_n (lv' := [(1, .int (0 : Int32)), (0, .ref (x.2.2 82))]) hx hb nD_MOD_bus_1 rfl hl (by decide) rfl (fun ls hl => ?_)
  refine lv_bipush (v := 8) hx hb nD_MOD_bus_2 (by decide) ?_
  refine lv_istore_n (lv' := [(2, .int (8 : Int32)), (1, .int (0 : Int32)), (0, .ref (x.2.2 82))]) hx hb nD_MOD_bus_4 rfl hl (by decide) rfl (fun ls hl => ?_)
  exact bk_MOD_bus_5 F9 27 (0 : Int32) (8 : Int32) _ _ _ _  hw (lv_sub hl [2, 1, 0] rfl) hf
set_option maxRecDepth 100000 in
set_option maxHeartbeats 4000000 in
theorem bk_MOD_ends_39 {z : sg_T} (F : fx_F p s m args meth c nC_MOD_ends 2 none nR_MOD) (a1 : Int32) {σ : sg_T} {H : Heap} {locs : List Loc} {ls : Array Slot} (hw : ww_P x s H locs σ) (hl : lv_has ls 2 [(0, .ref (x.2.2 82)), (1, .int a1)]) (hf : fb_MOD_ends_39 a1 σ = some z) : W p l e (rm_D 0) s m args below meth c H locs 0 0 (qv_Q x s below args z) (F0 m 39 ls []) := by
  have F9 := F
  obtain ⟨hx, hb, hml, hr, hlk, hown, hT⟩ := F
  unfold fb_MOD_ends_39 at hf
  refine lv_iload_n hx hb nD_MOD_ends_39 rfl (lv_at hl 1 rfl) ?_
  refine lv_bipush (v := 9) hx hb nD_MOD_ends_40 (by decide) ?_
  refine lv_icmp_le (tgt := 64) hx hb nD_MOD_ends_42 (by decide) (fun h4 => ?_) (fun h4 => ?_)
  · rw [if_pos h4] at hf
    exact rt_v F9 hw nD_MOD_ends_64 hf
  · rw [if_neg h4] at hf
    refine lv_aload_n hx hb nD_MOD_ends_45 rfl (lv_at hl 0 rfl) ?_
    refine rd_MOD_MOD_words F9 hw nD_MOD_ends_46 ?_
    refine lv_aload_n hx hb nD_MOD_ends_49 rfl (lv_at hl 0 rfl) ?_
    refine rd_MOD_MOD_where F9 hw nD_MOD_ends_50 ?_
    refine lv_iload_n hx hb nD_MOD_ends_53 rfl (lv_at hl 1 rfl) ?_
    obtain ⟨g5, hf⟩ := gt_of hf
    refine al_m_where F9 hw g5 nD_MOD_ends_54 ?_
    refine lv_aload_n hx hb nD_MOD_ends_55 rfl (lv_at hl 0 rfl) ?_
    refine rd_MOD_MOD_operand F9 hw nD_MOD_ends_56 ?_
    refine lv_iconst (v := 2) hx hb nD_MOD_ends_59 (by decide) ?_
    refine lv_iload_n hx hb nD_MOD_ends_60 rfl (lv_at hl 1 rfl) ?_
    refine lv_imul hx hb nD_MOD_ends_61 ?_
    obtain ⟨g6, hf⟩ := gt_of hf
    refine al_m_operand F9 hw g6 nD_MOD_ends_62 ?_
    obtain ⟨g7, hf⟩ := gt_of hf
    refine as_m_words F9 hw g7 nD_MOD_ends_63 (fun H locs hw => ?_)
    exact rt_v F9 hw nD_MOD_ends_64 hf
set_option maxRecDepth 100000 in
set_option maxHeartbeats 4000000 in
theorem bk_MOD_ends_16 {z : sg_T} (F : fx_F p s m args meth c nC_MOD_ends 2 none nR_MOD) (a1 : Int32) (t0 : Int32) (t1 : Int32) {σ : sg_T} {H : Heap} {locs : List Loc} {ls : Array Slot} (hw : ww_P x s H locs σ) (hl : lv_has ls 2 [(0, .ref (x.2.2 82)), (1, .int a1)]) (hf : fb_MOD_ends_16 a1 t0 t1 σ = some z) : W p l e (rm_D 0) s m args below meth c H locs 0 0 (qv_Q x s below args z) (F0 m 16 ls [.int t0, .int t1, .ref (x.2.2 92)]) := by
  have F9 := F
  obtain ⟨hx, hb, hml, hr, hlk, hown, hT⟩ := F
  unfold fb_MOD_ends_16 at hf
  obtain ⟨g2, hf⟩ := gt_of hf
  refine as_m_place F9 hw g2 nD_MOD_ends_16 (fun H locs hw => ?_)
  refine lv_iload_n hx hb nD_MOD_ends_17 rfl (lv_at hl 1 rfl) ?_
  refine lv_iconst (v := 5) hx hb nD_MOD_ends_18 (by decide) ?_
  refine lv_icmp_le (tgt := 39) hx hb nD_MOD_ends_19 (by decide) (fun h3 => ?_) (fun h3 => ?_)
  · rw [if_pos h3] at hf
    exact bk_MOD_ends_39 F9 a1  hw (lv_sub hl [0, 1] rfl) hf
  · rw [if_neg h3] at hf
    refine lv_aload_n hx hb nD_MOD_ends_22 rfl (lv_at hl 0 rfl) ?_
    refine rd_MOD_MOD_taken F9 hw nD_MOD_ends_23 ?_
    refine lv_aload_n hx hb nD_MOD_ends_26 rfl (lv_at hl 0 rfl) ?_
    refine rd_MOD_MOD_where F9 hw nD_MOD_ends_27 ?_
    refine lv_iload_n hx hb nD_MOD_ends_30 rfl (lv_at hl 1 rfl) ?_
    obtain ⟨g8, hf⟩ := gt_of hf
    refine al_m_where F9 hw g8 nD_MOD_ends_31 ?_
    refine lv_aload_n hx hb nD_MOD_ends_32 rfl (lv_at hl 0 rfl) ?_
    refine rd_MOD_MOD_banks F9 hw nD_MOD_ends_33 ?_
    obtain ⟨g9, hf⟩ := gt_of hf
    refine lv_irem hx hb nD_MOD_ends_36 (of_decide_eq_true g9) ?_
    refine lv_iconst (v := 0) hx hb nD_MOD_ends_37 (by decide) ?_
    obtain ⟨g10, hf⟩ := gt_of hf
    refine as_m_taken F9 hw g10 (by rfl) nD_MOD_ends_38 (fun H locs hw => ?_)
    exact bk_MOD_ends_39 F9 a1  hw (lv_sub hl [0, 1] rfl) hf
set_option maxRecDepth 100000 in
set_option maxHeartbeats 4000000 in
theorem ct_MOD_ends (l : Launch) (x : cx_T) (a1 : Int32) (σ : sg_T) (z : sg_T) (hf : fn_MOD_ends a1 σ = some z) : ct_v l nN_MOD_ends nC_MOD_ends 2 0 x [.ref (x.2.2 82), .int a1] σ z := by
  refine en_v (own := nR_MOD) (by decide) (Nat.le_of_ble_eq_true rfl) rfl ?_
  intro p e s m below meth c ls F hw hl
  have F9 := F
  obtain ⟨hx, hb, hml, hr, hlk, hown, hT⟩ := F
  have hl : lv_has ls 2 [(0, .ref (x.2.2 82)), (1, .int a1)] := hl
  unfold fn_MOD_ends at hf
  refine lv_aload_n hx hb nD_MOD_ends_0 rfl (lv_at hl 0 rfl) ?_
  refine rd_MOD_MOD_place F9 hw nD_MOD_ends_1 ?_
  refine lv_iload_n hx hb nD_MOD_ends_4 rfl (lv_at hl 1 rfl) ?_
  refine lv_iload_n hx hb nD_MOD_ends_5 rfl (lv_at hl 1 rfl) ?_
  refine lv_bipush (v := 9) hx hb nD_MOD_ends_6 (by decide) ?_
  refine lv_icmp_le (tgt := 15) hx hb nD_MOD_ends_8 (by decide) (fun h1 => ?_) (fun h1 => ?_)
  · rw [if_pos h1] at hf
    refine lv_iconst (v := 3) hx hb nD_MOD_ends_15 (by decide) ?_
    exact bk_MOD_ends_16 F9 a1 (3 : Int32) a1  hw (lv_sub hl [0, 1] rfl) hf
  · rw [if_neg h1] at hf
    refine lv_iconst (v := 0) hx hb nD_MOD_ends_11 (by decide) ?_
    refine lv_goto (tgt := 16) hx hb nD_MOD_ends_12 (by decide) ?_
    exact bk_MOD_ends_16 F9 a1 (0 : Int32) a1  hw (lv_sub hl [0, 1] rfl) hf
set_option maxRecDepth 100000 in
set_option maxHeartbeats 4000000 in
theorem bk_MOD_work_42 {z : sg_T} (F : fx_F p s m args meth c nC_MOD_work 2 none nR_MOD) (kL2 : Int32 → sg_T → Option (sg_T)) (ih2 : ∀ (a1 : Int32) (σ : sg_T) (H : Heap) (locs : List Loc) (ls : Array Slot), ww_P x s H locs σ → lv_has ls 2 [(0, .ref (x.2.2 82)), (1, .int a1)] → kL2 a1 σ = some z → W p l e (rm_D 1) s m args below meth c H locs 0 0 (qv_Q x s below args z) (F0 m 2 ls [])) (a1 : Int32) {σ : sg_T} {H : Heap} {locs : List Loc} {ls : Array Slot} (hw : ww_P x s H locs σ) (hl : lv_has ls 2 [(0, .ref (x.2.2 82)), (1, .int a1)]) (hf : fb_MOD_work_42 kL2 a1 σ = some z) : W p l e (rm_D 1) s m args below meth c H locs 0 0 (qv_Q x s below args z) (F0 m 42 ls []) := by
  have F9 := F
  obtain ⟨hx, hb, hml, hr, hlk, hown, hT⟩ := F
  unfold fb_MOD_work_42 at hf
  refine lv_iinc (k := 1) (v := a1 + (1 : Int32)) (lv' := [(1, .int (a1 + (1 : Int32))), (0, .ref (x.2.2 82))]) hx hb nD_MOD_work_42 hl rfl (ic_p1 _) (by decide) rfl (fun ls hl => ?_)
  refine lv_goto (tgt := 2) hx hb nD_MOD_work_45 (by decide) ?_
  exact ih2 (a1 + (1 : Int32)) _ _ _ _  hw (lv_sub hl [1, 0] rfl) hf
set_option maxRecDepth 100000 in
set_option maxHeartbeats 4000000 in
theorem bk_MOD_work_2 {z : sg_T} (F : fx_F p s m args meth c nC_MOD_work 2 none nR_MOD) : ∀ (n : Nat) (a1 : Int32) (σ : sg_T) (H : Heap) (locs : List Loc) (ls : Array Slot), ww_P x s H locs σ → lv_has ls 2 [(0, .ref (x.2.2 82)), (1, .int a1)] → fb_MOD_work_2 n a1 σ = some z → W p l e (rm_D 1) s m args below meth c H locs 0 0 (qv_Q x s below args z) (F0 m 2 ls []) := by
  have F9 := F
  obtain ⟨hx, hb, hml, hr, hlk, hown, hT⟩ := F
  intro n
  induction n with
  | zero =>
    intro a1 σ H locs ls  hw hl hf
    simp [fb_MOD_work_2] at hf
  | succ n ih =>
    intro a1 σ H locs ls  hw hl hf
    unfold fb_MOD_work_2 at hf
    refine lv_iload_n hx hb nD_MOD_work_2 rfl (lv_at hl 1 rfl) ?_
    refine lv_bipush (v := 13) hx hb nD_MOD_work_3 (by decide) ?_
    refine lv_icmp_ge (tgt := 48) hx hb nD_MOD_work_5 (by decide) (fun h1 => ?_) (fun h1 => ?_)
    · rw [if_pos h1] at hf
      exact rt_v F9 hw nD_MOD_work_48 hf
    · rw [if_neg h1] at hf
      refine lv_aload_n hx hb nD_MOD_work_8 rfl (lv_at hl 0 rfl) ?_
      refine rd_MOD_MOD_place F9 hw nD_MOD_work_9 ?_
      refine lv_iload_n hx hb nD_MOD_work_12 rfl (lv_at hl 1 rfl) ?_
      obtain ⟨g2, hf⟩ := gt_of hf
      refine al_m_place F9 hw g2 nD_MOD_work_13 ?_
      refine lv_iconst (v := 2) hx hb nD_MOD_work_14 (by decide) ?_
      refine lv_icmp_ne (tgt := 42) hx hb nD_MOD_work_15 (by decide) (fun h3 => ?_) (fun h3 => ?_)
      · rw [if_neg h3] at hf
        exact bk_MOD_work_42 F9 (fb_MOD_work_2 n) ih a1  hw (lv_sub hl [0, 1] rfl) hf
      · rw [if_pos h3] at hf
        refine lv_aload_n hx hb nD_MOD_work_18 rfl (lv_at hl 0 rfl) ?_
        refine rd_MOD_MOD_left F9 hw nD_MOD_work_19 ?_
        refine lv_iload_n hx hb nD_MOD_work_22 rfl (lv_at hl 1 rfl) ?_
        refine lv_dup2_11 hx hb nD_MOD_work_23 rfl rfl ?_
        obtain ⟨g4, hf⟩ := gt_of hf
        refine al_m_left F9 hw g4 nD_MOD_work_24 ?_
        refine lv_iconst (v := 1) hx hb nD_MOD_work_25 (by decide) ?_
        refine lv_isub hx hb nD_MOD_work_26 ?_
        obtain ⟨g5, hf⟩ := gt_of hf
        refine as_m_left F9 hw g5 nD_MOD_work_27 (fun H locs hw => ?_)
        refine lv_aload_n hx hb nD_MOD_work_28 rfl (lv_at hl 0 rfl) ?_
        refine rd_MOD_MOD_left F9 hw nD_MOD_work_29 ?_
        refine lv_iload_n hx hb nD_MOD_work_32 rfl (lv_at hl 1 rfl) ?_
        obtain ⟨g6, hf⟩ := gt_of hf
        refine al_m_left F9 hw g6 nD_MOD_work_33 ?_
        refine lv_if_ne (tgt := 42) hx hb nD_MOD_work_34 (by decide) (fun h7 => ?_) (fun h7 => ?_)
        · rw [if_neg h7] at hf
          exact bk_MOD_work_42 F9 (fb_MOD_work_2 n) ih a1  hw (lv_sub hl [0, 1] rfl) hf
        · rw [if_pos h7] at hf
          refine lv_aload_n hx hb nD_MOD_work_37 rfl (lv_at hl 0 rfl) ?_
          refine lv_iload_n hx hb nD_MOD_work_38 rfl (lv_at hl 1 rfl) ?_
          obtain ⟨z8, hz8, hf⟩ := bd_of hf
          refine cl_vv (As := [.int a1]) (rest := []) F9 hw (ct_MOD_ends l x a1  _ _ hz8) (rc_MOD ) wc_MOD_167 hd_MOD_ends (by decide) hl rfl (Nat.le_of_ble_eq_true rfl) nD_MOD_work_39 (fun H locs hw => ?_)
          exact bk_MOD_work_42 F9 (fb_MOD_work_2 n) ih a1  hw (lv_sub hl [0, 1] rfl) hf
set_option maxRecDepth 100000 in
set_option maxHeartbeats 4000000 in
theorem ct_MOD_work (l : Launch) (x : cx_T) (σ : sg_T) (z : sg_T) (hf : fn_MOD_work  σ = some z) : ct_v l nN_MOD_work nC_MOD_work 2 1 x [.ref (x.2.2 82)] σ z := by
  refine en_v (own := nR_MOD) (by decide) (Nat.le_of_ble_eq_true rfl) rfl ?_
  intro p e s m below meth c ls F hw hl
  have F9 := F
  obtain ⟨hx, hb, hml, hr, hlk, hown, hT⟩ := F
  have hl : lv_has ls 2 [(0, .ref (x.2.2 82))] := hl
  unfold fn_MOD_work at hf
  refine lv_iconst (v := 1) hx hb nD_MOD_work_0 (by decide) ?_
  refine lv_istore_n (lv' := [(1, .int (1 : Int32)), (0, .ref (x.2.2 82))]) hx hb nD_MOD_work_1 rfl hl (by decide) rfl (fun ls hl => ?_)
  exact bk_MOD_work_2 F9 14 (1 : Int32) _ _ _ _  hw (lv_sub hl [1, 0] rfl) hf
set_option maxRecDepth 100000 in
set_option maxHeartbeats 4000000 in
theorem ct_MOD_ready (l : Launch) (x : cx_T) (a1 : Int32) (σ : sg_T) (z : Int32 × sg_T) (hf : fn_MOD_ready a1 σ = some z) : ct_i l nN_MOD_ready nC_MOD_ready 2 (some .boolean) 0 x [.ref (x.2.2 82), .int a1] σ z.1 z.2 := by
  refine en_i (own := nR_MOD) (by decide) (Nat.le_of_ble_eq_true rfl) rfl ?_
  intro p e s m below meth c ls F hw hl
  have F9 := F
  obtain ⟨hx, hb, hml, hr, hlk, hown, hT⟩ := F
  have hl : lv_has ls 2 [(0, .ref (x.2.2 82)), (1, .int a1)] := hl
  unfold fn_MOD_ready at hf
  refine lv_aload_n hx hb nD_MOD_ready_0 rfl (lv_at hl 0 rfl) ?_
  refine rd_MOD_MOD_place F9 hw nD_MOD_ready_1 ?_
  refine lv_iload_n hx hb nD_MOD_ready_4 rfl (lv_at hl 1 rfl) ?_
  obtain ⟨g1, hf⟩ := gt_of hf
  refine al_m_place F9 hw g1 nD_MOD_ready_5 ?_
  refine lv_iconst (v := 1) hx hb nD_MOD_ready_6 (by decide) ?_
  refine lv_icmp_ne (tgt := 44) hx hb nD_MOD_ready_7 (by decide) (fun h2 => ?_) (fun h2 => ?_)
  · rw [if_neg h2] at hf
    refine lv_iconst (v := 0) hx hb nD_MOD_ready_44 (by decide) ?_
    exact rt_i F9 hw rfl nD_MOD_ready_45 hf
  · rw [if_pos h2] at hf
    refine lv_aload_n hx hb nD_MOD_ready_10 rfl (lv_at hl 0 rfl) ?_
    refine rd_MOD_MOD_tag F9 hw nD_MOD_ready_11 ?_
    refine lv_iconst (v := 2) hx hb nD_MOD_ready_14 (by decide) ?_
    refine lv_iload_n hx hb nD_MOD_ready_15 rfl (lv_at hl 1 rfl) ?_
    refine lv_imul hx hb nD_MOD_ready_16 ?_
    obtain ⟨g3, hf⟩ := gt_of hf
    refine al_m_tag F9 hw g3 nD_MOD_ready_17 ?_
    refine lv_if_ne (tgt := 44) hx hb nD_MOD_ready_18 (by decide) (fun h4 => ?_) (fun h4 => ?_)
    · rw [if_neg h4] at hf
      refine lv_iconst (v := 0) hx hb nD_MOD_ready_44 (by decide) ?_
      exact rt_i F9 hw rfl nD_MOD_ready_45 hf
    · rw [if_pos h4] at hf
      refine lv_iload_n hx hb nD_MOD_ready_21 rfl (lv_at hl 1 rfl) ?_
      refine lv_bipush (v := 9) hx hb nD_MOD_ready_22 (by decide) ?_
      refine lv_icmp_gt (tgt := 40) hx hb nD_MOD_ready_24 (by decide) (fun h5 => ?_) (fun h5 => ?_)
      · rw [if_pos h5] at hf
        refine lv_iconst (v := 1) hx hb nD_MOD_ready_40 (by decide) ?_
        refine lv_goto (tgt := 45) hx hb nD_MOD_ready_41 (by decide) ?_
        exact rt_i F9 hw rfl nD_MOD_ready_45 hf
      · rw [if_neg h5] at hf
        refine lv_aload_n hx hb nD_MOD_ready_27 rfl (lv_at hl 0 rfl) ?_
        refine rd_MOD_MOD_tag F9 hw nD_MOD_ready_28 ?_
        refine lv_iconst (v := 2) hx hb nD_MOD_ready_31 (by decide) ?_
        refine lv_iload_n hx hb nD_MOD_ready_32 rfl (lv_at hl 1 rfl) ?_
        refine lv_imul hx hb nD_MOD_ready_33 ?_
        refine lv_iconst (v := 1) hx hb nD_MOD_ready_34 (by decide) ?_
        refine lv_iadd hx hb nD_MOD_ready_35 ?_
        obtain ⟨g6, hf⟩ := gt_of hf
        refine al_m_tag F9 hw g6 nD_MOD_ready_36 ?_
        refine lv_if_ne (tgt := 44) hx hb nD_MOD_ready_37 (by decide) (fun h7 => ?_) (fun h7 => ?_)
        · rw [if_neg h7] at hf
          refine lv_iconst (v := 0) hx hb nD_MOD_ready_44 (by decide) ?_
          exact rt_i F9 hw rfl nD_MOD_ready_45 hf
        · rw [if_pos h7] at hf
          refine lv_iconst (v := 1) hx hb nD_MOD_ready_40 (by decide) ?_
          refine lv_goto (tgt := 45) hx hb nD_MOD_ready_41 (by decide) ?_
          exact rt_i F9 hw rfl nD_MOD_ready_45 hf
set_option maxRecDepth 100000 in
set_option maxHeartbeats 4000000 in
theorem bk_MOD_begins_44 {z : sg_T} (F : fx_F p s m args meth c nC_MOD_begins 6 none nR_MOD) (a1 : Int32) (a2 : Int32) (t0 : Int32) {σ : sg_T} {H : Heap} {locs : List Loc} {ls : Array Slot} (hw : ww_P x s H locs σ) (hl : lv_has ls 6 [(0, .ref (x.2.2 82)), (1, .int a1), (2, .int a2)]) (hf : fb_MOD_begins_44 a1 a2 t0 σ = some z) : W p l e (rm_D 5) s m args below meth c H locs 0 0 (qv_Q x s below args z) (F0 m 44 ls [.int t0]) := by
  have F9 := F
  obtain ⟨hx, hb, hml, hr, hlk, hown, hT⟩ := F
  unfold fb_MOD_begins_44 at hf
  refine lv_istore (lv' := [(4, .int t0), (0, .ref (x.2.2 82)), (1, .int a1), (2, .int a2)]) hx hb nD_MOD_begins_44 hl (by decide) rfl (fun ls hl => ?_)
  refine lv_aload_n hx hb nD_MOD_begins_46 rfl (lv_at hl 1 rfl) ?_
  refine lv_iload hx hb nD_MOD_begins_47 (lv_at hl 0 rfl) ?_
  refine lv_aload_n hx hb nD_MOD_begins_49 rfl (lv_at hl 1 rfl) ?_
  refine rd_MOD_MOD_operand F9 hw nD_MOD_begins_50 ?_
  refine lv_iconst (v := 2) hx hb nD_MOD_begins_53 (by decide) ?_
  refine lv_iload_n hx hb nD_MOD_begins_54 rfl (lv_at hl 2 rfl) ?_
  refine lv_imul hx hb nD_MOD_begins_55 ?_
  obtain ⟨g6, hf⟩ := gt_of hf
  refine al_m_operand F9 hw g6 nD_MOD_begins_56 ?_
  refine lv_aload_n hx hb nD_MOD_begins_57 rfl (lv_at hl 1 rfl) ?_
  refine rd_MOD_MOD_operand F9 hw nD_MOD_begins_58 ?_
  refine lv_iconst (v := 2) hx hb nD_MOD_begins_61 (by decide) ?_
  refine lv_iload_n hx hb nD_MOD_begins_62 rfl (lv_at hl 2 rfl) ?_
  refine lv_imul hx hb nD_MOD_begins_63 ?_
  refine lv_iconst (v := 1) hx hb nD_MOD_begins_64 (by decide) ?_
  refine lv_iadd hx hb nD_MOD_begins_65 ?_
  obtain ⟨g7, hf⟩ := gt_of hf
  refine al_m_operand F9 hw g7 nD_MOD_begins_66 ?_
  obtain ⟨z8, hz8, hf⟩ := bd_of hf
  refine cl_vi (As := [.int t0, .int (σ 45 (tn_I ((2 : Int32) * a1))), .int (σ 45 (tn_I (((2 : Int32) * a1) + (1 : Int32))))]) (rest := []) F9 hw (ct_MOD_result l x t0 (σ 45 (tn_I ((2 : Int32) * a1))) (σ 45 (tn_I (((2 : Int32) * a1) + (1 : Int32))))  _ _ hz8) (rc_MOD ) wc_MOD_141 hd_MOD_result (by decide) hl rfl (Nat.le_of_ble_eq_true rfl) nD_MOD_begins_67 (fun H locs hw => ?_)
  refine lv_istore (lv' := [(5, .int z8.1), (4, .int t0), (0, .ref (x.2.2 82)), (1, .int a1), (2, .int a2)]) hx hb nD_MOD_begins_70 hl (by decide) rfl (fun ls hl => ?_)
  refine lv_aload_n hx hb nD_MOD_begins_72 rfl (lv_at hl 2 rfl) ?_
  refine rd_MOD_MOD_gives F9 hw nD_MOD_begins_73 ?_
  refine lv_iload_n hx hb nD_MOD_begins_76 rfl (lv_at hl 3 rfl) ?_
  refine lv_iload hx hb nD_MOD_begins_77 (lv_at hl 0 rfl) ?_
  obtain ⟨g9, hf⟩ := gt_of hf
  refine as_m_gives F9 hw g9 nD_MOD_begins_79 (fun H locs hw => ?_)
  refine lv_aload_n hx hb nD_MOD_begins_80 rfl (lv_at hl 2 rfl) ?_
  refine rd_MOD_MOD_notes F9 hw nD_MOD_begins_81 ?_
  refine lv_iload_n hx hb nD_MOD_begins_84 rfl (lv_at hl 3 rfl) ?_
  refine lv_aload_n hx hb nD_MOD_begins_85 rfl (lv_at hl 2 rfl) ?_
  refine rd_MOD_MOD_exception F9 hw nD_MOD_begins_86 ?_
  obtain ⟨g10, hf⟩ := gt_of hf
  refine as_m_notes F9 hw g10 nD_MOD_begins_89 (fun H locs hw => ?_)
  refine lv_aload_n hx hb nD_MOD_begins_90 rfl (lv_at hl 2 rfl) ?_
  refine rd_MOD_MOD_place F9 hw nD_MOD_begins_91 ?_
  refine lv_iload_n hx hb nD_MOD_begins_94 rfl (lv_at hl 3 rfl) ?_
  refine lv_iconst (v := 2) hx hb nD_MOD_begins_95 (by decide) ?_
  obtain ⟨g11, hf⟩ := gt_of hf
  refine as_m_place F9 hw g11 nD_MOD_begins_96 (fun H locs hw => ?_)
  refine lv_aload_n hx hb nD_MOD_begins_97 rfl (lv_at hl 2 rfl) ?_
  refine rd_MOD_MOD_left F9 hw nD_MOD_begins_98 ?_
  refine lv_iload_n hx hb nD_MOD_begins_101 rfl (lv_at hl 3 rfl) ?_
  refine lv_iload_n hx hb nD_MOD_begins_102 rfl (lv_at hl 4 rfl) ?_
  obtain ⟨g12, hf⟩ := gt_of hf
  refine as_m_left F9 hw g12 nD_MOD_begins_103 (fun H locs hw => ?_)
  exact rt_v F9 hw nD_MOD_begins_104 hf
set_option maxRecDepth 100000 in
set_option maxHeartbeats 4000000 in
theorem ct_MOD_begins (l : Launch) (x : cx_T) (a1 : Int32) (a2 : Int32) (σ : sg_T) (z : sg_T) (hf : fn_MOD_begins a1 a2 σ = some z) : ct_v l nN_MOD_begins nC_MOD_begins 6 5 x [.ref (x.2.2 82), .int a1, .int a2] σ z := by
  refine en_v (own := nR_MOD) (by decide) (Nat.le_of_ble_eq_true rfl) rfl ?_
  intro p e s m below meth c ls F hw hl
  have F9 := F
  obtain ⟨hx, hb, hml, hr, hlk, hown, hT⟩ := F
  have hl : lv_has ls 6 [(0, .ref (x.2.2 82)), (1, .int a1), (2, .int a2)] := hl
  unfold fn_MOD_begins at hf
  refine lv_aload_n hx hb nD_MOD_begins_0 rfl (lv_at hl 0 rfl) ?_
  refine rd_MOD_MOD_what F9 hw nD_MOD_begins_1 ?_
  refine lv_iload_n hx hb nD_MOD_begins_4 rfl (lv_at hl 1 rfl) ?_
  obtain ⟨g1, hf⟩ := gt_of hf
  refine al_m_what F9 hw g1 nD_MOD_begins_5 ?_
  refine lv_istore_n (lv' := [(3, .int (σ 41 (tn_I a1))), (0, .ref (x.2.2 82)), (1, .int a1), (2, .int a2)]) hx hb nD_MOD_begins_6 rfl hl (by decide) rfl (fun ls hl => ?_)
  refine lv_iload_n hx hb nD_MOD_begins_7 rfl (lv_at hl 0 rfl) ?_
  refine lv_iconst (v := 2) hx hb nD_MOD_begins_8 (by decide) ?_
  refine lv_icmp_ne (tgt := 16) hx hb nD_MOD_begins_9 (by decide) (fun h2 => ?_) (fun h2 => ?_)
  · rw [if_neg h2] at hf
    refine lv_iload_n hx hb nD_MOD_begins_16 rfl (lv_at hl 0 rfl) ?_
    refine lv_iconst (v := 3) hx hb nD_MOD_begins_17 (by decide) ?_
    refine lv_icmp_ne (tgt := 25) hx hb nD_MOD_begins_18 (by decide) (fun h3 => ?_) (fun h3 => ?_)
    · rw [if_neg h3] at hf
      refine lv_iload_n hx hb nD_MOD_begins_25 rfl (lv_at hl 0 rfl) ?_
      refine lv_iconst (v := 4) hx hb nD_MOD_begins_26 (by decide) ?_
      refine lv_icmp_ne (tgt := 34) hx hb nD_MOD_begins_27 (by decide) (fun h4 => ?_) (fun h4 => ?_)
      · rw [if_neg h4] at hf
        refine lv_iload_n hx hb nD_MOD_begins_34 rfl (lv_at hl 0 rfl) ?_
        refine lv_iconst (v := 5) hx hb nD_MOD_begins_35 (by decide) ?_
        refine lv_icmp_ne (tgt := 43) hx hb nD_MOD_begins_36 (by decide) (fun h5 => ?_) (fun h5 => ?_)
        · rw [if_neg h5] at hf
          refine lv_iconst (v := 4) hx hb nD_MOD_begins_43 (by decide) ?_
          exact bk_MOD_begins_44 F9 a1 a2 (4 : Int32)  hw (lv_sub hl [1, 2, 3] rfl) hf
        · rw [if_pos h5] at hf
          refine lv_iconst (v := 3) hx hb nD_MOD_begins_39 (by decide) ?_
          refine lv_goto (tgt := 44) hx hb nD_MOD_begins_40 (by decide) ?_
          exact bk_MOD_begins_44 F9 a1 a2 (3 : Int32)  hw (lv_sub hl [1, 2, 3] rfl) hf
      · rw [if_pos h4] at hf
        refine lv_iconst (v := 2) hx hb nD_MOD_begins_30 (by decide) ?_
        refine lv_goto (tgt := 44) hx hb nD_MOD_begins_31 (by decide) ?_
        exact bk_MOD_begins_44 F9 a1 a2 (2 : Int32)  hw (lv_sub hl [1, 2, 3] rfl) hf
    · rw [if_pos h3] at hf
      refine lv_iconst (v := 1) hx hb nD_MOD_begins_21 (by decide) ?_
      refine lv_goto (tgt := 44) hx hb nD_MOD_begins_22 (by decide) ?_
      exact bk_MOD_begins_44 F9 a1 a2 (1 : Int32)  hw (lv_sub hl [1, 2, 3] rfl) hf
  · rw [if_pos h2] at hf
    refine lv_iconst (v := 0) hx hb nD_MOD_begins_12 (by decide) ?_
    refine lv_goto (tgt := 44) hx hb nD_MOD_begins_13 (by decide) ?_
    exact bk_MOD_begins_44 F9 a1 a2 (0 : Int32)  hw (lv_sub hl [1, 2, 3] rfl) hf
set_option maxRecDepth 100000 in
set_option maxHeartbeats 4000000 in
theorem bk_MOD_begin_295 {z : sg_T} (F : fx_F p s m args meth c nC_MOD_begin 6 none nR_MOD) (a3 : Int32) (t0 : Int32) (t1 : Int32) {σ : sg_T} {H : Heap} {locs : List Loc} {ls : Array Slot} (hw : ww_P x s H locs σ) (hl : lv_has ls 6 [(0, .ref (x.2.2 82)), (3, .int a3)]) (hf : fb_MOD_begin_295 a3 t0 t1 σ = some z) : W p l e (rm_D 6) s m args below meth c H locs 0 0 (qv_Q x s below args z) (F0 m 295 ls [.int t0, .int t1, .ref (x.2.2 95)]) := by
  have F9 := F
  obtain ⟨hx, hb, hml, hr, hlk, hown, hT⟩ := F
  unfold fb_MOD_begin_295 at hf
  obtain ⟨g19, hf⟩ := gt_of hf
  refine as_m_gives F9 hw g19 nD_MOD_begin_295 (fun H locs hw => ?_)
  refine lv_aload_n hx hb nD_MOD_begin_296 rfl (lv_at hl 0 rfl) ?_
  refine rd_MOD_MOD_notes F9 hw nD_MOD_begin_297 ?_
  refine lv_iload_n hx hb nD_MOD_begin_300 rfl (lv_at hl 1 rfl) ?_
  refine lv_iconst (v := 0) hx hb nD_MOD_begin_301 (by decide) ?_
  obtain ⟨g20, hf⟩ := gt_of hf
  refine as_m_notes F9 hw g20 nD_MOD_begin_302 (fun H locs hw => ?_)
  exact rt_v F9 hw nD_MOD_begin_303 hf
set_option maxRecDepth 100000 in
set_option maxHeartbeats 4000000 in
theorem bk_MOD_begin_224 {z : sg_T} (F : fx_F p s m args meth c nC_MOD_begin 6 none nR_MOD) (kL129 : Int32 → Int32 → sg_T → Option (sg_T)) (ih129 : ∀ (a3 : Int32) (a4 : Int32) (σ : sg_T) (H : Heap) (locs : List Loc) (ls : Array Slot), ww_P x s H locs σ → lv_has ls 6 [(0, .ref (x.2.2 82)), (3, .int a3), (4, .int a4)] → kL129 a3 a4 σ = some z → W p l e (rm_D 6) s m args below meth c H locs 0 0 (qv_Q x s below args z) (F0 m 129 ls [])) (a4 : Int32) (t0 : Int32) {σ : sg_T} {H : Heap} {locs : List Loc} {ls : Array Slot} (hw : ww_P x s H locs σ) (hl : lv_has ls 6 [(0, .ref (x.2.2 82)), (4, .int a4)]) (hf : fb_MOD_begin_224 kL129 a4 t0 σ = some z) : W p l e (rm_D 6) s m args below meth c H locs 0 0 (qv_Q x s below args z) (F0 m 224 ls [.int t0]) := by
  have F9 := F
  obtain ⟨hx, hb, hml, hr, hlk, hown, hT⟩ := F
  unfold fb_MOD_begin_224 at hf
  refine lv_istore_n (lv' := [(3, .int t0), (0, .ref (x.2.2 82)), (4, .int a4)]) hx hb nD_MOD_begin_224 rfl hl (by decide) rfl (fun ls hl => ?_)
  refine lv_iinc (k := 2) (v := a4 + (1 : Int32)) (lv' := [(4, .int (a4 + (1 : Int32))), (3, .int t0), (0, .ref (x.2.2 82))]) hx hb nD_MOD_begin_225 hl rfl (ic_p1 _) (by decide) rfl (fun ls hl => ?_)
  refine lv_goto (tgt := 129) hx hb nD_MOD_begin_228 (by decide) ?_
  exact ih129 t0 (a4 + (1 : Int32)) _ _ _ _  hw (lv_sub hl [2, 1, 0] rfl) hf
set_option maxRecDepth 100000 in
set_option maxHeartbeats 4000000 in
theorem bk_MOD_begin_223 {z : sg_T} (F : fx_F p s m args meth c nC_MOD_begin 6 none nR_MOD) (kL129 : Int32 → Int32 → sg_T → Option (sg_T)) (ih129 : ∀ (a3 : Int32) (a4 : Int32) (σ : sg_T) (H : Heap) (locs : List Loc) (ls : Array Slot), ww_P x s H locs σ → lv_has ls 6 [(0, .ref (x.2.2 82)), (3, .int a3), (4, .int a4)] → kL129 a3 a4 σ = some z → W p l e (rm_D 6) s m args below meth c H locs 0 0 (qv_Q x s below args z) (F0 m 129 ls [])) (a3 : Int32) (a4 : Int32) {σ : sg_T} {H : Heap} {locs : List Loc} {ls : Array Slot} (hw : ww_P x s H locs σ) (hl : lv_has ls 6 [(0, .ref (x.2.2 82)), (3, .int a3), (4, .int a4)]) (hf : fb_MOD_begin_223 kL129 a3 a4 σ = some z) : W p l e (rm_D 6) s m args below meth c H locs 0 0 (qv_Q x s below args z) (F0 m 223 ls []) := by
  have F9 := F
  obtain ⟨hx, hb, hml, hr, hlk, hown, hT⟩ := F
  unfold fb_MOD_begin_223 at hf
  refine lv_iload_n hx hb nD_MOD_begin_223 rfl (lv_at hl 1 rfl) ?_
  exact bk_MOD_begin_224 F9 kL129 ih129 a4 a3  hw (lv_sub hl [0, 2] rfl) hf
set_option maxRecDepth 100000 in
set_option maxHeartbeats 4000000 in
theorem bk_MOD_begin_218 {z : sg_T} (F : fx_F p s m args meth c nC_MOD_begin 6 none nR_MOD) (kL129 : Int32 → Int32 → sg_T → Option (sg_T)) (ih129 : ∀ (a3 : Int32) (a4 : Int32) (σ : sg_T) (H : Heap) (locs : List Loc) (ls : Array Slot), ww_P x s H locs σ → lv_has ls 6 [(0, .ref (x.2.2 82)), (3, .int a3), (4, .int a4)] → kL129 a3 a4 σ = some z → W p l e (rm_D 6) s m args below meth c H locs 0 0 (qv_Q x s below args z) (F0 m 129 ls [])) (a4 : Int32) {σ : sg_T} {H : Heap} {locs : List Loc} {ls : Array Slot} (hw : ww_P x s H locs σ) (hl : lv_has ls 6 [(0, .ref (x.2.2 82)), (4, .int a4)]) (hf : fb_MOD_begin_218 kL129 a4 σ = some z) : W p l e (rm_D 6) s m args below meth c H locs 0 0 (qv_Q x s below args z) (F0 m 218 ls []) := by
  have F9 := F
  obtain ⟨hx, hb, hml, hr, hlk, hown, hT⟩ := F
  unfold fb_MOD_begin_218 at hf
  refine lv_iload hx hb nD_MOD_begin_218 (lv_at hl 1 rfl) ?_
  refine lv_goto (tgt := 224) hx hb nD_MOD_begin_220 (by decide) ?_
  exact bk_MOD_begin_224 F9 kL129 ih129 a4 a4  hw (lv_sub hl [0, 1] rfl) hf
set_option maxRecDepth 100000 in
set_option maxHeartbeats 4000000 in
theorem bk_MOD_begin_191 {z : sg_T} (F : fx_F p s m args meth c nC_MOD_begin 6 none nR_MOD) (kL129 : Int32 → Int32 → sg_T → Option (sg_T)) (ih129 : ∀ (a3 : Int32) (a4 : Int32) (σ : sg_T) (H : Heap) (locs : List Loc) (ls : Array Slot), ww_P x s H locs σ → lv_has ls 6 [(0, .ref (x.2.2 82)), (3, .int a3), (4, .int a4)] → kL129 a3 a4 σ = some z → W p l e (rm_D 6) s m args below meth c H locs 0 0 (qv_Q x s below args z) (F0 m 129 ls [])) (a3 : Int32) (a4 : Int32) (t0 : Int32) {σ : sg_T} {H : Heap} {locs : List Loc} {ls : Array Slot} (hw : ww_P x s H locs σ) (hl : lv_has ls 6 [(0, .ref (x.2.2 82)), (3, .int a3), (4, .int a4)]) (hf : fb_MOD_begin_191 kL129 a3 a4 t0 σ = some z) : W p l e (rm_D 6) s m args below meth c H locs 0 0 (qv_Q x s below args z) (F0 m 191 ls [.int t0]) := by
  have F9 := F
  obtain ⟨hx, hb, hml, hr, hlk, hown, hT⟩ := F
  unfold fb_MOD_begin_191 at hf
  refine lv_istore (lv' := [(5, .int t0), (0, .ref (x.2.2 82)), (3, .int a3), (4, .int a4)]) hx hb nD_MOD_begin_191 hl (by decide) rfl (fun ls hl => ?_)
  refine lv_iload hx hb nD_MOD_begin_193 (lv_at hl 0 rfl) ?_
  refine lv_if_eq (tgt := 223) hx hb nD_MOD_begin_195 (by decide) (fun h25 => ?_) (fun h25 => ?_)
  · rw [if_pos h25] at hf
    exact bk_MOD_begin_223 F9 kL129 ih129 a3 a4  hw (lv_sub hl [1, 2, 3] rfl) hf
  · rw [if_neg h25] at hf
    refine lv_iload_n hx hb nD_MOD_begin_198 rfl (lv_at hl 2 rfl) ?_
    refine lv_if_eq (tgt := 218) hx hb nD_MOD_begin_199 (by decide) (fun h26 => ?_) (fun h26 => ?_)
    · rw [if_pos h26] at hf
      exact bk_MOD_begin_218 F9 kL129 ih129 a4  hw (lv_sub hl [1, 3] rfl) hf
    · rw [if_neg h26] at hf
      refine lv_aload_n hx hb nD_MOD_begin_202 rfl (lv_at hl 1 rfl) ?_
      refine rd_MOD_MOD_order F9 hw nD_MOD_begin_203 ?_
      refine lv_iload hx hb nD_MOD_begin_206 (lv_at hl 3 rfl) ?_
      obtain ⟨g27, hf⟩ := gt_of hf
      refine al_m_order F9 hw g27 nD_MOD_begin_208 ?_
      refine lv_aload_n hx hb nD_MOD_begin_209 rfl (lv_at hl 1 rfl) ?_
      refine rd_MOD_MOD_order F9 hw nD_MOD_begin_210 ?_
      refine lv_iload_n hx hb nD_MOD_begin_213 rfl (lv_at hl 2 rfl) ?_
      obtain ⟨g28, hf⟩ := gt_of hf
      refine al_m_order F9 hw g28 nD_MOD_begin_214 ?_
      refine lv_icmp_ge (tgt := 223) hx hb nD_MOD_begin_215 (by decide) (fun h29 => ?_) (fun h29 => ?_)
      · rw [if_pos h29] at hf
        exact bk_MOD_begin_223 F9 kL129 ih129 a3 a4  hw (lv_sub hl [1, 2, 3] rfl) hf
      · rw [if_neg h29] at hf
        exact bk_MOD_begin_218 F9 kL129 ih129 a4  hw (lv_sub hl [1, 3] rfl) hf
set_option maxRecDepth 100000 in
set_option maxHeartbeats 4000000 in
theorem bk_MOD_begin_190 {z : sg_T} (F : fx_F p s m args meth c nC_MOD_begin 6 none nR_MOD) (kL129 : Int32 → Int32 → sg_T → Option (sg_T)) (ih129 : ∀ (a3 : Int32) (a4 : Int32) (σ : sg_T) (H : Heap) (locs : List Loc) (ls : Array Slot), ww_P x s H locs σ → lv_has ls 6 [(0, .ref (x.2.2 82)), (3, .int a3), (4, .int a4)] → kL129 a3 a4 σ = some z → W p l e (rm_D 6) s m args below meth c H locs 0 0 (qv_Q x s below args z) (F0 m 129 ls [])) (a3 : Int32) (a4 : Int32) {σ : sg_T} {H : Heap} {locs : List Loc} {ls : Array Slot} (hw : ww_P x s H locs σ) (hl : lv_has ls 6 [(0, .ref (x.2.2 82)), (3, .int a3), (4, .int a4)]) (hf : fb_MOD_begin_190 kL129 a3 a4 σ = some z) : W p l e (rm_D 6) s m args below meth c H locs 0 0 (qv_Q x s below args z) (F0 m 190 ls []) := by
  have F9 := F
  obtain ⟨hx, hb, hml, hr, hlk, hown, hT⟩ := F
  unfold fb_MOD_begin_190 at hf
  refine lv_iconst (v := 0) hx hb nD_MOD_begin_190 (by decide) ?_
  exact bk_MOD_begin_191 F9 kL129 ih129 a3 a4 (0 : Int32)  hw (lv_sub hl [0, 1, 2] rfl) hf
set_option maxRecDepth 100000 in
set_option maxHeartbeats 4000000 in
theorem bk_MOD_begin_166 {z : sg_T} (F : fx_F p s m args meth c nC_MOD_begin 6 none nR_MOD) (kL129 : Int32 → Int32 → sg_T → Option (sg_T)) (ih129 : ∀ (a3 : Int32) (a4 : Int32) (σ : sg_T) (H : Heap) (locs : List Loc) (ls : Array Slot), ww_P x s H locs σ → lv_has ls 6 [(0, .ref (x.2.2 82)), (3, .int a3), (4, .int a4)] → kL129 a3 a4 σ = some z → W p l e (rm_D 6) s m args below meth c H locs 0 0 (qv_Q x s below args z) (F0 m 129 ls [])) (a3 : Int32) (a4 : Int32) {σ : sg_T} {H : Heap} {locs : List Loc} {ls : Array Slot} (hw : ww_P x s H locs σ) (hl : lv_has ls 6 [(0, .ref (x.2.2 82)), (3, .int a3), (4, .int a4)]) (hf : fb_MOD_begin_166 kL129 a3 a4 σ = some z) : W p l e (rm_D 6) s m args below meth c H locs 0 0 (qv_Q x s below args z) (F0 m 166 ls []) := by
  have F9 := F
  obtain ⟨hx, hb, hml, hr, hlk, hown, hT⟩ := F
  unfold fb_MOD_begin_166 at hf
  refine lv_aload_n hx hb nD_MOD_begin_166 rfl (lv_at hl 0 rfl) ?_
  refine rd_MOD_MOD_taken F9 hw nD_MOD_begin_167 ?_
  refine lv_aload_n hx hb nD_MOD_begin_170 rfl (lv_at hl 0 rfl) ?_
  refine rd_MOD_MOD_where F9 hw nD_MOD_begin_171 ?_
  refine lv_iload hx hb nD_MOD_begin_174 (lv_at hl 2 rfl) ?_
  obtain ⟨g31, hf⟩ := gt_of hf
  refine al_m_where F9 hw g31 nD_MOD_begin_176 ?_
  refine lv_aload_n hx hb nD_MOD_begin_177 rfl (lv_at hl 0 rfl) ?_
  refine rd_MOD_MOD_banks F9 hw nD_MOD_begin_178 ?_
  obtain ⟨g32, hf⟩ := gt_of hf
  refine lv_irem hx hb nD_MOD_begin_181 (of_decide_eq_true g32) ?_
  obtain ⟨g33, hf⟩ := gt_of hf
  refine al_m_taken F9 hw g33 nD_MOD_begin_182 ?_
  refine lv_if_ne (tgt := 190) hx hb nD_MOD_begin_183 (by decide) (fun h34 => ?_) (fun h34 => ?_)
  · rw [if_neg h34] at hf
    exact bk_MOD_begin_190 F9 kL129 ih129 a3 a4  hw (lv_sub hl [0, 1, 2] rfl) hf
  · rw [if_pos h34] at hf
    refine lv_iconst (v := 1) hx hb nD_MOD_begin_186 (by decide) ?_
    refine lv_goto (tgt := 191) hx hb nD_MOD_begin_187 (by decide) ?_
    exact bk_MOD_begin_191 F9 kL129 ih129 a3 a4 (1 : Int32)  hw (lv_sub hl [0, 1, 2] rfl) hf
set_option maxRecDepth 100000 in
set_option maxHeartbeats 4000000 in
theorem bk_MOD_begin_129 {z : sg_T} (F : fx_F p s m args meth c nC_MOD_begin 6 none nR_MOD) : ∀ (n : Nat) (a3 : Int32) (a4 : Int32) (σ : sg_T) (H : Heap) (locs : List Loc) (ls : Array Slot), ww_P x s H locs σ → lv_has ls 6 [(0, .ref (x.2.2 82)), (3, .int a3), (4, .int a4)] → fb_MOD_begin_129 n a3 a4 σ = some z → W p l e (rm_D 6) s m args below meth c H locs 0 0 (qv_Q x s below args z) (F0 m 129 ls []) := by
  have F9 := F
  obtain ⟨hx, hb, hml, hr, hlk, hown, hT⟩ := F
  intro n
  induction n with
  | zero =>
    intro a3 a4 σ H locs ls  hw hl hf
    simp [fb_MOD_begin_129] at hf
  | succ n ih =>
    intro a3 a4 σ H locs ls  hw hl hf
    unfold fb_MOD_begin_129 at hf
    refine lv_iload hx hb nD_MOD_begin_129 (lv_at hl 2 rfl) ?_
    refine lv_bipush (v := 13) hx hb nD_MOD_begin_131 (by decide) ?_
    refine lv_icmp_ge (tgt := 231) hx hb nD_MOD_begin_133 (by decide) (fun h11 => ?_) (fun h11 => ?_)
    · rw [if_pos h11] at hf
      refine lv_iload_n hx hb nD_MOD_begin_231 rfl (lv_at hl 1 rfl) ?_
      refine lv_if_le (tgt := 303) hx hb nD_MOD_begin_232 (by decide) (fun h12 => ?_) (fun h12 => ?_)
      · rw [if_pos h12] at hf
        exact rt_v F9 hw nD_MOD_begin_303 hf
      · rw [if_neg h12] at hf
        refine lv_aload_n hx hb nD_MOD_begin_235 rfl (lv_at hl 0 rfl) ?_
        refine rd_MOD_MOD_taken F9 hw nD_MOD_begin_236 ?_
        refine lv_aload_n hx hb nD_MOD_begin_239 rfl (lv_at hl 0 rfl) ?_
        refine rd_MOD_MOD_where F9 hw nD_MOD_begin_240 ?_
        refine lv_iload_n hx hb nD_MOD_begin_243 rfl (lv_at hl 1 rfl) ?_
        obtain ⟨g13, hf⟩ := gt_of hf
        refine al_m_where F9 hw g13 nD_MOD_begin_244 ?_
        refine lv_aload_n hx hb nD_MOD_begin_245 rfl (lv_at hl 0 rfl) ?_
        refine rd_MOD_MOD_banks F9 hw nD_MOD_begin_246 ?_
        obtain ⟨g14, hf⟩ := gt_of hf
        refine lv_irem hx hb nD_MOD_begin_249 (of_decide_eq_true g14) ?_
        refine lv_iconst (v := 1) hx hb nD_MOD_begin_250 (by decide) ?_
        obtain ⟨g15, hf⟩ := gt_of hf
        refine as_m_taken F9 hw g15 (by rfl) nD_MOD_begin_251 (fun H locs hw => ?_)
        refine lv_aload_n hx hb nD_MOD_begin_252 rfl (lv_at hl 0 rfl) ?_
        refine rd_MOD_MOD_place F9 hw nD_MOD_begin_253 ?_
        refine lv_iload_n hx hb nD_MOD_begin_256 rfl (lv_at hl 1 rfl) ?_
        refine lv_iconst (v := 2) hx hb nD_MOD_begin_257 (by decide) ?_
        obtain ⟨g16, hf⟩ := gt_of hf
        refine as_m_place F9 hw g16 nD_MOD_begin_258 (fun H locs hw => ?_)
        refine lv_aload_n hx hb nD_MOD_begin_259 rfl (lv_at hl 0 rfl) ?_
        refine rd_MOD_MOD_left F9 hw nD_MOD_begin_260 ?_
        refine lv_iload_n hx hb nD_MOD_begin_263 rfl (lv_at hl 1 rfl) ?_
        refine lv_aload_n hx hb nD_MOD_begin_264 rfl (lv_at hl 0 rfl) ?_
        refine rd_MOD_MOD_latency F9 hw nD_MOD_begin_265 ?_
        obtain ⟨g17, hf⟩ := gt_of hf
        refine as_m_left F9 hw g17 nD_MOD_begin_268 (fun H locs hw => ?_)
        refine lv_aload_n hx hb nD_MOD_begin_269 rfl (lv_at hl 0 rfl) ?_
        refine rd_MOD_MOD_gives F9 hw nD_MOD_begin_270 ?_
        refine lv_iload_n hx hb nD_MOD_begin_273 rfl (lv_at hl 1 rfl) ?_
        refine lv_iload_n hx hb nD_MOD_begin_274 rfl (lv_at hl 1 rfl) ?_
        refine lv_bipush (v := 10) hx hb nD_MOD_begin_275 (by decide) ?_
        refine lv_icmp_ge (tgt := 294) hx hb nD_MOD_begin_277 (by decide) (fun h18 => ?_) (fun h18 => ?_)
        · rw [if_pos h18] at hf
          refine lv_iconst (v := 0) hx hb nD_MOD_begin_294 (by decide) ?_
          exact bk_MOD_begin_295 F9 a3 (0 : Int32) a3  hw (lv_sub hl [0, 1] rfl) hf
        · rw [if_neg h18] at hf
          refine lv_aload_n hx hb nD_MOD_begin_280 rfl (lv_at hl 0 rfl) ?_
          refine rd_MOD_MOD_words F9 hw nD_MOD_begin_281 ?_
          refine lv_aload_n hx hb nD_MOD_begin_284 rfl (lv_at hl 0 rfl) ?_
          refine rd_MOD_MOD_where F9 hw nD_MOD_begin_285 ?_
          refine lv_iload_n hx hb nD_MOD_begin_288 rfl (lv_at hl 1 rfl) ?_
          obtain ⟨g21, hf⟩ := gt_of hf
          refine al_m_where F9 hw g21 nD_MOD_begin_289 ?_
          obtain ⟨g22, hf⟩ := gt_of hf
          refine al_m_words F9 hw g22 nD_MOD_begin_290 ?_
          refine lv_goto (tgt := 295) hx hb nD_MOD_begin_291 (by decide) ?_
          exact bk_MOD_begin_295 F9 a3 ((sg_up (sg_up (sg_up σ 49 (tn_I ((σ 47 (tn_I a3)) - (σ 47 (tn_I a3)) / (σ 30 0) * (σ 30 0))) (1 : Int32)) 40 (tn_I a3) (2 : Int32)) 42 (tn_I a3) ((sg_up (sg_up σ 49 (tn_I ((σ 47 (tn_I a3)) - (σ 47 (tn_I a3)) / (σ 30 0) * (σ 30 0))) (1 : Int32)) 40 (tn_I a3) (2 : Int32)) 30 1)) 39 (tn_I ((sg_up (sg_up (sg_up σ 49 (tn_I ((σ 47 (tn_I a3)) - (σ 47 (tn_I a3)) / (σ 30 0) * (σ 30 0))) (1 : Int32)) 40 (tn_I a3) (2 : Int32)) 42 (tn_I a3) ((sg_up (sg_up σ 49 (tn_I ((σ 47 (tn_I a3)) - (σ 47 (tn_I a3)) / (σ 30 0) * (σ 30 0))) (1 : Int32)) 40 (tn_I a3) (2 : Int32)) 30 1)) 47 (tn_I a3)))) a3  hw (lv_sub hl [0, 1] rfl) hf
    · rw [if_neg h11] at hf
      refine lv_aload_n hx hb nD_MOD_begin_136 rfl (lv_at hl 0 rfl) ?_
      refine rd_MOD_MOD_place F9 hw nD_MOD_begin_137 ?_
      refine lv_iload hx hb nD_MOD_begin_140 (lv_at hl 2 rfl) ?_
      obtain ⟨g23, hf⟩ := gt_of hf
      refine al_m_place F9 hw g23 nD_MOD_begin_142 ?_
      refine lv_iconst (v := 1) hx hb nD_MOD_begin_143 (by decide) ?_
      refine lv_icmp_ne (tgt := 190) hx hb nD_MOD_begin_144 (by decide) (fun h24 => ?_) (fun h24 => ?_)
      · rw [if_neg h24] at hf
        exact bk_MOD_begin_190 F9 (fb_MOD_begin_129 n) ih a3 a4  hw (lv_sub hl [0, 1, 2] rfl) hf
      · rw [if_pos h24] at hf
        refine lv_iload hx hb nD_MOD_begin_147 (lv_at hl 2 rfl) ?_
        refine lv_bipush (v := 10) hx hb nD_MOD_begin_149 (by decide) ?_
        refine lv_icmp_lt (tgt := 166) hx hb nD_MOD_begin_151 (by decide) (fun h30 => ?_) (fun h30 => ?_)
        · rw [if_pos h30] at hf
          exact bk_MOD_begin_166 F9 (fb_MOD_begin_129 n) ih a3 a4  hw (lv_sub hl [0, 1, 2] rfl) hf
        · rw [if_neg h30] at hf
          refine lv_aload_n hx hb nD_MOD_begin_154 rfl (lv_at hl 0 rfl) ?_
          refine rd_MOD_MOD_tag F9 hw nD_MOD_begin_155 ?_
          refine lv_iconst (v := 2) hx hb nD_MOD_begin_158 (by decide) ?_
          refine lv_iload hx hb nD_MOD_begin_159 (lv_at hl 2 rfl) ?_
          refine lv_imul hx hb nD_MOD_begin_161 ?_
          obtain ⟨g35, hf⟩ := gt_of hf
          refine al_m_tag F9 hw g35 nD_MOD_begin_162 ?_
          refine lv_if_ne (tgt := 190) hx hb nD_MOD_begin_163 (by decide) (fun h36 => ?_) (fun h36 => ?_)
          · rw [if_neg h36] at hf
            exact bk_MOD_begin_190 F9 (fb_MOD_begin_129 n) ih a3 a4  hw (lv_sub hl [0, 1, 2] rfl) hf
          · rw [if_pos h36] at hf
            exact bk_MOD_begin_166 F9 (fb_MOD_begin_129 n) ih a3 a4  hw (lv_sub hl [0, 1, 2] rfl) hf
set_option maxRecDepth 100000 in
set_option maxHeartbeats 4000000 in
theorem bk_MOD_begin_123 {z : sg_T} (F : fx_F p s m args meth c nC_MOD_begin 6 none nR_MOD) {σ : sg_T} {H : Heap} {locs : List Loc} {ls : Array Slot} (hw : ww_P x s H locs σ) (hl : lv_has ls 6 [(0, .ref (x.2.2 82))]) (hf : fb_MOD_begin_123  σ = some z) : W p l e (rm_D 6) s m args below meth c H locs 0 0 (qv_Q x s below args z) (F0 m 123 ls []) := by
  have F9 := F
  obtain ⟨hx, hb, hml, hr, hlk, hown, hT⟩ := F
  unfold fb_MOD_begin_123 at hf
  refine lv_iconst (v := 0) hx hb nD_MOD_begin_123 (by decide) ?_
  refine lv_istore_n (lv' := [(3, .int (0 : Int32)), (0, .ref (x.2.2 82))]) hx hb nD_MOD_begin_124 rfl hl (by decide) rfl (fun ls hl => ?_)
  refine lv_bipush (v := 6) hx hb nD_MOD_begin_125 (by decide) ?_
  refine lv_istore (lv' := [(4, .int (6 : Int32)), (3, .int (0 : Int32)), (0, .ref (x.2.2 82))]) hx hb nD_MOD_begin_127 hl (by decide) rfl (fun ls hl => ?_)
  exact bk_MOD_begin_129 F9 14 (0 : Int32) (6 : Int32) _ _ _ _  hw (lv_sub hl [2, 1, 0] rfl) hf
set_option maxRecDepth 100000 in
set_option maxHeartbeats 4000000 in
theorem bk_MOD_begin_120 {z : sg_T} (F : fx_F p s m args meth c nC_MOD_begin 6 none nR_MOD) (t0 : Int32) (t1 : Int32) {σ : sg_T} {H : Heap} {locs : List Loc} {ls : Array Slot} (hw : ww_P x s H locs σ) (hl : lv_has ls 6 [(0, .ref (x.2.2 82))]) (hf : fb_MOD_begin_120 t0 t1 σ = some z) : W p l e (rm_D 6) s m args below meth c H locs 0 0 (qv_Q x s below args z) (F0 m 120 ls [.int t0, .int t1, .ref (x.2.2 82)]) := by
  have F9 := F
  obtain ⟨hx, hb, hml, hr, hlk, hown, hT⟩ := F
  unfold fb_MOD_begin_120 at hf
  obtain ⟨z39, hz39, hf⟩ := bd_of hf
  refine cl_vv (As := [.int t1, .int t0]) (rest := []) F9 hw (ct_MOD_begins l x t1 t0  _ _ hz39) (rc_MOD ) wc_MOD_174 hd_MOD_begins (by decide) hl rfl (Nat.le_of_ble_eq_true rfl) nD_MOD_begin_120 (fun H locs hw => ?_)
  exact bk_MOD_begin_123 F9   hw (lv_sub hl [0] rfl) hf
set_option maxRecDepth 100000 in
set_option maxHeartbeats 4000000 in
theorem bk_MOD_begin_97 {z : sg_T} (F : fx_F p s m args meth c nC_MOD_begin 6 none nR_MOD) (t0 : Int32) {σ : sg_T} {H : Heap} {locs : List Loc} {ls : Array Slot} (hw : ww_P x s H locs σ) (hl : lv_has ls 6 [(0, .ref (x.2.2 82))]) (hf : fb_MOD_begin_97 t0 σ = some z) : W p l e (rm_D 6) s m args below meth c H locs 0 0 (qv_Q x s below args z) (F0 m 97 ls [.int t0]) := by
  have F9 := F
  obtain ⟨hx, hb, hml, hr, hlk, hown, hT⟩ := F
  unfold fb_MOD_begin_97 at hf
  refine lv_istore_n (lv' := [(2, .int t0), (0, .ref (x.2.2 82))]) hx hb nD_MOD_begin_97 rfl hl (by decide) rfl (fun ls hl => ?_)
  refine lv_iload_n hx hb nD_MOD_begin_98 rfl (lv_at hl 0 rfl) ?_
  refine lv_if_le (tgt := 123) hx hb nD_MOD_begin_99 (by decide) (fun h10 => ?_) (fun h10 => ?_)
  · rw [if_pos h10] at hf
    exact bk_MOD_begin_123 F9   hw (lv_sub hl [1] rfl) hf
  · rw [if_neg h10] at hf
    refine lv_aload_n hx hb nD_MOD_begin_102 rfl (lv_at hl 1 rfl) ?_
    refine lv_iload_n hx hb nD_MOD_begin_103 rfl (lv_at hl 0 rfl) ?_
    refine lv_aload_n hx hb nD_MOD_begin_104 rfl (lv_at hl 1 rfl) ?_
    refine rd_MOD_MOD_what F9 hw nD_MOD_begin_105 ?_
    refine lv_iload_n hx hb nD_MOD_begin_108 rfl (lv_at hl 0 rfl) ?_
    obtain ⟨g37, hf⟩ := gt_of hf
    refine al_m_what F9 hw g37 nD_MOD_begin_109 ?_
    refine lv_iconst (v := 4) hx hb nD_MOD_begin_110 (by decide) ?_
    refine lv_icmp_ne (tgt := 118) hx hb nD_MOD_begin_111 (by decide) (fun h38 => ?_) (fun h38 => ?_)
    · rw [if_neg h38] at hf
      refine lv_bipush (v := 8) hx hb nD_MOD_begin_118 (by decide) ?_
      exact bk_MOD_begin_120 F9 (8 : Int32) t0  hw (lv_sub hl [1] rfl) hf
    · rw [if_pos h38] at hf
      refine lv_iconst (v := 4) hx hb nD_MOD_begin_114 (by decide) ?_
      refine lv_goto (tgt := 120) hx hb nD_MOD_begin_115 (by decide) ?_
      exact bk_MOD_begin_120 F9 (4 : Int32) t0  hw (lv_sub hl [1] rfl) hf
set_option maxRecDepth 100000 in
set_option maxHeartbeats 4000000 in
theorem bk_MOD_begin_68 {z : sg_T} (F : fx_F p s m args meth c nC_MOD_begin 6 none nR_MOD) {σ : sg_T} {H : Heap} {locs : List Loc} {ls : Array Slot} (hw : ww_P x s H locs σ) (hl : lv_has ls 6 [(0, .ref (x.2.2 82))]) (hf : fb_MOD_begin_68  σ = some z) : W p l e (rm_D 6) s m args below meth c H locs 0 0 (qv_Q x s below args z) (F0 m 68 ls []) := by
  have F9 := F
  obtain ⟨hx, hb, hml, hr, hlk, hown, hT⟩ := F
  unfold fb_MOD_begin_68 at hf
  refine lv_iconst (v := 0) hx hb nD_MOD_begin_68 (by decide) ?_
  refine lv_goto (tgt := 97) hx hb nD_MOD_begin_69 (by decide) ?_
  exact bk_MOD_begin_97 F9 (0 : Int32)  hw (lv_sub hl [0] rfl) hf
set_option maxRecDepth 100000 in
set_option maxHeartbeats 4000000 in
theorem bk_MOD_begin_48 {z : sg_T} (F : fx_F p s m args meth c nC_MOD_begin 6 none nR_MOD) {σ : sg_T} {H : Heap} {locs : List Loc} {ls : Array Slot} (hw : ww_P x s H locs σ) (hl : lv_has ls 6 [(0, .ref (x.2.2 82))]) (hf : fb_MOD_begin_48  σ = some z) : W p l e (rm_D 6) s m args below meth c H locs 0 0 (qv_Q x s below args z) (F0 m 48 ls []) := by
  have F9 := F
  obtain ⟨hx, hb, hml, hr, hlk, hown, hT⟩ := F
  unfold fb_MOD_begin_48 at hf
  refine lv_aload_n hx hb nD_MOD_begin_48 rfl (lv_at hl 0 rfl) ?_
  refine rd_MOD_MOD_place F9 hw nD_MOD_begin_49 ?_
  refine lv_iconst (v := 4) hx hb nD_MOD_begin_52 (by decide) ?_
  obtain ⟨g8, hf⟩ := gt_of hf
  refine al_m_place F9 hw g8 nD_MOD_begin_53 ?_
  refine lv_iconst (v := 2) hx hb nD_MOD_begin_54 (by decide) ?_
  refine lv_icmp_eq (tgt := 68) hx hb nD_MOD_begin_55 (by decide) (fun h9 => ?_) (fun h9 => ?_)
  · rw [if_pos h9] at hf
    exact bk_MOD_begin_68 F9   hw (lv_sub hl [0] rfl) hf
  · rw [if_neg h9] at hf
    refine lv_aload_n hx hb nD_MOD_begin_58 rfl (lv_at hl 0 rfl) ?_
    refine rd_MOD_MOD_place F9 hw nD_MOD_begin_59 ?_
    refine lv_iconst (v := 5) hx hb nD_MOD_begin_62 (by decide) ?_
    obtain ⟨g40, hf⟩ := gt_of hf
    refine al_m_place F9 hw g40 nD_MOD_begin_63 ?_
    refine lv_iconst (v := 2) hx hb nD_MOD_begin_64 (by decide) ?_
    refine lv_icmp_ne (tgt := 72) hx hb nD_MOD_begin_65 (by decide) (fun h41 => ?_) (fun h41 => ?_)
    · rw [if_neg h41] at hf
      refine lv_aload_n hx hb nD_MOD_begin_72 rfl (lv_at hl 0 rfl) ?_
      refine lv_iconst (v := 4) hx hb nD_MOD_begin_73 (by decide) ?_
      obtain ⟨z42, hz42, hf⟩ := bd_of hf
      refine cl_vi (As := [.int (4 : Int32)]) (rest := []) F9 hw (ct_MOD_ready l x (4 : Int32)  _ _ hz42) (rc_MOD ) wc_MOD_171 hd_MOD_ready (by decide) hl rfl (Nat.le_of_ble_eq_true rfl) nD_MOD_begin_74 (fun H locs hw => ?_)
      refine lv_if_eq (tgt := 84) hx hb nD_MOD_begin_77 (by decide) (fun h43 => ?_) (fun h43 => ?_)
      · rw [if_pos h43] at hf
        refine lv_aload_n hx hb nD_MOD_begin_84 rfl (lv_at hl 0 rfl) ?_
        refine lv_iconst (v := 5) hx hb nD_MOD_begin_85 (by decide) ?_
        obtain ⟨z44, hz44, hf⟩ := bd_of hf
        refine cl_vi (As := [.int (5 : Int32)]) (rest := []) F9 hw (ct_MOD_ready l x (5 : Int32)  _ _ hz44) (rc_MOD ) wc_MOD_171 hd_MOD_ready (by decide) hl rfl (Nat.le_of_ble_eq_true rfl) nD_MOD_begin_86 (fun H locs hw => ?_)
        refine lv_if_eq (tgt := 96) hx hb nD_MOD_begin_89 (by decide) (fun h45 => ?_) (fun h45 => ?_)
        · rw [if_pos h45] at hf
          refine lv_iconst (v := 0) hx hb nD_MOD_begin_96 (by decide) ?_
          exact bk_MOD_begin_97 F9 (0 : Int32)  hw (lv_sub hl [0] rfl) hf
        · rw [if_neg h45] at hf
          refine lv_iconst (v := 5) hx hb nD_MOD_begin_92 (by decide) ?_
          refine lv_goto (tgt := 97) hx hb nD_MOD_begin_93 (by decide) ?_
          exact bk_MOD_begin_97 F9 (5 : Int32)  hw (lv_sub hl [0] rfl) hf
      · rw [if_neg h43] at hf
        refine lv_iconst (v := 4) hx hb nD_MOD_begin_80 (by decide) ?_
        refine lv_goto (tgt := 97) hx hb nD_MOD_begin_81 (by decide) ?_
        exact bk_MOD_begin_97 F9 (4 : Int32)  hw (lv_sub hl [0] rfl) hf
    · rw [if_pos h41] at hf
      exact bk_MOD_begin_68 F9   hw (lv_sub hl [0] rfl) hf
set_option maxRecDepth 100000 in
set_option maxHeartbeats 4000000 in
theorem bk_MOD_begin_37 {z : sg_T} (F : fx_F p s m args meth c nC_MOD_begin 6 none nR_MOD) (t0 : Int32) {σ : sg_T} {H : Heap} {locs : List Loc} {ls : Array Slot} (hw : ww_P x s H locs σ) (hl : lv_has ls 6 [(0, .ref (x.2.2 82))]) (hf : fb_MOD_begin_37 t0 σ = some z) : W p l e (rm_D 6) s m args below meth c H locs 0 0 (qv_Q x s below args z) (F0 m 37 ls [.int t0]) := by
  have F9 := F
  obtain ⟨hx, hb, hml, hr, hlk, hown, hT⟩ := F
  unfold fb_MOD_begin_37 at hf
  refine lv_istore_n (lv' := [(1, .int t0), (0, .ref (x.2.2 82))]) hx hb nD_MOD_begin_37 rfl hl (by decide) rfl (fun ls hl => ?_)
  refine lv_iload_n hx hb nD_MOD_begin_38 rfl (lv_at hl 0 rfl) ?_
  refine lv_if_le (tgt := 48) hx hb nD_MOD_begin_39 (by decide) (fun h7 => ?_) (fun h7 => ?_)
  · rw [if_pos h7] at hf
    exact bk_MOD_begin_48 F9   hw (lv_sub hl [1] rfl) hf
  · rw [if_neg h7] at hf
    refine lv_aload_n hx hb nD_MOD_begin_42 rfl (lv_at hl 1 rfl) ?_
    refine lv_iload_n hx hb nD_MOD_begin_43 rfl (lv_at hl 0 rfl) ?_
    refine lv_iconst (v := 2) hx hb nD_MOD_begin_44 (by decide) ?_
    obtain ⟨z46, hz46, hf⟩ := bd_of hf
    refine cl_vv (As := [.int t0, .int (2 : Int32)]) (rest := []) F9 hw (ct_MOD_begins l x t0 (2 : Int32)  _ _ hz46) (rc_MOD ) wc_MOD_174 hd_MOD_begins (by decide) hl rfl (Nat.le_of_ble_eq_true rfl) nD_MOD_begin_45 (fun H locs hw => ?_)
    exact bk_MOD_begin_48 F9   hw (lv_sub hl [1] rfl) hf
set_option maxRecDepth 100000 in
set_option maxHeartbeats 4000000 in
theorem ct_MOD_begin (l : Launch) (x : cx_T) (σ : sg_T) (z : sg_T) (hf : fn_MOD_begin  σ = some z) : ct_v l nN_MOD_begin nC_MOD_begin 6 6 x [.ref (x.2.2 82)] σ z := by
  refine en_v (own := nR_MOD) (by decide) (Nat.le_of_ble_eq_true rfl) rfl ?_
  intro p e s m below meth c ls F hw hl
  have F9 := F
  obtain ⟨hx, hb, hml, hr, hlk, hown, hT⟩ := F
  have hl : lv_has ls 6 [(0, .ref (x.2.2 82))] := hl
  unfold fn_MOD_begin at hf
  refine lv_aload_n hx hb nD_MOD_begin_0 rfl (lv_at hl 0 rfl) ?_
  refine lv_iconst (v := 1) hx hb nD_MOD_begin_1 (by decide) ?_
  obtain ⟨z1, hz1, hf⟩ := bd_of hf
  refine cl_vi (As := [.int (1 : Int32)]) (rest := []) F9 hw (ct_MOD_ready l x (1 : Int32)  _ _ hz1) (rc_MOD ) wc_MOD_171 hd_MOD_ready (by decide) hl rfl (Nat.le_of_ble_eq_true rfl) nD_MOD_begin_2 (fun H locs hw => ?_)
  refine lv_if_eq (tgt := 12) hx hb nD_MOD_begin_5 (by decide) (fun h2 => ?_) (fun h2 => ?_)
  · rw [if_pos h2] at hf
    refine lv_aload_n hx hb nD_MOD_begin_12 rfl (lv_at hl 0 rfl) ?_
    refine lv_iconst (v := 2) hx hb nD_MOD_begin_13 (by decide) ?_
    obtain ⟨z3, hz3, hf⟩ := bd_of hf
    refine cl_vi (As := [.int (2 : Int32)]) (rest := []) F9 hw (ct_MOD_ready l x (2 : Int32)  _ _ hz3) (rc_MOD ) wc_MOD_171 hd_MOD_ready (by decide) hl rfl (Nat.le_of_ble_eq_true rfl) nD_MOD_begin_14 (fun H locs hw => ?_)
    refine lv_if_eq (tgt := 24) hx hb nD_MOD_begin_17 (by decide) (fun h4 => ?_) (fun h4 => ?_)
    · rw [if_pos h4] at hf
      refine lv_aload_n hx hb nD_MOD_begin_24 rfl (lv_at hl 0 rfl) ?_
      refine lv_iconst (v := 3) hx hb nD_MOD_begin_25 (by decide) ?_
      obtain ⟨z5, hz5, hf⟩ := bd_of hf
      refine cl_vi (As := [.int (3 : Int32)]) (rest := []) F9 hw (ct_MOD_ready l x (3 : Int32)  _ _ hz5) (rc_MOD ) wc_MOD_171 hd_MOD_ready (by decide) hl rfl (Nat.le_of_ble_eq_true rfl) nD_MOD_begin_26 (fun H locs hw => ?_)
      refine lv_if_eq (tgt := 36) hx hb nD_MOD_begin_29 (by decide) (fun h6 => ?_) (fun h6 => ?_)
      · rw [if_pos h6] at hf
        refine lv_iconst (v := 0) hx hb nD_MOD_begin_36 (by decide) ?_
        exact bk_MOD_begin_37 F9 (0 : Int32)  hw (lv_sub hl [0] rfl) hf
      · rw [if_neg h6] at hf
        refine lv_iconst (v := 3) hx hb nD_MOD_begin_32 (by decide) ?_
        refine lv_goto (tgt := 37) hx hb nD_MOD_begin_33 (by decide) ?_
        exact bk_MOD_begin_37 F9 (3 : Int32)  hw (lv_sub hl [0] rfl) hf
    · rw [if_neg h4] at hf
      refine lv_iconst (v := 2) hx hb nD_MOD_begin_20 (by decide) ?_
      refine lv_goto (tgt := 37) hx hb nD_MOD_begin_21 (by decide) ?_
      exact bk_MOD_begin_37 F9 (2 : Int32)  hw (lv_sub hl [0] rfl) hf
  · rw [if_neg h2] at hf
    refine lv_iconst (v := 1) hx hb nD_MOD_begin_8 (by decide) ?_
    refine lv_goto (tgt := 37) hx hb nD_MOD_begin_9 (by decide) ?_
    exact bk_MOD_begin_37 F9 (1 : Int32)  hw (lv_sub hl [0] rfl) hf
end MT
