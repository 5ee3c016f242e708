theorem gt_TM {x : cx_T} {σ : sg_T} : (ww_W x σ)[0]? = some (x.2.2 0, .inr (4, ee_T x σ)) := wl_get (by decide)
theorem rc_TM {x : cx_T} : rc_C x 0 nR_TM := fun _ => ⟨_, _, _, gt_TM, rfl, rfl⟩
theorem gt_REC {x : cx_T} {σ : sg_T} : (ww_W x σ)[7]? = some (x.2.2 7, .inr (2, ee_R x σ)) := wl_get (by decide)
theorem rc_REC {x : cx_T} : rc_C x 7 nR_REC := fun _ => ⟨_, _, _, gt_REC, rfl, rfl⟩
theorem gt_MOD {x : cx_T} {σ : sg_T} : (ww_W x σ)[82]? = some (x.2.2 82, .inr (5, ee_D x σ)) := wl_get (by decide)
theorem rc_MOD {x : cx_T} : rc_C x 82 nR_MOD := fun _ => ⟨_, _, _, gt_MOD, rfl, rfl⟩
theorem gt_INS {x : cx_T} {σ : sg_T} {i : Nat} (h : i < 30) : (ww_W x σ)[8 + i]? = some (x.2.2 (8 + i), .inr (0, ee_I x σ i)) := by
  rw [← ee_ins h]
  exact wl_get (by omega)
theorem rc_INS {x : cx_T} {i : Nat} (h : i < 30) : rc_C x (8 + i) nR_INS := fun _ => ⟨_, _, _, gt_INS h, rfl, rfl⟩
theorem gt_OPD {x : cx_T} {σ : sg_T} {i : Nat} (h : i < 31) : (ww_W x σ)[38 + i]? = some (x.2.2 (38 + i), .inr (1, ee_O x σ i)) := by
  rw [← ee_opd h]
  exact wl_get (by omega)
theorem rc_OPD {x : cx_T} {i : Nat} (h : i < 31) : rc_C x (38 + i) nR_OPD := fun _ => ⟨_, _, _, gt_OPD h, rfl, rfl⟩
theorem gt_UNI {x : cx_T} {σ : sg_T} {i : Nat} (h : i < 13) : (ww_W x σ)[69 + i]? = some (x.2.2 (69 + i), .inr (3, ee_U x σ i)) := by
  rw [← ee_uni h]
  exact wl_get (by omega)
theorem rc_UNI {x : cx_T} {i : Nat} (h : i < 13) : rc_C x (69 + i) nR_UNI := fun _ => ⟨_, _, _, gt_UNI h, rfl, rfl⟩
theorem gt_program {x : cx_T} {σ : sg_T} : (ww_W x σ)[1]? = some (x.2.2 1, .inl (x.2.1 2, 30, .inr (.inr (.inr (.inr (fun i => some (x.2.2 (8 + i)))))))) := wl_get (by decide)
theorem gt_registers {x : cx_T} {σ : sg_T} : (ww_W x σ)[2]? = some (x.2.2 2, .inl (x.2.1 3, 5, .inr (.inr (.inr (.inr (fun i => some (x.2.2 (38 + i)))))))) := wl_get (by decide)
theorem gt_integers {x : cx_T} {σ : sg_T} : (ww_W x σ)[3]? = some (x.2.2 3, .inl (x.2.1 0, 4, .inl (σ 10))) := wl_get (by decide)
theorem gt_words {x : cx_T} {σ : sg_T} : (ww_W x σ)[4]? = some (x.2.2 4, .inl (x.2.1 0, 32, .inl (σ 11))) := wl_get (by decide)
theorem gt_units {x : cx_T} {σ : sg_T} : (ww_W x σ)[5]? = some (x.2.2 5, .inl (x.2.1 4, 13, .inr (.inr (.inr (.inr (fun i => some (x.2.2 (69 + i)))))))) := wl_get (by decide)
theorem gt_bankInUse {x : cx_T} {σ : sg_T} : (ww_W x σ)[6]? = some (x.2.2 6, .inl (x.2.1 1, 8, .inl (σ 19))) := wl_get (by decide)
theorem gt_m_op {x : cx_T} {σ : sg_T} : (ww_W x σ)[83]? = some (x.2.2 83, .inl (x.2.1 0, 30, .inl (σ 31))) := wl_get (by decide)
theorem gt_m_rs {x : cx_T} {σ : sg_T} : (ww_W x σ)[84]? = some (x.2.2 84, .inl (x.2.1 0, 30, .inl (σ 32))) := wl_get (by decide)
theorem gt_m_ss {x : cx_T} {σ : sg_T} : (ww_W x σ)[85]? = some (x.2.2 85, .inl (x.2.1 0, 30, .inl (σ 33))) := wl_get (by decide)
theorem gt_m_bs {x : cx_T} {σ : sg_T} : (ww_W x σ)[86]? = some (x.2.2 86, .inl (x.2.1 0, 30, .inl (σ 34))) := wl_get (by decide)
theorem gt_m_ns {x : cx_T} {σ : sg_T} : (ww_W x σ)[87]? = some (x.2.2 87, .inl (x.2.1 0, 30, .inl (σ 35))) := wl_get (by decide)
theorem gt_m_value {x : cx_T} {σ : sg_T} : (ww_W x σ)[88]? = some (x.2.2 88, .inl (x.2.1 0, 5, .inl (σ 36))) := wl_get (by decide)
theorem gt_m_waits {x : cx_T} {σ : sg_T} : (ww_W x σ)[89]? = some (x.2.2 89, .inl (x.2.1 0, 5, .inl (σ 37))) := wl_get (by decide)
theorem gt_m_general {x : cx_T} {σ : sg_T} : (ww_W x σ)[90]? = some (x.2.2 90, .inl (x.2.1 0, 4, .inl (σ 38))) := wl_get (by decide)
theorem gt_m_words {x : cx_T} {σ : sg_T} : (ww_W x σ)[91]? = some (x.2.2 91, .inl (x.2.1 0, 32, .inl (σ 39))) := wl_get (by decide)
theorem gt_m_place {x : cx_T} {σ : sg_T} : (ww_W x σ)[92]? = some (x.2.2 92, .inl (x.2.1 0, 13, .inl (σ 40))) := wl_get (by decide)
theorem gt_m_what {x : cx_T} {σ : sg_T} : (ww_W x σ)[93]? = some (x.2.2 93, .inl (x.2.1 0, 13, .inl (σ 41))) := wl_get (by decide)
theorem gt_m_left {x : cx_T} {σ : sg_T} : (ww_W x σ)[94]? = some (x.2.2 94, .inl (x.2.1 0, 13, .inl (σ 42))) := wl_get (by decide)
theorem gt_m_gives {x : cx_T} {σ : sg_T} : (ww_W x σ)[95]? = some (x.2.2 95, .inl (x.2.1 0, 13, .inl (σ 43))) := wl_get (by decide)
theorem gt_m_notes {x : cx_T} {σ : sg_T} : (ww_W x σ)[96]? = some (x.2.2 96, .inl (x.2.1 0, 13, .inl (σ 44))) := wl_get (by decide)
theorem gt_m_operand {x : cx_T} {σ : sg_T} : (ww_W x σ)[97]? = some (x.2.2 97, .inl (x.2.1 0, 26, .inl (σ 45))) := wl_get (by decide)
theorem gt_m_tag {x : cx_T} {σ : sg_T} : (ww_W x σ)[98]? = some (x.2.2 98, .inl (x.2.1 0, 26, .inl (σ 46))) := wl_get (by decide)
theorem gt_m_where {x : cx_T} {σ : sg_T} : (ww_W x σ)[99]? = some (x.2.2 99, .inl (x.2.1 0, 13, .inl (σ 47))) := wl_get (by decide)
theorem gt_m_order {x : cx_T} {σ : sg_T} : (ww_W x σ)[100]? = some (x.2.2 100, .inl (x.2.1 0, 13, .inl (σ 48))) := wl_get (by decide)
theorem gt_m_taken {x : cx_T} {σ : sg_T} : (ww_W x σ)[101]? = some (x.2.2 101, .inl (x.2.1 1, 8, .inl (σ 49))) := wl_get (by decide)
theorem gt_out {x : cx_T} {σ : sg_T} : (ww_W x σ)[102]? = some (x.2.2 102, .inl (x.2.1 5, 1, .inr (.inl (fun j => if j = 0 then (σ 51 0).toInt64 else 0)))) := wl_get (by decide)
theorem st_TM_instructions {x : cx_T} {σ : sg_T} (v : Int32) : (ww_W x σ).set 0 (x.2.2 0, .inr (4, (ee_T x σ).set 9 (.int v))) = ww_W x (sg_up σ 0 2 v) := by
  unfold ww_W
  rw [wl_set (by decide)]
  exact congrArg _ (eu_0 (j := 0) (by decide) (by simp [e0_L, ee_T, ee_R, sg_up, sg_row]) (fun i => by simp [ee_I, sg_row]) (fun i => by simp [ee_O, sg_row]) (fun i => by simp [ee_U, sg_row]) (by simp [em_L, ee_D, sg_row]))
theorem st_TM_mode {x : cx_T} {σ : sg_T} (v : Int32) : (ww_W x σ).set 0 (x.2.2 0, .inr (4, (ee_T x σ).set 10 (.int v))) = ww_W x (sg_up σ 0 3 v) := by
  unfold ww_W
  rw [wl_set (by decide)]
  exact congrArg _ (eu_0 (j := 0) (by decide) (by simp [e0_L, ee_T, ee_R, sg_up, sg_row]) (fun i => by simp [ee_I, sg_row]) (fun i => by simp [ee_O, sg_row]) (fun i => by simp [ee_U, sg_row]) (by simp [em_L, ee_D, sg_row]))
theorem st_TM_next {x : cx_T} {σ : sg_T} (v : Int32) : (ww_W x σ).set 0 (x.2.2 0, .inr (4, (ee_T x σ).set 11 (.int v))) = ww_W x (sg_up σ 0 4 v) := by
  unfold ww_W
  rw [wl_set (by decide)]
  exact congrArg _ (eu_0 (j := 0) (by decide) (by simp [e0_L, ee_T, ee_R, sg_up, sg_row]) (fun i => by simp [ee_I, sg_row]) (fun i => by simp [ee_O, sg_row]) (fun i => by simp [ee_U, sg_row]) (by simp [em_L, ee_D, sg_row]))
theorem st_TM_noted {x : cx_T} {σ : sg_T} (v : Int32) : (ww_W x σ).set 0 (x.2.2 0, .inr (4, (ee_T x σ).set 12 (.int v))) = ww_W x (sg_up σ 0 5 v) := by
  unfold ww_W
  rw [wl_set (by decide)]
  exact congrArg _ (eu_0 (j := 0) (by decide) (by simp [e0_L, ee_T, ee_R, sg_up, sg_row]) (fun i => by simp [ee_I, sg_row]) (fun i => by simp [ee_O, sg_row]) (fun i => by simp [ee_U, sg_row]) (by simp [em_L, ee_D, sg_row]))
theorem st_TM_cycles {x : cx_T} {σ : sg_T} (v : Int32) : (ww_W x σ).set 0 (x.2.2 0, .inr (4, (ee_T x σ).set 13 (.int v))) = ww_W x (sg_up σ 0 6 v) := by
  unfold ww_W
  rw [wl_set (by decide)]
  exact congrArg _ (eu_0 (j := 0) (by decide) (by simp [e0_L, ee_T, ee_R, sg_up, sg_row]) (fun i => by simp [ee_I, sg_row]) (fun i => by simp [ee_O, sg_row]) (fun i => by simp [ee_U, sg_row]) (by simp [em_L, ee_D, sg_row]))
theorem st_TM_handedOut {x : cx_T} {σ : sg_T} (v : Int32) : (ww_W x σ).set 0 (x.2.2 0, .inr (4, (ee_T x σ).set 14 (.int v))) = ww_W x (sg_up σ 0 7 v) := by
  unfold ww_W
  rw [wl_set (by decide)]
  exact congrArg _ (eu_0 (j := 0) (by decide) (by simp [e0_L, ee_T, ee_R, sg_up, sg_row]) (fun i => by simp [ee_I, sg_row]) (fun i => by simp [ee_O, sg_row]) (fun i => by simp [ee_U, sg_row]) (by simp [em_L, ee_D, sg_row]))
theorem st_REC_result {x : cx_T} {σ : sg_T} (v : Int32) : (ww_W x σ).set 7 (x.2.2 7, .inr (2, (ee_R x σ).set 0 (.int v))) = ww_W x (sg_up σ 20 0 v) := by
  unfold ww_W
  rw [wl_set (by decide)]
  exact congrArg _ (eu_0 (j := 7) (by decide) (by simp [e0_L, ee_T, ee_R, sg_up, sg_row]) (fun i => by simp [ee_I, sg_row]) (fun i => by simp [ee_O, sg_row]) (fun i => by simp [ee_U, sg_row]) (by simp [em_L, ee_D, sg_row]))
theorem st_REC_raised {x : cx_T} {σ : sg_T} (v : Int32) : (ww_W x σ).set 7 (x.2.2 7, .inr (2, (ee_R x σ).set 1 (.int v))) = ww_W x (sg_up σ 20 1 v) := by
  unfold ww_W
  rw [wl_set (by decide)]
  exact congrArg _ (eu_0 (j := 7) (by decide) (by simp [e0_L, ee_T, ee_R, sg_up, sg_row]) (fun i => by simp [ee_I, sg_row]) (fun i => by simp [ee_O, sg_row]) (fun i => by simp [ee_U, sg_row]) (by simp [em_L, ee_D, sg_row]))
theorem st_MOD_threw {x : cx_T} {σ : sg_T} (v : Int32) : (ww_W x σ).set 82 (x.2.2 82, .inr (5, (ee_D x σ).set 2 (.int v))) = ww_W x (sg_up σ 30 9 v) := by
  unfold ww_W
  rw [wl_set (by decide)]
  exact congrArg _ (eu_M (j := 0) (by decide) (by simp [em_L, ee_D, sg_up, sg_row]) (by simp [e0_L, ee_T, ee_R, sg_row]) (fun i => by simp [ee_I, sg_row]) (fun i => by simp [ee_O, sg_row]) (fun i => by simp [ee_U, sg_row]))
theorem st_MOD_many {x : cx_T} {σ : sg_T} (v : Int32) : (ww_W x σ).set 82 (x.2.2 82, .inr (5, (ee_D x σ).set 3 (.int v))) = ww_W x (sg_up σ 30 2 v) := by
  unfold ww_W
  rw [wl_set (by decide)]
  exact congrArg _ (eu_M (j := 0) (by decide) (by simp [em_L, ee_D, sg_up, sg_row]) (by simp [e0_L, ee_T, ee_R, sg_row]) (fun i => by simp [ee_I, sg_row]) (fun i => by simp [ee_O, sg_row]) (fun i => by simp [ee_U, sg_row]))
theorem st_MOD_state {x : cx_T} {σ : sg_T} (v : Int32) : (ww_W x σ).set 82 (x.2.2 82, .inr (5, (ee_D x σ).set 9 (.int v))) = ww_W x (sg_up σ 30 3 v) := by
  unfold ww_W
  rw [wl_set (by decide)]
  exact congrArg _ (eu_M (j := 0) (by decide) (by simp [em_L, ee_D, sg_up, sg_row]) (by simp [e0_L, ee_T, ee_R, sg_row]) (fun i => by simp [ee_I, sg_row]) (fun i => by simp [ee_O, sg_row]) (fun i => by simp [ee_U, sg_row]))
theorem st_MOD_next {x : cx_T} {σ : sg_T} (v : Int32) : (ww_W x σ).set 82 (x.2.2 82, .inr (5, (ee_D x σ).set 10 (.int v))) = ww_W x (sg_up σ 30 4 v) := by
  unfold ww_W
  rw [wl_set (by decide)]
  exact congrArg _ (eu_M (j := 0) (by decide) (by simp [em_L, ee_D, sg_up, sg_row]) (by simp [e0_L, ee_T, ee_R, sg_row]) (fun i => by simp [ee_I, sg_row]) (fun i => by simp [ee_O, sg_row]) (fun i => by simp [ee_U, sg_row]))
theorem st_MOD_noted {x : cx_T} {σ : sg_T} (v : Int32) : (ww_W x σ).set 82 (x.2.2 82, .inr (5, (ee_D x σ).set 11 (.int v))) = ww_W x (sg_up σ 30 5 v) := by
  unfold ww_W
  rw [wl_set (by decide)]
  exact congrArg _ (eu_M (j := 0) (by decide) (by simp [em_L, ee_D, sg_up, sg_row]) (by simp [e0_L, ee_T, ee_R, sg_row]) (fun i => by simp [ee_I, sg_row]) (fun i => by simp [ee_O, sg_row]) (fun i => by simp [ee_U, sg_row]))
theorem st_MOD_cycles {x : cx_T} {σ : sg_T} (v : Int32) : (ww_W x σ).set 82 (x.2.2 82, .inr (5, (ee_D x σ).set 12 (.int v))) = ww_W x (sg_up σ 30 6 v) := by
  unfold ww_W
  rw [wl_set (by decide)]
  exact congrArg _ (eu_M (j := 0) (by decide) (by simp [em_L, ee_D, sg_up, sg_row]) (by simp [e0_L, ee_T, ee_R, sg_row]) (fun i => by simp [ee_I, sg_row]) (fun i => by simp [ee_O, sg_row]) (fun i => by simp [ee_U, sg_row]))
theorem st_MOD_handed {x : cx_T} {σ : sg_T} (v : Int32) : (ww_W x σ).set 82 (x.2.2 82, .inr (5, (ee_D x σ).set 13 (.int v))) = ww_W x (sg_up σ 30 7 v) := by
  unfold ww_W
  rw [wl_set (by decide)]
  exact congrArg _ (eu_M (j := 0) (by decide) (by simp [em_L, ee_D, sg_up, sg_row]) (by simp [e0_L, ee_T, ee_R, sg_row]) (fun i => by simp [ee_I, sg_row]) (fun i => by simp [ee_O, sg_row]) (fun i => by simp [ee_U, sg_row]))
theorem st_MOD_exception {x : cx_T} {σ : sg_T} (v : Int32) : (ww_W x σ).set 82 (x.2.2 82, .inr (5, (ee_D x σ).set 28 (.int v))) = ww_W x (sg_up σ 30 8 v) := by
  unfold ww_W
  rw [wl_set (by decide)]
  exact congrArg _ (eu_M (j := 0) (by decide) (by simp [em_L, ee_D, sg_up, sg_row]) (by simp [e0_L, ee_T, ee_R, sg_row]) (fun i => by simp [ee_I, sg_row]) (fun i => by simp [ee_O, sg_row]) (fun i => by simp [ee_U, sg_row]))
theorem st_MOD_signed {x : cx_T} {σ : sg_T} (v : Int64) (h : v.toInt32.toInt64 = v) : (ww_W x σ).set 82 (x.2.2 82, .inr (5, (ee_D x σ).set 29 (.long v))) = ww_W x (sg_up σ 50 0 v.toInt32) := by
  unfold ww_W
  rw [wl_set (by decide)]
  exact congrArg _ (eu_M (j := 0) (by decide) (by simp [em_L, ee_D, sg_up, sg_row, h]) (by simp [e0_L, ee_T, ee_R, sg_row]) (fun i => by simp [ee_I, sg_row]) (fun i => by simp [ee_O, sg_row]) (fun i => by simp [ee_U, sg_row]))
theorem st_INS_op {x : cx_T} {σ : sg_T} {i : Nat} (hi : i < 30) (v : Int32) : (ww_W x σ).set (8 + i) (x.2.2 (8 + i), .inr (0, (ee_I x σ i).set 0 (.int v))) = ww_W x (sg_up σ 1 i v) := by
  unfold ww_W
  rw [wl_set (by omega)]
  exact congrArg _ (eu_I (j := i) hi (by simp [ee_I, sg_up]) (fun j hj => by simp [ee_I, sg_up, hj]) (by simp [e0_L, ee_T, ee_R, sg_row]) (fun i => by simp [ee_O, sg_row]) (fun i => by simp [ee_U, sg_row]) (by simp [em_L, ee_D, sg_row]))
theorem st_INS_r {x : cx_T} {σ : sg_T} {i : Nat} (hi : i < 30) (v : Int32) : (ww_W x σ).set (8 + i) (x.2.2 (8 + i), .inr (0, (ee_I x σ i).set 1 (.int v))) = ww_W x (sg_up σ 2 i v) := by
  unfold ww_W
  rw [wl_set (by omega)]
  exact congrArg _ (eu_I (j := i) hi (by simp [ee_I, sg_up]) (fun j hj => by simp [ee_I, sg_up, hj]) (by simp [e0_L, ee_T, ee_R, sg_row]) (fun i => by simp [ee_O, sg_row]) (fun i => by simp [ee_U, sg_row]) (by simp [em_L, ee_D, sg_row]))
theorem st_INS_s {x : cx_T} {σ : sg_T} {i : Nat} (hi : i < 30) (v : Int32) : (ww_W x σ).set (8 + i) (x.2.2 (8 + i), .inr (0, (ee_I x σ i).set 2 (.int v))) = ww_W x (sg_up σ 3 i v) := by
  unfold ww_W
  rw [wl_set (by omega)]
  exact congrArg _ (eu_I (j := i) hi (by simp [ee_I, sg_up]) (fun j hj => by simp [ee_I, sg_up, hj]) (by simp [e0_L, ee_T, ee_R, sg_row]) (fun i => by simp [ee_O, sg_row]) (fun i => by simp [ee_U, sg_row]) (by simp [em_L, ee_D, sg_row]))
theorem st_INS_b {x : cx_T} {σ : sg_T} {i : Nat} (hi : i < 30) (v : Int32) : (ww_W x σ).set (8 + i) (x.2.2 (8 + i), .inr (0, (ee_I x σ i).set 3 (.int v))) = ww_W x (sg_up σ 4 i v) := by
  unfold ww_W
  rw [wl_set (by omega)]
  exact congrArg _ (eu_I (j := i) hi (by simp [ee_I, sg_up]) (fun j hj => by simp [ee_I, sg_up, hj]) (by simp [e0_L, ee_T, ee_R, sg_row]) (fun i => by simp [ee_O, sg_row]) (fun i => by simp [ee_U, sg_row]) (by simp [em_L, ee_D, sg_row]))
theorem st_INS_n {x : cx_T} {σ : sg_T} {i : Nat} (hi : i < 30) (v : Int32) : (ww_W x σ).set (8 + i) (x.2.2 (8 + i), .inr (0, (ee_I x σ i).set 4 (.int v))) = ww_W x (sg_up σ 5 i v) := by
  unfold ww_W
  rw [wl_set (by omega)]
  exact congrArg _ (eu_I (j := i) hi (by simp [ee_I, sg_up]) (fun j hj => by simp [ee_I, sg_up, hj]) (by simp [e0_L, ee_T, ee_R, sg_row]) (fun i => by simp [ee_O, sg_row]) (fun i => by simp [ee_U, sg_row]) (by simp [em_L, ee_D, sg_row]))
theorem st_OPD_value {x : cx_T} {σ : sg_T} {i : Nat} (hi : i < 31) (v : Int32) : (ww_W x σ).set (38 + i) (x.2.2 (38 + i), .inr (1, (ee_O x σ i).set 0 (.int v))) = ww_W x (sg_up σ 6 i v) := by
  unfold ww_W
  rw [wl_set (by omega)]
  exact congrArg _ (eu_O (j := i) hi (by simp [ee_O, sg_up]) (fun j hj => by simp [ee_O, sg_up, hj]) (by simp [e0_L, ee_T, ee_R, sg_row]) (fun i => by simp [ee_I, sg_row]) (fun i => by simp [ee_U, sg_row]) (by simp [em_L, ee_D, sg_row]))
theorem st_OPD_awaited {x : cx_T} {σ : sg_T} {i : Nat} (hi : i < 31) (v : Int32) : (ww_W x σ).set (38 + i) (x.2.2 (38 + i), .inr (1, (ee_O x σ i).set 1 (.int v))) = ww_W x (sg_up σ 7 i v) := by
  unfold ww_W
  rw [wl_set (by omega)]
  exact congrArg _ (eu_O (j := i) hi (by simp [ee_O, sg_up]) (fun j hj => by simp [ee_O, sg_up, hj]) (by simp [e0_L, ee_T, ee_R, sg_row]) (fun i => by simp [ee_I, sg_row]) (fun i => by simp [ee_U, sg_row]) (by simp [em_L, ee_D, sg_row]))
theorem st_UNI_state {x : cx_T} {σ : sg_T} {i : Nat} (hi : i < 13) (v : Int32) : (ww_W x σ).set (69 + i) (x.2.2 (69 + i), .inr (3, (ee_U x σ i).set 2 (.int v))) = ww_W x (sg_up σ 12 i v) := by
  unfold ww_W
  rw [wl_set (by omega)]
  exact congrArg _ (eu_U (j := i) hi (by simp [ee_U, sg_up]) (fun j hj => by simp [ee_U, sg_up, hj]) (by simp [e0_L, ee_T, ee_R, sg_row]) (fun i => by simp [ee_I, sg_row]) (fun i => by simp [ee_O, sg_row]) (by simp [em_L, ee_D, sg_row]))
theorem st_UNI_op {x : cx_T} {σ : sg_T} {i : Nat} (hi : i < 13) (v : Int32) : (ww_W x σ).set (69 + i) (x.2.2 (69 + i), .inr (3, (ee_U x σ i).set 3 (.int v))) = ww_W x (sg_up σ 13 i v) := by
  unfold ww_W
  rw [wl_set (by omega)]
  exact congrArg _ (eu_U (j := i) hi (by simp [ee_U, sg_up]) (fun j hj => by simp [ee_U, sg_up, hj]) (by simp [e0_L, ee_T, ee_R, sg_row]) (fun i => by simp [ee_I, sg_row]) (fun i => by simp [ee_O, sg_row]) (by simp [em_L, ee_D, sg_row]))
theorem st_UNI_address {x : cx_T} {σ : sg_T} {i : Nat} (hi : i < 13) (v : Int32) : (ww_W x σ).set (69 + i) (x.2.2 (69 + i), .inr (3, (ee_U x σ i).set 4 (.int v))) = ww_W x (sg_up σ 17 i v) := by
  unfold ww_W
  rw [wl_set (by omega)]
  exact congrArg _ (eu_U (j := i) hi (by simp [ee_U, sg_up]) (fun j hj => by simp [ee_U, sg_up, hj]) (by simp [e0_L, ee_T, ee_R, sg_row]) (fun i => by simp [ee_I, sg_row]) (fun i => by simp [ee_O, sg_row]) (by simp [em_L, ee_D, sg_row]))
theorem st_UNI_order {x : cx_T} {σ : sg_T} {i : Nat} (hi : i < 13) (v : Int32) : (ww_W x σ).set (69 + i) (x.2.2 (69 + i), .inr (3, (ee_U x σ i).set 5 (.int v))) = ww_W x (sg_up σ 18 i v) := by
  unfold ww_W
  rw [wl_set (by omega)]
  exact congrArg _ (eu_U (j := i) hi (by simp [ee_U, sg_up]) (fun j hj => by simp [ee_U, sg_up, hj]) (by simp [e0_L, ee_T, ee_R, sg_row]) (fun i => by simp [ee_I, sg_row]) (fun i => by simp [ee_O, sg_row]) (by simp [em_L, ee_D, sg_row]))
theorem st_UNI_toGo {x : cx_T} {σ : sg_T} {i : Nat} (hi : i < 13) (v : Int32) : (ww_W x σ).set (69 + i) (x.2.2 (69 + i), .inr (3, (ee_U x σ i).set 6 (.int v))) = ww_W x (sg_up σ 14 i v) := by
  unfold ww_W
  rw [wl_set (by omega)]
  exact congrArg _ (eu_U (j := i) hi (by simp [ee_U, sg_up]) (fun j hj => by simp [ee_U, sg_up, hj]) (by simp [e0_L, ee_T, ee_R, sg_row]) (fun i => by simp [ee_I, sg_row]) (fun i => by simp [ee_O, sg_row]) (by simp [em_L, ee_D, sg_row]))
theorem st_UNI_result {x : cx_T} {σ : sg_T} {i : Nat} (hi : i < 13) (v : Int32) : (ww_W x σ).set (69 + i) (x.2.2 (69 + i), .inr (3, (ee_U x σ i).set 7 (.int v))) = ww_W x (sg_up σ 15 i v) := by
  unfold ww_W
  rw [wl_set (by omega)]
  exact congrArg _ (eu_U (j := i) hi (by simp [ee_U, sg_up]) (fun j hj => by simp [ee_U, sg_up, hj]) (by simp [e0_L, ee_T, ee_R, sg_row]) (fun i => by simp [ee_I, sg_row]) (fun i => by simp [ee_O, sg_row]) (by simp [em_L, ee_D, sg_row]))
theorem st_UNI_raised {x : cx_T} {σ : sg_T} {i : Nat} (hi : i < 13) (v : Int32) : (ww_W x σ).set (69 + i) (x.2.2 (69 + i), .inr (3, (ee_U x σ i).set 8 (.int v))) = ww_W x (sg_up σ 16 i v) := by
  unfold ww_W
  rw [wl_set (by omega)]
  exact congrArg _ (eu_U (j := i) hi (by simp [ee_U, sg_up]) (fun j hj => by simp [ee_U, sg_up, hj]) (by simp [e0_L, ee_T, ee_R, sg_row]) (fun i => by simp [ee_I, sg_row]) (fun i => by simp [ee_O, sg_row]) (by simp [em_L, ee_D, sg_row]))
theorem st_integers {x : cx_T} {σ : sg_T} (i : Nat) (v : Int32) : (ww_W x σ).set 3 (x.2.2 3, .inl (x.2.1 0, 4, .inl (upd (σ 10) i v))) = ww_W x (sg_up σ 10 i v) := by
  unfold ww_W
  rw [wl_set (by decide)]
  have q : sg_up σ 10 i v 10 = upd (σ 10) i v := by
    funext a
    simp [sg_up, upd]
  exact congrArg _ (eu_0 (j := 3) (by decide) (by simp [e0_L, ee_T, ee_R, sg_row, q]) (fun i => by simp [ee_I, sg_row]) (fun i => by simp [ee_O, sg_row]) (fun i => by simp [ee_U, sg_row]) (by simp [em_L, ee_D, sg_row]))
theorem st_words {x : cx_T} {σ : sg_T} (i : Nat) (v : Int32) : (ww_W x σ).set 4 (x.2.2 4, .inl (x.2.1 0, 32, .inl (upd (σ 11) i v))) = ww_W x (sg_up σ 11 i v) := by
  unfold ww_W
  rw [wl_set (by decide)]
  have q : sg_up σ 11 i v 11 = upd (σ 11) i v := by
    funext a
    simp [sg_up, upd]
  exact congrArg _ (eu_0 (j := 4) (by decide) (by simp [e0_L, ee_T, ee_R, sg_row, q]) (fun i => by simp [ee_I, sg_row]) (fun i => by simp [ee_O, sg_row]) (fun i => by simp [ee_U, sg_row]) (by simp [em_L, ee_D, sg_row]))
theorem st_bankInUse {x : cx_T} {σ : sg_T} (i : Nat) (v : Int32) : (ww_W x σ).set 6 (x.2.2 6, .inl (x.2.1 1, 8, .inl (upd (σ 19) i v))) = ww_W x (sg_up σ 19 i v) := by
  unfold ww_W
  rw [wl_set (by decide)]
  have q : sg_up σ 19 i v 19 = upd (σ 19) i v := by
    funext a
    simp [sg_up, upd]
  exact congrArg _ (eu_0 (j := 6) (by decide) (by simp [e0_L, ee_T, ee_R, sg_row, q]) (fun i => by simp [ee_I, sg_row]) (fun i => by simp [ee_O, sg_row]) (fun i => by simp [ee_U, sg_row]) (by simp [em_L, ee_D, sg_row]))
theorem st_m_op {x : cx_T} {σ : sg_T} (i : Nat) (v : Int32) : (ww_W x σ).set 83 (x.2.2 83, .inl (x.2.1 0, 30, .inl (upd (σ 31) i v))) = ww_W x (sg_up σ 31 i v) := by
  unfold ww_W
  rw [wl_set (by decide)]
  have q : sg_up σ 31 i v 31 = upd (σ 31) i v := by
    funext a
    simp [sg_up, upd]
  exact congrArg _ (eu_M (j := 1) (by decide) (by simp [em_L, ee_D, sg_row, q]) (by simp [e0_L, ee_T, ee_R, sg_row]) (fun i => by simp [ee_I, sg_row]) (fun i => by simp [ee_O, sg_row]) (fun i => by simp [ee_U, sg_row]))
theorem st_m_rs {x : cx_T} {σ : sg_T} (i : Nat) (v : Int32) : (ww_W x σ).set 84 (x.2.2 84, .inl (x.2.1 0, 30, .inl (upd (σ 32) i v))) = ww_W x (sg_up σ 32 i v) := by
  unfold ww_W
  rw [wl_set (by decide)]
  have q : sg_up σ 32 i v 32 = upd (σ 32) i v := by
    funext a
    simp [sg_up, upd]
  exact congrArg _ (eu_M (j := 2) (by decide) (by simp [em_L, ee_D, sg_row, q]) (by simp [e0_L, ee_T, ee_R, sg_row]) (fun i => by simp [ee_I, sg_row]) (fun i => by simp [ee_O, sg_row]) (fun i => by simp [ee_U, sg_row]))
theorem st_m_ss {x : cx_T} {σ : sg_T} (i : Nat) (v : Int32) : (ww_W x σ).set 85 (x.2.2 85, .inl (x.2.1 0, 30, .inl (upd (σ 33) i v))) = ww_W x (sg_up σ 33 i v) := by
  unfold ww_W
  rw [wl_set (by decide)]
  have q : sg_up σ 33 i v 33 = upd (σ 33) i v := by
    funext a
    simp [sg_up, upd]
  exact congrArg _ (eu_M (j := 3) (by decide) (by simp [em_L, ee_D, sg_row, q]) (by simp [e0_L, ee_T, ee_R, sg_row]) (fun i => by simp [ee_I, sg_row]) (fun i => by simp [ee_O, sg_row]) (fun i => by simp [ee_U, sg_row]))
theorem st_m_bs {x : cx_T} {σ : sg_T} (i : Nat) (v : Int32) : (ww_W x σ).set 86 (x.2.2 86, .inl (x.2.1 0, 30, .inl (upd (σ 34) i v))) = ww_W x (sg_up σ 34 i v) := by
  unfold ww_W
  rw [wl_set (by decide)]
  have q : sg_up σ 34 i v 34 = upd (σ 34) i v := by
    funext a
    simp [sg_up, upd]
  exact congrArg _ (eu_M (j := 4) (by decide) (by simp [em_L, ee_D, sg_row, q]) (by simp [e0_L, ee_T, ee_R, sg_row]) (fun i => by simp [ee_I, sg_row]) (fun i => by simp [ee_O, sg_row]) (fun i => by simp [ee_U, sg_row]))
theorem st_m_ns {x : cx_T} {σ : sg_T} (i : Nat) (v : Int32) : (ww_W x σ).set 87 (x.2.2 87, .inl (x.2.1 0, 30, .inl (upd (σ 35) i v))) = ww_W x (sg_up σ 35 i v) := by
  unfold ww_W
  rw [wl_set (by decide)]
  have q : sg_up σ 35 i v 35 = upd (σ 35) i v := by
    funext a
    simp [sg_up, upd]
  exact congrArg _ (eu_M (j := 5) (by decide) (by simp [em_L, ee_D, sg_row, q]) (by simp [e0_L, ee_T, ee_R, sg_row]) (fun i => by simp [ee_I, sg_row]) (fun i => by simp [ee_O, sg_row]) (fun i => by simp [ee_U, sg_row]))
theorem st_m_value {x : cx_T} {σ : sg_T} (i : Nat) (v : Int32) : (ww_W x σ).set 88 (x.2.2 88, .inl (x.2.1 0, 5, .inl (upd (σ 36) i v))) = ww_W x (sg_up σ 36 i v) := by
  unfold ww_W
  rw [wl_set (by decide)]
  have q : sg_up σ 36 i v 36 = upd (σ 36) i v := by
    funext a
    simp [sg_up, upd]
  exact congrArg _ (eu_M (j := 6) (by decide) (by simp [em_L, ee_D, sg_row, q]) (by simp [e0_L, ee_T, ee_R, sg_row]) (fun i => by simp [ee_I, sg_row]) (fun i => by simp [ee_O, sg_row]) (fun i => by simp [ee_U, sg_row]))
theorem st_m_waits {x : cx_T} {σ : sg_T} (i : Nat) (v : Int32) : (ww_W x σ).set 89 (x.2.2 89, .inl (x.2.1 0, 5, .inl (upd (σ 37) i v))) = ww_W x (sg_up σ 37 i v) := by
  unfold ww_W
  rw [wl_set (by decide)]
  have q : sg_up σ 37 i v 37 = upd (σ 37) i v := by
    funext a
    simp [sg_up, upd]
  exact congrArg _ (eu_M (j := 7) (by decide) (by simp [em_L, ee_D, sg_row, q]) (by simp [e0_L, ee_T, ee_R, sg_row]) (fun i => by simp [ee_I, sg_row]) (fun i => by simp [ee_O, sg_row]) (fun i => by simp [ee_U, sg_row]))
theorem st_m_general {x : cx_T} {σ : sg_T} (i : Nat) (v : Int32) : (ww_W x σ).set 90 (x.2.2 90, .inl (x.2.1 0, 4, .inl (upd (σ 38) i v))) = ww_W x (sg_up σ 38 i v) := by
  unfold ww_W
  rw [wl_set (by decide)]
  have q : sg_up σ 38 i v 38 = upd (σ 38) i v := by
    funext a
    simp [sg_up, upd]
  exact congrArg _ (eu_M (j := 8) (by decide) (by simp [em_L, ee_D, sg_row, q]) (by simp [e0_L, ee_T, ee_R, sg_row]) (fun i => by simp [ee_I, sg_row]) (fun i => by simp [ee_O, sg_row]) (fun i => by simp [ee_U, sg_row]))
theorem st_m_words {x : cx_T} {σ : sg_T} (i : Nat) (v : Int32) : (ww_W x σ).set 91 (x.2.2 91, .inl (x.2.1 0, 32, .inl (upd (σ 39) i v))) = ww_W x (sg_up σ 39 i v) := by
  unfold ww_W
  rw [wl_set (by decide)]
  have q : sg_up σ 39 i v 39 = upd (σ 39) i v := by
    funext a
    simp [sg_up, upd]
  exact congrArg _ (eu_M (j := 9) (by decide) (by simp [em_L, ee_D, sg_row, q]) (by simp [e0_L, ee_T, ee_R, sg_row]) (fun i => by simp [ee_I, sg_row]) (fun i => by simp [ee_O, sg_row]) (fun i => by simp [ee_U, sg_row]))
theorem st_m_place {x : cx_T} {σ : sg_T} (i : Nat) (v : Int32) : (ww_W x σ).set 92 (x.2.2 92, .inl (x.2.1 0, 13, .inl (upd (σ 40) i v))) = ww_W x (sg_up σ 40 i v) := by
  unfold ww_W
  rw [wl_set (by decide)]
  have q : sg_up σ 40 i v 40 = upd (σ 40) i v := by
    funext a
    simp [sg_up, upd]
  exact congrArg _ (eu_M (j := 10) (by decide) (by simp [em_L, ee_D, sg_row, q]) (by simp [e0_L, ee_T, ee_R, sg_row]) (fun i => by simp [ee_I, sg_row]) (fun i => by simp [ee_O, sg_row]) (fun i => by simp [ee_U, sg_row]))
theorem st_m_what {x : cx_T} {σ : sg_T} (i : Nat) (v : Int32) : (ww_W x σ).set 93 (x.2.2 93, .inl (x.2.1 0, 13, .inl (upd (σ 41) i v))) = ww_W x (sg_up σ 41 i v) := by
  unfold ww_W
  rw [wl_set (by decide)]
  have q : sg_up σ 41 i v 41 = upd (σ 41) i v := by
    funext a
    simp [sg_up, upd]
  exact congrArg _ (eu_M (j := 11) (by decide) (by simp [em_L, ee_D, sg_row, q]) (by simp [e0_L, ee_T, ee_R, sg_row]) (fun i => by simp [ee_I, sg_row]) (fun i => by simp [ee_O, sg_row]) (fun i => by simp [ee_U, sg_row]))
theorem st_m_left {x : cx_T} {σ : sg_T} (i : Nat) (v : Int32) : (ww_W x σ).set 94 (x.2.2 94, .inl (x.2.1 0, 13, .inl (upd (σ 42) i v))) = ww_W x (sg_up σ 42 i v) := by
  unfold ww_W
  rw [wl_set (by decide)]
  have q : sg_up σ 42 i v 42 = upd (σ 42) i v := by
    funext a
    simp [sg_up, upd]
  exact congrArg _ (eu_M (j := 12) (by decide) (by simp [em_L, ee_D, sg_row, q]) (by simp [e0_L, ee_T, ee_R, sg_row]) (fun i => by simp [ee_I, sg_row]) (fun i => by simp [ee_O, sg_row]) (fun i => by simp [ee_U, sg_row]))
theorem st_m_gives {x : cx_T} {σ : sg_T} (i : Nat) (v : Int32) : (ww_W x σ).set 95 (x.2.2 95, .inl (x.2.1 0, 13, .inl (upd (σ 43) i v))) = ww_W x (sg_up σ 43 i v) := by
  unfold ww_W
  rw [wl_set (by decide)]
  have q : sg_up σ 43 i v 43 = upd (σ 43) i v := by
    funext a
    simp [sg_up, upd]
  exact congrArg _ (eu_M (j := 13) (by decide) (by simp [em_L, ee_D, sg_row, q]) (by simp [e0_L, ee_T, ee_R, sg_row]) (fun i => by simp [ee_I, sg_row]) (fun i => by simp [ee_O, sg_row]) (fun i => by simp [ee_U, sg_row]))
theorem st_m_notes {x : cx_T} {σ : sg_T} (i : Nat) (v : Int32) : (ww_W x σ).set 96 (x.2.2 96, .inl (x.2.1 0, 13, .inl (upd (σ 44) i v))) = ww_W x (sg_up σ 44 i v) := by
  unfold ww_W
  rw [wl_set (by decide)]
  have q : sg_up σ 44 i v 44 = upd (σ 44) i v := by
    funext a
    simp [sg_up, upd]
  exact congrArg _ (eu_M (j := 14) (by decide) (by simp [em_L, ee_D, sg_row, q]) (by simp [e0_L, ee_T, ee_R, sg_row]) (fun i => by simp [ee_I, sg_row]) (fun i => by simp [ee_O, sg_row]) (fun i => by simp [ee_U, sg_row]))
theorem st_m_operand {x : cx_T} {σ : sg_T} (i : Nat) (v : Int32) : (ww_W x σ).set 97 (x.2.2 97, .inl (x.2.1 0, 26, .inl (upd (σ 45) i v))) = ww_W x (sg_up σ 45 i v) := by
  unfold ww_W
  rw [wl_set (by decide)]
  have q : sg_up σ 45 i v 45 = upd (σ 45) i v := by
    funext a
    simp [sg_up, upd]
  exact congrArg _ (eu_M (j := 15) (by decide) (by simp [em_L, ee_D, sg_row, q]) (by simp [e0_L, ee_T, ee_R, sg_row]) (fun i => by simp [ee_I, sg_row]) (fun i => by simp [ee_O, sg_row]) (fun i => by simp [ee_U, sg_row]))
theorem st_m_tag {x : cx_T} {σ : sg_T} (i : Nat) (v : Int32) : (ww_W x σ).set 98 (x.2.2 98, .inl (x.2.1 0, 26, .inl (upd (σ 46) i v))) = ww_W x (sg_up σ 46 i v) := by
  unfold ww_W
  rw [wl_set (by decide)]
  have q : sg_up σ 46 i v 46 = upd (σ 46) i v := by
    funext a
    simp [sg_up, upd]
  exact congrArg _ (eu_M (j := 16) (by decide) (by simp [em_L, ee_D, sg_row, q]) (by simp [e0_L, ee_T, ee_R, sg_row]) (fun i => by simp [ee_I, sg_row]) (fun i => by simp [ee_O, sg_row]) (fun i => by simp [ee_U, sg_row]))
theorem st_m_where {x : cx_T} {σ : sg_T} (i : Nat) (v : Int32) : (ww_W x σ).set 99 (x.2.2 99, .inl (x.2.1 0, 13, .inl (upd (σ 47) i v))) = ww_W x (sg_up σ 47 i v) := by
  unfold ww_W
  rw [wl_set (by decide)]
  have q : sg_up σ 47 i v 47 = upd (σ 47) i v := by
    funext a
    simp [sg_up, upd]
  exact congrArg _ (eu_M (j := 17) (by decide) (by simp [em_L, ee_D, sg_row, q]) (by simp [e0_L, ee_T, ee_R, sg_row]) (fun i => by simp [ee_I, sg_row]) (fun i => by simp [ee_O, sg_row]) (fun i => by simp [ee_U, sg_row]))
theorem st_m_order {x : cx_T} {σ : sg_T} (i : Nat) (v : Int32) : (ww_W x σ).set 100 (x.2.2 100, .inl (x.2.1 0, 13, .inl (upd (σ 48) i v))) = ww_W x (sg_up σ 48 i v) := by
  unfold ww_W
  rw [wl_set (by decide)]
  have q : sg_up σ 48 i v 48 = upd (σ 48) i v := by
    funext a
    simp [sg_up, upd]
  exact congrArg _ (eu_M (j := 18) (by decide) (by simp [em_L, ee_D, sg_row, q]) (by simp [e0_L, ee_T, ee_R, sg_row]) (fun i => by simp [ee_I, sg_row]) (fun i => by simp [ee_O, sg_row]) (fun i => by simp [ee_U, sg_row]))
theorem st_m_taken {x : cx_T} {σ : sg_T} (i : Nat) (v : Int32) : (ww_W x σ).set 101 (x.2.2 101, .inl (x.2.1 1, 8, .inl (upd (σ 49) i v))) = ww_W x (sg_up σ 49 i v) := by
  unfold ww_W
  rw [wl_set (by decide)]
  have q : sg_up σ 49 i v 49 = upd (σ 49) i v := by
    funext a
    simp [sg_up, upd]
  exact congrArg _ (eu_M (j := 19) (by decide) (by simp [em_L, ee_D, sg_row, q]) (by simp [e0_L, ee_T, ee_R, sg_row]) (fun i => by simp [ee_I, sg_row]) (fun i => by simp [ee_O, sg_row]) (fun i => by simp [ee_U, sg_row]))
theorem st_out {x : cx_T} {σ : sg_T} (v : Int64) (h : v.toInt32.toInt64 = v) : (ww_W x σ).set 102 (x.2.2 102, .inl (x.2.1 5, 1, .inr (.inl (fun j => if j = 0 then v else 0)))) = ww_W x (sg_up σ 51 0 v.toInt32) := by
  unfold ww_W
  rw [wl_set (by decide)]
  exact congrArg _ (eu_M (j := 20) (by decide) (by simp [em_L, ee_D, sg_row, sg_eq, h]) (by simp [e0_L, ee_T, ee_R, sg_row]) (fun i => by simp [ee_I, sg_row]) (fun i => by simp [ee_O, sg_row]) (fun i => by simp [ee_U, sg_row]))
