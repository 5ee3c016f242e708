/-! calls: start, set, store, reckon, exceptions, run -/
def lw_b (z1 : tr_T) : Option (Int32 × sg_T) := if z1.1 = 0 then if z1.2.1 = 0 then gt_d (ib_I (0 : Int32) 1) (gt_d (decide ((0 : Int64).toInt32.toInt64 = (0 : Int64))) (some ((0 : Int32), sg_up z1.2.2 51 0 (0 : Int64).toInt32))) else gt_d (ib_I (0 : Int32) 1) (gt_d (decide ((1 : Int64).toInt32.toInt64 = (1 : Int64))) (some ((0 : Int32), sg_up z1.2.2 51 0 (1 : Int64).toInt32))) else if z1.1 = 1 then some ((1 : Int32), z1.2.2) else if z1.1 = 2 then some ((2 : Int32), z1.2.2) else none
theorem lw_st (a1 : Int32) (σ : sg_T) : fn_LAW_start a1 σ = (fn_TM_start a1 σ).bind lw_b := rfl
theorem lw_se (a1 a2 : Int32) (σ : sg_T) : fn_LAW_set a1 a2 σ = (fn_TM_set a1 a2 σ).bind lw_b := rfl
theorem lw_so (a1 a2 : Int32) (σ : sg_T) : fn_LAW_store a1 a2 σ = (fn_TM_store a1 a2 σ).bind lw_b := rfl
theorem lw_ru (a1 : Int32) (σ : sg_T) : fn_LAW_run a1 σ = (fn_TM_run a1 σ).bind lw_w := rfl
def lw_r (z1 : tr_T) : Option (Int32 × sg_T) := if z1.1 = 0 then gt_d (ib_I (0 : Int32) 1) (gt_d (decide (z1.2.1.toInt64.toInt32.toInt64 = z1.2.1.toInt64)) (some ((0 : Int32), sg_up z1.2.2 51 0 z1.2.1.toInt64.toInt32))) else if z1.1 = 1 then some ((1 : Int32), z1.2.2) else none
theorem lw_re (a1 a2 a3 : Int32) (σ : sg_T) : fn_LAW_reckon a1 a2 a3 σ = (fn_TM_reckon a1 a2 a3 σ).bind lw_r := rfl
theorem lw_ex (a1 a2 a3 : Int32) (σ : sg_T) : fn_LAW_exceptions a1 a2 a3 σ = (fn_TM_exceptions a1 a2 a3 σ).bind lw_r := rfl
theorem lw_b_0 (σ : sg_T) : lw_b (0, 1, σ) = some (0, sg_up σ 51 0 1) := by
  unfold lw_b
  rw [if_pos rfl, if_neg (show ¬ (1 : Int32) = 0 from by decide), i01, gt_t, l_g1]
  rfl
theorem lw_b_1 (v : Int32) (σ : sg_T) : lw_b (1, v, σ) = some (1, σ) := by
  unfold lw_b
  rw [if_neg (Nat.succ_ne_zero 0), if_pos rfl]
theorem lw_b_2 (v : Int32) (σ : sg_T) : lw_b (2, v, σ) = some (2, σ) := by
  unfold lw_b
  rw [if_neg (show ¬ (2 : Nat) = 0 by decide), if_neg (show ¬ (2 : Nat) = 1 by decide), if_pos rfl]
theorem lw_r_0 (v : Int32) (σ : sg_T) : lw_r (0, v, σ) = some (0, sg_up σ 51 0 v) := by
  unfold lw_r
  rw [if_pos rfl, i01, gt_t, l_gd, l_rt]
theorem lw_r_1 (v : Int32) (σ : sg_T) : lw_r (1, v, σ) = some (1, σ) := by
  unfold lw_r
  rw [if_neg (Nat.succ_ne_zero 0), if_pos rfl]
theorem u_sc {σ σ' : sg_T} {t : Nat} (h : u_R σ σ t) (f : ∀ r c, 6 ≤ r → r ≠ 10 → r ≠ 11 → r ≠ 30 → r ≠ 36 → r ≠ 37 → r ≠ 38 → r ≠ 39 → r ≠ 51 → ¬ ((r = 6 ∨ r = 7) ∧ c < 5) → σ' r c = σ r c) (h1 : 1 ≤ t) : u_R σ' σ' t :=
  u_eq h (fun r c hr => f r c (by omega) (by omega) (by omega) (by omega) (by omega) (by omega) (by omega) (by omega) (by omega) (by omega)) (fun r c hr => f r c (by omega) (by omega) (by omega) (by omega) (by omega) (by omega) (by omega) (by omega) (by omega) (by omega))
theorem start_O {σ : sg_T} (h : iv σ) (a1 : Int32) : l_O (fn_LAW_start a1 σ) (fn_MOD_start a1) := by
  obtain ⟨M, hM, Ma, Mb⟩ := h.c.many
  rw [lw_st]
  unfold fn_TM_start fn_MOD_start fn_TM_isInstruction
  have r1 : ∀ z : Int32, z = 1 ∨ z = 2 → fb_MOD_start_29 a1 z σ = some (0, sg_up σ 30 9 z) := by
    intro z hz
    unfold fb_MOD_start_29
    rw [sg_eq, if_neg (by rcases hz with h | h <;> rw [h] <;> decide)]
  by_cases x0 : a1 < 0
  · simp only [x0, if_true, ob_s, lw_b_1]
    exact ref_O h 1 (by decide) _ _ 0 rfl (r1 1 (.inl rfl))
  simp only [x0, if_false]
  rw [Ma]
  by_cases x1 : nI M ≤ a1
  · simp only [x1, if_true, ob_s, lw_b_1]
    refine ref_O h 1 (by decide) _ _ 0 rfl ?_
    show (if a1 < σ 30 2 then _ else _) = _
    rw [Mb, if_neg (show ¬ a1 < nI M from by rw [Int32.not_lt]; exact x1)]
    exact r1 1 (.inl rfl)
  simp only [x1, if_false, ob_s]
  have x2 : a1 < nI M := by rw [← Int32.not_le]; exact x1
  rw [if_neg (show ¬ (1 : Int32) = 0 from by decide), bz_c, ob_s]
  by_cases hz : σ 0 3 = 0 ∨ σ 0 3 = 1
  · simp only [hz, if_true]
    rw [if_neg (show ¬ (1 : Int32) = 0 from by decide), ob_s, lw_b_2]
    refine ref_O h 2 (by decide) _ _ 0 rfl ?_
    show (if a1 < σ 30 2 then _ else _) = _
    rw [Mb, if_pos x2, bz_m, ob_s, ← h.md]
    simp only [hz, if_true]
    rw [if_neg (show ¬ (1 : Int32) = 0 from by decide)]
    exact r1 2 (.inr rfl)
  · simp only [hz, if_false, if_true, ob_s, lw_b_0]
    refine ⟨0, _, 1, sg_up (sg_up (sg_up (sg_up (sg_up (sg_up (sg_up (sg_up σ 0 4 a1) 0 5 0) 0 3 0) 51 0 1) 30 9 0) 30 4 a1) 30 5 0) 30 3 0, rfl, ?_, ?_, ?_, ?_⟩
    · show (if a1 < (sg_up (sg_up (sg_up (sg_up σ 0 4 a1) 0 5 0) 0 3 0) 51 0 1) 30 2 then _ else _) = _
      rw [show (sg_up (sg_up (sg_up (sg_up σ 0 4 a1) 0 5 0) 0 3 0) 51 0 1) 30 2 = nI M from by simp [sg_a]; exact Mb, if_pos x2, bz_m, ob_s]
      rw [show (sg_up (sg_up (sg_up (sg_up σ 0 4 a1) 0 5 0) 0 3 0) 51 0 1) 30 3 = σ 0 3 from by simp [sg_a]; exact h.md.symm, if_neg hz, if_pos rfl]
      unfold fb_MOD_start_29
      rw [sg_eq, if_pos (by decide)]
    · simp [sg_a]
    · simp [sg_a]
    · refine ⟨⟨fun _ _ _ => rfl, fun _ _ _ => rfl, rfl, ?_, ?_, ?_, ?_, ?_, ?_, ?_, ?_, ?_, ?_, ?_, ?_, ?_, ?_⟩, ?_, ?_, ?_, ?_, ?_⟩
      · simp [sg_a]; exact h.c.bank
      · simp [sg_a]; exact h.c.lat
      · simp [sg_a]; exact h.c.many
      · simp [sg_a]
      · simp [sg_a]
      · simp [sg_a]; exact h.c.hnd
      · intro i hi
        have q := h.c.ins i hi
        refine ⟨?_, ?_, ?_, ?_, ?_⟩ <;> simp [sg_a]
        · exact q.op
        · exact q.r
        · exact q.s
        · exact q.bb
        · exact q.n
      · intro r hr; simp [sg_a]; exact h.c.rv r hr
      · intro r hr; simp [sg_a]; exact h.c.rt r hr
      · intro r hr; simp [sg_a]; exact h.c.gen r hr
      · intro r hr; simp [sg_a]; exact h.c.wrd r hr
      · intro r hr; simp [sg_a]; exact h.c.bnk r hr
      · intro u hu1 hu2
        refine u_sc (h.c.uni u hu1 hu2) (fun r c _ _ _ _ _ _ _ _ _ _ => ?_) hu1
        rw [sg_ne (by omega), sg_ne (by omega), sg_ne (by omega), sg_ne (by omega), sg_ne (by omega), sg_ne (by omega), sg_ne (by omega), sg_ne (by omega)]
      · intro r hr; simp [sg_a]; exact h.c.wts r hr
      · simp [sg_a]
      · exact ⟨0, by omega, by simp [sg_a]; rfl⟩
      · simp [sg_a]
      · simp [sg_a]
      · simp [sg_a]; exact h.cy
theorem set_O {σ : sg_T} (h : iv σ) (a1 a2 : Int32) : l_O (fn_LAW_set a1 a2 σ) (fn_MOD_set a1 a2) := by
  rw [lw_se]
  unfold fn_TM_set fn_MOD_set
  have r1 : ∀ z : Int32, z = 1 ∨ z = 2 → fb_MOD_set_24 a1 a2 z σ = some (0, sg_up σ 30 9 z) := by
    intro z hz
    unfold fb_MOD_set_24
    rw [sg_eq, if_neg (by rcases hz with h | h <;> rw [h] <;> decide)]
  rcases rg_R a1 with ⟨R, hR, eR, rc, rm⟩ | ⟨rc, rm⟩
  rotate_left
  · simp only [rc, rm, ob_s, if_true, lw_b_1]
    exact ref_O h 1 (by decide) _ _ 0 rfl (r1 1 (.inl rfl))
  simp only [rc, rm, ob_s, if_neg (show ¬ (1 : Int32) = 0 from by decide), bz_c, bz_m]
  by_cases hz : σ 0 3 = 0 ∨ σ 0 3 = 1
  · simp only [hz, if_true]
    rw [if_neg (show ¬ (1 : Int32) = 0 from by decide), ob_s, lw_b_2]
    refine ref_O h 2 (by decide) _ _ 0 rfl ?_
    show (if (if σ 30 3 = 0 ∨ σ 30 3 = 1 then (1 : Int32) else 0) = 0 then _ else _) = _
    rw [← h.md]
    simp only [hz, if_true]
    rw [if_neg (show ¬ (1 : Int32) = 0 from by decide)]
    exact r1 2 (.inr rfl)
  · have z7 : σ 7 R = 0 := by
      apply Classical.byContradiction
      intro hy
      obtain ⟨t', w1, w2, w3, w4⟩ := h.c.wts R (by omega) hy
      exact w4 (h.fr (fun e => hz (.inl e)) (fun e => hz (.inr e)) t' w1 (by omega))
    simp only [hz, if_false, if_true]
    unfold fn_OPD_haveValue
    rw [eR, n_b (k := R) (by omega) (by omega), gt_t, n_t (k := R) (by omega)]
    simp only [ob_s, lw_b_0]
    refine ⟨0, _, 1, sg_up (sg_up (sg_up (sg_up (sg_up σ 6 R a2) 7 R 0) 51 0 1) 30 9 0) 36 R a2, rfl, ?_, ?_, ?_, ?_⟩
    · show (if (if (sg_up (sg_up (sg_up σ 6 R a2) 7 R 0) 51 0 1) 30 3 = 0 ∨ (sg_up (sg_up (sg_up σ 6 R a2) 7 R 0) 51 0 1) 30 3 = 1 then (1 : Int32) else 0) = 0 then _ else _) = _
      rw [show (sg_up (sg_up (sg_up σ 6 R a2) 7 R 0) 51 0 1) 30 3 = σ 0 3 from by simp [sg_a]; exact h.md.symm, if_neg hz, if_pos rfl]
      unfold fb_MOD_set_24
      rw [sg_eq, if_pos (by decide), n_b (k := R) (by omega) (by omega), gt_t, n_t (k := R) (by omega)]
    · simp [sg_a]
    · simp [sg_a]
    · refine ⟨⟨fun _ _ _ => rfl, fun _ _ _ => rfl, rfl, ?_, ?_, ?_, ?_, ?_, ?_, ?_, ?_, ?_, ?_, ?_, ?_, ?_, ?_⟩, ?_, ?_, ?_, ?_, ?_⟩
      · simp [sg_a]; exact h.c.bank
      · simp [sg_a]; exact h.c.lat
      · simp [sg_a]; exact h.c.many
      · simp [sg_a]; exact h.c.nxt
      · simp [sg_a]; exact h.c.ntd
      · simp [sg_a]; exact h.c.hnd
      · intro i hi
        have q := h.c.ins i hi
        refine ⟨?_, ?_, ?_, ?_, ?_⟩ <;> simp [sg_a]
        · exact q.op
        · exact q.r
        · exact q.s
        · exact q.bb
        · exact q.n
      · intro r hr; simp [sg_a]; rw [h.c.rv r hr]
      · intro r hr
        simp [sg_a]
        by_cases hrR : r = R
        · rw [if_pos hrR, hrR, ← h.c.rt R (by omega), z7]
        · rw [if_neg hrR]; exact h.c.rt r hr
      · intro r hr; simp [sg_a]; exact h.c.gen r hr
      · intro r hr; simp [sg_a]; exact h.c.wrd r hr
      · intro r hr; simp [sg_a]; exact h.c.bnk r hr
      · intro u hu1 hu2
        refine u_sc (h.c.uni u hu1 hu2) (fun r c _ _ _ _ _ _ _ _ _ _ => ?_) hu1
        rw [sg_ne (by omega), sg_ne (by omega), sg_ne (by omega), sg_ne (by omega), sg_ne (by omega)]
      · intro r hr
        simp [sg_a]
        intro hrR h0
        obtain ⟨t', w1, w2, w3, w4⟩ := h.c.wts r hr h0
        exact ⟨t', w1, w2, by rw [if_neg hrR]; exact w3, w4⟩
      · simp [sg_a]; exact h.md
      · simp [sg_a]; exact h.mr
      · simp [sg_a]; exact h.nn
      · simp [sg_a]; exact h.fr
      · simp [sg_a]; exact h.cy
theorem store_O {σ : sg_T} (h : iv σ) (a1 a2 : Int32) : l_O (fn_LAW_store a1 a2 σ) (fn_MOD_store a1 a2) := by
  rw [lw_so]
  unfold fn_TM_store fn_MOD_store
  have r1 : ∀ z : Int32, z = 1 ∨ z = 2 → fb_MOD_store_24 a1 a2 z σ = some (0, sg_up σ 30 9 z) := by
    intro z hz
    unfold fb_MOD_store_24
    rw [sg_eq, if_neg (by rcases hz with h | h <;> rw [h] <;> decide)]
  rcases pl_R a1 with ⟨R, hR, eR, rc, rm⟩ | ⟨rc, rm⟩
  rotate_left
  · simp only [rc, rm, ob_s, if_true, lw_b_1]
    exact ref_O h 1 (by decide) _ _ 0 rfl (r1 1 (.inl rfl))
  simp only [rc, rm, ob_s, if_neg (show ¬ (1 : Int32) = 0 from by decide), bz_c, bz_m]
  by_cases hz : σ 0 3 = 0 ∨ σ 0 3 = 1
  · simp only [hz, if_true]
    rw [if_neg (show ¬ (1 : Int32) = 0 from by decide), ob_s, lw_b_2]
    refine ref_O h 2 (by decide) _ _ 0 rfl ?_
    show (if (if σ 30 3 = 0 ∨ σ 30 3 = 1 then (1 : Int32) else 0) = 0 then _ else _) = _
    rw [← h.md]
    simp only [hz, if_true]
    rw [if_neg (show ¬ (1 : Int32) = 0 from by decide)]
    exact r1 2 (.inr rfl)
  · simp only [hz, if_false, if_true]
    rw [eR, n_b (k := R) (by omega) (by omega), gt_t, n_t (k := R) (by omega)]
    simp only [ob_s, lw_b_0]
    refine ⟨0, _, 1, sg_up (sg_up (sg_up (sg_up σ 11 R a2) 51 0 1) 30 9 0) 39 R a2, rfl, ?_, ?_, ?_, ?_⟩
    · show (if (if (sg_up (sg_up σ 11 R a2) 51 0 1) 30 3 = 0 ∨ (sg_up (sg_up σ 11 R a2) 51 0 1) 30 3 = 1 then (1 : Int32) else 0) = 0 then _ else _) = _
      rw [show (sg_up (sg_up σ 11 R a2) 51 0 1) 30 3 = σ 0 3 from by simp [sg_a]; exact h.md.symm, if_neg hz, if_pos rfl]
      unfold fb_MOD_store_24
      rw [sg_eq, if_pos (by decide), n_b (k := R) (by omega) (by omega), gt_t, n_t (k := R) (by omega)]
    · simp [sg_a]
    · simp [sg_a]
    · refine ⟨⟨fun _ _ _ => rfl, fun _ _ _ => rfl, rfl, ?_, ?_, ?_, ?_, ?_, ?_, ?_, ?_, ?_, ?_, ?_, ?_, ?_, ?_⟩, ?_, ?_, ?_, ?_, ?_⟩
      · simp [sg_a]; exact h.c.bank
      · simp [sg_a]; exact h.c.lat
      · simp [sg_a]; exact h.c.many
      · simp [sg_a]; exact h.c.nxt
      · simp [sg_a]; exact h.c.ntd
      · simp [sg_a]; exact h.c.hnd
      · intro i hi
        have q := h.c.ins i hi
        refine ⟨?_, ?_, ?_, ?_, ?_⟩ <;> simp [sg_a]
        · exact q.op
        · exact q.r
        · exact q.s
        · exact q.bb
        · exact q.n
      · intro r hr; simp [sg_a]; exact h.c.rv r hr
      · intro r hr; simp [sg_a]; exact h.c.rt r hr
      · intro r hr; simp [sg_a]; exact h.c.gen r hr
      · intro r hr; simp [sg_a]; rw [h.c.wrd r hr]
      · intro r hr; simp [sg_a]; exact h.c.bnk r hr
      · intro u hu1 hu2
        refine u_sc (h.c.uni u hu1 hu2) (fun r c _ _ _ _ _ _ _ _ _ _ => ?_) hu1
        rw [sg_ne (by omega), sg_ne (by omega), sg_ne (by omega), sg_ne (by omega)]
      · intro r hr; simp [sg_a]; exact h.c.wts r hr
      · simp [sg_a]; exact h.md
      · simp [sg_a]; exact h.mr
      · simp [sg_a]; exact h.nn
      · simp [sg_a]; exact h.fr
      · simp [sg_a]; exact h.cy
theorem kn_R (a1 : Int32) : ((∀ a, fn_REC_knows a1 a = some (0, a)) ∧ (a1 < 0 ∨ ¬ a1 < 0 ∧ ¬ a1 ≤ 4)) ∨ ((∀ a, fn_REC_knows a1 a = some (1, a)) ∧ ¬ a1 < 0 ∧ a1 ≤ 4) := by
  unfold fn_REC_knows
  have e : (4 : Int32) < a1 ↔ ¬ a1 ≤ 4 := by rw [Int32.not_le]
  simp only [e]
  by_cases h0 : a1 < 0
  · simp only [h0, if_true]
    exact .inl ⟨fun _ => trivial, .inl trivial⟩
  · by_cases h1 : a1 ≤ 4
    · exact .inr ⟨fun a => by rw [if_neg h0, if_neg (fun h => h h1)], h0, h1⟩
    · exact .inl ⟨fun a => by rw [if_neg h0, if_pos h1], .inr ⟨h0, h1⟩⟩
theorem reckon_O {σ : sg_T} (h : iv σ) (a1 a2 a3 : Int32) : l_O (fn_LAW_reckon a1 a2 a3 σ) (fn_MOD_reckon a1 a2 a3) := by
  rw [lw_re]
  unfold fn_TM_reckon
  have no : fb_MOD_reckon_10 a1 a2 a3 σ = some (0, sg_up σ 30 9 1) := by
    unfold fb_MOD_reckon_10 fb_MOD_reckon_15
    rw [sg_eq, if_neg (by decide)]
  rcases kn_R a1 with ⟨kc, hm⟩ | ⟨kc, h0, h4⟩
  · simp only [kc, ob_s, if_true, lw_r_1]
    refine ref_O h 1 (by decide) _ _ 0 rfl ?_
    unfold fn_MOD_reckon
    rcases hm with hm | ⟨hm, hm2⟩
    · rw [if_pos hm]; exact no
    · rw [if_neg hm, if_neg hm2]; exact no
  · obtain ⟨V, E, a', b', e1, e2, ⟨k1, k2, k3, k4, k5⟩, _⟩ := rk_b a1 a2 a3 σ σ
    simp only [kc, ob_s, if_neg (show ¬ (1 : Int32) = 0 from by decide), e1, k1, lw_r_0]
    obtain ⟨V2, E2, a2', b2, f1, f2, ⟨j1, j2, j3, j4, j5⟩, _⟩ := rk_b a1 a2 a3 σ (sg_up (sg_up a' 51 0 V) 30 9 0)
    have ev : V2 = V := by
      rw [e1] at f1
      cases f1
      rw [← j1, k1]
    subst ev
    refine ⟨0, _, V2, b2, rfl, ?_, ?_, ?_, ?_⟩
    · unfold fn_MOD_reckon fb_MOD_reckon_15
      rw [if_neg h0, if_pos h4, sg_eq, if_pos (by decide), bs_p]
      exact f2
    · rw [j5 30 9 (by omega) (by omega), sg_eq]
    · intro _
      rw [j5 51 0 (by omega) (by omega), sg_ne (by omega), sg_eq]
    · refine x_tr h (fun r c hr => ?_) (fun r c h1 h2 h3 => ?_)
      · rw [j5 r c (by omega) (by omega), sg_ne (by omega), sg_ne (by omega), k4 r c (by omega)]
      · rw [j5 r c (by omega) (by omega), sg_ne (by omega), sg_ne (by omega), k4 r c (by omega)]
theorem exceptions_O {σ : sg_T} (h : iv σ) (a1 a2 a3 : Int32) : l_O (fn_LAW_exceptions a1 a2 a3 σ) (fn_MOD_exceptions a1 a2 a3) := by
  rw [lw_ex]
  unfold fn_TM_exceptions
  have no : fb_MOD_exceptions_10 a1 a2 a3 σ = some (0, sg_up σ 30 9 1) := by
    unfold fb_MOD_exceptions_10 fb_MOD_exceptions_15
    rw [sg_eq, if_neg (by decide)]
  rcases kn_R a1 with ⟨kc, hm⟩ | ⟨kc, h0, h4⟩
  · simp only [kc, ob_s, if_true, lw_r_1]
    refine ref_O h 1 (by decide) _ _ 0 rfl ?_
    unfold fn_MOD_exceptions
    rcases hm with hm | ⟨hm, hm2⟩
    · rw [if_pos hm]; exact no
    · rw [if_neg hm, if_neg hm2]; exact no
  · obtain ⟨V, E, a', b', e1, e2, ⟨k1, k2, k3, k4, k5⟩, kE⟩ := rk_b a1 a2 a3 σ σ
    simp only [kc, ob_s, if_neg (show ¬ (1 : Int32) = 0 from by decide), e1, k2, lw_r_0]
    obtain ⟨V2, E2, a2', b2, f1, f2, ⟨j1, j2, j3, j4, j5⟩, jE⟩ := rk_b a1 a2 a3 σ (sg_up (sg_up a' 51 0 E) 30 9 0)
    have ev : E2 = E := by
      rw [e1] at f1
      cases f1
      rw [← j2, k2]
    subst ev
    refine ⟨0, _, E2, b2, rfl, ?_, ?_, ?_, ?_⟩
    · unfold fn_MOD_exceptions fb_MOD_exceptions_15
      rw [if_neg h0, if_pos h4, sg_eq, if_pos (by decide), f2, ob_s]
      simp only [j3]
      by_cases a4 : a1 = 4
      · rw [if_pos a4, jE a4]
        split <;> rfl
      · rw [if_neg a4]
    · rw [j5 30 9 (by omega) (by omega), sg_eq]
    · intro _
      rw [j5 51 0 (by omega) (by omega), sg_ne (by omega), sg_eq]
    · refine x_tr h (fun r c hr => ?_) (fun r c h1 h2 h3 => ?_)
      · rw [j5 r c (by omega) (by omega), sg_ne (by omega), sg_ne (by omega), k4 r c (by omega)]
      · rw [j5 r c (by omega) (by omega), sg_ne (by omega), sg_ne (by omega), k4 r c (by omega)]
theorem run_O {σ : sg_T} (h : iv σ) (a1 : Int32) : l_O (fn_LAW_run a1 σ) (fn_MOD_run a1) := by
  rw [lw_ru]
  unfold fn_TM_run fn_MOD_run
  have r1 : ∀ z : Int32, z = 1 ∨ z = 2 → fb_MOD_run_29 a1 z σ = some (0, sg_up σ 30 9 z) := by
    intro z hz
    unfold fb_MOD_run_29 fb_MOD_run_34
    rw [sg_eq, if_neg (by rcases hz with h | h <;> rw [h] <;> decide)]
  by_cases x0 : a1 < 1
  · simp only [x0, if_true, ob_s, lw_w1]
    exact ref_O h 1 (by decide) _ _ 0 rfl (r1 1 (.inl rfl))
  simp only [x0, if_false]
  by_cases x1 : a1 ≤ 300
  rotate_left
  · simp only [x1, if_false, ob_s, lw_w1]
    exact ref_O h 1 (by decide) _ _ 0 rfl (r1 1 (.inl rfl))
  simp only [x1, if_true, bz_c, bz_m, ob_s]
  by_cases hz : σ 0 3 = 0 ∨ σ 0 3 = 1
  rotate_left
  · simp only [hz, if_false, if_true, ob_s, lw_w2]
    refine ref_O h 2 (by decide) _ _ 0 rfl ?_
    show (if (if σ 30 3 = 0 ∨ σ 30 3 = 1 then (1 : Int32) else 0) = 0 then _ else _) = _
    rw [← h.md]
    simp only [hz, if_false, if_true]
    exact r1 2 (.inr rfl)
  simp only [hz, if_true]
  rw [if_neg (show ¬ (1 : Int32) = 0 from by decide)]
  obtain ⟨N, hN, eN⟩ : ∃ N, N < 301 ∧ a1 = nI N := by
    have z0 : ¬ a1 < 0 := fun h => x0 (by
      rw [Int32.lt_iff_toInt_lt] at h ⊢
      have e0 : (0 : Int32).toInt = 0 := by decide
      have e1 : (1 : Int32).toInt = 1 := by decide
      omega)
    refine n_rng (M := 301) (by omega) z0 (fun h => ?_)
    rw [Int32.le_iff_toInt_le] at h x1
    have e0 : (300 : Int32).toInt = 300 := by decide
    have e1 : (nI 301).toInt = 301 := by decide
    omega
  subst eN
  have xb : ∀ b : sg_T, (∀ r c, 30 ≤ r → r ≤ 49 → ¬ (r = 30 ∧ 8 ≤ c) → b r c = σ r c) → x_R σ b σ b := fun b hb => x_tr h (fun _ _ _ => rfl) hb
  obtain ⟨v, a', b', e1, e2, h1⟩ := run_l (A := σ) (B := sg_up σ 30 9 0) (sg_eq _ _ _ _) N (by omega) N 0 (by omega) 302 (by omega) σ (sg_up σ 30 9 0) (xb _ (fun r c _ _ _ => sg_ne (by omega)))
  have e1 : fb_TM_run_37 302 (nI N) 0 σ = some (0, v, a') := e1
  rw [e1, ob_s, lw_w0]
  have bs : ∀ r c, 30 ≤ r → r ≤ 49 → ¬ (r = 30 ∧ 8 ≤ c) → (sg_up (sg_up a' 51 0 v) 30 9 0) r c = σ r c := by
    intro r c h2 h3 h4
    rw [sg_ne (by omega), sg_ne (by omega)]
    exact h1.c.fa r c (by omega)
  obtain ⟨v2, a2, b2, f1, f2, h2⟩ := run_l (A := σ) (B := sg_up (sg_up a' 51 0 v) 30 9 0) (sg_eq _ _ _ _) N (by omega) N 0 (by omega) 302 (by omega) σ (sg_up (sg_up a' 51 0 v) 30 9 0) (xb _ bs)
  have f1 : fb_TM_run_37 302 (nI N) 0 σ = some (0, v2, a2) := f1
  rw [e1] at f1
  cases f1
  refine ⟨0, _, v, b2, rfl, ?_, ?_, ?_, ?_⟩
  · show (if (if (sg_up a' 51 0 v) 30 3 = 0 ∨ (sg_up a' 51 0 v) 30 3 = 1 then (1 : Int32) else 0) = 0 then _ else _) = _
    rw [show (sg_up a' 51 0 v) 30 3 = σ 0 3 from by
      rw [sg_ne (by omega), h1.c.fa 30 3 (by omega)]
      exact h.md.symm]
    simp only [hz, if_true]
    rw [if_neg (show ¬ (1 : Int32) = 0 from by decide)]
    exact f2
  · rw [h2.c.ft, sg_eq]
  · intro _
    rw [h2.c.fb 51 0 (.inr rfl), sg_ne (by omega), sg_eq]
  · refine x_tr h2 (fun r c hr => ?_) (fun _ _ _ _ _ => rfl)
    rw [h2.c.fb r c (.inl (by omega)), sg_ne (by omega), sg_ne (by omega)]
