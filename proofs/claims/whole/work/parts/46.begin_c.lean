/-! beginning: all -/
theorem mul_R {A B a b : sg_T} (h : m_R A B a b) : sm_S A B ((fn_TM_nextOfMultiplier a).bind (fun z5 => (fn_TM_beginStation z5.1 z5.2).bind (fun z6 => fn_TM_beginStorage z6))) (fb_MOD_begin_48 b) := by
  have q4 := h.c.uni 4 (by omega) (by omega)
  have q5 := h.c.uni 5 (by omega) (by omega)
  unfold fn_TM_nextOfMultiplier fb_MOD_begin_48
  rw [fl_45, show ib_I (4 : Int32) 13 = true from by decide, show ib_I (5 : Int32) 13 = true from by decide, gt_t, gt_t, show tn_I (4 : Int32) = 4 from by decide, show tn_I (5 : Int32) = 5 from by decide, ← q4.st, ← q5.st]
  simp only [ob_s, fb_TM_nextOfMultiplier_16, fr_45, bs_p]
  have z0 : fb_MOD_begin_68 b = fb_MOD_begin_123 b := by
    unfold fb_MOD_begin_68 fb_MOD_begin_97
    rw [if_pos (by decide)]
  have zz : sm_S A B ((fn_TM_beginStation (-1) a).bind (fun z6 => fn_TM_beginStorage z6)) (fb_MOD_begin_123 b) := by
    rw [bg_0, ob_s]
    exact sto_R h
  by_cases w4 : a 12 4 = 2
  · simp only [w4, if_true]
    rw [if_neg (show ¬ (4 : Int32) = -1 from by decide), if_neg (show ¬ (1 : Int32) = 0 from by decide), ob_s, z0]
    exact zz
  · simp only [w4, if_false]
    by_cases w5 : a 12 5 = 2
    · simp only [w5, if_true]
      rw [if_neg (show ¬ (5 : Int32) = -1 from by decide), if_neg (show ¬ (1 : Int32) = 0 from by decide), ob_s, z0]
      exact zz
    · simp only [w5, if_false, if_true]
      rw [show (4 : Int32) = nI 4 from rfl, show (5 : Int32) = nI 5 from rfl]
      simp only [rd_m h 4 (by omega) (by omega), rd_m h 5 (by omega) (by omega), ob_s]
      have one : ∀ u, (u = 4 ∨ u = 5) → r_D a u → sm_S A B ((fn_TM_beginStation (nI u) a).bind (fun z6 => fn_TM_beginStorage z6)) (fb_MOD_begin_97 (nI u) b) := by
        intro u hu hr
        have q := h.c.uni u (by omega) (by omega)
        have n0 : a 12 u ≠ 0 := by rw [hr.1]; decide
        have o5 := (q.ot n0).2.1 (by omega) (by omega)
        unfold fb_MOD_begin_97
        rw [if_neg (n_pos (by omega) (n_z (by omega) (by omega))), n_b (by omega) (by omega), gt_t, n_t (by omega), ← q.op n0]
        unfold fb_MOD_begin_120
        rcases o5 with ho | ho
        · rw [if_pos ho]
          exact sm_b (bg_R h u (by omega) (by omega) hr 4 (by rw [ho]; rfl)) (fun a b h => sto_R h)
        · rw [if_neg (by rw [ho]; decide)]
          exact sm_b (bg_R h u (by omega) (by omega) hr 8 (by rw [ho]; rfl)) (fun a b h => sto_R h)
      by_cases r4 : r_D a 4
      · simp only [r_ip r4]
        rw [if_neg (show ¬ (1 : Int32) = 0 from by decide)]
        exact one 4 (.inl rfl) r4
      · simp only [r_in r4, if_true]
        by_cases r5 : r_D a 5
        · simp only [r_ip r5]
          rw [if_neg (show ¬ (1 : Int32) = 0 from by decide)]
          exact one 5 (.inr rfl) r5
        · simp only [r_in r5, if_true]
          unfold fb_MOD_begin_97
          rw [if_pos (by decide)]
          exact zz
theorem beg_R {A B a b : sg_T} (h : m_R A B a b) : sm_S A B ((fn_TM_firstReady 1 3 a).bind (fun z3 => (fn_TM_beginStation z3.1 z3.2).bind (fun z4 => (fn_TM_nextOfMultiplier z4).bind (fun z5 => (fn_TM_beginStation z5.1 z5.2).bind (fun z6 => fn_TM_beginStorage z6))))) (fn_MOD_begin b) := by
  rw [fr_13]
  unfold fn_MOD_begin
  rw [show (1 : Int32) = nI 1 from rfl, show (2 : Int32) = nI 2 from rfl, show (3 : Int32) = nI 3 from rfl]
  simp only [rd_m h 1 (by omega) (by omega), rd_m h 2 (by omega) (by omega), rd_m h 3 (by omega) (by omega), ob_s]
  have one : ∀ u, (1 ≤ u ∧ u ≤ 3) → r_D a u → sm_S A B ((fn_TM_beginStation (nI u) a).bind (fun z4 => (fn_TM_nextOfMultiplier z4).bind (fun z5 => (fn_TM_beginStation z5.1 z5.2).bind (fun z6 => fn_TM_beginStorage z6)))) (fb_MOD_begin_37 (nI u) b) := by
    intro u hu hr
    have q := h.c.uni u (by omega) (by omega)
    have n0 : a 12 u ≠ 0 := by rw [hr.1]; decide
    have o3 := (q.ot n0).1 (by omega)
    unfold fb_MOD_begin_37
    rw [if_neg (n_pos (by omega) (n_z (by omega) (by omega)))]
    exact sm_b (bg_R h u (by omega) (by omega) hr 2 (by rcases o3 with ho | ho | ho <;> rw [ho] <;> rfl)) (fun a b h => mul_R h)
  by_cases r1 : r_D a 1
  · simp only [r_ip r1]
    rw [if_neg (show ¬ (1 : Int32) = 0 from by decide)]
    exact one 1 (by omega) r1
  · simp only [r_in r1, if_true]
    by_cases r2 : r_D a 2
    · simp only [r_ip r2]
      rw [if_neg (show ¬ (1 : Int32) = 0 from by decide)]
      exact one 2 (by omega) r2
    · simp only [r_in r2, if_true]
      by_cases r3 : r_D a 3
      · simp only [r_ip r3]
        rw [if_neg (show ¬ (1 : Int32) = 0 from by decide)]
        exact one 3 (by omega) r3
      · simp only [r_in r3, if_true]
        unfold fb_MOD_begin_37
        rw [if_pos (by decide), show -nI 1 = (-1 : Int32) from rfl, bg_0, ob_s]
        exact mul_R h
