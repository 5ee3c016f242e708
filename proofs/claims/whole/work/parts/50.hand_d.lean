/-! handing out: at once -/
theorem onc_R {A B a b : sg_T} (h : m_R A B a b) (h3 : b 30 3 = 0) (h5 : b 30 5 = 0) (i : Nat) (hi : i < 30) (e4 : a 0 4 = nI i) (k : Nat) (hk7 : 7 ≤ k) (hk : k < 13) (ek : a 1 i = nI k) : sm_S A B ((fn_TM_doAtOnce i a).bind (fun z => fb_TM_handOut_71 z.1 z.2)) (if nI k = (11 : Int32) then if b 37 4 = 0 then fb_MOD_handOut_96 (nI i) (nI k) (b 32 i) 1 b else fb_MOD_handOut_96 (nI i) (nI k) (b 32 i) 0 b else fb_MOD_handOut_96 (nI i) (nI k) (b 32 i) 1 b) := by
  have I := h.c.ins i hi
  obtain ⟨R, hR, eR, eR2⟩ := I.r
  obtain ⟨S, hS, eS, eS2⟩ := I.s
  have md0 : a 0 3 = 0 := by rw [h.md, if_pos h5, h3]
  have eq : ∀ j : Nat, j < 13 → (nI k = nI j ↔ k = j) := fun j hj => n_eq (by omega) (by omega)
  have e11 : (nI k = (11 : Int32)) ↔ k = 11 := eq 11 (by omega)
  have e7 : (nI k = (7 : Int32)) ↔ k = 7 := eq 7 (by omega)
  have e8 : (nI k = (8 : Int32)) ↔ k = 8 := eq 8 (by omega)
  have e9 : (nI k = (9 : Int32)) ↔ k = 9 := eq 9 (by omega)
  have e10 : (nI k = (10 : Int32)) ↔ k = 10 := eq 10 (by omega)
  have e12 : (nI k = (12 : Int32)) ↔ k = 12 := eq 12 (by omega)
  have t4 : tn_I (4 : Int32) = 4 := by decide
  have i4 : ib_I (4 : Int32) 5 = true := by decide
  have bR5 : ib_I (nI R) 5 = true := n_b (by omega) (by omega)
  have bS5 : ib_I (nI S) 5 = true := n_b (by omega) (by omega)
  have bR4 : ib_I (nI R) 4 = true := n_b (by omega) (by omega)
  have bS4 : ib_I (nI S) 4 = true := n_b (by omega) (by omega)
  have bi : ib_I (nI i) 30 = true := n_b (by omega) (by omega)
  have tR : tn_I (nI R) = R := n_t (by omega)
  have tS : tn_I (nI S) = S := n_t (by omega)
  have ti : tn_I (nI i) = i := n_t (by omega)
  have rR := h.c.rt R (by omega)
  have vR := h.c.rv R (by omega)
  have rS := h.c.rt S (by omega)
  have vS := h.c.rv S (by omega)
  have gR := h.c.gen R hR
  have gS := h.c.gen S hS
  have wt : ∀ r, r < 5 → ∀ x : sg_T, x 7 r = a 7 r → x 7 r ≠ 0 → ∃ s, s < 5 ∧ x 7 r = a 7 s := fun r hr x hx _ => ⟨r, hr, hx⟩
  unfold fn_TM_doAtOnce
  rw [ek]
  have cs : k = 7 ∨ k = 8 ∨ k = 9 ∨ k = 10 ∨ k = 11 ∨ k = 12 := by omega
  rcases cs with c | c | c | c | c | c
  · -- MOVE
    subst c
    rw [if_neg (show ¬ nI 7 = (11 : Int32) from by decide), if_neg (show ¬ nI 7 = (11 : Int32) from by decide)]
    have c1 : fb_TM_doAtOnce_23 i a = some (1, sg_up (cp_O a R S) 0 4 (a 0 4 + 1)) := by
      unfold fb_TM_doAtOnce_23
      rw [ek, if_pos (show nI 7 = 7 from rfl), eR, eS, bR5, gt_t, bS5, gt_t, tR, tS, cp_e]
      simp only [ob_s]
      rfl
    have c2 : fb_MOD_handOut_96 (nI i) (nI 7) (b 32 i) 1 b = some (sg_up (sg_up (sg_up (sg_up b 30 7 (b 30 7 + 1)) 30 4 (b 30 4 + 1)) 36 R (if b 37 S = 0 then b 36 S else b 36 R)) 37 R (b 37 S)) := by
      unfold fb_MOD_handOut_96 fb_MOD_handOut_169
      rw [if_neg (show ¬ (1 : Int32) = 0 from by decide), if_pos (show nI 7 = 7 from rfl), eR2]
      simp [sg_a, bi, ti, eS2, bS5, tS, bR5, tR, gt_t]
      split <;> rfl
    rw [c1, c2]
    simp only [ob_s]
    unfold fb_TM_handOut_71
    rw [if_neg (by decide)]
    have x0 : ∀ r c, ¬ (r = 6 ∧ c = R) → ¬ (r = 7 ∧ c = R) → cp_O a R S r c = a r c := fun r c n6 n7 => cp_0 n6 n7
    have x7 : cp_O a R S 7 R = a 7 S := cp_7
    have x6 : cp_O a R S 6 R = if a 7 S = 0 then a 6 S else a 6 R := by
      unfold cp_O
      by_cases h0 : a 7 S = 0
      · rw [if_pos h0, if_pos h0, sg_ne (by omega), sg_eq]
      · rw [if_neg h0, if_neg h0, sg_ne (by omega)]
    generalize cp_O a R S = x at x0 x7 x6
    refine sm_0 (gc0 h ?_ ?_ ?_ ?_ ?_ ?_ ?_ ?_ ?_ ?_ ?_)
    · intro r c hr
      rw [sg_ne (by omega), sg_ne (by omega), x0 r c (by omega) (by omega)]
    · intro r c hr
      rw [sg_ne (by omega), sg_ne (by omega), sg_ne (by omega), sg_ne (by omega)]
    · simp [sg_a]; rw [h.c.nxt]
    · simp [sg_a]; rw [x0 0 5 (by omega) (by omega)]; exact h.c.ntd
    · simp [sg_a]; rw [x0 0 7 (by omega) (by omega), h.c.hnd]
    · intro r hr
      simp [sg_a]
      by_cases hrR : r = R
      · rw [hrR, x6, if_pos rfl, ← rS, ← vS, ← vR]
      · rw [x0 6 r (by omega) (by omega), if_neg hrR]; exact h.c.rv r hr
    · intro r hr
      simp [sg_a]
      by_cases hrR : r = R
      · rw [hrR, x7, if_pos rfl, ← rS]
      · rw [x0 7 r (by omega) (by omega), if_neg hrR]; exact h.c.rt r hr
    · intro r hr
      simp [sg_a]
      rw [x0 10 r (by omega) (by omega)]; exact h.c.gen r hr
    · intro r hr _
      simp only [sg_a]
      by_cases hrR : r = R
      · exact ⟨S, by omega, by rw [hrR]; simp [x7]⟩
      · exact ⟨r, hr, by simp [x0 7 r (by omega) (by omega)]⟩
    · simp [sg_a]; exact h.sm
    · simp [sg_a]; rw [x0 0 3 (by omega) (by omega)]; exact h.md
  · -- SET
    subst c
    rw [if_neg (show ¬ nI 8 = (11 : Int32) from by decide), if_neg (show ¬ nI 8 = (11 : Int32) from by decide)]
    have c1 : fb_TM_doAtOnce_23 i a = some (1, sg_up (sg_up a 10 R (a 5 i)) 0 4 (a 0 4 + 1)) := by
      unfold fb_TM_doAtOnce_23
      rw [ek, if_neg (show ¬ nI 8 = 7 from by decide), if_pos (show nI 8 = 8 from rfl), eR, bR4, gt_t, tR]
      rfl
    have c2 : fb_MOD_handOut_96 (nI i) (nI 8) (b 32 i) 1 b = some (sg_up (sg_up (sg_up b 30 7 (b 30 7 + 1)) 30 4 (b 30 4 + 1)) 38 R (b 35 i)) := by
      unfold fb_MOD_handOut_96
      rw [if_neg (show ¬ (1 : Int32) = 0 from by decide), if_neg (show ¬ nI 8 = 7 from by decide), if_pos (show nI 8 = 8 from rfl), eR2]
      simp [sg_a, bi, ti, bR4, tR, gt_t]
    rw [c1, c2]
    simp only [ob_s]
    unfold fb_TM_handOut_71
    rw [if_neg (by decide)]
    refine sm_0 (gc0 h ?_ ?_ ?_ ?_ ?_ ?_ ?_ ?_ ?_ ?_ ?_)
    · intro r c hr
      rw [sg_ne (by omega), sg_ne (by omega), sg_ne (by omega)]
    · intro r c hr
      rw [sg_ne (by omega), sg_ne (by omega), sg_ne (by omega)]
    · simp [sg_a]; rw [h.c.nxt]
    · simp [sg_a]; exact h.c.ntd
    · simp [sg_a]; rw [h.c.hnd]
    · intro r hr; simp [sg_a]; exact h.c.rv r hr
    · intro r hr; simp [sg_a]; exact h.c.rt r hr
    · intro r hr; simp [sg_a]; rw [h.c.gen r hr, I.n]
    · intro r hr; exact wt r hr _ (by simp [sg_a])
    · simp [sg_a]; exact h.sm
    · simp [sg_a]; exact h.md
  · -- ADDN
    subst c
    rw [if_neg (show ¬ nI 9 = (11 : Int32) from by decide), if_neg (show ¬ nI 9 = (11 : Int32) from by decide)]
    have c1 : fb_TM_doAtOnce_23 i a = some (1, sg_up (sg_up a 10 R (a 10 S + a 5 i)) 0 4 (a 0 4 + 1)) := by
      unfold fb_TM_doAtOnce_23
      rw [ek, if_neg (show ¬ nI 9 = 7 from by decide), if_neg (show ¬ nI 9 = 8 from by decide), if_pos (show nI 9 = 9 from rfl), eR, eS, bR4, gt_t, bS4, gt_t, tR, tS]
      rfl
    have c2 : fb_MOD_handOut_96 (nI i) (nI 9) (b 32 i) 1 b = some (sg_up (sg_up (sg_up b 30 7 (b 30 7 + 1)) 30 4 (b 30 4 + 1)) 38 R (b 38 S + b 35 i)) := by
      unfold fb_MOD_handOut_96
      rw [if_neg (show ¬ (1 : Int32) = 0 from by decide), if_neg (show ¬ nI 9 = 7 from by decide), if_neg (show ¬ nI 9 = 8 from by decide), if_pos (show nI 9 = 9 from rfl), eR2]
      simp [sg_a, bi, ti, eS2, bS4, tS, bR4, tR, gt_t]
    rw [c1, c2]
    simp only [ob_s]
    unfold fb_TM_handOut_71
    rw [if_neg (by decide)]
    refine sm_0 (gc0 h ?_ ?_ ?_ ?_ ?_ ?_ ?_ ?_ ?_ ?_ ?_)
    · intro r c hr
      rw [sg_ne (by omega), sg_ne (by omega), sg_ne (by omega)]
    · intro r c hr
      rw [sg_ne (by omega), sg_ne (by omega), sg_ne (by omega)]
    · simp [sg_a]; rw [h.c.nxt]
    · simp [sg_a]; exact h.c.ntd
    · simp [sg_a]; rw [h.c.hnd]
    · intro r hr; simp [sg_a]; exact h.c.rv r hr
    · intro r hr; simp [sg_a]; exact h.c.rt r hr
    · intro r hr; simp [sg_a]; rw [h.c.gen r hr, I.n, gS]
    · intro r hr; exact wt r hr _ (by simp [sg_a])
    · simp [sg_a]; exact h.sm
    · simp [sg_a]; exact h.md
  · -- COUNT
    subst c
    rw [if_neg (show ¬ nI 10 = (11 : Int32) from by decide), if_neg (show ¬ nI 10 = (11 : Int32) from by decide)]
    have c1 : fb_TM_doAtOnce_23 i a = some (1, sg_up (sg_up a 10 R (a 10 R - 1)) 0 4 (if a 10 R - 1 = 0 then a 0 4 + 1 else a 5 i)) := by
      unfold fb_TM_doAtOnce_23
      rw [ek, if_neg (show ¬ nI 10 = 7 from by decide), if_neg (show ¬ nI 10 = 8 from by decide), if_neg (show ¬ nI 10 = 9 from by decide), if_pos (show nI 10 = 10 from rfl), eR, bR4, gt_t, gt_t, tR]
      rw [sg_ne (by omega), eR, bR4, gt_t, tR, sg_eq]
      unfold fb_TM_doAtOnce_167 fb_TM_doAtOnce_212
      rw [sg_ne (by omega)]
      split <;> rfl
    have c2 : fb_MOD_handOut_96 (nI i) (nI 10) (b 32 i) 1 b = some (sg_up (sg_up (sg_up (sg_up b 30 7 (b 30 7 + 1)) 30 4 (b 30 4 + 1)) 38 R (b 38 R - 1)) 30 4 (if b 38 R - 1 = 0 then b 30 4 + 1 else b 35 i)) := by
      unfold fb_MOD_handOut_96
      rw [if_neg (show ¬ (1 : Int32) = 0 from by decide), if_neg (show ¬ nI 10 = 7 from by decide), if_neg (show ¬ nI 10 = 8 from by decide), if_neg (show ¬ nI 10 = 9 from by decide), if_pos (show nI 10 = 10 from rfl), eR2]
      simp [sg_a, bi, ti, bR4, tR, gt_t]
      split <;> rfl
    rw [c1, c2]
    simp only [ob_s]
    unfold fb_TM_handOut_71
    rw [if_neg (by decide)]
    refine sm_0 (gc0 h ?_ ?_ ?_ ?_ ?_ ?_ ?_ ?_ ?_ ?_ ?_)
    · intro r c hr
      rw [sg_ne (by omega), sg_ne (by omega), sg_ne (by omega)]
    · intro r c hr
      rw [sg_ne (by omega), sg_ne (by omega), sg_ne (by omega), sg_ne (by omega)]
    · simp [sg_a]; rw [h.c.nxt, gR, I.n]
    · simp [sg_a]; exact h.c.ntd
    · simp [sg_a]; rw [h.c.hnd]
    · intro r hr; simp [sg_a]; exact h.c.rv r hr
    · intro r hr; simp [sg_a]; exact h.c.rt r hr
    · intro r hr; simp [sg_a]; rw [h.c.gen r hr, gR]
    · intro r hr; exact wt r hr _ (by simp [sg_a])
    · simp [sg_a]; exact h.sm
    · simp [sg_a]; exact h.md
  · -- IF
    subst c
    rw [if_pos (show nI 11 = (11 : Int32) from rfl), if_pos (show nI 11 = (11 : Int32) from rfl), i4, gt_t, t4]
    unfold fn_OPD_isAwaited
    rw [← h.c.rt 4 (by omega)]
    by_cases w4 : a 7 4 = 0
    · rw [if_pos w4, if_pos w4]
      simp only [ob_s, if_true]
      have v4 := h.c.rv 4 (by omega)
      have c1 : fb_TM_doAtOnce_23 i a = some (1, sg_up a 0 4 (if nI R = 3 ∨ nI R = a 6 4 then a 5 i else a 0 4 + 1)) := by
        unfold fb_TM_doAtOnce_23
        rw [ek, if_neg (show ¬ nI 11 = 7 from by decide), if_neg (show ¬ nI 11 = 8 from by decide), if_neg (show ¬ nI 11 = 9 from by decide), if_neg (show ¬ nI 11 = 10 from by decide), if_pos (show nI 11 = 11 from rfl), eR, i4, gt_t, t4]
        unfold fb_TM_doAtOnce_195 fb_TM_doAtOnce_203 fb_TM_doAtOnce_212
        by_cases r3 : nI R = 3
        · simp [r3]
        · by_cases r4 : nI R = a 6 4 <;> simp [r3, r4]
      have c2 : fb_MOD_handOut_96 (nI i) (nI 11) (b 32 i) 1 b = some (sg_up (sg_up (sg_up b 30 7 (b 30 7 + 1)) 30 4 (b 30 4 + 1)) 30 4 (if nI R = 3 ∨ nI R = b 36 4 then b 35 i else b 30 4 + 1)) := by
        unfold fb_MOD_handOut_96 fb_MOD_handOut_311
        rw [if_neg (show ¬ (1 : Int32) = 0 from by decide), if_neg (show ¬ nI 11 = 7 from by decide), if_neg (show ¬ nI 11 = 8 from by decide), if_neg (show ¬ nI 11 = 9 from by decide), if_neg (show ¬ nI 11 = 10 from by decide), if_pos (show nI 11 = 11 from rfl), eR2]
        simp only [sg_a, bi, ti, i4, t4, gt_t]
        by_cases r3 : nI R = 3
        · simp [r3]
        · by_cases r4 : b 36 4 = nI R
          · simp [r3, r4]
          · have r4' : ¬ nI R = b 36 4 := fun h => r4 h.symm
            simp [r3, r4, r4']
      rw [c1, c2]
      simp only [ob_s]
      unfold fb_TM_handOut_71
      rw [if_neg (by decide)]
      refine sm_0 (gc0 h ?_ ?_ ?_ ?_ ?_ ?_ ?_ ?_ ?_ ?_ ?_)
      · intro r c hr
        rw [sg_ne (by omega), sg_ne (by omega)]
      · intro r c hr
        rw [sg_ne (by omega), sg_ne (by omega), sg_ne (by omega)]
      · simp [sg_a]; rw [h.c.nxt, v4, I.n]
      · simp [sg_a]; exact h.c.ntd
      · simp [sg_a]; rw [h.c.hnd]
      · intro r hr; simp [sg_a]; exact h.c.rv r hr
      · intro r hr; simp [sg_a]; exact h.c.rt r hr
      · intro r hr; simp [sg_a]; exact h.c.gen r hr
      · intro r hr; exact wt r hr _ (by simp [sg_a])
      · simp [sg_a]; exact h.sm
      · simp [sg_a]; exact h.md
    · rw [if_neg w4, if_neg w4]
      simp only [ob_s]
      rw [if_neg (show ¬ (1 : Int32) = 0 from by decide)]
      simp only [ob_s]
      unfold fb_TM_handOut_71 fb_MOD_handOut_96
      rw [if_pos rfl, if_pos rfl]
      exact sm_0 h
  · -- HALT
    subst c
    rw [if_neg (show ¬ nI 12 = (11 : Int32) from by decide), if_neg (show ¬ nI 12 = (11 : Int32) from by decide)]
    have c1 : fb_TM_doAtOnce_23 i a = some (1, sg_up (sg_up a 0 3 1) 0 4 (a 0 4 + 1)) := by
      unfold fb_TM_doAtOnce_23
      rw [ek, if_neg (show ¬ nI 12 = 7 from by decide), if_neg (show ¬ nI 12 = 8 from by decide), if_neg (show ¬ nI 12 = 9 from by decide), if_neg (show ¬ nI 12 = 10 from by decide), if_neg (show ¬ nI 12 = 11 from by decide)]
      rfl
    have c2 : fb_MOD_handOut_96 (nI i) (nI 12) (b 32 i) 1 b = some (sg_up (sg_up (sg_up b 30 7 (b 30 7 + 1)) 30 4 (b 30 4 + 1)) 30 3 1) := by
      unfold fb_MOD_handOut_96
      rw [if_neg (show ¬ (1 : Int32) = 0 from by decide), if_neg (show ¬ nI 12 = 7 from by decide), if_neg (show ¬ nI 12 = 8 from by decide), if_neg (show ¬ nI 12 = 9 from by decide), if_neg (show ¬ nI 12 = 10 from by decide), if_neg (show ¬ nI 12 = 11 from by decide), if_pos (show nI 12 = 12 from rfl), sg_ne (by omega)]
    rw [c1, c2]
    simp only [ob_s]
    unfold fb_TM_handOut_71
    rw [if_neg (by decide)]
    refine sm_0 (gc0 h ?_ ?_ ?_ ?_ ?_ ?_ ?_ ?_ ?_ ?_ ?_)
    · intro r c hr
      rw [sg_ne (by omega), sg_ne (by omega), sg_ne (by omega)]
    · intro r c hr
      rw [sg_ne (by omega), sg_ne (by omega), sg_ne (by omega)]
    · simp [sg_a]; rw [h.c.nxt]
    · simp [sg_a]; exact h.c.ntd
    · simp [sg_a]; rw [h.c.hnd]
    · intro r hr; simp [sg_a]; exact h.c.rv r hr
    · intro r hr; simp [sg_a]; exact h.c.rt r hr
    · intro r hr; simp [sg_a]; exact h.c.gen r hr
    · intro r hr; exact wt r hr _ (by simp [sg_a])
    · simp [sg_a]
    · simp [sg_a]
theorem hand_R {A B a b : sg_T} (h : m_R A B a b) (h3 : b 30 3 = 0) (h5 : b 30 5 = 0) : sm_S A B (fn_TM_handOut a) (fn_MOD_handOut b) := by
  obtain ⟨M, hM, Ma, Mb⟩ := h.c.many
  unfold fn_TM_handOut fn_MOD_handOut fn_TM_isInstruction
  rw [← h.c.nxt, Ma, Mb]
  have bad : sm_S A B ((fn_TM_note 16 a).bind (fun z11 => some z11)) (fb_MOD_handOut_18 b) := by
    unfold fn_TM_note fb_MOD_handOut_18
    rw [if_neg (show ¬ (16 : Int32) = 0 from by decide)]
    exact sm_0 (nt_R h 16 (by decide))
  by_cases x0 : a 0 4 < 0
  · rw [if_pos x0, if_pos x0]
    simp only [ob_s, if_true]
    exact bad
  · rw [if_neg x0, if_neg x0]
    by_cases x1 : nI M ≤ a 0 4
    · rw [if_pos x1, if_neg (show ¬ a 0 4 < nI M from by rw [Int32.not_lt]; exact x1)]
      simp only [ob_s, if_true]
      exact bad
    · obtain ⟨i, hi, ei⟩ := n_rng (by omega) x0 x1
      have I := h.c.ins i (by omega)
      obtain ⟨k, hk, ek, ek2⟩ := I.op
      rw [if_neg x1, if_pos (show a 0 4 < nI M from by rw [← Int32.not_le]; exact x1)]
      simp only [ob_s]
      rw [if_neg (show ¬ (1 : Int32) = 0 from by decide), ei, n_b (k := i) (by omega) (by omega), gt_t, gt_t, gt_t, n_t (k := i) (by omega), ek, ek2]
      have u0 : fn_TM_usesStorage (nI k) a = some (if k < 2 then 1 else 0, a) := by
        unfold fn_TM_usesStorage
        by_cases k0 : k = 0
        · subst k0; rfl
        · rw [if_neg (n_z (by omega) k0)]
          by_cases k1 : k = 1
          · subst k1; rfl
          · rw [if_neg (show ¬ nI k = (1 : Int32) from fun h => k1 ((n_eq (by omega) (by omega) : nI k = nI 1 ↔ _).1 h)), if_neg (by omega)]
      rw [u0]
      simp only [ob_s]
      by_cases k2 : k < 2
      · rw [if_neg (show ¬ (2 : Int32) ≤ nI k from fun h => by have := (n_le (by omega) (by omega) : nI 2 ≤ nI k ↔ _).1 h; omega), if_pos k2, if_neg (show ¬ (1 : Int32) = 0 from by decide)]
        exact buf_R h h3 h5 i (by omega) k k2 ek
      · rw [if_pos (show (2 : Int32) ≤ nI k from (n_le (by omega) (by omega) : nI 2 ≤ nI k ↔ _).2 (by omega)), if_neg k2, if_pos rfl]
        rw [ek]
        by_cases k6 : 6 < k
        · rw [if_pos (show (6 : Int32) < nI k from (n_lt (by omega) (by omega) : nI 6 < nI k ↔ _).2 k6), if_pos (show (6 : Int32) < nI k from (n_lt (by omega) (by omega) : nI 6 < nI k ↔ _).2 k6), show ib_I (4 : Int32) 5 = true from by decide, gt_t, show tn_I (4 : Int32) = 4 from by decide]
          unfold fb_MOD_handOut_91
          exact onc_R h h3 h5 i (by omega) ei k (by omega) hk ek
        · rw [if_neg (show ¬ (6 : Int32) < nI k from fun h => k6 ((n_lt (by omega) (by omega) : nI 6 < nI k ↔ _).1 h)), if_neg (show ¬ (6 : Int32) < nI k from fun h => k6 ((n_lt (by omega) (by omega) : nI 6 < nI k ↔ _).1 h))]
          exact sta_R h i (by omega) k (by omega) (by omega) ek
