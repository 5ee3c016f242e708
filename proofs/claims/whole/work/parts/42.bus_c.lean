/-! the bus: the two machines stay side by side -/
theorem n_pos {k : Nat} (hk : k < 64) (h : nI k ≠ 0) : ¬ nI k ≤ 0 := fun h1 => h (by
  have := (n_le hk (by omega) : nI k ≤ nI 0 ↔ _).1 h1
  rw [show k = 0 from by omega]
  rfl)
theorem sd_R {A B a b : sg_T} (h : m_R A B a b) (t : Nat) (h1 : 1 ≤ t) (h2 : t ≤ 9) (h3 : a 12 t = 3) : sm_S A B (fn_TM_send (nI t) a) (fb_MOD_bus_44 27 (nI t) 0 b) := by
  have ut := h.c.uni t h1 (by omega)
  obtain ⟨rv, rn⟩ := ut.re h2 (.inr h3)
  have t0 : nI t ≠ 0 := fun h => by have := (n_eq (by omega) (by omega) : nI t = nI 0 ↔ _).1 h; omega
  rw [sd_c t h1 h2, sd_m t h1 h2, ← rv, ← rn]
  generalize a 15 t = v
  generalize a 16 t = e
  have hA : ∃ a', fn_TM_note e (sg_up (h_A (p_V 5) (nI t) v a) 12 t 0) = some a' ∧ (∀ r c, r ≠ 0 → r ≠ 6 → r ≠ 7 → r ≠ 12 → a' r c = a r c) ∧ (∀ c, c ≠ 3 → c ≠ 5 → a' 0 c = a 0 c) ∧ a' 0 3 = (if e = 0 then a 0 3 else 1) ∧ a' 0 5 = a 0 5 ||| e ∧ (∀ u, a' 12 u = if u = t then 0 else a 12 u) ∧ (∀ c, (7 ≤ c ∧ c < 31) ∨ c < 5 → a' 6 c = if a 7 c = nI t then v else a 6 c) ∧ (∀ c, (7 ≤ c ∧ c < 31) ∨ c < 5 → a' 7 c = if a 7 c = nI t then 0 else a 7 c) := by
    have y6 : ∀ c, (7 ≤ c ∧ c < 31) ∨ c < 5 → h_A (p_V 5) (nI t) v a 6 c = if a 7 c = nI t then v else a 6 c := by
      intro c hc
      unfold h_A p_V
      simp only [decide_eq_true hc, true_and, if_true]
    have y7 : ∀ c, (7 ≤ c ∧ c < 31) ∨ c < 5 → h_A (p_V 5) (nI t) v a 7 c = if a 7 c = nI t then 0 else a 7 c := by
      intro c hc
      unfold h_A p_V
      simp only [decide_eq_true hc, true_and, if_true]
      rfl
    unfold fn_TM_note
    by_cases he : e = 0
    · subst he
      rw [if_pos rfl]
      refine ⟨_, rfl, ?_, ?_, ?_, ?_, ?_, ?_, ?_⟩
      · intro r c _ r6 r7 r12
        rw [sg_ne (fun h => r12 h.1), h_Ao r6 r7]
      · intro c _ _
        rw [sg_ne (by omega), h_Ao (by decide) (by decide)]
      · rw [if_pos rfl, sg_ne (by omega), h_Ao (by decide) (by decide)]
      · rw [sg_ne (by omega), h_Ao (by decide) (by decide)]
        simp
      · intro u
        rw [sg_a, h_Ao (by decide) (by decide)]
        simp
      · intro c hc
        rw [sg_ne (by omega), y6 c hc]
      · intro c hc
        rw [sg_ne (by omega), y7 c hc]
    · rw [if_neg he]
      refine ⟨_, rfl, ?_, ?_, ?_, ?_, ?_, ?_, ?_⟩
      · intro r c r0 r6 r7 r12
        rw [sg_ne (fun h => r0 h.1), sg_ne (fun h => r0 h.1), sg_ne (fun h => r12 h.1), h_Ao r6 r7]
      · intro c c3 c5
        rw [sg_ne (fun h => c3 h.2), sg_ne (fun h => c5 h.2), sg_ne (by omega), h_Ao (by decide) (by decide)]
      · rw [if_neg he, sg_eq]
      · rw [sg_ne (by omega), sg_eq, sg_ne (by omega), h_Ao (by decide) (by decide)]
      · intro u
        rw [sg_ne (by omega), sg_ne (by omega), sg_a, h_Ao (by decide) (by decide)]
        simp
      · intro c hc
        rw [sg_ne (by omega), sg_ne (by omega), sg_ne (by omega), y6 c hc]
      · intro c hc
        rw [sg_ne (by omega), sg_ne (by omega), sg_ne (by omega), y7 c hc]
  obtain ⟨a', ea, f1, f2, f3, f4, f5, f6, f7⟩ := hA
  have hB : ∃ b', some (sg_up (sg_up (h_D 5 (nI t) v (h_B 26 (nI t) v b)) 30 5 (b 30 5 ||| e)) 40 t 0) = some b' ∧ (∀ r c, r ≠ 36 → r ≠ 37 → r ≠ 40 → r ≠ 45 → r ≠ 46 → ¬ (r = 30 ∧ c = 5) → b' r c = b r c) ∧ b' 30 5 = b 30 5 ||| e ∧ (∀ u, b' 40 u = if u = t then 0 else b 40 u) ∧ (∀ c, c < 5 → b' 36 c = if b 37 c = nI t then v else b 36 c) ∧ (∀ c, c < 5 → b' 37 c = if b 37 c = nI t then 0 else b 37 c) ∧ (∀ c, c < 26 → b' 45 c = if b 46 c = nI t ∧ ¬ (b 40 (c / 2) ≤ 0) then v else b 45 c) ∧ (∀ c, c < 26 → b' 46 c = if b 46 c = nI t ∧ ¬ (b 40 (c / 2) ≤ 0) then 0 else b 46 c) := by
    refine ⟨_, rfl, ?_, ?_, ?_, ?_, ?_, ?_, ?_⟩
    · intro r c r1 r2 r3 r4 r5 r6
      rw [sg_ne (fun h => r3 h.1), sg_ne r6, h_Do r1 r2, h_Bo r4 r5]
    · rw [sg_ne (by omega), sg_eq]
    · intro u
      rw [sg_a, sg_ne (by omega), h_Do (by decide) (by decide), h_Bo (by decide) (by decide)]
      simp
    · intro c hc
      rw [sg_ne (by omega), sg_ne (by omega)]
      unfold h_D
      rw [h_Bo (by decide) (by decide), h_Bo (by decide) (by decide)]
      simp only [hc, true_and, if_true]
    · intro c hc
      rw [sg_ne (by omega), sg_ne (by omega)]
      unfold h_D
      rw [h_Bo (by decide) (by decide)]
      simp only [hc, true_and, if_true]
      rfl
    · intro c hc
      rw [sg_ne (by omega), sg_ne (by omega), h_Do (by decide) (by decide)]
      unfold h_B
      simp only [hc, true_and, if_true]
    · intro c hc
      rw [sg_ne (by omega), sg_ne (by omega), h_Do (by decide) (by decide)]
      unfold h_B
      simp only [hc, true_and, if_true]
      rfl
  obtain ⟨b', eb, g1, g2, g3, g4, g5, g6, g7⟩ := hB
  refine ⟨a', b', ea, eb, ?_⟩
  have C := h.c
  refine ⟨⟨?_, ?_, ?_, ?_, ?_, ?_, ?_, ?_, ?_, ?_, ?_, ?_, ?_, ?_, ?_, ?_, ?_⟩, ?_, ?_, ?_⟩
  · intro r c hr
    rw [f1 r c (by omega) (by omega) (by omega) (by omega)]
    exact C.fa r c hr
  · intro r c hr
    rw [g1 r c (by omega) (by omega) (by omega) (by omega) (by omega) (by omega)]
    exact C.fb r c hr
  · rw [g1 30 9 (by omega) (by omega) (by omega) (by omega) (by omega) (by omega)]
    exact C.ft
  · rw [f2 0 (by omega) (by omega), g1 30 0 (by omega) (by omega) (by omega) (by omega) (by omega) (by omega)]
    exact C.bank
  · rw [f2 1 (by omega) (by omega), g1 30 1 (by omega) (by omega) (by omega) (by omega) (by omega) (by omega)]
    exact C.lat
  · rw [f2 2 (by omega) (by omega), g1 30 2 (by omega) (by omega) (by omega) (by omega) (by omega) (by omega)]
    exact C.many
  · rw [f2 4 (by omega) (by omega), g1 30 4 (by omega) (by omega) (by omega) (by omega) (by omega) (by omega)]
    exact C.nxt
  · rw [f4, g2, C.ntd]
  · rw [f2 7 (by omega) (by omega), g1 30 7 (by omega) (by omega) (by omega) (by omega) (by omega) (by omega)]
    exact C.hnd
  · intro i hi
    have q := C.ins i hi
    refine ⟨?_, ?_, ?_, ?_, ?_⟩
    · rw [f1 1 i (by omega) (by omega) (by omega) (by omega), g1 31 i (by omega) (by omega) (by omega) (by omega) (by omega) (by omega)]; exact q.op
    · rw [f1 2 i (by omega) (by omega) (by omega) (by omega), g1 32 i (by omega) (by omega) (by omega) (by omega) (by omega) (by omega)]; exact q.r
    · rw [f1 3 i (by omega) (by omega) (by omega) (by omega), g1 33 i (by omega) (by omega) (by omega) (by omega) (by omega) (by omega)]; exact q.s
    · rw [f1 4 i (by omega) (by omega) (by omega) (by omega), g1 34 i (by omega) (by omega) (by omega) (by omega) (by omega) (by omega)]; exact q.bb
    · rw [f1 5 i (by omega) (by omega) (by omega) (by omega), g1 35 i (by omega) (by omega) (by omega) (by omega) (by omega) (by omega)]; exact q.n
  · intro r hr
    rw [f6 r (by omega), g4 r hr, C.rt r hr, C.rv r hr]
  · intro r hr
    rw [f7 r (by omega), g5 r hr, C.rt r hr]
  · intro r hr
    rw [f1 10 r (by omega) (by omega) (by omega) (by omega), g1 38 r (by omega) (by omega) (by omega) (by omega) (by omega) (by omega)]; exact C.gen r hr
  · intro r hr
    rw [f1 11 r (by omega) (by omega) (by omega) (by omega), g1 39 r (by omega) (by omega) (by omega) (by omega) (by omega) (by omega)]; exact C.wrd r hr
  · intro r hr
    rw [f1 19 r (by omega) (by omega) (by omega) (by omega), g1 49 r (by omega) (by omega) (by omega) (by omega) (by omega) (by omega)]; exact C.bnk r hr
  · intro u hu1 hu2
    have q := C.uni u hu1 hu2
    by_cases hut : u = t
    · have z : a' 12 u = 0 := by rw [f5, if_pos hut]
      have nz : ∀ {P : Prop}, a' 12 u ≠ 0 → P := fun h => absurd z h
      refine ⟨?_, ⟨0, by omega, z⟩, ?_, ?_, nz, nz, nz, nz, nz, nz, ?_, ?_, ?_⟩
      · rw [z, g3, if_pos hut]
      · intro h6
        rw [f7 _ (by omega), q.t2 h6, ite_self]
      · intro h6 h9
        rw [f7 _ (by omega), q.t1 h6 h9, ite_self]
      · intro h; rw [z] at h; exact absurd h (by decide)
      · intro h; rw [z] at h; exact absurd h (by decide)
      · intro _ h; rw [z] at h; exact absurd h (by decide)
    · have z : a' 12 u = a 12 u := by rw [f5, if_neg hut]
      have zb : b' 40 u = b 40 u := by rw [g3, if_neg hut]
      have aa : ∀ r, r ≠ 0 → r ≠ 6 → r ≠ 7 → r ≠ 12 → a' r u = a r u := fun r => f1 r u
      have gg : ∀ r, r ≠ 36 → r ≠ 37 → r ≠ 40 → r ≠ 45 → r ≠ 46 → r ≠ 30 → b' r u = b r u := fun r x1 x2 x3 x4 x5 x6 => g1 r u x1 x2 x3 x4 x5 (fun h => x6 h.1)
      have po : ∀ i j, a 12 u ≠ 0 → 7 ≤ i → i < 31 → j < 26 → j / 2 = u → o_R a b i j → o_R a' b' i j := by
        intro i j hb hi1 hi2 hj hj2 ho
        obtain ⟨k, hk, ek⟩ := q.rg
        have bp : ¬ (b 40 (j / 2) ≤ 0) := by
          rw [hj2, ← q.st, ek]
          exact n_pos (by omega) (by rw [← ek]; exact hb)
        unfold o_R
        rw [f7 i (by omega), g7 j hj, f6 i (by omega), g6 j hj]
        by_cases hx : a 7 i = nI t
        · rw [if_pos hx, if_pos hx, if_pos ⟨by rw [← ho.1]; exact hx, bp⟩, if_pos ⟨by rw [← ho.1]; exact hx, bp⟩]
          exact ⟨rfl, fun _ => rfl⟩
        · rw [if_neg hx, if_neg hx, if_neg (fun h => hx (by rw [ho.1]; exact h.1)), if_neg (fun h => hx (by rw [ho.1]; exact h.1))]
          exact ho
      refine ⟨?_, ?_, ?_, ?_, ?_, ?_, ?_, ?_, ?_, ?_, ?_, ?_, ?_⟩
      · rw [z, zb]; exact q.st
      · rw [z]; exact q.rg
      · intro h6
        rw [f7 _ (by omega), q.t2 h6, ite_self]
      · intro h6 h9
        rw [f7 _ (by omega), q.t1 h6 h9, ite_self]
      · rw [z, aa 13 (by omega) (by omega) (by omega) (by omega), gg 41 (by omega) (by omega) (by omega) (by omega) (by omega) (by omega)]; exact q.op
      · rw [z, aa 13 (by omega) (by omega) (by omega) (by omega)]; exact q.ot
      · rw [z, aa 18 (by omega) (by omega) (by omega) (by omega), gg 48 (by omega) (by omega) (by omega) (by omega) (by omega) (by omega)]; exact q.od
      · rw [z, aa 17 (by omega) (by omega) (by omega) (by omega), gg 47 (by omega) (by omega) (by omega) (by omega) (by omega) (by omega)]; exact q.ad
      · rw [z]
        intro x1 x2
        exact po _ _ x1 (by omega) (by omega) (by omega) (by omega) (q.p1 x1 x2)
      · rw [z]
        intro x1 x2
        exact po _ _ x1 (by omega) (by omega) (by omega) (by omega) (q.p2 x1 x2)
      · rw [z, aa 14 (by omega) (by omega) (by omega) (by omega), gg 42 (by omega) (by omega) (by omega) (by omega) (by omega) (by omega)]; exact q.go
      · rw [z]
        intro x1 x2
        rw [f7 _ (by omega), q.z1 x1 x2, ite_self]
      · rw [z, aa 15 (by omega) (by omega) (by omega) (by omega), gg 43 (by omega) (by omega) (by omega) (by omega) (by omega) (by omega), aa 16 (by omega) (by omega) (by omega) (by omega), gg 44 (by omega) (by omega) (by omega) (by omega) (by omega) (by omega)]; exact q.re
  · intro r hr
    rw [f7 r (by omega)]
    by_cases hx : a 7 r = nI t
    · rw [if_pos hx]; exact fun h => absurd rfl h
    · rw [if_neg hx]
      intro hy
      obtain ⟨t', w1, w2, w3, w4⟩ := C.wts r hr hy
      refine ⟨t', w1, w2, w3, ?_⟩
      rw [f5, if_neg (fun h => hx (by rw [w3, h]))]
      exact w4
  · rw [g1 30 3 (by omega) (by omega) (by omega) (by omega) (by omega) (by omega)]
    exact h.sm
  · rw [g1 30 3 (by omega) (by omega) (by omega) (by omega) (by omega) (by omega), f3, g2, h.md]
    by_cases he : e = 0
    · subst he
      simp
    · rw [if_neg he, if_neg (fun h => he (w_or0 h))]
  · rw [f2 6 (by omega) (by omega), g1 30 6 (by omega) (by omega) (by omega) (by omega) (by omega) (by omega)]
    exact h.cy
theorem bus_R {A B a b : sg_T} (h : m_R A B a b) : sm_S A B (fn_TM_useBus a) (fn_MOD_bus b) := by
  rw [ub_e, b5_e]
  have e : s_L (b 40) = s_L (a 12) := by
    have u := fun t h1 h2 => (h.c.uni t h1 h2).st
    unfold s_L
    rw [u 1 (by omega) (by omega), u 2 (by omega) (by omega), u 3 (by omega) (by omega), u 4 (by omega) (by omega), u 5 (by omega) (by omega), u 6 (by omega) (by omega), u 7 (by omega) (by omega), u 8 (by omega) (by omega), u 9 (by omega) (by omega)]
  rw [e]
  rcases s_Lk (a 12) with h0 | ⟨t, h1, h2, h3, h4⟩
  · rw [if_pos h0, if_pos h0]
    exact sm_0 h
  · rw [h4]
    have t0 : nI t ≠ 0 := fun h => by have := (n_eq (by omega) (by omega) : nI t = nI 0 ↔ _).1 h; omega
    rw [if_neg t0, if_neg t0]
    exact sd_R h t h1 h2 h3
