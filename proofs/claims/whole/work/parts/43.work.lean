/-! a change in one unit -/
theorem loc {A B a b a' b' : sg_T} {t : Nat} (h : m_R A B a b) (h1 : 1 ≤ t) (h13 : t < 13)
    (fa : ∀ r c, ¬ (r = 20 ∨ r = 19 ∨ r = 11 ∨ (12 ≤ r ∧ r ≤ 18 ∧ c = t) ∨ ((r = 6 ∨ r = 7) ∧ (c = 5 + 2 * t ∨ c = 6 + 2 * t))) → a' r c = a r c)
    (fb : ∀ r c, ¬ (r = 50 ∨ r = 49 ∨ r = 39 ∨ (r = 30 ∧ c = 8) ∨ (40 ≤ r ∧ r ≤ 48 ∧ r ≠ 45 ∧ r ≠ 46 ∧ c = t) ∨ ((r = 45 ∨ r = 46) ∧ (c = 2 * t ∨ c = 2 * t + 1))) → b' r c = b r c)
    (hb : ∀ c, c < 8 → a' 19 c = b' 49 c) (hw : ∀ c, c < 32 → a' 11 c = b' 39 c) (hu : u_R a' b' t) (hk : a' 12 t ≠ 0 ∨ 10 ≤ t) : m_R A B a' b' := by
  have C := h.c
  refine ⟨⟨?_, ?_, ?_, ?_, ?_, ?_, ?_, ?_, ?_, ?_, ?_, ?_, ?_, hw, hb, ?_, ?_⟩, ?_, ?_, ?_⟩
  · intro r c hr
    rw [fa r c (by omega)]
    exact C.fa r c hr
  · intro r c hr
    rw [fb r c (by omega)]
    exact C.fb r c hr
  · rw [fb 30 9 (by omega)]; exact C.ft
  · rw [fa 0 0 (by omega), fb 30 0 (by omega)]; exact C.bank
  · rw [fa 0 1 (by omega), fb 30 1 (by omega)]; exact C.lat
  · rw [fa 0 2 (by omega), fb 30 2 (by omega)]; exact C.many
  · rw [fa 0 4 (by omega), fb 30 4 (by omega)]; exact C.nxt
  · rw [fa 0 5 (by omega), fb 30 5 (by omega)]; exact C.ntd
  · rw [fa 0 7 (by omega), fb 30 7 (by omega)]; exact C.hnd
  · intro i hi
    have q := C.ins i hi
    refine ⟨?_, ?_, ?_, ?_, ?_⟩
    · rw [fa 1 i (by omega), fb 31 i (by omega)]; exact q.op
    · rw [fa 2 i (by omega), fb 32 i (by omega)]; exact q.r
    · rw [fa 3 i (by omega), fb 33 i (by omega)]; exact q.s
    · rw [fa 4 i (by omega), fb 34 i (by omega)]; exact q.bb
    · rw [fa 5 i (by omega), fb 35 i (by omega)]; exact q.n
  · intro r hr
    rw [fa 6 r (by omega), fb 36 r (by omega)]; exact C.rv r hr
  · intro r hr
    rw [fa 7 r (by omega), fb 37 r (by omega)]; exact C.rt r hr
  · intro r hr
    rw [fa 10 r (by omega), fb 38 r (by omega)]; exact C.gen r hr
  · intro u hu1 hu2
    have q := C.uni u hu1 hu2
    by_cases hut : u = t
    · rw [hut]; exact hu
    · have z : a' 12 u = a 12 u := fa 12 u (by omega)
      refine ⟨?_, ?_, ?_, ?_, ?_, ?_, ?_, ?_, ?_, ?_, ?_, ?_, ?_⟩
      · rw [z, fb 40 u (by omega)]; exact q.st
      · rw [z]; exact q.rg
      · rw [fa 7 (6 + 2 * u) (by omega)]; exact q.t2
      · rw [fa 7 (5 + 2 * u) (by omega)]; exact q.t1
      · rw [z, fa 13 u (by omega), fb 41 u (by omega)]; exact q.op
      · rw [z, fa 13 u (by omega)]; exact q.ot
      · rw [z, fa 18 u (by omega), fb 48 u (by omega)]; exact q.od
      · rw [z, fa 17 u (by omega), fb 47 u (by omega)]; exact q.ad
      · unfold o_R
        rw [z, fa 7 (5 + 2 * u) (by omega), fa 6 (5 + 2 * u) (by omega), fb 45 (2 * u) (by omega), fb 46 (2 * u) (by omega)]; exact q.p1
      · unfold o_R
        rw [z, fa 7 (6 + 2 * u) (by omega), fa 6 (6 + 2 * u) (by omega), fb 45 (2 * u + 1) (by omega), fb 46 (2 * u + 1) (by omega)]; exact q.p2
      · rw [z, fa 14 u (by omega), fb 42 u (by omega)]; exact q.go
      · rw [z, fa 7 (5 + 2 * u) (by omega)]; exact q.z1
      · rw [z, fa 15 u (by omega), fa 16 u (by omega), fb 43 u (by omega), fb 44 u (by omega)]; exact q.re
  · intro r hr
    rw [fa 7 r (by omega)]
    intro hy
    obtain ⟨t', w1, w2, w3, w4⟩ := C.wts r hr hy
    refine ⟨t', w1, w2, w3, ?_⟩
    by_cases ht : t' = t
    · rw [ht]
      rcases hk with h | h
      · exact h
      · omega
    · rw [fa 12 t' (by omega)]; exact w4
  · rw [fb 30 3 (by omega)]; exact h.sm
  · rw [fa 0 3 (by omega), fb 30 3 (by omega), fb 30 5 (by omega)]; exact h.md
  · rw [fa 0 6 (by omega), fb 30 6 (by omega)]; exact h.cy
/-! work -/
def w_C (t : Nat) (a : sg_T) : Option sg_T := if a 12 t = 2 then (if a 14 t - 1 = 0 then fn_TM_finishWork t (sg_up a 14 t (a 14 t - 1)) else some (sg_up a 14 t (a 14 t - 1))) else some a
def w_M (t : Nat) (b : sg_T) : Option sg_T := if b 40 t = 2 then (if b 42 t - 1 = 0 then fn_MOD_ends (nI t) (sg_up b 42 t (b 42 t - 1)) else some (sg_up b 42 t (b 42 t - 1))) else some b
theorem wc_s (n t : Nat) (ht : t < 13) (a : sg_T) : fb_TM_work_2 (n + 1) (nI t) a = (w_C t a).bind (fb_TM_work_2 n (nI (t + 1))) := by
  unfold fb_TM_work_2 w_C
  rw [if_neg (fun h => by have := (n_lt (by omega) (by omega) : nI 12 < nI t ↔ _).1 h; omega), n_b (by omega) (by omega), gt_t, n_t (by omega), sg_eq]
  unfold fb_TM_work_45
  rw [n_s]
  split
  · split <;> rfl
  · rfl
theorem wm_s (n t : Nat) (ht : t < 13) (b : sg_T) : fb_MOD_work_2 (n + 1) (nI t) b = (w_M t b).bind (fb_MOD_work_2 n (nI (t + 1))) := by
  unfold fb_MOD_work_2 w_M
  rw [if_neg (fun h => by have := (n_le (by omega) (by omega) : nI 13 ≤ nI t ↔ _).1 h; omega), n_b (by omega) (by omega)]
  simp only [gt_t]
  rw [n_t (by omega), sg_eq]
  unfold fb_MOD_work_42
  rw [n_s]
  split
  · split <;> rfl
  · rfl
theorem st_ne {x : Int32} {k : Nat} (h : x = nI k) (hk : k < 64) (h0 : k ≠ 0) : x ≠ 0 := by
  rw [h]
  exact fun h1 => by have := (n_eq hk (by omega) : nI k = nI 0 ↔ _).1 h1; omega
theorem w_R {A B a b : sg_T} (h : m_R A B a b) (t : Nat) (h1 : 1 ≤ t) (h13 : t < 13) : sm_S A B (w_C t a) (w_M t b) := by
  have q := h.c.uni t h1 h13
  unfold w_C w_M
  rw [← q.st]
  by_cases h2 : a 12 t = 2
  · rw [if_pos h2, if_pos h2, ← q.go h2]
    have n0 : a 12 t ≠ 0 := by rw [h2]; decide
    generalize hw : a 14 t - 1 = w
    obtain ⟨o3, o5, o9, o12⟩ := q.ot n0
    by_cases hz : w = 0
    · rw [if_pos hz, if_pos hz]
      clear hz hw
      by_cases l5 : t ≤ 5
      · -- a station
        have e1 : fn_TM_finishWork t (sg_up a 14 t w) = some (sg_up (sg_up a 14 t w) 12 t 3) := by
          have ho : a 13 t ≠ 0 ∧ a 13 t ≠ 1 := by
            by_cases l3 : t ≤ 3
            · rcases o3 l3 with h | h | h <;> rw [h] <;> decide
            · rcases o5 (by omega) l5 with h | h <;> rw [h] <;> decide
          unfold fn_TM_finishWork fn_TM_usesStorage
          rw [sg_ne (by omega), sg_ne (by omega), if_neg ho.1, if_neg ho.2]
          simp only [Option.bind_some, if_true]
          unfold fb_TM_finishWork_26
          rw [sg_ne (by omega), sg_ne (by omega), if_neg ho.2]
        have e2 : fn_MOD_ends (nI t) (sg_up b 42 t w) = some (sg_up (sg_up b 42 t w) 40 t 3) := by
          unfold fn_MOD_ends fb_MOD_ends_16 fb_MOD_ends_39
          have c9 : nI t ≤ (9 : Int32) := (n_le (by omega) (by omega) : nI t ≤ nI 9 ↔ _).2 (by omega)
          have c5 : nI t ≤ (5 : Int32) := (n_le (by omega) (by omega) : nI t ≤ nI 5 ↔ _).2 (by omega)
          rw [if_pos c9, n_b (by omega) (by omega), gt_t, if_pos c5, if_pos c9, n_t (by omega)]
        rw [e1, e2]
        refine sm_0 (loc h h1 h13 ?_ ?_ ?_ ?_ ?_ ?_)
        · intro r c hr
          rw [sg_ne (by omega), sg_ne (by omega)]
        · intro r c hr
          rw [sg_ne (by omega), sg_ne (by omega)]
        · intro c hc
          rw [sg_ne (by omega), sg_ne (by omega), sg_ne (by omega), sg_ne (by omega)]; exact h.c.bnk c hc
        · intro c hc
          rw [sg_ne (by omega), sg_ne (by omega), sg_ne (by omega), sg_ne (by omega)]; exact h.c.wrd c hc
        · refine ⟨?_, ?_, ?_, ?_, ?_, ?_, ?_, ?_, ?_, ?_, ?_, ?_, ?_⟩ <;> simp [sg_a, o_R]
          · exact ⟨3, by omega, rfl⟩
          · exact q.t2
          · exact q.t1
          · exact q.op n0
          · exact q.ot n0
          · exact q.od n0
          · exact q.ad n0
          · exact fun h => q.p1 n0 h
          · exact fun h => q.p2 n0 h
          · exact fun h => q.re h (.inl h2)
        · rw [sg_eq]; exact .inl (by decide)
      · obtain ⟨k, hk, ka, kb⟩ := q.ad n0 (by omega)
        obtain ⟨Q, Q1, Q8, Qa, Qb⟩ := h.c.bank
        have Q0 : nI Q ≠ 0 := st_ne rfl (by omega) (by omega)
        have km : k % Q < 8 := by have := Nat.mod_lt k (show Q > 0 by omega); omega
        by_cases l9 : t ≤ 9
        · have ho := o9 (by omega) l9
          have e1 : fn_TM_finishWork t (sg_up a 14 t w) = some (sg_up (sg_up (sg_up a 14 t w) 12 t 3) 19 (k % Q) 0) := by
            unfold fn_TM_finishWork fn_TM_usesStorage
            rw [sg_ne (by omega), sg_ne (by omega), if_pos ho]
            simp only [Option.bind_some]
            rw [if_neg (by decide)]
            unfold fn_TM_bankOf
            rw [sg_ne (by omega), sg_ne (by omega), sg_ne (by omega), sg_ne (by omega), Qa, ka, gt_p Q0, n_md hk Q1 Q8]
            simp only [Option.bind_some]
            rw [n_b (by omega) (by omega), gt_t, n_t (by omega)]
            unfold fb_TM_finishWork_26
            rw [sg_ne (by omega), sg_ne (by omega), sg_ne (by omega), ho, if_neg (by decide)]
          have e2 : fn_MOD_ends (nI t) (sg_up b 42 t w) = some (sg_up (sg_up (sg_up b 42 t w) 40 t 3) 49 (k % Q) 0) := by
            unfold fn_MOD_ends fb_MOD_ends_16 fb_MOD_ends_39
            have c9 : nI t ≤ (9 : Int32) := (n_le (by omega) (by omega) : nI t ≤ nI 9 ↔ _).2 (by omega)
            have c5 : ¬ nI t ≤ (5 : Int32) := fun h => by have := (n_le (by omega) (by omega) : nI t ≤ nI 5 ↔ _).1 h; omega
            rw [if_pos c9, n_b (by omega) (by omega), gt_t, if_neg c5, gt_t, n_t (by omega), sg_ne (by omega), sg_ne (by omega), sg_ne (by omega), sg_ne (by omega), Qb, kb, gt_p Q0, n_md hk Q1 Q8, n_b (by omega) (by omega), gt_t, n_t (by omega), if_pos c9]
          rw [e1, e2]
          refine sm_0 (loc h h1 h13 ?_ ?_ ?_ ?_ ?_ ?_)
          · intro r c hr
            rw [sg_ne (by omega), sg_ne (by omega), sg_ne (by omega)]
          · intro r c hr
            rw [sg_ne (by omega), sg_ne (by omega), sg_ne (by omega)]
          · intro c hc
            simp [sg_a]
            rw [h.c.bnk c hc]
          · intro c hc
            simp [sg_a]
            exact h.c.wrd c hc
          · refine ⟨?_, ?_, ?_, ?_, ?_, ?_, ?_, ?_, ?_, ?_, ?_, ?_, ?_⟩ <;> simp [sg_a, o_R]
            · exact ⟨3, by omega, rfl⟩
            · exact q.t2
            · exact q.t1
            · exact q.op n0
            · exact q.ot n0
            · exact q.od n0
            · exact q.ad n0
            · exact fun h => q.p1 n0 h
            · exact fun h => q.p2 n0 h
            · exact fun h => q.re h (.inl h2)
          · rw [sg_ne (by omega), sg_eq]; exact .inl (by decide)
        · have ho := o12 (by omega)
          have p1 := q.p1 n0 (.inr (by omega))
          have pv := p1.2 (q.z1 h2 (by omega))
          have e1 : fn_TM_finishWork t (sg_up a 14 t w) = some (sg_up (sg_up (sg_up (sg_up (sg_up a 14 t w) 12 t 3) 19 (k % Q) 0) 11 k (a 6 (5 + 2 * t))) 12 t 0) := by
            unfold fn_TM_finishWork fn_TM_usesStorage
            rw [sg_ne (by omega), sg_ne (by omega), ho, if_neg (by decide), if_pos rfl]
            simp only [Option.bind_some]
            rw [if_neg (by decide)]
            unfold fn_TM_bankOf
            rw [sg_ne (by omega), sg_ne (by omega), sg_ne (by omega), sg_ne (by omega), Qa, ka, gt_p Q0, n_md hk Q1 Q8]
            simp only [Option.bind_some]
            rw [n_b (by omega) (by omega), gt_t, n_t (by omega)]
            unfold fb_TM_finishWork_26
            rw [sg_ne (by omega), sg_ne (by omega), sg_ne (by omega), ho, if_pos rfl, sg_ne (by omega), sg_ne (by omega), sg_ne (by omega), ka, n_b (by omega) (by omega), gt_t, n_t (by omega), sg_ne (by omega), sg_ne (by omega), sg_ne (by omega)]
          have e2 : fn_MOD_ends (nI t) (sg_up b 42 t w) = some (sg_up (sg_up (sg_up (sg_up b 42 t w) 40 t 0) 49 (k % Q) 0) 39 k (a 6 (5 + 2 * t))) := by
            unfold fn_MOD_ends fb_MOD_ends_16 fb_MOD_ends_39
            have c9 : ¬ nI t ≤ (9 : Int32) := fun h => by have := (n_le (by omega) (by omega) : nI t ≤ nI 9 ↔ _).1 h; omega
            have c5 : ¬ nI t ≤ (5 : Int32) := fun h => by have := (n_le (by omega) (by omega) : nI t ≤ nI 5 ↔ _).1 h; omega
            rw [if_neg c9, n_b (by omega) (by omega), gt_t, if_neg c5, gt_t, n_t (by omega), sg_ne (by omega), sg_ne (by omega), sg_ne (by omega), sg_ne (by omega), Qb, kb, gt_p Q0, n_md hk Q1 Q8, n_b (by omega) (by omega), gt_t, n_t (by omega), if_neg c9, gt_t, n_2, n_b (by omega) (by omega), gt_t, n_t (by omega)]
            rw [sg_ne (by omega), sg_ne (by omega), sg_ne (by omega), kb, n_b (by omega) (by omega), gt_t, n_t (by omega), sg_ne (by omega), sg_ne (by omega), sg_ne (by omega), pv]
          rw [e1, e2]
          refine sm_0 (loc h h1 h13 ?_ ?_ ?_ ?_ ?_ (.inr (by omega)))
          · intro r c hr
            rw [sg_ne (by omega), sg_ne (by omega), sg_ne (by omega), sg_ne (by omega), sg_ne (by omega)]
          · intro r c hr
            rw [sg_ne (by omega), sg_ne (by omega), sg_ne (by omega), sg_ne (by omega)]
          · intro c hc
            simp [sg_a]
            rw [h.c.bnk c hc]
          · intro c hc
            simp [sg_a]
            rw [h.c.wrd c hc]
          · refine ⟨?_, ?_, ?_, ?_, ?_, ?_, ?_, ?_, ?_, ?_, ?_, ?_, ?_⟩ <;> simp [sg_a, o_R]
            · exact ⟨0, by omega, rfl⟩
            · exact q.t2
            · exact q.t1
    · rw [if_neg hz, if_neg hz]
      refine sm_0 (loc h h1 h13 ?_ ?_ ?_ ?_ ?_ ?_)
      · intro r c hr
        rw [sg_ne (by omega)]
      · intro r c hr
        rw [sg_ne (by omega)]
      · intro c hc
        rw [sg_ne (by omega), sg_ne (by omega)]; exact h.c.bnk c hc
      · intro c hc
        rw [sg_ne (by omega), sg_ne (by omega)]; exact h.c.wrd c hc
      · refine ⟨?_, ?_, ?_, ?_, ?_, ?_, ?_, ?_, ?_, ?_, ?_, ?_, ?_⟩ <;> simp [sg_a, o_R]
        · exact q.st
        · exact q.rg
        · exact q.t2
        · exact q.t1
        · exact q.op
        · exact q.ot
        · exact q.od
        · exact q.ad
        · exact fun n0 h => q.p1 n0 h
        · exact fun n0 h => q.p2 n0 h
        · exact q.z1
        · exact q.re
      · rw [sg_ne (by omega)]; exact .inl n0
  · rw [if_neg h2, if_neg h2]
    exact sm_0 h
theorem work_l {A B : sg_T} : ∀ m t, 1 ≤ t → t + m = 13 → ∀ n, m < n → ∀ a b, m_R A B a b → sm_S A B (fb_TM_work_2 n (nI t) a) (fb_MOD_work_2 n (nI t) b)
  | 0, t, _, ht, n + 1, _, a, b, h => by
    unfold fb_TM_work_2 fb_MOD_work_2
    rw [if_pos (show (12 : Int32) < nI t from (n_lt (by omega) (by omega) : nI 12 < nI t ↔ _).2 (by omega)), if_pos (show (13 : Int32) ≤ nI t from (n_le (by omega) (by omega) : nI 13 ≤ nI t ↔ _).2 (by omega))]
    exact sm_0 h
  | m + 1, t, h1, ht, n + 1, hn, a, b, h => by
    rw [wc_s n t (by omega), wm_s n t (by omega)]
    exact sm_b (w_R h t h1 (by omega)) (fun a b h => work_l m (t + 1) (by omega) (by omega) n (by omega) a b h)
theorem work_R {A B a b : sg_T} (h : m_R A B a b) : sm_S A B (fn_TM_work a) (fn_MOD_work b) := work_l 12 1 (by omega) (by omega) 14 (by omega) a b h
