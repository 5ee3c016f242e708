/-! beginning: stations -/
def r_D (a : sg_T) (u : Nat) : Prop := a 12 u = 1 ∧ a 7 (5 + 2 * u) = 0 ∧ a 7 (6 + 2 * u) = 0
def r_dec (a : sg_T) (u : Nat) : Decidable (r_D a u) := by unfold r_D; infer_instance
def r_i {α : Type} (a : sg_T) (u : Nat) (x y : α) : α := @ite α (r_D a u) (r_dec a u) x y
theorem r_ip {α : Type} {a : sg_T} {u : Nat} (h : r_D a u) (x y : α) : r_i a u x y = x := by
  unfold r_i
  exact if_pos h
theorem r_in {α : Type} {a : sg_T} {u : Nat} (h : ¬ r_D a u) (x y : α) : r_i a u x y = y := by
  unfold r_i
  exact if_neg h
theorem r_s {α β : Type} (a : sg_T) (u : Nat) (x y : α) (z : β) (o : Option (α × β)) (h : o = some (y, z)) : r_i a u (some (x, z)) o = some (r_i a u x y, z) := by
  rw [h]
  by_cases hr : r_D a u
  · rw [r_ip hr, r_ip hr]
  · rw [r_in hr, r_in hr]
theorem rd_c (u : Nat) (a : sg_T) : fn_UNI_isReady u a = some (r_i a u 1 0, a) := by
  simp only [fn_UNI_isReady, fn_OPD_isAwaited]
  by_cases h1 : a 12 u = 1
  · by_cases h2 : a 7 (5 + 2 * u) = 0
    · by_cases h3 : a 7 (6 + 2 * u) = 0
      · rw [r_ip ⟨h1, h2, h3⟩]; simp [h1, h2, h3]
      · rw [r_in (fun h => h3 h.2.2)]; simp [h1, h2, h3]
    · rw [r_in (fun h => h2 h.2.1)]; simp [h1, h2]
  · rw [r_in (fun h => h1 h.1)]; simp [h1]
theorem rd_m {A B a b : sg_T} (h : m_R A B a b) (u : Nat) (h1 : 1 ≤ u) (h5 : u ≤ 5) : fn_MOD_ready (nI u) b = some (r_i a u 1 0, b) := by
  have q := h.c.uni u h1 (by omega)
  unfold fn_MOD_ready
  rw [n_b (by omega) (by omega), gt_t, n_t (by omega), n_2, n_b (by omega) (by omega), gt_t, n_t (by omega), n_s, n_b (by omega) (by omega), gt_t, n_t (by omega), if_neg (show ¬ (9 : Int32) < nI u from fun h => by have := (n_lt (by omega) (by omega) : nI 9 < nI u ↔ _).1 h; omega), ← q.st]
  by_cases h1 : a 12 u = 1
  · have n0 : a 12 u ≠ 0 := by rw [h1]; decide
    rw [← (q.p1 n0 (.inl h5)).1, ← (q.p2 n0 h5).1]
    by_cases h2 : a 7 (5 + 2 * u) = 0
    · by_cases h3 : a 7 (6 + 2 * u) = 0
      · rw [r_ip ⟨h1, h2, h3⟩]; simp [h1, h2, h3]
      · rw [r_in (fun h => h3 h.2.2)]; simp [h1, h2, h3]
    · rw [r_in (fun h => h2 h.2.1)]; simp [h1, h2]
  · rw [r_in (fun h => h1 h.1)]; simp [h1]
theorem fr_s (l k n : Nat) (hl : l ≤ 12) (hk : k ≤ l) (a : sg_T) : fb_TM_firstReady_2 (n + 1) (nI l) (nI k) a = r_i a k (some (nI k, a)) (fb_TM_firstReady_2 n (nI l) (nI (k + 1)) a) := by
  rw [show fb_TM_firstReady_2 (n + 1) (nI l) (nI k) a = if nI l < nI k then some ((-1 : Int32), a) else gt_d (ib_I (nI k) 13) ((fn_UNI_isReady (tn_I (nI k)) a).bind (fun z3 => if z3.1 = 0 then fb_TM_firstReady_2 n (nI l) (nI k + (1 : Int32)) z3.2 else some (nI k, z3.2))) from rfl]
  rw [if_neg (fun h => by have := (n_lt (by omega) (by omega)).1 h; omega), n_b (by omega) (by omega), gt_t, n_t (by omega), n_s]
  simp only [rd_c, Option.bind_some]
  by_cases h : r_D a k
  · simp only [r_ip h]
    rw [if_neg (by decide)]
  · simp only [r_in h, if_true]
theorem fr_e (l k n : Nat) (hl : l ≤ 12) (hk : l < k) (hk2 : k < 64) (a : sg_T) : fb_TM_firstReady_2 (n + 1) (nI l) (nI k) a = some (-1, a) := by
  rw [show fb_TM_firstReady_2 (n + 1) (nI l) (nI k) a = if nI l < nI k then some ((-1 : Int32), a) else gt_d (ib_I (nI k) 13) ((fn_UNI_isReady (tn_I (nI k)) a).bind (fun z3 => if z3.1 = 0 then fb_TM_firstReady_2 n (nI l) (nI k + (1 : Int32)) z3.2 else some (nI k, z3.2))) from rfl]
  rw [if_pos ((n_lt (by omega) (by omega)).2 hk)]
theorem fr_13 (a : sg_T) : fn_TM_firstReady 1 3 a = some (r_i a 1 1 (r_i a 2 2 (r_i a 3 3 (-1))), a) := by
  show fb_TM_firstReady_2 14 (nI 3) (nI 1) a = _
  rw [fr_s 3 1 13 (by omega) (by omega), fr_s 3 2 12 (by omega) (by omega), fr_s 3 3 11 (by omega) (by omega), fr_e 3 4 10 (by omega) (by omega) (by omega)]
  exact r_s _ _ _ _ _ _ (r_s _ _ _ _ _ _ (r_s _ _ _ _ _ _ rfl))
theorem fr_45 (a : sg_T) : fn_TM_firstReady 4 5 a = some (r_i a 4 4 (r_i a 5 5 (-1)), a) := by
  show fb_TM_firstReady_2 14 (nI 5) (nI 4) a = _
  rw [fr_s 5 4 13 (by omega) (by omega), fr_s 5 5 12 (by omega) (by omega), fr_e 5 6 11 (by omega) (by omega) (by omega)]
  exact r_s _ _ _ _ _ _ (r_s _ _ _ _ _ _ rfl)
theorem bg_R {A B a b : sg_T} (h : m_R A B a b) (u : Nat) (h1 : 1 ≤ u) (h5 : u ≤ 5) (hr : r_D a u) (cyc : Int32) (hc : cyc = if a 13 u = 4 then 4 else if a 13 u = 5 then 8 else 2) : sm_S A B (fn_TM_beginStation (nI u) a) (fn_MOD_begins (nI u) cyc b) := by
  have q := h.c.uni u h1 (by omega)
  obtain ⟨r1, r2, r3⟩ := hr
  have n0 : a 12 u ≠ 0 := by rw [r1]; decide
  have v1 := (q.p1 n0 (.inl h5)).2 r2
  have v2 := (q.p2 n0 h5).2 r3
  obtain ⟨V, E, a1, b1, e1, e2, ⟨k1, k2, k3, k4, k5⟩, _⟩ := rk_b (a 13 u - 2) (a 6 (5 + 2 * u)) (a 6 (6 + 2 * u)) a b
  have c1 : fn_TM_beginStation (nI u) a = some (sg_up (sg_up (sg_up (sg_up a1 12 u 2) 14 u cyc) 15 u V) 16 u E) := by
    unfold fn_TM_beginStation
    rw [if_neg (fun h => by
      have h2 : nI u < 0 := by rw [h]; decide
      exact (n_all ⟨u, by omega⟩).2.1.1 h2), n_b (by omega) (by omega), gt_t, n_t (by omega), e1]
    simp only [Option.bind_some]
    unfold fn_TM_cyclesFor
    rw [k4 13 u (by omega)]
    have : (if a 13 u = 4 then some ((4 : Int32), a1) else if a 13 u = 5 then some (8, a1) else some (2, a1)) = some (cyc, a1) := by
      rw [hc]
      split
      · rfl
      · split <;> rfl
    rw [this]
    simp only [Option.bind_some, k1, k2]
    rfl
  have c2 : fn_MOD_begins (nI u) cyc b = some (sg_up (sg_up (sg_up (sg_up b1 43 u V) 44 u E) 40 u 2) 42 u cyc) := by
    have key : fb_MOD_begins_44 (nI u) cyc (a 13 u - 2) b = some (sg_up (sg_up (sg_up (sg_up b1 43 u V) 44 u E) 40 u 2) 42 u cyc) := by
      unfold fb_MOD_begins_44
      rw [n_2, n_b (by omega) (by omega), gt_t, n_s, n_b (by omega) (by omega), gt_t, n_t (by omega), n_t (by omega), ← v1, ← v2, e2]
      simp only [Option.bind_some]
      rw [n_b (by omega) (by omega)]
      simp only [gt_t]
      rw [n_t (by omega), sg_ne (by omega), k3]
    unfold fn_MOD_begins
    rw [n_b (by omega) (by omega), gt_t, n_t (by omega), ← q.op n0]
    obtain ⟨o3, o5, _, _⟩ := q.ot n0
    have ho : a 13 u = 2 ∨ a 13 u = 3 ∨ a 13 u = 4 ∨ a 13 u = 5 ∨ a 13 u = 6 := by
      by_cases l3 : u ≤ 3
      · rcases o3 l3 with h | h | h <;> simp [h]
      · rcases o5 (by omega) h5 with h | h <;> simp [h]
    rw [← key]
    rcases ho with h | h | h | h | h
    · rw [h]; simp
    · rw [h]; simp
    · rw [h]; simp
    · rw [h]; simp
    · rw [h]; simp
  rw [c1, c2]
  refine sm_0 (loc h h1 (by omega) ?_ ?_ ?_ ?_ ?_ ?_)
  · intro r c hr
    rw [sg_ne (by omega), sg_ne (by omega), sg_ne (by omega), sg_ne (by omega), k4 r c (by omega)]
  · intro r c hr
    rw [sg_ne (by omega), sg_ne (by omega), sg_ne (by omega), sg_ne (by omega), k5 r c (by omega) (by omega)]
  · intro c hc
    rw [sg_ne (by omega), sg_ne (by omega), sg_ne (by omega), sg_ne (by omega), sg_ne (by omega), sg_ne (by omega), sg_ne (by omega), sg_ne (by omega), k4 19 c (by omega), k5 49 c (by omega) (by omega)]
    exact h.c.bnk c hc
  · intro c hc
    rw [sg_ne (by omega), sg_ne (by omega), sg_ne (by omega), sg_ne (by omega), sg_ne (by omega), sg_ne (by omega), sg_ne (by omega), sg_ne (by omega), k4 11 c (by omega), k5 39 c (by omega) (by omega)]
    exact h.c.wrd c hc
  · have ka : ∀ r c, r ≠ 20 → a1 r c = a r c := k4
    have kb : ∀ r c, r ≠ 50 → r ≠ 30 → b1 r c = b r c := fun r c h1 h2 => k5 r c h1 (fun h => h2 h.1)
    refine ⟨?_, ?_, ?_, ?_, ?_, ?_, ?_, ?_, ?_, ?_, ?_, ?_, ?_⟩ <;> simp [sg_a, o_R, ka, kb]
    · exact ⟨2, by omega, rfl⟩
    · intro; omega
    · intro; omega
    · exact q.op n0
    · exact q.ot n0
    · exact q.od n0
    · intro; omega
    · exact fun h => q.p1 n0 h
    · exact fun h => q.p2 n0 h
    · intro; omega
  · rw [sg_ne (by omega), sg_ne (by omega), sg_ne (by omega), sg_eq]; exact .inl (by decide)
theorem bg_0 (a : sg_T) : fn_TM_beginStation (-1) a = some a := by
  unfold fn_TM_beginStation
  rw [if_pos rfl]
