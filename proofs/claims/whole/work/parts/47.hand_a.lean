/-! handing out: what all ways need -/
theorem u_eq {a b a' b' : sg_T} {t : Nat} (q : u_R a b t)
    (fa : ∀ r c, ((12 ≤ r ∧ r ≤ 18 ∧ c = t) ∨ ((r = 6 ∨ r = 7) ∧ (c = 5 + 2 * t ∨ c = 6 + 2 * t))) → a' r c = a r c) (fb : ∀ r c, ((40 ≤ r ∧ r ≤ 48 ∧ r ≠ 45 ∧ r ≠ 46 ∧ c = t) ∨ ((r = 45 ∨ r = 46) ∧ (c = 2 * t ∨ c = 2 * t + 1))) → b' r c = b r c) : u_R a' b' t := by
  have z : a' 12 t = a 12 t := fa 12 t (by omega)
  refine ⟨?_, ?_, ?_, ?_, ?_, ?_, ?_, ?_, ?_, ?_, ?_, ?_, ?_⟩
  · rw [z, fb 40 t (by omega)]; exact q.st
  · rw [z]; exact q.rg
  · rw [fa 7 (6 + 2 * t) (by omega)]; exact q.t2
  · rw [fa 7 (5 + 2 * t) (by omega)]; exact q.t1
  · rw [z, fa 13 t (by omega), fb 41 t (by omega)]; exact q.op
  · rw [z, fa 13 t (by omega)]; exact q.ot
  · rw [z, fa 18 t (by omega), fb 48 t (by omega)]; exact q.od
  · rw [z, fa 17 t (by omega), fb 47 t (by omega)]; exact q.ad
  · unfold o_R
    rw [z, fa 7 (5 + 2 * t) (by omega), fa 6 (5 + 2 * t) (by omega), fb 45 (2 * t) (by omega), fb 46 (2 * t) (by omega)]; exact q.p1
  · unfold o_R
    rw [z, fa 7 (6 + 2 * t) (by omega), fa 6 (6 + 2 * t) (by omega), fb 45 (2 * t + 1) (by omega), fb 46 (2 * t + 1) (by omega)]; exact q.p2
  · rw [z, fa 14 t (by omega), fb 42 t (by omega)]; exact q.go
  · rw [z, fa 7 (5 + 2 * t) (by omega)]; exact q.z1
  · rw [z, fa 15 t (by omega), fa 16 t (by omega), fb 43 t (by omega), fb 44 t (by omega)]; exact q.re
theorem gch {A B a b a' b' : sg_T} {t : Nat} (h : m_R A B a b) (h1 : 1 ≤ t) (h13 : t < 13)
    (fa : ∀ r c, ¬ ((r = 0 ∧ (c = 3 ∨ c = 4 ∨ c = 5 ∨ c = 7)) ∨ r = 10 ∨ ((r = 6 ∨ r = 7) ∧ (c < 5 ∨ c = 5 + 2 * t ∨ c = 6 + 2 * t)) ∨ (12 ≤ r ∧ r ≤ 18 ∧ c = t)) → a' r c = a r c)
    (fb : ∀ r c, ¬ ((r = 30 ∧ (c = 3 ∨ c = 4 ∨ c = 5 ∨ c = 7)) ∨ r = 38 ∨ r = 36 ∨ r = 37 ∨ (40 ≤ r ∧ r ≤ 48 ∧ r ≠ 45 ∧ r ≠ 46 ∧ c = t) ∨ ((r = 45 ∨ r = 46) ∧ (c = 2 * t ∨ c = 2 * t + 1))) → b' r c = b r c)
    (e4 : a' 0 4 = b' 30 4) (e5 : a' 0 5 = b' 30 5) (e7 : a' 0 7 = b' 30 7) (rv : ∀ r, r < 5 → a' 6 r = b' 36 r) (rt : ∀ r, r < 5 → a' 7 r = b' 37 r) (gen : ∀ r, r < 4 → a' 10 r = b' 38 r) (hu : u_R a' b' t)
    (hw : ∀ r, r < 5 → a' 7 r ≠ 0 → ∃ t, 1 ≤ t ∧ t ≤ 9 ∧ a' 7 r = nI t ∧ a' 12 t ≠ 0) (sm : b' 30 3 = 0 ∨ b' 30 3 = 1) (md : a' 0 3 = if b' 30 5 = 0 then b' 30 3 else 1) : m_R A B a' b' := by
  have C := h.c
  refine ⟨⟨?_, ?_, ?_, ?_, ?_, ?_, e4, e5, e7, ?_, rv, rt, gen, ?_, ?_, ?_, hw⟩, sm, md, ?_⟩
  · intro r c hr
    rw [fa r c (by omega)]
    exact C.fa r c hr
  · intro r c hr
    rw [fb r c (by omega)]
    exact C.fb r c hr
  · rw [fb 30 9 (by omega)]; exact C.ft
  · rw [fa 0 0 (by omega), fb 30 0 (by omega)]; exact C.bank
  · rw [fa 0 1 (by omega), fb 30 1 (by omega)]; exact C.lat
  · rw [fa 0 2 (by omega), fb 30 2 (by omega)]; exact C.many
  · intro i hi
    have q := C.ins i hi
    refine ⟨?_, ?_, ?_, ?_, ?_⟩
    · rw [fa 1 i (by omega), fb 31 i (by omega)]; exact q.op
    · rw [fa 2 i (by omega), fb 32 i (by omega)]; exact q.r
    · rw [fa 3 i (by omega), fb 33 i (by omega)]; exact q.s
    · rw [fa 4 i (by omega), fb 34 i (by omega)]; exact q.bb
    · rw [fa 5 i (by omega), fb 35 i (by omega)]; exact q.n
  · intro r hr
    rw [fa 11 r (by omega), fb 39 r (by omega)]; exact C.wrd r hr
  · intro r hr
    rw [fa 19 r (by omega), fb 49 r (by omega)]; exact C.bnk r hr
  · intro u hu1 hu2
    by_cases hut : u = t
    · rw [hut]; exact hu
    · refine u_eq (C.uni u hu1 hu2) ?_ ?_
      · intro r c hr
        exact fa r c (by omega)
      · intro r c hr
        exact fb r c (by omega)
  · rw [fa 0 6 (by omega), fb 30 6 (by omega)]; exact h.cy
/-- no unit is touched -/
theorem gc0 {A B a b a' b' : sg_T} (h : m_R A B a b)
    (fa : ∀ r c, ¬ ((r = 0 ∧ (c = 3 ∨ c = 4 ∨ c = 5 ∨ c = 7)) ∨ r = 10 ∨ ((r = 6 ∨ r = 7) ∧ c < 5)) → a' r c = a r c)
    (fb : ∀ r c, ¬ ((r = 30 ∧ (c = 3 ∨ c = 4 ∨ c = 5 ∨ c = 7)) ∨ r = 38 ∨ r = 36 ∨ r = 37) → b' r c = b r c)
    (e4 : a' 0 4 = b' 30 4) (e5 : a' 0 5 = b' 30 5) (e7 : a' 0 7 = b' 30 7) (rv : ∀ r, r < 5 → a' 6 r = b' 36 r) (rt : ∀ r, r < 5 → a' 7 r = b' 37 r) (gen : ∀ r, r < 4 → a' 10 r = b' 38 r)
    (hw : ∀ r, r < 5 → a' 7 r ≠ 0 → ∃ s, s < 5 ∧ a' 7 r = a 7 s) (sm : b' 30 3 = 0 ∨ b' 30 3 = 1) (md : a' 0 3 = if b' 30 5 = 0 then b' 30 3 else 1) : m_R A B a' b' := by
  refine gch (t := 1) h (by omega) (by omega) (fun r c hr => fa r c (by omega)) (fun r c hr => fb r c (by omega)) e4 e5 e7 rv rt gen (u_eq (h.c.uni 1 (by omega) (by omega)) (fun r c hr => fa r c (by omega)) (fun r c hr => fb r c (by omega))) ?_ sm md
  intro r hr h0
  obtain ⟨s, hs, es⟩ := hw r hr h0
  obtain ⟨t', w1, w2, w3, w4⟩ := h.c.wts s hs (by rw [← es]; exact h0)
  exact ⟨t', w1, w2, by rw [es, w3], by rw [fa 12 t' (by omega)]; exact w4⟩
theorem n_rng {x : Int32} {M : Nat} (hM : M ≤ 60000) (h0 : ¬ x < 0) (h1 : ¬ nI M ≤ x) : ∃ i, i < M ∧ x = nI i := by
  rw [Int32.lt_iff_toInt_lt] at h0
  rw [n_of, Int32.le_iff_toInt_le, w_t (by omega) (by omega)] at h1
  have z : (0 : Int32).toInt = 0 := by decide
  refine ⟨x.toInt.toNat, by omega, ?_⟩
  rw [n_of, show ((x.toInt.toNat : Nat) : Int) = x.toInt from by omega]
  exact w_own x
theorem n_not {i M : Nat} (hM : M ≤ 60) (hi : i < M) : ¬ nI i < 0 ∧ ¬ nI M ≤ nI i ∧ nI i < nI M := by
  refine ⟨fun h => (n_all ⟨i, by omega⟩).2.1.1 h, fun h => ?_, (n_lt (by omega) (by omega)).2 hi⟩
  have := (n_le (by omega) (by omega)).1 h
  omega
theorem fm_s (n f k : Nat) (hf : f ≤ k + 1) (hk : k < 12) (x : Int32) (b : sg_T) : fb_MOD_free_5 (n + 1) (nI f) x (nI (k + 1)) b = fb_MOD_free_5 n (nI f) (if b 40 (k + 1) = 0 then nI (k + 1) else x) (nI k) b := by
  rw [show fb_MOD_free_5 (n + 1) (nI f) x (nI (k + 1)) b = if nI (k + 1) < nI f then some (x, b) else gt_d (ib_I (nI (k + 1)) 13) (if (b 40 (tn_I (nI (k + 1)))) = 0 then fb_MOD_free_27 (fb_MOD_free_5 n) (nI f) (nI (k + 1)) (nI (k + 1)) b else fb_MOD_free_27 (fb_MOD_free_5 n) (nI f) (nI (k + 1)) x b) from rfl]
  rw [if_neg (fun h => by have := (n_lt (by omega) (by omega)).1 h; omega), n_b (by omega) (by omega), gt_t, n_t (by omega)]
  unfold fb_MOD_free_27
  rw [show nI (k + 1) + (-1) = nI k from by
    rw [← n_s, show (-1 : Int32) = -1 from rfl, Int32.add_assoc]
    simp]
  split <;> rfl
theorem fm_e (n f k : Nat) (hk : k < f) (hf : f < 64) (x : Int32) (b : sg_T) : fb_MOD_free_5 (n + 1) (nI f) x (nI k) b = some (x, b) := by
  rw [show fb_MOD_free_5 (n + 1) (nI f) x (nI k) b = if nI k < nI f then some (x, b) else gt_d (ib_I (nI k) 13) (if (b 40 (tn_I (nI k))) = 0 then fb_MOD_free_27 (fb_MOD_free_5 n) (nI f) (nI k) (nI k) b else fb_MOD_free_27 (fb_MOD_free_5 n) (nI f) (nI k) x b) from rfl]
  rw [if_pos ((n_lt (by omega) (by omega)).2 hk)]
def f_R (a : sg_T) (f l : Nat) (e m : Int32) : Prop := (e = -1 ∧ m = 0) ∨ ∃ t, f ≤ t ∧ t ≤ l ∧ e = nI t ∧ m = nI t ∧ a 12 t = 0
theorem ff_69 {A B a b : sg_T} (h : m_R A B a b) : ∃ e m, f_R a 6 9 e m ∧ fn_TM_firstLike 0 6 9 a = some (e, a) ∧ fn_MOD_free 6 9 b = some (m, b) := by
  have u := fun t h1 h2 => (h.c.uni t h1 h2).st
  refine ⟨_, _, ?_, fl_69 0 a, (show fb_MOD_free_5 14 (nI 6) 0 (nI 9) b = _ from by
    rw [fm_s 13 6 8 (by omega) (by omega), fm_s 12 6 7 (by omega) (by omega), fm_s 11 6 6 (by omega) (by omega), fm_s 10 6 5 (by omega) (by omega), fm_e 9 6 5 (by omega) (by omega)])⟩
  rw [← u 6 (by omega) (by omega), ← u 7 (by omega) (by omega), ← u 8 (by omega) (by omega), ← u 9 (by omega) (by omega)]
  by_cases h6 : a 12 6 = 0
  · rw [if_pos h6, if_pos h6]; exact .inr ⟨6, by omega, by omega, rfl, rfl, h6⟩
  rw [if_neg h6, if_neg h6]
  by_cases h7 : a 12 7 = 0
  · rw [if_pos h7, if_pos h7]; exact .inr ⟨7, by omega, by omega, rfl, rfl, h7⟩
  rw [if_neg h7, if_neg h7]
  by_cases h8 : a 12 8 = 0
  · rw [if_pos h8, if_pos h8]; exact .inr ⟨8, by omega, by omega, rfl, rfl, h8⟩
  rw [if_neg h8, if_neg h8]
  by_cases h9 : a 12 9 = 0
  · rw [if_pos h9, if_pos h9]; exact .inr ⟨9, by omega, by omega, rfl, rfl, h9⟩
  rw [if_neg h9, if_neg h9]
  exact .inl ⟨rfl, rfl⟩
theorem ff_1012 {A B a b : sg_T} (h : m_R A B a b) : ∃ e m, f_R a 10 12 e m ∧ fn_TM_firstLike 0 10 12 a = some (e, a) ∧ fn_MOD_free 10 12 b = some (m, b) := by
  have u := fun t h1 h2 => (h.c.uni t h1 h2).st
  refine ⟨_, _, ?_, fl_1012 0 a, (show fb_MOD_free_5 14 (nI 10) 0 (nI 12) b = _ from by
    rw [fm_s 13 10 11 (by omega) (by omega), fm_s 12 10 10 (by omega) (by omega), fm_s 11 10 9 (by omega) (by omega), fm_e 10 10 9 (by omega) (by omega)])⟩
  rw [← u 10 (by omega) (by omega), ← u 11 (by omega) (by omega), ← u 12 (by omega) (by omega)]
  by_cases h6 : a 12 10 = 0
  · rw [if_pos h6, if_pos h6]; exact .inr ⟨10, by omega, by omega, rfl, rfl, h6⟩
  rw [if_neg h6, if_neg h6]
  by_cases h7 : a 12 11 = 0
  · rw [if_pos h7, if_pos h7]; exact .inr ⟨11, by omega, by omega, rfl, rfl, h7⟩
  rw [if_neg h7, if_neg h7]
  by_cases h8 : a 12 12 = 0
  · rw [if_pos h8, if_pos h8]; exact .inr ⟨12, by omega, by omega, rfl, rfl, h8⟩
  rw [if_neg h8, if_neg h8]
  exact .inl ⟨rfl, rfl⟩
theorem ff_13 {A B a b : sg_T} (h : m_R A B a b) : ∃ e m, f_R a 1 3 e m ∧ fn_TM_firstLike 0 1 3 a = some (e, a) ∧ fn_MOD_free 1 3 b = some (m, b) := by
  have u := fun t h1 h2 => (h.c.uni t h1 h2).st
  refine ⟨_, _, ?_, fl_13 0 a, (show fb_MOD_free_5 14 (nI 1) 0 (nI 3) b = _ from by
    rw [fm_s 13 1 2 (by omega) (by omega), fm_s 12 1 1 (by omega) (by omega), fm_s 11 1 0 (by omega) (by omega), fm_e 10 1 0 (by omega) (by omega)])⟩
  rw [← u 1 (by omega) (by omega), ← u 2 (by omega) (by omega), ← u 3 (by omega) (by omega)]
  by_cases h6 : a 12 1 = 0
  · rw [if_pos h6, if_pos h6]; exact .inr ⟨1, by omega, by omega, rfl, rfl, h6⟩
  rw [if_neg h6, if_neg h6]
  by_cases h7 : a 12 2 = 0
  · rw [if_pos h7, if_pos h7]; exact .inr ⟨2, by omega, by omega, rfl, rfl, h7⟩
  rw [if_neg h7, if_neg h7]
  by_cases h8 : a 12 3 = 0
  · rw [if_pos h8, if_pos h8]; exact .inr ⟨3, by omega, by omega, rfl, rfl, h8⟩
  rw [if_neg h8, if_neg h8]
  exact .inl ⟨rfl, rfl⟩
theorem ff_45 {A B a b : sg_T} (h : m_R A B a b) : ∃ e m, f_R a 4 5 e m ∧ fn_TM_firstLike 0 4 5 a = some (e, a) ∧ fn_MOD_free 4 5 b = some (m, b) := by
  have u := fun t h1 h2 => (h.c.uni t h1 h2).st
  refine ⟨_, _, ?_, fl_45 0 a, (show fb_MOD_free_5 14 (nI 4) 0 (nI 5) b = _ from by
    rw [fm_s 13 4 4 (by omega) (by omega), fm_s 12 4 3 (by omega) (by omega), fm_e 11 4 3 (by omega) (by omega)])⟩
  rw [← u 4 (by omega) (by omega), ← u 5 (by omega) (by omega)]
  by_cases h6 : a 12 4 = 0
  · rw [if_pos h6, if_pos h6]; exact .inr ⟨4, by omega, by omega, rfl, rfl, h6⟩
  rw [if_neg h6, if_neg h6]
  by_cases h7 : a 12 5 = 0
  · rw [if_pos h7, if_pos h7]; exact .inr ⟨5, by omega, by omega, rfl, rfl, h7⟩
  rw [if_neg h7, if_neg h7]
  exact .inl ⟨rfl, rfl⟩
def s_P (a : sg_T) (p : Int32) (t : Nat) : Prop := a 12 t ≠ 0 ∧ a 17 t = p
theorem ts_s {A B a b : sg_T} (h : m_R A B a b) (p : Int32) (t : Nat) (h10 : 10 ≤ t) (h13 : t < 13) (n : Nat) : (s_P a p t → fb_TM_isToBeStored_3 (n + 1) p (nI t) a = some (1, a) ∧ fb_MOD_storing_5 (n + 1) p 0 (nI t) b = fb_MOD_storing_5 n p 1 (nI (t + 1)) b) ∧ (¬ s_P a p t → fb_TM_isToBeStored_3 (n + 1) p (nI t) a = fb_TM_isToBeStored_3 n p (nI (t + 1)) a ∧ fb_MOD_storing_5 (n + 1) p 0 (nI t) b = fb_MOD_storing_5 n p 0 (nI (t + 1)) b) := by
  have q := h.c.uni t (by omega) h13
  have e1 : fb_TM_isToBeStored_3 (n + 1) p (nI t) a = if a 12 t = 0 then fb_TM_isToBeStored_3 n p (nI (t + 1)) a else if a 17 t = p then some (1, a) else fb_TM_isToBeStored_3 n p (nI (t + 1)) a := by
    rw [fb_TM_isToBeStored_3]
    rw [if_neg (show ¬ (12 : Int32) < nI t from fun h => by have := (n_lt (by omega) (by omega) : nI 12 < nI t ↔ _).1 h; omega), n_b (by omega) (by omega), gt_t, gt_t, n_t (by omega)]
    unfold fb_TM_isToBeStored_36
    rw [n_s]
  have e2 : fb_MOD_storing_5 (n + 1) p 0 (nI t) b = if b 40 t ≤ 0 then fb_MOD_storing_5 n p 0 (nI (t + 1)) b else if b 47 t = p then fb_MOD_storing_5 n p 1 (nI (t + 1)) b else fb_MOD_storing_5 n p 0 (nI (t + 1)) b := by
    rw [fb_MOD_storing_5]
    rw [if_neg (show ¬ (13 : Int32) ≤ nI t from fun h => by have := (n_le (by omega) (by omega) : nI 13 ≤ nI t ↔ _).1 h; omega), if_pos rfl, n_b (by omega) (by omega), gt_t, gt_t, n_t (by omega)]
    unfold fb_MOD_storing_38 fb_MOD_storing_34 fb_MOD_storing_39
    rw [n_s]
  rw [e1, e2]
  by_cases h0 : a 12 t = 0
  · refine ⟨fun hp => absurd h0 hp.1, fun _ => ?_⟩
    rw [if_pos h0, if_pos (show b 40 t ≤ 0 from by rw [← q.st, h0]; decide)]
    exact ⟨rfl, rfl⟩
  · obtain ⟨k, hk, ka, kb⟩ := q.ad h0 (by omega)
    obtain ⟨j, hj, ej⟩ := q.rg
    rw [if_neg h0, if_neg (show ¬ b 40 t ≤ 0 from by rw [← q.st, ej]; exact n_pos (by omega) (by rw [← ej]; exact h0)), ka, kb]
    refine ⟨fun hp => ?_, fun hp => ?_⟩
    · have := hp.2
      rw [ka] at this
      rw [if_pos this, if_pos this]
      exact ⟨rfl, rfl⟩
    · have : ¬ nI k = p := fun h2 => hp ⟨h0, by rw [ka]; exact h2⟩
      rw [if_neg this, if_neg this]
      exact ⟨rfl, rfl⟩
theorem ts_1 (p : Int32) (b : sg_T) : ∀ m t, t + m = 13 → 10 ≤ t → ∀ n, m < n → fb_MOD_storing_5 n p 1 (nI t) b = some (1, b)
  | 0, t, ht, _, n + 1, _ => by
    unfold fb_MOD_storing_5
    rw [if_pos (show (13 : Int32) ≤ nI t from (n_le (by omega) (by omega) : nI 13 ≤ nI t ↔ _).2 (by omega)), gt_p (by decide)]
  | m + 1, t, ht, h10, n + 1, hn => by
    unfold fb_MOD_storing_5
    rw [if_neg (show ¬ (13 : Int32) ≤ nI t from fun h => by have := (n_le (by omega) (by omega) : nI 13 ≤ nI t ↔ _).1 h; omega), if_neg (by decide)]
    unfold fb_MOD_storing_34 fb_MOD_storing_39
    rw [n_s]
    exact ts_1 p b m (t + 1) (by omega) (by omega) n (by omega)
theorem ts_l {A B a b : sg_T} (h : m_R A B a b) (p : Int32) : ∀ m t, t + m = 13 → 10 ≤ t → ∀ n, m < n → ∃ z : Int32, (z = 0 ∨ z = 1) ∧ fb_TM_isToBeStored_3 n p (nI t) a = some (z, a) ∧ fb_MOD_storing_5 n p 0 (nI t) b = some (z, b)
  | 0, t, ht, _, n + 1, _ => by
    refine ⟨0, .inl rfl, ?_, ?_⟩
    · unfold fb_TM_isToBeStored_3
      rw [if_pos (show (12 : Int32) < nI t from (n_lt (by omega) (by omega) : nI 12 < nI t ↔ _).2 (by omega))]
    · unfold fb_MOD_storing_5
      rw [if_pos (show (13 : Int32) ≤ nI t from (n_le (by omega) (by omega) : nI 13 ≤ nI t ↔ _).2 (by omega)), gt_p (by decide)]
  | m + 1, t, ht, h10, n + 1, hn => by
    have s := ts_s h p t h10 (by omega) n
    by_cases hp : s_P a p t
    · obtain ⟨s1, s2⟩ := s.1 hp
      refine ⟨1, .inr rfl, s1, ?_⟩
      rw [s2]
      exact ts_1 p b m (t + 1) (by omega) (by omega) n (by omega)
    · obtain ⟨s1, s2⟩ := s.2 hp
      rw [s1, s2]
      exact ts_l h p m (t + 1) (by omega) (by omega) n (by omega)
theorem ts_R {A B a b : sg_T} (h : m_R A B a b) (p : Int32) : ∃ z : Int32, (z = 0 ∨ z = 1) ∧ fn_TM_isToBeStored p a = some (z, a) ∧ fn_MOD_storing p b = some (z, b) := ts_l h p 3 10 (by omega) (by omega) 14 (by omega)
