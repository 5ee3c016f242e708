/-! a cycle, a run -/
theorem c_S {A B a b a' b' : sg_T} (C : c_R A B a b) (fa : ∀ r c, ¬ (r = 0 ∧ (c = 3 ∨ c = 6)) → a' r c = a r c) (fb : ∀ r c, ¬ (r = 30 ∧ (c = 3 ∨ c = 6)) → b' r c = b r c) : c_R A B a' b' := by
  refine ⟨?_, ?_, ?_, ?_, ?_, ?_, ?_, ?_, ?_, ?_, ?_, ?_, ?_, ?_, ?_, ?_, ?_⟩
  · intro r c hr
    rw [fa r c (by omega)]
    exact C.fa r c hr
  · intro r c hr
    rw [fb r c (by omega)]
    exact C.fb r c hr
  · rw [fb 30 9 (by omega)]; exact C.ft
  · rw [fa 0 0 (by omega), fb 30 0 (by omega)]; exact C.bank
  · rw [fa 0 1 (by omega), fb 30 1 (by omega)]; exact C.lat
  · rw [fa 0 2 (by omega), fb 30 2 (by omega)]; exact C.many
  · rw [fa 0 4 (by omega), fb 30 4 (by omega)]; exact C.nxt
  · rw [fa 0 5 (by omega), fb 30 5 (by omega)]; exact C.ntd
  · rw [fa 0 7 (by omega), fb 30 7 (by omega)]; exact C.hnd
  · intro i hi
    have q := C.ins i hi
    refine ⟨?_, ?_, ?_, ?_, ?_⟩
    · rw [fa 1 i (by omega), fb 31 i (by omega)]; exact q.op
    · rw [fa 2 i (by omega), fb 32 i (by omega)]; exact q.r
    · rw [fa 3 i (by omega), fb 33 i (by omega)]; exact q.s
    · rw [fa 4 i (by omega), fb 34 i (by omega)]; exact q.bb
    · rw [fa 5 i (by omega), fb 35 i (by omega)]; exact q.n
  · intro r hr
    rw [fa 6 r (by omega), fb 36 r (by omega)]; exact C.rv r hr
  · intro r hr
    rw [fa 7 r (by omega), fb 37 r (by omega)]; exact C.rt r hr
  · intro r hr
    rw [fa 10 r (by omega), fb 38 r (by omega)]; exact C.gen r hr
  · intro r hr
    rw [fa 11 r (by omega), fb 39 r (by omega)]; exact C.wrd r hr
  · intro r hr
    rw [fa 19 r (by omega), fb 49 r (by omega)]; exact C.bnk r hr
  · intro u hu1 hu2
    exact u_eq (C.uni u hu1 hu2) (fun r c hr => fa r c (by omega)) (fun r c hr => fb r c (by omega))
  · intro r hr
    rw [fa 7 r (by omega)]
    intro hy
    obtain ⟨t', w1, w2, w3, w4⟩ := C.wts r hr hy
    exact ⟨t', w1, w2, w3, by rw [fa 12 t' (by omega)]; exact w4⟩
theorem cy_0 (b : sg_T) : ∀ m t, t + m = 13 → ∀ n, m < n → fb_MOD_cycle_63 n 0 (nI t) b = fb_MOD_cycle_63 1 0 (nI 13) b
  | 0, t, ht, n + 1, _ => by
    rw [show t = 13 from by omega, fb_MOD_cycle_63, fb_MOD_cycle_63, if_pos (show (13 : Int32) ≤ nI 13 from by decide), if_pos (show (13 : Int32) ≤ nI 13 from by decide)]
  | m + 1, t, ht, n + 1, hn => by
    rw [fb_MOD_cycle_63, if_neg (show ¬ (13 : Int32) ≤ nI t from fun h => by have := (n_le (by omega) (by omega) : nI 13 ≤ nI t ↔ _).1 h; omega), if_pos rfl]
    unfold fb_MOD_cycle_86 fb_MOD_cycle_87
    rw [n_s]
    exact cy_0 b m (t + 1) (by omega) n (by omega)
theorem af_l (a b : sg_T) (hab : ∀ t, 1 ≤ t → t < 13 → a 12 t = b 40 t) : ∀ m t, 1 ≤ t → t + m = 13 → ∀ n, m < n → ∃ z : Int32, (z = 0 ∨ z = 1 ∧ ∀ u, t ≤ u → u < 13 → a 12 u = 0) ∧ fb_TM_allFree_2 n (nI t) a = some (z, a) ∧ fb_MOD_cycle_63 n 1 (nI t) b = fb_MOD_cycle_63 1 z (nI 13) b
  | 0, t, _, ht, n + 1, _ => by
    refine ⟨1, .inr ⟨rfl, fun u h1 h2 => by omega⟩, ?_, ?_⟩
    · unfold fb_TM_allFree_2
      rw [if_pos (show (12 : Int32) < nI t from (n_lt (by omega) (by omega) : nI 12 < nI t ↔ _).2 (by omega))]
    · rw [show t = 13 from by omega, fb_MOD_cycle_63, fb_MOD_cycle_63, if_pos (show (13 : Int32) ≤ nI 13 from by decide), if_pos (show (13 : Int32) ≤ nI 13 from by decide)]
  | m + 1, t, h1, ht, n + 1, hn => by
    rw [fb_MOD_cycle_63, if_neg (show ¬ (13 : Int32) ≤ nI t from fun h => by have := (n_le (by omega) (by omega) : nI 13 ≤ nI t ↔ _).1 h; omega), if_neg (show ¬ (1 : Int32) = 0 from by decide), n_b (k := t) (by omega) (by omega), gt_t, n_t (k := t) (by omega), ← hab t h1 (by omega)]
    unfold fb_TM_allFree_2
    rw [if_neg (show ¬ (12 : Int32) < nI t from fun h => by have := (n_lt (by omega) (by omega) : nI 12 < nI t ↔ _).1 h; omega), n_b (k := t) (by omega) (by omega), gt_t, n_t (k := t) (by omega)]
    unfold fb_MOD_cycle_86 fb_MOD_cycle_87
    rw [n_s]
    by_cases h0 : a 12 t = 0
    · rw [if_pos h0, if_pos h0]
      obtain ⟨z, hz, e1, e2⟩ := af_l a b hab m (t + 1) (by omega) (by omega) n (by omega)
      refine ⟨z, ?_, e1, e2⟩
      rcases hz with hz | ⟨hz, hu⟩
      · exact .inl hz
      · refine .inr ⟨hz, fun u h1 h2 => ?_⟩
        by_cases hut : u = t
        · rw [hut]; exact h0
        · exact hu u (by omega) h2
    · rw [if_neg h0, if_neg h0]
      exact ⟨0, .inl rfl, rfl, cy_0 b m (t + 1) (by omega) n (by omega)⟩
theorem end_R {A B a b : sg_T} (h : m_R A B a b) : ∃ a' b', fb_TM_goOneCycle_41 a = some a' ∧ fb_MOD_cycle_40 b = some b' ∧ x_R A B a' b' := by
  obtain ⟨z, hz, e1, e2⟩ := af_l a (sg_up b 30 3 (a 0 3)) (fun t h1 h2 => by rw [sg_ne (by omega)]; exact (h.c.uni t h1 h2).st) 12 1 (by omega) (by omega) 14 (by omega)
  have m40 : fb_MOD_cycle_40 b = fb_MOD_cycle_63 1 z (nI 13) (sg_up b 30 3 (a 0 3)) := by
    rw [← e2]
    unfold fb_MOD_cycle_40 fb_MOD_cycle_56
    rw [h.md]
    split <;> rfl
  rw [m40, fb_MOD_cycle_63, if_pos (show (13 : Int32) ≤ nI 13 from by decide), sg_eq, sg_ne (by omega)]
  unfold fb_TM_goOneCycle_41 fb_TM_goOneCycle_69 fb_TM_goOneCycle_72
  have s01 : a 0 3 = 0 ∨ a 0 3 = 1 := by
    rw [h.md]
    split
    · exact h.sm
    · exact .inr rfl
  have id3 : sg_up (sg_up b 30 3 (a 0 3)) 30 3 (a 0 3) = sg_up b 30 3 (a 0 3) := by
    have := sg_id (sg_up b 30 3 (a 0 3)) 30 3
    rwa [sg_eq] at this
  rw [id3]
  have same : x_R A B (sg_up a 0 6 (a 0 6 + 1)) (sg_up b 30 3 (a 0 3)) := by
    refine ⟨c_S h.c ?_ ?_, ?_, ?_, ?_, ?_, ?_⟩
    · intro r c hr; rw [sg_ne (by omega)]
    · intro r c hr; rw [sg_ne (by omega)]
    · rw [sg_ne (by omega), sg_eq]
    · rw [sg_ne (by omega)]
      rcases s01 with e | e
      · exact ⟨0, by omega, e⟩
      · exact ⟨1, by omega, e⟩
    · rw [sg_ne (by omega), sg_ne (by omega)]
      intro e
      rw [h.md] at e
      rw [h.c.ntd]
      by_cases h5 : b 30 5 = 0
      · exact h5
      · rw [if_neg h5] at e; exact absurd e (by decide)
    · rw [sg_ne (by omega)]
      intro n0 n1
      rcases s01 with e | e
      · exact absurd e n0
      · exact absurd e n1
    · rw [sg_eq, sg_ne (by omega)]; exact h.cy
  by_cases m1 : a 0 3 = 1
  · rw [if_pos m1, if_pos m1]
    show ∃ a' b', (fb_TM_allFree_2 14 (nI 1) a).bind _ = some a' ∧ _
    rw [e1]
    simp only [ob_s]
    rcases hz with hz | ⟨hz, hu⟩
    · rw [if_pos hz, if_pos hz]
      exact ⟨_, _, rfl, rfl, same⟩
    · have hz0 : ¬ z = 0 := by rw [hz]; decide
      rw [if_neg hz0, if_neg hz0, ← h.c.ntd]
      have stop : ∀ v : Int32, v = 2 ∨ v = 3 → x_R A B (sg_up (sg_up a 0 3 v) 0 6 (sg_up a 0 3 v 0 6 + 1)) (sg_up (sg_up b 30 3 (a 0 3)) 30 3 v) := by
        intro v hv
        refine ⟨c_S h.c ?_ ?_, ?_, ?_, ?_, ?_, ?_⟩
        · intro r c hr; rw [sg_ne (by omega), sg_ne (by omega)]
        · intro r c hr; rw [sg_ne (by omega), sg_ne (by omega)]
        · rw [sg_ne (by omega), sg_eq, sg_eq]
        · rw [sg_ne (by omega), sg_eq]
          rcases hv with e | e
          · exact ⟨2, by omega, e⟩
          · exact ⟨3, by omega, e⟩
        · rw [sg_ne (by omega), sg_eq]
          intro e
          rcases hv with e2 | e2 <;> (rw [e2] at e; exact absurd e (by decide))
        · intro _ _ t h1 h2
          rw [sg_ne (by omega), sg_ne (by omega)]
          exact hu t h1 h2
        · rw [sg_eq, sg_ne (by omega), sg_ne (by omega), sg_ne (by omega)]; exact h.cy
      by_cases n5 : a 0 5 = 0
      · rw [if_pos n5, if_pos n5]
        exact ⟨_, _, rfl, rfl, stop 2 (.inl rfl)⟩
      · rw [if_neg n5, if_neg n5]
        exact ⟨_, _, rfl, rfl, stop 3 (.inr rfl)⟩
  · rw [if_neg m1, if_neg m1]
    exact ⟨_, _, rfl, rfl, same⟩
theorem cyc_R {A B a b : sg_T} (h : x_R A B a b) (hb : a 0 3 = 0 ∨ a 0 3 = 1) : ∃ a' b', fn_TM_goOneCycle a = some a' ∧ fn_MOD_cycle b = some b' ∧ x_R A B a' b' := by
  have h0 : m_R A B a (sg_up b 30 6 (b 30 6 + 1)) := by
    refine ⟨c_S h.c (fun _ _ _ => rfl) (fun r c hr => sg_ne (by omega)), ?_, ?_, ?_⟩
    · rw [sg_ne (by omega), ← h.md]; exact hb
    · rw [sg_ne (by omega), sg_ne (by omega), ← h.md, ← h.c.ntd]
      rcases hb with e | e
      · rw [h.nn e, if_pos rfl]
      · rw [e, ite_self]
    · rw [sg_eq, h.cy]
  unfold fn_TM_goOneCycle fn_MOD_cycle
  obtain ⟨a1, b1, ea1, eb1, h1⟩ := bus_R h0
  rw [ea1, eb1]
  simp only [ob_s]
  obtain ⟨a2, b2, ea2, eb2, h2⟩ := work_R h1
  rw [ea2, eb2]
  simp only [ob_s]
  obtain ⟨a3, b3, ea3, eb3, h3⟩ := beg_R h2
  rw [eb3]
  have bb : ∀ g : sg_T → Option sg_T, (fn_TM_firstReady 1 3 a2).bind (fun z3 => (fn_TM_beginStation z3.1 z3.2).bind (fun z4 => (fn_TM_nextOfMultiplier z4).bind (fun z5 => (fn_TM_beginStation z5.1 z5.2).bind (fun z6 => (fn_TM_beginStorage z6).bind g)))) = g a3 := by
    intro g
    have := congrArg (fun o => o.bind g) ea3
    simpa only [Option.bind_assoc, ob_s] using this
  rw [bb (fun z7 => if (z7 0 3) = 0 then (fn_TM_handOut z7).bind (fun z13 => fb_TM_goOneCycle_41 z13) else fb_TM_goOneCycle_41 z7)]
  simp only [ob_s]
  by_cases m0 : a3 0 3 = 0
  · have hh : b3 30 5 = 0 ∧ b3 30 3 = 0 := by
      have e := h3.md
      by_cases h5 : b3 30 5 = 0
      · rw [if_pos h5] at e
        exact ⟨h5, by rw [← e]; exact m0⟩
      · rw [if_neg h5, m0] at e
        exact absurd e (by decide)
    rw [if_pos m0, if_pos hh.2, if_pos hh.1]
    obtain ⟨a4, b4, ea4, eb4, h4⟩ := hand_R h3 hh.2 hh.1
    rw [ea4, eb4]
    simp only [ob_s]
    exact end_R h4
  · rw [if_neg m0]
    have hh : ¬ (b3 30 3 = 0 ∧ b3 30 5 = 0) := by
      rintro ⟨x1, x2⟩
      apply m0
      rw [h3.md, if_pos x2, x1]
    have : (if b3 30 3 = 0 then if b3 30 5 = 0 then (fn_MOD_handOut b3).bind fun z14 => fb_MOD_cycle_40 z14 else fb_MOD_cycle_40 b3 else fb_MOD_cycle_40 b3) = fb_MOD_cycle_40 b3 := by
      by_cases y1 : b3 30 3 = 0
      · rw [if_pos y1, if_neg (fun y2 => hh ⟨y1, y2⟩)]
      · rw [if_neg y1]
    rw [this]
    exact end_R h3
theorem k_le {j k : Nat} (hj : j < 2000000000) (hk : k < 2000000000) : nI j ≤ nI k ↔ j ≤ k := by
  rw [n_of, n_of, w_le (by omega) (by omega) (by omega) (by omega)]
  omega
theorem bz_c (a : sg_T) : fn_TM_isBusy a = some (if a 0 3 = 0 ∨ a 0 3 = 1 then 1 else 0, a) := by
  unfold fn_TM_isBusy
  by_cases h0 : a 0 3 = 0
  · rw [if_pos h0, if_pos (.inl h0)]
  · rw [if_neg h0]
    by_cases h1 : a 0 3 = 1
    · rw [if_pos h1, if_pos (.inr h1)]
    · rw [if_neg h1, if_neg (fun h => h.elim h0 h1)]
theorem bz_m (b : sg_T) : fn_MOD_goes b = some (if b 30 3 = 0 ∨ b 30 3 = 1 then 1 else 0, b) := by
  unfold fn_MOD_goes
  by_cases h0 : b 30 3 = 0
  · rw [if_pos h0, if_pos (.inl h0)]
  · rw [if_neg h0]
    by_cases h1 : b 30 3 = 1
    · rw [if_pos h1, if_pos (.inr h1)]
    · rw [if_neg h1, if_neg (fun h => h.elim h0 h1)]
theorem run_l {A B : sg_T} (hB : B 30 9 = 0) (N : Nat) (hN : N ≤ 300) : ∀ m j, j + m = N → ∀ n, m < n → ∀ a b, x_R A B a b → ∃ v a' b', fb_TM_run_37 n (nI N) (nI j) a = some (0, v, a') ∧ fb_MOD_run_34 n (nI N) (nI j) b = some (v, b') ∧ x_R A B a' b'
  | 0, j, hj, n + 1, _, a, b, h => by
    refine ⟨nI j, a, b, ?_, ?_, h⟩
    · unfold fb_TM_run_37
      rw [if_pos ((k_le (by omega) (by omega)).2 (by omega))]
    · unfold fb_MOD_run_34
      rw [h.c.ft, hB, if_pos rfl, if_pos ((k_le (by omega) (by omega)).2 (by omega))]
  | m + 1, j, hj, n + 1, hn, a, b, h => by
    unfold fb_TM_run_37 fb_MOD_run_34
    rw [h.c.ft, hB, if_pos rfl, if_neg (fun h => by have := (k_le (by omega) (by omega)).1 h; omega), if_neg (fun h => by have := (k_le (by omega) (by omega)).1 h; omega), bz_c, bz_m, ← h.md]
    simp only [ob_s]
    by_cases hz : a 0 3 = 0 ∨ a 0 3 = 1
    · rw [if_pos hz, if_neg (show ¬ (1 : Int32) = 0 from by decide), if_neg (show ¬ (1 : Int32) = 0 from by decide), n_s]
      obtain ⟨a1, b1, e1, e2, h1⟩ := cyc_R h hz
      rw [e1, e2]
      simp only [ob_s]
      exact run_l hB N hN m (j + 1) (by omega) n (by omega) a1 b1 h1
    · rw [if_neg hz, if_pos rfl, if_pos rfl]
      exact ⟨nI j, a, b, rfl, rfl, h⟩
