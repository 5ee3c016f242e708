/-! handing out: to buffers -/
theorem take_e (t R S : Nat) (ht : t < 13) (hR : R < 5) (hS : S < 5) (o : Int32) (b : sg_T) : fn_MOD_take (nI t) o (nI R) (nI S) b = some (sg_up (sg_up (sg_up (sg_up (sg_up (sg_up (sg_up b 40 t 1) 41 t o) 45 (2 * t) (b 36 R)) 46 (2 * t) (b 37 R)) 45 (2 * t + 1) (b 36 S)) 46 (2 * t + 1) (b 37 S)) 48 t (b 30 7)) := by
  unfold fn_MOD_take
  rw [n_2, n_s, n_b (k := t) (by omega) (by omega), n_b (k := 2 * t) (by omega) (by omega), n_b (k := 2 * t + 1) (by omega) (by omega), n_b (k := R) (by omega) (by omega), n_b (k := S) (by omega) (by omega)]
  simp only [gt_t]
  rw [n_t (k := t) (by omega), n_t (k := 2 * t) (by omega), n_t (k := 2 * t + 1) (by omega), n_t (k := R) (by omega), n_t (k := S) (by omega)]
  simp [sg_a]
theorem pl_31 (p : Int32) : (31 : Int32) < p ↔ (32 : Int32) ≤ p := by
  rw [Int32.lt_iff_toInt_lt, Int32.le_iff_toInt_le, show (31 : Int32).toInt = 31 from by decide, show (32 : Int32).toInt = 32 from by decide]
  omega
theorem pl_R (p : Int32) : (∃ P, P < 32 ∧ p = nI P ∧ (∀ a, fn_TM_isPlace p a = some (1, a)) ∧ ∀ b, fn_MOD_isPlace p b = some (1, b)) ∨ ((∀ a, fn_TM_isPlace p a = some (0, a)) ∧ ∀ b, fn_MOD_isPlace p b = some (0, b)) := by
  unfold fn_TM_isPlace fn_MOD_isPlace
  simp only [pl_31]
  by_cases h0 : p < 0
  · simp only [h0, if_true]
    exact .inr ⟨fun _ => trivial, fun _ => trivial⟩
  · by_cases h1 : (32 : Int32) ≤ p
    · simp only [h0, h1, if_true, if_false]
      exact .inr ⟨fun _ => trivial, fun _ => trivial⟩
    · simp only [h0, h1, if_false]
      obtain ⟨P, hP, e⟩ := n_rng (M := 32) (by omega) h0 h1
      exact .inl ⟨P, hP, e, fun _ => trivial, fun _ => trivial⟩
theorem or_ne {x y : Int32} (h : y ≠ 0) : x ||| y ≠ 0 := fun h1 => h (w_or0 h1)
theorem nt_R {A B a b : sg_T} (h : m_R A B a b) (e : Int32) (he : e ≠ 0) : m_R A B (sg_up (sg_up a 0 5 (a 0 5 ||| e)) 0 3 1) (sg_up b 30 5 (b 30 5 ||| e)) := by
  refine gc0 h ?_ ?_ ?_ ?_ ?_ ?_ ?_ ?_ ?_ ?_ ?_
  · intro r c hr
    rw [sg_ne (by omega), sg_ne (by omega)]
  · intro r c hr
    rw [sg_ne (by omega)]
  · simp [sg_a]; exact h.c.nxt
  · simp [sg_a]; rw [h.c.ntd]
  · simp [sg_a]; exact h.c.hnd
  · intro r hr; simp [sg_a]; exact h.c.rv r hr
  · intro r hr; simp [sg_a]; exact h.c.rt r hr
  · intro r hr; simp [sg_a]; exact h.c.gen r hr
  · intro r hr _; exact ⟨r, hr, by simp [sg_a]⟩
  · simp [sg_a]; exact h.sm
  · rw [sg_eq, sg_eq, if_neg (or_ne he)]
/-- a new claim on a free unit -/
theorem buf_C {A B a b : sg_T} (h : m_R A B a b) (h3 : b 30 3 = 0) (h5 : b 30 5 = 0) (i : Nat) (hi : i < 30) (k : Nat) (hk : k < 2) (ek : a 1 i = nI k) (R : Nat) (hR : R < 4) (eR : a 2 i = nI R) (P : Nat) (hP : P < 32) (t : Nat) (h6 : 6 ≤ t) (h13 : t < 13) (hkt : k = 0 ∧ t ≤ 9 ∨ k = 1 ∧ 10 ≤ t) (hf : a 12 t = 0)
    (zc : fn_TM_isToBeStored (nI P) a = some (0, a)) (zm : fn_MOD_storing (nI P) b = some (0, b)) : sm_S A B ((fb_TM_handToBuffer_58 i (nI P) (nI t) a).bind (fun z => fb_TM_handOut_71 z.1 z.2)) ((fb_MOD_storage_67 (nI i) (nI P) (nI t) b).bind (fun z => fb_MOD_handOut_96 (nI i) (nI k) (b 32 i) z.1 z.2)) := by
  have I := h.c.ins i hi
  have q := h.c.uni t (by omega) h13
  have eR2 : b 32 i = nI R := by
    obtain ⟨R', _, e1, e2⟩ := I.r
    rw [e2, ← e1, eR]
  have ek2 : b 31 i = nI k := by
    obtain ⟨k', _, e1, e2⟩ := I.op
    rw [e2, ← e1, ek]
  have md0 : a 0 3 = 0 := by rw [h.md, if_pos h5, h3]
  have m96 : ∀ b', fb_MOD_handOut_96 (nI i) (nI k) (b 32 i) 1 b' = some (sg_up (sg_up b' 30 7 (b' 30 7 + 1)) 30 4 (b' 30 4 + 1)) := by
    intro b'
    unfold fb_MOD_handOut_96
    have nk : ∀ j, 7 ≤ j → j < 13 → nI k ≠ nI j := fun j h7 h13 h => by have := (n_eq (by omega) (by omega)).1 h; omega
    rw [if_neg (by decide), if_neg (show ¬ nI k = (7 : Int32) from nk 7 (by omega) (by omega)), if_neg (show ¬ nI k = (8 : Int32) from nk 8 (by omega) (by omega)), if_neg (show ¬ nI k = (9 : Int32) from nk 9 (by omega) (by omega)), if_neg (show ¬ nI k = (10 : Int32) from nk 10 (by omega) (by omega)), if_neg (show ¬ nI k = (11 : Int32) from nk 11 (by omega) (by omega)), if_neg (show ¬ nI k = (12 : Int32) from nk 12 (by omega) (by omega)), sg_ne (by omega)]
  have nz : nI t ≠ 0 := n_z (by omega) (by omega)
  unfold fb_TM_handToBuffer_58 fb_MOD_storage_67
  rw [if_neg (n_m1 (by omega)), if_neg nz, zc, zm]
  simp only [ob_s, if_true]
  rw [n_b (k := t) (by omega) (by omega), gt_t, n_t (k := t) (by omega), n_b (k := i) (by omega) (by omega), gt_t, gt_t, gt_t, n_t (k := i) (by omega), eR2, take_e t R R h13 (by omega) (by omega), ek2]
  unfold fn_UNI_claim
  simp only [ob_s, gt_t]
  rcases hkt with ⟨k0, t9⟩ | ⟨k1, t10⟩
  · subst k0
    have c1 : (sg_up (sg_up (sg_up (sg_up a 12 t 1) 13 t (a 1 i)) 17 t (nI P)) 18 t (a 0 7)) 1 i = 0 := by rw [sg_ne (by omega), sg_ne (by omega), sg_ne (by omega), sg_ne (by omega), ek]; rfl
    have c2 : (sg_up (sg_up (sg_up (sg_up a 12 t 1) 13 t (a 1 i)) 17 t (nI P)) 18 t (a 0 7)) 2 i = nI R := by rw [sg_ne (by omega), sg_ne (by omega), sg_ne (by omega), sg_ne (by omega), eR]
    rw [if_pos c1, c2, n_b (k := R) (by omega) (by omega), gt_t, n_t (k := R) (by omega)]
    have d1 : (sg_up (sg_up (sg_up (sg_up (sg_up (sg_up (sg_up (sg_up b 40 t 1) 41 t (nI 0)) 45 (2 * t) (b 36 R)) 46 (2 * t) (b 37 R)) 45 (2 * t + 1) (b 36 R)) 46 (2 * t + 1) (b 37 R)) 48 t (b 30 7)) 47 t (nI P)) 31 i = 0 := by simp [sg_a]; rw [ek2]; rfl
    rw [if_pos d1, n_2, n_s, n_b (k := 2 * t) (by omega) (by omega), gt_t, n_b (k := 2 * t + 1) (by omega) (by omega), gt_t, n_t (k := 2 * t) (by omega), n_t (k := 2 * t + 1) (by omega)]
    have d2 : (sg_up (sg_up (sg_up (sg_up (sg_up (sg_up (sg_up (sg_up (sg_up (sg_up b 40 t 1) 41 t (nI 0)) 45 (2 * t) (b 36 R)) 46 (2 * t) (b 37 R)) 45 (2 * t + 1) (b 36 R)) 46 (2 * t + 1) (b 37 R)) 48 t (b 30 7)) 47 t (nI P)) 46 (2 * t) 0) 46 (2 * t + 1) 0) 32 i = nI R := by simp [sg_a]; rw [eR2]
    rw [d2, n_b (k := R) (by omega) (by omega), gt_t, n_t (k := R) (by omega)]
    unfold fn_OPD_waitFor fb_TM_handToBuffer_136
    simp only [ob_s]
    unfold fb_TM_handOut_71
    rw [if_neg (by decide), ← eR2, m96]
    refine sm_0 (gch (t := t) h (by omega) h13 ?_ ?_ ?_ ?_ ?_ ?_ ?_ ?_ ?_ ?_ ?_ ?_)
    · intro r c hr
      rw [sg_ne (by omega), sg_ne (by omega), sg_ne (by omega), sg_ne (by omega), sg_ne (by omega), sg_ne (by omega), sg_ne (by omega)]
    · intro r c hr
      rw [sg_ne (by omega), sg_ne (by omega), sg_ne (by omega), sg_ne (by omega), sg_ne (by omega), sg_ne (by omega), sg_ne (by omega), sg_ne (by omega), sg_ne (by omega), sg_ne (by omega), sg_ne (by omega), sg_ne (by omega), sg_ne (by omega)]
    · simp [sg_a]; rw [h.c.nxt]
    · simp [sg_a]; exact h.c.ntd
    · simp [sg_a]; rw [h.c.hnd]
    · intro r hr; simp [sg_a]; exact h.c.rv r hr
    · intro r hr; simp [sg_a]; rw [h.c.rt r hr]
    · intro r hr; simp [sg_a]; exact h.c.gen r hr
    · refine ⟨?_, ?_, ?_, ?_, ?_, ?_, ?_, ?_, ?_, ?_, ?_, ?_, ?_⟩ <;> simp [sg_a]
      · exact ⟨1, by omega, rfl⟩
      · intro; rw [if_neg (by omega)]; exact q.t2 h6
      · intro _ _; rw [if_neg (by omega)]; exact q.t1 h6 t9
      · exact ek
      · rw [ek]; exact ⟨fun h => by omega, fun h _ => by omega, fun _ _ => rfl, fun h => by omega⟩
      · exact h.c.hnd
      · exact fun _ => ⟨P, hP, rfl⟩
      · intro h; omega
      · intro h; omega
    · intro r hr
      simp [sg_a]
      by_cases hrR : r = R
      · simp [hrR]
        intro _
        exact ⟨t, by omega, t9, rfl, by simp⟩
      · simp [hrR]
        intro hy
        obtain ⟨t', w1, w2, w3, w4⟩ := h.c.wts r hr hy
        refine ⟨t', w1, w2, w3, fun hz => ?_⟩
        split at hz
        · exact absurd hz (by decide)
        · exact w4 hz
    · simp [sg_a]; exact h.sm
    · simp [sg_a]; exact h.md
  · subst k1
    have c1 : (sg_up (sg_up (sg_up (sg_up a 12 t 1) 13 t (a 1 i)) 17 t (nI P)) 18 t (a 0 7)) 1 i ≠ 0 := by rw [sg_ne (by omega), sg_ne (by omega), sg_ne (by omega), sg_ne (by omega), ek]; decide
    have c2 : (sg_up (sg_up (sg_up (sg_up a 12 t 1) 13 t (a 1 i)) 17 t (nI P)) 18 t (a 0 7)) 2 i = nI R := by rw [sg_ne (by omega), sg_ne (by omega), sg_ne (by omega), sg_ne (by omega), eR]
    rw [if_neg c1, c2, n_b (k := R) (by omega) (by omega), gt_t, n_t (k := R) (by omega)]
    have d1 : (sg_up (sg_up (sg_up (sg_up (sg_up (sg_up (sg_up (sg_up b 40 t 1) 41 t (nI 1)) 45 (2 * t) (b 36 R)) 46 (2 * t) (b 37 R)) 45 (2 * t + 1) (b 36 R)) 46 (2 * t + 1) (b 37 R)) 48 t (b 30 7)) 47 t (nI P)) 31 i ≠ 0 := by simp [sg_a]; rw [ek2]; decide
    rw [if_neg d1]
    have cp : fn_OPD_copy (5 + 2 * t) R (sg_up (sg_up (sg_up (sg_up a 12 t 1) 13 t (a 1 i)) 17 t (nI P)) 18 t (a 0 7)) = some (if a 7 R = 0 then sg_up (sg_up (sg_up (sg_up (sg_up (sg_up a 12 t 1) 13 t (a 1 i)) 17 t (nI P)) 18 t (a 0 7)) 6 (5 + 2 * t) (a 6 R)) 7 (5 + 2 * t) 0 else sg_up (sg_up (sg_up (sg_up (sg_up a 12 t 1) 13 t (a 1 i)) 17 t (nI P)) 18 t (a 0 7)) 7 (5 + 2 * t) (a 7 R)) := by
      simp only [fn_OPD_copy, fn_OPD_isAwaited, fn_OPD_haveValue, fn_OPD_waitFor]
      by_cases h7 : a 7 R = 0
      · simp [sg_a, h7]
      · simp [sg_a, h7]
    rw [cp]
    unfold fb_TM_handToBuffer_136
    simp only [ob_s]
    unfold fb_TM_handOut_71
    rw [if_neg (by decide), ← eR2, m96]
    have rR := h.c.rt R (by omega)
    have vR := h.c.rv R (by omega)
    have seven : ∀ r c, ¬ (r = 6 ∧ c = 5 + 2 * t) → ¬ (r = 7 ∧ c = 5 + 2 * t) → ∀ x : sg_T, (if a 7 R = 0 then sg_up (sg_up x 6 (5 + 2 * t) (a 6 R)) 7 (5 + 2 * t) 0 else sg_up x 7 (5 + 2 * t) (a 7 R)) r c = x r c := by
      intro r c n6 n7 x
      split
      · rw [sg_ne n7, sg_ne n6]
      · rw [sg_ne n7]
    have s7 : ∀ x : sg_T, (if a 7 R = 0 then sg_up (sg_up x 6 (5 + 2 * t) (a 6 R)) 7 (5 + 2 * t) 0 else sg_up x 7 (5 + 2 * t) (a 7 R)) 7 (5 + 2 * t) = a 7 R := by
      intro x
      split
      · rename_i h; rw [sg_eq, h]
      · rw [sg_eq]
    have s6 : ∀ x : sg_T, a 7 R = 0 → (if a 7 R = 0 then sg_up (sg_up x 6 (5 + 2 * t) (a 6 R)) 7 (5 + 2 * t) 0 else sg_up x 7 (5 + 2 * t) (a 7 R)) 6 (5 + 2 * t) = a 6 R := by
      intro x h0
      rw [if_pos h0, sg_ne (by omega), sg_eq]
    generalize hx : (if a 7 R = 0 then sg_up (sg_up (sg_up (sg_up (sg_up (sg_up a 12 t 1) 13 t (a 1 i)) 17 t (nI P)) 18 t (a 0 7)) 6 (5 + 2 * t) (a 6 R)) 7 (5 + 2 * t) 0 else sg_up (sg_up (sg_up (sg_up (sg_up a 12 t 1) 13 t (a 1 i)) 17 t (nI P)) 18 t (a 0 7)) 7 (5 + 2 * t) (a 7 R)) = x
    have x0 : ∀ r c, ¬ (r = 6 ∧ c = 5 + 2 * t) → ¬ (r = 7 ∧ c = 5 + 2 * t) → x r c = (sg_up (sg_up (sg_up (sg_up a 12 t 1) 13 t (a 1 i)) 17 t (nI P)) 18 t (a 0 7)) r c := by
      intro r c n6 n7
      rw [← hx]
      exact seven r c n6 n7 _
    have x7 : x 7 (5 + 2 * t) = a 7 R := by rw [← hx]; exact s7 _
    have x6 : a 7 R = 0 → x 6 (5 + 2 * t) = a 6 R := by rw [← hx]; exact s6 _
    refine sm_0 (gch (t := t) h (by omega) h13 ?_ ?_ ?_ ?_ ?_ ?_ ?_ ?_ ?_ ?_ ?_ ?_)
    · intro r c hr
      rw [sg_ne (by omega), sg_ne (by omega), x0 r c (by omega) (by omega), sg_ne (by omega), sg_ne (by omega), sg_ne (by omega), sg_ne (by omega)]
    · intro r c hr
      rw [sg_ne (by omega), sg_ne (by omega), sg_ne (by omega), sg_ne (by omega), sg_ne (by omega), sg_ne (by omega), sg_ne (by omega), sg_ne (by omega), sg_ne (by omega), sg_ne (by omega)]
    · simp [sg_a, x0]; rw [h.c.nxt]
    · simp [sg_a, x0]; exact h.c.ntd
    · simp [sg_a, x0]; rw [h.c.hnd]
    · intro r hr; rw [sg_ne (by omega), sg_ne (by omega), x0 6 r (by omega) (by omega)]; simp [sg_a]; exact h.c.rv r hr
    · intro r hr; rw [sg_ne (by omega), sg_ne (by omega), x0 7 r (by omega) (by omega)]; simp [sg_a]; exact h.c.rt r hr
    · intro r hr; simp [sg_a, x0]; exact h.c.gen r hr
    · have x2 : x 7 (6 + 2 * t) = a 7 (6 + 2 * t) := by rw [x0 _ _ (by omega) (by omega), sg_ne (by omega), sg_ne (by omega), sg_ne (by omega), sg_ne (by omega)]
      refine ⟨?_, ?_, ?_, ?_, ?_, ?_, ?_, ?_, ?_, ?_, ?_, ?_, ?_⟩ <;> simp [sg_a, x0, o_R]
      · exact ⟨1, by omega, rfl⟩
      · intro; exact q.t2 h6
      · intro _ h; omega
      · exact ek
      · rw [ek]; exact ⟨fun h => by omega, fun h _ => by omega, fun _ h => by omega, fun h => rfl⟩
      · exact h.c.hnd
      · exact fun _ => ⟨P, hP, rfl⟩
      · intro _
        rw [x7]
        refine ⟨rR, fun h0 => ?_⟩
        rw [x6 h0]
        exact vR
      · intro h; omega
    · intro r hr
      have e7 : (sg_up (sg_up x 0 4 (x 0 4 + 1)) 0 7 ((sg_up x 0 4 (x 0 4 + 1)) 0 7 + 1)) 7 r = a 7 r := by
        rw [sg_ne (by omega), sg_ne (by omega), x0 7 r (by omega) (by omega), sg_ne (by omega), sg_ne (by omega), sg_ne (by omega), sg_ne (by omega)]
      rw [e7]
      intro hy
      obtain ⟨t', w1, w2, w3, w4⟩ := h.c.wts r hr hy
      refine ⟨t', w1, w2, w3, ?_⟩
      simp [sg_a, x0]
      intro hz
      split at hz
      · exact absurd hz (by decide)
      · exact w4 hz
    · simp [sg_a]; exact h.sm
    · simp [sg_a, x0]; exact h.md
