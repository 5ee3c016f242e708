/-! handing out: buffers, stations -/
theorem buf_R {A B a b : sg_T} (h : m_R A B a b) (h3 : b 30 3 = 0) (h5 : b 30 5 = 0) (i : Nat) (hi : i < 30) (k : Nat) (hk : k < 2) (ek : a 1 i = nI k) : sm_S A B ((fn_TM_handToBuffer i a).bind (fun z => fb_TM_handOut_71 z.1 z.2)) ((fn_MOD_storage (nI i) b).bind (fun z => fb_MOD_handOut_96 (nI i) (nI k) (b 32 i) z.1 z.2)) := by
  have I := h.c.ins i hi
  obtain ⟨R, hR, eR, eR2⟩ := I.r
  obtain ⟨W, hW, eW, eW2⟩ := I.bb
  have ek2 : b 31 i = nI k := by
    obtain ⟨k', _, e1, e2⟩ := I.op
    rw [e2, ← e1, ek]
  have no : sm_S A B (fb_TM_handOut_71 0 a) (fb_MOD_handOut_96 (nI i) (nI k) (b 32 i) 0 b) := by
    unfold fb_TM_handOut_71 fb_MOD_handOut_96
    rw [if_pos rfl, if_pos rfl]
    exact sm_0 h
  unfold fn_TM_handToBuffer fn_MOD_storage
  rw [n_t (k := i) (by omega), eW, eW2, n_b (k := W) (by omega) (by omega), n_t (k := W) (by omega), n_b (k := i) (by omega) (by omega)]
  simp only [gt_t]
  rw [← h.c.gen W hW, ← I.n]
  rcases pl_R (a 10 W + a 5 i) with ⟨P, hP, eP, pc, pm⟩ | ⟨pc, pm⟩
  · rw [pc, pm, eP]
    simp only [ob_s]
    rw [ek, ek2]
    rw [if_neg (show ¬ (1 : Int32) = 0 from by decide), if_neg (show ¬ (1 : Int32) = 0 from by decide)]
    obtain ⟨z, hz, zc, zm⟩ := ts_R h (nI P)
    have fin : ∀ e m f l, f_R a f l e m → (k = 0 ∧ f = 6 ∧ l = 9 ∨ k = 1 ∧ f = 10 ∧ l = 12) → sm_S A B ((fb_TM_handToBuffer_58 i (nI P) e a).bind (fun z => fb_TM_handOut_71 z.1 z.2)) ((fb_MOD_storage_67 (nI i) (nI P) m b).bind (fun z => fb_MOD_handOut_96 (nI i) (nI k) (b 32 i) z.1 z.2)) := by
      intro e m f l hf hkf
      rcases hf with ⟨he, hm⟩ | ⟨t, t1, t2, he, hm, hf⟩
      · subst he hm
        unfold fb_TM_handToBuffer_58 fb_MOD_storage_67
        rw [if_pos rfl, if_pos rfl]
        simp only [ob_s]
        exact no
      · subst he hm
        rcases hz with hz | hz
        · subst hz
          exact buf_C h h3 h5 i hi k hk ek R hR eR P hP t (by omega) (by omega) (by omega) hf zc zm
        · subst hz
          unfold fb_TM_handToBuffer_58 fb_MOD_storage_67
          rw [if_neg (n_m1 (by omega)), if_neg (n_z (by omega) (by omega)), zc, zm]
          simp only [ob_s]
          rw [if_neg (show ¬ (1 : Int32) = 0 from by decide), if_neg (show ¬ (1 : Int32) = 0 from by decide)]
          simp only [ob_s]
          exact no
    by_cases k0 : k = 0
    · subst k0
      obtain ⟨e, m, hf, fc, fm⟩ := ff_69 h
      rw [if_pos (show nI 0 = 0 from rfl), if_pos (show nI 0 = 0 from rfl), fc, fm]
      simp only [ob_s]
      exact fin e m 6 9 hf (.inl ⟨rfl, rfl, rfl⟩)
    · obtain ⟨e, m, hf, fc, fm⟩ := ff_1012 h
      have : nI k ≠ 0 := n_z (by omega) k0
      rw [if_neg this, if_neg this, fc, fm]
      simp only [ob_s]
      exact fin e m 10 12 hf (.inr ⟨by omega, rfl, rfl⟩)
  · rw [pc, pm]
    simp only [ob_s, if_true]
    unfold fn_TM_note
    rw [if_neg (show ¬ (8 : Int32) = 0 from by decide)]
    simp only [ob_s]
    unfold fb_TM_handOut_71 fb_MOD_handOut_96
    rw [if_pos rfl, if_pos rfl]
    exact sm_0 (nt_R h 8 (by decide))
def cp_O (x : sg_T) (d s : Nat) : sg_T := if x 7 s = 0 then sg_up (sg_up x 6 d (x 6 s)) 7 d 0 else sg_up x 7 d (x 7 s)
theorem cp_e (d s : Nat) (x : sg_T) : fn_OPD_copy d s x = some (cp_O x d s) := by
  simp only [fn_OPD_copy, fn_OPD_isAwaited, fn_OPD_haveValue, fn_OPD_waitFor]
  unfold cp_O
  by_cases h7 : x 7 s = 0
  · simp [h7]
  · simp [h7]
theorem cp_0 {d s : Nat} {x : sg_T} {r c : Nat} (n6 : ¬ (r = 6 ∧ c = d)) (n7 : ¬ (r = 7 ∧ c = d)) : cp_O x d s r c = x r c := by
  unfold cp_O
  split
  · rw [sg_ne n7, sg_ne n6]
  · rw [sg_ne n7]
theorem cp_7 {d s : Nat} {x : sg_T} : cp_O x d s 7 d = x 7 s := by
  unfold cp_O
  split
  · rename_i h; rw [sg_eq, h]
  · rw [sg_eq]
theorem cp_6 {d s : Nat} {x : sg_T} (h0 : x 7 s = 0) : cp_O x d s 6 d = x 6 s := by
  unfold cp_O
  rw [if_pos h0, sg_ne (by omega), sg_eq]
theorem sta_C {A B a b : sg_T} (h : m_R A B a b) (i : Nat) (hi : i < 30) (k : Nat) (hk2 : 2 ≤ k) (hk6 : k ≤ 6) (ek : a 1 i = nI k) (t : Nat) (h1 : 1 ≤ t) (ht5 : t ≤ 5) (hkt : (k = 2 ∨ k = 3 ∨ k = 6) ∧ t ≤ 3 ∨ (k = 4 ∨ k = 5) ∧ 4 ≤ t) (hf : a 12 t = 0) : sm_S A B ((fb_TM_handToStation_33 i (nI t) a).bind (fun z => fb_TM_handOut_71 z.1 z.2)) ((fb_MOD_reckoned_56 (nI i) (nI t) b).bind (fun z => fb_MOD_handOut_96 (nI i) (nI k) (b 32 i) z.1 z.2)) := by
  have I := h.c.ins i hi
  have q := h.c.uni t (by omega) (by omega)
  obtain ⟨R, hR, eR, eR2⟩ := I.r
  obtain ⟨S, hS, eS, eS2⟩ := I.s
  have ek2 : b 31 i = nI k := by
    obtain ⟨k', _, e1, e2⟩ := I.op
    rw [e2, ← e1, ek]
  have m96 : ∀ b', fb_MOD_handOut_96 (nI i) (nI k) (b 32 i) 1 b' = some (sg_up (sg_up b' 30 7 (b' 30 7 + 1)) 30 4 (b' 30 4 + 1)) := by
    intro b'
    unfold fb_MOD_handOut_96
    have nk : ∀ j, 7 ≤ j → j < 13 → nI k ≠ nI j := fun j h7 h13 h => by have := (n_eq (by omega) (by omega)).1 h; omega
    rw [if_neg (by decide), if_neg (show ¬ nI k = (7 : Int32) from nk 7 (by omega) (by omega)), if_neg (show ¬ nI k = (8 : Int32) from nk 8 (by omega) (by omega)), if_neg (show ¬ nI k = (9 : Int32) from nk 9 (by omega) (by omega)), if_neg (show ¬ nI k = (10 : Int32) from nk 10 (by omega) (by omega)), if_neg (show ¬ nI k = (11 : Int32) from nk 11 (by omega) (by omega)), if_neg (show ¬ nI k = (12 : Int32) from nk 12 (by omega) (by omega)), sg_ne (by omega)]
  have nz : nI t ≠ 0 := n_z (by omega) (by omega)
  have hA : ∃ x, fn_OPD_copy (5 + 2 * t) R (sg_up (sg_up (sg_up (sg_up a 12 t 1) 13 t (nI k)) 17 t 0) 18 t (a 0 7)) = some x ∧ (∀ r c, ¬ (r = 6 ∧ c = 5 + 2 * t) → ¬ (r = 7 ∧ c = 5 + 2 * t) → x r c = (sg_up (sg_up (sg_up (sg_up a 12 t 1) 13 t (nI k)) 17 t 0) 18 t (a 0 7)) r c) ∧ x 7 (5 + 2 * t) = a 7 R ∧ (a 7 R = 0 → x 6 (5 + 2 * t) = a 6 R) := by
    refine ⟨_, cp_e _ _ _, fun r c n6 n7 => cp_0 n6 n7, ?_, ?_⟩
    · rw [cp_7]; simp [sg_a]
    · intro h0
      rw [cp_6 (by simp [sg_a]; exact h0)]; simp [sg_a]
  obtain ⟨x, ex, x0, x7, x6⟩ := hA
  have hB : ∃ y, fn_OPD_copy (6 + 2 * t) S x = some y ∧ (∀ r c, ¬ (r = 6 ∧ c = 5 + 2 * t) → ¬ (r = 7 ∧ c = 5 + 2 * t) → ¬ (r = 6 ∧ c = 6 + 2 * t) → ¬ (r = 7 ∧ c = 6 + 2 * t) → y r c = (sg_up (sg_up (sg_up (sg_up a 12 t 1) 13 t (nI k)) 17 t 0) 18 t (a 0 7)) r c) ∧ y 7 (5 + 2 * t) = a 7 R ∧ (a 7 R = 0 → y 6 (5 + 2 * t) = a 6 R) ∧ y 7 (6 + 2 * t) = a 7 S ∧ (a 7 S = 0 → y 6 (6 + 2 * t) = a 6 S) := by
    have xs7 : x 7 S = a 7 S := by rw [x0 7 S (by omega) (by omega)]; simp [sg_a]
    have xs6 : x 6 S = a 6 S := by rw [x0 6 S (by omega) (by omega)]; simp [sg_a]
    refine ⟨_, cp_e _ _ _, ?_, ?_, ?_, ?_, ?_⟩
    · intro r c n1 n2 n3 n4
      rw [cp_0 n3 n4]
      exact x0 r c n1 n2
    · rw [cp_0 (by omega) (by omega), x7]
    · intro h0
      rw [cp_0 (by omega) (by omega), x6 h0]
    · rw [cp_7, xs7]
    · intro h0
      rw [cp_6 (by rw [xs7]; exact h0), xs6]
  obtain ⟨y, ey, y0, y7, y6, z7, z6⟩ := hB
  have yi : ∀ r c, r < 6 → y r c = a r c := by
    intro r c hr
    rw [y0 r c (by omega) (by omega) (by omega) (by omega), sg_ne (by omega), sg_ne (by omega), sg_ne (by omega), sg_ne (by omega)]
  obtain ⟨D, hD, hDc, hDm⟩ : ∃ D, D < 5 ∧ (fb_TM_handToStation_33 i (nI t) a = some (1, sg_up (sg_up y 7 D (nI t)) 0 4 (a 0 4 + 1))) ∧ (fb_MOD_reckoned_56 (nI i) (nI t) b = some (1, sg_up (sg_up (sg_up (sg_up (sg_up (sg_up (sg_up (sg_up b 40 t 1) 41 t (nI k)) 45 (2 * t) (b 36 R)) 46 (2 * t) (b 37 R)) 45 (2 * t + 1) (b 36 S)) 46 (2 * t + 1) (b 37 S)) 48 t (b 30 7)) 37 D (nI t))) := by
    have cc : fb_TM_handToStation_33 i (nI t) a = (if (y 1 i) = (6 : Int32) then fb_TM_handToStation_122 (nI t) (4 : Int32) y else fb_TM_handToStation_122 (nI t) (y 2 i) y) := by
      unfold fb_TM_handToStation_33
      rw [if_neg (n_m1 (by omega)), n_b (k := t) (by omega) (by omega), gt_t, n_t (k := t) (by omega)]
      unfold fn_UNI_claim
      simp only [ob_s]
      rw [ek, show (sg_up (sg_up (sg_up (sg_up a 12 t 1) 13 t (nI k)) 17 t 0) 18 t (a 0 7)) 2 i = nI R from by simp [sg_a]; exact eR, n_b (k := R) (by omega) (by omega), gt_t, gt_t, n_t (k := R) (by omega), ex]
      simp only [ob_s]
      rw [x0 3 i (by omega) (by omega), show (sg_up (sg_up (sg_up (sg_up a 12 t 1) 13 t (nI k)) 17 t 0) 18 t (a 0 7)) 3 i = nI S from by simp [sg_a]; exact eS, n_b (k := S) (by omega) (by omega), gt_t, gt_t, n_t (k := S) (by omega), ey]
      simp only [ob_s]
    have mm : fb_MOD_reckoned_56 (nI i) (nI t) b = (if k = 6 then some ((1 : Int32), sg_up (sg_up (sg_up (sg_up (sg_up (sg_up (sg_up (sg_up b 40 t 1) 41 t (nI k)) 45 (2 * t) (b 36 R)) 46 (2 * t) (b 37 R)) 45 (2 * t + 1) (b 36 S)) 46 (2 * t + 1) (b 37 S)) 48 t (b 30 7)) 37 4 (nI t)) else some ((1 : Int32), sg_up (sg_up (sg_up (sg_up (sg_up (sg_up (sg_up (sg_up b 40 t 1) 41 t (nI k)) 45 (2 * t) (b 36 R)) 46 (2 * t) (b 37 R)) 45 (2 * t + 1) (b 36 S)) 46 (2 * t + 1) (b 37 S)) 48 t (b 30 7)) 37 R (nI t))) := by
      unfold fb_MOD_reckoned_56
      rw [if_neg nz, n_b (k := i) (by omega) (by omega), gt_t, gt_t, gt_t, n_t (k := i) (by omega), ek2, eR2, eS2, take_e t R S (by omega) (by omega) (by omega)]
      simp only [ob_s, gt_t]
      rw [show (sg_up (sg_up (sg_up (sg_up (sg_up (sg_up (sg_up b 40 t 1) 41 t (nI k)) 45 (2 * t) (b 36 R)) 46 (2 * t) (b 37 R)) 45 (2 * t + 1) (b 36 S)) 46 (2 * t + 1) (b 37 S)) 48 t (b 30 7)) 31 i = nI k from by simp [sg_a]; exact ek2, show (sg_up (sg_up (sg_up (sg_up (sg_up (sg_up (sg_up b 40 t 1) 41 t (nI k)) 45 (2 * t) (b 36 R)) 46 (2 * t) (b 37 R)) 45 (2 * t + 1) (b 36 S)) 46 (2 * t + 1) (b 37 S)) 48 t (b 30 7)) 32 i = nI R from by simp [sg_a]; exact eR2, n_b (k := R) (by omega) (by omega), gt_t, n_t (k := R) (by omega), show ib_I (4 : Int32) 5 = true from by decide, gt_t, show tn_I (4 : Int32) = 4 from by decide]
      by_cases k6 : k = 6
      · rw [if_pos (show nI k = (6 : Int32) from by rw [k6]; rfl), if_pos k6]
      · rw [if_neg (show ¬ nI k = (6 : Int32) from fun h => k6 ((n_eq (by omega) (by omega) : nI k = nI 6 ↔ _).1 h)), if_neg k6]
    rw [cc, mm, yi 1 i (by omega), yi 2 i (by omega), ek, eR]
    by_cases k6 : k = 6
    · rw [if_pos (show nI k = (6 : Int32) from by rw [k6]; rfl), if_pos k6]
      refine ⟨4, by omega, ?_, rfl⟩
      unfold fb_TM_handToStation_122 fn_OPD_waitFor
      rw [show ib_I (4 : Int32) 5 = true from by decide, gt_t, show tn_I (4 : Int32) = 4 from by decide]
      simp only [ob_s]
      rw [sg_ne (by omega), yi 0 4 (by omega)]
    · rw [if_neg (show ¬ nI k = (6 : Int32) from fun h => k6 ((n_eq (by omega) (by omega) : nI k = nI 6 ↔ _).1 h)), if_neg k6]
      refine ⟨R, by omega, ?_, rfl⟩
      unfold fb_TM_handToStation_122 fn_OPD_waitFor
      rw [n_b (k := R) (by omega) (by omega), gt_t, n_t (k := R) (by omega)]
      simp only [ob_s]
      rw [sg_ne (by omega), yi 0 4 (by omega)]
  rw [hDc, hDm]
  simp only [ob_s]
  unfold fb_TM_handOut_71
  rw [if_neg (by decide), m96]
  have y12 : ∀ c, y 12 c = if c = t then 1 else a 12 c := by
    intro c
    rw [y0 12 c (by omega) (by omega) (by omega) (by omega)]
    simp [sg_a]
  refine sm_0 (gch (t := t) h (by omega) (by omega) ?_ ?_ ?_ ?_ ?_ ?_ ?_ ?_ ?_ ?_ ?_ ?_)
  · intro r c hr
    rw [sg_ne (by omega), sg_ne (by omega), sg_ne (by omega), y0 r c (by omega) (by omega) (by omega) (by omega), sg_ne (by omega), sg_ne (by omega), sg_ne (by omega), sg_ne (by omega)]
  · intro r c hr
    rw [sg_ne (by omega), sg_ne (by omega), sg_ne (by omega), sg_ne (by omega), sg_ne (by omega), sg_ne (by omega), sg_ne (by omega), sg_ne (by omega), sg_ne (by omega), sg_ne (by omega)]
  · simp [sg_a]; rw [h.c.nxt]
  · simp [sg_a]; rw [yi 0 5 (by omega)]; exact h.c.ntd
  · simp [sg_a]; rw [yi 0 7 (by omega), h.c.hnd]
  · intro r hr
    rw [sg_ne (by omega), sg_ne (by omega), sg_ne (by omega), y0 6 r (by omega) (by omega) (by omega) (by omega)]
    simp [sg_a]; exact h.c.rv r hr
  · intro r hr
    rw [sg_ne (by omega), sg_ne (by omega), sg_a, y0 7 r (by omega) (by omega) (by omega) (by omega)]
    simp [sg_a]; rw [h.c.rt r hr]
  · intro r hr
    rw [sg_ne (by omega), sg_ne (by omega), sg_ne (by omega), y0 10 r (by omega) (by omega) (by omega) (by omega)]
    simp [sg_a]; exact h.c.gen r hr
  · have g : ∀ r c, ¬ (r = 0 ∧ (c = 4 ∨ c = 7)) → ¬ (r = 7 ∧ c = D) → (sg_up (sg_up (sg_up y 7 D (nI t)) 0 4 (a 0 4 + 1)) 0 7 ((sg_up (sg_up y 7 D (nI t)) 0 4 (a 0 4 + 1)) 0 7 + 1)) r c = y r c := by
      intro r c n1 n2
      rw [sg_ne (by omega), sg_ne (by omega), sg_ne (by omega)]
    have g12 : y 12 t = 1 := by rw [y12, if_pos rfl]
    have g13 : y 13 t = nI k := by rw [y0 13 t (by omega) (by omega) (by omega) (by omega)]; simp [sg_a]
    have g18 : y 18 t = a 0 7 := by rw [y0 18 t (by omega) (by omega) (by omega) (by omega)]; simp [sg_a]
    generalize (sg_up (sg_up (sg_up y 7 D (nI t)) 0 4 (a 0 4 + 1)) 0 7 ((sg_up (sg_up y 7 D (nI t)) 0 4 (a 0 4 + 1)) 0 7 + 1)) = w at g
    refine ⟨?_, ?_, ?_, ?_, ?_, ?_, ?_, ?_, ?_, ?_, ?_, ?_, ?_⟩
    · rw [g 12 t (by omega) (by omega), g12]; simp [sg_a]
    · exact ⟨1, by omega, by rw [g 12 t (by omega) (by omega), g12]; rfl⟩
    · intro; omega
    · intro; omega
    · intro; rw [g 13 t (by omega) (by omega), g13]; simp [sg_a]
    · intro; rw [g 13 t (by omega) (by omega), g13]
      refine ⟨fun h3 => ?_, fun h4 h5 => ?_, fun h => by omega, fun h => by omega⟩
      · rcases hkt with ⟨e | e | e, _⟩ | ⟨_, _⟩
        · rw [e]; exact .inl rfl
        · rw [e]; exact .inr (.inl rfl)
        · rw [e]; exact .inr (.inr rfl)
        · omega
      · rcases hkt with ⟨_, _⟩ | ⟨e | e, _⟩
        · omega
        · rw [e]; exact .inl rfl
        · rw [e]; exact .inr rfl
    · intro; rw [g 18 t (by omega) (by omega), g18]; simp [sg_a]; exact h.c.hnd
    · intro _ h; omega
    · intro _ _
      unfold o_R
      rw [g 7 (5 + 2 * t) (by omega) (by omega), g 6 (5 + 2 * t) (by omega) (by omega), y7]
      simp [sg_a]
      exact ⟨h.c.rt R (by omega), fun h0 => by rw [y6 h0]; exact h.c.rv R (by omega)⟩
    · intro _ _
      unfold o_R
      rw [g 7 (6 + 2 * t) (by omega) (by omega), g 6 (6 + 2 * t) (by omega) (by omega), z7]
      simp [sg_a]
      exact ⟨h.c.rt S (by omega), fun h0 => by rw [z6 h0]; exact h.c.rv S (by omega)⟩
    · rw [g 12 t (by omega) (by omega), g12]; intro h; exact absurd h (by decide)
    · rw [g 12 t (by omega) (by omega), g12]; intro h; exact absurd h (by decide)
    · rw [g 12 t (by omega) (by omega), g12]; intro _ h; exact absurd h (by decide)
  · intro r hr
    have e7 : (sg_up (sg_up (sg_up y 7 D (nI t)) 0 4 (a 0 4 + 1)) 0 7 ((sg_up (sg_up y 7 D (nI t)) 0 4 (a 0 4 + 1)) 0 7 + 1)) 7 r = if r = D then nI t else a 7 r := by
      rw [sg_ne (by omega), sg_ne (by omega), sg_a, y0 7 r (by omega) (by omega) (by omega) (by omega)]
      simp [sg_a]
    have e12 : ∀ c, (sg_up (sg_up (sg_up y 7 D (nI t)) 0 4 (a 0 4 + 1)) 0 7 ((sg_up (sg_up y 7 D (nI t)) 0 4 (a 0 4 + 1)) 0 7 + 1)) 12 c = if c = t then 1 else a 12 c := by
      intro c
      rw [sg_ne (by omega), sg_ne (by omega), sg_ne (by omega), y12]
    rw [e7]
    by_cases hrD : r = D
    · rw [if_pos hrD]
      intro _
      exact ⟨t, by omega, by omega, rfl, by rw [e12, if_pos rfl]; decide⟩
    · rw [if_neg hrD]
      intro hy
      obtain ⟨t', w1, w2, w3, w4⟩ := h.c.wts r hr hy
      refine ⟨t', w1, w2, w3, ?_⟩
      rw [e12]
      split
      · decide
      · exact w4
  · simp [sg_a]; exact h.sm
  · simp [sg_a]; rw [yi 0 3 (by omega)]; exact h.md
theorem sta_R {A B a b : sg_T} (h : m_R A B a b) (i : Nat) (hi : i < 30) (k : Nat) (hk2 : 2 ≤ k) (hk6 : k ≤ 6) (ek : a 1 i = nI k) : sm_S A B ((fn_TM_handToStation i a).bind (fun z => fb_TM_handOut_71 z.1 z.2)) ((fn_MOD_reckoned (nI i) b).bind (fun z => fb_MOD_handOut_96 (nI i) (nI k) (b 32 i) z.1 z.2)) := by
  have I := h.c.ins i hi
  have ek2 : b 31 i = nI k := by
    obtain ⟨k', _, e1, e2⟩ := I.op
    rw [e2, ← e1, ek]
  have no : sm_S A B (fb_TM_handOut_71 0 a) (fb_MOD_handOut_96 (nI i) (nI k) (b 32 i) 0 b) := by
    unfold fb_TM_handOut_71 fb_MOD_handOut_96
    rw [if_pos rfl, if_pos rfl]
    exact sm_0 h
  have fin : ∀ e m f l, f_R a f l e m → ((k = 2 ∨ k = 3 ∨ k = 6) ∧ f = 1 ∧ l = 3 ∨ (k = 4 ∨ k = 5) ∧ f = 4 ∧ l = 5) → sm_S A B ((fb_TM_handToStation_33 i e a).bind (fun z => fb_TM_handOut_71 z.1 z.2)) ((fb_MOD_reckoned_56 (nI i) m b).bind (fun z => fb_MOD_handOut_96 (nI i) (nI k) (b 32 i) z.1 z.2)) := by
    intro e m f l hf hkf
    rcases hf with ⟨he, hm⟩ | ⟨t, t1, t2, he, hm, hf⟩
    · subst he hm
      unfold fb_TM_handToStation_33 fb_MOD_reckoned_56
      rw [if_pos rfl, if_pos rfl]
      simp only [ob_s]
      exact no
    · subst he hm
      exact sta_C h i hi k hk2 hk6 ek t (by omega) (by omega) (by omega) hf
  unfold fn_TM_handToStation fn_MOD_reckoned
  rw [n_b (k := i) (by omega) (by omega), gt_t, gt_t, gt_t, n_t (k := i) (by omega), ek, ek2]
  have eq : ∀ j : Nat, j < 13 → (nI k = nI j ↔ k = j) := fun j hj => n_eq (by omega) (by omega)
  rw [show (4 : Int32) = nI 4 from rfl, show (5 : Int32) = nI 5 from rfl, show (2 : Int32) = nI 2 from rfl, show (3 : Int32) = nI 3 from rfl, show (6 : Int32) = nI 6 from rfl]
  simp only [eq 4 (by omega), eq 5 (by omega), eq 2 (by omega), eq 3 (by omega), eq 6 (by omega)]
  unfold fb_MOD_reckoned_31 fb_MOD_reckoned_36 fb_TM_handToStation_16
  obtain ⟨e, m, hf, fc, fm⟩ := ff_13 h
  obtain ⟨e', m', hf', fc', fm'⟩ := ff_45 h
  have fc : fn_TM_firstLike 0 1 (nI 3) a = some (e, a) := fc
  rw [fc, fm, fc', fm']
  simp only [ob_s]
  rw [if_neg (show ¬ (1 : Int32) = 0 from by decide)]
  have cs : k = 2 ∨ k = 3 ∨ k = 4 ∨ k = 5 ∨ k = 6 := by omega
  rcases cs with c | c | c | c | c
  · have := fin e m 1 3 hf (.inl ⟨.inl c, rfl, rfl⟩)
    subst c
    simpa using this
  · have := fin e m 1 3 hf (.inl ⟨.inr (.inl c), rfl, rfl⟩)
    subst c
    simpa using this
  · have := fin e' m' 4 5 hf' (.inr ⟨.inl c, rfl, rfl⟩)
    subst c
    simpa using this
  · have := fin e' m' 4 5 hf' (.inr ⟨.inr c, rfl, rfl⟩)
    subst c
    simpa using this
  · have := fin e m 1 3 hf (.inl ⟨.inr (.inr c), rfl, rfl⟩)
    subst c
    simpa using this
