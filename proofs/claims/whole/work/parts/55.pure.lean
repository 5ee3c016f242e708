/-! the beginning; the pure part's end -/
theorem cl_R (w : Int32) : ∃ k, 1 ≤ k ∧ k ≤ 8 ∧ tm_c w = nI k ∧ md_c w = nI k := by
  have e1 : (1 : Int32).toInt = 1 := by decide
  have e8 : (8 : Int32).toInt = 8 := by decide
  unfold tm_c md_c
  by_cases h8 : w < 8
  · rw [if_pos h8]
    have h8' := Int32.lt_iff_toInt_lt.1 h8
    by_cases h1 : (1 : Int32) < w
    · have h1' := Int32.lt_iff_toInt_lt.1 h1
      rw [if_pos h1, if_pos (Int32.le_iff_toInt_le.2 (by omega)), if_pos (Int32.le_iff_toInt_le.2 (by omega))]
      refine ⟨w.toInt.toNat, by omega, by omega, ?_, ?_⟩ <;> rw [n_of, show ((w.toInt.toNat : Nat) : Int) = w.toInt from by omega] <;> exact w_own w
    · have h1' : ¬ (1 : Int32).toInt < w.toInt := fun h => h1 (Int32.lt_iff_toInt_lt.2 h)
      rw [if_neg h1]
      refine ⟨1, by omega, by omega, rfl, ?_⟩
      by_cases h2 : (1 : Int32) ≤ w
      · have h2' := Int32.le_iff_toInt_le.1 h2
        rw [if_pos h2, if_pos (Int32.le_iff_toInt_le.2 (by omega))]
        rw [n_of, show ((1 : Nat) : Int) = w.toInt from by omega]
        exact w_own w
      · rw [if_neg h2]; rfl
  · have h8' : ¬ w.toInt < (8 : Int32).toInt := fun h => h8 (Int32.lt_iff_toInt_lt.2 h)
    rw [if_neg h8, if_pos (by decide), if_pos (Int32.le_iff_toInt_le.2 (by omega))]
    refine ⟨8, by omega, by omega, rfl, ?_⟩
    by_cases h2 : w ≤ 8
    · have h2' := Int32.le_iff_toInt_le.1 h2
      rw [if_pos h2, n_of, show ((8 : Nat) : Int) = w.toInt from by omega]
      exact w_own w
    · rw [if_neg h2]; rfl
theorem si_iv (L : Nat) (xs : Nat → Int32) : iv (si_0 L xs) := by
  have z : ∀ r c, r ≠ 0 → r ≠ 30 → si_0 L xs r c = 0 := by
    intro r c h0 h30
    unfold si_0
    rw [if_neg h0, if_neg h30]
  have a0 : si_0 L xs 0 0 = tm_c (lc_v L xs 0) := by unfold si_0; rw [if_pos rfl, if_pos rfl]
  have a1 : si_0 L xs 0 1 = tm_c (lc_v L xs 1) := by unfold si_0; rw [if_pos rfl, if_neg (by decide), if_pos rfl]
  have b0 : si_0 L xs 30 0 = md_c (lc_v L xs 0) := by unfold si_0; rw [if_neg (by decide), if_pos rfl, if_pos rfl]
  have b1 : si_0 L xs 30 1 = md_c (lc_v L xs 1) := by unfold si_0; rw [if_neg (by decide), if_pos rfl, if_neg (by decide), if_pos rfl]
  have az : ∀ c, c ≠ 0 → c ≠ 1 → c ≠ 3 → si_0 L xs 0 c = 0 := by
    intro c h0 h1 h3
    unfold si_0; rw [if_pos rfl, if_neg h0, if_neg h1, if_neg h3]
  have bz : ∀ c, c ≠ 0 → c ≠ 1 → c ≠ 3 → si_0 L xs 30 c = 0 := by
    intro c h0 h1 h3
    unfold si_0; rw [if_neg (by decide), if_pos rfl, if_neg h0, if_neg h1, if_neg h3]
  have e3 : si_0 L xs 0 3 = 2 := by unfold si_0; rw [if_pos rfl, if_neg (by decide), if_neg (by decide), if_pos rfl]
  have b3 : si_0 L xs 30 3 = 2 := by unfold si_0; rw [if_neg (by decide), if_pos rfl, if_neg (by decide), if_neg (by decide), if_pos rfl]
  have n0 : (0 : Int32) = nI 0 := rfl
  refine ⟨⟨fun _ _ _ => rfl, fun _ _ _ => rfl, rfl, ?_, ?_, ?_, ?_, ?_, ?_, ?_, ?_, ?_, ?_, ?_, ?_, ?_, ?_⟩, ?_, ?_, ?_, ?_, ?_⟩
  · rw [a0, b0]; exact cl_R (lc_v L xs 0)
  · obtain ⟨k, _, _, e1, e2⟩ := cl_R (lc_v L xs 1)
    rw [a1, b1]
    exact e1.trans e2.symm
  · rw [az 2 (by omega) (by omega) (by omega), bz 2 (by omega) (by omega) (by omega)]
    exact ⟨0, by omega, n0, n0⟩
  · rw [az 4 (by omega) (by omega) (by omega), bz 4 (by omega) (by omega) (by omega)]
  · rw [az 5 (by omega) (by omega) (by omega), bz 5 (by omega) (by omega) (by omega)]
  · rw [az 7 (by omega) (by omega) (by omega), bz 7 (by omega) (by omega) (by omega)]
  · intro i hi
    refine ⟨⟨0, by omega, z _ _ (by omega) (by omega), z _ _ (by omega) (by omega)⟩, ⟨0, by omega, z _ _ (by omega) (by omega), z _ _ (by omega) (by omega)⟩, ⟨0, by omega, z _ _ (by omega) (by omega), z _ _ (by omega) (by omega)⟩, ⟨0, by omega, z _ _ (by omega) (by omega), z _ _ (by omega) (by omega)⟩, ?_⟩
    rw [z _ _ (by omega) (by omega), z _ _ (by omega) (by omega)]
  · intro r hr; rw [z _ _ (by omega) (by omega), z _ _ (by omega) (by omega)]
  · intro r hr; rw [z _ _ (by omega) (by omega), z _ _ (by omega) (by omega)]
  · intro r hr; rw [z _ _ (by omega) (by omega), z _ _ (by omega) (by omega)]
  · intro r hr; rw [z _ _ (by omega) (by omega), z _ _ (by omega) (by omega)]
  · intro r hr; rw [z _ _ (by omega) (by omega), z _ _ (by omega) (by omega)]
  · intro t h1 h2
    have s : si_0 L xs 12 t = 0 := z _ _ (by omega) (by omega)
    have nz : ∀ {P : Prop}, si_0 L xs 12 t ≠ 0 → P := fun h => absurd s h
    refine ⟨?_, ⟨0, by omega, s⟩, ?_, ?_, nz, nz, nz, nz, nz, nz, ?_, ?_, ?_⟩
    · rw [z _ _ (by omega) (by omega), z _ _ (by omega) (by omega)]
    · intro _; exact z _ _ (by omega) (by omega)
    · intro _ _; exact z _ _ (by omega) (by omega)
    · intro h; rw [s] at h; exact absurd h (by decide)
    · intro h; rw [s] at h; exact absurd h (by decide)
    · intro _ h; rw [s] at h; exact absurd h (by decide)
  · intro r hr h
    exact absurd (z _ _ (by omega) (by omega)) h
  · rw [e3, b3]
  · exact ⟨2, by omega, e3⟩
  · intro h; rw [e3] at h; exact absurd h (by decide)
  · intro _ _ t h1 h2
    exact z _ _ (by omega) (by omega)
  · rw [az 6 (by omega) (by omega) (by omega), bz 6 (by omega) (by omega) (by omega)]
theorem law_two : (2 : Int32) = nI 2 := by decide
theorem law_pure (L : Nat) (hL : L ≤ 3074) (xs : Nat → Int32) : fb_LAW_law_43 L xs 520 2 (si_0 L xs) = some 1 := by
  rw [law_two]
  exact law_l L hL xs 520 2 (by omega) (by omega) (by omega) (si_0 L xs) (si_iv L xs)
