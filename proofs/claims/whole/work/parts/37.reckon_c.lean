/-! the reckoner: sum, difference, product, quotient, comparison -/
theorem bs_1 {α : Type} (o : Option α) : o.bind (fun z => some z) = o := by cases o <;> rfl
theorem bs_p {α β : Type} (o : Option (α × β)) : o.bind (fun z => some (z.1, z.2)) = o := by cases o <;> rfl
theorem gt_16 {α : Type} (k : Option α) : gt_d (decide (¬ (16 : Int64) = 0)) k = k := by
  unfold gt_d
  rw [if_pos (by decide)]
def sg01 (S : Int) : Int32 := if 0 ≤ S then 0 else 1
def c_up (c : Nat) (M : Nat) : Int := if M < 268435456 then c else c + 1
def m_up (M : Nat) : Nat := if M < 268435456 then M else M / 16
theorem ad_c (a b : Int32) (S : Int) (M : Nat) (h1 : -536870912 < S) (h2 : S < 536870912) (hM : M < 536870912) (σ : sg_T) : fb_REC_add_16 a b (Int32.ofInt S) (Int32.ofInt M) σ = fn_REC_finish (sg01 S) (Int32.ofInt (c_up (max (cN a) (cN b)) M)) (Int32.ofInt (m_up M : Nat)) σ := by
  have ha := cN_lt a
  have hb := cN_lt b
  have q1 : (Int32.ofInt (M : Int) < (268435456 : Int32)) ↔ M < 268435456 := by
    rw [show (268435456 : Int32) = Int32.ofInt 268435456 from by decide +kernel, w_lt (by omega) (by omega) (by omega) (by omega)]
    omega
  have q2 : (0 ≤ Int32.ofInt S) ↔ 0 ≤ S := (w_le (by omega) (by omega) (by omega) (by omega) : Int32.ofInt 0 ≤ _ ↔ _)
  simp only [fb_REC_add_16, fb_REC_add_41, fb_REC_add_51, gc_c, Option.bind_some, bs_1]
  unfold c_up m_up sg01
  by_cases p1 : M < 268435456
  · rw [if_pos (q1.2 p1), if_pos p1, if_pos p1]
    by_cases p2 : 0 ≤ S
    · rw [if_pos (q2.2 p2), if_pos p2]
    · rw [if_neg (fun h => p2 (q2.1 h)), if_neg p2]
  · rw [if_neg (fun h => p1 (q1.1 h)), if_neg p1, if_neg p1]
    rw [show Int32.ofInt (M : Int) >>> ((4 : Int32) &&& 31) = Int32.ofInt ((M / 16 : Nat) : Int) from by
      rw [show (4 : Int32) = Int32.ofInt ((4 : Nat) : Int) from rfl, w_shr (by omega) (by omega) (by omega)]
      rfl]
    rw [show Int32.ofInt ((max (cN a) (cN b) : Nat) : Int) + (1 : Int32) = Int32.ofInt ((max (cN a) (cN b) : Nat) + 1 : Int) from by
      rw [show (1 : Int32) = Int32.ofInt 1 from rfl, ← Int32.ofInt_add]]
    by_cases p2 : 0 ≤ S
    · rw [if_pos (q2.2 p2), if_pos p2]
    · rw [if_neg (fun h => p2 (q2.1 h)), if_neg p2]
theorem ad_m (c : Nat) (S : Int) (M : Nat) (h1 : -536870912 < S) (h2 : S < 536870912) (hM : M < 536870912) (τ : sg_T) (ht : τ 50 0 = Int32.ofInt S) : fb_MOD_sum_28 (Int32.ofInt c) (Int64.ofInt M) τ = fn_MOD_finish (sg01 S) (Int32.ofInt (c_up c M)) (Int64.ofInt (m_up M : Nat)) τ := by
  have q1 : (lg_cmp (Int64.ofInt (M : Int)) (268435456 : Int64) < 0) ↔ M < 268435456 := by
    rw [show (268435456 : Int64) = Int64.ofInt 268435456 from by decide +kernel, (l_cmp (by omega) (by omega) (by omega) (by omega)).2.2]
    omega
  have q2 : (0 ≤ lg_cmp (Int64.ofInt S) (0 : Int64)) ↔ 0 ≤ S := (l_cmp (by omega) (by omega) (by omega) (by omega) : _ ∧ (0 ≤ lg_cmp _ (Int64.ofInt 0) ↔ _) ∧ _).2.1
  simp only [fb_MOD_sum_28, fb_MOD_sum_44, fb_MOD_sum_61, fb_MOD_sum_73, fb_MOD_sum_89, bs_p, ht, gt_16]
  rw [l_of (by omega) (by omega)]
  unfold c_up m_up sg01
  by_cases p1 : M < 268435456
  · rw [if_pos (q1.2 p1), if_pos p1, if_pos p1]
    by_cases p2 : 0 ≤ S
    · rw [if_pos (q2.2 p2), if_pos p2]
      simp only [if_true]
    · rw [if_neg (fun h => p2 (q2.1 h)), if_neg p2]
      simp only [if_true]
  · rw [if_neg (fun h => p1 (q1.1 h)), if_neg p1, if_neg p1]
    rw [show Int64.ofInt (M : Int) / 16 = Int64.ofInt ((M / 16 : Nat) : Int) from by
      rw [show (16 : Int64) = Int64.ofInt 16 from rfl, l_div (by omega) (by omega) (by omega) (by omega)]
      rfl]
    rw [show Int32.ofInt (c : Int) + (1 : Int32) = Int32.ofInt ((c : Int) + 1) from by
      rw [show (1 : Int32) = Int32.ofInt 1 from rfl, ← Int32.ofInt_add]]
    by_cases p2 : 0 ≤ S
    · rw [if_pos (q2.2 p2), if_pos p2, if_neg (by decide), if_neg (by decide)]
    · rw [if_neg (fun h => p2 (q2.1 h)), if_neg p2, if_neg (by decide), if_neg (by decide)]
def rb_B (x : Option sg_T) (y : Option (Int32 × sg_T)) (σ τ : sg_T) : Prop := ∃ V E σ' τ', x = some σ' ∧ y = some (V, τ') ∧ rr_R σ τ V E σ' τ'
theorem add_b (a b : Int32) (σ τ : sg_T) (hs : σ 20 1 = 0) (ht : τ 30 8 = 0) : rb_B (fn_REC_add a b σ) (fn_MOD_sum a b τ) σ τ := by
  have hS := aS_lt a b
  have ha := cN_lt a
  have hb := cN_lt b
  unfold fn_REC_add fn_MOD_sum
  simp only [al_c, al_m, Option.bind_some, sg_eq]
  generalize aS a b = S at hS
  rw [l_of (by omega) (by omega)]
  have q1 : (0 ≤ Int32.ofInt S) ↔ 0 ≤ S := (w_le (by omega) (by omega) (by omega) (by omega) : Int32.ofInt 0 ≤ _ ↔ _)
  have q2 : (0 ≤ lg_cmp (Int64.ofInt S) (0 : Int64)) ↔ 0 ≤ S := (l_cmp (by omega) (by omega) (by omega) (by omega) : _ ∧ (0 ≤ lg_cmp _ (Int64.ofInt 0) ↔ _) ∧ _).2.1
  have key : ∀ M : Nat, M < 536870912 → rb_B (fb_REC_add_16 a b (Int32.ofInt S) (Int32.ofInt M) σ) (fb_MOD_sum_28 (Int32.ofInt (max (cN a) (cN b) : Nat)) (Int64.ofInt M) (sg_up τ 50 0 (Int32.ofInt S))) σ τ := by
    intro M hM
    rw [ad_c a b S M hS.1 hS.2 hM, ad_m _ S M hS.1 hS.2 hM _ (sg_eq _ _ _ _)]
    obtain ⟨V, E, σ', τ', e1, e2, r1, r2, r3, r4, r5⟩ := fin_b (sg01 S) (c_up (max (cN a) (cN b)) M) (m_up M) (by unfold m_up; split <;> omega) (by unfold c_up; split <;> omega) (by unfold c_up; split <;> omega) σ (sg_up τ 50 0 (Int32.ofInt S)) hs ((sg_ne (by decide)).trans ht)
    exact ⟨V, E, σ', τ', e1, e2, r1, r2, r3, r4, fun r c h1 h2 => (r5 r c h1 h2).trans (sg_ne (fun h => h1 h.1))⟩
  by_cases p : 0 ≤ S
  · rw [if_pos (q1.2 p), if_pos (q2.2 p)]
    have := key S.toNat (by omega)
    rwa [show ((S.toNat : Nat) : Int) = S from by omega] at this
  · rw [if_neg (fun h => p (q1.1 h)), if_neg (fun h => p (q2.1 h))]
    have := key (-S).toNat (by omega)
    rwa [show (((-S).toNat : Nat) : Int) = -S from by omega, Int32.ofInt_neg, Int64.ofInt_neg] at this
theorem cmp_b (a b : Int32) (σ τ : sg_T) (hs : σ 20 1 = 0) (ht : τ 30 8 = 0) : ∃ V σ' τ', fn_REC_compare a b σ = some σ' ∧ fn_MOD_compared a b τ = some (V, τ') ∧ rr_R σ τ V 0 σ' τ' := by
  have hS := aS_lt a (b ^^^ (-2147483648 : Int32))
  unfold fn_REC_compare fn_MOD_compared fn_MOD_other
  simp only [al_c, al_m, Option.bind_some, sg_eq]
  generalize aS a (b ^^^ (-2147483648 : Int32)) = S at hS
  rw [l_of (by omega) (by omega)]
  have q1 : (0 ≤ Int32.ofInt S) ↔ 0 ≤ S := (w_le (by omega) (by omega) (by omega) (by omega) : Int32.ofInt 0 ≤ _ ↔ _)
  have q2 : (0 ≤ lg_cmp (Int64.ofInt S) (0 : Int64)) ↔ 0 ≤ S := (l_cmp (by omega) (by omega) (by omega) (by omega) : _ ∧ (0 ≤ lg_cmp _ (Int64.ofInt 0) ↔ _) ∧ _).2.1
  have q3 : (Int32.ofInt S = 0) ↔ S = 0 := (w_eq (by omega) (by omega) (by omega) (by omega) : _ = Int32.ofInt 0 ↔ _)
  have q4 : (lg_cmp (Int64.ofInt S) (0 : Int64) = 0) ↔ S = 0 := (l_cmp (by omega) (by omega) (by omega) (by omega) : (lg_cmp _ (Int64.ofInt 0) = 0 ↔ _) ∧ _).1
  have fin : ∀ V : Int32, ∃ V' σ' τ', some (sg_up σ 20 0 V) = some σ' ∧ some (V, sg_up τ 50 0 (Int32.ofInt S)) = some (V', τ') ∧ rr_R σ τ V' 0 σ' τ' := fun V =>
    ⟨V, _, _, rfl, rfl, sg_eq _ _ _ _, (sg_ne (by decide)).trans hs, (sg_ne (by decide)).trans ht, fun r c h => sg_ne (fun h1 => h h1.1), fun r c h1 h2 => sg_ne (fun h => h1 h.1)⟩
  by_cases p0 : S = 0
  · rw [if_pos (q3.2 p0), if_pos (q4.2 p0)]
    exact fin 0
  · rw [if_neg (fun h => p0 (q3.1 h)), if_neg (fun h => p0 (q4.1 h))]
    by_cases p : 0 ≤ S
    · rw [if_pos (q1.2 p), if_pos (q2.2 p)]
      exact fin 2
    · rw [if_neg (fun h => p (q1.1 h)), if_neg (fun h => p (q2.1 h))]
      exact fin 1
theorem nf_c (a : Int32) (σ : sg_T) : fn_REC_normalFraction a σ = some (Int32.ofInt ((fN a * 16 ^ dz 6 (fN a) : Nat) : Int), σ) := by
  have hf := fN_lt a
  have hz := dz_le (fN a) 6
  simp only [fn_REC_normalFraction, fr_c, Option.bind_some]
  rw [show (6 : Int32) = Int32.ofInt ((6 : Nat) : Int) from rfl]
  simp only [lz_all (fN a) (by omega) 6 (by omega), Option.bind_some]
  rw [show (4 : Int32) * Int32.ofInt (dz 6 (fN a) : Nat) = Int32.ofInt ((4 * dz 6 (fN a) : Nat) : Int) from by
        rw [show (4 : Int32) = Int32.ofInt 4 from rfl, ← Int32.ofInt_mul]
        exact congrArg _ (by omega)]
  rw [w_shl _ (by omega), w_pw, ← Int.natCast_mul]
theorem nc_c (a : Int32) (σ : sg_T) : fn_REC_normalCharacteristic a σ = some (Int32.ofInt ((cN a : Int) - dz 6 (fN a)), σ) := by
  have hf := fN_lt a
  simp only [fn_REC_normalCharacteristic, fr_c, ch_c, Option.bind_some]
  rw [show (6 : Int32) = Int32.ofInt ((6 : Nat) : Int) from rfl]
  simp only [lz_all (fN a) (by omega) 6 (by omega), Option.bind_some]
  rw [← Int32.ofInt_sub]
theorem sh_l (F : Nat) (h0 : 0 < F) (τ : sg_T) : ∀ m, m ≤ 5 → F < 16 ^ (m + 1) → ∀ n, m < n → fb_MOD_short0_7 n (Int64.ofInt ((F * 16 ^ (5 - m) : Nat) : Int)) (Int32.ofInt ((5 - m : Nat) : Int)) τ = some (Int32.ofInt ((5 - m + dz (m + 1) F : Nat) : Int), τ) := by
  intro m
  induction m with
  | zero =>
    intro _ hF n hn
    obtain ⟨n, rfl⟩ : ∃ k, n = k + 1 := ⟨n - 1, by omega⟩
    have b1 : F * 16 ^ 5 < 9223372036854775808 := by omega
    unfold fb_MOD_short0_7
    have d0 : dz (0 + 1) F = 0 := by
      unfold dz
      rw [if_neg (by rw [Nat.pow_zero]; omega)]
    rw [d0]
    rw [show (1048576 : Int64) = Int64.ofInt 1048576 from by decide +kernel, if_pos ((l_cmp (by omega) (by omega) (by omega) (by omega)).2.1.2 (by omega) : 0 ≤ lg_cmp (Int64.ofInt ((F * 16 ^ (5 - 0) : Nat) : Int)) (Int64.ofInt 1048576))]
  | succ m IH =>
    intro hm hF n hn
    obtain ⟨n, rfl⟩ : ∃ k, n = k + 1 := ⟨n - 1, by omega⟩
    have q0 : 0 < 16 ^ (5 - (m + 1)) := Nat.pow_pos (by omega)
    have pq : 16 ^ (m + 1) * 16 ^ (5 - (m + 1)) = 1048576 := by
      rw [← Nat.pow_add, show m + 1 + (5 - (m + 1)) = 5 from by omega]
    have hp : F * 16 ^ (5 - (m + 1)) < 16 * 1048576 := by
      have := Nat.mul_lt_mul_of_pos_right hF q0
      rw [Nat.pow_succ, Nat.mul_assoc, Nat.mul_comm 16, ← Nat.mul_assoc, pq] at this
      omega
    have cmp : (0 ≤ lg_cmp (Int64.ofInt ((F * 16 ^ (5 - (m + 1)) : Nat) : Int)) (Int64.ofInt 1048576)) ↔ 16 ^ (m + 1) ≤ F := by
      rw [(l_cmp (by omega) (by omega) (by omega) (by omega)).2.1]
      constructor
      · intro h
        apply Nat.le_of_mul_le_mul_right _ q0
        rw [pq]
        omega
      · intro h
        have := Nat.mul_le_mul_right (16 ^ (5 - (m + 1))) h
        rw [pq] at this
        omega
    unfold fb_MOD_short0_7
    rw [show (1048576 : Int64) = Int64.ofInt 1048576 from by decide +kernel]
    rw [show dz (m + 1 + 1) F = if F < 16 ^ (m + 1) then 1 + dz (m + 1) F else 0 from rfl]
    by_cases h3 : F < 16 ^ (m + 1)
    · rw [if_neg (fun h => by have := cmp.1 h; omega), if_pos h3]
      have IH := IH (by omega) h3 n (by omega)
      rw [show (16 : Int64) * Int64.ofInt ((F * 16 ^ (5 - (m + 1)) : Nat) : Int) = Int64.ofInt ((F * 16 ^ (5 - m) : Nat) : Int) from by
        rw [show (16 : Int64) = Int64.ofInt 16 from rfl, ← Int64.ofInt_mul]
        refine congrArg _ ?_
        rw [show 5 - m = (5 - (m + 1)) + 1 from by omega, Nat.pow_succ, ← Nat.mul_assoc]
        omega]
      rw [show Int32.ofInt ((5 - (m + 1) : Nat) : Int) + (1) = Int32.ofInt ((5 - m : Nat) : Int) from by
        rw [show (1 : Int32) = Int32.ofInt (1) from rfl, ← Int32.ofInt_add]
        exact congrArg _ (by omega)]
      rw [IH, show 5 - m + dz (m + 1) F = 5 - (m + 1) + (1 + dz (m + 1) F) from by omega]
    · rw [if_pos (cmp.2 (by omega)), if_neg h3]
      rfl
theorem s0_m (a : Int32) (h0 : 0 < fN a) (τ : sg_T) : fn_MOD_short0 a τ = some (Int32.ofInt (dz 6 (fN a) : Nat), τ) := by
  have hf := fN_lt a
  simp only [fn_MOD_short0, pt_m, Option.bind_some]
  have := sh_l (fN a) h0 τ 5 (by omega) (by omega) 7 (by omega)
  rw [show fN a * 16 ^ (5 - 5) = fN a from by omega, show 5 - 5 + dz (5 + 1) (fN a) = dz 6 (fN a) from Nat.zero_add _] at this
  exact this
theorem nm_l (q N : Nat) (hN : N ≤ 6) (τ : sg_T) : ∀ m k, k + m = N → ∀ n, m < n → fb_MOD_normal_13 n (Int64.ofInt ((q * 16 ^ k : Nat) : Int)) (Int32.ofInt N) (Int32.ofInt k) τ = some (Int64.ofInt ((q * 16 ^ N : Nat) : Int), τ)
  | 0, k, hk, n + 1, _ => by
    unfold fb_MOD_normal_13
    rw [if_pos ((w_le (by omega) (by omega) (by omega) (by omega)).2 (by omega)), show k = N from by omega]
  | m + 1, k, hk, n + 1, hn => by
    have IH := nm_l q N hN τ m (k + 1) (by omega) n (by omega)
    unfold fb_MOD_normal_13
    rw [if_neg (fun h => by have := (w_le (by omega) (by omega) (by omega) (by omega)).1 h; omega)]
    rw [show (16 : Int64) = Int64.ofInt 16 from rfl, ← Int64.ofInt_mul, show (1 : Int32) = Int32.ofInt (1) from rfl, ← Int32.ofInt_add]
    rw [show (16 : Int) * ((q * 16 ^ k : Nat) : Int) = ((q * 16 ^ (k + 1) : Nat) : Int) from by
      rw [Nat.pow_succ, ← Nat.mul_assoc]
      omega]
    exact IH
theorem nm_m (a : Int32) (h0 : 0 < fN a) (τ : sg_T) : fn_MOD_normal a τ = some (Int64.ofInt ((fN a * 16 ^ dz 6 (fN a) : Nat) : Int), τ) := by
  have hz := dz_le (fN a) 6
  simp only [fn_MOD_normal, pt_m, s0_m a h0, Option.bind_some]
  have := nm_l (fN a) (dz 6 (fN a)) hz τ (dz 6 (fN a)) 0 (by omega) 8 (by omega)
  rw [Nat.pow_zero, Nat.mul_one] at this
  exact this
theorem nf_lt (a : Int32) : fN a * 16 ^ dz 6 (fN a) < 16777216 := dz_hi (fN a) 6 (fN_lt a)
theorem nf_ge (a : Int32) (h0 : 0 < fN a) : 1048576 ≤ fN a * 16 ^ dz 6 (fN a) := dz_lo (fN a) h0 5 (fN_lt a)
def sx (a b : Int32) : Int32 := if 0 ≤ a ^^^ b then 0 else 1
theorem sx_m {α : Type} (a b : Int32) (t : Int32 → α) : (if (if 0 ≤ a then (0 : Int32) else 1) = (if 0 ≤ b then (0 : Int32) else 1) then t 0 else t 1) = t (sx a b) := by
  unfold sx
  have := w_xs a b
  by_cases ha : 0 ≤ a <;> by_cases hb : 0 ≤ b <;> simp [ha, hb] at this <;> simp [ha, hb, this]
  · have h : ¬ (0 ≤ a ^^^ b) := by simpa [Int32.not_le] using this
    simp [h]
  · have h : ¬ (0 ≤ a ^^^ b) := by simpa [Int32.not_le] using this
    simp [h]
theorem sx_c {α : Type} (a b : Int32) (t : Int32 → α) : (if 0 ≤ a ^^^ b then t 0 else t 1) = t (sx a b) := by
  unfold sx
  split <;> rfl
