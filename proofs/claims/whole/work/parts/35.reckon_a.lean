/-! the reckoner: finish -/
def dz : Nat → Nat → Nat
  | 0, _ => 0
  | m + 1, F => if F < 16 ^ m then 1 + dz m F else 0
theorem dz_le (F : Nat) : ∀ m, dz m F ≤ m
  | 0 => Nat.le_refl 0
  | m + 1 => by
    unfold dz
    have := dz_le F m
    split <;> omega
theorem dz_hi (F : Nat) : ∀ m, F < 16 ^ m → F * 16 ^ (dz m F) < 16 ^ m
  | 0, h => by
    unfold dz
    omega
  | m + 1, h => by
    unfold dz
    by_cases h1 : F < 16 ^ m
    · rw [if_pos h1]
      have h2 := dz_hi F m h1
      rw [Nat.pow_add, Nat.pow_one, Nat.mul_left_comm, Nat.pow_succ]
      omega
    · rw [if_neg h1]
      omega
theorem dz_lo (F : Nat) (h0 : 0 < F) : ∀ m, F < 16 ^ (m + 1) → 16 ^ m ≤ F * 16 ^ (dz (m + 1) F)
  | 0, h => by
    unfold dz
    rw [if_neg (by rw [Nat.pow_zero]; omega)]
    rw [Nat.pow_zero]
    omega
  | m + 1, h => by
    rw [show dz (m + 1 + 1) F = if F < 16 ^ (m + 1) then 1 + dz (m + 1) F else 0 from rfl]
    by_cases h1 : F < 16 ^ (m + 1)
    · rw [if_pos h1]
      have h2 := dz_lo F h0 m h1
      rw [Nat.pow_add 16 1, Nat.pow_one, Nat.mul_left_comm, Nat.pow_succ]
      omega
    · rw [if_neg h1]
      omega
theorem w_pw (m : Nat) : (2 : Nat) ^ (4 * m) = 16 ^ m := by rw [Nat.pow_mul]
theorem lz_loop (F : Nat) (hF : F < 2147483648) (N : Nat) (hN : N ≤ 8) : ∀ m, m ≤ N → ∀ n, m < n → ∀ σ, fb_REC_leadingZeros_2 n (Int32.ofInt F) (Int32.ofInt N) (Int32.ofInt ((N : Int) - m)) σ = some (Int32.ofInt ((N : Int) - m + dz m F), σ)
  | 0, _, n + 1, _, σ => by
    unfold fb_REC_leadingZeros_2 dz
    rw [if_pos ((w_le (by omega) (by omega) (by omega) (by omega)).2 (by omega))]
    simp
  | m + 1, h1, n + 1, h2, σ => by
    have IH := lz_loop F hF N hN m (by omega) n (by omega) σ
    unfold fb_REC_leadingZeros_2 dz
    rw [if_neg (fun h => by have := (w_le (by omega) (by omega) (by omega) (by omega)).1 h; omega)]
    have e : (4 : Int32) * ((Int32.ofInt (N : Int) - (1 : Int32)) - Int32.ofInt ((N : Int) - (m + 1 : Nat))) = Int32.ofInt ((4 * m : Nat) : Int) := by
      rw [show (4 : Int32) = Int32.ofInt 4 from rfl, show (1 : Int32) = Int32.ofInt 1 from rfl, ← Int32.ofInt_sub, ← Int32.ofInt_sub, ← Int32.ofInt_mul]
      exact congrArg _ (by omega)
    rw [e, w_shr (by omega) (by omega) (by omega : 4 * m < 32), w_pw]
    have p0 : 0 < 16 ^ m := Nat.pow_pos (by omega)
    have e2 : ((F : Int) / ((16 ^ m : Nat) : Int)) = ((F / 16 ^ m : Nat) : Int) := (Int.natCast_ediv F (16 ^ m)).symm
    have l2 : F / 16 ^ m ≤ F := Nat.div_le_self _ _
    have e3 : (Int32.ofInt ((F : Int) / ((16 ^ m : Nat) : Int)) = 0) ↔ F < 16 ^ m := by
      rw [e2, ← Nat.div_eq_zero_iff_lt p0]
      generalize F / 16 ^ m = q at l2
      rw [show (0 : Int32) = Int32.ofInt 0 from rfl, w_eq (by omega) (by omega) (by omega) (by omega)]
      omega
    by_cases h3 : F < 16 ^ m
    · rw [if_pos (e3.2 h3), if_pos h3, show Int32.ofInt ((N : Int) - (m + 1 : Nat)) + (1 : Int32) = Int32.ofInt ((N : Int) - m) from by
        rw [show (1 : Int32) = Int32.ofInt 1 from rfl, ← Int32.ofInt_add]
        exact congrArg _ (by omega), IH]
      congr 3
      omega
    · rw [if_neg (fun h => h3 (e3.1 h)), if_neg h3]
      simp
theorem lz_all (F : Nat) (hF : F < 2147483648) (N : Nat) (hN : N ≤ 8) (σ : sg_T) : fn_REC_leadingZeros (Int32.ofInt F) (Int32.ofInt N) σ = some (Int32.ofInt (dz N F : Nat), σ) := by
  unfold fn_REC_leadingZeros
  have := lz_loop F hF N hN N (Nat.le_refl N) 9 (by omega) σ
  rw [show ((N : Int) - N) = 0 from by omega] at this
  rw [show (0 : Int32) = Int32.ofInt 0 from rfl, this]
  congr 3
  omega
def fin_M (s : Int32) (a5 : Int64) (a7 : Int32) (τ : sg_T) : Option (Int32 × sg_T) := if 0 ≤ a7 then if a7 ≤ (127 : Int32) then fb_MOD_finish_70 s a5 a7 (0 : Int32) τ else fb_MOD_finish_70 s a5 a7 (1 : Int32) τ else some ((0 : Int32), sg_up τ 30 8 (2 : Int32))
theorem mf_loop (s : Int32) (c : Int) (F : Nat) (h0 : 0 < F) (τ : sg_T) : ∀ m, m ≤ 6 → F < 16 ^ (m + 1) → ∀ n, m < n → fb_MOD_finish_14 n s (Int64.ofInt ((F * 16 ^ (6 - m) : Nat) : Int)) (Int32.ofInt (c - (6 - m : Nat))) τ = fin_M s (Int64.ofInt ((F * 16 ^ (6 - m + dz (m + 1) F) / 16 : Nat) : Int)) (Int32.ofInt (c - (6 - m + dz (m + 1) F : Nat))) τ := by
  intro m
  induction m with
  | zero =>
    intro _ hF n hn
    obtain ⟨n, rfl⟩ : ∃ k, n = k + 1 := ⟨n - 1, by omega⟩
    have b1 : F * 16 ^ 6 < 9223372036854775808 := by omega
    unfold fb_MOD_finish_14
    have d0 : dz (0 + 1) F = 0 := by
      unfold dz
      rw [if_neg (by rw [Nat.pow_zero]; omega)]
    rw [d0]
    rw [show (16777216 : Int64) = Int64.ofInt 16777216 from rfl, if_pos ((l_cmp (by omega) (by omega) (by omega) (by omega)).2.1.2 (by omega) : 0 ≤ lg_cmp (Int64.ofInt ((F * 16 ^ (6 - 0) : Nat) : Int)) (Int64.ofInt 16777216))]
    unfold gt_d
    rw [if_pos (by decide)]
    unfold fin_M
    rw [show (16 : Int64) = Int64.ofInt 16 from rfl, l_div (by omega) (by omega) (by omega) (by omega)]
    simp only [Nat.add_zero]
    rfl
  | succ m IH =>
    intro hm hF n hn
    obtain ⟨n, rfl⟩ : ∃ k, n = k + 1 := ⟨n - 1, by omega⟩
    have q0 : 0 < 16 ^ (6 - (m + 1)) := Nat.pow_pos (by omega)
    have pq : 16 ^ (m + 1) * 16 ^ (6 - (m + 1)) = 16777216 := by
      rw [← Nat.pow_add, show m + 1 + (6 - (m + 1)) = 6 from by omega]
    have hp : F * 16 ^ (6 - (m + 1)) < 16 * 16777216 := by
      have := Nat.mul_lt_mul_of_pos_right hF q0
      rw [Nat.pow_succ, Nat.mul_assoc, Nat.mul_comm 16, ← Nat.mul_assoc, pq] at this
      omega
    have cmp : (0 ≤ lg_cmp (Int64.ofInt ((F * 16 ^ (6 - (m + 1)) : Nat) : Int)) (Int64.ofInt 16777216)) ↔ 16 ^ (m + 1) ≤ F := by
      rw [(l_cmp (by omega) (by omega) (by omega) (by omega)).2.1]
      constructor
      · intro h
        apply Nat.le_of_mul_le_mul_right _ q0
        rw [pq]
        omega
      · intro h
        have := Nat.mul_le_mul_right (16 ^ (6 - (m + 1))) h
        rw [pq] at this
        omega
    unfold fb_MOD_finish_14
    rw [show (16777216 : Int64) = Int64.ofInt 16777216 from rfl]
    rw [show dz (m + 1 + 1) F = if F < 16 ^ (m + 1) then 1 + dz (m + 1) F else 0 from rfl]
    by_cases h3 : F < 16 ^ (m + 1)
    · rw [if_neg (fun h => by have := cmp.1 h; omega), if_pos h3]
      have IH := IH (by omega) h3 n (by omega)
      rw [show (16 : Int64) * Int64.ofInt ((F * 16 ^ (6 - (m + 1)) : Nat) : Int) = Int64.ofInt ((F * 16 ^ (6 - m) : Nat) : Int) from by
        rw [show (16 : Int64) = Int64.ofInt 16 from rfl, ← Int64.ofInt_mul]
        congr 1
        rw [show 6 - m = (6 - (m + 1)) + 1 from by omega, Nat.pow_succ, ← Nat.mul_assoc]
        omega]
      rw [show Int32.ofInt (c - (6 - (m + 1) : Nat)) + (-1) = Int32.ofInt (c - (6 - m : Nat)) from by
        rw [show (-1 : Int32) = Int32.ofInt (-1) from rfl, ← Int32.ofInt_add]
        exact congrArg _ (by omega)]
      rw [IH, show 6 - m + dz (m + 1) F = 6 - (m + 1) + (1 + dz (m + 1) F) from by omega]
    · rw [if_pos (cmp.2 (by omega)), if_neg h3]
      unfold gt_d
      rw [if_pos (by decide)]
      unfold fin_M
      rw [show (16 : Int64) = Int64.ofInt 16 from rfl, l_div (by omega) (by omega) (by omega) (by omega)]
      simp only [Nat.add_zero]
      rfl
def pk (s : Int32) (l : Int) (n : Nat) : Int32 := Int32.ofInt (l * 16777216 + n + (if s = 0 then 0 else 2147483648))
theorem pk_c (s : Int32) (l n : Nat) (hl : l < 128) (hn : n < 16777216) (σ : sg_T) : fb_REC_finish_60 s (Int32.ofInt n) (Int32.ofInt l) σ = some (sg_up σ 20 0 (pk s l n)) := by
  have e1 : Int32.ofInt (l : Int) <<< ((24 : Int32) &&& 31) = Int32.ofInt (((l <<< 24 : Nat)) : Int) := by
    rw [show (24 : Int32) = Int32.ofInt ((24 : Nat) : Int) from rfl, w_shl _ (by omega), Nat.shiftLeft_eq]
    congr 1
  have nb : ∀ k : Nat, k < 4294967296 → (Int32.ofInt (k : Int)).toBitVec.toNat = k := by
    intro k hk
    rw [Int32.toBitVec_ofInt, BitVec.ofInt_natCast, BitVec.toNat_ofNat]
    omega
  have s24 : l <<< 24 = l * 16777216 := by rw [Nat.shiftLeft_eq]
  have or1 : l <<< 24 + n = l <<< 24 ||| n := Nat.shiftLeft_add_eq_or_of_lt hn l
  have or2 : 1 <<< 31 + (l <<< 24 + n) = 1 <<< 31 ||| (l <<< 24 + n) := Nat.shiftLeft_add_eq_or_of_lt (by omega) 1
  unfold fb_REC_finish_60 fb_REC_finish_71 pk
  rw [e1]
  by_cases hs : s = 0
  · rw [if_pos hs, if_pos hs]
    refine congrArg (fun v => some (sg_up σ 20 0 v)) ?_
    apply Int32.toBitVec_inj.1
    apply BitVec.eq_of_toNat_eq
    rw [Int32.toBitVec_or, Int32.toBitVec_or, BitVec.toNat_or, BitVec.toNat_or, nb _ (by omega), nb _ (by omega), show Int32.toBitVec 0 = 0#32 from rfl]
    rw [show ((l : Int) * (16777216 : Int) + (n : Int) + (0 : Int)) = ((l <<< 24 + n : Nat) : Int) from by omega, nb _ (by omega), or1]
    simp
  · rw [if_neg hs, if_neg hs]
    refine congrArg (fun v => some (sg_up σ 20 0 v)) ?_
    apply Int32.toBitVec_inj.1
    apply BitVec.eq_of_toNat_eq
    rw [Int32.toBitVec_or, Int32.toBitVec_or, BitVec.toNat_or, BitVec.toNat_or, nb _ (by omega), nb _ (by omega), show (Int32.toBitVec (-2147483648)).toNat = 1 <<< 31 from by decide]
    rw [show ((l : Int) * (16777216 : Int) + (n : Int) + (2147483648 : Int)) = ((1 <<< 31 + (l <<< 24 + n) : Nat) : Int) from by omega, nb _ (by omega), or2, or1, Nat.or_assoc]
theorem pk_m (s : Int32) (l n : Nat) (hl : l < 128) (hn : n < 16777216) (τ : sg_T) : fb_MOD_finish_91 s (Int64.ofInt n) (Int32.ofInt l) τ = some (pk s l n, τ) := by
  unfold fb_MOD_finish_91 fb_MOD_finish_114 pk
  rw [l_of (by omega) (by omega), show (16777216 : Int64) = Int64.ofInt 16777216 from rfl, ← Int64.ofInt_mul, ← Int64.ofInt_add]
  by_cases hs : s = 0
  · rw [if_pos hs, if_pos hs, show (0 : Int64) = Int64.ofInt 0 from rfl, ← Int64.ofInt_add, Int64.toInt32_ofInt]
  · rw [if_neg hs, if_neg hs, show (2147483648 : Int64) = Int64.ofInt 2147483648 from rfl, ← Int64.ofInt_add, Int64.toInt32_ofInt]
def rr_R (σ τ : sg_T) (V E : Int32) (σ' τ' : sg_T) : Prop := σ' 20 0 = V ∧ σ' 20 1 = E ∧ τ' 30 8 = E ∧ (∀ r c, r ≠ 20 → σ' r c = σ r c) ∧ (∀ r c, r ≠ 50 → ¬ (r = 30 ∧ c = 8) → τ' r c = τ r c)
theorem fin_b (s : Int32) (c : Int) (F : Nat) (hF : F < 268435456) (hc1 : -1000 ≤ c) (hc2 : c ≤ 255) (σ τ : sg_T) (hs : σ 20 1 = 0) (ht : τ 30 8 = 0) : ∃ V E σ' τ', fn_REC_finish s (Int32.ofInt c) (Int32.ofInt F) σ = some σ' ∧ fn_MOD_finish s (Int32.ofInt c) (Int64.ofInt F) τ = some (V, τ') ∧ rr_R σ τ V E σ' τ' := by
  unfold fn_REC_finish fn_MOD_finish
  by_cases h0 : F = 0
  · subst h0
    refine ⟨0, 0, sg_up σ 20 0 0, τ, ?_, ?_, sg_eq _ _ _ _, (sg_ne (by decide)).trans hs, ht, fun r c h => sg_ne (fun h1 => h h1.1), fun _ _ _ _ => rfl⟩
    · rw [if_pos (by rfl)]
    · rw [if_pos (by rfl)]
  · have z0 := dz_le F 7
    have z1 := dz_hi F 7 (by omega)
    have z2 : 16 ^ 6 ≤ F * 16 ^ dz 7 F := dz_lo F (by omega) 6 (by omega)
    rw [if_neg (fun h => h0 (by have := (w_eq (by omega) (by omega) (by omega) (by omega) : Int32.ofInt (F : Int) = Int32.ofInt 0 ↔ _).1 h; omega))]
    rw [if_neg (fun h => h0 (by have := (l_cmp (by omega) (by omega) (by omega) (by omega) : (lg_cmp (Int64.ofInt (F : Int)) (Int64.ofInt 0) = 0 ↔ _) ∧ _).1.1 h; omega))]
    have mf := mf_loop s c F (by omega) τ 6 (by omega) (by omega) 8 (by omega)
    rw [show F * 16 ^ (6 - 6) = F from by omega, show c - ((6 - 6 : Nat) : Int) = c from by omega, show 6 - 6 + dz (6 + 1) F = dz 7 F from Nat.zero_add _] at mf
    rw [mf, show (7 : Int32) = Int32.ofInt ((7 : Nat) : Int) from rfl, lz_all F (by omega) 7 (by omega)]
    simp only [Option.bind_some]
    rw [← Int32.ofInt_sub]
    have sh : (Int32.ofInt (F : Int) <<< (((4 : Int32) * Int32.ofInt (dz 7 F : Nat)) &&& 31)) >>> ((4 : Int32) &&& 31) = Int32.ofInt ((F * 16 ^ dz 7 F / 16 : Nat) : Int) := by
      rw [show (4 : Int32) * Int32.ofInt (dz 7 F : Nat) = Int32.ofInt ((4 * dz 7 F : Nat) : Int) from by
        rw [show (4 : Int32) = Int32.ofInt 4 from rfl, ← Int32.ofInt_mul]
        exact congrArg _ (by omega)]
      rw [w_shl _ (by omega), w_pw, show (4 : Int32) = Int32.ofInt ((4 : Nat) : Int) from rfl]
      rw [← Int.natCast_mul, w_shr (by omega) (by omega) (by omega)]
      rfl
    rw [sh]
    generalize hn : F * 16 ^ dz 7 F / 16 = n
    have hn2 : n < 16777216 := by omega
    generalize hz : c - (dz 7 F : Nat) = l
    have l1 : -2000 ≤ l := by omega
    have l2 : l ≤ 255 := by omega
    have c1 : (0 ≤ Int32.ofInt l) ↔ 0 ≤ l := (w_le (by omega) (by omega) (by omega) (by omega) : Int32.ofInt 0 ≤ _ ↔ _)
    have c2 : (Int32.ofInt l ≤ 127) ↔ l ≤ 127 := (w_le (by omega) (by omega) (by omega) (by omega) : _ ≤ Int32.ofInt 127 ↔ _)
    unfold fin_M
    by_cases q1 : 0 ≤ l
    · rw [if_pos (c1.2 q1), if_pos (c1.2 q1)]
      by_cases q2 : l ≤ 127
      · rw [if_pos (c2.2 q2), if_pos (c2.2 q2)]
        obtain ⟨k, rfl⟩ : ∃ k : Nat, l = k := ⟨l.toNat, by omega⟩
        unfold fb_MOD_finish_70
        rw [if_pos (c2.2 q2), pk_c s k n (by omega) hn2, pk_m s k n (by omega) hn2]
        refine ⟨pk s k n, 0, _, _, rfl, rfl, sg_eq _ _ _ _, ?_, sg_eq _ _ _ _, ?_, ?_⟩
        · rw [sg_ne (by decide), sg_ne (by decide), hs]
        · intro r c h
          rw [sg_ne (fun h1 => h h1.1), sg_ne (fun h1 => h h1.1)]
        · intro r c _ h
          rw [sg_ne h]
      · rw [if_neg (fun h => q2 (c2.1 h)), if_neg (fun h => q2 (c2.1 h))]
        obtain ⟨k, rfl⟩ : ∃ k : Nat, l = (k : Int) + 128 := ⟨(l - 128).toNat, by omega⟩
        unfold fb_MOD_finish_70
        rw [if_neg (fun h => q2 (c2.1 h))]
        rw [show Int32.ofInt ((k : Int) + 128) + (-128) = Int32.ofInt k from by
          rw [show (-128 : Int32) = Int32.ofInt (-128) from by decide +kernel, ← Int32.ofInt_add]
          exact congrArg _ (by omega)]
        rw [show Int32.ofInt ((k : Int) + 128) - (128) = Int32.ofInt k from by
          rw [show (128 : Int32) = Int32.ofInt (128) from by decide +kernel, ← Int32.ofInt_sub]
          exact congrArg _ (by omega)]
        rw [pk_c s k n (by omega) hn2, pk_m s k n (by omega) hn2]
        refine ⟨pk s k n, 1, _, _, rfl, rfl, sg_eq _ _ _ _, ?_, sg_eq _ _ _ _, ?_, ?_⟩
        · rw [sg_ne (by decide), sg_eq]
        · intro r c h
          rw [sg_ne (fun h1 => h h1.1), sg_ne (fun h1 => h h1.1), sg_ne (fun h1 => h h1.1)]
        · intro r c _ h
          rw [sg_ne h]
    · rw [if_neg (fun h => q1 (c1.1 h)), if_neg (fun h => q1 (c1.1 h))]
      refine ⟨0, 2, _, _, rfl, rfl, ?_, sg_eq _ _ _ _, sg_eq _ _ _ _, ?_, ?_⟩
      · rw [sg_ne (by decide), sg_eq]
      · intro r c h
        rw [sg_ne (fun h1 => h h1.1), sg_ne (fun h1 => h h1.1)]
      · intro r c _ h
        rw [sg_ne h]
