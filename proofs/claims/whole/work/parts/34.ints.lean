/-! words: integers behind Int32 and Int64 -/
theorem w_t {n : Int} (h1 : -2147483648 ≤ n) (h2 : n < 2147483648) : (Int32.ofInt n).toInt = n := Int32.toInt_ofInt_of_le h1 h2
theorem w_lt {m n : Int} (h1 : -2147483648 ≤ m) (h2 : m < 2147483648) (h3 : -2147483648 ≤ n) (h4 : n < 2147483648) : Int32.ofInt m < Int32.ofInt n ↔ m < n := by
  rw [Int32.lt_iff_toInt_lt, w_t h1 h2, w_t h3 h4]
theorem w_le {m n : Int} (h1 : -2147483648 ≤ m) (h2 : m < 2147483648) (h3 : -2147483648 ≤ n) (h4 : n < 2147483648) : Int32.ofInt m ≤ Int32.ofInt n ↔ m ≤ n := by
  rw [Int32.le_iff_toInt_le, w_t h1 h2, w_t h3 h4]
theorem w_eq {m n : Int} (h1 : -2147483648 ≤ m) (h2 : m < 2147483648) (h3 : -2147483648 ≤ n) (h4 : n < 2147483648) : Int32.ofInt m = Int32.ofInt n ↔ m = n := by
  rw [← Int32.toInt_inj, w_t h1 h2, w_t h3 h4]
theorem w_own (x : Int32) : x = Int32.ofInt x.toInt := (Int32.ofInt_toInt x).symm
theorem w_m31 : ∀ k : Fin 32, (Int32.ofInt (k.val : Int)) &&& 31 = Int32.ofInt (k.val : Int) ∧ ((Int32.ofInt (k.val : Int)).toBitVec.smod 32).toNat = k.val := by decide +kernel
theorem w_shrt (a : Int32) {k : Nat} (hk : k < 32) : (a >>> (Int32.ofInt (k : Int) &&& 31)).toInt = a.toInt / (2 ^ k : Nat) := by
  have h := w_m31 ⟨k, hk⟩
  rw [h.1, ← Int32.toInt_toBitVec, Int32.toBitVec_shiftRight]
  show (a.toBitVec.sshiftRight (_)).toInt = _
  rw [h.2, BitVec.toInt_sshiftRight, Int.shiftRight_eq_div_pow, Int32.toInt_toBitVec]
theorem w_shr {n : Int} (h1 : -2147483648 ≤ n) (h2 : n < 2147483648) {k : Nat} (hk : k < 32) : Int32.ofInt n >>> (Int32.ofInt (k : Int) &&& 31) = Int32.ofInt (n / (2 ^ k : Nat)) := by
  rw [w_own (_ >>> _), w_shrt _ hk, w_t h1 h2]
theorem w_shl (n : Int) {k : Nat} (hk : k < 32) : Int32.ofInt n <<< (Int32.ofInt (k : Int) &&& 31) = Int32.ofInt (n * (2 ^ k : Nat)) := by
  have h := w_m31 ⟨k, hk⟩
  rw [h.1]
  apply Int32.toBitVec_inj.1
  rw [Int32.toBitVec_shiftLeft, BitVec.shiftLeft_eq', h.2, Int32.toBitVec_ofInt, Int32.toBitVec_ofInt, BitVec.shiftLeft_eq_mul_twoPow, BitVec.ofInt_mul]
  congr 1
  apply BitVec.eq_of_toNat_eq
  rw [BitVec.ofInt_natCast, BitVec.toNat_twoPow, BitVec.toNat_ofNat]
theorem w_fN (a : Int32) : a &&& 16777215 = Int32.ofInt ((a.toBitVec.toNat % 16777216 : Nat) : Int) := by
  apply Int32.toBitVec_inj.1
  apply BitVec.eq_of_toNat_eq
  rw [Int32.toBitVec_and, BitVec.toNat_and, Int32.toBitVec_ofInt, BitVec.ofInt_natCast, BitVec.toNat_ofNat]
  show a.toBitVec.toNat &&& (2 ^ 24 - 1) = _
  rw [Nat.and_two_pow_sub_one_eq_mod]
  omega
theorem w_cN (x : Int32) : x &&& 127 = Int32.ofInt ((x.toBitVec.toNat % 128 : Nat) : Int) := by
  apply Int32.toBitVec_inj.1
  apply BitVec.eq_of_toNat_eq
  rw [Int32.toBitVec_and, BitVec.toNat_and, Int32.toBitVec_ofInt, BitVec.ofInt_natCast, BitVec.toNat_ofNat]
  show x.toBitVec.toNat &&& (2 ^ 7 - 1) = _
  rw [Nat.and_two_pow_sub_one_eq_mod]
  omega
theorem l_t {n : Int} (h1 : -9223372036854775808 ≤ n) (h2 : n < 9223372036854775808) : (Int64.ofInt n).toInt = n := Int64.toInt_ofInt_of_le h1 h2
theorem l_own (x : Int64) : x = Int64.ofInt x.toInt := (Int64.ofInt_toInt x).symm
theorem l_of {n : Int} (h1 : -2147483648 ≤ n) (h2 : n < 2147483648) : (Int32.ofInt n).toInt64 = Int64.ofInt n := Int32.toInt64_ofInt h1 (by simp [Int32.maxValue]; omega)
theorem l_div {m n : Int} (h1 : 0 ≤ m) (h2 : m < 9223372036854775808) (h3 : 0 < n) (h4 : n < 9223372036854775808) : Int64.ofInt m / Int64.ofInt n = Int64.ofInt (m / n) := by
  rw [← Int64.ofInt_tdiv (by simp [Int64.minValue]; omega) (by simp [Int64.maxValue]; omega) (by simp [Int64.minValue]; omega) (by simp [Int64.maxValue]; omega), Int.tdiv_eq_ediv_of_nonneg h1]
theorem l_m63 : ∀ k : Fin 64, (Int32.ofInt (k.val : Int)).toInt64 &&& 63 = Int64.ofInt (k.val : Int) ∧ ((Int64.ofInt (k.val : Int)).toBitVec.smod 64).toNat = k.val := by decide +kernel
theorem l_shr {n : Int} (h1 : -9223372036854775808 ≤ n) (h2 : n < 9223372036854775808) {k : Nat} (hk : k < 64) : Int64.ofInt n >>> ((Int32.ofInt (k : Int)).toInt64 &&& 63) = Int64.ofInt (n / (2 ^ k : Nat)) := by
  have h := l_m63 ⟨k, hk⟩
  rw [l_own (_ >>> _), h.1, ← Int64.toInt_toBitVec, Int64.toBitVec_shiftRight]
  show Int64.ofInt ((Int64.toBitVec _).sshiftRight (_)).toInt = _
  rw [h.2, BitVec.toInt_sshiftRight, Int.shiftRight_eq_div_pow, Int64.toInt_toBitVec, l_t h1 h2]
theorem l_shl (n : Int) {k : Nat} (hk : k < 64) : Int64.ofInt n <<< ((Int32.ofInt (k : Int)).toInt64 &&& 63) = Int64.ofInt (n * (2 ^ k : Nat)) := by
  have h := l_m63 ⟨k, hk⟩
  rw [h.1]
  apply Int64.toBitVec_inj.1
  rw [Int64.toBitVec_shiftLeft, BitVec.shiftLeft_eq', h.2, Int64.toBitVec_ofInt, Int64.toBitVec_ofInt, BitVec.shiftLeft_eq_mul_twoPow, BitVec.ofInt_mul]
  congr 1
  apply BitVec.eq_of_toNat_eq
  rw [BitVec.ofInt_natCast, BitVec.toNat_twoPow, BitVec.toNat_ofNat]
theorem l_cmp {m n : Int} (h1 : -9223372036854775808 ≤ m) (h2 : m < 9223372036854775808) (h3 : -9223372036854775808 ≤ n) (h4 : n < 9223372036854775808) : (lg_cmp (Int64.ofInt m) (Int64.ofInt n) = 0 ↔ m = n) ∧ (0 ≤ lg_cmp (Int64.ofInt m) (Int64.ofInt n) ↔ n ≤ m) ∧ (lg_cmp (Int64.ofInt m) (Int64.ofInt n) < 0 ↔ m < n) := by
  have e1 : (Int64.ofInt m > Int64.ofInt n) = (n < m) := by
    rw [gt_iff_lt, Int64.lt_iff_toInt_lt, l_t h1 h2, l_t h3 h4]
  have e2 : (Int64.ofInt m = Int64.ofInt n) = (m = n) := by
    rw [← Int64.toInt_inj, l_t h1 h2, l_t h3 h4]
  unfold lg_cmp
  simp only [e1, e2]
  by_cases a : n < m
  · rw [if_pos a]; refine ⟨⟨fun h => absurd h (by decide), fun h => by omega⟩, ⟨fun _ => by omega, fun _ => by decide⟩, ⟨fun h => absurd h (by decide), fun h => by omega⟩⟩
  · rw [if_neg a]
    by_cases b : m = n
    · rw [if_pos b]; refine ⟨⟨fun h => b, fun h => rfl⟩, ⟨fun _ => by omega, fun _ => by decide⟩, ⟨fun h => absurd h (by decide), fun h => by omega⟩⟩
    · rw [if_neg b]; refine ⟨⟨fun h => absurd h (by decide), fun h => absurd h b⟩, ⟨fun h => absurd h (by decide), fun h => by omega⟩, ⟨fun h => by omega, fun h => by decide⟩⟩
theorem w_or0 {a b : Int32} (h : a ||| b = 0) : b = 0 := by
  have h1 := congrArg Int32.toBitVec h
  rw [Int32.toBitVec_or] at h1
  apply Int32.toBitVec_inj.1
  have h2 : a.toBitVec ||| b.toBitVec = 0#32 := h1
  have h3 : b.toBitVec = 0#32 := by
    ext i hi
    have h4 := congrArg (fun v => v.getLsbD i) h2
    simp at h4
    simpa [BitVec.getLsbD_eq_getElem, hi] using h4.2
  exact h3
theorem w_xs (a b : Int32) : (0 ≤ a ^^^ b) ↔ ((0 ≤ a) ↔ (0 ≤ b)) := by
  have k : ∀ x : Int32, (0 ≤ x) ↔ x.toBitVec.msb = false := by
    intro x
    rw [Int32.le_iff_toInt_le, ← Int32.toInt_toBitVec, BitVec.msb_eq_toInt]
    simp
  rw [k, k, k, Int32.toBitVec_xor, BitVec.msb_xor]
  cases a.toBitVec.msb <;> cases b.toBitVec.msb <;> simp
