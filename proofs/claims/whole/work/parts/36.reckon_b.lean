/-! the reckoner: the five ways -/
theorem fN_ex (a : Int32) : ∃ n : Nat, n < 16777216 ∧ a &&& 16777215 = Int32.ofInt (n : Int) := ⟨_, Nat.mod_lt _ (by omega), w_fN a⟩
theorem cN_ex (a : Int32) : ∃ n : Nat, n < 128 ∧ (a >>> ((24 : Int32) &&& 31)) &&& 127 = Int32.ofInt (n : Int) := ⟨_, Nat.mod_lt _ (by omega), w_cN _⟩
noncomputable def fN (a : Int32) : Nat := Classical.choose (fN_ex a)
noncomputable def cN (a : Int32) : Nat := Classical.choose (cN_ex a)
theorem fN_lt (a : Int32) : fN a < 16777216 := (Classical.choose_spec (fN_ex a)).1
theorem cN_lt (a : Int32) : cN a < 128 := (Classical.choose_spec (cN_ex a)).1
theorem fN_eq (a : Int32) : a &&& 16777215 = Int32.ofInt (fN a : Int) := (Classical.choose_spec (fN_ex a)).2
theorem cN_eq (a : Int32) : (a >>> ((24 : Int32) &&& 31)) &&& 127 = Int32.ofInt (cN a : Int) := (Classical.choose_spec (cN_ex a)).2
theorem fr_c (a : Int32) (σ : sg_T) : fn_REC_fraction a σ = some (Int32.ofInt (fN a : Nat), σ) := by
  unfold fn_REC_fraction
  rw [fN_eq]
theorem ch_c (a : Int32) (σ : sg_T) : fn_REC_characteristic a σ = some (Int32.ofInt (cN a : Nat), σ) := by
  unfold fn_REC_characteristic
  rw [cN_eq]
theorem ch_m (a : Int32) (σ : sg_T) : fn_MOD_charOf a σ = some (Int32.ofInt (cN a : Nat), σ) := ch_c a σ
theorem pt_m (a : Int32) (σ : sg_T) : fn_MOD_partOf a σ = some (Int64.ofInt (fN a : Nat), σ) := by
  have := fN_lt a
  unfold fn_MOD_partOf
  rw [fN_eq, l_of (by omega) (by omega)]
def sgn (a : Int32) (x : Int) : Int := if 0 ≤ a then x else -x
def lost (D : Int) : Nat := if D ≤ 0 then 0 else if D < 7 then D.toNat else 7
theorem lost_le (D : Int) : lost D ≤ 7 := by
  unfold lost
  split
  · omega
  · split <;> omega
theorem lost_mn {D : Nat} (h : D ≤ 7) : min D 8 = lost D := by
  unfold lost
  split
  · omega
  · split <;> omega
theorem al_1 (a : Int32) (D : Int) (h1 : -200 ≤ D) (h2 : D ≤ 200) (σ : sg_T) : fn_REC_aligned a (Int32.ofInt D) σ = some (Int32.ofInt (sgn a ((16 * fN a / 16 ^ lost D : Nat) : Int)), σ) := by
  have hf := fN_lt a
  have hl := lost_le D
  unfold fn_REC_aligned
  rw [fr_c]
  simp only [Option.bind_some]
  have e1 : (if (0 : Int32) < (if Int32.ofInt D < (7 : Int32) then Int32.ofInt D else (7 : Int32)) then (if Int32.ofInt D < (7 : Int32) then Int32.ofInt D else (7 : Int32)) else (0 : Int32)) = Int32.ofInt (lost D : Nat) := by
    have q : (Int32.ofInt D < (7 : Int32)) ↔ D < 7 := (w_lt (by omega) (by omega) (by omega) (by omega) : _ < Int32.ofInt 7 ↔ _)
    have q2 : ((0 : Int32) < Int32.ofInt D) ↔ 0 < D := (w_lt (by omega) (by omega) (by omega) (by omega) : Int32.ofInt 0 < _ ↔ _)
    unfold lost
    by_cases a1 : D < 7
    · rw [if_pos (q.2 a1)]
      by_cases a2 : 0 < D
      · rw [if_pos (q2.2 a2), if_neg (by omega), if_pos a1]
        exact congrArg _ (by omega)
      · rw [if_neg (fun h => a2 (q2.1 h)), if_pos (by omega)]
        rfl
    · rw [if_neg (fun h => a1 (q.1 h)), if_pos (by decide), if_neg (by omega), if_neg a1]
      rfl
  rw [e1]
  have e2 : ((16 : Int32) * Int32.ofInt (fN a : Nat)) >>> (((4 : Int32) * Int32.ofInt (lost D : Nat)) &&& 31) = Int32.ofInt ((16 * fN a / 16 ^ lost D : Nat) : Int) := by
    rw [show (16 : Int32) = Int32.ofInt 16 from rfl, show (4 : Int32) = Int32.ofInt 4 from rfl, ← Int32.ofInt_mul, ← Int32.ofInt_mul]
    rw [show (4 : Int) * (lost D : Nat) = ((4 * lost D : Nat) : Int) from by omega, w_shr (by omega) (by omega) (by omega), w_pw]
    rfl
  rw [e2]
  unfold sgn
  by_cases h : 0 ≤ a
  · rw [if_pos h, if_pos h]
  · rw [if_neg h, if_neg h, Int32.ofInt_neg]
noncomputable def aS (a b : Int32) : Int := sgn a ((16 * fN a / 16 ^ lost ((cN b : Int) - cN a) : Nat) : Int) + sgn b ((16 * fN b / 16 ^ lost ((cN a : Int) - cN b) : Nat) : Int)
theorem sgn_lt (a : Int32) (F k : Nat) (hF : F < 16777216) : -268435456 < sgn a ((16 * F / k : Nat) : Int) ∧ sgn a ((16 * F / k : Nat) : Int) < 268435456 := by
  have := Nat.div_le_self (16 * F) k
  generalize 16 * F / k = q at this
  unfold sgn
  split <;> omega
theorem aS_lt (a b : Int32) : -536870912 < aS a b ∧ aS a b < 536870912 := by
  have h1 := sgn_lt a (fN a) (16 ^ lost ((cN b : Int) - cN a)) (fN_lt a)
  have h2 := sgn_lt b (fN b) (16 ^ lost ((cN a : Int) - cN b)) (fN_lt b)
  unfold aS
  omega
theorem al_c (a b : Int32) (σ : sg_T) : fn_REC_alignedSum a b σ = some (Int32.ofInt (aS a b), σ) := by
  have ha := cN_lt a
  have hb := cN_lt b
  unfold fn_REC_alignedSum
  simp only [ch_c, Option.bind_some]
  rw [← Int32.ofInt_sub, ← Int32.ofInt_neg]
  simp only [al_1 a (-((cN a : Int) - cN b)) (by omega) (by omega), al_1 b ((cN a : Int) - cN b) (by omega) (by omega), Option.bind_some]
  rw [← Int32.ofInt_add, show -((cN a : Int) - cN b) = (cN b : Int) - cN a from by omega]
  rfl
theorem gc_c (a b : Int32) (σ : sg_T) : fn_REC_greaterCharacteristic a b σ = some (Int32.ofInt (max (cN a) (cN b) : Nat), σ) := by
  have ha := cN_lt a
  have hb := cN_lt b
  unfold fn_REC_greaterCharacteristic
  simp only [ch_c, Option.bind_some]
  by_cases h : cN a < cN b
  · rw [if_pos ((w_lt (by omega) (by omega) (by omega) (by omega)).2 (by omega)), Nat.max_eq_right (by omega)]
  · rw [if_neg (fun h1 => h (by have := (w_lt (by omega) (by omega) (by omega) (by omega)).1 h1; omega)), Nat.max_eq_left (by omega)]
theorem mi_m (a : Int32) (σ : sg_T) : fn_MOD_minus a σ = some (if 0 ≤ a then 0 else 1, σ) := by
  unfold fn_MOD_minus
  split <;> rfl
theorem aw_l (x y : Int32) (D : Nat) (hD : D < 128) (τ : sg_T) : ∀ m k, k + m = min D 8 → ∀ q : Nat, q < 268435456 → ∀ n, m < n → fb_MOD_align_66 n x y (Int32.ofInt D) (Int64.ofInt q) (Int32.ofInt k) τ = fb_MOD_align_94 x y (Int32.ofInt D) (Int64.ofInt ((q / 16 ^ m : Nat) : Int)) τ
  | 0, k, hk, q, hq, n + 1, _ => by
    unfold fb_MOD_align_66
    rw [show (8 : Int32) = Int32.ofInt 8 from rfl, show q / 16 ^ 0 = q from by rw [Nat.pow_zero, Nat.div_one]]
    by_cases h : D ≤ k
    · rw [if_pos ((w_le (by omega) (by omega) (by omega) (by omega)).2 (by omega))]
    · rw [if_neg (fun h1 => h (by have := (w_le (by omega) (by omega) (by omega) (by omega)).1 h1; omega)), if_pos ((w_le (by omega) (by omega) (by omega) (by omega) : Int32.ofInt 8 ≤ _ ↔ _).2 (by omega))]
  | m + 1, k, hk, q, hq, n + 1, hn => by
    have IH := aw_l x y D hD τ m (k + 1) (by omega) (q / 16) (by omega) n (by omega)
    unfold fb_MOD_align_66
    rw [show (8 : Int32) = Int32.ofInt 8 from rfl, if_neg (fun h1 => by have := (w_le (by omega) (by omega) (by omega) (by omega)).1 h1; omega), if_neg (fun h1 => by have := (w_le (by omega) (by omega) (by omega) (by omega) : Int32.ofInt 8 ≤ _ ↔ _).1 h1; omega)]
    unfold gt_d
    rw [if_pos (by decide), show (16 : Int64) = Int64.ofInt 16 from rfl, l_div (by omega) (by omega) (by omega) (by omega), show (1 : Int32) = Int32.ofInt 1 from rfl, ← Int32.ofInt_add]
    rw [show ((q : Int) / 16) = ((q / 16 : Nat) : Int) from by omega, show ((k : Int) + 1) = ((k + 1 : Nat) : Int) from by omega, IH, Nat.div_div_eq_div_mul, Nat.pow_succ, Nat.mul_comm]
theorem al_2 (x y : Int32) (h : cN y ≤ cN x) (τ : sg_T) : fb_MOD_align_37 x y τ = some (Int32.ofInt (cN x : Nat), sg_up τ 50 0 (Int32.ofInt (sgn x ((16 * fN x : Nat) : Int) + sgn y ((16 * fN y / 16 ^ lost ((cN x : Int) - cN y) : Nat) : Int)))) := by
  have hx := cN_lt x
  have fx := fN_lt x
  have fy := fN_lt y
  have s1 := sgn_lt x (fN x) 1 fx
  have s2 := sgn_lt y (fN y) (16 ^ lost ((cN x : Int) - cN y)) fy
  rw [Nat.div_one] at s1
  unfold fb_MOD_align_37
  simp only [ch_m, pt_m, Option.bind_some]
  rw [← Int32.ofInt_sub, show (16 : Int64) = Int64.ofInt 16 from rfl, ← Int64.ofInt_mul, show (0 : Int32) = Int32.ofInt ((0 : Nat) : Int) from rfl]
  rw [show ((cN x : Int) - cN y) = ((cN x - cN y : Nat) : Int) from by omega, show ((16 : Int) * (fN y : Nat)) = ((16 * fN y : Nat) : Int) from by omega]
  rw [aw_l x y (cN x - cN y) (by omega) τ (min (cN x - cN y) 8) 0 (by omega) (16 * fN y) (by omega) 9 (by omega)]
  rw [show ((cN x : Int) - cN y) = ((cN x - cN y : Nat) : Int) from by omega] at s2
  generalize hD : cN x - cN y = D at s2
  unfold fb_MOD_align_94
  have e : (if Int32.ofInt (D : Int) ≤ (7 : Int32) then fb_MOD_align_107 x y (Int64.ofInt ((16 * fN y / 16 ^ min D 8 : Nat) : Int)) τ else fb_MOD_align_107 x y (0 : Int64) τ) = fb_MOD_align_107 x y (Int64.ofInt ((16 * fN y / 16 ^ lost D : Nat) : Int)) τ := by
    rw [show (7 : Int32) = Int32.ofInt 7 from rfl]
    by_cases h7 : D ≤ 7
    · rw [if_pos ((w_le (by omega) (by omega) (by omega) (by omega) : _ ≤ Int32.ofInt 7 ↔ _).2 (by omega))]
      rw [lost_mn h7]
    · rw [if_neg (fun h1 => h7 (by have := (w_le (by omega) (by omega) (by omega) (by omega) : _ ≤ Int32.ofInt 7 ↔ _).1 h1; omega))]
      rw [show lost D = 7 from by unfold lost; rw [if_neg (by omega), if_neg (by omega)], show 16 * fN y / 16 ^ 7 = 0 from by omega]
      rfl
  rw [e]
  generalize 16 * fN y / 16 ^ lost D = q at s2
  unfold fb_MOD_align_107
  simp only [pt_m, mi_m, Option.bind_some]
  have e2 : ∀ t : sg_T → Int64 → Option (Int32 × sg_T), (if (if 0 ≤ x then (0 : Int32) else 1) = 0 then t τ ((16 : Int64) * Int64.ofInt (fN x : Nat)) else t τ (-((16 : Int64) * Int64.ofInt (fN x : Nat)))) = t τ (Int64.ofInt (sgn x ((16 * fN x : Nat) : Int))) := by
    intro t
    rw [show (16 : Int64) = Int64.ofInt 16 from rfl, ← Int64.ofInt_mul, show ((16 : Int) * (fN x : Nat)) = ((16 * fN x : Nat) : Int) from by omega]
    unfold sgn
    by_cases hx : 0 ≤ x
    · rw [if_pos hx, if_pos hx, if_pos rfl]
    · rw [if_neg hx, if_neg hx, if_neg (by decide), Int64.ofInt_neg]
  rw [e2 (fun τ v => fb_MOD_align_137 x y (Int64.ofInt (q : Int)) v τ)]
  unfold fb_MOD_align_137
  rw [mi_m]
  simp only [Option.bind_some]
  have e3 : ∀ t : Int64 → Option (Int32 × sg_T), (if (if 0 ≤ y then (0 : Int32) else 1) = 0 then t (Int64.ofInt (q : Int)) else t (-(Int64.ofInt (q : Int)))) = t (Int64.ofInt (sgn y (q : Int))) := by
    intro t
    unfold sgn
    by_cases hy : 0 ≤ y
    · rw [if_pos hy, if_pos hy, if_pos rfl]
    · rw [if_neg hy, if_neg hy, if_neg (by decide), Int64.ofInt_neg]
  rw [e3 (fun v => fb_MOD_align_153 x v _ τ)]
  unfold fb_MOD_align_153 gt_d
  rw [← Int64.ofInt_add, Int64.toInt32_ofInt, l_of (by omega) (by omega), if_pos (by simp), ch_m]
  rfl
theorem al_m (a b : Int32) (τ : sg_T) : fn_MOD_align a b τ = some (Int32.ofInt (max (cN a) (cN b) : Nat), sg_up τ 50 0 (Int32.ofInt (aS a b))) := by
  have ha := cN_lt a
  have hb := cN_lt b
  unfold fn_MOD_align
  simp only [ch_m, Option.bind_some]
  have l0 : ∀ D : Int, D ≤ 0 → lost D = 0 := fun D h => by unfold lost; rw [if_pos h]
  by_cases h : cN a < cN b
  · rw [if_pos ((w_lt (by omega) (by omega) (by omega) (by omega)).2 (by omega)), Nat.max_eq_right (by omega)]
    unfold fb_MOD_align_16
    rw [if_pos rfl]
    unfold fb_MOD_align_26
    rw [if_pos rfl, al_2 b a (by omega)]
    unfold aS
    rw [l0 ((cN a : Int) - cN b) (by omega), Nat.pow_zero, Nat.div_one, Int.add_comm]
  · rw [if_neg (fun h1 => h (by have := (w_lt (by omega) (by omega) (by omega) (by omega)).1 h1; omega)), Nat.max_eq_left (by omega)]
    unfold fb_MOD_align_16
    rw [if_neg (by decide)]
    unfold fb_MOD_align_26
    rw [if_neg (by decide), al_2 a b (by omega)]
    unfold aS
    rw [l0 ((cN b : Int) - cN a) (by omega), Nat.pow_zero, Nat.div_one]
