/-! the reckoner: product, quotient, all -/
theorem gt_pos {α : Type} {p : Prop} [Decidable p] (h : p) : gt_d (α := α) (decide p) = fun k => k := by
  funext k
  unfold gt_d
  rw [if_pos (decide_eq_true h)]
theorem i_f0 (a : Int32) : (Int32.ofInt (fN a : Int) = 0) ↔ fN a = 0 := by
  have := fN_lt a
  rw [show (0 : Int32) = Int32.ofInt 0 from rfl, w_eq (by omega) (by omega) (by omega) (by omega)]
  omega
theorem j_f0 (a : Int32) : (lg_cmp (Int64.ofInt (fN a : Int)) 0 = 0) ↔ fN a = 0 := by
  have := fN_lt a
  rw [show (0 : Int64) = Int64.ofInt 0 from rfl, (l_cmp (by omega) (by omega) (by omega) (by omega)).1]
  omega
theorem z_b (σ τ : sg_T) (hs : σ 20 1 = 0) (ht : τ 30 8 = 0) : rb_B (some (sg_up σ 20 0 0)) (some (0, τ)) σ τ :=
  ⟨0, 0, _, _, rfl, rfl, sg_eq _ _ _ _, (sg_ne (by decide)).trans hs, ht, fun r c h => sg_ne (fun h1 => h h1.1), fun _ _ _ _ => rfl⟩
theorem mul_b (a b : Int32) (σ τ : sg_T) (hs : σ 20 1 = 0) (ht : τ 30 8 = 0) : rb_B (fn_REC_multiply a b σ) (fn_MOD_product a b τ) σ τ := by
  have ha := cN_lt a
  have hb := cN_lt b
  have na := nf_lt a
  have nb := nf_lt b
  have za := dz_le (fN a) 6
  have zb := dz_le (fN b) 6
  simp only [fn_REC_multiply, fr_c, Option.bind_some]
  simp only [fn_MOD_product, pt_m, Option.bind_some]
  by_cases f1 : fN a = 0
  · rw [if_pos ((i_f0 a).2 f1), if_pos ((j_f0 a).2 f1)]
    exact z_b σ τ hs ht
  · rw [if_neg (fun h => f1 ((i_f0 a).1 h)), if_neg (fun h => f1 ((j_f0 a).1 h))]
    by_cases f2 : fN b = 0
    · rw [if_pos ((i_f0 b).2 f2), if_pos ((j_f0 b).2 f2)]
      exact z_b σ τ hs ht
    · rw [if_neg (fun h => f2 ((i_f0 b).1 h)), if_neg (fun h => f2 ((j_f0 b).1 h))]
      have ga := nf_ge a (by omega)
      have gb := nf_ge b (by omega)
      simp only [nf_c, nc_c, Option.bind_some, fb_REC_multiply_47, bs_1]
      simp only [ch_m, s0_m a (by omega), s0_m b (by omega), nm_m a (by omega), nm_m b (by omega), mi_m, Option.bind_some, fb_MOD_product_75, bs_p]
      generalize fN a * 16 ^ dz 6 (fN a) = x at *
      generalize fN b * 16 ^ dz 6 (fN b) = y at *
      generalize dz 6 (fN a) = p at *
      generalize dz 6 (fN b) = q at *
      have hxy : x * y < 16777216 * 16777216 := Nat.mul_lt_mul'' na nb
      rw [l_of (by omega) (by omega), l_of (by omega) (by omega), ← Int64.ofInt_mul, ← Int.natCast_mul]
      rw [show (20 : Int32) = Int32.ofInt ((20 : Nat) : Int) from rfl, l_shr (by omega) (by omega) (by omega), Int64.toInt32_ofInt]
      rw [show (1048576 : Int64) = Int64.ofInt 1048576 from by decide +kernel]
      rw [l_div (by omega) (by omega) (by omega) (by omega)]
      rw [show gt_d (decide ¬Int64.ofInt 1048576 = 0) = (fun (k : Option (Int32 × sg_T)) => k) from by
        funext k
        unfold gt_d
        rw [if_pos (by decide +kernel)]]
      rw [show ((x * y : Nat) : Int) / ((2 ^ 20 : Nat) : Int) = ((x * y / 1048576 : Nat) : Int) from by omega, show ((x * y : Nat) : Int) / 1048576 = ((x * y / 1048576 : Nat) : Int) from by omega]
      rw [sx_c a b (fun t => fn_REC_finish t _ _ σ)]
      rw [sx_m a b (fun t => fn_MOD_finish t _ _ τ)]
      rw [show (64 : Int32) = Int32.ofInt 64 from rfl, ← Int32.ofInt_add, ← Int32.ofInt_sub, ← Int32.ofInt_sub, ← Int32.ofInt_add, ← Int32.ofInt_sub, ← Int32.ofInt_sub]
      rw [show (cN a : Int) - p + ((cN b : Int) - q) - 64 = (cN a : Int) - p + cN b - q - 64 from by omega]
      exact fin_b _ _ _ (by omega) (by omega) (by omega) σ τ hs ht
theorem div_b (a b : Int32) (σ τ : sg_T) (hs : σ 20 1 = 0) (ht : τ 30 8 = 0) : rb_B (fn_REC_divide a b σ) (fn_MOD_quotient a b τ) σ τ := by
  have ha := cN_lt a
  have hb := cN_lt b
  have na := nf_lt a
  have nb := nf_lt b
  have za := dz_le (fN a) 6
  have zb := dz_le (fN b) 6
  simp only [fn_REC_divide, nf_c, Option.bind_some]
  simp only [fn_MOD_quotient, pt_m, Option.bind_some]
  by_cases f2 : fN b = 0
  · rw [if_pos (by rw [f2]; decide +kernel), if_pos ((j_f0 b).2 f2)]
    refine ⟨a, 4, _, _, rfl, rfl, sg_eq _ _ _ _, ?_, sg_eq _ _ _ _, ?_, ?_⟩
    · rw [sg_ne (by decide), sg_eq]
    · intro r c h
      rw [sg_ne (fun h1 => h h1.1), sg_ne (fun h1 => h h1.1)]
    · intro r c _ h
      rw [sg_ne h]
  · have gb := nf_ge b (by omega)
    rw [if_neg (fun h => by have := (w_eq (by omega) (by omega) (by omega) (by omega) : _ = Int32.ofInt 0 ↔ _).1 h; omega), if_neg (fun h => f2 ((j_f0 b).1 h))]
    simp only [nc_c, Option.bind_some, fb_REC_divide_45, bs_1]
    have xb : fN a = 0 ∨ fN a ≠ 0 := by omega
    rw [l_of (by omega) (by omega), l_of (by omega) (by omega)]
    rw [gt_pos (show ¬ Int64.ofInt ((fN b * 16 ^ dz 6 (fN b) : Nat) : Int) = 0 from fun h => by
      have h1 := congrArg Int64.toInt h
      rw [l_t (by omega) (by omega)] at h1
      have h2 : (0 : Int64).toInt = 0 := by decide
      omega)]
    rw [sx_c a b (fun t => fn_REC_finish t _ _ σ)]
    rw [show (24 : Int32) = Int32.ofInt ((24 : Nat) : Int) from rfl, l_shl _ (by omega)]
    by_cases f1 : fN a = 0
    · rw [if_pos ((j_f0 a).2 f1), f1, Nat.zero_mul]
      rw [show ((0 : Nat) : Int) * ((2 ^ 24 : Nat) : Int) = 0 from by omega, l_div (by omega) (by omega) (by omega) (by omega), Int.zero_ediv, Int64.toInt32_ofInt]
      unfold fn_REC_finish
      rw [if_pos (show Int32.ofInt 0 = 0 from rfl)]
      exact z_b σ τ hs ht
    · rw [if_neg (fun h => f1 ((j_f0 a).1 h))]
      have ga := nf_ge a (by omega)
      simp only [ch_m, s0_m a (by omega), s0_m b (by omega), nm_m a (by omega), nm_m b (by omega), mi_m, Option.bind_some, fb_MOD_quotient_82, bs_p]
      generalize fN a * 16 ^ dz 6 (fN a) = x at *
      generalize fN b * 16 ^ dz 6 (fN b) = y at *
      generalize dz 6 (fN a) = p at *
      generalize dz 6 (fN b) = q at *
      rw [gt_pos (show ¬ Int64.ofInt (y : Int) = 0 from fun h => by
        have h1 := congrArg Int64.toInt h
        rw [l_t (by omega) (by omega)] at h1
        have h2 : (0 : Int64).toInt = 0 := by decide
        omega)]
      rw [show (16777216 : Int64) = Int64.ofInt 16777216 from by decide +kernel, ← Int64.ofInt_mul]
      rw [show (x : Int) * ((2 ^ 24 : Nat) : Int) = ((x * 16777216 : Nat) : Int) from by omega, show (x : Int) * 16777216 = ((x * 16777216 : Nat) : Int) from by omega]
      rw [l_div (by omega) (by omega) (by omega) (by omega), ← Int.natCast_ediv, Int64.toInt32_ofInt]
      have hq : x * 16777216 / y < 268435456 := by
        rw [Nat.div_lt_iff_lt_mul (by omega)]
        omega
      rw [sx_m a b (fun t => fn_MOD_finish t _ _ τ)]
      rw [show (65 : Int32) = Int32.ofInt 65 from rfl, ← Int32.ofInt_sub, ← Int32.ofInt_add, ← Int32.ofInt_sub, ← Int32.ofInt_sub, ← Int32.ofInt_sub, ← Int32.ofInt_add]
      exact fin_b _ _ _ (by omega) (by omega) (by omega) σ τ hs ht
theorem rk_b (how a b : Int32) (σ τ : sg_T) : ∃ V E σ' τ', fn_REC_workOut how a b σ = some σ' ∧ fn_MOD_result how a b τ = some (V, τ') ∧ rr_R σ τ V E σ' τ' ∧ (how = 4 → E = 0) := by
  unfold fn_REC_workOut fn_MOD_result fn_MOD_other
  simp only [bs_1, bs_p, Option.bind_some]
  have hs : (sg_up σ 20 1 0) 20 1 = 0 := sg_eq _ _ _ _
  have ht : (sg_up τ 30 8 0) 30 8 = 0 := sg_eq _ _ _ _
  have up : ∀ x y, (∃ V E σ' τ', x = some σ' ∧ y = some (V, τ') ∧ rr_R (sg_up σ 20 1 0) (sg_up τ 30 8 0) V E σ' τ' ∧ (how = 4 → E = 0)) → ∃ V E σ' τ', x = some σ' ∧ y = some (V, τ') ∧ rr_R σ τ V E σ' τ' ∧ (how = 4 → E = 0) := by
    rintro x y ⟨V, E, σ', τ', e1, e2, ⟨r1, r2, r3, r4, r5⟩, h4⟩
    exact ⟨V, E, σ', τ', e1, e2, ⟨r1, r2, r3, fun r c h => (r4 r c h).trans (sg_ne (fun h1 => h h1.1)), fun r c h1 h2 => (r5 r c h1 h2).trans (sg_ne h2)⟩, h4⟩
  have up2 : ∀ x y, how ≠ 4 → rb_B x y (sg_up σ 20 1 0) (sg_up τ 30 8 0) → ∃ V E σ' τ', x = some σ' ∧ y = some (V, τ') ∧ rr_R σ τ V E σ' τ' ∧ (how = 4 → E = 0) := by
    rintro x y hn ⟨V, E, σ', τ', e1, e2, e3⟩
    exact up x y ⟨V, E, σ', τ', e1, e2, e3, fun h => absurd h hn⟩
  by_cases h0 : how = 0
  · rw [if_pos h0, if_pos h0]
    exact up2 _ _ (by rw [h0]; decide) (add_b a b _ _ hs ht)
  rw [if_neg h0, if_neg h0]
  by_cases h1 : how = 1
  · rw [if_pos h1, if_pos h1]
    exact up2 _ _ (by rw [h1]; decide) (add_b a _ _ _ hs ht)
  rw [if_neg h1, if_neg h1]
  by_cases h2 : how = 2
  · rw [if_pos h2, if_pos h2]
    exact up2 _ _ (by rw [h2]; decide) (mul_b a b _ _ hs ht)
  rw [if_neg h2, if_neg h2]
  by_cases h3 : how = 3
  · rw [if_pos h3, if_pos h3]
    exact up2 _ _ (by rw [h3]; decide) (div_b a b _ _ hs ht)
  rw [if_neg h3, if_neg h3]
  obtain ⟨V, σ', τ', e1, e2, e3⟩ := cmp_b a b _ _ hs ht
  exact up _ _ ⟨V, 0, σ', τ', e1, e2, e3, fun _ => rfl⟩
