/-! the bus -/
def h_A (P : Nat → Bool) (t v : Int32) (a : sg_T) : sg_T := fun r c => if P c = true ∧ a 7 c = t then (if r = 6 then v else if r = 7 then 0 else a r c) else a r c
theorem h_Ao {P : Nat → Bool} {t v : Int32} {a : sg_T} {r c : Nat} (h6 : r ≠ 6) (h7 : r ≠ 7) : h_A P t v a r c = a r c := by
  unfold h_A
  rw [if_neg h6, if_neg h7, ite_self]
theorem h_A0 {P : Nat → Bool} (h : ∀ c, P c = false) (t v : Int32) (a : sg_T) : h_A P t v a = a := by
  funext r c
  unfold h_A
  rw [h c, if_neg (by simp)]
theorem h_As (P : Nat → Bool) (k : Nat) (t v : Int32) (ht : t ≠ 0) (a : sg_T) : fn_OPD_hear k t v (h_A P t v a) = some (h_A (fun c => P c || c == k) t v a) := by
  unfold fn_OPD_hear fn_OPD_haveValue
  have e : h_A P t v a 7 k = if P k = true ∧ a 7 k = t then 0 else a 7 k := rfl
  by_cases h1 : P k = true
  · rw [if_neg (by
      rw [e]
      by_cases h2 : a 7 k = t
      · rw [if_pos ⟨h1, h2⟩]; exact fun h => ht h.symm
      · rw [if_neg (fun h => h2 h.2)]; exact h2)]
    congr 1
    funext r c
    unfold h_A
    by_cases h3 : c = k
    · subst h3; simp [h1]
    · simp [h3]
  · have e' : h_A P t v a 7 k = a 7 k := by rw [e, if_neg (fun h => h1 h.1)]
    rw [e']
    by_cases h2 : a 7 k = t
    · rw [if_pos h2]
      show some _ = some _
      congr 1
      funext r c
      rw [sg_a, sg_a]
      unfold h_A
      by_cases h3 : c = k
      · subst h3
        by_cases h6 : r = 6
        · subst h6; simp [h2]
        · by_cases h7 : r = 7
          · subst h7; simp [h2]
          · simp [h6, h7]
      · simp [h3]
    · rw [if_neg h2]
      congr 1
      funext r c
      unfold h_A
      by_cases h3 : c = k
      · subst h3; simp [h2]
      · simp [h3]
theorem h_Ac {P Q : Nat → Bool} (h : ∀ c, P c = Q c) (t v : Int32) (a : sg_T) : h_A P t v a = h_A Q t v a := by rw [show P = Q from funext h]
def p_U (u : Nat) (c : Nat) : Bool := decide (7 ≤ c ∧ c < 5 + 2 * u)
def p_V (u : Nat) (c : Nat) : Bool := decide ((7 ≤ c ∧ c < 31) ∨ c < u)
theorem sd_9 (t : Nat) (h1 : 1 ≤ t) (h2 : t ≤ 9) (a : sg_T) : ∀ m u, 1 ≤ u → u + m = 13 → ∀ n, m < n → fb_TM_send_9 n (nI t) t (nI u) (h_A (p_U u) (nI t) (a 15 t) a) = fb_TM_send_37 14 (nI t) t 0 (h_A (p_U 13) (nI t) (a 15 t) a)
  | 0, u, _, hu, n + 1, _ => by
    unfold fb_TM_send_9
    rw [if_pos (show (12 : Int32) < nI u from (n_lt (by omega) (by omega) : nI 12 < nI u ↔ _).2 (by omega)), show u = 13 from by omega]
  | m + 1, u, hu1, hu, n + 1, hn => by
    have IH := sd_9 t h1 h2 a m (u + 1) (by omega) (by omega) n (by omega)
    have t0 : nI t ≠ 0 := fun h => by have := (n_eq (by omega) (by omega) : nI t = nI 0 ↔ _).1 h; omega
    unfold fb_TM_send_9
    rw [if_neg (fun h => by have := (n_lt (by omega) (by omega) : nI 12 < nI u ↔ _).1 h; omega), n_b (by omega) (by omega), gt_t, n_t (by omega), h_Ao (by decide) (by decide)]
    unfold fn_UNI_hear
    rw [h_As _ _ _ _ t0]
    simp only [Option.bind_some, bs_1]
    rw [h_As _ _ _ _ t0]
    simp only [Option.bind_some, n_s]
    rw [← IH]
    congr 1
    apply h_Ac
    intro c
    unfold p_U
    rw [Bool.eq_iff_iff]
    simp
    omega
theorem sd_37 (t : Nat) (h1 : 1 ≤ t) (h2 : t ≤ 9) (a : sg_T) : ∀ m r, r + m = 5 → ∀ n, m < n → fb_TM_send_37 n (nI t) t (nI r) (h_A (p_V r) (nI t) (a 15 t) a) = fn_TM_note (a 16 t) (sg_up (h_A (p_V 5) (nI t) (a 15 t) a) 12 t 0)
  | 0, r, hr, n + 1, _ => by
    unfold fb_TM_send_37
    rw [if_pos (show (4 : Int32) < nI r from (n_lt (by omega) (by omega) : nI 4 < nI r ↔ _).2 (by omega)), show r = 5 from by omega, bs_1, sg_ne (by omega), h_Ao (by decide) (by decide)]
  | m + 1, r, hr, n + 1, hn => by
    have IH := sd_37 t h1 h2 a m (r + 1) (by omega) n (by omega)
    have t0 : nI t ≠ 0 := fun h => by have := (n_eq (by omega) (by omega) : nI t = nI 0 ↔ _).1 h; omega
    unfold fb_TM_send_37
    rw [if_neg (fun h => by have := (n_lt (by omega) (by omega) : nI 4 < nI r ↔ _).1 h; omega), n_b (by omega) (by omega), gt_t, n_t (by omega), h_Ao (by decide) (by decide)]
    rw [h_As _ _ _ _ t0]
    simp only [Option.bind_some, n_s]
    rw [← IH]
    congr 1
    apply h_Ac
    intro c
    unfold p_V
    rw [Bool.eq_iff_iff]
    simp
    omega
theorem sd_c (t : Nat) (h1 : 1 ≤ t) (h2 : t ≤ 9) (a : sg_T) : fn_TM_send (nI t) a = fn_TM_note (a 16 t) (sg_up (h_A (p_V 5) (nI t) (a 15 t) a) 12 t 0) := by
  unfold fn_TM_send
  rw [n_b (by omega) (by omega), gt_t, n_t (by omega)]
  have e1 := sd_9 t h1 h2 a 12 1 (by omega) (by omega) 14 (by omega)
  rw [h_A0 (by intro c; unfold p_U; rw [decide_eq_false_iff_not]; omega)] at e1
  rw [show (1 : Int32) = nI 1 from rfl, e1]
  have e2 := sd_37 t h1 h2 a 5 0 (by omega) 14 (by omega)
  rw [← e2]
  congr 1
  apply h_Ac
  intro c
  unfold p_U p_V
  rw [Bool.eq_iff_iff]
  simp
def h_B (m : Nat) (t v : Int32) (b : sg_T) : sg_T := fun r c => if c < m ∧ b 46 c = t ∧ ¬ (b 40 (c / 2) ≤ 0) then (if r = 45 then v else if r = 46 then 0 else b r c) else b r c
theorem h_Bo {m : Nat} {t v : Int32} {b : sg_T} {r c : Nat} (h6 : r ≠ 45) (h7 : r ≠ 46) : h_B m t v b r c = b r c := by
  unfold h_B
  rw [if_neg h6, if_neg h7, ite_self]
theorem h_Bn {m : Nat} {t v : Int32} {b : sg_T} {r c : Nat} (h : m ≤ c) : h_B m t v b r c = b r c := by
  unfold h_B
  rw [if_neg (fun h1 => by omega)]
def h_D (m : Nat) (t v : Int32) (b : sg_T) : sg_T := fun r c => if c < m ∧ b 37 c = t then (if r = 36 then v else if r = 37 then 0 else b r c) else b r c
theorem h_Do {m : Nat} {t v : Int32} {b : sg_T} {r c : Nat} (h6 : r ≠ 36) (h7 : r ≠ 37) : h_D m t v b r c = b r c := by
  unfold h_D
  rw [if_neg h6, if_neg h7, ite_self]
theorem h_Dn {m : Nat} {t v : Int32} {b : sg_T} {r c : Nat} (h : m ≤ c) : h_D m t v b r c = b r c := by
  unfold h_D
  rw [if_neg (fun h1 => by omega)]
theorem h_Bs (m : Nat) (t v : Int32) (b : sg_T) : h_B (m + 1) t v b = if b 46 m = t ∧ ¬ (b 40 (m / 2) ≤ 0) then sg_up (sg_up (h_B m t v b) 45 m v) 46 m 0 else h_B m t v b := by
  by_cases h : b 46 m = t ∧ ¬ (b 40 (m / 2) ≤ 0)
  · rw [if_pos h]
    funext r c
    rw [sg_a, sg_a]
    unfold h_B
    by_cases h3 : c = m
    · subst h3
      by_cases h6 : r = 45
      · subst h6; rw [if_pos ⟨by omega, h⟩]; simp
      · by_cases h7 : r = 46
        · subst h7; rw [if_pos ⟨by omega, h⟩]; simp
        · rw [if_neg h6, if_neg h7, ite_self, ite_self, if_neg (by simp [h7]), if_neg (by simp [h6])]
    · rw [if_neg (c := r = 46 ∧ c = m) (by simp [h3]), if_neg (c := r = 45 ∧ c = m) (by simp [h3])]
      simp only [show (c < m + 1) = (c < m) from propext (by omega)]
  · rw [if_neg h]
    funext r c
    unfold h_B
    by_cases h3 : c = m
    · subst h3
      rw [if_neg (fun h1 => h h1.2), if_neg (fun h1 => h h1.2)]
    · simp only [show (c < m + 1) = (c < m) from propext (by omega)]
theorem h_Ds (m : Nat) (t v : Int32) (b : sg_T) : h_D (m + 1) t v b = if b 37 m = t then sg_up (sg_up (h_D m t v b) 36 m v) 37 m 0 else h_D m t v b := by
  by_cases h : b 37 m = t
  · rw [if_pos h]
    funext r c
    rw [sg_a, sg_a]
    unfold h_D
    by_cases h3 : c = m
    · subst h3
      by_cases h6 : r = 36
      · subst h6; rw [if_pos ⟨by omega, h⟩]; simp
      · by_cases h7 : r = 37
        · subst h7; rw [if_pos ⟨by omega, h⟩]; simp
        · rw [if_neg h6, if_neg h7, ite_self, ite_self, if_neg (by simp [h7]), if_neg (by simp [h6])]
    · rw [if_neg (c := r = 37 ∧ c = m) (by simp [h3]), if_neg (c := r = 36 ∧ c = m) (by simp [h3])]
      simp only [show (c < m + 1) = (c < m) from propext (by omega)]
  · rw [if_neg h]
    funext r c
    unfold h_D
    by_cases h3 : c = m
    · subst h3
      rw [if_neg (fun h1 => h h1.2), if_neg (fun h1 => h h1.2)]
    · simp only [show (c < m + 1) = (c < m) from propext (by omega)]
theorem n_d2 : ∀ k : Fin 26, nI k.val / 2 = nI (k.val / 2) := by decide +kernel
theorem bu_130 (t : Nat) (h1 : 1 ≤ t) (h2 : t ≤ 9) (b : sg_T) : ∀ m r, r + m = 5 → ∀ n, m < n → fb_MOD_bus_130 n (nI t) (nI r) (h_D r (nI t) (b 43 t) b) = some (sg_up (sg_up (h_D 5 (nI t) (b 43 t) b) 30 5 (b 30 5 ||| b 44 t)) 40 t 0)
  | 0, r, hr, n + 1, _ => by
    unfold fb_MOD_bus_130
    rw [if_pos (show (5 : Int32) ≤ nI r from (n_le (by omega) (by omega) : nI 5 ≤ nI r ↔ _).2 (by omega)), show r = 5 from by omega, n_b (by omega) (by omega), gt_t, gt_t, n_t (by omega), h_Do (by decide) (by decide), h_Do (by decide) (by decide)]
  | m + 1, r, hr, n + 1, hn => by
    have IH := bu_130 t h1 h2 b m (r + 1) (by omega) n (by omega)
    unfold fb_MOD_bus_130
    rw [if_neg (fun h => by have := (n_le (by omega) (by omega) : nI 5 ≤ nI r ↔ _).1 h; omega), n_b (by omega) (by omega), gt_t, n_t (by omega), h_Dn (Nat.le_refl _)]
    rw [h_Ds] at IH
    by_cases h : b 37 r = nI t
    · rw [if_pos h] at IH ⊢
      unfold fb_MOD_bus_150
      rw [if_neg (by decide), n_b (by omega) (by omega), gt_t, n_t (by omega), h_Do (by decide) (by decide)]
      unfold fb_MOD_bus_175
      rw [n_b (by omega) (by omega), gt_t, if_neg (by decide), n_t (by omega)]
      unfold fb_MOD_bus_195
      rw [n_b (by omega) (by omega), gt_t, n_t (by omega), n_s]
      exact IH
    · rw [if_neg h] at IH ⊢
      unfold fb_MOD_bus_150
      rw [if_pos rfl, n_b (by omega) (by omega), gt_t, n_t (by omega)]
      unfold fb_MOD_bus_175
      rw [n_b (by omega) (by omega), gt_t, if_pos rfl, n_t (by omega), sg_id, gt_t]
      unfold fb_MOD_bus_195
      rw [n_b (by omega) (by omega), gt_t, n_t (by omega), n_s, sg_id]
      exact IH
theorem bu_44 (t : Nat) (h1 : 1 ≤ t) (h2 : t ≤ 9) (b : sg_T) : ∀ m k, k + m = 26 → ∀ n, m < n → fb_MOD_bus_44 n (nI t) (nI k) (h_B k (nI t) (b 43 t) b) = fb_MOD_bus_130 27 (nI t) (nI 0) (h_B 26 (nI t) (b 43 t) b)
  | 0, k, hk, n + 1, _ => by
    unfold fb_MOD_bus_44
    rw [if_pos (show (26 : Int32) ≤ nI k from (n_le (by omega) (by omega) : nI 26 ≤ nI k ↔ _).2 (by omega)), show k = 26 from by omega]
    rfl
  | m + 1, k, hk, n + 1, hn => by
    have IH := bu_44 t h1 h2 b m (k + 1) (by omega) n (by omega)
    have kd := n_d2 ⟨k, by omega⟩
    unfold fb_MOD_bus_44
    rw [if_neg (fun h => by have := (n_le (by omega) (by omega) : nI 26 ≤ nI k ↔ _).1 h; omega), n_b (by omega) (by omega), gt_t, n_t (by omega), h_Bn (Nat.le_refl _)]
    rw [gt_p (by decide), show nI k / 2 = nI (k / 2) from kd, n_b (by omega) (by omega), gt_t, n_t (by omega), h_Bo (by decide) (by decide)]
    rw [h_Bs] at IH
    have no : fb_MOD_bus_44 n (nI t) (nI (k + 1)) (h_B k (nI t) (b 43 t) b) = fb_MOD_bus_130 27 (nI t) (nI 0) (h_B 26 (nI t) (b 43 t) b) → fb_MOD_bus_76 (fb_MOD_bus_44 n) (nI t) (nI k) 0 (h_B k (nI t) (b 43 t) b) = fb_MOD_bus_130 27 (nI t) (nI 0) (h_B 26 (nI t) (b 43 t) b) := by
      intro IH
      unfold fb_MOD_bus_76
      rw [if_pos rfl, n_b (by omega) (by omega), gt_t, n_t (by omega)]
      unfold fb_MOD_bus_101
      rw [n_b (by omega) (by omega), gt_t, if_pos rfl, n_t (by omega), sg_id, gt_t]
      unfold fb_MOD_bus_121
      rw [n_b (by omega) (by omega), gt_t, n_t (by omega), n_s, sg_id]
      exact IH
    by_cases h : b 46 k = nI t
    · rw [if_pos h]
      by_cases h3 : b 40 (k / 2) ≤ 0
      · rw [if_neg (fun h4 => h4.2 h3)] at IH
        rw [if_pos h3]
        exact no IH
      · rw [if_pos ⟨h, h3⟩] at IH
        rw [if_neg h3]
        unfold fb_MOD_bus_76
        rw [if_neg (by decide), n_b (by omega) (by omega), gt_t, n_t (by omega), h_Bo (by decide) (by decide)]
        unfold fb_MOD_bus_101
        rw [n_b (by omega) (by omega), gt_t, if_neg (by decide), n_t (by omega)]
        unfold fb_MOD_bus_121
        rw [n_b (by omega) (by omega), gt_t, n_t (by omega), n_s]
        exact IH
    · rw [if_neg (fun h4 => h h4.1)] at IH
      rw [if_neg h]
      exact no IH
theorem sd_m (t : Nat) (h1 : 1 ≤ t) (h2 : t ≤ 9) (b : sg_T) : fb_MOD_bus_44 27 (nI t) 0 b = some (sg_up (sg_up (h_D 5 (nI t) (b 43 t) (h_B 26 (nI t) (b 43 t) b)) 30 5 (b 30 5 ||| b 44 t)) 40 t 0) := by
  have e1 := bu_44 t h1 h2 b 26 0 (by omega) 27 (by omega)
  have e0 : h_B 0 (nI t) (b 43 t) b = b := by
    funext r c
    exact h_Bn (by omega)
  rw [e0] at e1
  rw [show (0 : Int32) = nI 0 from rfl, e1]
  have e2 := bu_130 t h1 h2 (h_B 26 (nI t) (b 43 t) b) 5 0 (by omega) 27 (by omega)
  have e3 : ∀ v, h_D 0 (nI t) v (h_B 26 (nI t) (b 43 t) b) = h_B 26 (nI t) (b 43 t) b := by
    intro v
    funext r c
    exact h_Dn (by omega)
  rw [e3, h_Bo (by decide) (by decide), h_Bo (by decide) (by decide), h_Bo (by decide) (by decide)] at e2
  exact e2
