/-! calls: from one table to the next -/
theorem c_tr {A B a b a' b' : sg_T} (C : c_R A B a b) (ha : ∀ r c, r < 20 → a' r c = a r c) (hb : ∀ r c, 30 ≤ r → r ≤ 49 → ¬ (r = 30 ∧ 8 ≤ c) → b' r c = b r c) : c_R a' b' a' b' := by
  refine ⟨fun _ _ _ => rfl, fun _ _ _ => rfl, rfl, ?_, ?_, ?_, ?_, ?_, ?_, ?_, ?_, ?_, ?_, ?_, ?_, ?_, ?_⟩
  · rw [ha 0 0 (by omega), hb 30 0 (by omega) (by omega) (by omega)]; exact C.bank
  · rw [ha 0 1 (by omega), hb 30 1 (by omega) (by omega) (by omega)]; exact C.lat
  · rw [ha 0 2 (by omega), hb 30 2 (by omega) (by omega) (by omega)]; exact C.many
  · rw [ha 0 4 (by omega), hb 30 4 (by omega) (by omega) (by omega)]; exact C.nxt
  · rw [ha 0 5 (by omega), hb 30 5 (by omega) (by omega) (by omega)]; exact C.ntd
  · rw [ha 0 7 (by omega), hb 30 7 (by omega) (by omega) (by omega)]; exact C.hnd
  · intro i hi
    have q := C.ins i hi
    refine ⟨?_, ?_, ?_, ?_, ?_⟩
    · rw [ha 1 i (by omega), hb 31 i (by omega) (by omega) (by omega)]; exact q.op
    · rw [ha 2 i (by omega), hb 32 i (by omega) (by omega) (by omega)]; exact q.r
    · rw [ha 3 i (by omega), hb 33 i (by omega) (by omega) (by omega)]; exact q.s
    · rw [ha 4 i (by omega), hb 34 i (by omega) (by omega) (by omega)]; exact q.bb
    · rw [ha 5 i (by omega), hb 35 i (by omega) (by omega) (by omega)]; exact q.n
  · intro r hr
    rw [ha 6 r (by omega), hb 36 r (by omega) (by omega) (by omega)]; exact C.rv r hr
  · intro r hr
    rw [ha 7 r (by omega), hb 37 r (by omega) (by omega) (by omega)]; exact C.rt r hr
  · intro r hr
    rw [ha 10 r (by omega), hb 38 r (by omega) (by omega) (by omega)]; exact C.gen r hr
  · intro r hr
    rw [ha 11 r (by omega), hb 39 r (by omega) (by omega) (by omega)]; exact C.wrd r hr
  · intro r hr
    rw [ha 19 r (by omega), hb 49 r (by omega) (by omega) (by omega)]; exact C.bnk r hr
  · intro u hu1 hu2
    exact u_eq (C.uni u hu1 hu2) (fun r c hr => ha r c (by omega)) (fun r c hr => hb r c (by omega) (by omega) (by omega))
  · intro r hr
    rw [ha 7 r (by omega)]
    intro hy
    obtain ⟨t', w1, w2, w3, w4⟩ := C.wts r hr hy
    exact ⟨t', w1, w2, w3, by rw [ha 12 t' (by omega)]; exact w4⟩
theorem x_tr {A B a b a' b' : sg_T} (h : x_R A B a b) (ha : ∀ r c, r < 20 → a' r c = a r c) (hb : ∀ r c, 30 ≤ r → r ≤ 49 → ¬ (r = 30 ∧ 8 ≤ c) → b' r c = b r c) : x_R a' b' a' b' := by
  refine ⟨c_tr h.c ha hb, ?_, ?_, ?_, ?_, ?_⟩
  · rw [ha 0 3 (by omega), hb 30 3 (by omega) (by omega) (by omega)]; exact h.md
  · rw [ha 0 3 (by omega)]; exact h.mr
  · rw [ha 0 3 (by omega), ha 0 5 (by omega)]; exact h.nn
  · rw [ha 0 3 (by omega)]
    intro n0 n1 t h1 h2
    rw [ha 12 t (by omega)]
    exact h.fr n0 n1 t h1 h2
  · rw [ha 0 6 (by omega), hb 30 6 (by omega) (by omega) (by omega)]; exact h.cy
abbrev iv (σ : sg_T) : Prop := x_R σ σ σ σ
theorem iv_t {σ : sg_T} (h : iv σ) (z : Int32) : iv (sg_up σ 30 9 z) := x_tr h (fun r c hr => sg_ne (by omega)) (fun r c h1 h2 h3 => sg_ne (by omega))
def l_O (x : Option (Int32 × sg_T)) (g : sg_T → Option (Int32 × sg_T)) : Prop := ∃ z σ1 v σ2, x = some (z, σ1) ∧ g σ1 = some (v, σ2) ∧ σ2 30 9 = z ∧ (z = 0 → σ2 51 0 = v) ∧ iv σ2
theorem ref_O {σ : sg_T} (h : iv σ) (z : Int32) (hz : z ≠ 0) (x : Option (Int32 × sg_T)) (g : sg_T → Option (Int32 × sg_T)) (v : Int32) (hx : x = some (z, σ)) (hg : g σ = some (v, sg_up σ 30 9 z)) : l_O x g :=
  ⟨z, σ, v, _, hx, hg, sg_eq _ _ _ _, fun h => absurd h hz, iv_t h z⟩
theorem i01 : ib_I (0 : Int32) 1 = true := by decide
theorem l_rt (v : Int32) : v.toInt64.toInt32 = v := lg_l2i_i2l v
theorem l_gd {α : Type} (v : Int32) (k : Option α) : gt_d (decide (v.toInt64.toInt32.toInt64 = v.toInt64)) k = k := gt_p (by rw [l_rt]) k
theorem l_g1 {α : Type} (k : Option α) : gt_d (decide ((1 : Int64).toInt32.toInt64 = (1 : Int64))) k = k := gt_p (by decide) k
theorem rg_R (x : Int32) : (∃ R, R < 4 ∧ x = nI R ∧ (∀ a, fn_TM_isRegister x a = some (1, a)) ∧ ∀ b, fn_MOD_isRegister x b = some (1, b)) ∨ ((∀ a, fn_TM_isRegister x a = some (0, a)) ∧ ∀ b, fn_MOD_isRegister x b = some (0, b)) := by
  have e : (3 : Int32) < x ↔ (4 : Int32) ≤ x := by
    rw [Int32.lt_iff_toInt_lt, Int32.le_iff_toInt_le, show (3 : Int32).toInt = 3 from by decide, show (4 : Int32).toInt = 4 from by decide]
    omega
  unfold fn_TM_isRegister fn_MOD_isRegister
  simp only [e]
  by_cases h0 : x < 0
  · simp only [h0, if_true]
    exact .inr ⟨fun _ => trivial, fun _ => trivial⟩
  · by_cases h1 : (4 : Int32) ≤ x
    · simp only [h0, h1, if_true, if_false]
      exact .inr ⟨fun _ => trivial, fun _ => trivial⟩
    · simp only [h0, h1, if_false]
      obtain ⟨P, hP, e⟩ := n_rng (M := 4) (by omega) h0 h1
      exact .inl ⟨P, hP, e, fun _ => trivial, fun _ => trivial⟩
theorem pt_n (a1 a2 a3 a4 a5 z : Int32) (hz : z = 1 ∨ z = 2) (σ : sg_T) : fb_MOD_put_92 a1 a2 a3 a4 a5 z σ = some (0, sg_up σ 30 9 z) := by
  unfold fb_MOD_put_92
  rw [sg_eq, if_neg (by rcases hz with h | h <;> rw [h] <;> decide)]
theorem pt_y (a1 a2 a3 a4 a5 : Int32) (M : Nat) (hM : M < 30) (σ : sg_T) (em : σ 30 2 = nI M) : fb_MOD_put_92 a1 a2 a3 a4 a5 0 σ = some (nI M, sg_up (sg_up (sg_up (sg_up (sg_up (sg_up (sg_up σ 30 9 0) 31 M a1) 32 M a2) 33 M a3) 34 M a4) 35 M a5) 30 2 (nI (M + 1))) := by
  unfold fb_MOD_put_92
  rw [sg_eq, if_pos (by decide)]
  have t : tn_I (nI M) = M := n_t (by omega)
  have b : ib_I (nI M) 30 = true := n_b (by omega) (by omega)
  simp [sg_a, em, t, b, gt_t, n_s]
  rw [← n_s]
  simp [Int32.add_sub_cancel]
def lw_w (z1 : tr_T) : Option (Int32 × sg_T) := if z1.1 = 0 then gt_d (ib_I (0 : Int32) 1) (gt_d (decide (z1.2.1.toInt64.toInt32.toInt64 = z1.2.1.toInt64)) (some ((0 : Int32), sg_up z1.2.2 51 0 z1.2.1.toInt64.toInt32))) else if z1.1 = 1 then some ((1 : Int32), z1.2.2) else if z1.1 = 2 then some ((2 : Int32), z1.2.2) else none
theorem lw_p (a1 a2 a3 a4 a5 : Int32) (σ : sg_T) : fn_LAW_put a1 a2 a3 a4 a5 σ = (fn_TM_put a1 a2 a3 a4 a5 σ).bind lw_w := rfl
theorem lw_w0 (v : Int32) (σ : sg_T) : lw_w (0, v, σ) = some (0, sg_up σ 51 0 v) := by
  unfold lw_w
  rw [if_pos rfl, i01, gt_t, l_gd, l_rt]
theorem lw_w1 (v : Int32) (σ : sg_T) : lw_w (1, v, σ) = some (1, σ) := by
  unfold lw_w
  rw [if_neg (Nat.succ_ne_zero 0), if_pos rfl]
theorem lw_w2 (v : Int32) (σ : sg_T) : lw_w (2, v, σ) = some (2, σ) := by
  unfold lw_w
  rw [if_neg (show ¬ (2 : Nat) = 0 by decide), if_neg (show ¬ (2 : Nat) = 1 by decide), if_pos rfl]
theorem put_O {σ : sg_T} (h : iv σ) (a1 a2 a3 a4 a5 : Int32) : l_O (fn_LAW_put a1 a2 a3 a4 a5 σ) (fn_MOD_put a1 a2 a3 a4 a5) := by
  have no := fun z (hz : z = 1 ∨ z = 2) (g : sg_T → Option (Int32 × sg_T)) hg => ref_O h z (by rcases hz with e | e <;> rw [e] <;> decide) _ g 0 rfl hg
  rw [lw_p]
  unfold fn_TM_put fn_MOD_put
  by_cases o0 : a1 < 0
  · simp only [o0, if_true, ob_s, lw_w1]
    exact no 1 (.inl rfl) _ (pt_n a1 a2 a3 a4 a5 1 (.inl rfl) σ)
  simp only [o0, if_false]
  by_cases o12 : (12 : Int32) < a1
  · simp only [o12, if_true, ob_s, lw_w1]
    exact no 1 (.inl rfl) _ (pt_n a1 a2 a3 a4 a5 1 (.inl rfl) σ)
  simp only [o12, if_false]
  rcases rg_R a2 with ⟨R, hR, eR, rc, rm⟩ | ⟨rc, rm⟩
  rotate_left
  · simp only [rc, rm, ob_s, if_true, lw_w1]
    exact no 1 (.inl rfl) _ (pt_n a1 a2 a3 a4 a5 1 (.inl rfl) σ)
  simp only [rc, rm, ob_s, if_neg (show ¬ (1 : Int32) = 0 from by decide)]
  rcases rg_R a3 with ⟨S, hS, eS, sc, sm⟩ | ⟨sc, sm⟩
  rotate_left
  · simp only [sc, sm, ob_s, if_true, lw_w1]
    exact no 1 (.inl rfl) _ (pt_n a1 a2 a3 a4 a5 1 (.inl rfl) σ)
  simp only [sc, sm, ob_s, if_neg (show ¬ (1 : Int32) = 0 from by decide)]
  rcases rg_R a4 with ⟨W, hW, eW, wc, wm⟩ | ⟨wc, wm⟩
  rotate_left
  · simp only [wc, wm, ob_s, if_true, lw_w1]
    exact no 1 (.inl rfl) _ (pt_n a1 a2 a3 a4 a5 1 (.inl rfl) σ)
  simp only [wc, wm, ob_s, if_neg (show ¬ (1 : Int32) = 0 from by decide)]
  obtain ⟨K, hK, eK⟩ : ∃ K, K < 13 ∧ a1 = nI K := n_rng (M := 13) (by omega) o0 (fun h => o12 (by
    rw [Int32.lt_iff_toInt_lt, show (12 : Int32).toInt = 12 from by decide]
    rw [Int32.le_iff_toInt_le, show (nI 13).toInt = 13 from by decide] at h
    omega))
  have good : l_O ((fb_TM_put_70 a1 a2 a3 a4 a5 σ).bind lw_w) (fun σ => fb_MOD_put_59 a1 a2 a3 a4 a5 1 σ) := by
    obtain ⟨M, hM, Ma, Mb⟩ := h.c.many
    by_cases m30 : M = 30
    · have c1 : fb_TM_put_70 a1 a2 a3 a4 a5 σ = some (2, 0, σ) := by
        unfold fb_TM_put_70
        rw [Ma, if_pos (show (30 : Int32) ≤ nI M from by rw [m30]; decide)]
      rw [c1, ob_s, lw_w2]
      refine no 2 (.inr rfl) _ ?_
      · unfold fb_MOD_put_59 fb_MOD_put_87
        rw [if_neg (show ¬ (1 : Int32) = 0 from by decide), Mb, if_pos (show nI M = 30 from by rw [m30]; rfl)]
        exact pt_n a1 a2 a3 a4 a5 2 (.inr rfl) σ
    · have m1 : ¬ (30 : Int32) ≤ nI M := fun h => by have := (n_le (by omega) (by omega) : nI 30 ≤ nI M ↔ _).1 h; omega
      have m2 : ¬ nI M = (30 : Int32) := fun h => m30 ((n_eq (by omega) (by omega) : nI M = nI 30 ↔ _).1 h)
      have bu : ∀ b, fb_MOD_put_59 a1 a2 a3 a4 a5 1 b = if b 30 2 = 30 then fb_MOD_put_87 a1 a2 a3 a4 a5 b else (if (if b 30 3 = 0 ∨ b 30 3 = 1 then (1 : Int32) else 0) = 0 then fb_MOD_put_92 a1 a2 a3 a4 a5 0 b else fb_MOD_put_87 a1 a2 a3 a4 a5 b) := by
        intro b
        unfold fb_MOD_put_59
        rw [if_neg (show ¬ (1 : Int32) = 0 from by decide), bz_m, ob_s]
      by_cases hz : σ 0 3 = 0 ∨ σ 0 3 = 1
      · have c1 : fb_TM_put_70 a1 a2 a3 a4 a5 σ = some (2, 0, σ) := by
          unfold fb_TM_put_70
          rw [Ma, if_neg m1, bz_c, if_pos hz, ob_s, if_neg (show ¬ (1 : Int32) = 0 from by decide)]
        rw [c1, ob_s, lw_w2]
        refine no 2 (.inr rfl) _ ?_
        · rw [bu, Mb, if_neg m2, ← h.md, if_pos hz, if_neg (show ¬ (1 : Int32) = 0 from by decide)]
          exact pt_n a1 a2 a3 a4 a5 2 (.inr rfl) σ
      · have c1 : fb_TM_put_70 a1 a2 a3 a4 a5 σ = some (0, nI M, sg_up (sg_up (sg_up (sg_up (sg_up (sg_up σ 1 M a1) 2 M a2) 3 M a3) 4 M a4) 5 M a5) 0 2 (nI (M + 1))) := by
          unfold fb_TM_put_70
          rw [Ma, if_neg m1, bz_c, if_neg hz, ob_s, if_pos rfl]
          simp only [Ma]
          rw [n_b (k := M) (by omega) (by omega), gt_t, n_t (k := M) (by omega)]
          unfold fn_INS_become
          simp only [ob_s]
          have e : (sg_up (sg_up (sg_up (sg_up (sg_up σ 1 M a1) 2 M a2) 3 M a3) 4 M a4) 5 M a5) 0 2 = nI M := by simp [sg_a]; exact Ma
          rw [e, sg_eq, n_s]
          rw [show nI (M + 1) - 1 = nI M from by rw [← n_s]; simp [Int32.add_sub_cancel]]
        rw [c1, ob_s, lw_w0]
        refine ⟨0, _, nI M, sg_up (sg_up (sg_up (sg_up (sg_up (sg_up (sg_up (sg_up (sg_up (sg_up (sg_up (sg_up (sg_up (sg_up σ 1 M a1) 2 M a2) 3 M a3) 4 M a4) 5 M a5) 0 2 (nI (M + 1))) 51 0 (nI M)) 30 9 0) 31 M a1) 32 M a2) 33 M a3) 34 M a4) 35 M a5) 30 2 (nI (M + 1)), rfl, ?_, ?_, ?_, ?_⟩
        rotate_left
        · simp [sg_a]
        · simp [sg_a]
        · refine ⟨⟨fun _ _ _ => rfl, fun _ _ _ => rfl, rfl, ?_, ?_, ?_, ?_, ?_, ?_, ?_, ?_, ?_, ?_, ?_, ?_, ?_, ?_⟩, ?_, ?_, ?_, ?_, ?_⟩
          · simp [sg_a]; exact h.c.bank
          · simp [sg_a]; exact h.c.lat
          · exact ⟨M + 1, by omega, by simp [sg_a], by simp [sg_a]⟩
          · simp [sg_a]; exact h.c.nxt
          · simp [sg_a]; exact h.c.ntd
          · simp [sg_a]; exact h.c.hnd
          · intro i hi
            have q := h.c.ins i hi
            by_cases hiM : i = M
            · subst hiM
              refine ⟨⟨K, hK, ?_, ?_⟩, ⟨R, hR, ?_, ?_⟩, ⟨S, hS, ?_, ?_⟩, ⟨W, hW, ?_, ?_⟩, ?_⟩ <;> simp [sg_a, eK, eR, eS, eW]
            · refine ⟨?_, ?_, ?_, ?_, ?_⟩ <;> simp [sg_a, hiM]
              · exact q.op
              · exact q.r
              · exact q.s
              · exact q.bb
              · exact q.n
          · intro r hr; simp [sg_a]; exact h.c.rv r hr
          · intro r hr; simp [sg_a]; exact h.c.rt r hr
          · intro r hr; simp [sg_a]; exact h.c.gen r hr
          · intro r hr; simp [sg_a]; exact h.c.wrd r hr
          · intro r hr; simp [sg_a]; exact h.c.bnk r hr
          · intro u hu1 hu2
            refine u_eq (h.c.uni u hu1 hu2) (fun r c hr => ?_) (fun r c hr => ?_)
            · rw [sg_ne (by omega), sg_ne (by omega), sg_ne (by omega), sg_ne (by omega), sg_ne (by omega), sg_ne (by omega), sg_ne (by omega), sg_ne (by omega), sg_ne (by omega), sg_ne (by omega), sg_ne (by omega), sg_ne (by omega), sg_ne (by omega), sg_ne (by omega)]
            · rw [sg_ne (by omega), sg_ne (by omega), sg_ne (by omega), sg_ne (by omega), sg_ne (by omega), sg_ne (by omega), sg_ne (by omega), sg_ne (by omega), sg_ne (by omega), sg_ne (by omega), sg_ne (by omega), sg_ne (by omega), sg_ne (by omega), sg_ne (by omega)]
          · intro r hr; simp [sg_a]; exact h.c.wts r hr
          · simp [sg_a]; exact h.md
          · simp [sg_a]; exact h.mr
          · simp [sg_a]; exact h.nn
          · simp [sg_a]; exact h.fr
          · simp [sg_a]; exact h.cy
        · show fb_MOD_put_59 a1 a2 a3 a4 a5 1 _ = _
          rw [bu]
          have e2 : (sg_up (sg_up (sg_up (sg_up (sg_up (sg_up (sg_up σ 1 M a1) 2 M a2) 3 M a3) 4 M a4) 5 M a5) 0 2 (nI (M + 1))) 51 0 (nI M)) 30 2 = nI M := by simp [sg_a]; exact Mb
          have e3 : (sg_up (sg_up (sg_up (sg_up (sg_up (sg_up (sg_up σ 1 M a1) 2 M a2) 3 M a3) 4 M a4) 5 M a5) 0 2 (nI (M + 1))) 51 0 (nI M)) 30 3 = σ 0 3 := by simp [sg_a]; exact h.md.symm
          rw [pt_y a1 a2 a3 a4 a5 M (by omega) _ e2, e2, if_neg m2, e3, if_neg hz, if_pos rfl]
  by_cases s8 : a1 = 8
  · simp only [s8, if_true] at good ⊢
    exact good
  · simp only [s8, if_false]
    by_cases n1 : a5 < -1000
    · simp only [n1, if_true, ob_s, lw_w1]
      exact no 1 (.inl rfl) _ (pt_n a1 a2 a3 a4 a5 1 (.inl rfl) σ)
    · simp only [n1, if_false]
      have e : (1000 : Int32) < a5 ↔ ¬ a5 ≤ (1000 : Int32) := by rw [Int32.not_le]
      simp only [e]
      by_cases n2 : a5 ≤ 1000
      · simp only [n2, if_true, not_true_eq_false, if_false]
        exact good
      · simp only [n2, if_false, not_false_eq_true, if_true, ob_s, lw_w1]
        exact no 1 (.inl rfl) _ (pt_n a1 a2 a3 a4 a5 1 (.inl rfl) σ)
