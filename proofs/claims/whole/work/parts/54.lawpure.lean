/-! calls that only look; the law's loop -/
def r_O (σ : sg_T) (x : Option (Int32 × sg_T)) (g : sg_T → Option (Int32 × sg_T)) : Prop := ∃ v, x = some (v, σ) ∧ g σ = some (v, sg_up σ 30 9 0)
theorem floating_O {σ : sg_T} (h : iv σ) (a1 : Int32) : r_O σ (fn_TM_floating a1 σ) (fn_MOD_floating a1) := by
  unfold fn_TM_floating fn_MOD_floating
  rcases rg_R a1 with ⟨R, hR, eR, rc, rm⟩ | ⟨rc, rm⟩
  · simp only [rc, rm, ob_s, if_neg (show ¬ (1 : Int32) = 0 from by decide)]
    rw [eR, n_b (k := R) (by omega) (by omega), gt_t, n_t (k := R) (by omega)]
    refine ⟨_, rfl, ?_⟩
    show gt_d true (some ((sg_up σ 30 9 0) 36 R, sg_up σ 30 9 0)) = _
    rw [gt_t, sg_ne (by omega), ← h.c.rv R (by omega)]
  · simp only [rc, rm, ob_s, if_true]
    exact ⟨0, rfl, rfl⟩
theorem general_O {σ : sg_T} (h : iv σ) (a1 : Int32) : r_O σ (fn_TM_general a1 σ) (fn_MOD_general a1) := by
  unfold fn_TM_general fn_MOD_general
  rcases rg_R a1 with ⟨R, hR, eR, rc, rm⟩ | ⟨rc, rm⟩
  · simp only [rc, rm, ob_s, if_neg (show ¬ (1 : Int32) = 0 from by decide)]
    rw [eR, n_b (k := R) (by omega) (by omega), gt_t, n_t (k := R) (by omega)]
    refine ⟨_, rfl, ?_⟩
    show gt_d true (some ((sg_up σ 30 9 0) 38 R, sg_up σ 30 9 0)) = _
    rw [gt_t, sg_ne (by omega), ← h.c.gen R (by omega)]
  · simp only [rc, rm, ob_s, if_true]
    exact ⟨0, rfl, rfl⟩
theorem word_O {σ : sg_T} (h : iv σ) (a1 : Int32) : r_O σ (fn_TM_word a1 σ) (fn_MOD_word a1) := by
  unfold fn_TM_word fn_MOD_word
  rcases pl_R a1 with ⟨R, hR, eR, rc, rm⟩ | ⟨rc, rm⟩
  · simp only [rc, rm, ob_s, if_neg (show ¬ (1 : Int32) = 0 from by decide)]
    rw [eR, n_b (k := R) (by omega) (by omega), gt_t, n_t (k := R) (by omega)]
    refine ⟨_, rfl, ?_⟩
    show gt_d true (some ((sg_up σ 30 9 0) 39 R, sg_up σ 30 9 0)) = _
    rw [gt_t, sg_ne (by omega), ← h.c.wrd R (by omega)]
  · simp only [rc, rm, ob_s, if_true]
    exact ⟨0, rfl, rfl⟩
theorem tag_O {σ : sg_T} (h : iv σ) (a1 : Int32) : r_O σ (fn_TM_tag a1 σ) (fn_MOD_tag a1) := by
  unfold fn_TM_tag fn_MOD_tag fb_TM_tag_12 fn_TM_isRegister
  by_cases h0 : a1 < 0
  · simp only [h0, if_true, ob_s]
    rw [if_neg (show ¬ a1 = 4 from fun h => absurd (h ▸ h0) (by decide))]
    exact ⟨-1, rfl, rfl⟩
  · simp only [h0, if_false]
    by_cases h4 : (4 : Int32) < a1
    · simp only [h4, if_true]
      have h5 : (4 : Int32) ≤ a1 := by
        rw [Int32.lt_iff_toInt_lt] at h4
        rw [Int32.le_iff_toInt_le]
        omega
      simp only [h5, if_true, ob_s]
      rw [if_neg (show ¬ a1 = 4 from fun h => absurd (h ▸ h4) (by decide))]
      exact ⟨-1, rfl, rfl⟩
    · simp only [h4, if_false]
      obtain ⟨R, hR, eR⟩ := n_rng (x := a1) (M := 5) (by omega) h0 (fun h => h4 (by
        rw [Int32.le_iff_toInt_le, show (nI 5).toInt = 5 from by decide] at h
        rw [Int32.lt_iff_toInt_lt, show (4 : Int32).toInt = 4 from by decide]
        omega))
      subst eR
      have g : r_O σ (gt_d (ib_I (nI R) 5) (some (σ 7 (tn_I (nI R)), σ))) (fun σ => gt_d (ib_I (nI R) 5) (some ((sg_up σ 30 9 (0 : Int32)) 37 (tn_I (nI R)), sg_up σ 30 9 (0 : Int32)))) := by
        rw [n_b (k := R) (by omega) (by omega), gt_t, n_t (k := R) (by omega)]
        refine ⟨_, rfl, ?_⟩
        show gt_d true (some ((sg_up σ 30 9 0) 37 R, sg_up σ 30 9 0)) = _
        rw [gt_t, sg_ne (by omega), ← h.c.rt R (by omega)]
      by_cases r4 : R = 4
      · have h5 : (4 : Int32) ≤ nI R := by rw [r4]; decide
        simp only [h5, if_true, ob_s]
        rw [if_pos (show nI R = 4 from by rw [r4]; rfl)]
        exact g
      · have h5 : ¬ (4 : Int32) ≤ nI R := fun h => by have := (n_le (by omega) (by omega) : nI 4 ≤ nI R ↔ _).1 h; omega
        simp only [h5, if_false, ob_s]
        rw [if_neg (show ¬ (1 : Int32) = 0 from by decide)]
        exact g
theorem place_O {σ : sg_T} (h : iv σ) (a1 : Int32) : r_O σ (fn_TM_place a1 σ) (fn_MOD_place a1) := by
  unfold fn_TM_place fn_MOD_place
  by_cases h0 : a1 < 1
  · simp only [h0, if_true]
    exact ⟨-1, rfl, rfl⟩
  · simp only [h0, if_false]
    by_cases h4 : (12 : Int32) < a1
    · simp only [h4, if_true]
      exact ⟨-1, rfl, rfl⟩
    · simp only [h4, if_false]
      obtain ⟨R, hR, eR⟩ := n_rng (x := a1) (M := 13) (by omega) (fun h => h0 (by
        rw [Int32.lt_iff_toInt_lt] at h ⊢
        have e0 : (0 : Int32).toInt = 0 := by decide
        have e1 : (1 : Int32).toInt = 1 := by decide
        omega)) (fun h => h4 (by
        rw [Int32.le_iff_toInt_le, show (nI 13).toInt = 13 from by decide] at h
        rw [Int32.lt_iff_toInt_lt, show (12 : Int32).toInt = 12 from by decide]
        omega))
      subst eR
      have R1 : 1 ≤ R := by
        rcases Nat.eq_zero_or_pos R with e | e
        · rw [e] at h0
          exact absurd (by decide) h0
        · exact e
      rw [n_b (k := R) (by omega) (by omega), gt_t, n_t (k := R) (by omega)]
      refine ⟨_, rfl, ?_⟩
      show gt_d true (some ((sg_up σ 30 9 0) 40 R, sg_up σ 30 9 0)) = _
      rw [gt_t, sg_ne (by omega), ← (h.c.uni R R1 (by omega)).st]
theorem about_O {σ : sg_T} (h : iv σ) (a1 : Int32) : r_O σ (fn_TM_about a1 σ) (fn_MOD_about a1) := by
  have t4 : tn_I (4 : Int32) = 4 := by decide
  have i4 : ib_I (4 : Int32) 5 = true := by decide
  obtain ⟨M, _, Ma, Mb⟩ := h.c.many
  unfold fn_TM_about fn_MOD_about
  rw [i4, gt_t, t4]
  by_cases h0 : a1 = 0
  · simp only [h0, if_true]; exact ⟨_, rfl, by dsimp only; rw [sg_ne (by omega), ← h.md]⟩
  simp only [h0, if_false]
  by_cases h1 : a1 = 1
  · simp only [h1, if_true]; exact ⟨_, rfl, by dsimp only; rw [sg_ne (by omega), ← h.c.nxt]⟩
  simp only [h1, if_false]
  by_cases h2 : a1 = 2
  · simp only [h2, if_true]; exact ⟨_, rfl, by dsimp only; rw [sg_ne (by omega), ← h.c.ntd]⟩
  simp only [h2, if_false]
  by_cases h3 : a1 = 3
  · simp only [h3, if_true, gt_t]; exact ⟨_, rfl, by dsimp only; rw [sg_ne (by omega), ← h.c.rv 4 (by omega)]⟩
  simp only [h3, if_false]
  by_cases h4 : a1 = 4
  · simp only [h4, if_true]; exact ⟨_, rfl, by dsimp only; rw [sg_ne (by omega), ← h.cy]⟩
  simp only [h4, if_false]
  by_cases h5 : a1 = 5
  · simp only [h5, if_true]; exact ⟨_, rfl, by dsimp only; rw [sg_ne (by omega), ← h.c.hnd]⟩
  simp only [h5, if_false]
  by_cases h6 : a1 = 6
  · simp only [h6, if_true]; exact ⟨_, rfl, by dsimp only; rw [sg_ne (by omega), Ma, Mb]⟩
  simp only [h6, if_false]
  exact ⟨-1, rfl, rfl⟩
theorem n_bL {k L : Nat} (h : k < L) (hL : L < 2000000) : ib_I (nI k) L = true := by
  have e : (nI k).toInt = k := by rw [n_of, w_t (by omega) (by omega)]
  unfold ib_I
  rw [show (nI k).toNatClampNeg = (nI k).toInt.toNat from rfl, e, Int.toNat_natCast]
  have : ¬ nI k < 0 := by
    rw [Int32.lt_iff_toInt_lt, e, show (0 : Int32).toInt = 0 from by decide]
    omega
  simp [this, h]
theorem lg_same (x : Int64) : lg_cmp x x = 0 := (lg_cmp_eq x x).2 rfl
theorem bo_k {v : Int32} (hv : v = 0 ∨ v = 1) (X : Option Nat) (hX : X = some 1) : (if v = 0 then if lg_cmp v.toInt64 0 = 0 then X else none else if lg_cmp v.toInt64 1 = 0 then X else none) = some 1 := by
  rcases hv with e | e
  · subst e
    rw [if_pos rfl, if_pos (by decide)]; exact hX
  · subst e
    rw [if_neg (by decide), if_pos (by decide)]; exact hX
def v01 (o : Option (Int32 × sg_T)) : Prop := ∀ v σ, o = some (v, σ) → v = 0 ∨ v = 1
theorem v01_0 (σ : sg_T) : v01 (some (0, σ)) := fun v τ h => by cases h; exact .inl rfl
theorem v01_1 (σ : sg_T) : v01 (some (1, σ)) := fun v τ h => by cases h; exact .inr rfl
theorem v01_i {p : Prop} [Decidable p] {x y : Option (Int32 × sg_T)} (hx : v01 x) (hy : v01 y) : v01 (if p then x else y) := by
  split
  · exact hx
  · exact hy
theorem v01_g {c : Bool} {x : Option (Int32 × sg_T)} (hx : v01 x) : v01 (gt_d c x) := by
  unfold gt_d
  split
  · exact hx
  · exact fun v τ h => by cases h
theorem st_v (a1 : Int32) (σ : sg_T) : v01 (fn_MOD_start a1 σ) := by
  have k : ∀ z, v01 (fb_MOD_start_29 a1 z σ) := fun z => v01_i (v01_1 _) (v01_0 _)
  unfold fn_MOD_start
  rw [bz_m, ob_s]
  exact v01_i (k 1) (v01_i (v01_i (k 0) (k 2)) (k 1))
theorem se_v (a1 a2 : Int32) (σ : sg_T) : v01 (fn_MOD_set a1 a2 σ) := by
  have k : ∀ z, v01 (fb_MOD_set_24 a1 a2 z σ) := fun z => v01_i (v01_g (v01_1 _)) (v01_0 _)
  unfold fn_MOD_set
  rcases rg_R a1 with ⟨R, hR, eR, rc, rm⟩ | ⟨rc, rm⟩
  · rw [rm, ob_s]
    simp only [bz_m, ob_s]
    exact v01_i (k 1) (v01_i (k 0) (k 2))
  · rw [rm, ob_s]
    simp only [bz_m, ob_s]
    exact v01_i (k 1) (v01_i (k 0) (k 2))
theorem so_v (a1 a2 : Int32) (σ : sg_T) : v01 (fn_MOD_store a1 a2 σ) := by
  have k : ∀ z, v01 (fb_MOD_store_24 a1 a2 z σ) := fun z => v01_i (v01_g (v01_1 _)) (v01_0 _)
  unfold fn_MOD_store
  rcases pl_R a1 with ⟨R, hR, eR, rc, rm⟩ | ⟨rc, rm⟩
  · rw [rm, ob_s]
    simp only [bz_m, ob_s]
    exact v01_i (k 1) (v01_i (k 0) (k 2))
  · rw [rm, ob_s]
    simp only [bz_m, ob_s]
    exact v01_i (k 1) (v01_i (k 0) (k 2))
theorem law_l (L : Nat) (hL : L ≤ 3074) (xs : Nat → Int32) : ∀ n j, j < 4000 → L < j + 6 * n → 1 ≤ n → ∀ σ, iv σ → fb_LAW_law_43 L xs n (nI j) σ = some 1
  | 0, _, _, _, h, _, _ => absurd h (by omega)
  | n + 1, j, hj, hn, _, σ, h => by
    rw [fb_LAW_law_43]
    have ec : ((nI L) - (6 : Int32) < nI j) ↔ (L : Int) - 6 < j := by
      rw [n_of, n_of, show (6 : Int32) = Int32.ofInt 6 from rfl, ← Int32.ofInt_sub, w_lt (by omega) (by omega) (by omega) (by omega)]
    by_cases he : (L : Int) - 6 < j
    · rw [if_pos (ec.2 he)]
    · rw [if_neg (fun h => he (ec.1 h))]
      have g0 : ib_I (nI j) L = true := n_bL (by omega) (by omega)
      have g1 : ib_I (nI j + 1) L = true := by rw [show (1 : Int32) = nI 1 from rfl, n_add]; exact n_bL (by omega) (by omega)
      have g2 : ib_I (nI j + 2) L = true := by rw [show (2 : Int32) = nI 2 from rfl, n_add]; exact n_bL (by omega) (by omega)
      have g3 : ib_I (nI j + 3) L = true := by rw [show (3 : Int32) = nI 3 from rfl, n_add]; exact n_bL (by omega) (by omega)
      have g4 : ib_I (nI j + 4) L = true := by rw [show (4 : Int32) = nI 4 from rfl, n_add]; exact n_bL (by omega) (by omega)
      have g5 : ib_I (nI j + 5) L = true := by rw [show (5 : Int32) = nI 5 from rfl, n_add]; exact n_bL (by omega) (by omega)
      have IH : ∀ σ, iv σ → fb_LAW_law_811 L xs (fb_LAW_law_43 L xs n) (nI j) σ = some 1 := by
        intro σ hσ
        unfold fb_LAW_law_811
        rw [show (6 : Int32) = nI 6 from rfl, n_add]
        exact law_l L hL xs n (j + 6) (by omega) (by omega) (by omega) σ hσ
      generalize fb_LAW_law_43 L xs n = kL at IH
      simp only [g0, g1, g2, g3, g4, g5, i01, gt_t]
      clear g0 g1 g2 g3 g4 g5 ec
      generalize xs (tn_I (nI j)) &&& 15 = o
      generalize xs (tn_I (nI j + 1)) = b1
      generalize xs (tn_I (nI j + 2)) = b2
      generalize xs (tn_I (nI j + 3)) = b3
      generalize xs (tn_I (nI j + 4)) = b4
      generalize xs (tn_I (nI j + 5)) = b5
      simp only [fb_LAW_law_229, fb_LAW_law_286, fb_LAW_law_292, fb_LAW_law_348, fb_LAW_law_417, fb_LAW_law_423, fb_LAW_law_492, fb_LAW_law_498, fb_LAW_law_578, fb_LAW_law_658, fn_MOD_thrown, ob_s]
      by_cases o0 : o = 0
      · obtain ⟨z, σ1, v, σ2, e1, e2, e3, e4, e5⟩ := put_O h b1 b2 b3 b4 b5
        rw [if_pos o0, e1, ob_s]
        simp only []
        rw [e2, ob_s]
        simp only [e3, if_true]
        by_cases hz : z = 0
        · rw [if_pos hz, e4 hz, lg_same, if_pos rfl]; exact IH σ2 e5
        · rw [if_neg hz]; exact IH σ2 e5
      rw [if_neg o0]
      by_cases o1 : o = 1
      · obtain ⟨z, σ1, v, σ2, e1, e2, e3, e4, e5⟩ := start_O h b1
        rw [if_pos o1, e1, ob_s]
        simp only []
        have e2' := e2
        rw [e2, ob_s]
        simp only [e3, if_true]
        by_cases hz : z = 0
        · rw [if_pos hz, e4 hz]
          exact bo_k (st_v b1 σ1 v σ2 e2') _ (IH σ2 e5)
        · rw [if_neg hz]; exact IH σ2 e5
      rw [if_neg o1]
      by_cases o2 : o = 2
      · obtain ⟨z, σ1, v, σ2, e1, e2, e3, e4, e5⟩ := run_O h b1
        rw [if_pos o2, e1, ob_s]
        simp only []
        rw [e2, ob_s]
        simp only [e3, if_true]
        by_cases hz : z = 0
        · rw [if_pos hz, e4 hz, lg_same, if_pos rfl]; exact IH σ2 e5
        · rw [if_neg hz]; exact IH σ2 e5
      rw [if_neg o2]
      by_cases o3 : o = 3
      · obtain ⟨z, σ1, v, σ2, e1, e2, e3, e4, e5⟩ := set_O h b1 b2
        rw [if_pos o3, e1, ob_s]
        simp only []
        have e2' := e2
        rw [e2, ob_s]
        simp only [e3, if_true]
        by_cases hz : z = 0
        · rw [if_pos hz, e4 hz]
          exact bo_k (se_v b1 b2 σ1 v σ2 e2') _ (IH σ2 e5)
        · rw [if_neg hz]; exact IH σ2 e5
      rw [if_neg o3]
      by_cases o4 : o = 4
      · obtain ⟨z, σ1, v, σ2, e1, e2, e3, e4, e5⟩ := store_O h b1 b2
        rw [if_pos o4, e1, ob_s]
        simp only []
        have e2' := e2
        rw [e2, ob_s]
        simp only [e3, if_true]
        by_cases hz : z = 0
        · rw [if_pos hz, e4 hz]
          exact bo_k (so_v b1 b2 σ1 v σ2 e2') _ (IH σ2 e5)
        · rw [if_neg hz]; exact IH σ2 e5
      rw [if_neg o4]
      by_cases o5 : o = 5
      · obtain ⟨z, σ1, v, σ2, e1, e2, e3, e4, e5⟩ := reckon_O h b1 b2 b3
        rw [if_pos o5, e1, ob_s]
        simp only []
        rw [e2, ob_s]
        simp only [e3, if_true]
        by_cases hz : z = 0
        · rw [if_pos hz, e4 hz, lg_same, if_pos rfl]; exact IH σ2 e5
        · rw [if_neg hz]; exact IH σ2 e5
      rw [if_neg o5]
      by_cases o6 : o = 6
      · obtain ⟨z, σ1, v, σ2, e1, e2, e3, e4, e5⟩ := exceptions_O h b1 b2 b3
        rw [if_pos o6, e1, ob_s]
        simp only []
        rw [e2, ob_s]
        simp only [e3, if_true]
        by_cases hz : z = 0
        · rw [if_pos hz, e4 hz, lg_same, if_pos rfl]; exact IH σ2 e5
        · rw [if_neg hz]; exact IH σ2 e5
      rw [if_neg o6]
      by_cases o7 : o = 7
      · obtain ⟨v, e1, e2⟩ := floating_O h b1
        rw [if_pos o7, e1, ob_s]
        simp only []
        rw [e2, ob_s]
        simp only [if_true]
        exact IH _ (iv_t h 0)
      rw [if_neg o7]
      by_cases o8 : o = 8
      · obtain ⟨v, e1, e2⟩ := general_O h b1
        rw [if_pos o8, e1, ob_s]
        simp only []
        rw [e2, ob_s]
        simp only [if_true]
        exact IH _ (iv_t h 0)
      rw [if_neg o8]
      by_cases o9 : o = 9
      · obtain ⟨v, e1, e2⟩ := word_O h b1
        rw [if_pos o9, e1, ob_s]
        simp only []
        rw [e2, ob_s]
        simp only [if_true]
        exact IH _ (iv_t h 0)
      rw [if_neg o9]
      by_cases o10 : o = 10
      · obtain ⟨v, e1, e2⟩ := tag_O h b1
        rw [if_pos o10, e1, ob_s]
        simp only []
        rw [e2, ob_s]
        simp only [if_true]
        exact IH _ (iv_t h 0)
      rw [if_neg o10]
      by_cases o11 : o = 11
      · obtain ⟨v, e1, e2⟩ := place_O h b1
        rw [if_pos o11, e1, ob_s]
        simp only []
        rw [e2, ob_s]
        simp only [if_true]
        exact IH _ (iv_t h 0)
      rw [if_neg o11]
      by_cases o12 : o = 12
      · obtain ⟨v, e1, e2⟩ := about_O h b1
        rw [if_pos o12, e1, ob_s]
        simp only []
        rw [e2, ob_s]
        simp only [if_true]
        exact IH _ (iv_t h 0)
      rw [if_neg o12]
      exact IH σ h
