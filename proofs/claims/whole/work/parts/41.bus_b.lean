/-! the first of its kind -/
theorem if_s {α β : Type} {p : Prop} [Decidable p] (x y : α) (z : β) (o : Option (α × β)) (h : o = some (y, z)) : (if p then some (x, z) else o) = some (if p then x else y, z) := by
  rw [h]
  split <;> rfl
theorem fl_s (s : Int32) (l k n : Nat) (hl : l ≤ 12) (hk : k ≤ l) (a : sg_T) : fb_TM_firstLike_3 (n + 1) s (nI l) (nI k) a = if a 12 k = s then some (nI k, a) else fb_TM_firstLike_3 n s (nI l) (nI (k + 1)) a := by
  rw [show fb_TM_firstLike_3 (n + 1) s (nI l) (nI k) a = if nI l < nI k then some ((-1 : Int32), a) else gt_d (ib_I (nI k) 13) (if (a 12 (tn_I (nI k))) = s then some (nI k, a) else fb_TM_firstLike_3 n s (nI l) (nI k + (1 : Int32)) a) from rfl]
  rw [if_neg (fun h => by have := (n_lt (by omega) (by omega)).1 h; omega), n_b (by omega) (by omega), gt_t, n_t (by omega), n_s]
theorem fl_e (s : Int32) (l k n : Nat) (hl : l ≤ 12) (hk : l < k) (hk2 : k < 64) (a : sg_T) : fb_TM_firstLike_3 (n + 1) s (nI l) (nI k) a = some (-1, a) := by
  rw [show fb_TM_firstLike_3 (n + 1) s (nI l) (nI k) a = if nI l < nI k then some ((-1 : Int32), a) else gt_d (ib_I (nI k) 13) (if (a 12 (tn_I (nI k))) = s then some (nI k, a) else fb_TM_firstLike_3 n s (nI l) (nI k + (1 : Int32)) a) from rfl]
  rw [if_pos ((n_lt (by omega) (by omega)).2 hk)]
theorem fl_69 (s : Int32) (a : sg_T) : fn_TM_firstLike s 6 9 a = some (if a 12 6 = s then 6 else if a 12 7 = s then 7 else if a 12 8 = s then 8 else if a 12 9 = s then 9 else -1, a) := by
  show fb_TM_firstLike_3 14 s (nI 9) (nI 6) a = _
  rw [fl_s s 9 6 13 (by omega) (by omega), fl_s s 9 7 12 (by omega) (by omega), fl_s s 9 8 11 (by omega) (by omega), fl_s s 9 9 10 (by omega) (by omega), fl_e s 9 10 9 (by omega) (by omega) (by omega)]
  exact if_s _ _ _ _ (if_s _ _ _ _ (if_s _ _ _ _ (if_s _ _ _ _ rfl)))
theorem fl_15 (s : Int32) (a : sg_T) : fn_TM_firstLike s 1 5 a = some (if a 12 1 = s then 1 else if a 12 2 = s then 2 else if a 12 3 = s then 3 else if a 12 4 = s then 4 else if a 12 5 = s then 5 else -1, a) := by
  show fb_TM_firstLike_3 14 s (nI 5) (nI 1) a = _
  rw [fl_s s 5 1 13 (by omega) (by omega), fl_s s 5 2 12 (by omega) (by omega), fl_s s 5 3 11 (by omega) (by omega), fl_s s 5 4 10 (by omega) (by omega), fl_s s 5 5 9 (by omega) (by omega), fl_e s 5 6 8 (by omega) (by omega) (by omega)]
  exact if_s _ _ _ _ (if_s _ _ _ _ (if_s _ _ _ _ (if_s _ _ _ _ (if_s _ _ _ _ rfl))))
theorem fl_45 (s : Int32) (a : sg_T) : fn_TM_firstLike s 4 5 a = some (if a 12 4 = s then 4 else if a 12 5 = s then 5 else -1, a) := by
  show fb_TM_firstLike_3 14 s (nI 5) (nI 4) a = _
  rw [fl_s s 5 4 13 (by omega) (by omega), fl_s s 5 5 12 (by omega) (by omega), fl_e s 5 6 11 (by omega) (by omega) (by omega)]
  exact if_s _ _ _ _ (if_s _ _ _ _ rfl)
theorem fl_13 (s : Int32) (a : sg_T) : fn_TM_firstLike s 1 3 a = some (if a 12 1 = s then 1 else if a 12 2 = s then 2 else if a 12 3 = s then 3 else -1, a) := by
  show fb_TM_firstLike_3 14 s (nI 3) (nI 1) a = _
  rw [fl_s s 3 1 13 (by omega) (by omega), fl_s s 3 2 12 (by omega) (by omega), fl_s s 3 3 11 (by omega) (by omega), fl_e s 3 4 10 (by omega) (by omega) (by omega)]
  exact if_s _ _ _ _ (if_s _ _ _ _ (if_s _ _ _ _ rfl))
theorem fl_1012 (s : Int32) (a : sg_T) : fn_TM_firstLike s 10 12 a = some (if a 12 10 = s then 10 else if a 12 11 = s then 11 else if a 12 12 = s then 12 else -1, a) := by
  show fb_TM_firstLike_3 14 s (nI 12) (nI 10) a = _
  rw [fl_s s 12 10 13 (by omega) (by omega), fl_s s 12 11 12 (by omega) (by omega), fl_s s 12 12 11 (by omega) (by omega), fl_e s 12 13 10 (by omega) (by omega) (by omega)]
  exact if_s _ _ _ _ (if_s _ _ _ _ (if_s _ _ _ _ rfl))
def trn (k : Nat) : Nat := if k < 4 then 6 + k else k - 3
theorem trn_m : ∀ k : Fin 9, (if (4 : Int32) ≤ nI k.val then nI k.val - 3 else 6 + nI k.val) = nI (trn k.val) ∧ nI k.val + (-1) = (if k.val = 0 then -1 else nI (k.val - 1)) ∧ ib_I (nI (trn k.val)) 13 = true ∧ tn_I (nI (trn k.val)) = trn k.val := by decide +kernel
theorem tr_e (k : Nat) (hk : k < 9) (b : sg_T) : fn_MOD_turnOf (nI k) b = some (nI (trn k), b) := by
  rw [← (trn_m ⟨k, hk⟩).1]
  unfold fn_MOD_turnOf
  split <;> rfl
theorem b5_s (n k : Nat) (hk : k < 9) (x : Int32) (b : sg_T) : fb_MOD_bus_5 (n + 1) x (nI k) b = fb_MOD_bus_5 n (if b 40 (trn k) = 3 then nI (trn k) else x) (if k = 0 then -1 else nI (k - 1)) b := by
  have h := trn_m ⟨k, hk⟩
  rw [show fb_MOD_bus_5 (n + 1) x (nI k) b = if nI k < 0 then if x = 0 then some (b) else fb_MOD_bus_44 27 x (0 : Int32) b else (fn_MOD_turnOf (nI k) b).bind (fun z28 => gt_d (ib_I z28.1 13) (if (z28.2 40 (tn_I z28.1)) = (3 : Int32) then (fn_MOD_turnOf (nI k) z28.2).bind (fun z31 => fb_MOD_bus_30 (fb_MOD_bus_5 n) (nI k) z31.1 z31.2) else fb_MOD_bus_30 (fb_MOD_bus_5 n) (nI k) x z28.2)) from rfl]
  rw [if_neg (fun h1 => (n_all ⟨k, by omega⟩).2.1.1 h1)]
  simp only [tr_e k hk, Option.bind_some, fb_MOD_bus_30]
  rw [show ib_I (nI (trn k)) 13 = true from h.2.2.1, gt_t, show tn_I (nI (trn k)) = trn k from h.2.2.2, show nI k + (-1) = _ from h.2.1]
  by_cases h3 : b 40 (trn k) = 3
  · rw [if_pos h3, if_pos h3]
  · rw [if_neg h3, if_neg h3]
theorem b5_n (n k : Nat) (hk : k < 8) (x : Int32) (b : sg_T) : fb_MOD_bus_5 (n + 1) x (nI (k + 1)) b = fb_MOD_bus_5 n (if b 40 (trn (k + 1)) = 3 then nI (trn (k + 1)) else x) (nI k) b := by
  rw [b5_s n (k + 1) (by omega), if_neg (c := k + 1 = 0) (by omega), Nat.add_sub_cancel]
def s_L (f : Nat → Int32) : Int32 := if f 6 = 3 then 6 else if f 7 = 3 then 7 else if f 8 = 3 then 8 else if f 9 = 3 then 9 else if f 1 = 3 then 1 else if f 2 = 3 then 2 else if f 3 = 3 then 3 else if f 4 = 3 then 4 else if f 5 = 3 then 5 else 0
theorem b5_e (b : sg_T) : fn_MOD_bus b = if s_L (b 40) = 0 then some b else fb_MOD_bus_44 27 (s_L (b 40)) 0 b := by
  show fb_MOD_bus_5 27 0 (nI 8) b = _
  rw [b5_n 26 7 (by omega), b5_n 25 6 (by omega), b5_n 24 5 (by omega), b5_n 23 4 (by omega), b5_n 22 3 (by omega), b5_n 21 2 (by omega), b5_n 20 1 (by omega), b5_n 19 0 (by omega), b5_s 18 0 (by omega), if_pos (c := 0 = 0) rfl]
  rfl
theorem ub_e (a : sg_T) : fn_TM_useBus a = if s_L (a 12) = 0 then some a else fn_TM_send (s_L (a 12)) a := by
  simp only [fn_TM_useBus, fl_69, fl_15, Option.bind_some, fb_TM_useBus_23, bs_1]
  unfold s_L
  by_cases h6 : a 12 6 = 3
  · simp only [h6, if_true]; rw [if_neg (by decide), if_neg (by decide), if_neg (by decide)]
  simp only [h6, if_false]
  by_cases h7 : a 12 7 = 3
  · simp only [h7, if_true]; rw [if_neg (by decide), if_neg (by decide), if_neg (by decide)]
  simp only [h7, if_false]
  by_cases h8 : a 12 8 = 3
  · simp only [h8, if_true]; rw [if_neg (by decide), if_neg (by decide), if_neg (by decide)]
  simp only [h8, if_false]
  by_cases h9 : a 12 9 = 3
  · simp only [h9, if_true]; rw [if_neg (by decide), if_neg (by decide), if_neg (by decide)]
  simp only [h9, if_false, if_true]
  by_cases h1 : a 12 1 = 3
  · simp only [h1, if_true]; rw [if_neg (by decide), if_neg (by decide)]
  simp only [h1, if_false]
  by_cases h2 : a 12 2 = 3
  · simp only [h2, if_true]; rw [if_neg (by decide), if_neg (by decide)]
  simp only [h2, if_false]
  by_cases h3 : a 12 3 = 3
  · simp only [h3, if_true]; rw [if_neg (by decide), if_neg (by decide)]
  simp only [h3, if_false]
  by_cases h4 : a 12 4 = 3
  · simp only [h4, if_true]; rw [if_neg (by decide), if_neg (by decide)]
  simp only [h4, if_false]
  by_cases h5 : a 12 5 = 3
  · simp only [h5, if_true]; rw [if_neg (by decide), if_neg (by decide)]
  simp only [h5, if_false, if_true]
theorem s_Lk (f : Nat → Int32) : s_L f = 0 ∨ ∃ t, 1 ≤ t ∧ t ≤ 9 ∧ f t = 3 ∧ s_L f = nI t := by
  unfold s_L
  by_cases h6 : f 6 = 3
  · exact .inr ⟨6, by omega, by omega, h6, by rw [if_pos h6]; rfl⟩
  rw [if_neg h6]
  by_cases h7 : f 7 = 3
  · exact .inr ⟨7, by omega, by omega, h7, by rw [if_pos h7]; rfl⟩
  rw [if_neg h7]
  by_cases h8 : f 8 = 3
  · exact .inr ⟨8, by omega, by omega, h8, by rw [if_pos h8]; rfl⟩
  rw [if_neg h8]
  by_cases h9 : f 9 = 3
  · exact .inr ⟨9, by omega, by omega, h9, by rw [if_pos h9]; rfl⟩
  rw [if_neg h9]
  by_cases h1 : f 1 = 3
  · exact .inr ⟨1, by omega, by omega, h1, by rw [if_pos h1]; rfl⟩
  rw [if_neg h1]
  by_cases h2 : f 2 = 3
  · exact .inr ⟨2, by omega, by omega, h2, by rw [if_pos h2]; rfl⟩
  rw [if_neg h2]
  by_cases h3 : f 3 = 3
  · exact .inr ⟨3, by omega, by omega, h3, by rw [if_pos h3]; rfl⟩
  rw [if_neg h3]
  by_cases h4 : f 4 = 3
  · exact .inr ⟨4, by omega, by omega, h4, by rw [if_pos h4]; rfl⟩
  rw [if_neg h4]
  by_cases h5 : f 5 = 3
  · exact .inr ⟨5, by omega, by omega, h5, by rw [if_pos h5]; rfl⟩
  rw [if_neg h5]
  exact .inl rfl
