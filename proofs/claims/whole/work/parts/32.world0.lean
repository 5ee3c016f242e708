/-! the loop's world out of what the constructors made -/
theorem at_cg {D : va_G} {cl : List vw_C} {a : Nat} {e e' : va_E} {H : Heap} (h : va_at D cl (a, e) H) (he : e = e') : va_at D cl (a, e') H := he ▸ h
set_option maxRecDepth 100000 in
set_option maxHeartbeats 4000000 in
theorem ini_P {D : va_G} {ca ca2 : Nat → ClassId} {cJ : ClassId} {ad1 ad2 : Nat → Nat} {E1 : Nat → va_E} {qo h0 L : Nat} {xs : Nat → Int32} {H : Heap} (hF : tm_F h0 (lc_v L xs 0) (lc_v L xs 1) ad1 E1 ca) (hc6 : ca 6 = ca 0) (hci : ∀ j, 1 ≤ j → j < 19 → ca2 j = ca 0) (hcz : ca2 19 = ca 1)
    (hP : va_P D vwCl (wl_W (ax_A ad1 ad2 qo) 103 (ax_E E1 (md_E ad2 ca2 (md_c (lc_v L xs 0)) (md_c (lc_v L xs 1))) (eo_J cJ))) H) : va_P D vwCl (ww_W (ax_X D ca cJ ad1 ad2 qo) (si_0 L xs)) H := by
  obtain ⟨f0, f1, ⟨⟨g1, g2, g3⟩, g4⟩, ⟨⟨o1, o2, o3⟩, o4⟩, ⟨⟨u1, u2, u3⟩, u4⟩, n4, n5, n6, n7⟩ := hF
  intro k q hk
  by_cases hk3 : k < 103
  · unfold ww_W at hk
    rw [wl_get hk3] at hk
    cases hk
    have h9 := hP (pi_K k) _ (wl_get (pi_lt k hk3))
    have arrI : ∀ (c1 c2 : ClassId) (N : Nat) (f : Nat → Int32), c1 = c2 → (fun _ => (0 : Int32)) = f → (.inl (c1, N, .inl (fun _ => 0)) : va_E) = .inl (c2, N, .inl f) := fun c1 c2 N f h1 h2 => by rw [h1, h2]
    by_cases q8 : k < 8
    · rcases (show k = 0 ∨ k = 1 ∨ k = 2 ∨ k = 3 ∨ k = 4 ∨ k = 5 ∨ k = 6 ∨ k = 7 by omega) with rfl | rfl | rfl | rfl | rfl | rfl | rfl | rfl
      · exact at_cg h9 ((ex_tm (j := 0) rfl (by decide)).trans (f1.trans rfl))
      · have h8 := at_cg h9 ((ex_tm (j := 1) rfl (by decide)).trans g2)
        exact Eq.trans h8 (congrArg some (vq_cg (fun j hj => (g3 j hj).trans (congrArg some (ax_tm (pi_i j hj) (by omega)).symm))))
      · have h8 := at_cg h9 ((ex_tm (j := 32) rfl (by decide)).trans o2)
        exact Eq.trans h8 (congrArg some (vq_cg (fun j hj => (o3 j hj).trans (congrArg some (ax_tm (pi_o j hj) (by omega)).symm))))
      · exact at_cg h9 ((ex_tm (j := 78) rfl (by decide)).trans (n4.trans (arrI _ _ _ _ rfl rfl)))
      · exact at_cg h9 ((ex_tm (j := 79) rfl (by decide)).trans (n5.trans (arrI _ _ _ _ hc6 rfl)))
      · have h8 := at_cg h9 ((ex_tm (j := 38) rfl (by decide)).trans u2)
        exact Eq.trans h8 (congrArg some (vq_cg (fun j hj => (u3 j hj).trans (congrArg some (ax_tm (pi_u j hj) (by omega)).symm))))
      · exact at_cg h9 ((ex_tm (j := 80) rfl (by decide)).trans (n6.trans (arrI _ _ _ _ rfl rfl)))
      · exact at_cg h9 ((ex_tm (j := 81) rfl (by decide)).trans (n7.trans rfl))
    · by_cases q38 : k < 38
      · obtain ⟨i, rfl⟩ : ∃ i, k = 8 + i := ⟨k - 8, by omega⟩
        refine at_cg h9 ((ex_tm (pi_i i (by omega)) (by omega)).trans ((g4 i (by omega)).trans ?_))
        rw [ee_ins (by omega)]
        rfl
      · by_cases q69 : k < 69
        · obtain ⟨i, rfl⟩ : ∃ i, k = 38 + i := ⟨k - 38, by omega⟩
          rw [ee_opd (by omega)]
          by_cases q5 : i < 5
          · exact at_cg h9 ((ex_tm (pi_o i q5) (by omega)).trans ((o4 i q5).trans rfl))
          · rcases (show (∃ t, t < 13 ∧ i = 5 + 2 * t) ∨ ∃ t, t < 13 ∧ i = 6 + 2 * t by
              rcases (show (i - 5) % 2 = 0 ∨ (i - 5) % 2 = 1 by omega) with h | h
              · exact Or.inl ⟨(i - 5) / 2, by omega, by omega⟩
              · exact Or.inr ⟨(i - 5) / 2, by omega, by omega⟩) with ⟨t, ht, rfl⟩ | ⟨t, ht, rfl⟩
            · exact at_cg h9 ((ex_tm (pi_a t ht) (by omega)).trans ((u4 t ht).2.1.trans rfl))
            · exact at_cg h9 ((ex_tm (pi_b t ht) (by omega)).trans ((u4 t ht).2.2.trans rfl))
        · by_cases q82 : k < 82
          · obtain ⟨t, rfl⟩ : ∃ t, k = 69 + t := ⟨k - 69, by omega⟩
            have ht : t < 13 := by omega
            rw [ee_uni ht]
            refine at_cg h9 ((ex_tm (pi_u t ht) (by omega)).trans ((u4 t ht).1.trans ?_))
            unfold ee_U un_1
            rw [← ax_tm (ad1 := ad1) (ad2 := ad2) (qo := qo) (pi_a t ht) (by omega), ← ax_tm (ad1 := ad1) (ad2 := ad2) (qo := qo) (pi_b t ht) (by omega)]
            rfl
          · by_cases q102 : k < 102
            · obtain ⟨j, rfl⟩ : ∃ j, k = 82 + j := ⟨k - 82, by omega⟩
              have hj : j < 20 := by omega
              have h8 := at_cg h9 (ex_md hj)
              rcases (show j = 0 ∨ j = 1 ∨ j = 2 ∨ j = 3 ∨ j = 4 ∨ j = 5 ∨ j = 6 ∨ j = 7 ∨ j = 8 ∨ j = 9 ∨ j = 10 ∨ j = 11 ∨ j = 12 ∨ j = 13 ∨ j = 14 ∨ j = 15 ∨ j = 16 ∨ j = 17 ∨ j = 18 ∨ j = 19 by omega) with rfl | rfl | rfl | rfl | rfl | rfl | rfl | rfl | rfl | rfl | rfl | rfl | rfl | rfl | rfl | rfl | rfl | rfl | rfl | rfl
              · exact at_cg h8 rfl
              · exact at_cg h8 (arrI _ _ _ _ (hci 1 (by decide) (by decide)) rfl)
              · exact at_cg h8 (arrI _ _ _ _ (hci 2 (by decide) (by decide)) rfl)
              · exact at_cg h8 (arrI _ _ _ _ (hci 3 (by decide) (by decide)) rfl)
              · exact at_cg h8 (arrI _ _ _ _ (hci 4 (by decide) (by decide)) rfl)
              · exact at_cg h8 (arrI _ _ _ _ (hci 5 (by decide) (by decide)) rfl)
              · exact at_cg h8 (arrI _ _ _ _ (hci 6 (by decide) (by decide)) rfl)
              · exact at_cg h8 (arrI _ _ _ _ (hci 7 (by decide) (by decide)) rfl)
              · exact at_cg h8 (arrI _ _ _ _ (hci 8 (by decide) (by decide)) rfl)
              · exact at_cg h8 (arrI _ _ _ _ (hci 9 (by decide) (by decide)) rfl)
              · exact at_cg h8 (arrI _ _ _ _ (hci 10 (by decide) (by decide)) rfl)
              · exact at_cg h8 (arrI _ _ _ _ (hci 11 (by decide) (by decide)) rfl)
              · exact at_cg h8 (arrI _ _ _ _ (hci 12 (by decide) (by decide)) rfl)
              · exact at_cg h8 (arrI _ _ _ _ (hci 13 (by decide) (by decide)) rfl)
              · exact at_cg h8 (arrI _ _ _ _ (hci 14 (by decide) (by decide)) rfl)
              · exact at_cg h8 (arrI _ _ _ _ (hci 15 (by decide) (by decide)) rfl)
              · exact at_cg h8 (arrI _ _ _ _ (hci 16 (by decide) (by decide)) rfl)
              · exact at_cg h8 (arrI _ _ _ _ (hci 17 (by decide) (by decide)) rfl)
              · exact at_cg h8 (arrI _ _ _ _ (hci 18 (by decide) (by decide)) rfl)
              · exact at_cg h8 (arrI _ _ _ _ hcz rfl)
            · have h102 : k = 102 := by omega
              subst h102
              have hz : (fun _ => (0 : Int64)) = fun j : Nat => if j = 0 then (si_0 L xs 51 0).toInt64 else 0 := by
                funext j
                by_cases hj : j = 0
                · rw [if_pos hj]
                  rfl
                · rw [if_neg hj]
              have h8 : va_at D vwCl (ax_A ad1 ad2 qo (pi_K 102), eo_J cJ) H := h9
              unfold eo_J at h8
              rw [hz] at h8
              exact h8
  · unfold ww_W at hk
    rw [wl_none hk3] at hk
    cases hk
theorem ini_D {D : va_G} {ca : Nat → ClassId} {cJ : ClassId} {ad1 ad2 : Nat → Nat} {E3 : Nat → va_E} {qo : Nat} {σ : sg_T} {A : Nat → Prop} {sz : Nat} (hD : va_D A (wl_W (ax_A ad1 ad2 qo) 103 E3)) : va_D (ct_A (ax_X D ca cJ ad1 ad2 qo) sz) (ww_W (ax_X D ca cJ ad1 ad2 qo) σ) := by
  unfold ww_W
  refine wl_self (A := fun _ => True) ⟨fun i j x y hx hy hxy => ?_, fun _ _ _ => trivial⟩
  by_cases hi : i < 103
  · by_cases hj : j < 103
    · rw [wl_get hi] at hx
      rw [wl_get hj] at hy
      cases hx
      cases hy
      exact pi_inj i hi j hj (hD.1 _ _ _ _ (wl_get (pi_lt i hi)) (wl_get (pi_lt j hj)) hxy)
    · rw [wl_none hj] at hy
      cases hy
  · rw [wl_none hi] at hx
    cases hx
