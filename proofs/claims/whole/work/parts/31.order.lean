/-! from the order of making to the order of the world -/
def si_0 (L : Nat) (xs : Nat → Int32) : sg_T := fun r c => if r = 0 then (if c = 0 then tm_c (lc_v L xs 0) else if c = 1 then tm_c (lc_v L xs 1) else if c = 3 then 2 else 0) else if r = 30 then (if c = 0 then md_c (lc_v L xs 0) else if c = 1 then md_c (lc_v L xs 1) else if c = 3 then 2 else 0) else 0
def pi_K (k : Nat) : Nat := if k = 0 then 0 else if k = 1 then 1 else if k = 2 then 32 else if k = 3 then 78 else if k = 4 then 79 else if k = 5 then 38 else if k = 6 then 80 else if k = 7 then 81 else if k < 38 then k - 6 else if k < 43 then k - 5 else if k < 69 then (if (k - 43) % 2 = 0 then 40 + 3 * ((k - 43) / 2) else 41 + 3 * ((k - 43) / 2)) else if k < 82 then 39 + 3 * (k - 69) else k
theorem pi_inj : ∀ i, i < 103 → ∀ j, j < 103 → pi_K i = pi_K j → i = j := by decide +kernel
theorem pi_lt : ∀ i, i < 103 → pi_K i < 103 := by decide +kernel
theorem pi_i (i : Nat) (h : i < 30) : pi_K (8 + i) = 2 + i := by
  unfold pi_K
  rw [if_neg (by omega), if_neg (by omega), if_neg (by omega), if_neg (by omega), if_neg (by omega), if_neg (by omega), if_neg (by omega), if_neg (by omega), if_pos (by omega)]
  omega
theorem pi_o (i : Nat) (h : i < 5) : pi_K (38 + i) = 33 + i := by
  unfold pi_K
  rw [if_neg (by omega), if_neg (by omega), if_neg (by omega), if_neg (by omega), if_neg (by omega), if_neg (by omega), if_neg (by omega), if_neg (by omega), if_neg (by omega), if_pos (by omega)]
  omega
theorem pi_a (t : Nat) (h : t < 13) : pi_K (38 + (5 + 2 * t)) = 40 + 3 * t := by
  unfold pi_K
  rw [if_neg (by omega), if_neg (by omega), if_neg (by omega), if_neg (by omega), if_neg (by omega), if_neg (by omega), if_neg (by omega), if_neg (by omega), if_neg (by omega), if_neg (by omega), if_pos (by omega), if_pos (by omega)]
  omega
theorem pi_b (t : Nat) (h : t < 13) : pi_K (38 + (6 + 2 * t)) = 41 + 3 * t := by
  unfold pi_K
  rw [if_neg (by omega), if_neg (by omega), if_neg (by omega), if_neg (by omega), if_neg (by omega), if_neg (by omega), if_neg (by omega), if_neg (by omega), if_neg (by omega), if_neg (by omega), if_pos (by omega), if_neg (by omega)]
  omega
theorem pi_u (t : Nat) (h : t < 13) : pi_K (69 + t) = 39 + 3 * t := by
  unfold pi_K
  rw [if_neg (by omega), if_neg (by omega), if_neg (by omega), if_neg (by omega), if_neg (by omega), if_neg (by omega), if_neg (by omega), if_neg (by omega), if_neg (by omega), if_neg (by omega), if_neg (by omega), if_pos (by omega)]
  omega
theorem pi_m (j : Nat) : pi_K (82 + j) = 82 + j := by
  unfold pi_K
  rw [if_neg (by omega), if_neg (by omega), if_neg (by omega), if_neg (by omega), if_neg (by omega), if_neg (by omega), if_neg (by omega), if_neg (by omega), if_neg (by omega), if_neg (by omega), if_neg (by omega), if_neg (by omega)]
theorem wl_app {ad ad' : Nat → Nat} {n m : Nat} {E E' : Nat → va_E} : wl_W ad n E ++ wl_W ad' m E' = wl_W (fun k => if k < n then ad k else ad' (k - n)) (n + m) (fun k => if k < n then E k else E' (k - n)) := by
  apply List.ext_getElem?
  intro k
  by_cases h1 : k < n
  · rw [List.getElem?_append_left (by rw [wl_len]; exact h1), wl_get h1, wl_get (by omega), if_pos h1, if_pos h1]
  · rw [List.getElem?_append_right (by rw [wl_len]; omega), wl_len]
    by_cases h2 : k < n + m
    · rw [wl_get (by omega), wl_get h2, if_neg h1, if_neg h1]
    · rw [wl_none (by omega), wl_none h2]
theorem vq_cg {cA : ClassId} {N : Nat} {f g : Nat → Option Nat} (h : ∀ j, j < N → f j = g j) : vp_cell cA (N, .inr (.inr (.inr (.inr f)))) = vp_cell cA (N, .inr (.inr (.inr (.inr g)))) := by
  have e : ∀ (f g : Nat → Value), (∀ j, j < N → f j = g j) → arrV cA N f = arrV cA N g := by
    intro f g hfg
    have hs : (arrV cA N f).slots = (arrV cA N g).slots := by
      apply Array.ext
      · rw [arrV_size, arrV_size]
      · intro i h1 h2
        have h3 : i < N := by rw [arrV_size] at h1; exact h1
        have q1 := arrV_read cA f h3
        have q2 := arrV_read cA g h3
        rw [hfg i h3] at q1
        have q3 := q1.trans q2.symm
        rw [Array.getElem?_eq_getElem h1, Array.getElem?_eq_getElem h2] at q3
        exact Option.some.inj q3
    unfold arrV at hs ⊢
    simp only at hs
    simp only [hs]
  rw [vp_cell_q, vp_cell_q]
  exact e _ _ (fun j hj => by rw [h j hj])
theorem ra_u {D : va_G} {cl : List vw_C} {tys : List (ClassId × FieldType)} {s : State} {ty : FieldType} (hk : ∀ C, ty ≠ .object C) (hK : va_K D cl tys s) (i j : Nat) {c c' : ClassId} (hi : tys[i]? = some (c, ty)) (hj : tys[j]? = some (c', ty)) : c = c' := by
  have h1 := (hK.2 i _ hi).2
  have h2 := (hK.2 j _ hj).2
  cases ty <;> first | exact absurd rfl (hk _) | exact Option.some.inj (Eq.trans (Eq.symm h1) h2)
/-- the addresses and array classes of the loop's world -/
abbrev ax_A (ad1 ad2 : Nat → Nat) (qo : Nat) (k : Nat) : Nat := if k < 102 then (if k < 82 then ad1 k else ad2 (k - 82)) else qo
abbrev ax_X (D : va_G) (ca : Nat → ClassId) (cJ : ClassId) (ad1 ad2 : Nat → Nat) (qo : Nat) : cx_T := (D, fun k => if k = 5 then cJ else ca k, fun k => ax_A ad1 ad2 qo (pi_K k))
abbrev ax_E (E1 E2 : Nat → va_E) (eo : va_E) (k : Nat) : va_E := if k < 102 then (if k < 82 then E1 k else E2 (k - 82)) else eo
abbrev eo_J (cJ : ClassId) : va_E := .inl (cJ, 1, .inr (.inl (fun _ => 0)))
theorem ax_tm {ad1 ad2 : Nat → Nat} {qo k j : Nat} (h : pi_K k = j) (hj : j < 82) : ax_A ad1 ad2 qo (pi_K k) = ad1 j := by
  rw [h]
  unfold ax_A
  rw [if_pos (by omega), if_pos hj]
theorem ex_tm {E1 E2 : Nat → va_E} {eo : va_E} {k j : Nat} (h : pi_K k = j) (hj : j < 82) : ax_E E1 E2 eo (pi_K k) = E1 j := by
  rw [h]
  unfold ax_E
  rw [if_pos (by omega), if_pos hj]
theorem ex_md {E1 E2 : Nat → va_E} {eo : va_E} {j : Nat} (hj : j < 20) : ax_E E1 E2 eo (pi_K (82 + j)) = E2 j := by
  rw [pi_m]
  unfold ax_E
  rw [if_pos (by omega), if_neg (by omega), Nat.add_sub_cancel_left]
