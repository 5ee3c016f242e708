/-! the law's body from its entry to the loop -/
theorem lb_K {D : va_G} {ca ca2 : Nat → ClassId} {cJ : ClassId} {ad1 ad2 : Nat → Nat} {qo : Nat} {s : State} (hK : va_K D vwCl ((tm_T ca ++ md_T ca2) ++ [(cJ, .long)]) s) : va_K D vwCl (tt_A (ax_X D ca cJ ad1 ad2 qo)) s := hK.sub [3, 5, 0, 1, 2, 25] rfl
theorem vs_up {A B : Nat → Prop} {H0 H : Heap} {locs : List Loc} (h : va_S A H0 H locs) (hAB : ∀ q, A q → B q) : va_S B H0 H locs := ⟨h.1, fun q h1 h2 => h.2.1 q h1 (fun z => h2 (hAB q z)), fun q hq => hAB _ (h.2.2 q hq)⟩
theorem lb_R {ad : Nat → Nat} {n : Nat} {E : Nat → va_E} {y : Nat × va_E} : (List.range n).map (fun i => (wl_W ad n E ++ [y])[i]?) = (wl_W ad n E).map some := by
  unfold wl_W
  rw [List.map_map]
  apply List.map_congr_left
  intro i hi
  have hi := List.mem_range.mp hi
  have h2 : ((wl_W ad n E) ++ [y])[i]? = some (ad i, E i) := by rw [List.getElem?_append_left (by rw [wl_len]; exact hi), wl_get hi]
  exact h2
theorem lb_C {ad : Nat → Nat} {n : Nat} {E : Nat → va_E} {y : Nat × va_E} : [n].map (fun i => (wl_W ad n E ++ [y])[i]?) = [y].map some := by
  have h2 : ((wl_W ad n E) ++ [y])[n]? = some y := by
    rw [List.getElem?_append_right (by rw [wl_len]; exact Nat.le_refl _), wl_len, Nat.sub_self]
    rfl
  simp only [List.map_cons, List.map_nil, h2]
theorem lb_nd : va_nd (List.range 82) = true := by decide +kernel
set_option maxRecDepth 100000 in
set_option maxHeartbeats 8000000 in
theorem law_open {p : Program} {e : Env} {s : State} {m : MethodId} {below : List Frame} {meth : Method} {c : Code} (l : Launch) (hl9 : l.stackTraces = false) {b L : Nat} {xs : Nat → Int32} (hL : L ≤ 3074) (C0 : lw_At p s m meth c b L xs) (hpure : fb_LAW_law_43 L xs 520 2 (si_0 L xs) = some 1) :
    W p l e room_1 s m #[Value.ref b] below meth c s.heap [] 0 0 (lw_Z below #[Value.ref b] s) (entryFrame m ([Value.ref b] : List Value).toArray 7) := by
  obtain ⟨hx, hb, hr, hml, hown, hts, hX, hbl, hlk, hgv⟩ := C0
  have hT : ∀ w ∈ lw_ws, w.before #[Value.ref b] s = true := fun w h => hts w (List.mem_filter.mp h).1
  have F : fx_F p s m #[Value.ref b] meth c nC_LAW_law 7 ret nR_LAW := ⟨hx, hb, hml, hr, hlk, hown, hT⟩
  have tnN : tn_N s := ⟨va_Nw.of rfl (hts _ (List.mem_of_getElem? (i := 78) (by decide +kernel))), va_Nw.of rfl (hts _ (List.mem_of_getElem? (i := 106) (by decide +kernel))), va_Nw.of rfl (hts _ (List.mem_of_getElem? (i := 122) (by decide +kernel))), va_Nw.of rfl (hts _ (List.mem_of_getElem? (i := 167) (by decide +kernel))), va_Nw.of rfl (hts _ (List.mem_of_getElem? (i := 127) (by decide +kernel))), va_AO.of (A := #[Value.ref b]) (hts _ (List.mem_of_getElem? (i := 76) (by decide +kernel))), va_AO.of (A := #[Value.ref b]) (hts _ (List.mem_of_getElem? (i := 104) (by decide +kernel))), va_AO.of (A := #[Value.ref b]) (hts _ (List.mem_of_getElem? (i := 120) (by decide +kernel)))⟩
  have fl := flat_of_before _ hgv
  have xnN : ∀ A : Nat → Prop, (∀ a : Nat, a < s.heap.size → ¬ A a) → xn_N A s s.heap := fun A hA => ⟨⟨va_Nw.of rfl (hts _ (List.mem_of_getElem? (i := 272) (by decide +kernel))), va_Nw.of rfl (hts _ (List.mem_of_getElem? (i := 273) (by decide +kernel))), va_Nw.of rfl (hts _ (List.mem_of_getElem? (i := 275) (by decide +kernel))), va_Nw.of rfl (hts _ (List.mem_of_getElem? (i := 277) (by decide +kernel)))⟩, va_Nw.of rfl (hts _ (List.mem_of_getElem? (i := 338) (by decide +kernel))), va_Nc.of (fl _ (by decide +kernel)), vx_Zqof (hts _ (List.mem_of_getElem? (i := 297) (by decide +kernel))) (hts _ (List.mem_of_getElem? (i := 56) (by decide +kernel))) (fl _ (by decide +kernel)) hA, vx_Zqof (hts _ (List.mem_of_getElem? (i := 299) (by decide +kernel))) (hts _ (List.mem_of_getElem? (i := 56) (by decide +kernel))) (fl _ (by decide +kernel)) hA⟩
  obtain ⟨D, hK0⟩ := kn_D hT
  have hLL : L < 2 ^ 31 := by omega
  have hl := lv_entry ([Value.ref b]) (n := 7) (Nat.le_of_ble_eq_true rfl)
  rw [lg_entry_eq]
  generalize (lg_sl ([Value.ref b]) ++ List.replicate (7 - (lg_sl ([Value.ref b])).length) Slot.unset).toArray = ls at hl ⊢
  have hl : lv_has ls 7 [(0, .ref b)] := hl
  have hbA : ¬ s.heap.size ≤ b := Nat.not_le.mpr hbl
  have hg : gw_P D [] (fun q => s.heap.size ≤ q) s s.heap [] (fun _ => 0) 0 (fun _ => .inr (0, [])) := ⟨fun k q h => by simp [wl_W] at h, ⟨fun i j x y h => by simp [wl_W] at h, fun k q h => by simp [wl_W] at h⟩, hK0, va_S.rf, fun q h => h⟩
  refine gn_o (R := room_1) (fs := tm_0) (ci := 4) F hg in_TM nY_TM nK_TM wk_l_LAW_8 wk_TM_n wk_TM_i rfl (fun j hj => by rcases (show j = 0 ∨ j = 1 ∨ j = 2 ∨ j = 3 ∨ j = 4 ∨ j = 5 ∨ j = 6 ∨ j = 7 ∨ j = 8 ∨ j = 9 ∨ j = 10 ∨ j = 11 ∨ j = 12 ∨ j = 13 ∨ j = 14 by omega) with rfl | rfl | rfl | rfl | rfl | rfl | rfl | rfl | rfl | rfl | rfl | rfl | rfl | rfl | rfl <;> rfl) (by decide) (by decide) nD_LAW_law_0 (fun h0 H hg => ?_)
  obtain ⟨hP, hD, hK, hS, hA⟩ := hg
  have hP : va_P D vwCl (tW_0 h0) H := hP
  have hD : va_D (fun q => s.heap.size ≤ q) (tW_0 h0) := hD
  have hX1 : va_X b L xs s H := hX.kept (hS.2.1 b hbl hbA)
  refine lv_dup hx hb nD_LAW_law_3 rfl ?_
  refine lv_aload_n hx hb nD_LAW_law_4 rfl (lv_at hl 0 rfl) ?_
  refine lv_iconst (v := nI 0) hx hb nD_LAW_law_5 (by decide) ?_
  refine gs_c (R := room_1) F hX1 hLL (by decide) hl ⟨by decide, by decide⟩ ⟨by decide, by decide⟩ (Nat.le_of_ble_eq_true rfl) nD_LAW_law_6 ?_
  refine lv_aload_n hx hb nD_LAW_law_9 rfl (lv_at hl 0 rfl) ?_
  refine lv_iconst (v := nI 1) hx hb nD_LAW_law_10 (by decide) ?_
  refine gs_c (R := room_1) F hX1 hLL (by decide) hl ⟨by decide, by decide⟩ ⟨by decide, by decide⟩ (Nat.le_of_ble_eq_true rfl) nD_LAW_law_11 ?_
  have hG1 : GoodIn lw_ws (.code nN_TM_init nC_TM_init 4 none :: lw_ws) := fun w hw => by
    rcases List.mem_cons.mp hw with rfl | hw
    · exact lw_good _ wk_TM_c
    · exact lw_good _ hw
  have hFc : ∀ q, va_A (tW_0 h0) H.size q → s.heap.size ≤ q := fun q h => by
    rcases h with ⟨i, x, hx⟩ | h
    · exact hD.2 i (q, x) hx
    · exact Nat.le_trans hS.1 h
  refine va_callv (va_runI (As := [.int (lc_v L xs 0), .int (lc_v L xs 1)]) (rest := [.ref h0]) ⟨hx, hb, hml, hown, hT⟩ (cT_TM l D h0 (lc_v L xs 0) (lc_v L xs 1) H.size) (cwI 2 hT hG1 rfl rfl rfl (hT _ wk_TM_i) (hT (.methodLink nR_LAW 45 nN_TM_init) (lw_m (i := 63) (by decide +kernel) (by decide +kernel))) (hT _ wk_TM_m) rfl hd_TM_init ⟨by decide, by decide⟩) ⟨fun a U g mk q => ?_, fun U hU hW => ⟨rfl, by rw [hU], by rw [hU]; exact hP, va_K.moved hW.alike hK, hD.weaken (fun _ _ _ _ => trivial), ?_⟩⟩ rfl rfl hl.1 rfl (lv_room (Nat.le_of_ble_eq_true rfl)) nD_LAW_law_14 ⟨by decide, by decide⟩) hS (fun q _ h => hFc q h) hFc (fun u t H1 locs1 ht hvm hF hB hz1 hk1 hS1 => ?_)
  · obtain ⟨q0, q1, qP, qK, qD, w1, w2, w3, w4, w5, w6, w7, w8⟩ := q
    have R0 : U.WarmedH (U.calling g mk a).vm := State.WarmedH.refl U
    exact ⟨q0, q1, qP, va_K.moved (u := U) (U := U.calling g mk a) (Vm.Alike.refl U.vm) qK, qD, va_Nw.warmM R0 w1, va_Nw.warmM R0 w2, va_Nw.warmM R0 w3, va_Nw.warmM R0 w4, va_Nw.warmM R0 w5, w6.moved R0.alike, w7.moved R0.alike, w8.moved R0.alike⟩
  · obtain ⟨w1, w2, w3, w4, w5, w6, w7, w8⟩ := tnN
    exact ⟨va_Nw.warmM hW w1, va_Nw.warmM hW w2, va_Nw.warmM hW w3, va_Nw.warmM hW w4, va_Nw.warmM hW w5, w6.moved hW.alike, w7.moved hW.alike, w8.moved hW.alike⟩
  obtain ⟨ad1, E1, ca⟩ := u
  obtain ⟨hP1, hK1, hD1⟩ := hB
  rw [ht] at hP1
  have hK1 := va_K.moved hvm.symm hK1
  have hg : gw_P D (tm_T ca) (fun q => s.heap.size ≤ q) s H1 locs1 ad1 82 E1 := ⟨hP1, hD1.weaken (fun _ _ _ h => hFc _ h), hK1, hS1, fun q h => h⟩
  have g00 : ad1 0 = h0 := hF.1
  refine lv_astore_n (lv' := [(1, .ref h0), (0, .ref b)]) hx hb nD_LAW_law_17 rfl hl (by decide) rfl (fun ls hl => ?_)
  refine gn_o (R := room_1) (fs := md_0) (ci := 5) F hg in_MOD nY_MOD nK_MOD wk_l_LAW_48 wk_MOD_n wk_MOD_i rfl (fun j hj => by rcases (show j = 0 ∨ j = 1 ∨ j = 2 ∨ j = 3 ∨ j = 4 ∨ j = 5 ∨ j = 6 ∨ j = 7 ∨ j = 8 ∨ j = 9 ∨ j = 10 ∨ j = 11 ∨ j = 12 ∨ j = 13 ∨ j = 14 ∨ j = 15 ∨ j = 16 ∨ j = 17 ∨ j = 18 ∨ j = 19 ∨ j = 20 ∨ j = 21 ∨ j = 22 ∨ j = 23 ∨ j = 24 ∨ j = 25 ∨ j = 26 ∨ j = 27 ∨ j = 28 ∨ j = 29 by omega) with rfl | rfl | rfl | rfl | rfl | rfl | rfl | rfl | rfl | rfl | rfl | rfl | rfl | rfl | rfl | rfl | rfl | rfl | rfl | rfl | rfl | rfl | rfl | rfl | rfl | rfl | rfl | rfl | rfl | rfl <;> rfl) (by decide) (by decide) nD_LAW_law_18 (fun hm H hg => ?_)
  obtain ⟨hP, hD, hK, hS, hA⟩ := hg
  rw [wl_push] at hP hD
  have hX2 : va_X b L xs s H := hX.kept (hS.2.1 b hbl hbA)
  refine lv_dup hx hb nD_LAW_law_21 rfl ?_
  refine lv_aload_n hx hb nD_LAW_law_22 rfl (lv_at hl 1 rfl) ?_
  refine lv_iconst (v := nI 0) hx hb nD_LAW_law_23 (by decide) ?_
  refine gs_c (R := room_1) F hX2 hLL (by decide) hl ⟨by decide, by decide⟩ ⟨by decide, by decide⟩ (Nat.le_of_ble_eq_true rfl) nD_LAW_law_24 ?_
  refine lv_aload_n hx hb nD_LAW_law_27 rfl (lv_at hl 1 rfl) ?_
  refine lv_iconst (v := nI 1) hx hb nD_LAW_law_28 (by decide) ?_
  refine gs_c (R := room_1) F hX2 hLL (by decide) hl ⟨by decide, by decide⟩ ⟨by decide, by decide⟩ (Nat.le_of_ble_eq_true rfl) nD_LAW_law_29 ?_
  have hG2 : GoodIn lw_ws (.code nN_MOD_init nC_MOD_init 3 none :: lw_ws) := fun w hw => by
    rcases List.mem_cons.mp hw with rfl | hw
    · exact lw_good _ wk_MOD_c
    · exact lw_good _ hw
  have hq82 : (wl_W ad1 82 E1 ++ [(hm, .inr (5, md_0))])[82]? = some (hm, .inr (5, md_0)) := by
    rw [List.getElem?_append_right (by rw [wl_len]; exact Nat.le_refl _), wl_len]
    rfl
  have hPc : va_P D vwCl (mW_0 hm) H := fun i x hx => by
    have h1 := (List.getElem?_eq_some_iff.mp hx).1
    simp only [List.length_cons, List.length_nil] at h1
    rw [show i = 0 by omega] at hx
    cases hx
    exact hP 82 _ hq82
  have hFc2 : ∀ q, va_A (mW_0 hm) H.size q → s.heap.size ≤ q := fun q h => by
    rcases h with ⟨i, x, hx⟩ | h
    · have h1 := (List.getElem?_eq_some_iff.mp hx).1
      simp only [List.length_cons, List.length_nil] at h1
      rw [show i = 0 by omega] at hx
      cases hx
      exact hD.2 82 _ hq82
    · exact Nat.le_trans hS.1 h
  refine va_callv (va_runI (As := [.int (lc_v L xs 0), .int (lc_v L xs 1)]) (rest := [.ref hm]) ⟨hx, hb, hml, hown, hT⟩ (cm_MOD l D hm (lc_v L xs 0) (lc_v L xs 1) H.size) (cwI 2 hT hG2 rfl rfl rfl (hT _ wk_MOD_i) (hT (.methodLink nR_LAW 50 nN_MOD_init) (lw_m (i := 582) (by decide +kernel) (by decide +kernel))) (hT _ wk_MOD_m) rfl hd_MOD_init ⟨by decide, by decide⟩) ⟨fun a U g mk q => ?_, fun U hU hW => ⟨rfl, by rw [hU], by rw [hU]; exact hPc, va_K.moved hW.alike ⟨hK.1, fun k q h => by simp at h⟩, d1_D trivial⟩⟩ rfl rfl hl.1 rfl (lv_room (Nat.le_of_ble_eq_true rfl)) nD_LAW_law_32 ⟨by decide, by decide⟩) hS (fun q _ h => hFc2 q h) hFc2 (fun u t H2 locs2 ht2 hvm2 hu0 hB2 hz2 hk2 hS2 => ?_)
  · obtain ⟨q0, q1, qP, qK, qD⟩ := q
    exact ⟨q0, q1, qP, va_K.moved (u := U) (U := U.calling g mk a) (Vm.Alike.refl U.vm) qK, qD⟩
  obtain ⟨ad2, ca2⟩ := u
  obtain ⟨hP2, hK2, hD2⟩ := hB2
  rw [ht2] at hP2
  have hK2 := va_K.moved hvm2.symm hK2
  obtain ⟨hP, hD⟩ := va_join (wr := wl_W ad1 82 E1) hP hD [82] (List.range 82) lb_C lb_R lb_nd (fun i hi => by have := List.mem_range.mp hi; simp; omega) hk2 hFc2 hP2 hD2
  have hK := hK.app hK2
  refine lv_astore_n (lv' := [(2, .ref hm), (1, .ref h0), (0, .ref b)]) hx hb nD_LAW_law_35 rfl hl (by decide) rfl (fun ls hl => ?_)
  refine lv_iconst (v := 1) hx hb nD_LAW_law_36 (by decide) ?_
  refine va_newa (R := room_1) (atype := .long) (ty := .long) (a0 := (1, .inr (.inl (fun _ => (0 : Int64))))) hx hb (hT _ wk_a_long) rfl hK hP hD hS2 hA (md_zl 1) (by decide) rfl (by decide) (by decide) (by decide) nD_LAW_law_37 (fun qo cJ H3 hK hP hD hS3 => ?_)
  refine lv_astore_n (lv' := [(3, .ref qo), (2, .ref hm), (1, .ref h0), (0, .ref b)]) hx hb nD_LAW_law_39 rfl hl (by decide) rfl (fun ls hl => ?_)
  refine lv_iconst (v := 2) hx hb nD_LAW_law_40 (by decide) ?_
  refine lv_istore (lv' := [(4, .int 2), (3, .ref qo), (2, .ref hm), (1, .ref h0), (0, .ref b)]) hx hb nD_LAW_law_41 hl (by decide) rfl (fun ls hl => ?_)
  have hu0 : ad2 0 = hm := hu0
  rw [wl_app, show [(qo, (.inl (cJ, 1, .inr (.inl (fun _ => (0 : Int64)))) : va_E))] = wl_W (fun _ => qo) 1 (fun _ => eo_J cJ) from rfl, wl_app] at hP hD
  have hP : va_P D vwCl (wl_W (ax_A ad1 ad2 qo) 103 (ax_E E1 (md_E ad2 ca2 (md_c (lc_v L xs 0)) (md_c (lc_v L xs 1))) (eo_J cJ))) H3 := hP
  have hD : va_D (fun q => s.heap.size ≤ q) (wl_W (ax_A ad1 ad2 qo) 103 (ax_E E1 (md_E ad2 ca2 (md_c (lc_v L xs 0)) (md_c (lc_v L xs 1))) (eo_J cJ))) := hD
  have nI9 : ∀ C, FieldType.int ≠ .object C := fun C h => by cases h
  have nZ9 : ∀ C, FieldType.boolean ≠ .object C := fun C h => by cases h
  have hc6 : ca 6 = ca 0 := ra_u nI9 hK 4 3 rfl rfl
  have hcz : ca2 19 = ca 1 := ra_u nZ9 hK 24 5 rfl rfl
  have hci : ∀ j, 1 ≤ j → j < 19 → ca2 j = ca 0 := fun j h1 h2 => by
    rcases (show j = 1 ∨ j = 2 ∨ j = 3 ∨ j = 4 ∨ j = 5 ∨ j = 6 ∨ j = 7 ∨ j = 8 ∨ j = 9 ∨ j = 10 ∨ j = 11 ∨ j = 12 ∨ j = 13 ∨ j = 14 ∨ j = 15 ∨ j = 16 ∨ j = 17 ∨ j = 18 by omega) with rfl | rfl | rfl | rfl | rfl | rfl | rfl | rfl | rfl | rfl | rfl | rfl | rfl | rfl | rfl | rfl | rfl | rfl
    · exact ra_u nI9 hK 6 3 rfl rfl
    · exact ra_u nI9 hK 7 3 rfl rfl
    · exact ra_u nI9 hK 8 3 rfl rfl
    · exact ra_u nI9 hK 9 3 rfl rfl
    · exact ra_u nI9 hK 10 3 rfl rfl
    · exact ra_u nI9 hK 11 3 rfl rfl
    · exact ra_u nI9 hK 12 3 rfl rfl
    · exact ra_u nI9 hK 13 3 rfl rfl
    · exact ra_u nI9 hK 14 3 rfl rfl
    · exact ra_u nI9 hK 15 3 rfl rfl
    · exact ra_u nI9 hK 16 3 rfl rfl
    · exact ra_u nI9 hK 17 3 rfl rfl
    · exact ra_u nI9 hK 18 3 rfl rfl
    · exact ra_u nI9 hK 19 3 rfl rfl
    · exact ra_u nI9 hK 20 3 rfl rfl
    · exact ra_u nI9 hK 21 3 rfl rfl
    · exact ra_u nI9 hK 22 3 rfl rfl
    · exact ra_u nI9 hK 23 3 rfl rfl
  have hAll : ∀ k, k < 103 → s.heap.size ≤ (ax_X D ca cJ ad1 ad2 qo).2.2 k := fun k hk => hD.2 (pi_K k) _ (wl_get (pi_lt k hk))
  have hAn : ∀ a : Nat, a < s.heap.size → ¬ ct_A (ax_X D ca cJ ad1 ad2 qo) s.heap.size a := fun a ha h => by
    rcases h with ⟨k, hk, rfl⟩ | h
    · exact absurd (hAll k hk) (Nat.not_le.mpr ha)
    · exact absurd h (Nat.not_le.mpr ha)
  have hw : ww_P (ax_X D ca cJ ad1 ad2 qo) s H3 locs2 (si_0 L xs) := ⟨ini_P hF hc6 hci hcz hP, ini_D hD, lb_K hK, vs_up hS3 (fun q h => Or.inr h)⟩
  have e1 : (ax_X D ca cJ ad1 ad2 qo).2.2 0 = h0 := g00
  have e2 : (ax_X D ca cJ ad1 ad2 qo).2.2 82 = hm := hu0
  have e3 : (ax_X D ca cJ ad1 ad2 qo).2.2 102 = qo := rfl
  have hl : lv_has ls 7 [(0, .ref b), (1, .ref ((ax_X D ca cJ ad1 ad2 qo).2.2 0)), (2, .ref ((ax_X D ca cJ ad1 ad2 qo).2.2 82)), (3, .ref ((ax_X D ca cJ ad1 ad2 qo).2.2 102)), (4, .int 2)] := by
    rw [e1, e2, e3]
    exact lv_sub hl [4, 3, 2, 1, 0] rfl
  exact bk_LAW_law_43 F ⟨hX, hbl, hAll, xnN _ hAn⟩ hl9 520 2 _ H3 locs2 ls _ _ (by decide) (by decide) hw hl hpure
