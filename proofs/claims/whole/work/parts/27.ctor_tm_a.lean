/-! TagMachine's constructor: its calls and loops -/
theorem wl_D {A : Nat → Prop} {ad : Nat → Nat} {n : Nat} {E E' : Nat → va_E} (h : va_D A (wl_W ad n E)) : va_D A (wl_W ad n E') := by
  have key : ∀ (k : Nat) (q : Nat × va_E), (wl_W ad n E')[k]? = some q → k < n ∧ q.1 = ad k := by
    intro k q hk
    by_cases hn : k < n
    · rw [wl_get hn] at hk
      cases hk
      exact ⟨hn, rfl⟩
    · rw [wl_none hn] at hk
      cases hk
  refine ⟨fun i j x y hx hy hxy => ?_, fun k q hk => ?_⟩
  · obtain ⟨h1, e1⟩ := key i x hx
    obtain ⟨h2, e2⟩ := key j y hy
    exact h.1 i j (ad i, E i) (ad j, E j) (wl_get h1) (wl_get h2) (by rw [← e1, ← e2]; exact hxy)
  · obtain ⟨h1, e1⟩ := key k q hk
    rw [e1]
    exact h.2 k (ad k, E k) (wl_get h1)
theorem d1_D {A : Nat → Prop} {q : Nat} {e : va_E} (h : A q) : va_D A [(q, e)] := by
  refine ⟨fun i j x y hx hy _ => ?_, fun k x hx => ?_⟩
  · have h1 := (List.getElem?_eq_some_iff.mp hx).1
    have h2 := (List.getElem?_eq_some_iff.mp hy).1
    simp only [List.length_cons, List.length_nil] at h1 h2
    omega
  · have h1 := (List.getElem?_eq_some_iff.mp hx).1
    simp only [List.length_cons, List.length_nil] at h1
    rw [show k = 0 by omega] at hx
    cases hx
    exact h
section GU
variable {p : Program} {l : Launch} {e : Env} {R : Room} {s : State} {m : MethodId} {args : Array Value} {below : List Frame} {meth : Method} {c : Code} {H : Heap} {locs : List Loc} {cells slots : Nat} {Q : State → Prop} {b : ByteArray} {nL : Nat} {ret0 : Option FieldType} {own : String} {pc : Nat} {ls : Array Slot} {rest : List Value} {D : va_G} {tys : List (ClassId × FieldType)} {A : Nat → Prop} {ad : Nat → Nat} {n : Nat} {E : Nat → va_E}
theorem gc_u {h index : Nat} {host : String} {lv : List (Nat × Value)} (F : fx_F p s m args meth c b nL ret0 own) (hg : gw_P D tys A s H locs ad n E) (k : Nat) (hk : k < n) (ha : ad k = h) (he : E k = .inr (3, un_0)) (hNw : va_Nw (.methodLinkNest own index nN_UNI_init host) s) (hNo : va_Nw (.methodLinkNest nR_UNI 11 nN_OPD_init "TagMachine") s) (hR : 3 ≤ R.frames ∧ 100 ≤ R.locals) (hc9 : cells + 2 ≤ R.cells ∧ slots + 4 ≤ R.slots) (hl : lv_has ls nL lv) (hrest : (rest.map fun v => v.category).sum ≤ 8) (hdg : decode b pc = .ok (.invokespecial index, 3))
    (kk : ∀ (ad' : Nat → Nat) (E' : Nat → va_E) (H1 : Heap) (locs1 : List Loc), gw_P D tys A s H1 locs1 ad' (n + 2) E' → (∀ j, j < n → ad' j = ad j) → (∀ j, j < n → j ≠ k → E' j = E j) → E' k = .inr (3, un_1 (ad' n) (ad' (n + 1))) → E' n = .inr (1, op_0) → E' (n + 1) = .inr (1, op_0) → W p l e R s m args below meth c H1 locs1 (cells + 2) (slots + 4) Q (F0 m (pc + 3) ls rest)) :
    W p l e R s m args below meth c H locs cells slots Q (F0 m pc ls (.ref h :: rest)) := by
  obtain ⟨hx, hb, hml, hr, hlk, hown, hT⟩ := F
  obtain ⟨hP, hD, hK, hS, hA⟩ := hg
  subst ha
  have hG : GoodIn lw_ws (.code nN_UNI_init nC_UNI_init 1 none :: lw_ws) := fun w hw => by
    rcases List.mem_cons.mp hw with rfl | hw
    · exact lw_good _ wk_UNI_c
    · exact lw_good _ hw
  have hq : (wl_W ad n E)[k]? = some (ad k, .inr (3, un_0)) := by rw [wl_get hk, he]
  have hPc : va_P D vwCl (uW_0 (ad k)) H := fun i x hx => by
    have h1 := (List.getElem?_eq_some_iff.mp hx).1
    simp only [List.length_cons, List.length_nil] at h1
    rw [show i = 0 by omega] at hx
    cases hx
    exact hP k _ hq
  have hAk : A (ad k) := hD.2 k _ hq
  have hFc : ∀ q, va_A (uW_0 (ad k)) H.size q → A q := fun q h => by
    rcases h with ⟨i, x, hx⟩ | h
    · have h1 := (List.getElem?_eq_some_iff.mp hx).1
      simp only [List.length_cons, List.length_nil] at h1
      rw [show i = 0 by omega] at hx
      cases hx
      exact hAk
    · exact hA q (Nat.le_trans hS.1 h)
  refine va_callv (va_runIN (As := []) (rest := rest) ⟨hx, hb, hml, hown, hT⟩ (cu_UNI l D (ad k) H.size) ⟨va_cnB 0 hT hG rfl rfl rfl hNw (hT _ wk_UNI_i) hd_UNI_init ⟨hR.1, by simp only [rm_U]; omega⟩, rfl, hT _ wk_UNI_m⟩ ⟨fun a U g mk q => ?_, fun U hU hW => ⟨rfl, by rw [hU], by rw [hU]; exact hPc, va_K.moved hW.alike ⟨hK.1, fun k q h => by simp at h⟩, d1_D trivial, va_Nw.warmM hW hNo⟩⟩ rfl rfl hl.1 rfl (lv_room hrest) hdg hc9) hS (fun q _ h => hFc q h) hFc (fun u t H1 locs1 ht hvm hp hB hz1 hk1 hS1 => ?_)
  · obtain ⟨q0, q1, qP, qK, qD, qN⟩ := q
    exact ⟨q0, q1, qP, va_K.moved (u := U) (U := U.calling g mk a) (Vm.Alike.refl U.vm) qK, qD, va_Nw.warmM (s := U) (U := U.calling g mk a) (State.WarmedH.refl U) qN⟩
  · obtain ⟨qa, qb⟩ := u
    obtain ⟨hP1, hK1, hD1⟩ := hB
    rw [ht] at hP1
    have na : va_A (uW_0 (ad k)) H.size qa := hD1.2 1 (qa, .inr (1, op_0)) rfl
    have nb : va_A (uW_0 (ad k)) H.size qb := hD1.2 2 (qb, .inr (1, op_0)) rfl
    have ne1 : ad k ≠ qa := fun q => by
      have := hD1.1 0 1 (ad k, .inr (3, un_1 qa qb)) (qa, .inr (1, op_0)) rfl rfl q
      omega
    have ne2 : ad k ≠ qb := fun q => by
      have := hD1.1 0 2 (ad k, .inr (3, un_1 qa qb)) (qb, .inr (1, op_0)) rfl rfl q
      omega
    have ne3 : qa ≠ qb := fun q => by
      have := hD1.1 1 2 (qa, .inr (1, op_0)) (qb, .inr (1, op_0)) rfl rfl q
      omega
    have big : ∀ q, va_A (uW_0 (ad k)) H.size q → ad k ≠ q → H.size ≤ q := fun q h hne => by
      rcases h with ⟨i, x, hx⟩ | h
      · have h1 := (List.getElem?_eq_some_iff.mp hx).1
        simp only [List.length_cons, List.length_nil] at h1
        rw [show i = 0 by omega] at hx
        cases hx
        exact absurd rfl hne
      · exact h
    have ba := big qa na ne1
    have bb := big qb nb ne2
    have old : ∀ j, j < n → j ≠ k → H1[ad j]? = H[ad j]? := fun j hj hne => by
      have hj2 : (wl_W ad n E)[j]? = some (ad j, E j) := wl_get hj
      refine hk1 (ad j) ((hP j _ hj2).lt) (fun h => ?_)
      rcases h with ⟨i, x, hx⟩ | h
      · have h1 := (List.getElem?_eq_some_iff.mp hx).1
        simp only [List.length_cons, List.length_nil] at h1
        rw [show i = 0 by omega] at hx
        have h3 : ad k = ad j := congrArg Prod.fst (Option.some.inj hx)
        exact hne (hD.1 j k _ _ hj2 hq h3.symm)
      · have := (hP j _ hj2).lt
        omega
    have lt1 : ∀ j, j < n → ad j < H.size := fun j hj => (hP j _ (wl_get hj)).lt
    have hPm : va_P D vwCl (wl_W ad n (va_up E k (.inr (3, un_1 qa qb)))) H1 := by
      intro i x hx
      by_cases hi : i < n
      · rw [wl_get hi] at hx
        cases hx
        by_cases hik : i = k
        · subst hik
          rw [va_up_self]
          exact hP1 0 _ rfl
        · rw [va_up_ne _ _ hik]
          exact (hP i _ (wl_get hi)).kept (old i hi hik)
      · rw [wl_none hi] at hx
        cases hx
    have one : ∀ (q : Nat) (i : Nat), (uW_1 (ad k) qa qb)[i]? = some (q, .inr (1, op_0)) → va_P D vwCl [(q, .inr (1, op_0))] H1 := fun q i hi j x hx => by
      have h1 := (List.getElem?_eq_some_iff.mp hx).1
      simp only [List.length_cons, List.length_nil] at h1
      rw [show j = 0 by omega] at hx
      cases hx
      exact hP1 i _ hi
    have hP2 := (hPm.app (one qa 1 rfl)).app (one qb 2 rfl)
    have wlk : ∀ (i : Nat) (x : Nat × va_E), (wl_W ad n (va_up E k (.inr (3, un_1 qa qb))))[i]? = some x → x.1 < H.size := fun i x hx => by
      by_cases hi : i < n
      · rw [wl_get hi] at hx
        cases hx
        exact lt1 i hi
      · rw [wl_none hi] at hx
        cases hx
    have sng : ∀ (q : Nat) (e9 : va_E) (j : Nat) (y : Nat × va_E), [(q, e9)][j]? = some y → y.1 = q := fun q e9 j y hy => by
      have h1 := (List.getElem?_eq_some_iff.mp hy).1
      simp only [List.length_cons, List.length_nil] at h1
      rw [show j = 0 by omega] at hy
      cases hy
      rfl
    have hDm := va_D.app (wl_D (E' := va_up E k (.inr (3, un_1 qa qb))) hD) (d1_D (e := .inr (1, op_0)) (hFc qa na)) (fun i j x y hx hy => by
      have h1 := wlk i x hx
      rw [sng _ _ j y hy]
      omega)
    have hD2 := va_D.app hDm (d1_D (e := .inr (1, op_0)) (hFc qb nb)) (fun i j x y hx hy => by
      rw [sng _ _ j y hy]
      rcases List.mem_append.mp (List.mem_of_getElem? hx) with h | h
      · obtain ⟨i2, hi2⟩ := List.getElem?_of_mem h
        have := wlk i2 x hi2
        omega
      · obtain ⟨i2, hi2⟩ := List.getElem?_of_mem h
        rw [sng _ _ i2 x hi2]
        exact ne3)
    rw [← wl_push, ← wl_push] at hP2 hD2
    exact kk _ _ H1 locs1 ⟨hP2, hD2, hK, hS1, hA⟩ (fun j hj => by rw [va_up_ne _ _ (by omega), va_up_ne _ _ (by omega)]) (fun j hj hne => by rw [va_up_ne _ _ (by omega), va_up_ne _ _ (by omega), va_up_ne _ _ hne]) (by rw [va_up_ne _ _ (by omega), va_up_ne _ _ (by omega), va_up_self, va_up_ne _ _ (show n ≠ n + 1 by omega), va_up_self, va_up_self]) (by rw [va_up_ne _ _ (by omega), va_up_self]) (va_up_self _ _ _)
end GU
