/-! the uniform world: one table of ints for both classes, one list of cells -/
abbrev sg_T : Type := Nat → Nat → Int32
def sg_up (σ : sg_T) (r c : Nat) (v : Int32) : sg_T := fun a b => if a = r ∧ b = c then v else σ a b
/-- tables of the classes, array classes, addresses -/
abbrev cx_T : Type := va_G × (Nat → ClassId) × (Nat → Nat)
def wl_W (ad : Nat → Nat) (n : Nat) (E : Nat → va_E) : va_W := (List.range n).map (fun i => (ad i, E i))
theorem wl_get {ad : Nat → Nat} {n : Nat} {E : Nat → va_E} {k : Nat} (h : k < n) : (wl_W ad n E)[k]? = some (ad k, E k) := by
  simp [wl_W, List.getElem?_map, List.getElem?_range, h]
theorem wl_none {ad : Nat → Nat} {n : Nat} {E : Nat → va_E} {k : Nat} (h : ¬ k < n) : (wl_W ad n E)[k]? = none := by
  rw [List.getElem?_eq_none_iff]
  simp [wl_W]
  omega
theorem wl_len {ad : Nat → Nat} {n : Nat} {E : Nat → va_E} : (wl_W ad n E).length = n := by simp [wl_W]
theorem wl_set {ad : Nat → Nat} {n : Nat} {E : Nat → va_E} {k : Nat} {e : va_E} (h : k < n) : (wl_W ad n E).set k (ad k, e) = wl_W ad n (va_up E k e) := by
  apply List.ext_getElem?
  intro j
  by_cases hj : j = k
  · subst hj
    rw [List.getElem?_set_self (by rw [wl_len]; exact h), wl_get h, va_up_self]
  · rw [List.getElem?_set_ne (Ne.symm hj)]
    by_cases hn : j < n
    · rw [wl_get hn, wl_get hn, va_up_ne _ _ hj]
    · rw [wl_none hn, wl_none hn]
/-- the cells of a world, and all that come from sz on -/
def wl_S (ad : Nat → Nat) (n sz : Nat) : Nat → Prop := fun q => (∃ k, k < n ∧ q = ad k) ∨ sz ≤ q
theorem wl_in {ad : Nat → Nat} {n sz : Nat} {E : Nat → va_E} {k : Nat} {q : Nat × va_E} (h : (wl_W ad n E)[k]? = some q) : wl_S ad n sz q.1 := by
  by_cases hn : k < n
  · rw [wl_get hn] at h
    cases h
    exact Or.inl ⟨k, hn, rfl⟩
  · rw [wl_none hn] at h
    cases h
theorem wl_self {ad : Nat → Nat} {n sz : Nat} {E : Nat → va_E} {A : Nat → Prop} (h : va_D A (wl_W ad n E)) : va_D (wl_S ad n sz) (wl_W ad n E) := ⟨h.1, fun _ _ hk => wl_in hk⟩
theorem wl_mono {ad : Nat → Nat} {n sz sz' : Nat} (h : sz' ≤ sz) {q : Nat} (hq : wl_S ad n sz q) : wl_S ad n sz' q := by
  rcases hq with h1 | h1
  · exact Or.inl h1
  · exact Or.inr (Nat.le_trans h h1)
/-- guards and sequences in partial functions -/
def gt_d {α : Type} (b : Bool) (k : Option α) : Option α := if b = true then k else none
theorem gt_of {α : Type} {b : Bool} {k : Option α} {z : α} (h : gt_d b k = some z) : b = true ∧ k = some z := by
  unfold gt_d at h
  by_cases hb : b = true
  · rw [if_pos hb] at h
    exact ⟨hb, h⟩
  · rw [if_neg hb] at h
    cases h
theorem bd_of {α β : Type} {o : Option α} {k : α → Option β} {z : β} (h : o.bind k = some z) : ∃ a, o = some a ∧ k a = some z := by
  cases o with
  | none => cases h
  | some a => exact ⟨a, rfl, h⟩
abbrev tn_I (i : Int32) : Nat := i.toNatClampNeg
def ib_I (i : Int32) (n : Nat) : Bool := !(decide (i < 0)) && decide (i.toNatClampNeg < n)
theorem ib_in {i : Int32} {n : Nat} (h : ib_I i n = true) : vp_in i n := by
  unfold ib_I at h
  simp only [Bool.and_eq_true, Bool.not_eq_true', decide_eq_false_iff_not, decide_eq_true_eq] at h
  intro q
  rcases q with q | q
  · exact h.1 q
  · omega
theorem ib_lt {i : Int32} {n : Nat} (h : ib_I i n = true) : tn_I i < n := by
  unfold ib_I at h
  simp only [Bool.and_eq_true, Bool.not_eq_true', decide_eq_false_iff_not, decide_eq_true_eq] at h
  exact h.2
theorem nb_01 {v : Int32} (h : decide (v = 0 ∨ v = 1) = true) : narrow .boolean (.int v) = .int v := by
  rcases of_decide_eq_true h with rfl | rfl <;> rfl
theorem sg_eq (σ : sg_T) (r c : Nat) (v : Int32) : sg_up σ r c v r c = v := by simp [sg_up]
theorem sg_ne {σ : sg_T} {r c a b : Nat} {v : Int32} (h : ¬ (a = r ∧ b = c)) : sg_up σ r c v a b = σ a b := by simp [sg_up, h]
/-- the room of a call of depth d that makes nothing -/
def rm_D (d : Nat) : Room := { frames := d, cells := 0, slots := 0, locals := 40 * d }
def ee_T (x : cx_T) (σ : sg_T) : List Value := [.int (σ 0 0), .int (σ 0 1), .ref (x.2.2 1), .ref (x.2.2 2), .ref (x.2.2 3), .ref (x.2.2 4), .ref (x.2.2 5), .ref (x.2.2 6), .ref (x.2.2 7), .int (σ 0 2), .int (σ 0 3), .int (σ 0 4), .int (σ 0 5), .int (σ 0 6), .int (σ 0 7)]
def ee_R (x : cx_T) (σ : sg_T) : List Value := [.int (σ 20 0), .int (σ 20 1)]
def ee_D (x : cx_T) (σ : sg_T) : List Value := [.int (σ 30 0), .int (σ 30 1), .int (σ 30 9), .int (σ 30 2), .ref (x.2.2 83), .ref (x.2.2 84), .ref (x.2.2 85), .ref (x.2.2 86), .ref (x.2.2 87), .int (σ 30 3), .int (σ 30 4), .int (σ 30 5), .int (σ 30 6), .int (σ 30 7), .ref (x.2.2 88), .ref (x.2.2 89), .ref (x.2.2 90), .ref (x.2.2 91), .ref (x.2.2 92), .ref (x.2.2 93), .ref (x.2.2 94), .ref (x.2.2 95), .ref (x.2.2 96), .ref (x.2.2 97), .ref (x.2.2 98), .ref (x.2.2 99), .ref (x.2.2 100), .ref (x.2.2 101), .int (σ 30 8), .long (σ 50 0).toInt64]
def ee_I (x : cx_T) (σ : sg_T) (i : Nat) : List Value := [.int (σ 1 i), .int (σ 2 i), .int (σ 3 i), .int (σ 4 i), .int (σ 5 i)]
def ee_O (x : cx_T) (σ : sg_T) (i : Nat) : List Value := [.int (σ 6 i), .int (σ 7 i)]
def ee_U (x : cx_T) (σ : sg_T) (i : Nat) : List Value := [.ref (x.2.2 (38 + (5 + 2 * i))), .ref (x.2.2 (38 + (6 + 2 * i))), .int (σ 12 i), .int (σ 13 i), .int (σ 17 i), .int (σ 18 i), .int (σ 14 i), .int (σ 15 i), .int (σ 16 i)]
def e0_L (x : cx_T) (σ : sg_T) : List va_E := [.inr (4, ee_T x σ), .inl (x.2.1 2, 30, .inr (.inr (.inr (.inr (fun i => some (x.2.2 (8 + i))))))), .inl (x.2.1 3, 5, .inr (.inr (.inr (.inr (fun i => some (x.2.2 (38 + i))))))), .inl (x.2.1 0, 4, .inl (σ 10)), .inl (x.2.1 0, 32, .inl (σ 11)), .inl (x.2.1 4, 13, .inr (.inr (.inr (.inr (fun i => some (x.2.2 (69 + i))))))), .inl (x.2.1 1, 8, .inl (σ 19)), .inr (2, ee_R x σ)]
def em_L (x : cx_T) (σ : sg_T) : List va_E := [.inr (5, ee_D x σ), .inl (x.2.1 0, 30, .inl (σ 31)), .inl (x.2.1 0, 30, .inl (σ 32)), .inl (x.2.1 0, 30, .inl (σ 33)), .inl (x.2.1 0, 30, .inl (σ 34)), .inl (x.2.1 0, 30, .inl (σ 35)), .inl (x.2.1 0, 5, .inl (σ 36)), .inl (x.2.1 0, 5, .inl (σ 37)), .inl (x.2.1 0, 4, .inl (σ 38)), .inl (x.2.1 0, 32, .inl (σ 39)), .inl (x.2.1 0, 13, .inl (σ 40)), .inl (x.2.1 0, 13, .inl (σ 41)), .inl (x.2.1 0, 13, .inl (σ 42)), .inl (x.2.1 0, 13, .inl (σ 43)), .inl (x.2.1 0, 13, .inl (σ 44)), .inl (x.2.1 0, 26, .inl (σ 45)), .inl (x.2.1 0, 26, .inl (σ 46)), .inl (x.2.1 0, 13, .inl (σ 47)), .inl (x.2.1 0, 13, .inl (σ 48)), .inl (x.2.1 1, 8, .inl (σ 49)), .inl (x.2.1 5, 1, .inr (.inl (fun j => if j = 0 then (σ 51 0).toInt64 else 0)))]
def ee_A (x : cx_T) (σ : sg_T) (k : Nat) : va_E := if k < 8 then (e0_L x σ).getD k (.inr (0, [])) else if k < 38 then .inr (0, ee_I x σ (k - 8)) else if k < 69 then .inr (1, ee_O x σ (k - 38)) else if k < 82 then .inr (3, ee_U x σ (k - 69)) else (em_L x σ).getD (k - 82) (.inr (0, []))
abbrev tt_A (x : cx_T) : List (ClassId × FieldType) := [(x.2.1 0, .int), (x.2.1 1, .boolean), (x.2.1 2, .object "TagMachine$Instruction"), (x.2.1 3, .object "TagMachine$Operand"), (x.2.1 4, .object "TagMachine$Unit"), (x.2.1 5, .long)]
theorem sg_row {σ : sg_T} {r c a : Nat} {v : Int32} (h : a ≠ r) : sg_up σ r c v a = σ a := by
  funext b
  simp [sg_up, h]
theorem gd_set {l : List va_E} {j k : Nat} {e d : va_E} (h : k ≠ j) : (l.set j e).getD k d = l.getD k d := by
  rw [List.getD_eq_getElem?_getD, List.getD_eq_getElem?_getD, List.getElem?_set_ne (Ne.symm h)]
theorem gd_self {l : List va_E} {j : Nat} {e d : va_E} (h : j < l.length) : (l.set j e).getD j d = e := by
  rw [List.getD_eq_getElem?_getD, List.getElem?_set_self h]
  rfl
theorem ee_ins {x : cx_T} {σ : sg_T} {i : Nat} (h : i < 30) : ee_A x σ (8 + i) = .inr (0, ee_I x σ i) := by
  unfold ee_A
  rw [if_neg (by omega), if_pos (by omega), Nat.add_sub_cancel_left]
theorem ee_opd {x : cx_T} {σ : sg_T} {i : Nat} (h : i < 31) : ee_A x σ (38 + i) = .inr (1, ee_O x σ i) := by
  unfold ee_A
  rw [if_neg (by omega), if_neg (by omega), if_pos (by omega), Nat.add_sub_cancel_left]
theorem ee_uni {x : cx_T} {σ : sg_T} {i : Nat} (h : i < 13) : ee_A x σ (69 + i) = .inr (3, ee_U x σ i) := by
  unfold ee_A
  rw [if_neg (by omega), if_neg (by omega), if_neg (by omega), if_pos (by omega), Nat.add_sub_cancel_left]
theorem eu_0 {x : cx_T} {σ σ' : sg_T} {j : Nat} {e : va_E} (hj : j < 8) (hL : e0_L x σ' = (e0_L x σ).set j e) (hI : ∀ i, ee_I x σ' i = ee_I x σ i) (hO : ∀ i, ee_O x σ' i = ee_O x σ i) (hU : ∀ i, ee_U x σ' i = ee_U x σ i) (hM : em_L x σ' = em_L x σ) : va_up (ee_A x σ) j e = ee_A x σ' := by
  funext k
  by_cases hk : k = j
  · subst hk
    rw [va_up_self]
    unfold ee_A
    rw [if_pos hj, hL, gd_self (by simpa [e0_L] using hj)]
  · rw [va_up_ne _ _ hk]
    unfold ee_A
    by_cases q1 : k < 8
    · rw [if_pos q1, if_pos q1]
      rw [hL, gd_set hk]
    · rw [if_neg q1, if_neg q1]
      by_cases q2 : k < 38
      · rw [if_pos q2, if_pos q2]
        rw [hI]
      · rw [if_neg q2, if_neg q2]
        by_cases q3 : k < 69
        · rw [if_pos q3, if_pos q3]
          rw [hO]
        · rw [if_neg q3, if_neg q3]
          by_cases q4 : k < 82
          · rw [if_pos q4, if_pos q4]
            rw [hU]
          · rw [if_neg q4, if_neg q4]
            rw [hM]
theorem eu_I {x : cx_T} {σ σ' : sg_T} {j : Nat} {e : va_E} (hj : j < 30) (he : e = .inr (0, ee_I x σ' j)) (hL : ∀ i, i ≠ j → ee_I x σ' i = ee_I x σ i) (h0 : e0_L x σ' = e0_L x σ) (hO : ∀ i, ee_O x σ' i = ee_O x σ i) (hU : ∀ i, ee_U x σ' i = ee_U x σ i) (hM : em_L x σ' = em_L x σ) : va_up (ee_A x σ) (8 + j) e = ee_A x σ' := by
  funext k
  by_cases hk : k = (8 + j)
  · subst hk
    rw [va_up_self]
    rw [ee_ins hj, he]
  · rw [va_up_ne _ _ hk]
    unfold ee_A
    by_cases q1 : k < 8
    · rw [if_pos q1, if_pos q1]
      rw [h0]
    · rw [if_neg q1, if_neg q1]
      by_cases q2 : k < 38
      · rw [if_pos q2, if_pos q2]
        rw [hL _ (by omega)]
      · rw [if_neg q2, if_neg q2]
        by_cases q3 : k < 69
        · rw [if_pos q3, if_pos q3]
          rw [hO]
        · rw [if_neg q3, if_neg q3]
          by_cases q4 : k < 82
          · rw [if_pos q4, if_pos q4]
            rw [hU]
          · rw [if_neg q4, if_neg q4]
            rw [hM]
theorem eu_O {x : cx_T} {σ σ' : sg_T} {j : Nat} {e : va_E} (hj : j < 31) (he : e = .inr (1, ee_O x σ' j)) (hL : ∀ i, i ≠ j → ee_O x σ' i = ee_O x σ i) (h0 : e0_L x σ' = e0_L x σ) (hI : ∀ i, ee_I x σ' i = ee_I x σ i) (hU : ∀ i, ee_U x σ' i = ee_U x σ i) (hM : em_L x σ' = em_L x σ) : va_up (ee_A x σ) (38 + j) e = ee_A x σ' := by
  funext k
  by_cases hk : k = (38 + j)
  · subst hk
    rw [va_up_self]
    rw [ee_opd hj, he]
  · rw [va_up_ne _ _ hk]
    unfold ee_A
    by_cases q1 : k < 8
    · rw [if_pos q1, if_pos q1]
      rw [h0]
    · rw [if_neg q1, if_neg q1]
      by_cases q2 : k < 38
      · rw [if_pos q2, if_pos q2]
        rw [hI]
      · rw [if_neg q2, if_neg q2]
        by_cases q3 : k < 69
        · rw [if_pos q3, if_pos q3]
          rw [hL _ (by omega)]
        · rw [if_neg q3, if_neg q3]
          by_cases q4 : k < 82
          · rw [if_pos q4, if_pos q4]
            rw [hU]
          · rw [if_neg q4, if_neg q4]
            rw [hM]
theorem eu_U {x : cx_T} {σ σ' : sg_T} {j : Nat} {e : va_E} (hj : j < 13) (he : e = .inr (3, ee_U x σ' j)) (hL : ∀ i, i ≠ j → ee_U x σ' i = ee_U x σ i) (h0 : e0_L x σ' = e0_L x σ) (hI : ∀ i, ee_I x σ' i = ee_I x σ i) (hO : ∀ i, ee_O x σ' i = ee_O x σ i) (hM : em_L x σ' = em_L x σ) : va_up (ee_A x σ) (69 + j) e = ee_A x σ' := by
  funext k
  by_cases hk : k = (69 + j)
  · subst hk
    rw [va_up_self]
    rw [ee_uni hj, he]
  · rw [va_up_ne _ _ hk]
    unfold ee_A
    by_cases q1 : k < 8
    · rw [if_pos q1, if_pos q1]
      rw [h0]
    · rw [if_neg q1, if_neg q1]
      by_cases q2 : k < 38
      · rw [if_pos q2, if_pos q2]
        rw [hI]
      · rw [if_neg q2, if_neg q2]
        by_cases q3 : k < 69
        · rw [if_pos q3, if_pos q3]
          rw [hO]
        · rw [if_neg q3, if_neg q3]
          by_cases q4 : k < 82
          · rw [if_pos q4, if_pos q4]
            rw [hL _ (by omega)]
          · rw [if_neg q4, if_neg q4]
            rw [hM]
theorem eu_M {x : cx_T} {σ σ' : sg_T} {j : Nat} {e : va_E} (hj : j < 21) (hL : em_L x σ' = (em_L x σ).set j e) (h0 : e0_L x σ' = e0_L x σ) (hI : ∀ i, ee_I x σ' i = ee_I x σ i) (hO : ∀ i, ee_O x σ' i = ee_O x σ i) (hU : ∀ i, ee_U x σ' i = ee_U x σ i) : va_up (ee_A x σ) (82 + j) e = ee_A x σ' := by
  funext k
  by_cases hk : k = (82 + j)
  · subst hk
    rw [va_up_self]
    unfold ee_A
    rw [if_neg (by omega), if_neg (by omega), if_neg (by omega), if_neg (by omega), Nat.add_sub_cancel_left, hL, gd_self (by simpa [em_L] using hj)]
  · rw [va_up_ne _ _ hk]
    unfold ee_A
    by_cases q1 : k < 8
    · rw [if_pos q1, if_pos q1]
      rw [h0]
    · rw [if_neg q1, if_neg q1]
      by_cases q2 : k < 38
      · rw [if_pos q2, if_pos q2]
        rw [hI]
      · rw [if_neg q2, if_neg q2]
        by_cases q3 : k < 69
        · rw [if_pos q3, if_pos q3]
          rw [hO]
        · rw [if_neg q3, if_neg q3]
          by_cases q4 : k < 82
          · rw [if_pos q4, if_pos q4]
            rw [hU]
          · rw [if_neg q4, if_neg q4]
            rw [hL, gd_set (by omega)]
/-- the good words of the tables, for every contract -/
def lw_ws : List Cond := lw_tbl.filter goodWord
theorem lw_good : GoodIn lw_ws lw_ws := fun w h => ⟨h, good_of_word (List.mem_filter.mp h).2⟩
theorem lw_m {w : Cond} {i : Nat} (h : lw_tbl[i]? = some w) (g : goodWord w = true) : w ∈ lw_ws := List.mem_filter.mpr ⟨List.mem_of_getElem? h, g⟩
theorem gs_V {own C : String} {idx : Nat} {y : MethodName} {b : ByteArray} {n : Nat} {ret : Option FieldType} (h1 : Cond.methodLink own idx y ∈ lw_ws) (h2 : Cond.instanceMethod y ∈ lw_ws) (h3 : Cond.selects C y y ∈ lw_ws) (h4 : Cond.initialized C ∈ lw_ws) (h5 : Cond.code y b n ret ∈ lw_ws) : GoodIn lw_ws (wsV own idx C y (.code y b n ret :: lw_ws)) := by
  intro w hw
  unfold wsV at hw
  simp only [List.cons_append, List.nil_append, List.mem_cons] at hw
  rcases hw with rfl | rfl | rfl | rfl | rfl | hw
  · exact lw_good _ h1
  · exact lw_good _ h2
  · exact lw_good _ h3
  · exact lw_good _ h4
  · exact lw_good _ h5
  · exact lw_good _ hw
theorem gs_S {own : String} {idx : Nat} {y : MethodName} {b : ByteArray} {n : Nat} {ret : Option FieldType} (h1 : Cond.methodLink own idx y ∈ lw_ws) (h2 : Cond.static y ∈ lw_ws) (h4 : Cond.initialized y.cls ∈ lw_ws) (h5 : Cond.code y b n ret ∈ lw_ws) : GoodIn lw_ws (va_wsS own idx y (.code y b n ret :: lw_ws)) := by
  intro w hw
  unfold va_wsS at hw
  simp only [List.cons_append, List.nil_append, List.mem_cons] at hw
  rcases hw with rfl | rfl | rfl | rfl | hw
  · exact lw_good _ h1
  · exact lw_good _ h2
  · exact lw_good _ h4
  · exact lw_good _ h5
  · exact lw_good _ hw
/-! contracts over the uniform world; entry, return and calls -/
def ww_W (x : cx_T) (σ : sg_T) : va_W := wl_W x.2.2 103 (ee_A x σ)
abbrev ct_A (x : cx_T) (sz : Nat) : Nat → Prop := wl_S x.2.2 103 sz
def ww_P (x : cx_T) (s : State) (H : Heap) (locs : List Loc) (σ : sg_T) : Prop := va_P x.1 vwCl (ww_W x σ) H ∧ va_D (ct_A x s.heap.size) (ww_W x σ) ∧ va_K x.1 vwCl (tt_A x) s ∧ va_S (ct_A x s.heap.size) s.heap H locs
abbrev ct_Pc (x : cx_T) (σ : sg_T) (av : List Value) (sz : Nat) : Array Value → State → Prop := va_Pc av (fun U => U.heap.size = sz ∧ va_P x.1 vwCl (ww_W x σ) U.heap ∧ va_K x.1 vwCl (tt_A x) U ∧ va_D (fun _ => True) (ww_W x σ))
abbrev ct_B (x : cx_T) (A : Nat → Prop) (σ : sg_T) (t : State) : Prop := va_P x.1 vwCl (ww_W x σ) t.heap ∧ va_K x.1 vwCl (tt_A x) t ∧ va_D A (ww_W x σ)
abbrev fx_F (p : Program) (s : State) (m : MethodId) (args : Array Value) (meth : Method) (c : Code) (b : ByteArray) (n : Nat) (ret : Option FieldType) (own : String) : Prop :=
  p.tables.exec = Jvm.exec ∧ c.code = b ∧ c.maxLocals = n ∧ meth.sig.returnType = ret ∧ meth.locks = false ∧ s.vm.findClass own = some m.cls ∧ ∀ w ∈ lw_ws, w.before args s = true
def ct_i (l : Launch) (y : MethodName) (b : ByteArray) (n : Nat) (ret : Option FieldType) (d : Nat) (x : cx_T) (av : List Value) (σ : sg_T) (r : Int32) (σ' : sg_T) : Prop :=
  ∀ sz, Met l y (.code y b n ret :: lw_ws) (rm_D d) (ct_Pc x σ av sz) (va_Qi (fun a u => a = r ∧ u = σ') (ct_B x (ct_A x sz)) (ct_A x sz)) 0 0 (ct_A x sz)
def ct_l (l : Launch) (y : MethodName) (b : ByteArray) (n : Nat) (d : Nat) (x : cx_T) (av : List Value) (σ : sg_T) (r : Int64) (σ' : sg_T) : Prop :=
  ∀ sz, Met l y (.code y b n (some .long) :: lw_ws) (rm_D d) (ct_Pc x σ av sz) (va_Ql (fun a u => a = r ∧ u = σ') (ct_B x (ct_A x sz)) (ct_A x sz)) 0 0 (ct_A x sz)
def ct_v (l : Launch) (y : MethodName) (b : ByteArray) (n : Nat) (d : Nat) (x : cx_T) (av : List Value) (σ : sg_T) (σ' : sg_T) : Prop :=
  ∀ sz, Met l y (.code y b n none :: lw_ws) (rm_D d) (ct_Pc x σ av sz) (va_Qv (fun u => u = σ') (ct_B x (ct_A x sz)) (ct_A x sz)) 0 0 (ct_A x sz)
abbrev qi_Q (x : cx_T) (s : State) (below : List Frame) (args : Array Value) (r : Int32) (σ' : sg_T) : State → Prop := MQ below (va_Qi (fun a u => a = r ∧ u = σ') (ct_B x (ct_A x s.heap.size)) (ct_A x s.heap.size)) args s 0 0 (ct_A x s.heap.size)
abbrev ql_Q (x : cx_T) (s : State) (below : List Frame) (args : Array Value) (r : Int64) (σ' : sg_T) : State → Prop := MQ below (va_Ql (fun a u => a = r ∧ u = σ') (ct_B x (ct_A x s.heap.size)) (ct_A x s.heap.size)) args s 0 0 (ct_A x s.heap.size)
abbrev qv_Q (x : cx_T) (s : State) (below : List Frame) (args : Array Value) (σ' : sg_T) : State → Prop := MQ below (va_Qv (fun u => u = σ') (ct_B x (ct_A x s.heap.size)) (ct_A x s.heap.size)) args s 0 0 (ct_A x s.heap.size)
theorem ct_bl {x : cx_T} {σ : sg_T} {av : List Value} {sz : Nat} : FrameBlind (ct_Pc x σ av sz) := fun a U g mk q => by
  obtain ⟨q0, q1, qP, qK, qD⟩ := q
  exact ⟨q0, q1, qP, va_K.moved (u := U) (U := U.calling g mk a) (Vm.Alike.refl U.vm) qK, qD⟩
section EN
variable {l : Launch} {y : MethodName} {b : ByteArray} {n d : Nat} {ret : Option FieldType} {x : cx_T} {av : List Value} {σ σ' : sg_T} {own : String}
theorem en_i {r : Int32} (hy : plainName y.cls = true) (hlen : (lg_sl av).length ≤ n) (ho : y.cls = own)
    (body : ∀ (p : Program) (e : Env) (s : State) (m : MethodId) (below : List Frame) (meth : Method) (c : Code) (ls : Array Slot), fx_F p s m av.toArray meth c b n ret own → ww_P x s s.heap [] σ → lv_has ls n (lv_args 0 av) →
      W p l e (rm_D d) s m av.toArray below meth c s.heap [] 0 0 (qi_Q x s below av.toArray r σ') (F0 m 0 ls [])) : ct_i l y b n ret d x av σ r σ' := by
  intro sz
  refine Met.ofW (cc := b) (maxL := n) (ret := ret) hy rfl ?_
  intro p e s m args below meth c s₁ B hml hv
  obtain ⟨rfl, hsz, hP, hK, hD0⟩ := hv
  subst hsz
  have hts := atoms_spec (ws := .code y b n ret :: lw_ws) B.pre
  rw [lg_entry_eq]
  exact body p e s m below meth c _ ⟨B.exec, B.bytes, hml, B.returns, B.notSynchronized, ho ▸ findClass_of_methodNamed B.named, fun w h => hts w (List.mem_cons_of_mem _ h)⟩ ⟨hP, wl_self hD0, hK, va_S.rf⟩ (lv_entry av hlen)
theorem en_l {r : Int64} (hy : plainName y.cls = true) (hlen : (lg_sl av).length ≤ n) (ho : y.cls = own)
    (body : ∀ (p : Program) (e : Env) (s : State) (m : MethodId) (below : List Frame) (meth : Method) (c : Code) (ls : Array Slot), fx_F p s m av.toArray meth c b n (some .long) own → ww_P x s s.heap [] σ → lv_has ls n (lv_args 0 av) →
      W p l e (rm_D d) s m av.toArray below meth c s.heap [] 0 0 (ql_Q x s below av.toArray r σ') (F0 m 0 ls [])) : ct_l l y b n d x av σ r σ' := by
  intro sz
  refine Met.ofW (cc := b) (maxL := n) (ret := (some .long)) hy rfl ?_
  intro p e s m args below meth c s₁ B hml hv
  obtain ⟨rfl, hsz, hP, hK, hD0⟩ := hv
  subst hsz
  have hts := atoms_spec (ws := .code y b n (some .long) :: lw_ws) B.pre
  rw [lg_entry_eq]
  exact body p e s m below meth c _ ⟨B.exec, B.bytes, hml, B.returns, B.notSynchronized, ho ▸ findClass_of_methodNamed B.named, fun w h => hts w (List.mem_cons_of_mem _ h)⟩ ⟨hP, wl_self hD0, hK, va_S.rf⟩ (lv_entry av hlen)
theorem en_v (hy : plainName y.cls = true) (hlen : (lg_sl av).length ≤ n) (ho : y.cls = own)
    (body : ∀ (p : Program) (e : Env) (s : State) (m : MethodId) (below : List Frame) (meth : Method) (c : Code) (ls : Array Slot), fx_F p s m av.toArray meth c b n none own → ww_P x s s.heap [] σ → lv_has ls n (lv_args 0 av) →
      W p l e (rm_D d) s m av.toArray below meth c s.heap [] 0 0 (qv_Q x s below av.toArray σ') (F0 m 0 ls [])) : ct_v l y b n d x av σ σ' := by
  intro sz
  refine Met.ofW (cc := b) (maxL := n) (ret := none) hy rfl ?_
  intro p e s m args below meth c s₁ B hml hv
  obtain ⟨rfl, hsz, hP, hK, hD0⟩ := hv
  subst hsz
  have hts := atoms_spec (ws := .code y b n none :: lw_ws) B.pre
  rw [lg_entry_eq]
  exact body p e s m below meth c _ ⟨B.exec, B.bytes, hml, B.returns, B.notSynchronized, ho ▸ findClass_of_methodNamed B.named, fun w h => hts w (List.mem_cons_of_mem _ h)⟩ ⟨hP, wl_self hD0, hK, va_S.rf⟩ (lv_entry av hlen)
end EN
section RT
variable {p : Program} {l : Launch} {e : Env} {R : Room} {s : State} {m : MethodId} {args : Array Value} {below : List Frame} {meth : Method} {c : Code} {H : Heap} {locs : List Loc} {Q : State → Prop} {x : cx_T} {σ σ' : sg_T} {b : ByteArray} {n : Nat} {ret : Option FieldType} {own : String} {pc : Nat} {ls : Array Slot} {rest : List Value}
theorem rt_i {ty : FieldType} (F : fx_F p s m args meth c b n (some ty) own) (hw : ww_P x s H locs σ) {v : Int32} (hn : narrow ty (.int v) = .int v) (hdg : decode b pc = .ok (.ireturn, 1)) {z : Int32 × sg_T} (hf : some (v, σ) = some z) :
    W p l e R s m args below meth c H locs 0 0 (qi_Q x s below args z.1 z.2) (F0 m pc ls [.int v]) := by
  cases hf
  obtain ⟨hx, hb, hml, hr, hlk, hown, hT⟩ := F
  obtain ⟨hP, hD, hK, hS⟩ := hw
  exact W.zret hx hb hr hn (fun t ht hW => ⟨⟨v, σ, rfl, ⟨rfl, rfl⟩, by rw [ht]; exact hP, va_K.moved hW.alike hK, hD⟩, hS.F ht⟩) hS.2.2 hdg hlk
theorem rt_l (F : fx_F p s m args meth c b n (some .long) own) (hw : ww_P x s H locs σ) {v : Int64} (hdg : decode b pc = .ok (.lreturn, 1)) {z : Int64 × sg_T} (hf : some (v, σ) = some z) :
    W p l e R s m args below meth c H locs 0 0 (ql_Q x s below args z.1 z.2) (F0 m pc ls [.long v]) := by
  cases hf
  obtain ⟨hx, hb, hml, hr, hlk, hown, hT⟩ := F
  obtain ⟨hP, hD, hK, hS⟩ := hw
  exact W.lret hx hb hr (fun t ht hW => ⟨⟨v, σ, rfl, ⟨rfl, rfl⟩, by rw [ht]; exact hP, va_K.moved hW.alike hK, hD⟩, hS.F ht⟩) hS.2.2 hdg hlk
theorem rt_v (F : fx_F p s m args meth c b n none own) (hw : ww_P x s H locs σ) (hdg : decode b pc = .ok (.return_, 1)) {z : sg_T} (hf : some σ = some z) :
    W p l e R s m args below meth c H locs 0 0 (qv_Q x s below args z) (F0 m pc ls []) := by
  cases hf
  obtain ⟨hx, hb, hml, hr, hlk, hown, hT⟩ := F
  obtain ⟨hP, hD, hK, hS⟩ := hw
  exact W.vret hx hb hr (fun t ht hW => ⟨⟨σ, rfl, rfl, by rw [ht]; exact hP, va_K.moved hW.alike hK, hD⟩, hS.F ht⟩) hS.2.2 hdg hlk
/-- the cell k is an object of the class C, whatever the table -/
def rc_C (x : cx_T) (k : Nat) (C : String) : Prop := ∀ σ : sg_T, ∃ (ci : Nat) (fs : List Value) (q : vw_C), (ww_W x σ)[k]? = some (x.2.2 k, .inr (ci, fs)) ∧ vwCl[ci]? = some q ∧ q.1 = C
variable {y : MethodName} {b' : ByteArray} {n' d d' k index : Nat} {ret' : Option FieldType} {As : List Value} {st0 : List Value} {lv : List (Nat × Value)}
theorem cl_vi {r : Int32} (F : fx_F p s m args meth c b n ret own) (hw : ww_P x s H locs σ) (hM : ct_i l y b' n' ret' d x (.ref (x.2.2 k) :: As) σ r σ') (hrc : rc_C x k y.cls) (hG : GoodIn lw_ws (wsV own index y.cls y (.code y b' n' ret' :: lw_ws)))
    (hd : y.cls ≠ "java/lang/invoke/MethodHandle" ∧ y.cls ≠ "java/lang/invoke/VarHandle" ∧ (parseMethodDescriptor y.desc).map (fun d => d.parameters.length) = some As.length) (hN : n' ≤ 21 ∧ d + 1 ≤ d') (hl : lv_has ls n lv) (hst : st0 = As.reverse ++ .ref (x.2.2 k) :: rest) (hrest : (rest.map fun v => v.category).sum ≤ 8)
    (hdg : decode b pc = .ok (.invokevirtual index, 3)) (kk : ∀ (H1 : Heap) (locs1 : List Loc), ww_P x s H1 locs1 σ' → W p l e (rm_D d') s m args below meth c H1 locs1 0 0 Q (F0 m (pc + 3) ls (.int r :: rest))) :
    W p l e (rm_D d') s m args below meth c H locs 0 0 Q (F0 m pc ls st0) := by
  obtain ⟨hx, hb, hml, hr, hlk, hown, hT⟩ := F
  obtain ⟨hP, hD, hK, hS⟩ := hw
  obtain ⟨ci, fs, q, he, hc, hq⟩ := hrc σ
  have hrecv := va_recv hK hP hc he
  rw [hq] at hrecv
  refine va_calli (va_runV (C := y.cls) (As := As) (rest := rest) ⟨hx, hb, hml, hown, hT⟩ (hM H.size) (cwV As.length hT hG rfl rfl rfl ⟨rfl, hd⟩ ⟨hN.2, by simp only [rm_D]; omega⟩) ⟨ct_bl, hrecv, fun U hU hW => ⟨rfl, by rw [hU], by rw [hU]; exact hP, va_K.moved hW.alike hK, hD.weaken (fun _ _ _ _ => trivial)⟩⟩ rfl rfl hl.1 hst (lv_room hrest) hdg ⟨Nat.zero_le _, Nat.zero_le _⟩) hS (fun q _ h => wl_mono hS.1 h) (fun q h => wl_mono hS.1 h) (fun r' u t H1 locs1 ht hvm hp hB hz1 hk1 hS1 => ?_)
  obtain ⟨rfl, rfl⟩ := hp
  obtain ⟨hP1, hK1, hD1⟩ := hB
  rw [ht] at hP1
  exact kk H1 locs1 ⟨hP1, hD1.weaken (fun _ _ _ h => wl_mono hS.1 h), hK, hS1⟩
theorem cl_vl {r : Int64} (F : fx_F p s m args meth c b n ret own) (hw : ww_P x s H locs σ) (hM : ct_l l y b' n' d x (.ref (x.2.2 k) :: As) σ r σ') (hrc : rc_C x k y.cls) (hG : GoodIn lw_ws (wsV own index y.cls y (.code y b' n' (some .long) :: lw_ws)))
    (hd : y.cls ≠ "java/lang/invoke/MethodHandle" ∧ y.cls ≠ "java/lang/invoke/VarHandle" ∧ (parseMethodDescriptor y.desc).map (fun d => d.parameters.length) = some As.length) (hN : n' ≤ 21 ∧ d + 1 ≤ d') (hl : lv_has ls n lv) (hst : st0 = As.reverse ++ .ref (x.2.2 k) :: rest) (hrest : (rest.map fun v => v.category).sum ≤ 8)
    (hdg : decode b pc = .ok (.invokevirtual index, 3)) (kk : ∀ (H1 : Heap) (locs1 : List Loc), ww_P x s H1 locs1 σ' → W p l e (rm_D d') s m args below meth c H1 locs1 0 0 Q (F0 m (pc + 3) ls (.long r :: rest))) :
    W p l e (rm_D d') s m args below meth c H locs 0 0 Q (F0 m pc ls st0) := by
  obtain ⟨hx, hb, hml, hr, hlk, hown, hT⟩ := F
  obtain ⟨hP, hD, hK, hS⟩ := hw
  obtain ⟨ci, fs, q, he, hc, hq⟩ := hrc σ
  have hrecv := va_recv hK hP hc he
  rw [hq] at hrecv
  refine va_calll (va_runV (C := y.cls) (As := As) (rest := rest) ⟨hx, hb, hml, hown, hT⟩ (hM H.size) (cwV As.length hT hG rfl rfl rfl ⟨rfl, hd⟩ ⟨hN.2, by simp only [rm_D]; omega⟩) ⟨ct_bl, hrecv, fun U hU hW => ⟨rfl, by rw [hU], by rw [hU]; exact hP, va_K.moved hW.alike hK, hD.weaken (fun _ _ _ _ => trivial)⟩⟩ rfl rfl hl.1 hst (lv_room hrest) hdg ⟨Nat.zero_le _, Nat.zero_le _⟩) hS (fun q _ h => wl_mono hS.1 h) (fun q h => wl_mono hS.1 h) (fun r' u t H1 locs1 ht hvm hp hB hz1 hk1 hS1 => ?_)
  obtain ⟨rfl, rfl⟩ := hp
  obtain ⟨hP1, hK1, hD1⟩ := hB
  rw [ht] at hP1
  exact kk H1 locs1 ⟨hP1, hD1.weaken (fun _ _ _ h => wl_mono hS.1 h), hK, hS1⟩
theorem cl_vv (F : fx_F p s m args meth c b n ret own) (hw : ww_P x s H locs σ) (hM : ct_v l y b' n' d x (.ref (x.2.2 k) :: As) σ σ') (hrc : rc_C x k y.cls) (hG : GoodIn lw_ws (wsV own index y.cls y (.code y b' n' none :: lw_ws)))
    (hd : y.cls ≠ "java/lang/invoke/MethodHandle" ∧ y.cls ≠ "java/lang/invoke/VarHandle" ∧ (parseMethodDescriptor y.desc).map (fun d => d.parameters.length) = some As.length) (hN : n' ≤ 21 ∧ d + 1 ≤ d') (hl : lv_has ls n lv) (hst : st0 = As.reverse ++ .ref (x.2.2 k) :: rest) (hrest : (rest.map fun v => v.category).sum ≤ 8)
    (hdg : decode b pc = .ok (.invokevirtual index, 3)) (kk : ∀ (H1 : Heap) (locs1 : List Loc), ww_P x s H1 locs1 σ' → W p l e (rm_D d') s m args below meth c H1 locs1 0 0 Q (F0 m (pc + 3) ls rest)) :
    W p l e (rm_D d') s m args below meth c H locs 0 0 Q (F0 m pc ls st0) := by
  obtain ⟨hx, hb, hml, hr, hlk, hown, hT⟩ := F
  obtain ⟨hP, hD, hK, hS⟩ := hw
  obtain ⟨ci, fs, q, he, hc, hq⟩ := hrc σ
  have hrecv := va_recv hK hP hc he
  rw [hq] at hrecv
  refine va_callv (va_runV (C := y.cls) (As := As) (rest := rest) ⟨hx, hb, hml, hown, hT⟩ (hM H.size) (cwV As.length hT hG rfl rfl rfl ⟨rfl, hd⟩ ⟨hN.2, by simp only [rm_D]; omega⟩) ⟨ct_bl, hrecv, fun U hU hW => ⟨rfl, by rw [hU], by rw [hU]; exact hP, va_K.moved hW.alike hK, hD.weaken (fun _ _ _ _ => trivial)⟩⟩ rfl rfl hl.1 hst (lv_room hrest) hdg ⟨Nat.zero_le _, Nat.zero_le _⟩) hS (fun q _ h => wl_mono hS.1 h) (fun q h => wl_mono hS.1 h) (fun u t H1 locs1 ht hvm hp hB hz1 hk1 hS1 => ?_)
  subst hp
  obtain ⟨hP1, hK1, hD1⟩ := hB
  rw [ht] at hP1
  exact kk H1 locs1 ⟨hP1, hD1.weaken (fun _ _ _ h => wl_mono hS.1 h), hK, hS1⟩
theorem cl_cs {b9 : ByteArray} {ret9 : Option FieldType} (hT : ∀ w ∈ lw_ws, w.before args s = true) (hG : GoodIn lw_ws (va_wsS own index y (.code y b9 n' ret9 :: lw_ws))) (hd : y.cls ≠ "java/lang/invoke/MethodHandle" ∧ y.cls ≠ "java/lang/invoke/VarHandle" ∧ (parseMethodDescriptor y.desc).map (fun d => d.parameters.length) = some As.length) (hN : n' ≤ 21 ∧ d + 1 ≤ d') :
    CallB (rm_D d') s args own index y b9 n' ret9 (.code y b9 n' ret9 :: lw_ws) (rm_D d) 0 0 As.length ∧ (Cond.static y).before args s = true := by
  have ok : ∀ w ∈ va_wsS own index y (.code y b9 n' ret9 :: lw_ws), w.before args s = true := fun w h => hT w (hG w h).1
  exact ⟨callB_of As.length hT (fun w h => hG w (by unfold va_wsS; exact List.mem_append_right _ h)) rfl rfl rfl (ok _ (by simp [va_wsS])) (ok _ (by simp [va_wsS])) hd ⟨hN.2, by simp only [rm_D]; omega⟩, ok _ (by simp [va_wsS])⟩
theorem cl_si {r : Int32} (F : fx_F p s m args meth c b n ret own) (hw : ww_P x s H locs σ) (hM : ct_i l y b' n' ret' d x As σ r σ') (hG : GoodIn lw_ws (va_wsS own index y (.code y b' n' ret' :: lw_ws)))
    (hd : y.cls ≠ "java/lang/invoke/MethodHandle" ∧ y.cls ≠ "java/lang/invoke/VarHandle" ∧ (parseMethodDescriptor y.desc).map (fun d => d.parameters.length) = some As.length) (hN : n' ≤ 21 ∧ d + 1 ≤ d') (hl : lv_has ls n lv) (hst : st0 = As.reverse ++ rest) (hrest : (rest.map fun v => v.category).sum ≤ 8)
    (hdg : decode b pc = .ok (.invokestatic index, 3)) (kk : ∀ (H1 : Heap) (locs1 : List Loc), ww_P x s H1 locs1 σ' → W p l e (rm_D d') s m args below meth c H1 locs1 0 0 Q (F0 m (pc + 3) ls (.int r :: rest))) :
    W p l e (rm_D d') s m args below meth c H locs 0 0 Q (F0 m pc ls st0) := by
  obtain ⟨hx, hb, hml, hr, hlk, hown, hT⟩ := F
  obtain ⟨hP, hD, hK, hS⟩ := hw
  refine va_calli (va_runS (As := As) (rest := rest) ⟨hx, hb, hml, hown, hT⟩ (hM H.size) (cl_cs hT hG hd hN) ⟨ct_bl, fun U hU hW => ⟨rfl, by rw [hU], by rw [hU]; exact hP, va_K.moved hW.alike hK, hD.weaken (fun _ _ _ _ => trivial)⟩⟩ rfl rfl hl.1 hst (lv_room hrest) hdg ⟨Nat.zero_le _, Nat.zero_le _⟩) hS (fun q _ h => wl_mono hS.1 h) (fun q h => wl_mono hS.1 h) (fun r' u t H1 locs1 ht hvm hp hB hz1 hk1 hS1 => ?_)
  obtain ⟨rfl, rfl⟩ := hp
  obtain ⟨hP1, hK1, hD1⟩ := hB
  rw [ht] at hP1
  exact kk H1 locs1 ⟨hP1, hD1.weaken (fun _ _ _ h => wl_mono hS.1 h), hK, hS1⟩
theorem cl_sl {r : Int64} (F : fx_F p s m args meth c b n ret own) (hw : ww_P x s H locs σ) (hM : ct_l l y b' n' d x As σ r σ') (hG : GoodIn lw_ws (va_wsS own index y (.code y b' n' (some .long) :: lw_ws)))
    (hd : y.cls ≠ "java/lang/invoke/MethodHandle" ∧ y.cls ≠ "java/lang/invoke/VarHandle" ∧ (parseMethodDescriptor y.desc).map (fun d => d.parameters.length) = some As.length) (hN : n' ≤ 21 ∧ d + 1 ≤ d') (hl : lv_has ls n lv) (hst : st0 = As.reverse ++ rest) (hrest : (rest.map fun v => v.category).sum ≤ 8)
    (hdg : decode b pc = .ok (.invokestatic index, 3)) (kk : ∀ (H1 : Heap) (locs1 : List Loc), ww_P x s H1 locs1 σ' → W p l e (rm_D d') s m args below meth c H1 locs1 0 0 Q (F0 m (pc + 3) ls (.long r :: rest))) :
    W p l e (rm_D d') s m args below meth c H locs 0 0 Q (F0 m pc ls st0) := by
  obtain ⟨hx, hb, hml, hr, hlk, hown, hT⟩ := F
  obtain ⟨hP, hD, hK, hS⟩ := hw
  refine va_calll (va_runS (As := As) (rest := rest) ⟨hx, hb, hml, hown, hT⟩ (hM H.size) (cl_cs hT hG hd hN) ⟨ct_bl, fun U hU hW => ⟨rfl, by rw [hU], by rw [hU]; exact hP, va_K.moved hW.alike hK, hD.weaken (fun _ _ _ _ => trivial)⟩⟩ rfl rfl hl.1 hst (lv_room hrest) hdg ⟨Nat.zero_le _, Nat.zero_le _⟩) hS (fun q _ h => wl_mono hS.1 h) (fun q h => wl_mono hS.1 h) (fun r' u t H1 locs1 ht hvm hp hB hz1 hk1 hS1 => ?_)
  obtain ⟨rfl, rfl⟩ := hp
  obtain ⟨hP1, hK1, hD1⟩ := hB
  rw [ht] at hP1
  exact kk H1 locs1 ⟨hP1, hD1.weaken (fun _ _ _ h => wl_mono hS.1 h), hK, hS1⟩
/-- a switch's case; an int that is none of them -/
theorem sw_in {cells slots : Nat} {cc : ByteArray} (kc : Int32) (hexec : p.tables.exec = Jvm.exec) (hb : c.code = cc) {dflt lo hi : Int} {offs : Array Int} {len : Nat} {w : Int32} {off : Int} {tgt : Nat} (hdg : decode cc pc = .ok (.tableswitch dflt lo hi offs, len)) (h : w = kc) (h1 : ¬ kc.toInt < lo) (h2 : ¬ hi < kc.toInt) (ho : offs[(kc.toInt - lo).toNat]? = some off) (ht : (pc : Int) + off = (tgt : Int))
    (k : W p l e R s m args below meth c H locs cells slots Q (F0 m tgt ls rest)) : W p l e R s m args below meth c H locs cells slots Q (F0 m pc ls (.int w :: rest)) := by
  subst h
  exact lv_tableIn hexec hb hdg h1 h2 ho ht k
theorem sw_lk {cells slots : Nat} {cc : ByteArray} (kc : Int32) (hexec : p.tables.exec = Jvm.exec) (hb : c.code = cc) {dflt : Int} {ps : Array (Int × Int)} {len : Nat} {w : Int32} {off : Int} {tgt : Nat} (hdg : decode cc pc = .ok (.lookupswitch dflt ps, len)) (h : w = kc) (hp : (ps.toList.zip (ps.toList.drop 1)).all (fun (a, next) => a.1 < next.1) = true) (ho : Op.lookupswitch.offset ps.toList dflt kc.toInt = off) (ht : (pc : Int) + off = (tgt : Int))
    (k : W p l e R s m args below meth c H locs cells slots Q (F0 m tgt ls rest)) : W p l e R s m args below meth c H locs cells slots Q (F0 m pc ls (.int w :: rest)) := by
  subst h
  exact lv_lookup hexec hb hdg hp ho ht k
end RT
theorem it_ne {a b : Int32} (h : ¬ a = b) : ¬ a.toInt = b.toInt := fun q => h (Int32.toInt_inj.mp q)
theorem ic_p1 (v : Int32) : v + Int32.ofInt 1 = v + 1 := by rw [show Int32.ofInt 1 = (1 : Int32) by decide]
theorem ic_m1 (v : Int32) : v + Int32.ofInt (-1) = v + (-1) := by rw [show Int32.ofInt (-1) = (-1 : Int32) by decide]
theorem ic_p6 (v : Int32) : v + Int32.ofInt 6 = v + 6 := by rw [show Int32.ofInt 6 = (6 : Int32) by decide]
theorem ic_m128 (v : Int32) : v + Int32.ofInt (-128) = v + (-128) := by rw [show Int32.ofInt (-128) = (-128 : Int32) by decide]
