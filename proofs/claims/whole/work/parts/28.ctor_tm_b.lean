theorem wt_18 : Cond.fieldLink nR_TM 18 nR_TM "banks" "I" ∈ lw_ws := lw_m (i := 182) (by decide +kernel) (by decide +kernel)
theorem wt_22 : Cond.fieldLink nR_TM 22 nR_TM "latency" "I" ∈ lw_ws := lw_m (i := 183) (by decide +kernel) (by decide +kernel)
theorem wt_27 : Cond.fieldLink nR_TM 27 nR_TM "program" "[LTagMachine$Instruction;" ∈ lw_ws := lw_m (i := 184) (by decide +kernel) (by decide +kernel)
theorem wt_34 : Cond.fieldLink nR_TM 34 nR_TM "registers" "[LTagMachine$Operand;" ∈ lw_ws := lw_m (i := 185) (by decide +kernel) (by decide +kernel)
theorem wt_41 : Cond.fieldLink nR_TM 41 nR_TM "units" "[LTagMachine$Unit;" ∈ lw_ws := lw_m (i := 188) (by decide +kernel) (by decide +kernel)
theorem wt_46 : Cond.fieldLink nR_TM 46 nR_TM "integers" "[I" ∈ lw_ws := lw_m (i := 186) (by decide +kernel) (by decide +kernel)
theorem wt_50 : Cond.fieldLink nR_TM 50 nR_TM "words" "[I" ∈ lw_ws := lw_m (i := 187) (by decide +kernel) (by decide +kernel)
theorem wt_53 : Cond.fieldLink nR_TM 53 nR_TM "bankInUse" "[Z" ∈ lw_ws := lw_m (i := 189) (by decide +kernel) (by decide +kernel)
theorem wt_60 : Cond.fieldLink nR_TM 60 nR_TM "reckoner" "LTagMachine$Reckoner;" ∈ lw_ws := lw_m (i := 190) (by decide +kernel) (by decide +kernel)
theorem wt_64 : Cond.fieldLink nR_TM 64 nR_TM "mode" "I" ∈ lw_ws := lw_m (i := 192) (by decide +kernel) (by decide +kernel)
def rm_N : Room := { frames := 3, cells := 81, slots := 423, locals := 120 }
def tm_c (w : Int32) : Int32 := if (1 : Int32) < (if w < 8 then w else 8) then (if w < 8 then w else 8) else 1
section MX
variable {p : Program} {l : Launch} {e : Env} {R : Room} {s : State} {m : MethodId} {args : Array Value} {below : List Frame} {meth : Method} {c : Code} {H : Heap} {locs : List Loc} {cells slots : Nat} {Q : State → Prop} {b : ByteArray} {n : Nat} {ret0 : Option FieldType} {pc : Nat} {ls : Array Slot} {rest : List Value}
set_option maxRecDepth 100000 in
theorem mt_min {lv : List (Nat × Value)} (F : fx_F p s m args meth c b n ret0 nR_TM) (hl : lv_has ls n lv) (hR : 1 ≤ R.frames ∧ (rest.map fun v => v.category).sum + 13 ≤ R.locals) (hc : cells ≤ R.cells) (hs : slots ≤ R.slots) {v w : Int32} (hdg : decode b pc = .ok (.invokestatic 9, 3)) (kk : W p l e R s m args below meth c H locs cells slots Q (F0 m (pc + 3) ls (.int (if w < v then w else v) :: rest))) : W p l e R s m args below meth c H locs cells slots Q (F0 m pc ls (.int w :: .int v :: rest)) := by
  obtain ⟨hx, hb, hml, hr9, hlk, hown, hT⟩ := F
  exact va_mmin hx hb (hml.trans hl.1.symm) hown (hT _ (lw_m (i := 69) (by decide +kernel) (by decide +kernel))) (hT _ (lw_m (i := 70) (by decide +kernel) (by decide +kernel))) (hT _ (lw_m (i := 50) (by decide +kernel) (by decide +kernel))) (hT _ (lw_m (i := 71) rfl (by decide +kernel))) hR.1 hR.2 hc hs hdg kk
set_option maxRecDepth 100000 in
theorem mt_max {lv : List (Nat × Value)} (F : fx_F p s m args meth c b n ret0 nR_TM) (hl : lv_has ls n lv) (hR : 1 ≤ R.frames ∧ (rest.map fun v => v.category).sum + 13 ≤ R.locals) (hc : cells ≤ R.cells) (hs : slots ≤ R.slots) {v w : Int32} (hdg : decode b pc = .ok (.invokestatic 15, 3)) (kk : W p l e R s m args below meth c H locs cells slots Q (F0 m (pc + 3) ls (.int (if v < w then w else v) :: rest))) : W p l e R s m args below meth c H locs cells slots Q (F0 m pc ls (.int w :: .int v :: rest)) := by
  obtain ⟨hx, hb, hml, hr9, hlk, hown, hT⟩ := F
  exact va_mmax hx hb (hml.trans hl.1.symm) hown (hT _ (lw_m (i := 72) (by decide +kernel) (by decide +kernel))) (hT _ (lw_m (i := 73) (by decide +kernel) (by decide +kernel))) (hT _ (lw_m (i := 50) (by decide +kernel) (by decide +kernel))) (hT _ (lw_m (i := 74) rfl (by decide +kernel))) hR.1 hR.2 hc hs hdg kk
end MX
/-- an array of references at the cell B, and the first i objects behind it -/
def t_I (B N ci : Nat) (fr : List Value) (cA : ClassId) (i : Nat) (ad : Nat → Nat) (E : Nat → va_E) : Prop := (∃ f : Nat → Option Nat, E B = .inl (cA, N, .inr (.inr (.inr (.inr f)))) ∧ ∀ j, j < i → f j = some (ad (B + 1 + j))) ∧ ∀ j, j < i → E (B + 1 + j) = .inr (ci, fr)
/-- the units, each with its two operands behind it -/
def t_U (cA : ClassId) (i : Nat) (ad : Nat → Nat) (E : Nat → va_E) : Prop := (∃ f : Nat → Option Nat, E 38 = .inl (cA, 13, .inr (.inr (.inr (.inr f)))) ∧ ∀ j, j < i → f j = some (ad (39 + 3 * j))) ∧ ∀ j, j < i → E (39 + 3 * j) = .inr (3, un_1 (ad (40 + 3 * j)) (ad (41 + 3 * j))) ∧ E (40 + 3 * j) = .inr (1, op_0) ∧ E (41 + 3 * j) = .inr (1, op_0)
theorem t_I0 {B N ci : Nat} {fr : List Value} {cA : ClassId} {ad : Nat → Nat} {E : Nat → va_E} {f : Nat → Option Nat} (h : E B = .inl (cA, N, .inr (.inr (.inr (.inr f))))) : t_I B N ci fr cA 0 ad E := ⟨⟨f, h, fun j hj => by omega⟩, fun j hj => by omega⟩
theorem t_U0 {cA : ClassId} {ad : Nat → Nat} {E : Nat → va_E} {f : Nat → Option Nat} (h : E 38 = .inl (cA, 13, .inr (.inr (.inr (.inr f))))) : t_U cA 0 ad E := ⟨⟨f, h, fun j hj => by omega⟩, fun j hj => by omega⟩
theorem t_Icg {B N ci : Nat} {fr : List Value} {cA : ClassId} {i : Nat} {ad ad' : Nat → Nat} {E E' : Nat → va_E} (h : t_I B N ci fr cA i ad E) (ha : ∀ j, B ≤ j → j < B + 1 + i → ad' j = ad j) (hE : ∀ j, B ≤ j → j < B + 1 + i → E' j = E j) : t_I B N ci fr cA i ad' E' := by
  obtain ⟨⟨f, h1, h2⟩, h3⟩ := h
  exact ⟨⟨f, by rw [hE B (by omega) (by omega)]; exact h1, fun j hj => by rw [ha _ (by omega) (by omega)]; exact h2 j hj⟩, fun j hj => by rw [hE _ (by omega) (by omega)]; exact h3 j hj⟩
theorem t_Ucg {cA : ClassId} {i : Nat} {ad ad' : Nat → Nat} {E E' : Nat → va_E} (h : t_U cA i ad E) (ha : ∀ j, 38 ≤ j → j < 39 + 3 * i → ad' j = ad j) (hE : ∀ j, 38 ≤ j → j < 39 + 3 * i → E' j = E j) : t_U cA i ad' E' := by
  obtain ⟨⟨f, h1, h2⟩, h3⟩ := h
  refine ⟨⟨f, by rw [hE 38 (by omega) (by omega)]; exact h1, fun j hj => by rw [ha _ (by omega) (by omega)]; exact h2 j hj⟩, fun j hj => ?_⟩
  rw [hE _ (by omega) (by omega), hE _ (by omega) (by omega), hE _ (by omega) (by omega), ha _ (by omega) (by omega), ha _ (by omega) (by omega)]
  exact h3 j hj
theorem t_Is {B N ci : Nat} {fr : List Value} {cA : ClassId} {i q : Nat} {ad : Nat → Nat} {E : Nat → va_E} {f : Nat → Option Nat} (h1 : E B = .inl (cA, N, .inr (.inr (.inr (.inr f))))) (h2 : ∀ j, j < i → f j = some (ad (B + 1 + j))) (h3 : ∀ j, j < i → E (B + 1 + j) = .inr (ci, fr)) (w : Nat) (hw : w = i) :
    t_I B N ci fr cA (i + 1) (va_up ad (B + 1 + i) q) (va_up (va_up E (B + 1 + i) (.inr (ci, fr))) B (.inl (cA, N, .inr (.inr (.inr (.inr (va_up f w (some q)))))))) := by
  subst hw
  refine ⟨⟨_, va_up_self _ _ _, fun j hj => ?_⟩, fun j hj => ?_⟩
  · by_cases hji : j = w
    · subst hji
      rw [va_up_self, va_up_self]
    · rw [va_up_ne _ _ hji, va_up_ne _ _ (by omega)]
      exact h2 j (by omega)
  · rw [va_up_ne _ _ (by omega)]
    by_cases hji : j = w
    · subst hji
      rw [va_up_self]
    · rw [va_up_ne _ _ (by omega)]
      exact h3 j (by omega)
section TL
variable {p : Program} {l : Launch} {e : Env} {s : State} {m : MethodId} {args : Array Value} {below : List Frame} {meth : Method} {c : Code} {Q : State → Prop} {D : va_G} {tys : List (ClassId × FieldType)} {A : Nat → Prop} {h0 hp : Nat} {fs : List Value} {a1 a2 : Int32} {cA cP cO : ClassId} {hp1 hp2 : Nat}
set_option maxRecDepth 100000 in
set_option maxHeartbeats 4000000 in
theorem tl_1 (F : fx_F p s m args meth c nC_TM_init 4 none nR_TM) (hNw : va_Nw (.methodLinkNest nR_TM 31 nN_INS_init "TagMachine") s) (ht : tys[0]? = some (cA, .object nR_INS)) (hfs : fs[2]? = some (.ref hp))
    (kk : ∀ (ad : Nat → Nat) (E : Nat → va_E) (H : Heap) (locs : List Loc) (ls : Array Slot), gw_P D tys A s H locs ad 32 E → ad 0 = h0 → ad 1 = hp → E 0 = .inr (4, fs) → t_I 1 30 0 in_0 cA 30 ad E → lv_has ls 4 [(0, .ref h0), (1, .int a1), (2, .int a2)] → W p l e rm_N s m args below meth c H locs 31 180 Q (F0 m 68 ls [])) :
    ∀ (k i : Nat), i + k = 30 → ∀ (ad : Nat → Nat) (E : Nat → va_E) (H : Heap) (locs : List Loc) (ls : Array Slot), gw_P D tys A s H locs ad (2 + i) E → ad 0 = h0 → ad 1 = hp → E 0 = .inr (4, fs) → t_I 1 30 0 in_0 cA i ad E → lv_has ls 4 [(3, .int (nI i)), (0, .ref h0), (1, .int a1), (2, .int a2)] → W p l e rm_N s m args below meth c H locs (1 + i) (30 + 5 * i) Q (F0 m 43 ls []) := by
  have F9 := F
  obtain ⟨hx, hb, hml, hr, hlk, hown, hT⟩ := F
  intro k
  induction k with
  | zero =>
    intro i hi ad E H locs ls hg g0 g1 e0 hI hl
    refine lv_iload_n hx hb nD_TM_init_43 rfl (lv_at hl 0 rfl) ?_
    refine lv_bipush (v := 30) hx hb nD_TM_init_44 (by decide) ?_
    refine lv_icmp_ge (tgt := 68) hx hb nD_TM_init_46 (by decide) (fun h => ?_) (fun h => ?_)
    · have h5 : i = 30 := by omega
      subst h5
      exact kk ad E H locs ls hg g0 g1 e0 hI (lv_sub hl [1, 2, 3] rfl)
    · have h5 : i = 30 := by omega
      subst h5
      exact absurd (show (30 : Int32) ≤ nI 30 from by decide) h
  | succ k ih =>
    intro i hi ad E H locs ls hg g0 g1 e0 hI hl
    refine lv_iload_n hx hb nD_TM_init_43 rfl (lv_at hl 0 rfl) ?_
    refine lv_bipush (v := 30) hx hb nD_TM_init_44 (by decide) ?_
    refine lv_icmp_ge (tgt := 68) hx hb nD_TM_init_46 (by decide) (fun h => ?_) (fun h => ?_)
    · exfalso
      have h6 : nI 30 ≤ nI i := h
      exact nI_ge (by omega) (by decide) h6
    · obtain ⟨⟨f, i1, i2⟩, i3⟩ := hI
      refine lv_aload_n hx hb nD_TM_init_49 rfl (lv_at hl 1 rfl) ?_
      refine gg_f (R := rm_N) (ref := nR_TM) F9 hg in_TM 0 (by omega) g0 e0 rfl 2 (by decide) wt_27 rfl hfs nD_TM_init_50 ?_
      refine lv_iload_n hx hb nD_TM_init_53 rfl (lv_at hl 0 rfl) ?_
      refine gn_o (R := rm_N) (fs := in_0) (ci := 0) F9 hg in_INS nY_INS nK_INS wk_l_TM_25 wk_INS_n wk_INS_i rfl (fun j hj => by rcases (show j = 0 ∨ j = 1 ∨ j = 2 ∨ j = 3 ∨ j = 4 by omega) with rfl | rfl | rfl | rfl | rfl <;> rfl) (show 1 + i + 1 ≤ 81 by omega) (show 30 + 5 * i + 5 ≤ 423 by omega) nD_TM_init_54 (fun q H hg => ?_)
      refine lv_dup hx hb nD_TM_init_57 rfl ?_
      refine gc_n (R := rm_N) F9 (cn_INS l q) hNw wk_INS_c wk_INS_i wk_INS_m rfl hd_INS_init ⟨by decide, by decide⟩ ⟨show 1 + i + 1 ≤ 81 by omega, show 30 + 5 * i + 5 ≤ 423 by omega⟩ hl (Nat.le_of_ble_eq_true rfl) nD_TM_init_58 ?_
      refine ga_s (R := rm_N) F9 hg 1 0 (2 + i) 0 (by omega) (by omega) (by rw [va_up_ne _ _ (by omega)]; exact g1) (va_up_self _ _ _) (by rw [va_up_ne _ _ (by omega)]; exact i1) ht (va_up_self _ _ _) rfl (vp_in_nI (by omega) (by decide)) nD_TM_init_61 (fun H locs hg => ?_)
      refine lv_iinc (k := 0) (v := nI (i + 1)) (lv' := [(3, .int (nI (i + 1))), (0, .ref h0), (1, .int a1), (2, .int a2)]) hx hb nD_TM_init_62 hl rfl ((ic_p1 _).trans (nI_1 i)) (by decide) rfl (fun ls hl => ?_)
      refine lv_goto (tgt := 43) hx hb nD_TM_init_65 (by decide) ?_
      refine W.cs (cells' := 1 + (i + 1)) (slots' := 30 + 5 * (i + 1)) (by omega) (by omega) ?_
      exact ih (i + 1) (by omega) _ _ H locs ls hg (by rw [va_up_ne _ _ (by omega)]; exact g0) (by rw [va_up_ne _ _ (by omega)]; exact g1) (by rw [va_up_ne _ _ (by omega), va_up_ne _ _ (by omega)]; exact e0) (t_Is i1 i2 i3 _ (nI_clamp (by omega))) hl
set_option maxRecDepth 100000 in
set_option maxHeartbeats 4000000 in
theorem tl_2 (F : fx_F p s m args meth c nC_TM_init 4 none nR_TM) (hNw : va_Nw (.methodLinkNest nR_TM 38 nN_OPD_init "TagMachine") s) (ht : tys[1]? = some (cA, .object nR_OPD)) (hfs : fs[3]? = some (.ref hp))
    (kk : ∀ (ad : Nat → Nat) (E : Nat → va_E) (H : Heap) (locs : List Loc) (ls : Array Slot), gw_P D tys A s H locs ad 38 E → ad 0 = h0 → ad 32 = hp → E 0 = .inr (4, fs) → t_I 32 5 1 op_0 cA 5 ad E → t_I 1 30 0 in_0 cP 30 ad E → ad 1 = hp1 → lv_has ls 4 [(0, .ref h0), (1, .int a1), (2, .int a2)] → W p l e rm_N s m args below meth c H locs 37 195 Q (F0 m 102 ls [])) :
    ∀ (k i : Nat), i + k = 5 → ∀ (ad : Nat → Nat) (E : Nat → va_E) (H : Heap) (locs : List Loc) (ls : Array Slot), gw_P D tys A s H locs ad (33 + i) E → ad 0 = h0 → ad 32 = hp → E 0 = .inr (4, fs) → t_I 32 5 1 op_0 cA i ad E → t_I 1 30 0 in_0 cP 30 ad E → ad 1 = hp1 → lv_has ls 4 [(3, .int (nI i)), (0, .ref h0), (1, .int a1), (2, .int a2)] → W p l e rm_N s m args below meth c H locs (32 + i) (185 + 2 * i) Q (F0 m 78 ls []) := by
  have F9 := F
  obtain ⟨hx, hb, hml, hr, hlk, hown, hT⟩ := F
  intro k
  induction k with
  | zero =>
    intro i hi ad E H locs ls hg g0 g1 e0 hI hI1 k1 hl
    refine lv_iload_n hx hb nD_TM_init_78 rfl (lv_at hl 0 rfl) ?_
    refine lv_iconst (v := 4) hx hb nD_TM_init_79 (by decide) ?_
    refine lv_icmp_gt (tgt := 102) hx hb nD_TM_init_80 (by decide) (fun h => ?_) (fun h => ?_)
    · have h5 : i = 5 := by omega
      subst h5
      exact kk ad E H locs ls hg g0 g1 e0 hI hI1 k1 (lv_sub hl [1, 2, 3] rfl)
    · have h5 : i = 5 := by omega
      subst h5
      exact absurd (show (4 : Int32) < nI 5 from by decide) h
  | succ k ih =>
    intro i hi ad E H locs ls hg g0 g1 e0 hI hI1 k1 hl
    refine lv_iload_n hx hb nD_TM_init_78 rfl (lv_at hl 0 rfl) ?_
    refine lv_iconst (v := 4) hx hb nD_TM_init_79 (by decide) ?_
    refine lv_icmp_gt (tgt := 102) hx hb nD_TM_init_80 (by decide) (fun h => ?_) (fun h => ?_)
    · exfalso
      have h6 : nI 4 < nI i := h
      exact nI_nlt (by omega) (by omega) h6
    · obtain ⟨⟨f, i1, i2⟩, i3⟩ := hI
      refine lv_aload_n hx hb nD_TM_init_83 rfl (lv_at hl 1 rfl) ?_
      refine gg_f (R := rm_N) (ref := nR_TM) F9 hg in_TM 0 (by omega) g0 e0 rfl 3 (by decide) wt_34 rfl hfs nD_TM_init_84 ?_
      refine lv_iload_n hx hb nD_TM_init_87 rfl (lv_at hl 0 rfl) ?_
      refine gn_o (R := rm_N) (fs := op_0) (ci := 1) F9 hg in_OPD nY_OPD nK_OPD wk_l_TM_32 wk_OPD_n wk_OPD_i rfl (fun j hj => by rcases (show j = 0 ∨ j = 1 by omega) with rfl | rfl <;> rfl) (show 32 + i + 1 ≤ 81 by omega) (show 185 + 2 * i + 2 ≤ 423 by omega) nD_TM_init_88 (fun q H hg => ?_)
      refine lv_dup hx hb nD_TM_init_91 rfl ?_
      refine gc_n (R := rm_N) F9 (cn_OPD l q) hNw wk_OPD_c wk_OPD_i wk_OPD_m rfl hd_OPD_init ⟨by decide, by decide⟩ ⟨show 32 + i + 1 ≤ 81 by omega, show 185 + 2 * i + 2 ≤ 423 by omega⟩ hl (Nat.le_of_ble_eq_true rfl) nD_TM_init_92 ?_
      refine ga_s (R := rm_N) F9 hg 32 1 (33 + i) 1 (by omega) (by omega) (by rw [va_up_ne _ _ (by omega)]; exact g1) (va_up_self _ _ _) (by rw [va_up_ne _ _ (by omega)]; exact i1) ht (va_up_self _ _ _) rfl (vp_in_nI (by omega) (by decide)) nD_TM_init_95 (fun H locs hg => ?_)
      refine lv_iinc (k := 0) (v := nI (i + 1)) (lv' := [(3, .int (nI (i + 1))), (0, .ref h0), (1, .int a1), (2, .int a2)]) hx hb nD_TM_init_96 hl rfl ((ic_p1 _).trans (nI_1 i)) (by decide) rfl (fun ls hl => ?_)
      refine lv_goto (tgt := 78) hx hb nD_TM_init_99 (by decide) ?_
      refine W.cs (cells' := 32 + (i + 1)) (slots' := 185 + 2 * (i + 1)) (by omega) (by omega) ?_
      exact ih (i + 1) (by omega) _ _ H locs ls hg (by rw [va_up_ne _ _ (by omega)]; exact g0) (by rw [va_up_ne _ _ (by omega)]; exact g1) (by rw [va_up_ne _ _ (by omega), va_up_ne _ _ (by omega)]; exact e0) (t_Is i1 i2 i3 _ (nI_clamp (by omega))) (t_Icg hI1 (fun j h1 h2 => va_up_ne _ _ (by omega)) (fun j h1 h2 => by rw [va_up_ne _ _ (by omega), va_up_ne _ _ (by omega)])) (by rw [va_up_ne _ _ (by omega)]; exact k1) hl
set_option maxRecDepth 100000 in
set_option maxHeartbeats 4000000 in
theorem tl_3 (F : fx_F p s m args meth c nC_TM_init 4 none nR_TM) (hNw : va_Nw (.methodLinkNest nR_TM 45 nN_UNI_init "TagMachine") s) (hNo : va_Nw (.methodLinkNest nR_UNI 11 nN_OPD_init "TagMachine") s) (ht : tys[2]? = some (cA, .object nR_UNI)) (hfs : fs[6]? = some (.ref hp))
    (kk : ∀ (ad : Nat → Nat) (E : Nat → va_E) (H : Heap) (locs : List Loc) (ls : Array Slot), gw_P D tys A s H locs ad 78 E → ad 0 = h0 → ad 38 = hp → E 0 = .inr (4, fs) → t_U cA 13 ad E → t_I 1 30 0 in_0 cP 30 ad E → t_I 32 5 1 op_0 cO 5 ad E → ad 1 = hp1 → ad 32 = hp2 → lv_has ls 4 [(0, .ref h0), (1, .int a1), (2, .int a2)] → W p l e rm_N s m args below meth c H locs 77 377 Q (F0 m 138 ls [])) :
    ∀ (k i : Nat), i + k = 13 → ∀ (ad : Nat → Nat) (E : Nat → va_E) (H : Heap) (locs : List Loc) (ls : Array Slot), gw_P D tys A s H locs ad (39 + 3 * i) E → ad 0 = h0 → ad 38 = hp → E 0 = .inr (4, fs) → t_U cA i ad E → t_I 1 30 0 in_0 cP 30 ad E → t_I 32 5 1 op_0 cO 5 ad E → ad 1 = hp1 → ad 32 = hp2 → lv_has ls 4 [(3, .int (nI i)), (0, .ref h0), (1, .int a1), (2, .int a2)] → W p l e rm_N s m args below meth c H locs (38 + 3 * i) (208 + 13 * i) Q (F0 m 113 ls []) := by
  have F9 := F
  obtain ⟨hx, hb, hml, hr, hlk, hown, hT⟩ := F
  intro k
  induction k with
  | zero =>
    intro i hi ad E H locs ls hg g0 g1 e0 hU hI1 hI2 k1 k2 hl
    refine lv_iload_n hx hb nD_TM_init_113 rfl (lv_at hl 0 rfl) ?_
    refine lv_bipush (v := 12) hx hb nD_TM_init_114 (by decide) ?_
    refine lv_icmp_gt (tgt := 138) hx hb nD_TM_init_116 (by decide) (fun h => ?_) (fun h => ?_)
    · have h5 : i = 13 := by omega
      subst h5
      exact kk ad E H locs ls hg g0 g1 e0 hU hI1 hI2 k1 k2 (lv_sub hl [1, 2, 3] rfl)
    · have h5 : i = 13 := by omega
      subst h5
      exact absurd (show (12 : Int32) < nI 13 from by decide) h
  | succ k ih =>
    intro i hi ad E H locs ls hg g0 g1 e0 hU hI1 hI2 k1 k2 hl
    refine lv_iload_n hx hb nD_TM_init_113 rfl (lv_at hl 0 rfl) ?_
    refine lv_bipush (v := 12) hx hb nD_TM_init_114 (by decide) ?_
    refine lv_icmp_gt (tgt := 138) hx hb nD_TM_init_116 (by decide) (fun h => ?_) (fun h => ?_)
    · exfalso
      have h6 : nI 12 < nI i := h
      exact nI_nlt (by omega) (by omega) h6
    · obtain ⟨⟨f, i1, i2⟩, i3⟩ := hU
      refine lv_aload_n hx hb nD_TM_init_119 rfl (lv_at hl 1 rfl) ?_
      refine gg_f (R := rm_N) (ref := nR_TM) F9 hg in_TM 0 (by omega) g0 e0 rfl 6 (by decide) wt_41 rfl hfs nD_TM_init_120 ?_
      refine lv_iload_n hx hb nD_TM_init_123 rfl (lv_at hl 0 rfl) ?_
      refine gn_o (R := rm_N) (fs := un_0) (ci := 3) F9 hg in_UNI nY_UNI nK_UNI wk_l_TM_39 wk_UNI_n wk_UNI_i rfl (fun j hj => by rcases (show j = 0 ∨ j = 1 ∨ j = 2 ∨ j = 3 ∨ j = 4 ∨ j = 5 ∨ j = 6 ∨ j = 7 ∨ j = 8 by omega) with rfl | rfl | rfl | rfl | rfl | rfl | rfl | rfl | rfl <;> rfl) (show 38 + 3 * i + 1 ≤ 81 by omega) (show 208 + 13 * i + 9 ≤ 423 by omega) nD_TM_init_124 (fun q H hg => ?_)
      refine lv_dup hx hb nD_TM_init_127 rfl ?_
      refine gc_u (R := rm_N) F9 hg (39 + 3 * i) (by omega) (va_up_self _ _ _) (va_up_self _ _ _) hNw hNo ⟨by decide, by decide⟩ ⟨show 38 + 3 * i + 1 + 2 ≤ 81 by omega, show 208 + 13 * i + 9 + 4 ≤ 423 by omega⟩ hl (Nat.le_of_ble_eq_true rfl) nD_TM_init_128 (fun ad2 E2 H locs hg b1 b2 b3 b4 b5 => ?_)
      have oa : ∀ j, j < 39 + 3 * i → ad2 j = ad j := fun j hj => (b1 j (by omega)).trans (va_up_ne _ _ (by omega))
      have oq : ad2 (39 + 3 * i) = q := (b1 _ (by omega)).trans (va_up_self _ _ _)
      have oE : ∀ j, j < 39 + 3 * i → E2 j = E j := fun j hj => (b2 j (by omega) (by omega)).trans (va_up_ne _ _ (by omega))
      refine ga_s (R := rm_N) F9 hg 38 2 (39 + 3 * i) 3 (by omega) (by omega) ((oa 38 (by omega)).trans g1) oq ((oE 38 (by omega)).trans i1) ht b3 rfl (vp_in_nI (by omega) (by decide)) nD_TM_init_131 (fun H locs hg => ?_)
      refine lv_iinc (k := 0) (v := nI (i + 1)) (lv' := [(3, .int (nI (i + 1))), (0, .ref h0), (1, .int a1), (2, .int a2)]) hx hb nD_TM_init_132 hl rfl ((ic_p1 _).trans (nI_1 i)) (by decide) rfl (fun ls hl => ?_)
      refine lv_goto (tgt := 113) hx hb nD_TM_init_135 (by decide) ?_
      refine W.cs (cells' := 38 + 3 * (i + 1)) (slots' := 208 + 13 * (i + 1)) (by omega) (by omega) ?_
      refine ih (i + 1) (by omega) _ _ H locs ls hg ((oa 0 (by omega)).trans g0) ((oa 38 (by omega)).trans g1) (by rw [va_up_ne _ _ (by omega), oE 0 (by omega)]; exact e0) ?_ (t_Icg hI1 (fun j h1 h2 => oa j (by omega)) (fun j h1 h2 => by rw [va_up_ne _ _ (by omega)]; exact oE j (by omega))) (t_Icg hI2 (fun j h1 h2 => oa j (by omega)) (fun j h1 h2 => by rw [va_up_ne _ _ (by omega)]; exact oE j (by omega))) ((oa 1 (by omega)).trans k1) ((oa 32 (by omega)).trans k2) hl
      refine ⟨⟨_, va_up_self _ _ _, fun j hj => ?_⟩, fun j hj => ?_⟩
      · rw [nI_clamp (by omega)]
        by_cases hji : j = i
        · subst hji
          rw [va_up_self, oq]
        · rw [va_up_ne _ _ hji, oa _ (by omega)]
          exact i2 j (by omega)
      · by_cases hji : j = i
        · subst hji
          rw [va_up_ne _ _ (by omega), va_up_ne _ _ (by omega), va_up_ne _ _ (by omega)]
          have q1 : 39 + 3 * j + 1 = 40 + 3 * j := by omega
          have q2 : 39 + 3 * j + 1 + 1 = 41 + 3 * j := by omega
          rw [q1] at b4
          rw [q2] at b5
          rw [q2, q1] at b3
          exact ⟨b3, b4, b5⟩
        · rw [va_up_ne _ _ (by omega), va_up_ne _ _ (by omega), va_up_ne _ _ (by omega), oE _ (by omega), oE _ (by omega), oE _ (by omega), oa _ (by omega), oa _ (by omega)]
          exact i3 j (by omega)
end TL
