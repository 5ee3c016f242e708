section AR
variable {p : Program} {l : Launch} {e : Env} {R : Room} {s : State} {m : MethodId} {args : Array Value} {below : List Frame} {meth : Method} {c : Code} {H : Heap} {locs : List Loc} {cells slots : Nat} {Q : State → Prop} {x : cx_T} {σ : sg_T} {b : ByteArray} {n : Nat} {ret : Option FieldType} {own : String} {pc : Nat} {ls : Array Slot} {rest : List Value}
theorem al_program (F : fx_F p s m args meth c b n ret own) (hw : ww_P x s H locs σ) {w : Int32} (hin : ib_I w 30 = true) (hdg : decode b pc = .ok (.aaload, 1)) (kk : W p l e R s m args below meth c H locs cells slots Q (F0 m (pc + 1) ls (.ref (x.2.2 (8 + tn_I w)) :: rest))) : W p l e R s m args below meth c H locs cells slots Q (F0 m pc ls (.int w :: .ref (x.2.2 1) :: rest)) := by
  obtain ⟨hx, hb, hml, hr, hlk, hown, hT⟩ := F
  obtain ⟨hP, hD, hK, hS⟩ := hw
  exact va_aldq hx hb hK hP 1 2 gt_program rfl (ib_in hin) hdg kk
theorem al_registers (F : fx_F p s m args meth c b n ret own) (hw : ww_P x s H locs σ) {w : Int32} (hin : ib_I w 5 = true) (hdg : decode b pc = .ok (.aaload, 1)) (kk : W p l e R s m args below meth c H locs cells slots Q (F0 m (pc + 1) ls (.ref (x.2.2 (38 + tn_I w)) :: rest))) : W p l e R s m args below meth c H locs cells slots Q (F0 m pc ls (.int w :: .ref (x.2.2 2) :: rest)) := by
  obtain ⟨hx, hb, hml, hr, hlk, hown, hT⟩ := F
  obtain ⟨hP, hD, hK, hS⟩ := hw
  exact va_aldq hx hb hK hP 2 3 gt_registers rfl (ib_in hin) hdg kk
theorem al_units (F : fx_F p s m args meth c b n ret own) (hw : ww_P x s H locs σ) {w : Int32} (hin : ib_I w 13 = true) (hdg : decode b pc = .ok (.aaload, 1)) (kk : W p l e R s m args below meth c H locs cells slots Q (F0 m (pc + 1) ls (.ref (x.2.2 (69 + tn_I w)) :: rest))) : W p l e R s m args below meth c H locs cells slots Q (F0 m pc ls (.int w :: .ref (x.2.2 5) :: rest)) := by
  obtain ⟨hx, hb, hml, hr, hlk, hown, hT⟩ := F
  obtain ⟨hP, hD, hK, hS⟩ := hw
  exact va_aldq hx hb hK hP 5 4 gt_units rfl (ib_in hin) hdg kk
theorem al_integers (F : fx_F p s m args meth c b n ret own) (hw : ww_P x s H locs σ) {w : Int32} (hin : ib_I w 4 = true) (hdg : decode b pc = .ok (.iaload, 1)) (kk : W p l e R s m args below meth c H locs cells slots Q (F0 m (pc + 1) ls (.int (σ 10 (tn_I w)) :: rest))) : W p l e R s m args below meth c H locs cells slots Q (F0 m pc ls (.int w :: .ref (x.2.2 3) :: rest)) := by
  obtain ⟨hx, hb, hml, hr, hlk, hown, hT⟩ := F
  obtain ⟨hP, hD, hK, hS⟩ := hw
  exact va_iald hx hb hK hP 3 0 gt_integers rfl (ib_in hin) hdg kk
theorem as_integers (F : fx_F p s m args meth c b n ret own) (hw : ww_P x s H locs σ) {w v : Int32} (hin : ib_I w 4 = true) (hdg : decode b pc = .ok (.iastore, 1)) (kk : ∀ (H1 : Heap) (locs1 : List Loc), ww_P x s H1 locs1 (sg_up σ 10 (tn_I w) v) → W p l e R s m args below meth c H1 locs1 cells slots Q (F0 m (pc + 1) ls (rest))) : W p l e R s m args below meth c H locs cells slots Q (F0 m pc ls (.int v :: .int w :: .ref (x.2.2 3) :: rest)) := by
  obtain ⟨hx, hb, hml, hr, hlk, hown, hT⟩ := F
  obtain ⟨hP, hD, hK, hS⟩ := hw
  refine va_iast hx hb hK hP hD hS 3 0 gt_integers rfl (ib_in hin) hdg (fun H1 locs1 hP hD hS => ?_)
  rw [st_integers] at hP hD
  exact kk H1 locs1 ⟨hP, hD, hK, hS⟩
theorem al_words (F : fx_F p s m args meth c b n ret own) (hw : ww_P x s H locs σ) {w : Int32} (hin : ib_I w 32 = true) (hdg : decode b pc = .ok (.iaload, 1)) (kk : W p l e R s m args below meth c H locs cells slots Q (F0 m (pc + 1) ls (.int (σ 11 (tn_I w)) :: rest))) : W p l e R s m args below meth c H locs cells slots Q (F0 m pc ls (.int w :: .ref (x.2.2 4) :: rest)) := by
  obtain ⟨hx, hb, hml, hr, hlk, hown, hT⟩ := F
  obtain ⟨hP, hD, hK, hS⟩ := hw
  exact va_iald hx hb hK hP 4 0 gt_words rfl (ib_in hin) hdg kk
theorem as_words (F : fx_F p s m args meth c b n ret own) (hw : ww_P x s H locs σ) {w v : Int32} (hin : ib_I w 32 = true) (hdg : decode b pc = .ok (.iastore, 1)) (kk : ∀ (H1 : Heap) (locs1 : List Loc), ww_P x s H1 locs1 (sg_up σ 11 (tn_I w) v) → W p l e R s m args below meth c H1 locs1 cells slots Q (F0 m (pc + 1) ls (rest))) : W p l e R s m args below meth c H locs cells slots Q (F0 m pc ls (.int v :: .int w :: .ref (x.2.2 4) :: rest)) := by
  obtain ⟨hx, hb, hml, hr, hlk, hown, hT⟩ := F
  obtain ⟨hP, hD, hK, hS⟩ := hw
  refine va_iast hx hb hK hP hD hS 4 0 gt_words rfl (ib_in hin) hdg (fun H1 locs1 hP hD hS => ?_)
  rw [st_words] at hP hD
  exact kk H1 locs1 ⟨hP, hD, hK, hS⟩
theorem al_bankInUse (F : fx_F p s m args meth c b n ret own) (hw : ww_P x s H locs σ) {w : Int32} (hin : ib_I w 8 = true) (hdg : decode b pc = .ok (.baload, 1)) (kk : W p l e R s m args below meth c H locs cells slots Q (F0 m (pc + 1) ls (.int (σ 19 (tn_I w)) :: rest))) : W p l e R s m args below meth c H locs cells slots Q (F0 m pc ls (.int w :: .ref (x.2.2 6) :: rest)) := by
  obtain ⟨hx, hb, hml, hr, hlk, hown, hT⟩ := F
  obtain ⟨hP, hD, hK, hS⟩ := hw
  exact va_zald hx hb hK hP 6 1 gt_bankInUse rfl (ib_in hin) hdg kk
theorem as_bankInUse (F : fx_F p s m args meth c b n ret own) (hw : ww_P x s H locs σ) {w v : Int32} (hin : ib_I w 8 = true) (hn : vp_nar .boolean v = v) (hdg : decode b pc = .ok (.bastore, 1)) (kk : ∀ (H1 : Heap) (locs1 : List Loc), ww_P x s H1 locs1 (sg_up σ 19 (tn_I w) v) → W p l e R s m args below meth c H1 locs1 cells slots Q (F0 m (pc + 1) ls (rest))) : W p l e R s m args below meth c H locs cells slots Q (F0 m pc ls (.int v :: .int w :: .ref (x.2.2 6) :: rest)) := by
  obtain ⟨hx, hb, hml, hr, hlk, hown, hT⟩ := F
  obtain ⟨hP, hD, hK, hS⟩ := hw
  refine va_zast hx hb hK hP hD hS 6 1 gt_bankInUse rfl (ib_in hin) hdg (fun H1 locs1 hP hD hS => ?_)
  rw [hn] at hP hD
  rw [st_bankInUse] at hP hD
  exact kk H1 locs1 ⟨hP, hD, hK, hS⟩
theorem al_m_op (F : fx_F p s m args meth c b n ret own) (hw : ww_P x s H locs σ) {w : Int32} (hin : ib_I w 30 = true) (hdg : decode b pc = .ok (.iaload, 1)) (kk : W p l e R s m args below meth c H locs cells slots Q (F0 m (pc + 1) ls (.int (σ 31 (tn_I w)) :: rest))) : W p l e R s m args below meth c H locs cells slots Q (F0 m pc ls (.int w :: .ref (x.2.2 83) :: rest)) := by
  obtain ⟨hx, hb, hml, hr, hlk, hown, hT⟩ := F
  obtain ⟨hP, hD, hK, hS⟩ := hw
  exact va_iald hx hb hK hP 83 0 gt_m_op rfl (ib_in hin) hdg kk
theorem as_m_op (F : fx_F p s m args meth c b n ret own) (hw : ww_P x s H locs σ) {w v : Int32} (hin : ib_I w 30 = true) (hdg : decode b pc = .ok (.iastore, 1)) (kk : ∀ (H1 : Heap) (locs1 : List Loc), ww_P x s H1 locs1 (sg_up σ 31 (tn_I w) v) → W p l e R s m args below meth c H1 locs1 cells slots Q (F0 m (pc + 1) ls (rest))) : W p l e R s m args below meth c H locs cells slots Q (F0 m pc ls (.int v :: .int w :: .ref (x.2.2 83) :: rest)) := by
  obtain ⟨hx, hb, hml, hr, hlk, hown, hT⟩ := F
  obtain ⟨hP, hD, hK, hS⟩ := hw
  refine va_iast hx hb hK hP hD hS 83 0 gt_m_op rfl (ib_in hin) hdg (fun H1 locs1 hP hD hS => ?_)
  rw [st_m_op] at hP hD
  exact kk H1 locs1 ⟨hP, hD, hK, hS⟩
theorem al_m_rs (F : fx_F p s m args meth c b n ret own) (hw : ww_P x s H locs σ) {w : Int32} (hin : ib_I w 30 = true) (hdg : decode b pc = .ok (.iaload, 1)) (kk : W p l e R s m args below meth c H locs cells slots Q (F0 m (pc + 1) ls (.int (σ 32 (tn_I w)) :: rest))) : W p l e R s m args below meth c H locs cells slots Q (F0 m pc ls (.int w :: .ref (x.2.2 84) :: rest)) := by
  obtain ⟨hx, hb, hml, hr, hlk, hown, hT⟩ := F
  obtain ⟨hP, hD, hK, hS⟩ := hw
  exact va_iald hx hb hK hP 84 0 gt_m_rs rfl (ib_in hin) hdg kk
theorem as_m_rs (F : fx_F p s m args meth c b n ret own) (hw : ww_P x s H locs σ) {w v : Int32} (hin : ib_I w 30 = true) (hdg : decode b pc = .ok (.iastore, 1)) (kk : ∀ (H1 : Heap) (locs1 : List Loc), ww_P x s H1 locs1 (sg_up σ 32 (tn_I w) v) → W p l e R s m args below meth c H1 locs1 cells slots Q (F0 m (pc + 1) ls (rest))) : W p l e R s m args below meth c H locs cells slots Q (F0 m pc ls (.int v :: .int w :: .ref (x.2.2 84) :: rest)) := by
  obtain ⟨hx, hb, hml, hr, hlk, hown, hT⟩ := F
  obtain ⟨hP, hD, hK, hS⟩ := hw
  refine va_iast hx hb hK hP hD hS 84 0 gt_m_rs rfl (ib_in hin) hdg (fun H1 locs1 hP hD hS => ?_)
  rw [st_m_rs] at hP hD
  exact kk H1 locs1 ⟨hP, hD, hK, hS⟩
theorem al_m_ss (F : fx_F p s m args meth c b n ret own) (hw : ww_P x s H locs σ) {w : Int32} (hin : ib_I w 30 = true) (hdg : decode b pc = .ok (.iaload, 1)) (kk : W p l e R s m args below meth c H locs cells slots Q (F0 m (pc + 1) ls (.int (σ 33 (tn_I w)) :: rest))) : W p l e R s m args below meth c H locs cells slots Q (F0 m pc ls (.int w :: .ref (x.2.2 85) :: rest)) := by
  obtain ⟨hx, hb, hml, hr, hlk, hown, hT⟩ := F
  obtain ⟨hP, hD, hK, hS⟩ := hw
  exact va_iald hx hb hK hP 85 0 gt_m_ss rfl (ib_in hin) hdg kk
theorem as_m_ss (F : fx_F p s m args meth c b n ret own) (hw : ww_P x s H locs σ) {w v : Int32} (hin : ib_I w 30 = true) (hdg : decode b pc = .ok (.iastore, 1)) (kk : ∀ (H1 : Heap) (locs1 : List Loc), ww_P x s H1 locs1 (sg_up σ 33 (tn_I w) v) → W p l e R s m args below meth c H1 locs1 cells slots Q (F0 m (pc + 1) ls (rest))) : W p l e R s m args below meth c H locs cells slots Q (F0 m pc ls (.int v :: .int w :: .ref (x.2.2 85) :: rest)) := by
  obtain ⟨hx, hb, hml, hr, hlk, hown, hT⟩ := F
  obtain ⟨hP, hD, hK, hS⟩ := hw
  refine va_iast hx hb hK hP hD hS 85 0 gt_m_ss rfl (ib_in hin) hdg (fun H1 locs1 hP hD hS => ?_)
  rw [st_m_ss] at hP hD
  exact kk H1 locs1 ⟨hP, hD, hK, hS⟩
theorem al_m_bs (F : fx_F p s m args meth c b n ret own) (hw : ww_P x s H locs σ) {w : Int32} (hin : ib_I w 30 = true) (hdg : decode b pc = .ok (.iaload, 1)) (kk : W p l e R s m args below meth c H locs cells slots Q (F0 m (pc + 1) ls (.int (σ 34 (tn_I w)) :: rest))) : W p l e R s m args below meth c H locs cells slots Q (F0 m pc ls (.int w :: .ref (x.2.2 86) :: rest)) := by
  obtain ⟨hx, hb, hml, hr, hlk, hown, hT⟩ := F
  obtain ⟨hP, hD, hK, hS⟩ := hw
  exact va_iald hx hb hK hP 86 0 gt_m_bs rfl (ib_in hin) hdg kk
theorem as_m_bs (F : fx_F p s m args meth c b n ret own) (hw : ww_P x s H locs σ) {w v : Int32} (hin : ib_I w 30 = true) (hdg : decode b pc = .ok (.iastore, 1)) (kk : ∀ (H1 : Heap) (locs1 : List Loc), ww_P x s H1 locs1 (sg_up σ 34 (tn_I w) v) → W p l e R s m args below meth c H1 locs1 cells slots Q (F0 m (pc + 1) ls (rest))) : W p l e R s m args below meth c H locs cells slots Q (F0 m pc ls (.int v :: .int w :: .ref (x.2.2 86) :: rest)) := by
  obtain ⟨hx, hb, hml, hr, hlk, hown, hT⟩ := F
  obtain ⟨hP, hD, hK, hS⟩ := hw
  refine va_iast hx hb hK hP hD hS 86 0 gt_m_bs rfl (ib_in hin) hdg (fun H1 locs1 hP hD hS => ?_)
  rw [st_m_bs] at hP hD
  exact kk H1 locs1 ⟨hP, hD, hK, hS⟩
theorem al_m_ns (F : fx_F p s m args meth c b n ret own) (hw : ww_P x s H locs σ) {w : Int32} (hin : ib_I w 30 = true) (hdg : decode b pc = .ok (.iaload, 1)) (kk : W p l e R s m args below meth c H locs cells slots Q (F0 m (pc + 1) ls (.int (σ 35 (tn_I w)) :: rest))) : W p l e R s m args below meth c H locs cells slots Q (F0 m pc ls (.int w :: .ref (x.2.2 87) :: rest)) := by
  obtain ⟨hx, hb, hml, hr, hlk, hown, hT⟩ := F
  obtain ⟨hP, hD, hK, hS⟩ := hw
  exact va_iald hx hb hK hP 87 0 gt_m_ns rfl (ib_in hin) hdg kk
theorem as_m_ns (F : fx_F p s m args meth c b n ret own) (hw : ww_P x s H locs σ) {w v : Int32} (hin : ib_I w 30 = true) (hdg : decode b pc = .ok (.iastore, 1)) (kk : ∀ (H1 : Heap) (locs1 : List Loc), ww_P x s H1 locs1 (sg_up σ 35 (tn_I w) v) → W p l e R s m args below meth c H1 locs1 cells slots Q (F0 m (pc + 1) ls (rest))) : W p l e R s m args below meth c H locs cells slots Q (F0 m pc ls (.int v :: .int w :: .ref (x.2.2 87) :: rest)) := by
  obtain ⟨hx, hb, hml, hr, hlk, hown, hT⟩ := F
  obtain ⟨hP, hD, hK, hS⟩ := hw
  refine va_iast hx hb hK hP hD hS 87 0 gt_m_ns rfl (ib_in hin) hdg (fun H1 locs1 hP hD hS => ?_)
  rw [st_m_ns] at hP hD
  exact kk H1 locs1 ⟨hP, hD, hK, hS⟩
theorem al_m_value (F : fx_F p s m args meth c b n ret own) (hw : ww_P x s H locs σ) {w : Int32} (hin : ib_I w 5 = true) (hdg : decode b pc = .ok (.iaload, 1)) (kk : W p l e R s m args below meth c H locs cells slots Q (F0 m (pc + 1) ls (.int (σ 36 (tn_I w)) :: rest))) : W p l e R s m args below meth c H locs cells slots Q (F0 m pc ls (.int w :: .ref (x.2.2 88) :: rest)) := by
  obtain ⟨hx, hb, hml, hr, hlk, hown, hT⟩ := F
  obtain ⟨hP, hD, hK, hS⟩ := hw
  exact va_iald hx hb hK hP 88 0 gt_m_value rfl (ib_in hin) hdg kk
theorem as_m_value (F : fx_F p s m args meth c b n ret own) (hw : ww_P x s H locs σ) {w v : Int32} (hin : ib_I w 5 = true) (hdg : decode b pc = .ok (.iastore, 1)) (kk : ∀ (H1 : Heap) (locs1 : List Loc), ww_P x s H1 locs1 (sg_up σ 36 (tn_I w) v) → W p l e R s m args below meth c H1 locs1 cells slots Q (F0 m (pc + 1) ls (rest))) : W p l e R s m args below meth c H locs cells slots Q (F0 m pc ls (.int v :: .int w :: .ref (x.2.2 88) :: rest)) := by
  obtain ⟨hx, hb, hml, hr, hlk, hown, hT⟩ := F
  obtain ⟨hP, hD, hK, hS⟩ := hw
  refine va_iast hx hb hK hP hD hS 88 0 gt_m_value rfl (ib_in hin) hdg (fun H1 locs1 hP hD hS => ?_)
  rw [st_m_value] at hP hD
  exact kk H1 locs1 ⟨hP, hD, hK, hS⟩
theorem al_m_waits (F : fx_F p s m args meth c b n ret own) (hw : ww_P x s H locs σ) {w : Int32} (hin : ib_I w 5 = true) (hdg : decode b pc = .ok (.iaload, 1)) (kk : W p l e R s m args below meth c H locs cells slots Q (F0 m (pc + 1) ls (.int (σ 37 (tn_I w)) :: rest))) : W p l e R s m args below meth c H locs cells slots Q (F0 m pc ls (.int w :: .ref (x.2.2 89) :: rest)) := by
  obtain ⟨hx, hb, hml, hr, hlk, hown, hT⟩ := F
  obtain ⟨hP, hD, hK, hS⟩ := hw
  exact va_iald hx hb hK hP 89 0 gt_m_waits rfl (ib_in hin) hdg kk
theorem as_m_waits (F : fx_F p s m args meth c b n ret own) (hw : ww_P x s H locs σ) {w v : Int32} (hin : ib_I w 5 = true) (hdg : decode b pc = .ok (.iastore, 1)) (kk : ∀ (H1 : Heap) (locs1 : List Loc), ww_P x s H1 locs1 (sg_up σ 37 (tn_I w) v) → W p l e R s m args below meth c H1 locs1 cells slots Q (F0 m (pc + 1) ls (rest))) : W p l e R s m args below meth c H locs cells slots Q (F0 m pc ls (.int v :: .int w :: .ref (x.2.2 89) :: rest)) := by
  obtain ⟨hx, hb, hml, hr, hlk, hown, hT⟩ := F
  obtain ⟨hP, hD, hK, hS⟩ := hw
  refine va_iast hx hb hK hP hD hS 89 0 gt_m_waits rfl (ib_in hin) hdg (fun H1 locs1 hP hD hS => ?_)
  rw [st_m_waits] at hP hD
  exact kk H1 locs1 ⟨hP, hD, hK, hS⟩
theorem al_m_general (F : fx_F p s m args meth c b n ret own) (hw : ww_P x s H locs σ) {w : Int32} (hin : ib_I w 4 = true) (hdg : decode b pc = .ok (.iaload, 1)) (kk : W p l e R s m args below meth c H locs cells slots Q (F0 m (pc + 1) ls (.int (σ 38 (tn_I w)) :: rest))) : W p l e R s m args below meth c H locs cells slots Q (F0 m pc ls (.int w :: .ref (x.2.2 90) :: rest)) := by
  obtain ⟨hx, hb, hml, hr, hlk, hown, hT⟩ := F
  obtain ⟨hP, hD, hK, hS⟩ := hw
  exact va_iald hx hb hK hP 90 0 gt_m_general rfl (ib_in hin) hdg kk
theorem as_m_general (F : fx_F p s m args meth c b n ret own) (hw : ww_P x s H locs σ) {w v : Int32} (hin : ib_I w 4 = true) (hdg : decode b pc = .ok (.iastore, 1)) (kk : ∀ (H1 : Heap) (locs1 : List Loc), ww_P x s H1 locs1 (sg_up σ 38 (tn_I w) v) → W p l e R s m args below meth c H1 locs1 cells slots Q (F0 m (pc + 1) ls (rest))) : W p l e R s m args below meth c H locs cells slots Q (F0 m pc ls (.int v :: .int w :: .ref (x.2.2 90) :: rest)) := by
  obtain ⟨hx, hb, hml, hr, hlk, hown, hT⟩ := F
  obtain ⟨hP, hD, hK, hS⟩ := hw
  refine va_iast hx hb hK hP hD hS 90 0 gt_m_general rfl (ib_in hin) hdg (fun H1 locs1 hP hD hS => ?_)
  rw [st_m_general] at hP hD
  exact kk H1 locs1 ⟨hP, hD, hK, hS⟩
theorem al_m_words (F : fx_F p s m args meth c b n ret own) (hw : ww_P x s H locs σ) {w : Int32} (hin : ib_I w 32 = true) (hdg : decode b pc = .ok (.iaload, 1)) (kk : W p l e R s m args below meth c H locs cells slots Q (F0 m (pc + 1) ls (.int (σ 39 (tn_I w)) :: rest))) : W p l e R s m args below meth c H locs cells slots Q (F0 m pc ls (.int w :: .ref (x.2.2 91) :: rest)) := by
  obtain ⟨hx, hb, hml, hr, hlk, hown, hT⟩ := F
  obtain ⟨hP, hD, hK, hS⟩ := hw
  exact va_iald hx hb hK hP 91 0 gt_m_words rfl (ib_in hin) hdg kk
theorem as_m_words (F : fx_F p s m args meth c b n ret own) (hw : ww_P x s H locs σ) {w v : Int32} (hin : ib_I w 32 = true) (hdg : decode b pc = .ok (.iastore, 1)) (kk : ∀ (H1 : Heap) (locs1 : List Loc), ww_P x s H1 locs1 (sg_up σ 39 (tn_I w) v) → W p l e R s m args below meth c H1 locs1 cells slots Q (F0 m (pc + 1) ls (rest))) : W p l e R s m args below meth c H locs cells slots Q (F0 m pc ls (.int v :: .int w :: .ref (x.2.2 91) :: rest)) := by
  obtain ⟨hx, hb, hml, hr, hlk, hown, hT⟩ := F
  obtain ⟨hP, hD, hK, hS⟩ := hw
  refine va_iast hx hb hK hP hD hS 91 0 gt_m_words rfl (ib_in hin) hdg (fun H1 locs1 hP hD hS => ?_)
  rw [st_m_words] at hP hD
  exact kk H1 locs1 ⟨hP, hD, hK, hS⟩
theorem al_m_place (F : fx_F p s m args meth c b n ret own) (hw : ww_P x s H locs σ) {w : Int32} (hin : ib_I w 13 = true) (hdg : decode b pc = .ok (.iaload, 1)) (kk : W p l e R s m args below meth c H locs cells slots Q (F0 m (pc + 1) ls (.int (σ 40 (tn_I w)) :: rest))) : W p l e R s m args below meth c H locs cells slots Q (F0 m pc ls (.int w :: .ref (x.2.2 92) :: rest)) := by
  obtain ⟨hx, hb, hml, hr, hlk, hown, hT⟩ := F
  obtain ⟨hP, hD, hK, hS⟩ := hw
  exact va_iald hx hb hK hP 92 0 gt_m_place rfl (ib_in hin) hdg kk
theorem as_m_place (F : fx_F p s m args meth c b n ret own) (hw : ww_P x s H locs σ) {w v : Int32} (hin : ib_I w 13 = true) (hdg : decode b pc = .ok (.iastore, 1)) (kk : ∀ (H1 : Heap) (locs1 : List Loc), ww_P x s H1 locs1 (sg_up σ 40 (tn_I w) v) → W p l e R s m args below meth c H1 locs1 cells slots Q (F0 m (pc + 1) ls (rest))) : W p l e R s m args below meth c H locs cells slots Q (F0 m pc ls (.int v :: .int w :: .ref (x.2.2 92) :: rest)) := by
  obtain ⟨hx, hb, hml, hr, hlk, hown, hT⟩ := F
  obtain ⟨hP, hD, hK, hS⟩ := hw
  refine va_iast hx hb hK hP hD hS 92 0 gt_m_place rfl (ib_in hin) hdg (fun H1 locs1 hP hD hS => ?_)
  rw [st_m_place] at hP hD
  exact kk H1 locs1 ⟨hP, hD, hK, hS⟩
theorem al_m_what (F : fx_F p s m args meth c b n ret own) (hw : ww_P x s H locs σ) {w : Int32} (hin : ib_I w 13 = true) (hdg : decode b pc = .ok (.iaload, 1)) (kk : W p l e R s m args below meth c H locs cells slots Q (F0 m (pc + 1) ls (.int (σ 41 (tn_I w)) :: rest))) : W p l e R s m args below meth c H locs cells slots Q (F0 m pc ls (.int w :: .ref (x.2.2 93) :: rest)) := by
  obtain ⟨hx, hb, hml, hr, hlk, hown, hT⟩ := F
  obtain ⟨hP, hD, hK, hS⟩ := hw
  exact va_iald hx hb hK hP 93 0 gt_m_what rfl (ib_in hin) hdg kk
theorem as_m_what (F : fx_F p s m args meth c b n ret own) (hw : ww_P x s H locs σ) {w v : Int32} (hin : ib_I w 13 = true) (hdg : decode b pc = .ok (.iastore, 1)) (kk : ∀ (H1 : Heap) (locs1 : List Loc), ww_P x s H1 locs1 (sg_up σ 41 (tn_I w) v) → W p l e R s m args below meth c H1 locs1 cells slots Q (F0 m (pc + 1) ls (rest))) : W p l e R s m args below meth c H locs cells slots Q (F0 m pc ls (.int v :: .int w :: .ref (x.2.2 93) :: rest)) := by
  obtain ⟨hx, hb, hml, hr, hlk, hown, hT⟩ := F
  obtain ⟨hP, hD, hK, hS⟩ := hw
  refine va_iast hx hb hK hP hD hS 93 0 gt_m_what rfl (ib_in hin) hdg (fun H1 locs1 hP hD hS => ?_)
  rw [st_m_what] at hP hD
  exact kk H1 locs1 ⟨hP, hD, hK, hS⟩
theorem al_m_left (F : fx_F p s m args meth c b n ret own) (hw : ww_P x s H locs σ) {w : Int32} (hin : ib_I w 13 = true) (hdg : decode b pc = .ok (.iaload, 1)) (kk : W p l e R s m args below meth c H locs cells slots Q (F0 m (pc + 1) ls (.int (σ 42 (tn_I w)) :: rest))) : W p l e R s m args below meth c H locs cells slots Q (F0 m pc ls (.int w :: .ref (x.2.2 94) :: rest)) := by
  obtain ⟨hx, hb, hml, hr, hlk, hown, hT⟩ := F
  obtain ⟨hP, hD, hK, hS⟩ := hw
  exact va_iald hx hb hK hP 94 0 gt_m_left rfl (ib_in hin) hdg kk
theorem as_m_left (F : fx_F p s m args meth c b n ret own) (hw : ww_P x s H locs σ) {w v : Int32} (hin : ib_I w 13 = true) (hdg : decode b pc = .ok (.iastore, 1)) (kk : ∀ (H1 : Heap) (locs1 : List Loc), ww_P x s H1 locs1 (sg_up σ 42 (tn_I w) v) → W p l e R s m args below meth c H1 locs1 cells slots Q (F0 m (pc + 1) ls (rest))) : W p l e R s m args below meth c H locs cells slots Q (F0 m pc ls (.int v :: .int w :: .ref (x.2.2 94) :: rest)) := by
  obtain ⟨hx, hb, hml, hr, hlk, hown, hT⟩ := F
  obtain ⟨hP, hD, hK, hS⟩ := hw
  refine va_iast hx hb hK hP hD hS 94 0 gt_m_left rfl (ib_in hin) hdg (fun H1 locs1 hP hD hS => ?_)
  rw [st_m_left] at hP hD
  exact kk H1 locs1 ⟨hP, hD, hK, hS⟩
theorem al_m_gives (F : fx_F p s m args meth c b n ret own) (hw : ww_P x s H locs σ) {w : Int32} (hin : ib_I w 13 = true) (hdg : decode b pc = .ok (.iaload, 1)) (kk : W p l e R s m args below meth c H locs cells slots Q (F0 m (pc + 1) ls (.int (σ 43 (tn_I w)) :: rest))) : W p l e R s m args below meth c H locs cells slots Q (F0 m pc ls (.int w :: .ref (x.2.2 95) :: rest)) := by
  obtain ⟨hx, hb, hml, hr, hlk, hown, hT⟩ := F
  obtain ⟨hP, hD, hK, hS⟩ := hw
  exact va_iald hx hb hK hP 95 0 gt_m_gives rfl (ib_in hin) hdg kk
theorem as_m_gives (F : fx_F p s m args meth c b n ret own) (hw : ww_P x s H locs σ) {w v : Int32} (hin : ib_I w 13 = true) (hdg : decode b pc = .ok (.iastore, 1)) (kk : ∀ (H1 : Heap) (locs1 : List Loc), ww_P x s H1 locs1 (sg_up σ 43 (tn_I w) v) → W p l e R s m args below meth c H1 locs1 cells slots Q (F0 m (pc + 1) ls (rest))) : W p l e R s m args below meth c H locs cells slots Q (F0 m pc ls (.int v :: .int w :: .ref (x.2.2 95) :: rest)) := by
  obtain ⟨hx, hb, hml, hr, hlk, hown, hT⟩ := F
  obtain ⟨hP, hD, hK, hS⟩ := hw
  refine va_iast hx hb hK hP hD hS 95 0 gt_m_gives rfl (ib_in hin) hdg (fun H1 locs1 hP hD hS => ?_)
  rw [st_m_gives] at hP hD
  exact kk H1 locs1 ⟨hP, hD, hK, hS⟩
theorem al_m_notes (F : fx_F p s m args meth c b n ret own) (hw : ww_P x s H locs σ) {w : Int32} (hin : ib_I w 13 = true) (hdg : decode b pc = .ok (.iaload, 1)) (kk : W p l e R s m args below meth c H locs cells slots Q (F0 m (pc + 1) ls (.int (σ 44 (tn_I w)) :: rest))) : W p l e R s m args below meth c H locs cells slots Q (F0 m pc ls (.int w :: .ref (x.2.2 96) :: rest)) := by
  obtain ⟨hx, hb, hml, hr, hlk, hown, hT⟩ := F
  obtain ⟨hP, hD, hK, hS⟩ := hw
  exact va_iald hx hb hK hP 96 0 gt_m_notes rfl (ib_in hin) hdg kk
theorem as_m_notes (F : fx_F p s m args meth c b n ret own) (hw : ww_P x s H locs σ) {w v : Int32} (hin : ib_I w 13 = true) (hdg : decode b pc = .ok (.iastore, 1)) (kk : ∀ (H1 : Heap) (locs1 : List Loc), ww_P x s H1 locs1 (sg_up σ 44 (tn_I w) v) → W p l e R s m args below meth c H1 locs1 cells slots Q (F0 m (pc + 1) ls (rest))) : W p l e R s m args below meth c H locs cells slots Q (F0 m pc ls (.int v :: .int w :: .ref (x.2.2 96) :: rest)) := by
  obtain ⟨hx, hb, hml, hr, hlk, hown, hT⟩ := F
  obtain ⟨hP, hD, hK, hS⟩ := hw
  refine va_iast hx hb hK hP hD hS 96 0 gt_m_notes rfl (ib_in hin) hdg (fun H1 locs1 hP hD hS => ?_)
  rw [st_m_notes] at hP hD
  exact kk H1 locs1 ⟨hP, hD, hK, hS⟩
theorem al_m_operand (F : fx_F p s m args meth c b n ret own) (hw : ww_P x s H locs σ) {w : Int32} (hin : ib_I w 26 = true) (hdg : decode b pc = .ok (.iaload, 1)) (kk : W p l e R s m args below meth c H locs cells slots Q (F0 m (pc + 1) ls (.int (σ 45 (tn_I w)) :: rest))) : W p l e R s m args below meth c H locs cells slots Q (F0 m pc ls (.int w :: .ref (x.2.2 97) :: rest)) := by
  obtain ⟨hx, hb, hml, hr, hlk, hown, hT⟩ := F
  obtain ⟨hP, hD, hK, hS⟩ := hw
  exact va_iald hx hb hK hP 97 0 gt_m_operand rfl (ib_in hin) hdg kk
theorem as_m_operand (F : fx_F p s m args meth c b n ret own) (hw : ww_P x s H locs σ) {w v : Int32} (hin : ib_I w 26 = true) (hdg : decode b pc = .ok (.iastore, 1)) (kk : ∀ (H1 : Heap) (locs1 : List Loc), ww_P x s H1 locs1 (sg_up σ 45 (tn_I w) v) → W p l e R s m args below meth c H1 locs1 cells slots Q (F0 m (pc + 1) ls (rest))) : W p l e R s m args below meth c H locs cells slots Q (F0 m pc ls (.int v :: .int w :: .ref (x.2.2 97) :: rest)) := by
  obtain ⟨hx, hb, hml, hr, hlk, hown, hT⟩ := F
  obtain ⟨hP, hD, hK, hS⟩ := hw
  refine va_iast hx hb hK hP hD hS 97 0 gt_m_operand rfl (ib_in hin) hdg (fun H1 locs1 hP hD hS => ?_)
  rw [st_m_operand] at hP hD
  exact kk H1 locs1 ⟨hP, hD, hK, hS⟩
theorem al_m_tag (F : fx_F p s m args meth c b n ret own) (hw : ww_P x s H locs σ) {w : Int32} (hin : ib_I w 26 = true) (hdg : decode b pc = .ok (.iaload, 1)) (kk : W p l e R s m args below meth c H locs cells slots Q (F0 m (pc + 1) ls (.int (σ 46 (tn_I w)) :: rest))) : W p l e R s m args below meth c H locs cells slots Q (F0 m pc ls (.int w :: .ref (x.2.2 98) :: rest)) := by
  obtain ⟨hx, hb, hml, hr, hlk, hown, hT⟩ := F
  obtain ⟨hP, hD, hK, hS⟩ := hw
  exact va_iald hx hb hK hP 98 0 gt_m_tag rfl (ib_in hin) hdg kk
theorem as_m_tag (F : fx_F p s m args meth c b n ret own) (hw : ww_P x s H locs σ) {w v : Int32} (hin : ib_I w 26 = true) (hdg : decode b pc = .ok (.iastore, 1)) (kk : ∀ (H1 : Heap) (locs1 : List Loc), ww_P x s H1 locs1 (sg_up σ 46 (tn_I w) v) → W p l e R s m args below meth c H1 locs1 cells slots Q (F0 m (pc + 1) ls (rest))) : W p l e R s m args below meth c H locs cells slots Q (F0 m pc ls (.int v :: .int w :: .ref (x.2.2 98) :: rest)) := by
  obtain ⟨hx, hb, hml, hr, hlk, hown, hT⟩ := F
  obtain ⟨hP, hD, hK, hS⟩ := hw
  refine va_iast hx hb hK hP hD hS 98 0 gt_m_tag rfl (ib_in hin) hdg (fun H1 locs1 hP hD hS => ?_)
  rw [st_m_tag] at hP hD
  exact kk H1 locs1 ⟨hP, hD, hK, hS⟩
theorem al_m_where (F : fx_F p s m args meth c b n ret own) (hw : ww_P x s H locs σ) {w : Int32} (hin : ib_I w 13 = true) (hdg : decode b pc = .ok (.iaload, 1)) (kk : W p l e R s m args below meth c H locs cells slots Q (F0 m (pc + 1) ls (.int (σ 47 (tn_I w)) :: rest))) : W p l e R s m args below meth c H locs cells slots Q (F0 m pc ls (.int w :: .ref (x.2.2 99) :: rest)) := by
  obtain ⟨hx, hb, hml, hr, hlk, hown, hT⟩ := F
  obtain ⟨hP, hD, hK, hS⟩ := hw
  exact va_iald hx hb hK hP 99 0 gt_m_where rfl (ib_in hin) hdg kk
theorem as_m_where (F : fx_F p s m args meth c b n ret own) (hw : ww_P x s H locs σ) {w v : Int32} (hin : ib_I w 13 = true) (hdg : decode b pc = .ok (.iastore, 1)) (kk : ∀ (H1 : Heap) (locs1 : List Loc), ww_P x s H1 locs1 (sg_up σ 47 (tn_I w) v) → W p l e R s m args below meth c H1 locs1 cells slots Q (F0 m (pc + 1) ls (rest))) : W p l e R s m args below meth c H locs cells slots Q (F0 m pc ls (.int v :: .int w :: .ref (x.2.2 99) :: rest)) := by
  obtain ⟨hx, hb, hml, hr, hlk, hown, hT⟩ := F
  obtain ⟨hP, hD, hK, hS⟩ := hw
  refine va_iast hx hb hK hP hD hS 99 0 gt_m_where rfl (ib_in hin) hdg (fun H1 locs1 hP hD hS => ?_)
  rw [st_m_where] at hP hD
  exact kk H1 locs1 ⟨hP, hD, hK, hS⟩
theorem al_m_order (F : fx_F p s m args meth c b n ret own) (hw : ww_P x s H locs σ) {w : Int32} (hin : ib_I w 13 = true) (hdg : decode b pc = .ok (.iaload, 1)) (kk : W p l e R s m args below meth c H locs cells slots Q (F0 m (pc + 1) ls (.int (σ 48 (tn_I w)) :: rest))) : W p l e R s m args below meth c H locs cells slots Q (F0 m pc ls (.int w :: .ref (x.2.2 100) :: rest)) := by
  obtain ⟨hx, hb, hml, hr, hlk, hown, hT⟩ := F
  obtain ⟨hP, hD, hK, hS⟩ := hw
  exact va_iald hx hb hK hP 100 0 gt_m_order rfl (ib_in hin) hdg kk
theorem as_m_order (F : fx_F p s m args meth c b n ret own) (hw : ww_P x s H locs σ) {w v : Int32} (hin : ib_I w 13 = true) (hdg : decode b pc = .ok (.iastore, 1)) (kk : ∀ (H1 : Heap) (locs1 : List Loc), ww_P x s H1 locs1 (sg_up σ 48 (tn_I w) v) → W p l e R s m args below meth c H1 locs1 cells slots Q (F0 m (pc + 1) ls (rest))) : W p l e R s m args below meth c H locs cells slots Q (F0 m pc ls (.int v :: .int w :: .ref (x.2.2 100) :: rest)) := by
  obtain ⟨hx, hb, hml, hr, hlk, hown, hT⟩ := F
  obtain ⟨hP, hD, hK, hS⟩ := hw
  refine va_iast hx hb hK hP hD hS 100 0 gt_m_order rfl (ib_in hin) hdg (fun H1 locs1 hP hD hS => ?_)
  rw [st_m_order] at hP hD
  exact kk H1 locs1 ⟨hP, hD, hK, hS⟩
theorem al_m_taken (F : fx_F p s m args meth c b n ret own) (hw : ww_P x s H locs σ) {w : Int32} (hin : ib_I w 8 = true) (hdg : decode b pc = .ok (.baload, 1)) (kk : W p l e R s m args below meth c H locs cells slots Q (F0 m (pc + 1) ls (.int (σ 49 (tn_I w)) :: rest))) : W p l e R s m args below meth c H locs cells slots Q (F0 m pc ls (.int w :: .ref (x.2.2 101) :: rest)) := by
  obtain ⟨hx, hb, hml, hr, hlk, hown, hT⟩ := F
  obtain ⟨hP, hD, hK, hS⟩ := hw
  exact va_zald hx hb hK hP 101 1 gt_m_taken rfl (ib_in hin) hdg kk
theorem as_m_taken (F : fx_F p s m args meth c b n ret own) (hw : ww_P x s H locs σ) {w v : Int32} (hin : ib_I w 8 = true) (hn : vp_nar .boolean v = v) (hdg : decode b pc = .ok (.bastore, 1)) (kk : ∀ (H1 : Heap) (locs1 : List Loc), ww_P x s H1 locs1 (sg_up σ 49 (tn_I w) v) → W p l e R s m args below meth c H1 locs1 cells slots Q (F0 m (pc + 1) ls (rest))) : W p l e R s m args below meth c H locs cells slots Q (F0 m pc ls (.int v :: .int w :: .ref (x.2.2 101) :: rest)) := by
  obtain ⟨hx, hb, hml, hr, hlk, hown, hT⟩ := F
  obtain ⟨hP, hD, hK, hS⟩ := hw
  refine va_zast hx hb hK hP hD hS 101 1 gt_m_taken rfl (ib_in hin) hdg (fun H1 locs1 hP hD hS => ?_)
  rw [hn] at hP hD
  rw [st_m_taken] at hP hD
  exact kk H1 locs1 ⟨hP, hD, hK, hS⟩
theorem al_out (F : fx_F p s m args meth c b n ret own) (hw : ww_P x s H locs σ) {w : Int32} (hin : ib_I w 1 = true) (hdg : decode b pc = .ok (.laload, 1)) (kk : W p l e R s m args below meth c H locs cells slots Q (F0 m (pc + 1) ls (.long (σ 51 0).toInt64 :: rest))) : W p l e R s m args below meth c H locs cells slots Q (F0 m pc ls (.int w :: .ref (x.2.2 102) :: rest)) := by
  obtain ⟨hx, hb, hml, hr, hlk, hown, hT⟩ := F
  obtain ⟨hP, hD, hK, hS⟩ := hw
  have h0 : w.toNatClampNeg = 0 := by
    have := ib_lt hin
    unfold tn_I at this
    omega
  refine va_lald hx hb hK hP 102 5 gt_out rfl (ib_in hin) hdg ?_
  rw [if_pos h0]
  exact kk
theorem as_out (F : fx_F p s m args meth c b n ret own) (hw : ww_P x s H locs σ) {w : Int32} {v : Int64} (hin : ib_I w 1 = true) (hv : v.toInt32.toInt64 = v) (hdg : decode b pc = .ok (.lastore, 1)) (kk : ∀ (H1 : Heap) (locs1 : List Loc), ww_P x s H1 locs1 (sg_up σ 51 0 v.toInt32) → W p l e R s m args below meth c H1 locs1 cells slots Q (F0 m (pc + 1) ls (rest))) : W p l e R s m args below meth c H locs cells slots Q (F0 m pc ls (.long v :: .int w :: .ref (x.2.2 102) :: rest)) := by
  obtain ⟨hx, hb, hml, hr, hlk, hown, hT⟩ := F
  obtain ⟨hP, hD, hK, hS⟩ := hw
  have h0 : w.toNatClampNeg = 0 := by
    have := ib_lt hin
    unfold tn_I at this
    omega
  refine va_last hx hb hK hP hD hS 102 5 gt_out rfl (ib_in hin) hdg (fun H1 locs1 hP hD hS => ?_)
  have q9 : vp_updL (fun j => if j = 0 then (σ 51 0).toInt64 else 0) w.toNatClampNeg v = fun j => if j = 0 then v else 0 := by
    funext j
    rw [h0]
    unfold vp_updL
    by_cases hj : j = 0
    · rw [if_pos hj, if_pos hj]
    · rw [if_neg hj, if_neg hj]
      exact if_neg hj
  rw [q9, st_out v hv] at hP hD
  exact kk H1 locs1 ⟨hP, hD, hK, hS⟩
end AR
section FI
variable {p : Program} {l : Launch} {e : Env} {R : Room} {s : State} {m : MethodId} {args : Array Value} {below : List Frame} {meth : Method} {c : Code} {H : Heap} {locs : List Loc} {cells slots : Nat} {Q : State → Prop} {x : cx_T} {σ : sg_T} {b : ByteArray} {n : Nat} {ret : Option FieldType} {own : String} {pc : Nat} {ls : Array Slot} {rest : List Value}
theorem wr_INS_INS_b (F : fx_F p s m args meth c b n ret nR_INS) (hw : ww_P x s H locs σ) {i : Nat} (hi : i < 30) {v : Int32} (hdg : decode b pc = .ok (.putfield 19, 3)) (kk : ∀ (H1 : Heap) (locs1 : List Loc), ww_P x s H1 locs1 (sg_up σ 4 i v) → W p l e R s m args below meth c H1 locs1 cells slots Q (F0 m (pc + 3) ls (rest))) : W p l e R s m args below meth c H locs cells slots Q (F0 m pc ls (.int v :: .ref (x.2.2 (8 + i)) :: rest)) := by
  obtain ⟨hx, hb, hml, hr, hlk, hown, hT⟩ := F
  obtain ⟨hP, hD, hK, hS⟩ := hw
  refine va_put (D := x.1) (ci := 0) (C := nR_INS) (T := nT_INS) (N := 5) (v := .int v) (ty := .int) hx hb hT in_INS nY_INS nK_INS nM_INS hown hK hP hD hS (8 + i) (gt_INS hi) rfl 3 (by decide) (hT _ wm_88) (fun _ h9 => h9) rfl (by decide +kernel) rfl rfl (Nat.le_of_ble_eq_true rfl) hdg (fun H1 locs1 hP hD hS => ?_)
  rw [st_INS_b hi v] at hP hD
  exact kk H1 locs1 ⟨hP, hD, hK, hS⟩
theorem wr_INS_INS_n (F : fx_F p s m args meth c b n ret nR_INS) (hw : ww_P x s H locs σ) {i : Nat} (hi : i < 30) {v : Int32} (hdg : decode b pc = .ok (.putfield 22, 3)) (kk : ∀ (H1 : Heap) (locs1 : List Loc), ww_P x s H1 locs1 (sg_up σ 5 i v) → W p l e R s m args below meth c H1 locs1 cells slots Q (F0 m (pc + 3) ls (rest))) : W p l e R s m args below meth c H locs cells slots Q (F0 m pc ls (.int v :: .ref (x.2.2 (8 + i)) :: rest)) := by
  obtain ⟨hx, hb, hml, hr, hlk, hown, hT⟩ := F
  obtain ⟨hP, hD, hK, hS⟩ := hw
  refine va_put (D := x.1) (ci := 0) (C := nR_INS) (T := nT_INS) (N := 5) (v := .int v) (ty := .int) hx hb hT in_INS nY_INS nK_INS nM_INS hown hK hP hD hS (8 + i) (gt_INS hi) rfl 4 (by decide) (hT _ wm_90) (fun _ h9 => h9) rfl (by decide +kernel) rfl rfl (Nat.le_of_ble_eq_true rfl) hdg (fun H1 locs1 hP hD hS => ?_)
  rw [st_INS_n hi v] at hP hD
  exact kk H1 locs1 ⟨hP, hD, hK, hS⟩
theorem wr_INS_INS_op (F : fx_F p s m args meth c b n ret nR_INS) (hw : ww_P x s H locs σ) {i : Nat} (hi : i < 30) {v : Int32} (hdg : decode b pc = .ok (.putfield 7, 3)) (kk : ∀ (H1 : Heap) (locs1 : List Loc), ww_P x s H1 locs1 (sg_up σ 1 i v) → W p l e R s m args below meth c H1 locs1 cells slots Q (F0 m (pc + 3) ls (rest))) : W p l e R s m args below meth c H locs cells slots Q (F0 m pc ls (.int v :: .ref (x.2.2 (8 + i)) :: rest)) := by
  obtain ⟨hx, hb, hml, hr, hlk, hown, hT⟩ := F
  obtain ⟨hP, hD, hK, hS⟩ := hw
  refine va_put (D := x.1) (ci := 0) (C := nR_INS) (T := nT_INS) (N := 5) (v := .int v) (ty := .int) hx hb hT in_INS nY_INS nK_INS nM_INS hown hK hP hD hS (8 + i) (gt_INS hi) rfl 0 (by decide) (hT _ wm_82) (fun _ h9 => h9) rfl (by decide +kernel) rfl rfl (Nat.le_of_ble_eq_true rfl) hdg (fun H1 locs1 hP hD hS => ?_)
  rw [st_INS_op hi v] at hP hD
  exact kk H1 locs1 ⟨hP, hD, hK, hS⟩
theorem wr_INS_INS_r (F : fx_F p s m args meth c b n ret nR_INS) (hw : ww_P x s H locs σ) {i : Nat} (hi : i < 30) {v : Int32} (hdg : decode b pc = .ok (.putfield 13, 3)) (kk : ∀ (H1 : Heap) (locs1 : List Loc), ww_P x s H1 locs1 (sg_up σ 2 i v) → W p l e R s m args below meth c H1 locs1 cells slots Q (F0 m (pc + 3) ls (rest))) : W p l e R s m args below meth c H locs cells slots Q (F0 m pc ls (.int v :: .ref (x.2.2 (8 + i)) :: rest)) := by
  obtain ⟨hx, hb, hml, hr, hlk, hown, hT⟩ := F
  obtain ⟨hP, hD, hK, hS⟩ := hw
  refine va_put (D := x.1) (ci := 0) (C := nR_INS) (T := nT_INS) (N := 5) (v := .int v) (ty := .int) hx hb hT in_INS nY_INS nK_INS nM_INS hown hK hP hD hS (8 + i) (gt_INS hi) rfl 1 (by decide) (hT _ wm_84) (fun _ h9 => h9) rfl (by decide +kernel) rfl rfl (Nat.le_of_ble_eq_true rfl) hdg (fun H1 locs1 hP hD hS => ?_)
  rw [st_INS_r hi v] at hP hD
  exact kk H1 locs1 ⟨hP, hD, hK, hS⟩
theorem wr_INS_INS_s (F : fx_F p s m args meth c b n ret nR_INS) (hw : ww_P x s H locs σ) {i : Nat} (hi : i < 30) {v : Int32} (hdg : decode b pc = .ok (.putfield 16, 3)) (kk : ∀ (H1 : Heap) (locs1 : List Loc), ww_P x s H1 locs1 (sg_up σ 3 i v) → W p l e R s m args below meth c H1 locs1 cells slots Q (F0 m (pc + 3) ls (rest))) : W p l e R s m args below meth c H locs cells slots Q (F0 m pc ls (.int v :: .ref (x.2.2 (8 + i)) :: rest)) := by
  obtain ⟨hx, hb, hml, hr, hlk, hown, hT⟩ := F
  obtain ⟨hP, hD, hK, hS⟩ := hw
  refine va_put (D := x.1) (ci := 0) (C := nR_INS) (T := nT_INS) (N := 5) (v := .int v) (ty := .int) hx hb hT in_INS nY_INS nK_INS nM_INS hown hK hP hD hS (8 + i) (gt_INS hi) rfl 2 (by decide) (hT _ wm_86) (fun _ h9 => h9) rfl (by decide +kernel) rfl rfl (Nat.le_of_ble_eq_true rfl) hdg (fun H1 locs1 hP hD hS => ?_)
  rw [st_INS_s hi v] at hP hD
  exact kk H1 locs1 ⟨hP, hD, hK, hS⟩
theorem rd_MOD_MOD_banks (F : fx_F p s m args meth c b n ret nR_MOD) (hw : ww_P x s H locs σ) (hdg : decode b pc = .ok (.getfield 72, 3)) (kk : W p l e R s m args below meth c H locs cells slots Q (F0 m (pc + 3) ls (.int (σ 30 0) :: rest))) : W p l e R s m args below meth c H locs cells slots Q (F0 m pc ls (.ref (x.2.2 82) :: rest)) := by
  obtain ⟨hx, hb, hml, hr, hlk, hown, hT⟩ := F
  obtain ⟨hP, hD, hK, hS⟩ := hw
  exact va_get (D := x.1) (ci := 5) (C := nR_MOD) (T := nT_MOD) (N := 30) (v := .int (σ 30 0)) hx hb hT in_MOD hown hK hP 82 gt_MOD rfl 0 (by decide) (hT _ wm_586) (fun _ h9 => h9) rfl hdg kk
theorem rd_MOD_MOD_bs (F : fx_F p s m args meth c b n ret nR_MOD) (hw : ww_P x s H locs σ) (hdg : decode b pc = .ok (.getfield 19, 3)) (kk : W p l e R s m args below meth c H locs cells slots Q (F0 m (pc + 3) ls (.ref (x.2.2 86) :: rest))) : W p l e R s m args below meth c H locs cells slots Q (F0 m pc ls (.ref (x.2.2 82) :: rest)) := by
  obtain ⟨hx, hb, hml, hr, hlk, hown, hT⟩ := F
  obtain ⟨hP, hD, hK, hS⟩ := hw
  exact va_get (D := x.1) (ci := 5) (C := nR_MOD) (T := nT_MOD) (N := 30) (v := .ref (x.2.2 86)) hx hb hT in_MOD hown hK hP 82 gt_MOD rfl 7 (by decide) (hT _ wm_593) (fun _ h9 => h9) rfl hdg kk
theorem rd_MOD_MOD_cycles (F : fx_F p s m args meth c b n ret nR_MOD) (hw : ww_P x s H locs σ) (hdg : decode b pc = .ok (.getfield 197, 3)) (kk : W p l e R s m args below meth c H locs cells slots Q (F0 m (pc + 3) ls (.int (σ 30 6) :: rest))) : W p l e R s m args below meth c H locs cells slots Q (F0 m pc ls (.ref (x.2.2 82) :: rest)) := by
  obtain ⟨hx, hb, hml, hr, hlk, hown, hT⟩ := F
  obtain ⟨hP, hD, hK, hS⟩ := hw
  exact va_get (D := x.1) (ci := 5) (C := nR_MOD) (T := nT_MOD) (N := 30) (v := .int (σ 30 6)) hx hb hT in_MOD hown hK hP 82 gt_MOD rfl 12 (by decide) (hT _ wm_598) (fun _ h9 => h9) rfl hdg kk
theorem wr_MOD_MOD_cycles (F : fx_F p s m args meth c b n ret nR_MOD) (hw : ww_P x s H locs σ) {v : Int32} (hdg : decode b pc = .ok (.putfield 197, 3)) (kk : ∀ (H1 : Heap) (locs1 : List Loc), ww_P x s H1 locs1 (sg_up σ 30 6 v) → W p l e R s m args below meth c H1 locs1 cells slots Q (F0 m (pc + 3) ls (rest))) : W p l e R s m args below meth c H locs cells slots Q (F0 m pc ls (.int v :: .ref (x.2.2 82) :: rest)) := by
  obtain ⟨hx, hb, hml, hr, hlk, hown, hT⟩ := F
  obtain ⟨hP, hD, hK, hS⟩ := hw
  refine va_put (D := x.1) (ci := 5) (C := nR_MOD) (T := nT_MOD) (N := 30) (v := .int v) (ty := .int) hx hb hT in_MOD nY_MOD nK_MOD nM_MOD hown hK hP hD hS 82 gt_MOD rfl 12 (by decide) (hT _ wm_598) (fun _ h9 => h9) rfl (by decide +kernel) rfl rfl (Nat.le_of_ble_eq_true rfl) hdg (fun H1 locs1 hP hD hS => ?_)
  rw [st_MOD_cycles v] at hP hD
  exact kk H1 locs1 ⟨hP, hD, hK, hS⟩
theorem rd_MOD_MOD_exception (F : fx_F p s m args meth c b n ret nR_MOD) (hw : ww_P x s H locs σ) (hdg : decode b pc = .ok (.getfield 86, 3)) (kk : W p l e R s m args below meth c H locs cells slots Q (F0 m (pc + 3) ls (.int (σ 30 8) :: rest))) : W p l e R s m args below meth c H locs cells slots Q (F0 m pc ls (.ref (x.2.2 82) :: rest)) := by
  obtain ⟨hx, hb, hml, hr, hlk, hown, hT⟩ := F
  obtain ⟨hP, hD, hK, hS⟩ := hw
  exact va_get (D := x.1) (ci := 5) (C := nR_MOD) (T := nT_MOD) (N := 30) (v := .int (σ 30 8)) hx hb hT in_MOD hown hK hP 82 gt_MOD rfl 28 (by decide) (hT _ wm_614) (fun _ h9 => h9) rfl hdg kk
theorem wr_MOD_MOD_exception (F : fx_F p s m args meth c b n ret nR_MOD) (hw : ww_P x s H locs σ) {v : Int32} (hdg : decode b pc = .ok (.putfield 86, 3)) (kk : ∀ (H1 : Heap) (locs1 : List Loc), ww_P x s H1 locs1 (sg_up σ 30 8 v) → W p l e R s m args below meth c H1 locs1 cells slots Q (F0 m (pc + 3) ls (rest))) : W p l e R s m args below meth c H locs cells slots Q (F0 m pc ls (.int v :: .ref (x.2.2 82) :: rest)) := by
  obtain ⟨hx, hb, hml, hr, hlk, hown, hT⟩ := F
  obtain ⟨hP, hD, hK, hS⟩ := hw
  refine va_put (D := x.1) (ci := 5) (C := nR_MOD) (T := nT_MOD) (N := 30) (v := .int v) (ty := .int) hx hb hT in_MOD nY_MOD nK_MOD nM_MOD hown hK hP hD hS 82 gt_MOD rfl 28 (by decide) (hT _ wm_614) (fun _ h9 => h9) rfl (by decide +kernel) rfl rfl (Nat.le_of_ble_eq_true rfl) hdg (fun H1 locs1 hP hD hS => ?_)
  rw [st_MOD_exception v] at hP hD
  exact kk H1 locs1 ⟨hP, hD, hK, hS⟩
theorem rd_MOD_MOD_general (F : fx_F p s m args meth c b n ret nR_MOD) (hw : ww_P x s H locs σ) (hdg : decode b pc = .ok (.getfield 35, 3)) (kk : W p l e R s m args below meth c H locs cells slots Q (F0 m (pc + 3) ls (.ref (x.2.2 90) :: rest))) : W p l e R s m args below meth c H locs cells slots Q (F0 m pc ls (.ref (x.2.2 82) :: rest)) := by
  obtain ⟨hx, hb, hml, hr, hlk, hown, hT⟩ := F
  obtain ⟨hP, hD, hK, hS⟩ := hw
  exact va_get (D := x.1) (ci := 5) (C := nR_MOD) (T := nT_MOD) (N := 30) (v := .ref (x.2.2 90)) hx hb hT in_MOD hown hK hP 82 gt_MOD rfl 16 (by decide) (hT _ wm_602) (fun _ h9 => h9) rfl hdg kk
theorem rd_MOD_MOD_gives (F : fx_F p s m args meth c b n ret nR_MOD) (hw : ww_P x s H locs σ) (hdg : decode b pc = .ok (.getfield 50, 3)) (kk : W p l e R s m args below meth c H locs cells slots Q (F0 m (pc + 3) ls (.ref (x.2.2 95) :: rest))) : W p l e R s m args below meth c H locs cells slots Q (F0 m pc ls (.ref (x.2.2 82) :: rest)) := by
  obtain ⟨hx, hb, hml, hr, hlk, hown, hT⟩ := F
  obtain ⟨hP, hD, hK, hS⟩ := hw
  exact va_get (D := x.1) (ci := 5) (C := nR_MOD) (T := nT_MOD) (N := 30) (v := .ref (x.2.2 95)) hx hb hT in_MOD hown hK hP 82 gt_MOD rfl 21 (by decide) (hT _ wm_607) (fun _ h9 => h9) rfl hdg kk
theorem rd_MOD_MOD_handed (F : fx_F p s m args meth c b n ret nR_MOD) (hw : ww_P x s H locs σ) (hdg : decode b pc = .ok (.getfield 178, 3)) (kk : W p l e R s m args below meth c H locs cells slots Q (F0 m (pc + 3) ls (.int (σ 30 7) :: rest))) : W p l e R s m args below meth c H locs cells slots Q (F0 m pc ls (.ref (x.2.2 82) :: rest)) := by
  obtain ⟨hx, hb, hml, hr, hlk, hown, hT⟩ := F
  obtain ⟨hP, hD, hK, hS⟩ := hw
  exact va_get (D := x.1) (ci := 5) (C := nR_MOD) (T := nT_MOD) (N := 30) (v := .int (σ 30 7)) hx hb hT in_MOD hown hK hP 82 gt_MOD rfl 13 (by decide) (hT _ wm_599) (fun _ h9 => h9) rfl hdg kk
theorem wr_MOD_MOD_handed (F : fx_F p s m args meth c b n ret nR_MOD) (hw : ww_P x s H locs σ) {v : Int32} (hdg : decode b pc = .ok (.putfield 178, 3)) (kk : ∀ (H1 : Heap) (locs1 : List Loc), ww_P x s H1 locs1 (sg_up σ 30 7 v) → W p l e R s m args below meth c H1 locs1 cells slots Q (F0 m (pc + 3) ls (rest))) : W p l e R s m args below meth c H locs cells slots Q (F0 m pc ls (.int v :: .ref (x.2.2 82) :: rest)) := by
  obtain ⟨hx, hb, hml, hr, hlk, hown, hT⟩ := F
  obtain ⟨hP, hD, hK, hS⟩ := hw
  refine va_put (D := x.1) (ci := 5) (C := nR_MOD) (T := nT_MOD) (N := 30) (v := .int v) (ty := .int) hx hb hT in_MOD nY_MOD nK_MOD nM_MOD hown hK hP hD hS 82 gt_MOD rfl 13 (by decide) (hT _ wm_599) (fun _ h9 => h9) rfl (by decide +kernel) rfl rfl (Nat.le_of_ble_eq_true rfl) hdg (fun H1 locs1 hP hD hS => ?_)
  rw [st_MOD_handed v] at hP hD
  exact kk H1 locs1 ⟨hP, hD, hK, hS⟩
theorem rd_MOD_MOD_latency (F : fx_F p s m args meth c b n ret nR_MOD) (hw : ww_P x s H locs σ) (hdg : decode b pc = .ok (.getfield 75, 3)) (kk : W p l e R s m args below meth c H locs cells slots Q (F0 m (pc + 3) ls (.int (σ 30 1) :: rest))) : W p l e R s m args below meth c H locs cells slots Q (F0 m pc ls (.ref (x.2.2 82) :: rest)) := by
  obtain ⟨hx, hb, hml, hr, hlk, hown, hT⟩ := F
  obtain ⟨hP, hD, hK, hS⟩ := hw
  exact va_get (D := x.1) (ci := 5) (C := nR_MOD) (T := nT_MOD) (N := 30) (v := .int (σ 30 1)) hx hb hT in_MOD hown hK hP 82 gt_MOD rfl 1 (by decide) (hT _ wm_587) (fun _ h9 => h9) rfl hdg kk
theorem rd_MOD_MOD_left (F : fx_F p s m args meth c b n ret nR_MOD) (hw : ww_P x s H locs σ) (hdg : decode b pc = .ok (.getfield 47, 3)) (kk : W p l e R s m args below meth c H locs cells slots Q (F0 m (pc + 3) ls (.ref (x.2.2 94) :: rest))) : W p l e R s m args below meth c H locs cells slots Q (F0 m pc ls (.ref (x.2.2 82) :: rest)) := by
  obtain ⟨hx, hb, hml, hr, hlk, hown, hT⟩ := F
  obtain ⟨hP, hD, hK, hS⟩ := hw
  exact va_get (D := x.1) (ci := 5) (C := nR_MOD) (T := nT_MOD) (N := 30) (v := .ref (x.2.2 94)) hx hb hT in_MOD hown hK hP 82 gt_MOD rfl 20 (by decide) (hT _ wm_606) (fun _ h9 => h9) rfl hdg kk
theorem rd_MOD_MOD_many (F : fx_F p s m args meth c b n ret nR_MOD) (hw : ww_P x s H locs σ) (hdg : decode b pc = .ok (.getfield 148, 3)) (kk : W p l e R s m args below meth c H locs cells slots Q (F0 m (pc + 3) ls (.int (σ 30 2) :: rest))) : W p l e R s m args below meth c H locs cells slots Q (F0 m pc ls (.ref (x.2.2 82) :: rest)) := by
  obtain ⟨hx, hb, hml, hr, hlk, hown, hT⟩ := F
  obtain ⟨hP, hD, hK, hS⟩ := hw
  exact va_get (D := x.1) (ci := 5) (C := nR_MOD) (T := nT_MOD) (N := 30) (v := .int (σ 30 2)) hx hb hT in_MOD hown hK hP 82 gt_MOD rfl 3 (by decide) (hT _ wm_589) (fun _ h9 => h9) rfl hdg kk
theorem wr_MOD_MOD_many (F : fx_F p s m args meth c b n ret nR_MOD) (hw : ww_P x s H locs σ) {v : Int32} (hdg : decode b pc = .ok (.putfield 148, 3)) (kk : ∀ (H1 : Heap) (locs1 : List Loc), ww_P x s H1 locs1 (sg_up σ 30 2 v) → W p l e R s m args below meth c H1 locs1 cells slots Q (F0 m (pc + 3) ls (rest))) : W p l e R s m args below meth c H locs cells slots Q (F0 m pc ls (.int v :: .ref (x.2.2 82) :: rest)) := by
  obtain ⟨hx, hb, hml, hr, hlk, hown, hT⟩ := F
  obtain ⟨hP, hD, hK, hS⟩ := hw
  refine va_put (D := x.1) (ci := 5) (C := nR_MOD) (T := nT_MOD) (N := 30) (v := .int v) (ty := .int) hx hb hT in_MOD nY_MOD nK_MOD nM_MOD hown hK hP hD hS 82 gt_MOD rfl 3 (by decide) (hT _ wm_589) (fun _ h9 => h9) rfl (by decide +kernel) rfl rfl (Nat.le_of_ble_eq_true rfl) hdg (fun H1 locs1 hP hD hS => ?_)
  rw [st_MOD_many v] at hP hD
  exact kk H1 locs1 ⟨hP, hD, hK, hS⟩
theorem rd_MOD_MOD_next (F : fx_F p s m args meth c b n ret nR_MOD) (hw : ww_P x s H locs σ) (hdg : decode b pc = .ok (.getfield 155, 3)) (kk : W p l e R s m args below meth c H locs cells slots Q (F0 m (pc + 3) ls (.int (σ 30 4) :: rest))) : W p l e R s m args below meth c H locs cells slots Q (F0 m pc ls (.ref (x.2.2 82) :: rest)) := by
  obtain ⟨hx, hb, hml, hr, hlk, hown, hT⟩ := F
  obtain ⟨hP, hD, hK, hS⟩ := hw
  exact va_get (D := x.1) (ci := 5) (C := nR_MOD) (T := nT_MOD) (N := 30) (v := .int (σ 30 4)) hx hb hT in_MOD hown hK hP 82 gt_MOD rfl 10 (by decide) (hT _ wm_596) (fun _ h9 => h9) rfl hdg kk
theorem wr_MOD_MOD_next (F : fx_F p s m args meth c b n ret nR_MOD) (hw : ww_P x s H locs σ) {v : Int32} (hdg : decode b pc = .ok (.putfield 155, 3)) (kk : ∀ (H1 : Heap) (locs1 : List Loc), ww_P x s H1 locs1 (sg_up σ 30 4 v) → W p l e R s m args below meth c H1 locs1 cells slots Q (F0 m (pc + 3) ls (rest))) : W p l e R s m args below meth c H locs cells slots Q (F0 m pc ls (.int v :: .ref (x.2.2 82) :: rest)) := by
  obtain ⟨hx, hb, hml, hr, hlk, hown, hT⟩ := F
  obtain ⟨hP, hD, hK, hS⟩ := hw
  refine va_put (D := x.1) (ci := 5) (C := nR_MOD) (T := nT_MOD) (N := 30) (v := .int v) (ty := .int) hx hb hT in_MOD nY_MOD nK_MOD nM_MOD hown hK hP hD hS 82 gt_MOD rfl 10 (by decide) (hT _ wm_596) (fun _ h9 => h9) rfl (by decide +kernel) rfl rfl (Nat.le_of_ble_eq_true rfl) hdg (fun H1 locs1 hP hD hS => ?_)
  rw [st_MOD_next v] at hP hD
  exact kk H1 locs1 ⟨hP, hD, hK, hS⟩
theorem rd_MOD_MOD_noted (F : fx_F p s m args meth c b n ret nR_MOD) (hw : ww_P x s H locs σ) (hdg : decode b pc = .ok (.getfield 158, 3)) (kk : W p l e R s m args below meth c H locs cells slots Q (F0 m (pc + 3) ls (.int (σ 30 5) :: rest))) : W p l e R s m args below meth c H locs cells slots Q (F0 m pc ls (.ref (x.2.2 82) :: rest)) := by
  obtain ⟨hx, hb, hml, hr, hlk, hown, hT⟩ := F
  obtain ⟨hP, hD, hK, hS⟩ := hw
  exact va_get (D := x.1) (ci := 5) (C := nR_MOD) (T := nT_MOD) (N := 30) (v := .int (σ 30 5)) hx hb hT in_MOD hown hK hP 82 gt_MOD rfl 11 (by decide) (hT _ wm_597) (fun _ h9 => h9) rfl hdg kk
theorem wr_MOD_MOD_noted (F : fx_F p s m args meth c b n ret nR_MOD) (hw : ww_P x s H locs σ) {v : Int32} (hdg : decode b pc = .ok (.putfield 158, 3)) (kk : ∀ (H1 : Heap) (locs1 : List Loc), ww_P x s H1 locs1 (sg_up σ 30 5 v) → W p l e R s m args below meth c H1 locs1 cells slots Q (F0 m (pc + 3) ls (rest))) : W p l e R s m args below meth c H locs cells slots Q (F0 m pc ls (.int v :: .ref (x.2.2 82) :: rest)) := by
  obtain ⟨hx, hb, hml, hr, hlk, hown, hT⟩ := F
  obtain ⟨hP, hD, hK, hS⟩ := hw
  refine va_put (D := x.1) (ci := 5) (C := nR_MOD) (T := nT_MOD) (N := 30) (v := .int v) (ty := .int) hx hb hT in_MOD nY_MOD nK_MOD nM_MOD hown hK hP hD hS 82 gt_MOD rfl 11 (by decide) (hT _ wm_597) (fun _ h9 => h9) rfl (by decide +kernel) rfl rfl (Nat.le_of_ble_eq_true rfl) hdg (fun H1 locs1 hP hD hS => ?_)
  rw [st_MOD_noted v] at hP hD
  exact kk H1 locs1 ⟨hP, hD, hK, hS⟩
theorem rd_MOD_MOD_notes (F : fx_F p s m args meth c b n ret nR_MOD) (hw : ww_P x s H locs σ) (hdg : decode b pc = .ok (.getfield 53, 3)) (kk : W p l e R s m args below meth c H locs cells slots Q (F0 m (pc + 3) ls (.ref (x.2.2 96) :: rest))) : W p l e R s m args below meth c H locs cells slots Q (F0 m pc ls (.ref (x.2.2 82) :: rest)) := by
  obtain ⟨hx, hb, hml, hr, hlk, hown, hT⟩ := F
  obtain ⟨hP, hD, hK, hS⟩ := hw
  exact va_get (D := x.1) (ci := 5) (C := nR_MOD) (T := nT_MOD) (N := 30) (v := .ref (x.2.2 96)) hx hb hT in_MOD hown hK hP 82 gt_MOD rfl 22 (by decide) (hT _ wm_608) (fun _ h9 => h9) rfl hdg kk
theorem rd_MOD_MOD_ns (F : fx_F p s m args meth c b n ret nR_MOD) (hw : ww_P x s H locs σ) (hdg : decode b pc = .ok (.getfield 22, 3)) (kk : W p l e R s m args below meth c H locs cells slots Q (F0 m (pc + 3) ls (.ref (x.2.2 87) :: rest))) : W p l e R s m args below meth c H locs cells slots Q (F0 m pc ls (.ref (x.2.2 82) :: rest)) := by
  obtain ⟨hx, hb, hml, hr, hlk, hown, hT⟩ := F
  obtain ⟨hP, hD, hK, hS⟩ := hw
  exact va_get (D := x.1) (ci := 5) (C := nR_MOD) (T := nT_MOD) (N := 30) (v := .ref (x.2.2 87)) hx hb hT in_MOD hown hK hP 82 gt_MOD rfl 8 (by decide) (hT _ wm_594) (fun _ h9 => h9) rfl hdg kk
theorem rd_MOD_MOD_op (F : fx_F p s m args meth c b n ret nR_MOD) (hw : ww_P x s H locs σ) (hdg : decode b pc = .ok (.getfield 7, 3)) (kk : W p l e R s m args below meth c H locs cells slots Q (F0 m (pc + 3) ls (.ref (x.2.2 83) :: rest))) : W p l e R s m args below meth c H locs cells slots Q (F0 m pc ls (.ref (x.2.2 82) :: rest)) := by
  obtain ⟨hx, hb, hml, hr, hlk, hown, hT⟩ := F
  obtain ⟨hP, hD, hK, hS⟩ := hw
  exact va_get (D := x.1) (ci := 5) (C := nR_MOD) (T := nT_MOD) (N := 30) (v := .ref (x.2.2 83)) hx hb hT in_MOD hown hK hP 82 gt_MOD rfl 4 (by decide) (hT _ wm_590) (fun _ h9 => h9) rfl hdg kk
theorem rd_MOD_MOD_operand (F : fx_F p s m args meth c b n ret nR_MOD) (hw : ww_P x s H locs σ) (hdg : decode b pc = .ok (.getfield 56, 3)) (kk : W p l e R s m args below meth c H locs cells slots Q (F0 m (pc + 3) ls (.ref (x.2.2 97) :: rest))) : W p l e R s m args below meth c H locs cells slots Q (F0 m pc ls (.ref (x.2.2 82) :: rest)) := by
  obtain ⟨hx, hb, hml, hr, hlk, hown, hT⟩ := F
  obtain ⟨hP, hD, hK, hS⟩ := hw
  exact va_get (D := x.1) (ci := 5) (C := nR_MOD) (T := nT_MOD) (N := 30) (v := .ref (x.2.2 97)) hx hb hT in_MOD hown hK hP 82 gt_MOD rfl 23 (by decide) (hT _ wm_609) (fun _ h9 => h9) rfl hdg kk
theorem rd_MOD_MOD_order (F : fx_F p s m args meth c b n ret nR_MOD) (hw : ww_P x s H locs σ) (hdg : decode b pc = .ok (.getfield 65, 3)) (kk : W p l e R s m args below meth c H locs cells slots Q (F0 m (pc + 3) ls (.ref (x.2.2 100) :: rest))) : W p l e R s m args below meth c H locs cells slots Q (F0 m pc ls (.ref (x.2.2 82) :: rest)) := by
  obtain ⟨hx, hb, hml, hr, hlk, hown, hT⟩ := F
  obtain ⟨hP, hD, hK, hS⟩ := hw
  exact va_get (D := x.1) (ci := 5) (C := nR_MOD) (T := nT_MOD) (N := 30) (v := .ref (x.2.2 100)) hx hb hT in_MOD hown hK hP 82 gt_MOD rfl 26 (by decide) (hT _ wm_612) (fun _ h9 => h9) rfl hdg kk
theorem rd_MOD_MOD_place (F : fx_F p s m args meth c b n ret nR_MOD) (hw : ww_P x s H locs σ) (hdg : decode b pc = .ok (.getfield 41, 3)) (kk : W p l e R s m args below meth c H locs cells slots Q (F0 m (pc + 3) ls (.ref (x.2.2 92) :: rest))) : W p l e R s m args below meth c H locs cells slots Q (F0 m pc ls (.ref (x.2.2 82) :: rest)) := by
  obtain ⟨hx, hb, hml, hr, hlk, hown, hT⟩ := F
  obtain ⟨hP, hD, hK, hS⟩ := hw
  exact va_get (D := x.1) (ci := 5) (C := nR_MOD) (T := nT_MOD) (N := 30) (v := .ref (x.2.2 92)) hx hb hT in_MOD hown hK hP 82 gt_MOD rfl 18 (by decide) (hT _ wm_604) (fun _ h9 => h9) rfl hdg kk
theorem rd_MOD_MOD_rs (F : fx_F p s m args meth c b n ret nR_MOD) (hw : ww_P x s H locs σ) (hdg : decode b pc = .ok (.getfield 13, 3)) (kk : W p l e R s m args below meth c H locs cells slots Q (F0 m (pc + 3) ls (.ref (x.2.2 84) :: rest))) : W p l e R s m args below meth c H locs cells slots Q (F0 m pc ls (.ref (x.2.2 82) :: rest)) := by
  obtain ⟨hx, hb, hml, hr, hlk, hown, hT⟩ := F
  obtain ⟨hP, hD, hK, hS⟩ := hw
  exact va_get (D := x.1) (ci := 5) (C := nR_MOD) (T := nT_MOD) (N := 30) (v := .ref (x.2.2 84)) hx hb hT in_MOD hown hK hP 82 gt_MOD rfl 5 (by decide) (hT _ wm_591) (fun _ h9 => h9) rfl hdg kk
theorem rd_MOD_MOD_signed (F : fx_F p s m args meth c b n ret nR_MOD) (hw : ww_P x s H locs σ) (hdg : decode b pc = .ok (.getfield 103, 3)) (kk : W p l e R s m args below meth c H locs cells slots Q (F0 m (pc + 3) ls (.long (σ 50 0).toInt64 :: rest))) : W p l e R s m args below meth c H locs cells slots Q (F0 m pc ls (.ref (x.2.2 82) :: rest)) := by
  obtain ⟨hx, hb, hml, hr, hlk, hown, hT⟩ := F
  obtain ⟨hP, hD, hK, hS⟩ := hw
  exact va_get (D := x.1) (ci := 5) (C := nR_MOD) (T := nT_MOD) (N := 30) (v := .long (σ 50 0).toInt64) hx hb hT in_MOD hown hK hP 82 gt_MOD rfl 29 (by decide) (hT _ wm_615) (fun _ h9 => h9) rfl hdg kk
theorem wr_MOD_MOD_signed (F : fx_F p s m args meth c b n ret nR_MOD) (hw : ww_P x s H locs σ) {v : Int64} (hv : v.toInt32.toInt64 = v) (hdg : decode b pc = .ok (.putfield 103, 3)) (kk : ∀ (H1 : Heap) (locs1 : List Loc), ww_P x s H1 locs1 (sg_up σ 50 0 v.toInt32) → W p l e R s m args below meth c H1 locs1 cells slots Q (F0 m (pc + 3) ls (rest))) : W p l e R s m args below meth c H locs cells slots Q (F0 m pc ls (.long v :: .ref (x.2.2 82) :: rest)) := by
  obtain ⟨hx, hb, hml, hr, hlk, hown, hT⟩ := F
  obtain ⟨hP, hD, hK, hS⟩ := hw
  refine va_put (D := x.1) (ci := 5) (C := nR_MOD) (T := nT_MOD) (N := 30) (v := .long v) (ty := .long) hx hb hT in_MOD nY_MOD nK_MOD nM_MOD hown hK hP hD hS 82 gt_MOD rfl 29 (by decide) (hT _ wm_615) (fun _ h9 => h9) rfl (by decide +kernel) rfl rfl (Nat.le_of_ble_eq_true rfl) hdg (fun H1 locs1 hP hD hS => ?_)
  rw [st_MOD_signed v hv] at hP hD
  exact kk H1 locs1 ⟨hP, hD, hK, hS⟩
theorem rd_MOD_MOD_ss (F : fx_F p s m args meth c b n ret nR_MOD) (hw : ww_P x s H locs σ) (hdg : decode b pc = .ok (.getfield 16, 3)) (kk : W p l e R s m args below meth c H locs cells slots Q (F0 m (pc + 3) ls (.ref (x.2.2 85) :: rest))) : W p l e R s m args below meth c H locs cells slots Q (F0 m pc ls (.ref (x.2.2 82) :: rest)) := by
  obtain ⟨hx, hb, hml, hr, hlk, hown, hT⟩ := F
  obtain ⟨hP, hD, hK, hS⟩ := hw
  exact va_get (D := x.1) (ci := 5) (C := nR_MOD) (T := nT_MOD) (N := 30) (v := .ref (x.2.2 85)) hx hb hT in_MOD hown hK hP 82 gt_MOD rfl 6 (by decide) (hT _ wm_592) (fun _ h9 => h9) rfl hdg kk
theorem rd_MOD_MOD_state (F : fx_F p s m args meth c b n ret nR_MOD) (hw : ww_P x s H locs σ) (hdg : decode b pc = .ok (.getfield 25, 3)) (kk : W p l e R s m args below meth c H locs cells slots Q (F0 m (pc + 3) ls (.int (σ 30 3) :: rest))) : W p l e R s m args below meth c H locs cells slots Q (F0 m pc ls (.ref (x.2.2 82) :: rest)) := by
  obtain ⟨hx, hb, hml, hr, hlk, hown, hT⟩ := F
  obtain ⟨hP, hD, hK, hS⟩ := hw
  exact va_get (D := x.1) (ci := 5) (C := nR_MOD) (T := nT_MOD) (N := 30) (v := .int (σ 30 3)) hx hb hT in_MOD hown hK hP 82 gt_MOD rfl 9 (by decide) (hT _ wm_595) (fun _ h9 => h9) rfl hdg kk
theorem wr_MOD_MOD_state (F : fx_F p s m args meth c b n ret nR_MOD) (hw : ww_P x s H locs σ) {v : Int32} (hdg : decode b pc = .ok (.putfield 25, 3)) (kk : ∀ (H1 : Heap) (locs1 : List Loc), ww_P x s H1 locs1 (sg_up σ 30 3 v) → W p l e R s m args below meth c H1 locs1 cells slots Q (F0 m (pc + 3) ls (rest))) : W p l e R s m args below meth c H locs cells slots Q (F0 m pc ls (.int v :: .ref (x.2.2 82) :: rest)) := by
  obtain ⟨hx, hb, hml, hr, hlk, hown, hT⟩ := F
  obtain ⟨hP, hD, hK, hS⟩ := hw
  refine va_put (D := x.1) (ci := 5) (C := nR_MOD) (T := nT_MOD) (N := 30) (v := .int v) (ty := .int) hx hb hT in_MOD nY_MOD nK_MOD nM_MOD hown hK hP hD hS 82 gt_MOD rfl 9 (by decide) (hT _ wm_595) (fun _ h9 => h9) rfl (by decide +kernel) rfl rfl (Nat.le_of_ble_eq_true rfl) hdg (fun H1 locs1 hP hD hS => ?_)
  rw [st_MOD_state v] at hP hD
  exact kk H1 locs1 ⟨hP, hD, hK, hS⟩
theorem rd_MOD_MOD_tag (F : fx_F p s m args meth c b n ret nR_MOD) (hw : ww_P x s H locs σ) (hdg : decode b pc = .ok (.getfield 59, 3)) (kk : W p l e R s m args below meth c H locs cells slots Q (F0 m (pc + 3) ls (.ref (x.2.2 98) :: rest))) : W p l e R s m args below meth c H locs cells slots Q (F0 m pc ls (.ref (x.2.2 82) :: rest)) := by
  obtain ⟨hx, hb, hml, hr, hlk, hown, hT⟩ := F
  obtain ⟨hP, hD, hK, hS⟩ := hw
  exact va_get (D := x.1) (ci := 5) (C := nR_MOD) (T := nT_MOD) (N := 30) (v := .ref (x.2.2 98)) hx hb hT in_MOD hown hK hP 82 gt_MOD rfl 24 (by decide) (hT _ wm_610) (fun _ h9 => h9) rfl hdg kk
theorem rd_MOD_MOD_taken (F : fx_F p s m args meth c b n ret nR_MOD) (hw : ww_P x s H locs σ) (hdg : decode b pc = .ok (.getfield 68, 3)) (kk : W p l e R s m args below meth c H locs cells slots Q (F0 m (pc + 3) ls (.ref (x.2.2 101) :: rest))) : W p l e R s m args below meth c H locs cells slots Q (F0 m pc ls (.ref (x.2.2 82) :: rest)) := by
  obtain ⟨hx, hb, hml, hr, hlk, hown, hT⟩ := F
  obtain ⟨hP, hD, hK, hS⟩ := hw
  exact va_get (D := x.1) (ci := 5) (C := nR_MOD) (T := nT_MOD) (N := 30) (v := .ref (x.2.2 101)) hx hb hT in_MOD hown hK hP 82 gt_MOD rfl 27 (by decide) (hT _ wm_613) (fun _ h9 => h9) rfl hdg kk
theorem rd_MOD_MOD_threw (F : fx_F p s m args meth c b n ret nR_MOD) (hw : ww_P x s H locs σ) (hdg : decode b pc = .ok (.getfield 78, 3)) (kk : W p l e R s m args below meth c H locs cells slots Q (F0 m (pc + 3) ls (.int (σ 30 9) :: rest))) : W p l e R s m args below meth c H locs cells slots Q (F0 m pc ls (.ref (x.2.2 82) :: rest)) := by
  obtain ⟨hx, hb, hml, hr, hlk, hown, hT⟩ := F
  obtain ⟨hP, hD, hK, hS⟩ := hw
  exact va_get (D := x.1) (ci := 5) (C := nR_MOD) (T := nT_MOD) (N := 30) (v := .int (σ 30 9)) hx hb hT in_MOD hown hK hP 82 gt_MOD rfl 2 (by decide) (hT _ wm_588) (fun _ h9 => h9) rfl hdg kk
theorem wr_MOD_MOD_threw (F : fx_F p s m args meth c b n ret nR_MOD) (hw : ww_P x s H locs σ) {v : Int32} (hdg : decode b pc = .ok (.putfield 78, 3)) (kk : ∀ (H1 : Heap) (locs1 : List Loc), ww_P x s H1 locs1 (sg_up σ 30 9 v) → W p l e R s m args below meth c H1 locs1 cells slots Q (F0 m (pc + 3) ls (rest))) : W p l e R s m args below meth c H locs cells slots Q (F0 m pc ls (.int v :: .ref (x.2.2 82) :: rest)) := by
  obtain ⟨hx, hb, hml, hr, hlk, hown, hT⟩ := F
  obtain ⟨hP, hD, hK, hS⟩ := hw
  refine va_put (D := x.1) (ci := 5) (C := nR_MOD) (T := nT_MOD) (N := 30) (v := .int v) (ty := .int) hx hb hT in_MOD nY_MOD nK_MOD nM_MOD hown hK hP hD hS 82 gt_MOD rfl 2 (by decide) (hT _ wm_588) (fun _ h9 => h9) rfl (by decide +kernel) rfl rfl (Nat.le_of_ble_eq_true rfl) hdg (fun H1 locs1 hP hD hS => ?_)
  rw [st_MOD_threw v] at hP hD
  exact kk H1 locs1 ⟨hP, hD, hK, hS⟩
theorem rd_MOD_MOD_value (F : fx_F p s m args meth c b n ret nR_MOD) (hw : ww_P x s H locs σ) (hdg : decode b pc = .ok (.getfield 29, 3)) (kk : W p l e R s m args below meth c H locs cells slots Q (F0 m (pc + 3) ls (.ref (x.2.2 88) :: rest))) : W p l e R s m args below meth c H locs cells slots Q (F0 m pc ls (.ref (x.2.2 82) :: rest)) := by
  obtain ⟨hx, hb, hml, hr, hlk, hown, hT⟩ := F
  obtain ⟨hP, hD, hK, hS⟩ := hw
  exact va_get (D := x.1) (ci := 5) (C := nR_MOD) (T := nT_MOD) (N := 30) (v := .ref (x.2.2 88)) hx hb hT in_MOD hown hK hP 82 gt_MOD rfl 14 (by decide) (hT _ wm_600) (fun _ h9 => h9) rfl hdg kk
theorem rd_MOD_MOD_waits (F : fx_F p s m args meth c b n ret nR_MOD) (hw : ww_P x s H locs σ) (hdg : decode b pc = .ok (.getfield 32, 3)) (kk : W p l e R s m args below meth c H locs cells slots Q (F0 m (pc + 3) ls (.ref (x.2.2 89) :: rest))) : W p l e R s m args below meth c H locs cells slots Q (F0 m pc ls (.ref (x.2.2 82) :: rest)) := by
  obtain ⟨hx, hb, hml, hr, hlk, hown, hT⟩ := F
  obtain ⟨hP, hD, hK, hS⟩ := hw
  exact va_get (D := x.1) (ci := 5) (C := nR_MOD) (T := nT_MOD) (N := 30) (v := .ref (x.2.2 89)) hx hb hT in_MOD hown hK hP 82 gt_MOD rfl 15 (by decide) (hT _ wm_601) (fun _ h9 => h9) rfl hdg kk
theorem rd_MOD_MOD_what (F : fx_F p s m args meth c b n ret nR_MOD) (hw : ww_P x s H locs σ) (hdg : decode b pc = .ok (.getfield 44, 3)) (kk : W p l e R s m args below meth c H locs cells slots Q (F0 m (pc + 3) ls (.ref (x.2.2 93) :: rest))) : W p l e R s m args below meth c H locs cells slots Q (F0 m pc ls (.ref (x.2.2 82) :: rest)) := by
  obtain ⟨hx, hb, hml, hr, hlk, hown, hT⟩ := F
  obtain ⟨hP, hD, hK, hS⟩ := hw
  exact va_get (D := x.1) (ci := 5) (C := nR_MOD) (T := nT_MOD) (N := 30) (v := .ref (x.2.2 93)) hx hb hT in_MOD hown hK hP 82 gt_MOD rfl 19 (by decide) (hT _ wm_605) (fun _ h9 => h9) rfl hdg kk
theorem rd_MOD_MOD_where (F : fx_F p s m args meth c b n ret nR_MOD) (hw : ww_P x s H locs σ) (hdg : decode b pc = .ok (.getfield 62, 3)) (kk : W p l e R s m args below meth c H locs cells slots Q (F0 m (pc + 3) ls (.ref (x.2.2 99) :: rest))) : W p l e R s m args below meth c H locs cells slots Q (F0 m pc ls (.ref (x.2.2 82) :: rest)) := by
  obtain ⟨hx, hb, hml, hr, hlk, hown, hT⟩ := F
  obtain ⟨hP, hD, hK, hS⟩ := hw
  exact va_get (D := x.1) (ci := 5) (C := nR_MOD) (T := nT_MOD) (N := 30) (v := .ref (x.2.2 99)) hx hb hT in_MOD hown hK hP 82 gt_MOD rfl 25 (by decide) (hT _ wm_611) (fun _ h9 => h9) rfl hdg kk
theorem rd_MOD_MOD_words (F : fx_F p s m args meth c b n ret nR_MOD) (hw : ww_P x s H locs σ) (hdg : decode b pc = .ok (.getfield 38, 3)) (kk : W p l e R s m args below meth c H locs cells slots Q (F0 m (pc + 3) ls (.ref (x.2.2 91) :: rest))) : W p l e R s m args below meth c H locs cells slots Q (F0 m pc ls (.ref (x.2.2 82) :: rest)) := by
  obtain ⟨hx, hb, hml, hr, hlk, hown, hT⟩ := F
  obtain ⟨hP, hD, hK, hS⟩ := hw
  exact va_get (D := x.1) (ci := 5) (C := nR_MOD) (T := nT_MOD) (N := 30) (v := .ref (x.2.2 91)) hx hb hT in_MOD hown hK hP 82 gt_MOD rfl 17 (by decide) (hT _ wm_603) (fun _ h9 => h9) rfl hdg kk
theorem rd_OPD_OPD_awaited (F : fx_F p s m args meth c b n ret nR_OPD) (hw : ww_P x s H locs σ) {i : Nat} (hi : i < 31) (hdg : decode b pc = .ok (.getfield 7, 3)) (kk : W p l e R s m args below meth c H locs cells slots Q (F0 m (pc + 3) ls (.int (σ 7 i) :: rest))) : W p l e R s m args below meth c H locs cells slots Q (F0 m pc ls (.ref (x.2.2 (38 + i)) :: rest)) := by
  obtain ⟨hx, hb, hml, hr, hlk, hown, hT⟩ := F
  obtain ⟨hP, hD, hK, hS⟩ := hw
  exact va_get (D := x.1) (ci := 1) (C := nR_OPD) (T := nT_OPD) (N := 2) (v := .int (σ 7 i)) hx hb hT in_OPD hown hK hP (38 + i) (gt_OPD hi) rfl 1 (by decide) (hT _ wm_112) (fun _ h9 => h9) rfl hdg kk
theorem wr_OPD_OPD_awaited (F : fx_F p s m args meth c b n ret nR_OPD) (hw : ww_P x s H locs σ) {i : Nat} (hi : i < 31) {v : Int32} (hdg : decode b pc = .ok (.putfield 7, 3)) (kk : ∀ (H1 : Heap) (locs1 : List Loc), ww_P x s H1 locs1 (sg_up σ 7 i v) → W p l e R s m args below meth c H1 locs1 cells slots Q (F0 m (pc + 3) ls (rest))) : W p l e R s m args below meth c H locs cells slots Q (F0 m pc ls (.int v :: .ref (x.2.2 (38 + i)) :: rest)) := by
  obtain ⟨hx, hb, hml, hr, hlk, hown, hT⟩ := F
  obtain ⟨hP, hD, hK, hS⟩ := hw
  refine va_put (D := x.1) (ci := 1) (C := nR_OPD) (T := nT_OPD) (N := 2) (v := .int v) (ty := .int) hx hb hT in_OPD nY_OPD nK_OPD nM_OPD hown hK hP hD hS (38 + i) (gt_OPD hi) rfl 1 (by decide) (hT _ wm_112) (fun _ h9 => h9) rfl (by decide +kernel) rfl rfl (Nat.le_of_ble_eq_true rfl) hdg (fun H1 locs1 hP hD hS => ?_)
  rw [st_OPD_awaited hi v] at hP hD
  exact kk H1 locs1 ⟨hP, hD, hK, hS⟩
theorem rd_OPD_OPD_value (F : fx_F p s m args meth c b n ret nR_OPD) (hw : ww_P x s H locs σ) {i : Nat} (hi : i < 31) (hdg : decode b pc = .ok (.getfield 13, 3)) (kk : W p l e R s m args below meth c H locs cells slots Q (F0 m (pc + 3) ls (.int (σ 6 i) :: rest))) : W p l e R s m args below meth c H locs cells slots Q (F0 m pc ls (.ref (x.2.2 (38 + i)) :: rest)) := by
  obtain ⟨hx, hb, hml, hr, hlk, hown, hT⟩ := F
  obtain ⟨hP, hD, hK, hS⟩ := hw
  exact va_get (D := x.1) (ci := 1) (C := nR_OPD) (T := nT_OPD) (N := 2) (v := .int (σ 6 i)) hx hb hT in_OPD hown hK hP (38 + i) (gt_OPD hi) rfl 0 (by decide) (hT _ wm_110) (fun _ h9 => h9) rfl hdg kk
theorem wr_OPD_OPD_value (F : fx_F p s m args meth c b n ret nR_OPD) (hw : ww_P x s H locs σ) {i : Nat} (hi : i < 31) {v : Int32} (hdg : decode b pc = .ok (.putfield 13, 3)) (kk : ∀ (H1 : Heap) (locs1 : List Loc), ww_P x s H1 locs1 (sg_up σ 6 i v) → W p l e R s m args below meth c H1 locs1 cells slots Q (F0 m (pc + 3) ls (rest))) : W p l e R s m args below meth c H locs cells slots Q (F0 m pc ls (.int v :: .ref (x.2.2 (38 + i)) :: rest)) := by
  obtain ⟨hx, hb, hml, hr, hlk, hown, hT⟩ := F
  obtain ⟨hP, hD, hK, hS⟩ := hw
  refine va_put (D := x.1) (ci := 1) (C := nR_OPD) (T := nT_OPD) (N := 2) (v := .int v) (ty := .int) hx hb hT in_OPD nY_OPD nK_OPD nM_OPD hown hK hP hD hS (38 + i) (gt_OPD hi) rfl 0 (by decide) (hT _ wm_110) (fun _ h9 => h9) rfl (by decide +kernel) rfl rfl (Nat.le_of_ble_eq_true rfl) hdg (fun H1 locs1 hP hD hS => ?_)
  rw [st_OPD_value hi v] at hP hD
  exact kk H1 locs1 ⟨hP, hD, hK, hS⟩
theorem wr_REC_REC_raised (F : fx_F p s m args meth c b n ret nR_REC) (hw : ww_P x s H locs σ) {v : Int32} (hdg : decode b pc = .ok (.putfield 9, 3)) (kk : ∀ (H1 : Heap) (locs1 : List Loc), ww_P x s H1 locs1 (sg_up σ 20 1 v) → W p l e R s m args below meth c H1 locs1 cells slots Q (F0 m (pc + 3) ls (rest))) : W p l e R s m args below meth c H locs cells slots Q (F0 m pc ls (.int v :: .ref (x.2.2 7) :: rest)) := by
  obtain ⟨hx, hb, hml, hr, hlk, hown, hT⟩ := F
  obtain ⟨hP, hD, hK, hS⟩ := hw
  refine va_put (D := x.1) (ci := 2) (C := nR_REC) (T := nT_REC) (N := 2) (v := .int v) (ty := .int) hx hb hT in_REC nY_REC nK_REC nM_REC hown hK hP hD hS 7 gt_REC rfl 1 (by decide) (hT _ wm_173) (fun _ h9 => h9) rfl (by decide +kernel) rfl rfl (Nat.le_of_ble_eq_true rfl) hdg (fun H1 locs1 hP hD hS => ?_)
  rw [st_REC_raised v] at hP hD
  exact kk H1 locs1 ⟨hP, hD, hK, hS⟩
theorem wr_REC_REC_result (F : fx_F p s m args meth c b n ret nR_REC) (hw : ww_P x s H locs σ) {v : Int32} (hdg : decode b pc = .ok (.putfield 39, 3)) (kk : ∀ (H1 : Heap) (locs1 : List Loc), ww_P x s H1 locs1 (sg_up σ 20 0 v) → W p l e R s m args below meth c H1 locs1 cells slots Q (F0 m (pc + 3) ls (rest))) : W p l e R s m args below meth c H locs cells slots Q (F0 m pc ls (.int v :: .ref (x.2.2 7) :: rest)) := by
  obtain ⟨hx, hb, hml, hr, hlk, hown, hT⟩ := F
  obtain ⟨hP, hD, hK, hS⟩ := hw
  refine va_put (D := x.1) (ci := 2) (C := nR_REC) (T := nT_REC) (N := 2) (v := .int v) (ty := .int) hx hb hT in_REC nY_REC nK_REC nM_REC hown hK hP hD hS 7 gt_REC rfl 0 (by decide) (hT _ wm_171) (fun _ h9 => h9) rfl (by decide +kernel) rfl rfl (Nat.le_of_ble_eq_true rfl) hdg (fun H1 locs1 hP hD hS => ?_)
  rw [st_REC_result v] at hP hD
  exact kk H1 locs1 ⟨hP, hD, hK, hS⟩
theorem rd_TM_INS_b (F : fx_F p s m args meth c b n ret nR_TM) (hw : ww_P x s H locs σ) {i : Nat} (hi : i < 30) (hdg : decode b pc = .ok (.getfield 231, 3)) (kk : W p l e R s m args below meth c H locs cells slots Q (F0 m (pc + 3) ls (.int (σ 4 i) :: rest))) : W p l e R s m args below meth c H locs cells slots Q (F0 m pc ls (.ref (x.2.2 (8 + i)) :: rest)) := by
  obtain ⟨hx, hb, hml, hr, hlk, hown, hT⟩ := F
  obtain ⟨hP, hD, hK, hS⟩ := hw
  exact va_get (D := x.1) (ci := 0) (C := nR_INS) (T := nT_INS) (N := 5) (v := .int (σ 4 i)) hx hb hT in_INS hown hK hP (8 + i) (gt_INS hi) rfl 3 (by decide) (hT _ wm_89) (fun _ h9 => h9) rfl hdg kk
theorem rd_TM_INS_n (F : fx_F p s m args meth c b n ret nR_TM) (hw : ww_P x s H locs σ) {i : Nat} (hi : i < 30) (hdg : decode b pc = .ok (.getfield 234, 3)) (kk : W p l e R s m args below meth c H locs cells slots Q (F0 m (pc + 3) ls (.int (σ 5 i) :: rest))) : W p l e R s m args below meth c H locs cells slots Q (F0 m pc ls (.ref (x.2.2 (8 + i)) :: rest)) := by
  obtain ⟨hx, hb, hml, hr, hlk, hown, hT⟩ := F
  obtain ⟨hP, hD, hK, hS⟩ := hw
  exact va_get (D := x.1) (ci := 0) (C := nR_INS) (T := nT_INS) (N := 5) (v := .int (σ 5 i)) hx hb hT in_INS hown hK hP (8 + i) (gt_INS hi) rfl 4 (by decide) (hT _ wm_91) (fun _ h9 => h9) rfl hdg kk
theorem rd_TM_INS_op (F : fx_F p s m args meth c b n ret nR_TM) (hw : ww_P x s H locs σ) {i : Nat} (hi : i < 30) (hdg : decode b pc = .ok (.getfield 220, 3)) (kk : W p l e R s m args below meth c H locs cells slots Q (F0 m (pc + 3) ls (.int (σ 1 i) :: rest))) : W p l e R s m args below meth c H locs cells slots Q (F0 m pc ls (.ref (x.2.2 (8 + i)) :: rest)) := by
  obtain ⟨hx, hb, hml, hr, hlk, hown, hT⟩ := F
  obtain ⟨hP, hD, hK, hS⟩ := hw
  exact va_get (D := x.1) (ci := 0) (C := nR_INS) (T := nT_INS) (N := 5) (v := .int (σ 1 i)) hx hb hT in_INS hown hK hP (8 + i) (gt_INS hi) rfl 0 (by decide) (hT _ wm_83) (fun _ h9 => h9) rfl hdg kk
theorem rd_TM_INS_r (F : fx_F p s m args meth c b n ret nR_TM) (hw : ww_P x s H locs σ) {i : Nat} (hi : i < 30) (hdg : decode b pc = .ok (.getfield 243, 3)) (kk : W p l e R s m args below meth c H locs cells slots Q (F0 m (pc + 3) ls (.int (σ 2 i) :: rest))) : W p l e R s m args below meth c H locs cells slots Q (F0 m pc ls (.ref (x.2.2 (8 + i)) :: rest)) := by
  obtain ⟨hx, hb, hml, hr, hlk, hown, hT⟩ := F
  obtain ⟨hP, hD, hK, hS⟩ := hw
  exact va_get (D := x.1) (ci := 0) (C := nR_INS) (T := nT_INS) (N := 5) (v := .int (σ 2 i)) hx hb hT in_INS hown hK hP (8 + i) (gt_INS hi) rfl 1 (by decide) (hT _ wm_85) (fun _ h9 => h9) rfl hdg kk
theorem rd_TM_INS_s (F : fx_F p s m args meth c b n ret nR_TM) (hw : ww_P x s H locs σ) {i : Nat} (hi : i < 30) (hdg : decode b pc = .ok (.getfield 253, 3)) (kk : W p l e R s m args below meth c H locs cells slots Q (F0 m (pc + 3) ls (.int (σ 3 i) :: rest))) : W p l e R s m args below meth c H locs cells slots Q (F0 m pc ls (.ref (x.2.2 (8 + i)) :: rest)) := by
  obtain ⟨hx, hb, hml, hr, hlk, hown, hT⟩ := F
  obtain ⟨hP, hD, hK, hS⟩ := hw
  exact va_get (D := x.1) (ci := 0) (C := nR_INS) (T := nT_INS) (N := 5) (v := .int (σ 3 i)) hx hb hT in_INS hown hK hP (8 + i) (gt_INS hi) rfl 2 (by decide) (hT _ wm_87) (fun _ h9 => h9) rfl hdg kk
theorem rd_TM_OPD_awaited (F : fx_F p s m args meth c b n ret nR_TM) (hw : ww_P x s H locs σ) {i : Nat} (hi : i < 31) (hdg : decode b pc = .ok (.getfield 123, 3)) (kk : W p l e R s m args below meth c H locs cells slots Q (F0 m (pc + 3) ls (.int (σ 7 i) :: rest))) : W p l e R s m args below meth c H locs cells slots Q (F0 m pc ls (.ref (x.2.2 (38 + i)) :: rest)) := by
  obtain ⟨hx, hb, hml, hr, hlk, hown, hT⟩ := F
  obtain ⟨hP, hD, hK, hS⟩ := hw
  exact va_get (D := x.1) (ci := 1) (C := nR_OPD) (T := nT_OPD) (N := 2) (v := .int (σ 7 i)) hx hb hT in_OPD hown hK hP (38 + i) (gt_OPD hi) rfl 1 (by decide) (hT _ wm_113) (fun _ h9 => h9) rfl hdg kk
theorem rd_TM_OPD_value (F : fx_F p s m args meth c b n ret nR_TM) (hw : ww_P x s H locs σ) {i : Nat} (hi : i < 31) (hdg : decode b pc = .ok (.getfield 120, 3)) (kk : W p l e R s m args below meth c H locs cells slots Q (F0 m (pc + 3) ls (.int (σ 6 i) :: rest))) : W p l e R s m args below meth c H locs cells slots Q (F0 m pc ls (.ref (x.2.2 (38 + i)) :: rest)) := by
  obtain ⟨hx, hb, hml, hr, hlk, hown, hT⟩ := F
  obtain ⟨hP, hD, hK, hS⟩ := hw
  exact va_get (D := x.1) (ci := 1) (C := nR_OPD) (T := nT_OPD) (N := 2) (v := .int (σ 6 i)) hx hb hT in_OPD hown hK hP (38 + i) (gt_OPD hi) rfl 0 (by decide) (hT _ wm_111) (fun _ h9 => h9) rfl hdg kk
theorem rd_TM_REC_raised (F : fx_F p s m args meth c b n ret nR_TM) (hw : ww_P x s H locs σ) (hdg : decode b pc = .ok (.getfield 117, 3)) (kk : W p l e R s m args below meth c H locs cells slots Q (F0 m (pc + 3) ls (.int (σ 20 1) :: rest))) : W p l e R s m args below meth c H locs cells slots Q (F0 m pc ls (.ref (x.2.2 7) :: rest)) := by
  obtain ⟨hx, hb, hml, hr, hlk, hown, hT⟩ := F
  obtain ⟨hP, hD, hK, hS⟩ := hw
  exact va_get (D := x.1) (ci := 2) (C := nR_REC) (T := nT_REC) (N := 2) (v := .int (σ 20 1)) hx hb hT in_REC hown hK hP 7 gt_REC rfl 1 (by decide) (hT _ wm_174) (fun _ h9 => h9) rfl hdg kk
theorem rd_TM_REC_result (F : fx_F p s m args meth c b n ret nR_TM) (hw : ww_P x s H locs σ) (hdg : decode b pc = .ok (.getfield 114, 3)) (kk : W p l e R s m args below meth c H locs cells slots Q (F0 m (pc + 3) ls (.int (σ 20 0) :: rest))) : W p l e R s m args below meth c H locs cells slots Q (F0 m pc ls (.ref (x.2.2 7) :: rest)) := by
  obtain ⟨hx, hb, hml, hr, hlk, hown, hT⟩ := F
  obtain ⟨hP, hD, hK, hS⟩ := hw
  exact va_get (D := x.1) (ci := 2) (C := nR_REC) (T := nT_REC) (N := 2) (v := .int (σ 20 0)) hx hb hT in_REC hown hK hP 7 gt_REC rfl 0 (by decide) (hT _ wm_172) (fun _ h9 => h9) rfl hdg kk
theorem rd_TM_TM_bankInUse (F : fx_F p s m args meth c b n ret nR_TM) (hw : ww_P x s H locs σ) (hdg : decode b pc = .ok (.getfield 53, 3)) (kk : W p l e R s m args below meth c H locs cells slots Q (F0 m (pc + 3) ls (.ref (x.2.2 6) :: rest))) : W p l e R s m args below meth c H locs cells slots Q (F0 m pc ls (.ref (x.2.2 0) :: rest)) := by
  obtain ⟨hx, hb, hml, hr, hlk, hown, hT⟩ := F
  obtain ⟨hP, hD, hK, hS⟩ := hw
  exact va_get (D := x.1) (ci := 4) (C := nR_TM) (T := nT_TM) (N := 15) (v := .ref (x.2.2 6)) hx hb hT in_TM hown hK hP 0 gt_TM rfl 7 (by decide) (hT _ wm_189) (fun _ h9 => h9) rfl hdg kk
theorem rd_TM_TM_banks (F : fx_F p s m args meth c b n ret nR_TM) (hw : ww_P x s H locs σ) (hdg : decode b pc = .ok (.getfield 18, 3)) (kk : W p l e R s m args below meth c H locs cells slots Q (F0 m (pc + 3) ls (.int (σ 0 0) :: rest))) : W p l e R s m args below meth c H locs cells slots Q (F0 m pc ls (.ref (x.2.2 0) :: rest)) := by
  obtain ⟨hx, hb, hml, hr, hlk, hown, hT⟩ := F
  obtain ⟨hP, hD, hK, hS⟩ := hw
  exact va_get (D := x.1) (ci := 4) (C := nR_TM) (T := nT_TM) (N := 15) (v := .int (σ 0 0)) hx hb hT in_TM hown hK hP 0 gt_TM rfl 0 (by decide) (hT _ wm_182) (fun _ h9 => h9) rfl hdg kk
theorem rd_TM_TM_cycles (F : fx_F p s m args meth c b n ret nR_TM) (hw : ww_P x s H locs σ) (hdg : decode b pc = .ok (.getfield 129, 3)) (kk : W p l e R s m args below meth c H locs cells slots Q (F0 m (pc + 3) ls (.int (σ 0 6) :: rest))) : W p l e R s m args below meth c H locs cells slots Q (F0 m pc ls (.ref (x.2.2 0) :: rest)) := by
  obtain ⟨hx, hb, hml, hr, hlk, hown, hT⟩ := F
  obtain ⟨hP, hD, hK, hS⟩ := hw
  exact va_get (D := x.1) (ci := 4) (C := nR_TM) (T := nT_TM) (N := 15) (v := .int (σ 0 6)) hx hb hT in_TM hown hK hP 0 gt_TM rfl 13 (by decide) (hT _ wm_195) (fun _ h9 => h9) rfl hdg kk
theorem wr_TM_TM_cycles (F : fx_F p s m args meth c b n ret nR_TM) (hw : ww_P x s H locs σ) {v : Int32} (hdg : decode b pc = .ok (.putfield 129, 3)) (kk : ∀ (H1 : Heap) (locs1 : List Loc), ww_P x s H1 locs1 (sg_up σ 0 6 v) → W p l e R s m args below meth c H1 locs1 cells slots Q (F0 m (pc + 3) ls (rest))) : W p l e R s m args below meth c H locs cells slots Q (F0 m pc ls (.int v :: .ref (x.2.2 0) :: rest)) := by
  obtain ⟨hx, hb, hml, hr, hlk, hown, hT⟩ := F
  obtain ⟨hP, hD, hK, hS⟩ := hw
  refine va_put (D := x.1) (ci := 4) (C := nR_TM) (T := nT_TM) (N := 15) (v := .int v) (ty := .int) hx hb hT in_TM nY_TM nK_TM nM_TM hown hK hP hD hS 0 gt_TM rfl 13 (by decide) (hT _ wm_195) (fun _ h9 => h9) rfl (by decide +kernel) rfl rfl (Nat.le_of_ble_eq_true rfl) hdg (fun H1 locs1 hP hD hS => ?_)
  rw [st_TM_cycles v] at hP hD
  exact kk H1 locs1 ⟨hP, hD, hK, hS⟩
theorem rd_TM_TM_handedOut (F : fx_F p s m args meth c b n ret nR_TM) (hw : ww_P x s H locs σ) (hdg : decode b pc = .ok (.getfield 132, 3)) (kk : W p l e R s m args below meth c H locs cells slots Q (F0 m (pc + 3) ls (.int (σ 0 7) :: rest))) : W p l e R s m args below meth c H locs cells slots Q (F0 m pc ls (.ref (x.2.2 0) :: rest)) := by
  obtain ⟨hx, hb, hml, hr, hlk, hown, hT⟩ := F
  obtain ⟨hP, hD, hK, hS⟩ := hw
  exact va_get (D := x.1) (ci := 4) (C := nR_TM) (T := nT_TM) (N := 15) (v := .int (σ 0 7)) hx hb hT in_TM hown hK hP 0 gt_TM rfl 14 (by decide) (hT _ wm_196) (fun _ h9 => h9) rfl hdg kk
theorem wr_TM_TM_handedOut (F : fx_F p s m args meth c b n ret nR_TM) (hw : ww_P x s H locs σ) {v : Int32} (hdg : decode b pc = .ok (.putfield 132, 3)) (kk : ∀ (H1 : Heap) (locs1 : List Loc), ww_P x s H1 locs1 (sg_up σ 0 7 v) → W p l e R s m args below meth c H1 locs1 cells slots Q (F0 m (pc + 3) ls (rest))) : W p l e R s m args below meth c H locs cells slots Q (F0 m pc ls (.int v :: .ref (x.2.2 0) :: rest)) := by
  obtain ⟨hx, hb, hml, hr, hlk, hown, hT⟩ := F
  obtain ⟨hP, hD, hK, hS⟩ := hw
  refine va_put (D := x.1) (ci := 4) (C := nR_TM) (T := nT_TM) (N := 15) (v := .int v) (ty := .int) hx hb hT in_TM nY_TM nK_TM nM_TM hown hK hP hD hS 0 gt_TM rfl 14 (by decide) (hT _ wm_196) (fun _ h9 => h9) rfl (by decide +kernel) rfl rfl (Nat.le_of_ble_eq_true rfl) hdg (fun H1 locs1 hP hD hS => ?_)
  rw [st_TM_handedOut v] at hP hD
  exact kk H1 locs1 ⟨hP, hD, hK, hS⟩
theorem rd_TM_TM_instructions (F : fx_F p s m args meth c b n ret nR_TM) (hw : ww_P x s H locs σ) (hdg : decode b pc = .ok (.getfield 74, 3)) (kk : W p l e R s m args below meth c H locs cells slots Q (F0 m (pc + 3) ls (.int (σ 0 2) :: rest))) : W p l e R s m args below meth c H locs cells slots Q (F0 m pc ls (.ref (x.2.2 0) :: rest)) := by
  obtain ⟨hx, hb, hml, hr, hlk, hown, hT⟩ := F
  obtain ⟨hP, hD, hK, hS⟩ := hw
  exact va_get (D := x.1) (ci := 4) (C := nR_TM) (T := nT_TM) (N := 15) (v := .int (σ 0 2)) hx hb hT in_TM hown hK hP 0 gt_TM rfl 9 (by decide) (hT _ wm_191) (fun _ h9 => h9) rfl hdg kk
theorem wr_TM_TM_instructions (F : fx_F p s m args meth c b n ret nR_TM) (hw : ww_P x s H locs σ) {v : Int32} (hdg : decode b pc = .ok (.putfield 74, 3)) (kk : ∀ (H1 : Heap) (locs1 : List Loc), ww_P x s H1 locs1 (sg_up σ 0 2 v) → W p l e R s m args below meth c H1 locs1 cells slots Q (F0 m (pc + 3) ls (rest))) : W p l e R s m args below meth c H locs cells slots Q (F0 m pc ls (.int v :: .ref (x.2.2 0) :: rest)) := by
  obtain ⟨hx, hb, hml, hr, hlk, hown, hT⟩ := F
  obtain ⟨hP, hD, hK, hS⟩ := hw
  refine va_put (D := x.1) (ci := 4) (C := nR_TM) (T := nT_TM) (N := 15) (v := .int v) (ty := .int) hx hb hT in_TM nY_TM nK_TM nM_TM hown hK hP hD hS 0 gt_TM rfl 9 (by decide) (hT _ wm_191) (fun _ h9 => h9) rfl (by decide +kernel) rfl rfl (Nat.le_of_ble_eq_true rfl) hdg (fun H1 locs1 hP hD hS => ?_)
  rw [st_TM_instructions v] at hP hD
  exact kk H1 locs1 ⟨hP, hD, hK, hS⟩
theorem rd_TM_TM_integers (F : fx_F p s m args meth c b n ret nR_TM) (hw : ww_P x s H locs σ) (hdg : decode b pc = .ok (.getfield 46, 3)) (kk : W p l e R s m args below meth c H locs cells slots Q (F0 m (pc + 3) ls (.ref (x.2.2 3) :: rest))) : W p l e R s m args below meth c H locs cells slots Q (F0 m pc ls (.ref (x.2.2 0) :: rest)) := by
  obtain ⟨hx, hb, hml, hr, hlk, hown, hT⟩ := F
  obtain ⟨hP, hD, hK, hS⟩ := hw
  exact va_get (D := x.1) (ci := 4) (C := nR_TM) (T := nT_TM) (N := 15) (v := .ref (x.2.2 3)) hx hb hT in_TM hown hK hP 0 gt_TM rfl 4 (by decide) (hT _ wm_186) (fun _ h9 => h9) rfl hdg kk
theorem rd_TM_TM_latency (F : fx_F p s m args meth c b n ret nR_TM) (hw : ww_P x s H locs σ) (hdg : decode b pc = .ok (.getfield 22, 3)) (kk : W p l e R s m args below meth c H locs cells slots Q (F0 m (pc + 3) ls (.int (σ 0 1) :: rest))) : W p l e R s m args below meth c H locs cells slots Q (F0 m pc ls (.ref (x.2.2 0) :: rest)) := by
  obtain ⟨hx, hb, hml, hr, hlk, hown, hT⟩ := F
  obtain ⟨hP, hD, hK, hS⟩ := hw
  exact va_get (D := x.1) (ci := 4) (C := nR_TM) (T := nT_TM) (N := 15) (v := .int (σ 0 1)) hx hb hT in_TM hown hK hP 0 gt_TM rfl 1 (by decide) (hT _ wm_183) (fun _ h9 => h9) rfl hdg kk
theorem rd_TM_TM_mode (F : fx_F p s m args meth c b n ret nR_TM) (hw : ww_P x s H locs σ) (hdg : decode b pc = .ok (.getfield 64, 3)) (kk : W p l e R s m args below meth c H locs cells slots Q (F0 m (pc + 3) ls (.int (σ 0 3) :: rest))) : W p l e R s m args below meth c H locs cells slots Q (F0 m pc ls (.ref (x.2.2 0) :: rest)) := by
  obtain ⟨hx, hb, hml, hr, hlk, hown, hT⟩ := F
  obtain ⟨hP, hD, hK, hS⟩ := hw
  exact va_get (D := x.1) (ci := 4) (C := nR_TM) (T := nT_TM) (N := 15) (v := .int (σ 0 3)) hx hb hT in_TM hown hK hP 0 gt_TM rfl 10 (by decide) (hT _ wm_192) (fun _ h9 => h9) rfl hdg kk
theorem wr_TM_TM_mode (F : fx_F p s m args meth c b n ret nR_TM) (hw : ww_P x s H locs σ) {v : Int32} (hdg : decode b pc = .ok (.putfield 64, 3)) (kk : ∀ (H1 : Heap) (locs1 : List Loc), ww_P x s H1 locs1 (sg_up σ 0 3 v) → W p l e R s m args below meth c H1 locs1 cells slots Q (F0 m (pc + 3) ls (rest))) : W p l e R s m args below meth c H locs cells slots Q (F0 m pc ls (.int v :: .ref (x.2.2 0) :: rest)) := by
  obtain ⟨hx, hb, hml, hr, hlk, hown, hT⟩ := F
  obtain ⟨hP, hD, hK, hS⟩ := hw
  refine va_put (D := x.1) (ci := 4) (C := nR_TM) (T := nT_TM) (N := 15) (v := .int v) (ty := .int) hx hb hT in_TM nY_TM nK_TM nM_TM hown hK hP hD hS 0 gt_TM rfl 10 (by decide) (hT _ wm_192) (fun _ h9 => h9) rfl (by decide +kernel) rfl rfl (Nat.le_of_ble_eq_true rfl) hdg (fun H1 locs1 hP hD hS => ?_)
  rw [st_TM_mode v] at hP hD
  exact kk H1 locs1 ⟨hP, hD, hK, hS⟩
theorem rd_TM_TM_next (F : fx_F p s m args meth c b n ret nR_TM) (hw : ww_P x s H locs σ) (hdg : decode b pc = .ok (.getfield 91, 3)) (kk : W p l e R s m args below meth c H locs cells slots Q (F0 m (pc + 3) ls (.int (σ 0 4) :: rest))) : W p l e R s m args below meth c H locs cells slots Q (F0 m pc ls (.ref (x.2.2 0) :: rest)) := by
  obtain ⟨hx, hb, hml, hr, hlk, hown, hT⟩ := F
  obtain ⟨hP, hD, hK, hS⟩ := hw
  exact va_get (D := x.1) (ci := 4) (C := nR_TM) (T := nT_TM) (N := 15) (v := .int (σ 0 4)) hx hb hT in_TM hown hK hP 0 gt_TM rfl 11 (by decide) (hT _ wm_193) (fun _ h9 => h9) rfl hdg kk
theorem wr_TM_TM_next (F : fx_F p s m args meth c b n ret nR_TM) (hw : ww_P x s H locs σ) {v : Int32} (hdg : decode b pc = .ok (.putfield 91, 3)) (kk : ∀ (H1 : Heap) (locs1 : List Loc), ww_P x s H1 locs1 (sg_up σ 0 4 v) → W p l e R s m args below meth c H1 locs1 cells slots Q (F0 m (pc + 3) ls (rest))) : W p l e R s m args below meth c H locs cells slots Q (F0 m pc ls (.int v :: .ref (x.2.2 0) :: rest)) := by
  obtain ⟨hx, hb, hml, hr, hlk, hown, hT⟩ := F
  obtain ⟨hP, hD, hK, hS⟩ := hw
  refine va_put (D := x.1) (ci := 4) (C := nR_TM) (T := nT_TM) (N := 15) (v := .int v) (ty := .int) hx hb hT in_TM nY_TM nK_TM nM_TM hown hK hP hD hS 0 gt_TM rfl 11 (by decide) (hT _ wm_193) (fun _ h9 => h9) rfl (by decide +kernel) rfl rfl (Nat.le_of_ble_eq_true rfl) hdg (fun H1 locs1 hP hD hS => ?_)
  rw [st_TM_next v] at hP hD
  exact kk H1 locs1 ⟨hP, hD, hK, hS⟩
theorem rd_TM_TM_noted (F : fx_F p s m args meth c b n ret nR_TM) (hw : ww_P x s H locs σ) (hdg : decode b pc = .ok (.getfield 94, 3)) (kk : W p l e R s m args below meth c H locs cells slots Q (F0 m (pc + 3) ls (.int (σ 0 5) :: rest))) : W p l e R s m args below meth c H locs cells slots Q (F0 m pc ls (.ref (x.2.2 0) :: rest)) := by
  obtain ⟨hx, hb, hml, hr, hlk, hown, hT⟩ := F
  obtain ⟨hP, hD, hK, hS⟩ := hw
  exact va_get (D := x.1) (ci := 4) (C := nR_TM) (T := nT_TM) (N := 15) (v := .int (σ 0 5)) hx hb hT in_TM hown hK hP 0 gt_TM rfl 12 (by decide) (hT _ wm_194) (fun _ h9 => h9) rfl hdg kk
theorem wr_TM_TM_noted (F : fx_F p s m args meth c b n ret nR_TM) (hw : ww_P x s H locs σ) {v : Int32} (hdg : decode b pc = .ok (.putfield 94, 3)) (kk : ∀ (H1 : Heap) (locs1 : List Loc), ww_P x s H1 locs1 (sg_up σ 0 5 v) → W p l e R s m args below meth c H1 locs1 cells slots Q (F0 m (pc + 3) ls (rest))) : W p l e R s m args below meth c H locs cells slots Q (F0 m pc ls (.int v :: .ref (x.2.2 0) :: rest)) := by
  obtain ⟨hx, hb, hml, hr, hlk, hown, hT⟩ := F
  obtain ⟨hP, hD, hK, hS⟩ := hw
  refine va_put (D := x.1) (ci := 4) (C := nR_TM) (T := nT_TM) (N := 15) (v := .int v) (ty := .int) hx hb hT in_TM nY_TM nK_TM nM_TM hown hK hP hD hS 0 gt_TM rfl 12 (by decide) (hT _ wm_194) (fun _ h9 => h9) rfl (by decide +kernel) rfl rfl (Nat.le_of_ble_eq_true rfl) hdg (fun H1 locs1 hP hD hS => ?_)
  rw [st_TM_noted v] at hP hD
  exact kk H1 locs1 ⟨hP, hD, hK, hS⟩
theorem rd_TM_TM_program (F : fx_F p s m args meth c b n ret nR_TM) (hw : ww_P x s H locs σ) (hdg : decode b pc = .ok (.getfield 27, 3)) (kk : W p l e R s m args below meth c H locs cells slots Q (F0 m (pc + 3) ls (.ref (x.2.2 1) :: rest))) : W p l e R s m args below meth c H locs cells slots Q (F0 m pc ls (.ref (x.2.2 0) :: rest)) := by
  obtain ⟨hx, hb, hml, hr, hlk, hown, hT⟩ := F
  obtain ⟨hP, hD, hK, hS⟩ := hw
  exact va_get (D := x.1) (ci := 4) (C := nR_TM) (T := nT_TM) (N := 15) (v := .ref (x.2.2 1)) hx hb hT in_TM hown hK hP 0 gt_TM rfl 2 (by decide) (hT _ wm_184) (fun _ h9 => h9) rfl hdg kk
theorem rd_TM_TM_reckoner (F : fx_F p s m args meth c b n ret nR_TM) (hw : ww_P x s H locs σ) (hdg : decode b pc = .ok (.getfield 60, 3)) (kk : W p l e R s m args below meth c H locs cells slots Q (F0 m (pc + 3) ls (.ref (x.2.2 7) :: rest))) : W p l e R s m args below meth c H locs cells slots Q (F0 m pc ls (.ref (x.2.2 0) :: rest)) := by
  obtain ⟨hx, hb, hml, hr, hlk, hown, hT⟩ := F
  obtain ⟨hP, hD, hK, hS⟩ := hw
  exact va_get (D := x.1) (ci := 4) (C := nR_TM) (T := nT_TM) (N := 15) (v := .ref (x.2.2 7)) hx hb hT in_TM hown hK hP 0 gt_TM rfl 8 (by decide) (hT _ wm_190) (fun _ h9 => h9) rfl hdg kk
theorem rd_TM_TM_registers (F : fx_F p s m args meth c b n ret nR_TM) (hw : ww_P x s H locs σ) (hdg : decode b pc = .ok (.getfield 34, 3)) (kk : W p l e R s m args below meth c H locs cells slots Q (F0 m (pc + 3) ls (.ref (x.2.2 2) :: rest))) : W p l e R s m args below meth c H locs cells slots Q (F0 m pc ls (.ref (x.2.2 0) :: rest)) := by
  obtain ⟨hx, hb, hml, hr, hlk, hown, hT⟩ := F
  obtain ⟨hP, hD, hK, hS⟩ := hw
  exact va_get (D := x.1) (ci := 4) (C := nR_TM) (T := nT_TM) (N := 15) (v := .ref (x.2.2 2)) hx hb hT in_TM hown hK hP 0 gt_TM rfl 3 (by decide) (hT _ wm_185) (fun _ h9 => h9) rfl hdg kk
theorem rd_TM_TM_units (F : fx_F p s m args meth c b n ret nR_TM) (hw : ww_P x s H locs σ) (hdg : decode b pc = .ok (.getfield 41, 3)) (kk : W p l e R s m args below meth c H locs cells slots Q (F0 m (pc + 3) ls (.ref (x.2.2 5) :: rest))) : W p l e R s m args below meth c H locs cells slots Q (F0 m pc ls (.ref (x.2.2 0) :: rest)) := by
  obtain ⟨hx, hb, hml, hr, hlk, hown, hT⟩ := F
  obtain ⟨hP, hD, hK, hS⟩ := hw
  exact va_get (D := x.1) (ci := 4) (C := nR_TM) (T := nT_TM) (N := 15) (v := .ref (x.2.2 5)) hx hb hT in_TM hown hK hP 0 gt_TM rfl 6 (by decide) (hT _ wm_188) (fun _ h9 => h9) rfl hdg kk
theorem rd_TM_TM_words (F : fx_F p s m args meth c b n ret nR_TM) (hw : ww_P x s H locs σ) (hdg : decode b pc = .ok (.getfield 50, 3)) (kk : W p l e R s m args below meth c H locs cells slots Q (F0 m (pc + 3) ls (.ref (x.2.2 4) :: rest))) : W p l e R s m args below meth c H locs cells slots Q (F0 m pc ls (.ref (x.2.2 0) :: rest)) := by
  obtain ⟨hx, hb, hml, hr, hlk, hown, hT⟩ := F
  obtain ⟨hP, hD, hK, hS⟩ := hw
  exact va_get (D := x.1) (ci := 4) (C := nR_TM) (T := nT_TM) (N := 15) (v := .ref (x.2.2 4)) hx hb hT in_TM hown hK hP 0 gt_TM rfl 5 (by decide) (hT _ wm_187) (fun _ h9 => h9) rfl hdg kk
theorem rd_TM_UNI_address (F : fx_F p s m args meth c b n ret nR_TM) (hw : ww_P x s H locs σ) {i : Nat} (hi : i < 13) (hdg : decode b pc = .ok (.getfield 197, 3)) (kk : W p l e R s m args below meth c H locs cells slots Q (F0 m (pc + 3) ls (.int (σ 17 i) :: rest))) : W p l e R s m args below meth c H locs cells slots Q (F0 m pc ls (.ref (x.2.2 (69 + i)) :: rest)) := by
  obtain ⟨hx, hb, hml, hr, hlk, hown, hT⟩ := F
  obtain ⟨hP, hD, hK, hS⟩ := hw
  exact va_get (D := x.1) (ci := 3) (C := nR_UNI) (T := nT_UNI) (N := 9) (v := .int (σ 17 i)) hx hb hT in_UNI hown hK hP (69 + i) (gt_UNI hi) rfl 4 (by decide) (hT _ wm_137) (fun _ h9 => h9) rfl hdg kk
theorem rd_TM_UNI_first (F : fx_F p s m args meth c b n ret nR_TM) (hw : ww_P x s H locs σ) {i : Nat} (hi : i < 13) (hdg : decode b pc = .ok (.getfield 200, 3)) (kk : W p l e R s m args below meth c H locs cells slots Q (F0 m (pc + 3) ls (.ref (x.2.2 (38 + (5 + 2 * i))) :: rest))) : W p l e R s m args below meth c H locs cells slots Q (F0 m pc ls (.ref (x.2.2 (69 + i)) :: rest)) := by
  obtain ⟨hx, hb, hml, hr, hlk, hown, hT⟩ := F
  obtain ⟨hP, hD, hK, hS⟩ := hw
  exact va_get (D := x.1) (ci := 3) (C := nR_UNI) (T := nT_UNI) (N := 9) (v := .ref (x.2.2 (38 + (5 + 2 * i)))) hx hb hT in_UNI hown hK hP (69 + i) (gt_UNI hi) rfl 0 (by decide) (hT _ wm_129) (fun _ h9 => h9) rfl hdg kk
theorem rd_TM_UNI_op (F : fx_F p s m args meth c b n ret nR_TM) (hw : ww_P x s H locs σ) {i : Nat} (hi : i < 13) (hdg : decode b pc = .ok (.getfield 187, 3)) (kk : W p l e R s m args below meth c H locs cells slots Q (F0 m (pc + 3) ls (.int (σ 13 i) :: rest))) : W p l e R s m args below meth c H locs cells slots Q (F0 m pc ls (.ref (x.2.2 (69 + i)) :: rest)) := by
  obtain ⟨hx, hb, hml, hr, hlk, hown, hT⟩ := F
  obtain ⟨hP, hD, hK, hS⟩ := hw
  exact va_get (D := x.1) (ci := 3) (C := nR_UNI) (T := nT_UNI) (N := 9) (v := .int (σ 13 i)) hx hb hT in_UNI hown hK hP (69 + i) (gt_UNI hi) rfl 3 (by decide) (hT _ wm_135) (fun _ h9 => h9) rfl hdg kk
theorem rd_TM_UNI_order (F : fx_F p s m args meth c b n ret nR_TM) (hw : ww_P x s H locs σ) {i : Nat} (hi : i < 13) (hdg : decode b pc = .ok (.getfield 217, 3)) (kk : W p l e R s m args below meth c H locs cells slots Q (F0 m (pc + 3) ls (.int (σ 18 i) :: rest))) : W p l e R s m args below meth c H locs cells slots Q (F0 m pc ls (.ref (x.2.2 (69 + i)) :: rest)) := by
  obtain ⟨hx, hb, hml, hr, hlk, hown, hT⟩ := F
  obtain ⟨hP, hD, hK, hS⟩ := hw
  exact va_get (D := x.1) (ci := 3) (C := nR_UNI) (T := nT_UNI) (N := 9) (v := .int (σ 18 i)) hx hb hT in_UNI hown hK hP (69 + i) (gt_UNI hi) rfl 5 (by decide) (hT _ wm_139) (fun _ h9 => h9) rfl hdg kk
theorem rd_TM_UNI_raised (F : fx_F p s m args meth c b n ret nR_TM) (hw : ww_P x s H locs σ) {i : Nat} (hi : i < 13) (hdg : decode b pc = .ok (.getfield 176, 3)) (kk : W p l e R s m args below meth c H locs cells slots Q (F0 m (pc + 3) ls (.int (σ 16 i) :: rest))) : W p l e R s m args below meth c H locs cells slots Q (F0 m pc ls (.ref (x.2.2 (69 + i)) :: rest)) := by
  obtain ⟨hx, hb, hml, hr, hlk, hown, hT⟩ := F
  obtain ⟨hP, hD, hK, hS⟩ := hw
  exact va_get (D := x.1) (ci := 3) (C := nR_UNI) (T := nT_UNI) (N := 9) (v := .int (σ 16 i)) hx hb hT in_UNI hown hK hP (69 + i) (gt_UNI hi) rfl 8 (by decide) (hT _ wm_145) (fun _ h9 => h9) rfl hdg kk
theorem rd_TM_UNI_result (F : fx_F p s m args meth c b n ret nR_TM) (hw : ww_P x s H locs σ) {i : Nat} (hi : i < 13) (hdg : decode b pc = .ok (.getfield 170, 3)) (kk : W p l e R s m args below meth c H locs cells slots Q (F0 m (pc + 3) ls (.int (σ 15 i) :: rest))) : W p l e R s m args below meth c H locs cells slots Q (F0 m pc ls (.ref (x.2.2 (69 + i)) :: rest)) := by
  obtain ⟨hx, hb, hml, hr, hlk, hown, hT⟩ := F
  obtain ⟨hP, hD, hK, hS⟩ := hw
  exact va_get (D := x.1) (ci := 3) (C := nR_UNI) (T := nT_UNI) (N := 9) (v := .int (σ 15 i)) hx hb hT in_UNI hown hK hP (69 + i) (gt_UNI hi) rfl 7 (by decide) (hT _ wm_143) (fun _ h9 => h9) rfl hdg kk
theorem rd_TM_UNI_second (F : fx_F p s m args meth c b n ret nR_TM) (hw : ww_P x s H locs σ) {i : Nat} (hi : i < 13) (hdg : decode b pc = .ok (.getfield 204, 3)) (kk : W p l e R s m args below meth c H locs cells slots Q (F0 m (pc + 3) ls (.ref (x.2.2 (38 + (6 + 2 * i))) :: rest))) : W p l e R s m args below meth c H locs cells slots Q (F0 m pc ls (.ref (x.2.2 (69 + i)) :: rest)) := by
  obtain ⟨hx, hb, hml, hr, hlk, hown, hT⟩ := F
  obtain ⟨hP, hD, hK, hS⟩ := hw
  exact va_get (D := x.1) (ci := 3) (C := nR_UNI) (T := nT_UNI) (N := 9) (v := .ref (x.2.2 (38 + (6 + 2 * i)))) hx hb hT in_UNI hown hK hP (69 + i) (gt_UNI hi) rfl 1 (by decide) (hT _ wm_131) (fun _ h9 => h9) rfl hdg kk
theorem rd_TM_UNI_state (F : fx_F p s m args meth c b n ret nR_TM) (hw : ww_P x s H locs σ) {i : Nat} (hi : i < 13) (hdg : decode b pc = .ok (.getfield 126, 3)) (kk : W p l e R s m args below meth c H locs cells slots Q (F0 m (pc + 3) ls (.int (σ 12 i) :: rest))) : W p l e R s m args below meth c H locs cells slots Q (F0 m pc ls (.ref (x.2.2 (69 + i)) :: rest)) := by
  obtain ⟨hx, hb, hml, hr, hlk, hown, hT⟩ := F
  obtain ⟨hP, hD, hK, hS⟩ := hw
  exact va_get (D := x.1) (ci := 3) (C := nR_UNI) (T := nT_UNI) (N := 9) (v := .int (σ 12 i)) hx hb hT in_UNI hown hK hP (69 + i) (gt_UNI hi) rfl 2 (by decide) (hT _ wm_133) (fun _ h9 => h9) rfl hdg kk
theorem wr_TM_UNI_state (F : fx_F p s m args meth c b n ret nR_TM) (hw : ww_P x s H locs σ) {i : Nat} (hi : i < 13) {v : Int32} (hdg : decode b pc = .ok (.putfield 126, 3)) (kk : ∀ (H1 : Heap) (locs1 : List Loc), ww_P x s H1 locs1 (sg_up σ 12 i v) → W p l e R s m args below meth c H1 locs1 cells slots Q (F0 m (pc + 3) ls (rest))) : W p l e R s m args below meth c H locs cells slots Q (F0 m pc ls (.int v :: .ref (x.2.2 (69 + i)) :: rest)) := by
  obtain ⟨hx, hb, hml, hr, hlk, hown, hT⟩ := F
  obtain ⟨hP, hD, hK, hS⟩ := hw
  refine va_put (D := x.1) (ci := 3) (C := nR_UNI) (T := nT_UNI) (N := 9) (v := .int v) (ty := .int) hx hb hT in_UNI nY_UNI nK_UNI nM_UNI hown hK hP hD hS (69 + i) (gt_UNI hi) rfl 2 (by decide) (hT _ wm_133) (fun _ h9 => h9) rfl (by decide +kernel) rfl rfl (Nat.le_of_ble_eq_true rfl) hdg (fun H1 locs1 hP hD hS => ?_)
  rw [st_UNI_state hi v] at hP hD
  exact kk H1 locs1 ⟨hP, hD, hK, hS⟩
theorem rd_TM_UNI_toGo (F : fx_F p s m args meth c b n ret nR_TM) (hw : ww_P x s H locs σ) {i : Nat} (hi : i < 13) (hdg : decode b pc = .ok (.getfield 180, 3)) (kk : W p l e R s m args below meth c H locs cells slots Q (F0 m (pc + 3) ls (.int (σ 14 i) :: rest))) : W p l e R s m args below meth c H locs cells slots Q (F0 m pc ls (.ref (x.2.2 (69 + i)) :: rest)) := by
  obtain ⟨hx, hb, hml, hr, hlk, hown, hT⟩ := F
  obtain ⟨hP, hD, hK, hS⟩ := hw
  exact va_get (D := x.1) (ci := 3) (C := nR_UNI) (T := nT_UNI) (N := 9) (v := .int (σ 14 i)) hx hb hT in_UNI hown hK hP (69 + i) (gt_UNI hi) rfl 6 (by decide) (hT _ wm_141) (fun _ h9 => h9) rfl hdg kk
theorem wr_TM_UNI_toGo (F : fx_F p s m args meth c b n ret nR_TM) (hw : ww_P x s H locs σ) {i : Nat} (hi : i < 13) {v : Int32} (hdg : decode b pc = .ok (.putfield 180, 3)) (kk : ∀ (H1 : Heap) (locs1 : List Loc), ww_P x s H1 locs1 (sg_up σ 14 i v) → W p l e R s m args below meth c H1 locs1 cells slots Q (F0 m (pc + 3) ls (rest))) : W p l e R s m args below meth c H locs cells slots Q (F0 m pc ls (.int v :: .ref (x.2.2 (69 + i)) :: rest)) := by
  obtain ⟨hx, hb, hml, hr, hlk, hown, hT⟩ := F
  obtain ⟨hP, hD, hK, hS⟩ := hw
  refine va_put (D := x.1) (ci := 3) (C := nR_UNI) (T := nT_UNI) (N := 9) (v := .int v) (ty := .int) hx hb hT in_UNI nY_UNI nK_UNI nM_UNI hown hK hP hD hS (69 + i) (gt_UNI hi) rfl 6 (by decide) (hT _ wm_141) (fun _ h9 => h9) rfl (by decide +kernel) rfl rfl (Nat.le_of_ble_eq_true rfl) hdg (fun H1 locs1 hP hD hS => ?_)
  rw [st_UNI_toGo hi v] at hP hD
  exact kk H1 locs1 ⟨hP, hD, hK, hS⟩
theorem wr_UNI_UNI_address (F : fx_F p s m args meth c b n ret nR_UNI) (hw : ww_P x s H locs σ) {i : Nat} (hi : i < 13) {v : Int32} (hdg : decode b pc = .ok (.putfield 32, 3)) (kk : ∀ (H1 : Heap) (locs1 : List Loc), ww_P x s H1 locs1 (sg_up σ 17 i v) → W p l e R s m args below meth c H1 locs1 cells slots Q (F0 m (pc + 3) ls (rest))) : W p l e R s m args below meth c H locs cells slots Q (F0 m pc ls (.int v :: .ref (x.2.2 (69 + i)) :: rest)) := by
  obtain ⟨hx, hb, hml, hr, hlk, hown, hT⟩ := F
  obtain ⟨hP, hD, hK, hS⟩ := hw
  refine va_put (D := x.1) (ci := 3) (C := nR_UNI) (T := nT_UNI) (N := 9) (v := .int v) (ty := .int) hx hb hT in_UNI nY_UNI nK_UNI nM_UNI hown hK hP hD hS (69 + i) (gt_UNI hi) rfl 4 (by decide) (hT _ wm_136) (fun _ h9 => h9) rfl (by decide +kernel) rfl rfl (Nat.le_of_ble_eq_true rfl) hdg (fun H1 locs1 hP hD hS => ?_)
  rw [st_UNI_address hi v] at hP hD
  exact kk H1 locs1 ⟨hP, hD, hK, hS⟩
theorem rd_UNI_UNI_first (F : fx_F p s m args meth c b n ret nR_UNI) (hw : ww_P x s H locs σ) {i : Nat} (hi : i < 13) (hdg : decode b pc = .ok (.getfield 12, 3)) (kk : W p l e R s m args below meth c H locs cells slots Q (F0 m (pc + 3) ls (.ref (x.2.2 (38 + (5 + 2 * i))) :: rest))) : W p l e R s m args below meth c H locs cells slots Q (F0 m pc ls (.ref (x.2.2 (69 + i)) :: rest)) := by
  obtain ⟨hx, hb, hml, hr, hlk, hown, hT⟩ := F
  obtain ⟨hP, hD, hK, hS⟩ := hw
  exact va_get (D := x.1) (ci := 3) (C := nR_UNI) (T := nT_UNI) (N := 9) (v := .ref (x.2.2 (38 + (5 + 2 * i)))) hx hb hT in_UNI hown hK hP (69 + i) (gt_UNI hi) rfl 0 (by decide) (hT _ wm_128) (fun _ h9 => h9) rfl hdg kk
theorem wr_UNI_UNI_op (F : fx_F p s m args meth c b n ret nR_UNI) (hw : ww_P x s H locs σ) {i : Nat} (hi : i < 13) {v : Int32} (hdg : decode b pc = .ok (.putfield 29, 3)) (kk : ∀ (H1 : Heap) (locs1 : List Loc), ww_P x s H1 locs1 (sg_up σ 13 i v) → W p l e R s m args below meth c H1 locs1 cells slots Q (F0 m (pc + 3) ls (rest))) : W p l e R s m args below meth c H locs cells slots Q (F0 m pc ls (.int v :: .ref (x.2.2 (69 + i)) :: rest)) := by
  obtain ⟨hx, hb, hml, hr, hlk, hown, hT⟩ := F
  obtain ⟨hP, hD, hK, hS⟩ := hw
  refine va_put (D := x.1) (ci := 3) (C := nR_UNI) (T := nT_UNI) (N := 9) (v := .int v) (ty := .int) hx hb hT in_UNI nY_UNI nK_UNI nM_UNI hown hK hP hD hS (69 + i) (gt_UNI hi) rfl 3 (by decide) (hT _ wm_134) (fun _ h9 => h9) rfl (by decide +kernel) rfl rfl (Nat.le_of_ble_eq_true rfl) hdg (fun H1 locs1 hP hD hS => ?_)
  rw [st_UNI_op hi v] at hP hD
  exact kk H1 locs1 ⟨hP, hD, hK, hS⟩
theorem wr_UNI_UNI_order (F : fx_F p s m args meth c b n ret nR_UNI) (hw : ww_P x s H locs σ) {i : Nat} (hi : i < 13) {v : Int32} (hdg : decode b pc = .ok (.putfield 35, 3)) (kk : ∀ (H1 : Heap) (locs1 : List Loc), ww_P x s H1 locs1 (sg_up σ 18 i v) → W p l e R s m args below meth c H1 locs1 cells slots Q (F0 m (pc + 3) ls (rest))) : W p l e R s m args below meth c H locs cells slots Q (F0 m pc ls (.int v :: .ref (x.2.2 (69 + i)) :: rest)) := by
  obtain ⟨hx, hb, hml, hr, hlk, hown, hT⟩ := F
  obtain ⟨hP, hD, hK, hS⟩ := hw
  refine va_put (D := x.1) (ci := 3) (C := nR_UNI) (T := nT_UNI) (N := 9) (v := .int v) (ty := .int) hx hb hT in_UNI nY_UNI nK_UNI nM_UNI hown hK hP hD hS (69 + i) (gt_UNI hi) rfl 5 (by decide) (hT _ wm_138) (fun _ h9 => h9) rfl (by decide +kernel) rfl rfl (Nat.le_of_ble_eq_true rfl) hdg (fun H1 locs1 hP hD hS => ?_)
  rw [st_UNI_order hi v] at hP hD
  exact kk H1 locs1 ⟨hP, hD, hK, hS⟩
theorem wr_UNI_UNI_raised (F : fx_F p s m args meth c b n ret nR_UNI) (hw : ww_P x s H locs σ) {i : Nat} (hi : i < 13) {v : Int32} (hdg : decode b pc = .ok (.putfield 44, 3)) (kk : ∀ (H1 : Heap) (locs1 : List Loc), ww_P x s H1 locs1 (sg_up σ 16 i v) → W p l e R s m args below meth c H1 locs1 cells slots Q (F0 m (pc + 3) ls (rest))) : W p l e R s m args below meth c H locs cells slots Q (F0 m pc ls (.int v :: .ref (x.2.2 (69 + i)) :: rest)) := by
  obtain ⟨hx, hb, hml, hr, hlk, hown, hT⟩ := F
  obtain ⟨hP, hD, hK, hS⟩ := hw
  refine va_put (D := x.1) (ci := 3) (C := nR_UNI) (T := nT_UNI) (N := 9) (v := .int v) (ty := .int) hx hb hT in_UNI nY_UNI nK_UNI nM_UNI hown hK hP hD hS (69 + i) (gt_UNI hi) rfl 8 (by decide) (hT _ wm_144) (fun _ h9 => h9) rfl (by decide +kernel) rfl rfl (Nat.le_of_ble_eq_true rfl) hdg (fun H1 locs1 hP hD hS => ?_)
  rw [st_UNI_raised hi v] at hP hD
  exact kk H1 locs1 ⟨hP, hD, hK, hS⟩
theorem wr_UNI_UNI_result (F : fx_F p s m args meth c b n ret nR_UNI) (hw : ww_P x s H locs σ) {i : Nat} (hi : i < 13) {v : Int32} (hdg : decode b pc = .ok (.putfield 41, 3)) (kk : ∀ (H1 : Heap) (locs1 : List Loc), ww_P x s H1 locs1 (sg_up σ 15 i v) → W p l e R s m args below meth c H1 locs1 cells slots Q (F0 m (pc + 3) ls (rest))) : W p l e R s m args below meth c H locs cells slots Q (F0 m pc ls (.int v :: .ref (x.2.2 (69 + i)) :: rest)) := by
  obtain ⟨hx, hb, hml, hr, hlk, hown, hT⟩ := F
  obtain ⟨hP, hD, hK, hS⟩ := hw
  refine va_put (D := x.1) (ci := 3) (C := nR_UNI) (T := nT_UNI) (N := 9) (v := .int v) (ty := .int) hx hb hT in_UNI nY_UNI nK_UNI nM_UNI hown hK hP hD hS (69 + i) (gt_UNI hi) rfl 7 (by decide) (hT _ wm_142) (fun _ h9 => h9) rfl (by decide +kernel) rfl rfl (Nat.le_of_ble_eq_true rfl) hdg (fun H1 locs1 hP hD hS => ?_)
  rw [st_UNI_result hi v] at hP hD
  exact kk H1 locs1 ⟨hP, hD, hK, hS⟩
theorem rd_UNI_UNI_second (F : fx_F p s m args meth c b n ret nR_UNI) (hw : ww_P x s H locs σ) {i : Nat} (hi : i < 13) (hdg : decode b pc = .ok (.getfield 18, 3)) (kk : W p l e R s m args below meth c H locs cells slots Q (F0 m (pc + 3) ls (.ref (x.2.2 (38 + (6 + 2 * i))) :: rest))) : W p l e R s m args below meth c H locs cells slots Q (F0 m pc ls (.ref (x.2.2 (69 + i)) :: rest)) := by
  obtain ⟨hx, hb, hml, hr, hlk, hown, hT⟩ := F
  obtain ⟨hP, hD, hK, hS⟩ := hw
  exact va_get (D := x.1) (ci := 3) (C := nR_UNI) (T := nT_UNI) (N := 9) (v := .ref (x.2.2 (38 + (6 + 2 * i)))) hx hb hT in_UNI hown hK hP (69 + i) (gt_UNI hi) rfl 1 (by decide) (hT _ wm_130) (fun _ h9 => h9) rfl hdg kk
theorem rd_UNI_UNI_state (F : fx_F p s m args meth c b n ret nR_UNI) (hw : ww_P x s H locs σ) {i : Nat} (hi : i < 13) (hdg : decode b pc = .ok (.getfield 21, 3)) (kk : W p l e R s m args below meth c H locs cells slots Q (F0 m (pc + 3) ls (.int (σ 12 i) :: rest))) : W p l e R s m args below meth c H locs cells slots Q (F0 m pc ls (.ref (x.2.2 (69 + i)) :: rest)) := by
  obtain ⟨hx, hb, hml, hr, hlk, hown, hT⟩ := F
  obtain ⟨hP, hD, hK, hS⟩ := hw
  exact va_get (D := x.1) (ci := 3) (C := nR_UNI) (T := nT_UNI) (N := 9) (v := .int (σ 12 i)) hx hb hT in_UNI hown hK hP (69 + i) (gt_UNI hi) rfl 2 (by decide) (hT _ wm_132) (fun _ h9 => h9) rfl hdg kk
theorem wr_UNI_UNI_state (F : fx_F p s m args meth c b n ret nR_UNI) (hw : ww_P x s H locs σ) {i : Nat} (hi : i < 13) {v : Int32} (hdg : decode b pc = .ok (.putfield 21, 3)) (kk : ∀ (H1 : Heap) (locs1 : List Loc), ww_P x s H1 locs1 (sg_up σ 12 i v) → W p l e R s m args below meth c H1 locs1 cells slots Q (F0 m (pc + 3) ls (rest))) : W p l e R s m args below meth c H locs cells slots Q (F0 m pc ls (.int v :: .ref (x.2.2 (69 + i)) :: rest)) := by
  obtain ⟨hx, hb, hml, hr, hlk, hown, hT⟩ := F
  obtain ⟨hP, hD, hK, hS⟩ := hw
  refine va_put (D := x.1) (ci := 3) (C := nR_UNI) (T := nT_UNI) (N := 9) (v := .int v) (ty := .int) hx hb hT in_UNI nY_UNI nK_UNI nM_UNI hown hK hP hD hS (69 + i) (gt_UNI hi) rfl 2 (by decide) (hT _ wm_132) (fun _ h9 => h9) rfl (by decide +kernel) rfl rfl (Nat.le_of_ble_eq_true rfl) hdg (fun H1 locs1 hP hD hS => ?_)
  rw [st_UNI_state hi v] at hP hD
  exact kk H1 locs1 ⟨hP, hD, hK, hS⟩
theorem wr_UNI_UNI_toGo (F : fx_F p s m args meth c b n ret nR_UNI) (hw : ww_P x s H locs σ) {i : Nat} (hi : i < 13) {v : Int32} (hdg : decode b pc = .ok (.putfield 38, 3)) (kk : ∀ (H1 : Heap) (locs1 : List Loc), ww_P x s H1 locs1 (sg_up σ 14 i v) → W p l e R s m args below meth c H1 locs1 cells slots Q (F0 m (pc + 3) ls (rest))) : W p l e R s m args below meth c H locs cells slots Q (F0 m pc ls (.int v :: .ref (x.2.2 (69 + i)) :: rest)) := by
  obtain ⟨hx, hb, hml, hr, hlk, hown, hT⟩ := F
  obtain ⟨hP, hD, hK, hS⟩ := hw
  refine va_put (D := x.1) (ci := 3) (C := nR_UNI) (T := nT_UNI) (N := 9) (v := .int v) (ty := .int) hx hb hT in_UNI nY_UNI nK_UNI nM_UNI hown hK hP hD hS (69 + i) (gt_UNI hi) rfl 6 (by decide) (hT _ wm_140) (fun _ h9 => h9) rfl (by decide +kernel) rfl rfl (Nat.le_of_ble_eq_true rfl) hdg (fun H1 locs1 hP hD hS => ?_)
  rw [st_UNI_toGo hi v] at hP hD
  exact kk H1 locs1 ⟨hP, hD, hK, hS⟩
end FI
section MA
variable {p : Program} {l : Launch} {e : Env} {R : Room} {s : State} {m : MethodId} {args : Array Value} {below : List Frame} {meth : Method} {c : Code} {H : Heap} {locs : List Loc} {cells slots : Nat} {Q : State → Prop} {x : cx_T} {σ : sg_T} {b : ByteArray} {n : Nat} {ret : Option FieldType} {own : String} {pc : Nat} {ls : Array Slot} {rest : List Value}
set_option maxRecDepth 100000 in
theorem mm_REC_max {d : Nat} {lv : List (Nat × Value)} (F : fx_F p s m args meth c b n ret nR_REC) (hl : lv_has ls n lv) (hd : 1 ≤ d) (hr : (rest.map fun v => v.category).sum ≤ 8) {v w : Int32} (hdg : decode b pc = .ok (.invokestatic 59, 3)) (kk : W p l e (rm_D d) s m args below meth c H locs 0 0 Q (F0 m (pc + 3) ls (.int (if v < w then w else v) :: rest))) : W p l e (rm_D d) s m args below meth c H locs 0 0 Q (F0 m pc ls (.int w :: .int v :: rest)) := by
  obtain ⟨hx, hb, hml, hr9, hlk, hown, hT⟩ := F
  exact va_mmax hx hb (hml.trans hl.1.symm) hown (hT _ (lw_m (i := 455) (by decide +kernel) (by decide +kernel))) (hT _ (lw_m (i := 73) (by decide +kernel) (by decide +kernel))) (hT _ (lw_m (i := 50) (by decide +kernel) (by decide +kernel))) (hT _ (lw_m (i := 74) rfl (by decide +kernel))) (by simp only [rm_D]; omega) (by simp only [rm_D]; omega) (Nat.zero_le _) (Nat.zero_le _) hdg kk
set_option maxRecDepth 100000 in
theorem mm_REC_min {d : Nat} {lv : List (Nat × Value)} (F : fx_F p s m args meth c b n ret nR_REC) (hl : lv_has ls n lv) (hd : 1 ≤ d) (hr : (rest.map fun v => v.category).sum ≤ 8) {v w : Int32} (hdg : decode b pc = .ok (.invokestatic 67, 3)) (kk : W p l e (rm_D d) s m args below meth c H locs 0 0 Q (F0 m (pc + 3) ls (.int (if w < v then w else v) :: rest))) : W p l e (rm_D d) s m args below meth c H locs 0 0 Q (F0 m pc ls (.int w :: .int v :: rest)) := by
  obtain ⟨hx, hb, hml, hr9, hlk, hown, hT⟩ := F
  exact va_mmin hx hb (hml.trans hl.1.symm) hown (hT _ (lw_m (i := 454) (by decide +kernel) (by decide +kernel))) (hT _ (lw_m (i := 70) (by decide +kernel) (by decide +kernel))) (hT _ (lw_m (i := 50) (by decide +kernel) (by decide +kernel))) (hT _ (lw_m (i := 71) rfl (by decide +kernel))) (by simp only [rm_D]; omega) (by simp only [rm_D]; omega) (Nat.zero_le _) (Nat.zero_le _) hdg kk
end MA
