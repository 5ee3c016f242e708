/-! beginning: storage -/
def a_R (a : sg_T) (e f : Int32) : Prop := (e = -1 ∧ f = 0) ∨ ∃ k, 6 ≤ k ∧ k < 13 ∧ e = nI k ∧ f = nI k ∧ r_D a k
theorem n_m1 {k : Nat} (hk : k < 64) : nI k ≠ -1 := fun h => by
  have h2 : nI k < 0 := by rw [h]; decide
  exact (n_all ⟨k, hk⟩).2.1.1 h2
theorem n_z {k : Nat} (hk : k < 64) (h0 : k ≠ 0) : nI k ≠ 0 := st_ne rfl hk h0
theorem ea_s {A B a b : sg_T} (h : m_R A B a b) (t : Nat) (h6 : 6 ≤ t) (h13 : t < 13) (n : Nat) (e f : Int32) (hef : a_R a e f) : ∃ e1 f1, a_R a e1 f1 ∧ fb_TM_earliestAccess_5 (n + 1) e (nI t) a = fb_TM_earliestAccess_5 n e1 (nI (t + 1)) a ∧ fb_MOD_begin_129 (n + 1) f (nI t) b = fb_MOD_begin_129 n f1 (nI (t + 1)) b := by
  have q := h.c.uni t (by omega) h13
  obtain ⟨Q, Q1, Q8, Qa, Qb⟩ := h.c.bank
  have Q0 : nI Q ≠ 0 := st_ne rfl (by omega) (by omega)
  rw [show fb_TM_earliestAccess_5 (n + 1) e (nI t) a = if (12 : Int32) < nI t then some (e, a) else gt_d (ib_I (nI t) 13) ((fn_UNI_isReady (tn_I (nI t)) a).bind (fun z3 => if z3.1 = 0 then fb_TM_earliestAccess_61 (fb_TM_earliestAccess_5 n) e (nI t) z3.2 else (fn_TM_bankOf (tn_I (nI t)) z3.2).bind (fun z5 => gt_d (ib_I z5.1 8) (if (z5.2 19 (tn_I z5.1)) = 0 then if e = (-1 : Int32) then fb_TM_earliestAccess_59 (fb_TM_earliestAccess_5 n) (nI t) z5.2 else gt_d (ib_I e 13) (if (z5.2 18 (tn_I e)) ≤ (z5.2 18 (tn_I (nI t))) then fb_TM_earliestAccess_61 (fb_TM_earliestAccess_5 n) e (nI t) z5.2 else fb_TM_earliestAccess_59 (fb_TM_earliestAccess_5 n) (nI t) z5.2) else fb_TM_earliestAccess_61 (fb_TM_earliestAccess_5 n) e (nI t) z5.2)))) from rfl]
  have hm : fb_MOD_begin_129 (n + 1) f (nI t) b = (if (b 40 t) = (1 : Int32) then if nI t < (10 : Int32) then fb_MOD_begin_166 (fb_MOD_begin_129 n) f (nI t) b else (if (b 46 (2 * t)) = 0 then fb_MOD_begin_166 (fb_MOD_begin_129 n) f (nI t) b else fb_MOD_begin_190 (fb_MOD_begin_129 n) f (nI t) b) else fb_MOD_begin_190 (fb_MOD_begin_129 n) f (nI t) b) := by
    rw [fb_MOD_begin_129]
    rw [if_neg (show ¬ (13 : Int32) ≤ nI t from fun h => by have := (n_le (by omega) (by omega) : nI 13 ≤ nI t ↔ _).1 h; omega), n_b (by omega) (by omega), gt_t, n_t (by omega), n_2, n_b (by omega) (by omega), gt_t, n_t (by omega)]
  rw [hm, if_neg (show ¬ (12 : Int32) < nI t from fun h => by have := (n_lt (by omega) (by omega) : nI 12 < nI t ↔ _).1 h; omega), n_b (by omega) (by omega), gt_t, n_t (by omega)]
  simp only [rd_c, ob_s]
  have no : fb_MOD_begin_190 (fb_MOD_begin_129 n) f (nI t) b = fb_MOD_begin_129 n f (nI (t + 1)) b := by
    simp only [fb_MOD_begin_190, fb_MOD_begin_191, fb_MOD_begin_223, fb_MOD_begin_224, if_true, n_s]
  have noc : fb_TM_earliestAccess_61 (fb_TM_earliestAccess_5 n) e (nI t) a = fb_TM_earliestAccess_5 n e (nI (t + 1)) a := by
    simp only [fb_TM_earliestAccess_61, n_s]
  have yoc : fb_TM_earliestAccess_59 (fb_TM_earliestAccess_5 n) (nI t) a = fb_TM_earliestAccess_5 n (nI t) (nI (t + 1)) a := by
    simp only [fb_TM_earliestAccess_59, fb_TM_earliestAccess_61, n_s]
  by_cases hr : r_D a t
  · have n0 : a 12 t ≠ 0 := by rw [hr.1]; decide
    obtain ⟨k, hk, ka, kb⟩ := q.ad n0 h6
    have km : k % Q < 8 := by have := Nat.mod_lt k (show Q > 0 by omega); omega
    have hm2 : (if (b 40 t) = (1 : Int32) then if nI t < (10 : Int32) then fb_MOD_begin_166 (fb_MOD_begin_129 n) f (nI t) b else (if (b 46 (2 * t)) = 0 then fb_MOD_begin_166 (fb_MOD_begin_129 n) f (nI t) b else fb_MOD_begin_190 (fb_MOD_begin_129 n) f (nI t) b) else fb_MOD_begin_190 (fb_MOD_begin_129 n) f (nI t) b) = fb_MOD_begin_166 (fb_MOD_begin_129 n) f (nI t) b := by
      rw [← q.st, if_pos hr.1]
      by_cases l9 : t < 10
      · rw [if_pos (show nI t < (10 : Int32) from (n_lt (by omega) (by omega) : nI t < nI 10 ↔ _).2 l9)]
      · rw [if_neg (show ¬ nI t < (10 : Int32) from fun h => l9 ((n_lt (by omega) (by omega) : nI t < nI 10 ↔ _).1 h)), ← (q.p1 n0 (.inr (by omega))).1, if_pos hr.2.1]
    rw [hm2]
    simp only [r_ip hr]
    rw [if_neg (by decide)]
    unfold fn_TM_bankOf
    rw [Qa, ka, gt_p Q0, n_md hk Q1 Q8]
    simp only [ob_s]
    rw [n_b (by omega) (by omega), gt_t, n_t (by omega)]
    unfold fb_MOD_begin_166
    rw [n_b (by omega) (by omega), gt_t, n_t (by omega), Qb, kb, gt_p Q0, n_md hk Q1 Q8, n_b (by omega) (by omega), gt_t, n_t (by omega), ← h.c.bnk _ km]
    by_cases hb : a 19 (k % Q) = 0
    · rw [if_pos hb, if_pos hb]
      unfold fb_MOD_begin_191
      rw [if_neg (show ¬ (1 : Int32) = 0 from by decide)]
      rcases hef with ⟨he, hf⟩ | ⟨j, j6, j13, je, jf, jr⟩
      · rw [if_pos he, if_pos hf]
        refine ⟨nI t, nI t, .inr ⟨t, h6, h13, rfl, rfl, hr⟩, yoc, ?_⟩
        simp only [fb_MOD_begin_218, fb_MOD_begin_224, n_s]
      · have qj := h.c.uni j (by omega) j13
        have nj : a 12 j ≠ 0 := by rw [jr.1]; decide
        rw [je, jf, if_neg (n_m1 (by omega)), if_neg (n_z (by omega) (by omega)), n_b (by omega) (by omega), gt_t, gt_t, n_t (by omega), n_b (by omega) (by omega), gt_t, n_t (by omega), ← qj.od nj, ← q.od n0]
        by_cases ho : a 18 j ≤ a 18 t
        · rw [if_pos ho, if_pos ho]
          refine ⟨nI j, nI j, .inr ⟨j, j6, j13, rfl, rfl, jr⟩, ?_, ?_⟩
          · simp only [fb_TM_earliestAccess_61, n_s]
          · simp only [fb_MOD_begin_223, fb_MOD_begin_224, n_s]
        · rw [if_neg ho, if_neg ho]
          refine ⟨nI t, nI t, .inr ⟨t, h6, h13, rfl, rfl, hr⟩, yoc, ?_⟩
          simp only [fb_MOD_begin_218, fb_MOD_begin_224, n_s]
    · rw [if_neg hb, if_neg hb]
      exact ⟨e, f, hef, noc, no⟩
  · simp only [r_in hr, if_true]
    refine ⟨e, f, hef, noc, ?_⟩
    by_cases h1 : a 12 t = 1
    · have n0 : a 12 t ≠ 0 := by rw [h1]; decide
      have l9 : ¬ t < 10 := fun hl => hr ⟨h1, q.t1 h6 (by omega), q.t2 h6⟩
      rw [← q.st, if_pos h1, if_neg (show ¬ nI t < (10 : Int32) from fun h => l9 ((n_lt (by omega) (by omega) : nI t < nI 10 ↔ _).1 h)), ← (q.p1 n0 (.inr (by omega))).1, if_neg (fun h2 => hr ⟨h1, h2, q.t2 h6⟩)]
      exact no
    · rw [← q.st, if_neg h1]
      exact no
theorem ea_l {A B a b : sg_T} (h : m_R A B a b) : ∀ m t, 6 ≤ t → t + m = 13 → ∀ n, m < n → ∀ e f, a_R a e f → ∃ e1 f1, a_R a e1 f1 ∧ fb_TM_earliestAccess_5 n e (nI t) a = some (e1, a) ∧ fb_MOD_begin_129 n f (nI t) b = fb_MOD_begin_129 1 f1 (nI 13) b
  | 0, t, h6, ht, n + 1, _, e, f, hef => by
    refine ⟨e, f, hef, ?_, ?_⟩
    · unfold fb_TM_earliestAccess_5
      rw [if_pos (show (12 : Int32) < nI t from (n_lt (by omega) (by omega) : nI 12 < nI t ↔ _).2 (by omega))]
    · rw [show t = 13 from by omega, fb_MOD_begin_129, fb_MOD_begin_129, if_pos (show (13 : Int32) ≤ nI 13 from by decide), if_pos (show (13 : Int32) ≤ nI 13 from by decide)]
  | m + 1, t, h6, ht, n + 1, hn, e, f, hef => by
    obtain ⟨e1, f1, h1, h2, h3⟩ := ea_s h t h6 (by omega) n e f hef
    rw [h2, h3]
    exact ea_l h m (t + 1) (by omega) (by omega) n (by omega) e1 f1 h1
theorem sto_R {A B a b : sg_T} (h : m_R A B a b) : sm_S A B (fn_TM_beginStorage a) (fb_MOD_begin_123 b) := by
  obtain ⟨e, f, hef, c1, c2⟩ := ea_l h 7 6 (by omega) (by omega) 14 (by omega) (-1) 0 (.inl ⟨rfl, rfl⟩)
  unfold fn_TM_beginStorage fb_MOD_begin_123 fn_TM_earliestAccess
  rw [show (6 : Int32) = nI 6 from rfl, c1, c2]
  simp only [ob_s]
  rw [fb_MOD_begin_129, if_pos (show (13 : Int32) ≤ nI 13 from by decide)]
  rcases hef with ⟨he, hf⟩ | ⟨t, h6, h13, je, jf, hr⟩
  · rw [if_pos he, if_pos (show f ≤ 0 from by rw [hf]; decide)]
    exact sm_0 h
  · have q := h.c.uni t (by omega) h13
    obtain ⟨Q, Q1, Q8, Qa, Qb⟩ := h.c.bank
    have Q0 : nI Q ≠ 0 := st_ne rfl (by omega) (by omega)
    have n0 : a 12 t ≠ 0 := by rw [hr.1]; decide
    obtain ⟨k, hk, ka, kb⟩ := q.ad n0 h6
    have km : k % Q < 8 := by have := Nat.mod_lt k (show Q > 0 by omega); omega
    have nm := n_md hk Q1 Q8
    generalize k % Q = m at km nm
    rw [je, jf, if_neg (n_m1 (by omega)), if_neg (n_pos (by omega) (n_z (by omega) (by omega))), n_b (by omega) (by omega), gt_t, n_t (by omega)]
    unfold fn_TM_bankOf
    simp only [gt_t]
    rw [Qa, ka, gt_p Q0, nm]
    simp only [ob_s]
    rw [n_b (by omega) (by omega), gt_t, n_t (by omega), sg_ne (by omega), ka, n_b (by omega) (by omega), gt_t, n_t (by omega), sg_ne (by omega), sg_ne (by omega)]
    unfold fn_UNI_begin
    simp only [ob_s]
    rw [Qb, kb, gt_p Q0, nm, n_b (by omega) (by omega), gt_t, n_t (by omega)]
    have ml : (if (10 : Int32) ≤ nI t then fb_MOD_begin_295 (nI t) (0 : Int32) (nI t) (sg_up (sg_up (sg_up b 49 m 1) 40 t 2) 42 t ((sg_up (sg_up b 49 m 1) 40 t 2) 30 1)) else gt_d (ib_I ((sg_up (sg_up (sg_up b 49 m 1) 40 t 2) 42 t ((sg_up (sg_up b 49 m 1) 40 t 2) 30 1)) 47 t) 32) (fb_MOD_begin_295 (nI t) ((sg_up (sg_up (sg_up b 49 m 1) 40 t 2) 42 t ((sg_up (sg_up b 49 m 1) 40 t 2) 30 1)) 39 (tn_I ((sg_up (sg_up (sg_up b 49 m 1) 40 t 2) 42 t ((sg_up (sg_up b 49 m 1) 40 t 2) 30 1)) 47 t))) (nI t) (sg_up (sg_up (sg_up b 49 m 1) 40 t 2) 42 t ((sg_up (sg_up b 49 m 1) 40 t 2) 30 1)))) = some (sg_up (sg_up (sg_up (sg_up (sg_up b 49 m 1) 40 t 2) 42 t (b 30 1)) 43 t (if 10 ≤ t then 0 else b 39 k)) 44 t 0) := by
      have e30 : (sg_up (sg_up b 49 m 1) 40 t 2) 30 1 = b 30 1 := by rw [sg_ne (by omega), sg_ne (by omega)]
      rw [e30]
      have e47 : (sg_up (sg_up (sg_up b 49 m 1) 40 t 2) 42 t (b 30 1)) 47 t = nI k := by rw [sg_ne (by omega), sg_ne (by omega), sg_ne (by omega), kb]
      rw [e47, n_b (by omega) (by omega), gt_t, n_t (by omega)]
      have e39 : (sg_up (sg_up (sg_up b 49 m 1) 40 t 2) 42 t (b 30 1)) 39 k = b 39 k := by rw [sg_ne (by omega), sg_ne (by omega), sg_ne (by omega)]
      rw [e39]
      unfold fb_MOD_begin_295
      rw [n_b (by omega) (by omega), gt_t, gt_t, gt_t, gt_t, n_t (by omega)]
      by_cases l9 : 10 ≤ t
      · rw [if_pos (show (10 : Int32) ≤ nI t from (n_le (by omega) (by omega) : nI 10 ≤ nI t ↔ _).2 l9), if_pos l9]
      · rw [if_neg (show ¬ (10 : Int32) ≤ nI t from fun h => l9 ((n_le (by omega) (by omega) : nI 10 ≤ nI t ↔ _).1 h)), if_neg l9]
    rw [ml]
    refine sm_0 (loc h (t := t) (by omega) h13 ?_ ?_ ?_ ?_ ?_ ?_)
    · intro r c hr
      rw [sg_ne (by omega), sg_ne (by omega), sg_ne (by omega), sg_ne (by omega), sg_ne (by omega)]
    · intro r c hr
      rw [sg_ne (by omega), sg_ne (by omega), sg_ne (by omega), sg_ne (by omega), sg_ne (by omega)]
    · intro c hc
      simp [sg_a]
      rw [h.c.bnk c hc]
    · intro c hc
      simp [sg_a]
      exact h.c.wrd c hc
    · refine ⟨?_, ?_, ?_, ?_, ?_, ?_, ?_, ?_, ?_, ?_, ?_, ?_, ?_⟩ <;> simp [sg_a, o_R]
      · exact ⟨2, by omega, rfl⟩
      · exact q.t2
      · exact q.t1
      · exact q.op n0
      · exact q.ot n0
      · exact q.od n0
      · exact q.ad n0
      · exact fun h => q.p1 n0 h
      · exact fun h => q.p2 n0 h
      · exact h.c.lat
      · exact fun _ => hr.2.1
      · intro h9
        rw [if_neg (by omega)]
        exact h.c.wrd k hk
    · rw [sg_ne (by omega), sg_ne (by omega), sg_ne (by omega), sg_eq]; exact .inl (by decide)
