/-! the two machines side by side: indices, relation -/
theorem sg_a (σ : sg_T) (r c : Nat) (v : Int32) (r' c' : Nat) : sg_up σ r c v r' c' = if r' = r ∧ c' = c then v else σ r' c' := rfl
theorem sg_id (σ : sg_T) (r c : Nat) : sg_up σ r c (σ r c) = σ := by
  funext x y
  rw [sg_a]
  split
  · rename_i h; rw [h.1, h.2]
  · rfl
theorem gt_t {α : Type} (k : Option α) : gt_d true k = k := by
  unfold gt_d
  rw [if_pos rfl]
theorem ob_s {α β : Type} (x : α) (f : α → Option β) : (some x).bind f = f x := by rw [Option.bind_some]
theorem gt_p {α : Type} {p : Prop} [Decidable p] (h : p) (k : Option α) : gt_d (decide p) k = k := by rw [gt_pos h]
theorem n_all : ∀ k : Fin 64, tn_I (nI k.val) = k.val ∧ (nI k.val < 0 ↔ False) ∧ nI k.val = Int32.ofInt (k.val : Int) := by decide +kernel
theorem n_of (k : Nat) : nI k = Int32.ofInt (k : Int) := (Int32.ofInt_eq_ofNat).symm
theorem n_t {k : Nat} (h : k < 64) : tn_I (nI k) = k := (n_all ⟨k, h⟩).1
theorem n_b {k n : Nat} (h : k < n) (hn : n ≤ 64) : ib_I (nI k) n = true := by
  have h1 := n_all ⟨k, by omega⟩
  unfold ib_I
  rw [show (nI k).toNatClampNeg = k from h1.1]
  simp [h1.2.1, h]
theorem n_lt {j k : Nat} (hj : j < 64) (hk : k < 64) : nI j < nI k ↔ j < k := by
  rw [n_of, n_of, w_lt (by omega) (by omega) (by omega) (by omega)]
  omega
theorem n_le {j k : Nat} (hj : j < 64) (hk : k < 64) : nI j ≤ nI k ↔ j ≤ k := by
  rw [n_of, n_of, w_le (by omega) (by omega) (by omega) (by omega)]
  omega
theorem n_eq {j k : Nat} (hj : j < 64) (hk : k < 64) : nI j = nI k ↔ j = k := by
  rw [n_of, n_of, w_eq (by omega) (by omega) (by omega) (by omega)]
  omega
theorem n_add (j k : Nat) : nI j + nI k = nI (j + k) := by
  rw [n_of, n_of, n_of, ← Int32.ofInt_add]
  exact congrArg _ (by omega)
theorem n_s (k : Nat) : nI k + 1 = nI (k + 1) := n_add k 1
theorem n_2 (k : Nat) : 2 * nI k = nI (2 * k) := by
  rw [show (2 : Int32) = Int32.ofInt 2 from rfl, n_of, n_of, ← Int32.ofInt_mul]
  exact congrArg _ (by omega)
theorem n_mod : ∀ k : Fin 32, ∀ q : Fin 9, q.val ≠ 0 → nI k.val - nI k.val / nI q.val * nI q.val = nI (k.val % q.val) := by decide +kernel
theorem n_md {k q : Nat} (hk : k < 32) (h1 : 1 ≤ q) (h8 : q ≤ 8) : nI k - nI k / nI q * nI q = nI (k % q) := n_mod ⟨k, hk⟩ ⟨q, by omega⟩ (by show q ≠ 0; omega)
/-- operands: one machine's (value, awaited) and a model's (operand, tag) -/
def o_R (a b : sg_T) (i j : Nat) : Prop := a 7 i = b 46 j ∧ (a 7 i = 0 → a 6 i = b 45 j)
def o_T (t : Nat) (o : Int32) : Prop := (t ≤ 3 → o = 2 ∨ o = 3 ∨ o = 6) ∧ (4 ≤ t → t ≤ 5 → o = 4 ∨ o = 5) ∧ (6 ≤ t → t ≤ 9 → o = 0) ∧ (10 ≤ t → o = 1)
abbrev u_R (a b : sg_T) (t : Nat) : Prop := (a 12 t = b 40 t) ∧ (∃ k, k < 4 ∧ a 12 t = nI k) ∧ (6 ≤ t → a 7 (6 + 2 * t) = 0) ∧ (6 ≤ t → t ≤ 9 → a 7 (5 + 2 * t) = 0) ∧ (a 12 t ≠ 0 → a 13 t = b 41 t) ∧ (a 12 t ≠ 0 → o_T t (a 13 t)) ∧ (a 12 t ≠ 0 → a 18 t = b 48 t) ∧ (a 12 t ≠ 0 → 6 ≤ t → ∃ k, k < 32 ∧ a 17 t = nI k ∧ b 47 t = nI k) ∧ (a 12 t ≠ 0 → (t ≤ 5 ∨ 10 ≤ t) → o_R a b (5 + 2 * t) (2 * t)) ∧ (a 12 t ≠ 0 → t ≤ 5 → o_R a b (6 + 2 * t) (2 * t + 1)) ∧ (a 12 t = 2 → a 14 t = b 42 t) ∧ (a 12 t = 2 → 10 ≤ t → a 7 (5 + 2 * t) = 0) ∧ (t ≤ 9 → (a 12 t = 2 ∨ a 12 t = 3) → a 15 t = b 43 t ∧ a 16 t = b 44 t)
theorem u_R.st {a b : sg_T} {t : Nat} (h : u_R a b t) : a 12 t = b 40 t := h.1
theorem u_R.rg {a b : sg_T} {t : Nat} (h : u_R a b t) : ∃ k, k < 4 ∧ a 12 t = nI k := h.2.1
theorem u_R.t2 {a b : sg_T} {t : Nat} (h : u_R a b t) : 6 ≤ t → a 7 (6 + 2 * t) = 0 := h.2.2.1
theorem u_R.t1 {a b : sg_T} {t : Nat} (h : u_R a b t) : 6 ≤ t → t ≤ 9 → a 7 (5 + 2 * t) = 0 := h.2.2.2.1
theorem u_R.op {a b : sg_T} {t : Nat} (h : u_R a b t) : a 12 t ≠ 0 → a 13 t = b 41 t := h.2.2.2.2.1
theorem u_R.ot {a b : sg_T} {t : Nat} (h : u_R a b t) : a 12 t ≠ 0 → o_T t (a 13 t) := h.2.2.2.2.2.1
theorem u_R.od {a b : sg_T} {t : Nat} (h : u_R a b t) : a 12 t ≠ 0 → a 18 t = b 48 t := h.2.2.2.2.2.2.1
theorem u_R.ad {a b : sg_T} {t : Nat} (h : u_R a b t) : a 12 t ≠ 0 → 6 ≤ t → ∃ k, k < 32 ∧ a 17 t = nI k ∧ b 47 t = nI k := h.2.2.2.2.2.2.2.1
theorem u_R.p1 {a b : sg_T} {t : Nat} (h : u_R a b t) : a 12 t ≠ 0 → (t ≤ 5 ∨ 10 ≤ t) → o_R a b (5 + 2 * t) (2 * t) := h.2.2.2.2.2.2.2.2.1
theorem u_R.p2 {a b : sg_T} {t : Nat} (h : u_R a b t) : a 12 t ≠ 0 → t ≤ 5 → o_R a b (6 + 2 * t) (2 * t + 1) := h.2.2.2.2.2.2.2.2.2.1
theorem u_R.go {a b : sg_T} {t : Nat} (h : u_R a b t) : a 12 t = 2 → a 14 t = b 42 t := h.2.2.2.2.2.2.2.2.2.2.1
theorem u_R.z1 {a b : sg_T} {t : Nat} (h : u_R a b t) : a 12 t = 2 → 10 ≤ t → a 7 (5 + 2 * t) = 0 := h.2.2.2.2.2.2.2.2.2.2.2.1
theorem u_R.re {a b : sg_T} {t : Nat} (h : u_R a b t) : t ≤ 9 → (a 12 t = 2 ∨ a 12 t = 3) → a 15 t = b 43 t ∧ a 16 t = b 44 t := h.2.2.2.2.2.2.2.2.2.2.2.2
abbrev i_R (a b : sg_T) (i : Nat) : Prop := (∃ k, k < 13 ∧ a 1 i = nI k ∧ b 31 i = nI k) ∧ (∃ k, k < 4 ∧ a 2 i = nI k ∧ b 32 i = nI k) ∧ (∃ k, k < 4 ∧ a 3 i = nI k ∧ b 33 i = nI k) ∧ (∃ k, k < 4 ∧ a 4 i = nI k ∧ b 34 i = nI k) ∧ (a 5 i = b 35 i)
theorem i_R.op {a b : sg_T} {i : Nat} (h : i_R a b i) : ∃ k, k < 13 ∧ a 1 i = nI k ∧ b 31 i = nI k := h.1
theorem i_R.r {a b : sg_T} {i : Nat} (h : i_R a b i) : ∃ k, k < 4 ∧ a 2 i = nI k ∧ b 32 i = nI k := h.2.1
theorem i_R.s {a b : sg_T} {i : Nat} (h : i_R a b i) : ∃ k, k < 4 ∧ a 3 i = nI k ∧ b 33 i = nI k := h.2.2.1
theorem i_R.bb {a b : sg_T} {i : Nat} (h : i_R a b i) : ∃ k, k < 4 ∧ a 4 i = nI k ∧ b 34 i = nI k := h.2.2.2.1
theorem i_R.n {a b : sg_T} {i : Nat} (h : i_R a b i) : a 5 i = b 35 i := h.2.2.2.2
/-- what stands between calls, and within a cycle -/
abbrev c_R (A B a b : sg_T) : Prop := (∀ r c, 21 ≤ r → a r c = A r c) ∧ (∀ r c, r < 30 ∨ r = 51 → b r c = B r c) ∧ (b 30 9 = B 30 9) ∧ (∃ k, 1 ≤ k ∧ k ≤ 8 ∧ a 0 0 = nI k ∧ b 30 0 = nI k) ∧ (a 0 1 = b 30 1) ∧ (∃ k, k ≤ 30 ∧ a 0 2 = nI k ∧ b 30 2 = nI k) ∧ (a 0 4 = b 30 4) ∧ (a 0 5 = b 30 5) ∧ (a 0 7 = b 30 7) ∧ (∀ i, i < 30 → i_R a b i) ∧ (∀ r, r < 5 → a 6 r = b 36 r) ∧ (∀ r, r < 5 → a 7 r = b 37 r) ∧ (∀ r, r < 4 → a 10 r = b 38 r) ∧ (∀ c, c < 32 → a 11 c = b 39 c) ∧ (∀ c, c < 8 → a 19 c = b 49 c) ∧ (∀ t, 1 ≤ t → t < 13 → u_R a b t) ∧ (∀ r, r < 5 → a 7 r ≠ 0 → ∃ t, 1 ≤ t ∧ t ≤ 9 ∧ a 7 r = nI t ∧ a 12 t ≠ 0)
theorem c_R.fa {A B a b : sg_T} (h : c_R A B a b) : ∀ r c, 21 ≤ r → a r c = A r c := h.1
theorem c_R.fb {A B a b : sg_T} (h : c_R A B a b) : ∀ r c, r < 30 ∨ r = 51 → b r c = B r c := h.2.1
theorem c_R.ft {A B a b : sg_T} (h : c_R A B a b) : b 30 9 = B 30 9 := h.2.2.1
theorem c_R.bank {A B a b : sg_T} (h : c_R A B a b) : ∃ k, 1 ≤ k ∧ k ≤ 8 ∧ a 0 0 = nI k ∧ b 30 0 = nI k := h.2.2.2.1
theorem c_R.lat {A B a b : sg_T} (h : c_R A B a b) : a 0 1 = b 30 1 := h.2.2.2.2.1
theorem c_R.many {A B a b : sg_T} (h : c_R A B a b) : ∃ k, k ≤ 30 ∧ a 0 2 = nI k ∧ b 30 2 = nI k := h.2.2.2.2.2.1
theorem c_R.nxt {A B a b : sg_T} (h : c_R A B a b) : a 0 4 = b 30 4 := h.2.2.2.2.2.2.1
theorem c_R.ntd {A B a b : sg_T} (h : c_R A B a b) : a 0 5 = b 30 5 := h.2.2.2.2.2.2.2.1
theorem c_R.hnd {A B a b : sg_T} (h : c_R A B a b) : a 0 7 = b 30 7 := h.2.2.2.2.2.2.2.2.1
theorem c_R.ins {A B a b : sg_T} (h : c_R A B a b) : ∀ i, i < 30 → i_R a b i := h.2.2.2.2.2.2.2.2.2.1
theorem c_R.rv {A B a b : sg_T} (h : c_R A B a b) : ∀ r, r < 5 → a 6 r = b 36 r := h.2.2.2.2.2.2.2.2.2.2.1
theorem c_R.rt {A B a b : sg_T} (h : c_R A B a b) : ∀ r, r < 5 → a 7 r = b 37 r := h.2.2.2.2.2.2.2.2.2.2.2.1
theorem c_R.gen {A B a b : sg_T} (h : c_R A B a b) : ∀ r, r < 4 → a 10 r = b 38 r := h.2.2.2.2.2.2.2.2.2.2.2.2.1
theorem c_R.wrd {A B a b : sg_T} (h : c_R A B a b) : ∀ c, c < 32 → a 11 c = b 39 c := h.2.2.2.2.2.2.2.2.2.2.2.2.2.1
theorem c_R.bnk {A B a b : sg_T} (h : c_R A B a b) : ∀ c, c < 8 → a 19 c = b 49 c := h.2.2.2.2.2.2.2.2.2.2.2.2.2.2.1
theorem c_R.uni {A B a b : sg_T} (h : c_R A B a b) : ∀ t, 1 ≤ t → t < 13 → u_R a b t := h.2.2.2.2.2.2.2.2.2.2.2.2.2.2.2.1
theorem c_R.wts {A B a b : sg_T} (h : c_R A B a b) : ∀ r, r < 5 → a 7 r ≠ 0 → ∃ t, 1 ≤ t ∧ t ≤ 9 ∧ a 7 r = nI t ∧ a 12 t ≠ 0 := h.2.2.2.2.2.2.2.2.2.2.2.2.2.2.2.2
/-- within a cycle -/
abbrev m_R (A B a b : sg_T) : Prop := (c_R A B a b) ∧ (b 30 3 = 0 ∨ b 30 3 = 1) ∧ (a 0 3 = if b 30 5 = 0 then b 30 3 else 1) ∧ (a 0 6 + 1 = b 30 6)
theorem m_R.c {A B a b : sg_T} (h : m_R A B a b) : c_R A B a b := h.1
theorem m_R.sm {A B a b : sg_T} (h : m_R A B a b) : b 30 3 = 0 ∨ b 30 3 = 1 := h.2.1
theorem m_R.md {A B a b : sg_T} (h : m_R A B a b) : a 0 3 = if b 30 5 = 0 then b 30 3 else 1 := h.2.2.1
theorem m_R.cy {A B a b : sg_T} (h : m_R A B a b) : a 0 6 + 1 = b 30 6 := h.2.2.2
/-- between calls -/
abbrev x_R (A B a b : sg_T) : Prop := (c_R A B a b) ∧ (a 0 3 = b 30 3) ∧ (∃ k, k < 4 ∧ a 0 3 = nI k) ∧ (a 0 3 = 0 → a 0 5 = 0) ∧ ((a 0 3 = 0 → False) → (a 0 3 = 1 → False) → ∀ t, 1 ≤ t → t < 13 → a 12 t = 0) ∧ (a 0 6 = b 30 6)
theorem x_R.c {A B a b : sg_T} (h : x_R A B a b) : c_R A B a b := h.1
theorem x_R.md {A B a b : sg_T} (h : x_R A B a b) : a 0 3 = b 30 3 := h.2.1
theorem x_R.mr {A B a b : sg_T} (h : x_R A B a b) : ∃ k, k < 4 ∧ a 0 3 = nI k := h.2.2.1
theorem x_R.nn {A B a b : sg_T} (h : x_R A B a b) : a 0 3 = 0 → a 0 5 = 0 := h.2.2.2.1
theorem x_R.fr {A B a b : sg_T} (h : x_R A B a b) : (a 0 3 = 0 → False) → (a 0 3 = 1 → False) → ∀ t, 1 ≤ t → t < 13 → a 12 t = 0 := h.2.2.2.2.1
theorem x_R.cy {A B a b : sg_T} (h : x_R A B a b) : a 0 6 = b 30 6 := h.2.2.2.2.2
def sm_S (A B : sg_T) (x y : Option sg_T) : Prop := ∃ a b, x = some a ∧ y = some b ∧ m_R A B a b
theorem sm_b {A B : sg_T} {x y : Option sg_T} {f g : sg_T → Option sg_T} (h : sm_S A B x y) (hf : ∀ a b, m_R A B a b → sm_S A B (f a) (g b)) : sm_S A B (x.bind f) (y.bind g) := by
  obtain ⟨a, b, rfl, rfl, h1⟩ := h
  exact hf a b h1
theorem sm_0 {A B a b : sg_T} (h : m_R A B a b) : sm_S A B (some a) (some b) := ⟨a, b, rfl, rfl, h⟩
