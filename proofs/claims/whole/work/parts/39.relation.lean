/-! the two machines side by side: indices, relation -/
theorem sg_a (σ : sg_T) (r c : Nat) (v : Int32) (r' c' : Nat) : sg_up σ r c v r' c' = if r' = r ∧ c' = c then v else σ r' c' := rfl
theorem sg_id (σ : sg_T) (r c : Nat) : sg_up σ r c (σ r c) = σ := by
  funext x y
  rw [sg_a]
  split
  · rename_i h; rw [h.1, h.2]
  · rfl
theorem gt_t {α : Type} (k : Option α) : gt_d true k = k := by
  unfold gt_d
  rw [if_pos rfl]
theorem ob_s {α β : Type} (x : α) (f : α → Option β) : (some x).bind f = f x := by rw [Option.bind_some]
theorem gt_p {α : Type} {p : Prop} [Decidable p] (h : p) (k : Option α) : gt_d (decide p) k = k := by rw [gt_pos h]
theorem n_all : ∀ k : Fin 64, tn_I (nI k.val) = k.val ∧ (nI k.val < 0 ↔ False) ∧ nI k.val = Int32.ofInt (k.val : Int) := by decide +kernel
theorem n_of (k : Nat) : nI k = Int32.ofInt (k : Int) := (Int32.ofInt_eq_ofNat).symm
theorem n_t {k : Nat} (h : k < 64) : tn_I (nI k) = k := (n_all ⟨k, h⟩).1
theorem n_b {k n : Nat} (h : k < n) (hn : n ≤ 64) : ib_I (nI k) n = true := by
  have h1 := n_all ⟨k, by omega⟩
  unfold ib_I
  rw [show (nI k).toNatClampNeg = k from h1.1]
  simp [h1.2.1, h]
theorem n_lt {j k : Nat} (hj : j < 64) (hk : k < 64) : nI j < nI k ↔ j < k := by
  rw [n_of, n_of, w_lt (by omega) (by omega) (by omega) (by omega)]
  omega
theorem n_le {j k : Nat} (hj : j < 64) (hk : k < 64) : nI j ≤ nI k ↔ j ≤ k := by
  rw [n_of, n_of, w_le (by omega) (by omega) (by omega) (by omega)]
  omega
theorem n_eq {j k : Nat} (hj : j < 64) (hk : k < 64) : nI j = nI k ↔ j = k := by
  rw [n_of, n_of, w_eq (by omega) (by omega) (by omega) (by omega)]
  omega
theorem n_add (j k : Nat) : nI j + nI k = nI (j + k) := by
  rw [n_of, n_of, n_of, ← Int32.ofInt_add]
  exact congrArg _ (by omega)
theorem n_s (k : Nat) : nI k + 1 = nI (k + 1) := n_add k 1
theorem n_2 (k : Nat) : 2 * nI k = nI (2 * k) := by
  rw [show (2 : Int32) = Int32.ofInt 2 from rfl, n_of, n_of, ← Int32.ofInt_mul]
  exact congrArg _ (by omega)
theorem n_mod : ∀ k : Fin 32, ∀ q : Fin 9, q.val ≠ 0 → nI k.val - nI k.val / nI q.val * nI q.val = nI (k.val % q.val) := by decide +kernel
theorem n_md {k q : Nat} (hk : k < 32) (h1 : 1 ≤ q) (h8 : q ≤ 8) : nI k - nI k / nI q * nI q = nI (k % q) := n_mod ⟨k, hk⟩ ⟨q, by omega⟩ (by show q ≠ 0; omega)
/-- operands: a class's (value, awaited) and a model's (operand, tag) -/
def o_R (a b : sg_T) (i j : Nat) : Prop := a 7 i = b 46 j ∧ (a 7 i = 0 → a 6 i = b 45 j)
def o_T (t : Nat) (o : Int32) : Prop := (t ≤ 3 → o = 2 ∨ o = 3 ∨ o = 6) ∧ (4 ≤ t → t ≤ 5 → o = 4 ∨ o = 5) ∧ (6 ≤ t → t ≤ 9 → o = 0) ∧ (10 ≤ t → o = 1)
structure u_R (a b : sg_T) (t : Nat) : Prop where
  st : a 12 t = b 40 t
  rg : ∃ k, k < 4 ∧ a 12 t = nI k
  t2 : 6 ≤ t → a 7 (6 + 2 * t) = 0
  t1 : 6 ≤ t → t ≤ 9 → a 7 (5 + 2 * t) = 0
  op : a 12 t ≠ 0 → a 13 t = b 41 t
  ot : a 12 t ≠ 0 → o_T t (a 13 t)
  od : a 12 t ≠ 0 → a 18 t = b 48 t
  ad : a 12 t ≠ 0 → 6 ≤ t → ∃ k, k < 32 ∧ a 17 t = nI k ∧ b 47 t = nI k
  p1 : a 12 t ≠ 0 → (t ≤ 5 ∨ 10 ≤ t) → o_R a b (5 + 2 * t) (2 * t)
  p2 : a 12 t ≠ 0 → t ≤ 5 → o_R a b (6 + 2 * t) (2 * t + 1)
  go : a 12 t = 2 → a 14 t = b 42 t
  z1 : a 12 t = 2 → 10 ≤ t → a 7 (5 + 2 * t) = 0
  re : t ≤ 9 → (a 12 t = 2 ∨ a 12 t = 3) → a 15 t = b 43 t ∧ a 16 t = b 44 t
structure i_R (a b : sg_T) (i : Nat) : Prop where
  op : ∃ k, k < 13 ∧ a 1 i = nI k ∧ b 31 i = nI k
  r : ∃ k, k < 4 ∧ a 2 i = nI k ∧ b 32 i = nI k
  s : ∃ k, k < 4 ∧ a 3 i = nI k ∧ b 33 i = nI k
  bb : ∃ k, k < 4 ∧ a 4 i = nI k ∧ b 34 i = nI k
  n : a 5 i = b 35 i
/-- what stands between calls, and within a cycle -/
structure c_R (A B a b : sg_T) : Prop where
  fa : ∀ r c, 21 ≤ r → a r c = A r c
  fb : ∀ r c, r < 30 ∨ r = 51 → b r c = B r c
  ft : b 30 9 = B 30 9
  bank : ∃ k, 1 ≤ k ∧ k ≤ 8 ∧ a 0 0 = nI k ∧ b 30 0 = nI k
  lat : a 0 1 = b 30 1
  many : ∃ k, k ≤ 30 ∧ a 0 2 = nI k ∧ b 30 2 = nI k
  nxt : a 0 4 = b 30 4
  ntd : a 0 5 = b 30 5
  hnd : a 0 7 = b 30 7
  ins : ∀ i, i < 30 → i_R a b i
  rv : ∀ r, r < 5 → a 6 r = b 36 r
  rt : ∀ r, r < 5 → a 7 r = b 37 r
  gen : ∀ r, r < 4 → a 10 r = b 38 r
  wrd : ∀ c, c < 32 → a 11 c = b 39 c
  bnk : ∀ c, c < 8 → a 19 c = b 49 c
  uni : ∀ t, 1 ≤ t → t < 13 → u_R a b t
  wts : ∀ r, r < 5 → a 7 r ≠ 0 → ∃ t, 1 ≤ t ∧ t ≤ 9 ∧ a 7 r = nI t ∧ a 12 t ≠ 0
/-- within a cycle -/
structure m_R (A B a b : sg_T) : Prop where
  c : c_R A B a b
  sm : b 30 3 = 0 ∨ b 30 3 = 1
  md : a 0 3 = if b 30 5 = 0 then b 30 3 else 1
  cy : a 0 6 + 1 = b 30 6
/-- between calls -/
structure x_R (A B a b : sg_T) : Prop where
  c : c_R A B a b
  md : a 0 3 = b 30 3
  mr : ∃ k, k < 4 ∧ a 0 3 = nI k
  nn : a 0 3 = 0 → a 0 5 = 0
  fr : (a 0 3 = 0 → False) → (a 0 3 = 1 → False) → ∀ t, 1 ≤ t → t < 13 → a 12 t = 0
  cy : a 0 6 = b 30 6
def sm_S (A B : sg_T) (x y : Option sg_T) : Prop := ∃ a b, x = some a ∧ y = some b ∧ m_R A B a b
theorem sm_b {A B : sg_T} {x y : Option sg_T} {f g : sg_T → Option sg_T} (h : sm_S A B x y) (hf : ∀ a b, m_R A B a b → sm_S A B (f a) (g b)) : sm_S A B (x.bind f) (y.bind g) := by
  obtain ⟨a, b, rfl, rfl, h1⟩ := h
  exact hf a b h1
theorem sm_0 {A B a b : sg_T} (h : m_R A B a b) : sm_S A B (some a) (some b) := ⟨a, b, rfl, rfl, h⟩
