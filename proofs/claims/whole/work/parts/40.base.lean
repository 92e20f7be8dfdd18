/-! PURE ROWS: bits (bt, b_.. began as rows of kit/laws/BITS.to-paste), masks of 8 phases, numbers, memories, loops -/
def bt (x : Int32) (i : Nat) : Bool := x.toBitVec.getLsbD i
theorem b_ext {x y : Int32} (h : ∀ i, i < 32 → bt x i = bt y i) : x = y := Int32.toBitVec_inj.mp (BitVec.eq_of_getLsbD_eq (fun i hi => h i hi))
theorem b_or (x y : Int32) (i : Nat) : bt (x ||| y) i = (bt x i || bt y i) := by unfold bt; rw [Int32.toBitVec_or, BitVec.getLsbD_or]
theorem b_and (x y : Int32) (i : Nat) : bt (x &&& y) i = (bt x i && bt y i) := by unfold bt; rw [Int32.toBitVec_and, BitVec.getLsbD_and]
theorem b_xor (x y : Int32) (i : Nat) : bt (x ^^^ y) i = (bt x i ^^ bt y i) := by unfold bt; rw [Int32.toBitVec_xor, BitVec.getLsbD_xor]
theorem b_big {x : Int32} {i : Nat} (h : 32 ≤ i) : bt x i = false := BitVec.getLsbD_of_ge _ _ h
theorem b_m1 : ∀ i, i < 32 → bt (-1) i = true := by decide +kernel
theorem b_0 (i : Nat) : bt 0 i = false := BitVec.getLsbD_zero
/-- m is the mask of the phases that f names -/
def mk (m : Int32) (f : Nat → Bool) : Prop := ∀ i, i < 32 → bt m i = (decide (i < 8) && f i)
theorem mk_or {m n : Int32} {f g : Nat → Bool} (h : mk m f) (h2 : mk n g) : mk (m ||| n) (fun i => f i || g i) := by
  intro i hi
  rw [b_or, h i hi, h2 i hi]
  cases decide (i < 8) <;> simp
theorem mk_and {m n : Int32} {f g : Nat → Bool} (h : mk m f) (h2 : mk n g) : mk (m &&& n) (fun i => f i && g i) := by
  intro i hi
  rw [b_and, h i hi, h2 i hi]
  cases decide (i < 8) <;> simp
theorem mk_andn {m n : Int32} {f g : Nat → Bool} (h : mk m f) (h2 : mk n g) : mk (m &&& (n ^^^ (-1))) (fun i => f i && !g i) := by
  intro i hi
  rw [b_and, b_xor, h i hi, h2 i hi, b_m1 i hi]
  cases decide (i < 8) <;> simp
theorem mk_0 : mk 0 (fun _ => false) := by
  intro i hi
  rw [b_0]
  simp
theorem mk_51 : mk 51 (fun p => decide (p % 4 / 2 = 0)) := by
  unfold mk
  decide +kernel
theorem mk_204 : mk 204 (fun p => decide (p % 4 / 2 = 1)) := by
  unfold mk
  decide +kernel
theorem mk_congr {m : Int32} {f g : Nat → Bool} (h : mk m f) (e : ∀ i, i < 8 → f i = g i) : mk m g := by
  intro i hi
  rw [h i hi]
  by_cases h8 : i < 8
  · rw [e i h8]
  · simp [h8]
theorem mk_eq0 {m : Int32} {f : Nat → Bool} (h : mk m f) : m = 0 ↔ ∀ i, i < 8 → f i = false := by
  constructor
  · intro e i hi
    have := h i (by omega)
    rw [e, b_0] at this
    simpa [hi] using this.symm
  · intro e
    refine b_ext (fun i hi => ?_)
    rw [h i hi, b_0]
    by_cases h8 : i < 8
    · simp [e i h8]
    · simp [h8]
theorem bit_lt : ∀ p, p < 8 → mk (jshl 1 (nI p)) (fun q => decide (q = p)) := by
  unfold mk
  decide +kernel
theorem mk_tst {m : Int32} {f : Nat → Bool} (h : mk m f) {p : Nat} (hp : p < 8) : (m &&& jshl 1 (nI p)) = 0 ↔ f p = false := by
  rw [mk_eq0 (mk_and h (bit_lt p hp))]
  constructor
  · intro e
    have := e p hp
    simpa using this
  · intro e i hi
    by_cases hip : i = p
    · subst hip
      simp [e]
    · simp [hip]
/-! numbers -/
theorem n_lit (n : Nat) (x : Int32) (h : Int32.ofNat n = x) : x = nI n := h.symm
theorem n_2 (c : Nat) : (2 : Int32) * nI c = nI (2 * c) := pk_mul 2 c
theorem n_4 (c : Nat) : (4 : Int32) * nI c = nI (4 * c) := pk_mul 4 c
theorem n_8 (c : Nat) : (8 : Int32) * nI c = nI (8 * c) := pk_mul 8 c
theorem n_64 (c : Nat) : (64 : Int32) * nI c = nI (64 * c) := pk_mul 64 c
theorem n_8r (c : Nat) : nI c * (8 : Int32) = nI (8 * c) := by rw [show (8 : Int32) = nI 8 from rfl, pk_mul, Nat.mul_comm]
theorem n_a1 (a : Nat) : nI a + 1 = nI (a + 1) := nI_1 a
theorem n_a0 (a : Nat) : nI a + 0 = nI a := nI_add a 0
theorem n_ak (a k : Nat) : nI a + nI k = nI (a + k) := nI_add a k
theorem n_a2 (a : Nat) : nI a + 2 = nI (a + 2) := nI_add a 2
theorem n_a4 (a : Nat) : nI a + 4 = nI (a + 4) := nI_add a 4
theorem n_a5 (a : Nat) : nI a + 5 = nI (a + 5) := nI_add a 5
theorem n_a7 (a : Nat) : nI a + 7 = nI (a + 7) := nI_add a 7
theorem n_a8 (a : Nat) : nI a + 8 = nI (a + 8) := nI_add a 8
theorem ix_nI {k : Nat} (h : k < 2147483648) : ix (nI k) = k := nI_clamp h
theorem inb_nI {k n : Nat} (h : k < 2147483648) : inb (nI k) n = decide (k < n) := by
  have h1 : ¬ nI k < 0 := nI_pos h
  simp only [inb, h1, not_false_iff, decide_true, Bool.true_and]
  rw [show (nI k).toNatClampNeg = k from nI_clamp h]
theorem inb_t {k n : Nat} (h : k < n) (hn : n < 2147483648) : inb (nI k) n = true := by
  rw [inb_nI (by omega)]
  exact decide_eq_true h
theorem le_nI {a b : Nat} (ha : a < 2147483648) (hb : b < 2147483648) : nI a ≤ nI b ↔ a ≤ b := nI_leI ha hb
theorem lt_nI {a b : Nat} (ha : a < 2147483648) (hb : b < 2147483648) : nI a < nI b ↔ a < b := nI_ltI ha hb
theorem eq_nI {a b : Nat} (ha : a < 2147483648) (hb : b < 2147483648) : nI a = nI b ↔ a = b := nI_eq ha hb
theorem nI_ge0 {a : Nat} (h : a < 2147483648) : ¬ nI a < 0 := nI_pos h
theorem nI_0le {a : Nat} (h : a < 2147483648) : (0 : Int32) ≤ nI a := nI_pos' h
theorem nI_eq0 {a : Nat} (h : a < 2147483648) : nI a = 0 ↔ a = 0 := nI_eq (b := 0) h (by omega)
theorem nI_ne_m1 {a : Nat} (h : a < 2147483648) : ¬ nI a = -1 := by
  intro e
  have h1 : nI a < 0 := by rw [e]; decide
  exact nI_pos h h1
/-- a number of an argument: too small, too large, or a small natural -/
theorem i_cases (x : Int32) (n : Nat) (hn : n < 2147483648) : x < 0 ∨ (¬ x < 0 ∧ nI n ≤ x) ∨ ∃ j, j < n ∧ x = nI j := by
  by_cases h : x < 0
  · exact Or.inl h
  · rcases pk_ix x hn with h1 | h1 | h1
    · exact absurd h1 h
    · exact Or.inr (Or.inl ⟨h, h1⟩)
    · exact Or.inr (Or.inr h1)
/-! memories -/
theorem ks_s (K : Mem) (i k : Nat) (v : Int32) : ks K i k v i k = v := by simp [ks]
theorem ks_i {K : Mem} {i k a b : Nat} {v : Int32} (h : a ≠ i) : ks K i k v a b = K a b := by simp [ks, h]
theorem ks_k {K : Mem} {i k a b : Nat} {v : Int32} (h : b ≠ k) : ks K i k v a b = K a b := by simp [ks, h]
theorem ks_n {K : Mem} {i k a b : Nat} {v : Int32} (h : a ≠ i ∨ b ≠ k) : ks K i k v a b = K a b := h.elim ks_i ks_k
/-! truth as a number -/
def bi (b : Bool) : Int32 := if b then 1 else 0
theorem bi_t : bi true = 1 := rfl
theorem bi_f : bi false = 0 := rfl
theorem bi_0 (b : Bool) : bi b = 0 ↔ b = false := by cases b <;> decide
theorem bi_1 (b : Bool) : bi b = 1 ↔ b = true := by cases b <;> decide
theorem bi_bb (b : Bool) : bb (bi b) = true := by cases b <;> decide
theorem bi_nar (b : Bool) : vp_nar .boolean (bi b) = bi b := by cases b <;> rfl
theorem nar_0 : vp_nar .boolean 0 = 0 := rfl
theorem nar_1 : vp_nar .boolean 1 = 1 := rfl
def z01 (x : Int32) : Prop := x = 0 ∨ x = 1
theorem z01_nar {x : Int32} (h : z01 x) : vp_nar .boolean x = x := by rcases h with rfl | rfl <;> rfl
theorem z01_bi (b : Bool) : z01 (bi b) := by cases b <;> simp [z01, bi]
theorem nar_s : ∀ n, n < 128 → vp_nar .short (js16 (nI n)) = nI n ∧ vp_nar .short (nI n) = nI n := by decide +kernel
/-! loops -/
theorem loop1 {α : Type} (L : Nat → Int32 → Mem → Option α) (o e : Nat) (P : Nat → Mem → Prop) (Q : Option α → Prop)
    (hx : ∀ n K, P e K → Q (L (n + 1) (nI (o + e)) K))
    (hs : ∀ n i K, i < e → P i K → ∃ K', L (n + 1) (nI (o + i)) K = L n (nI (o + i + 1)) K' ∧ P (i + 1) K') :
    ∀ j i n K, i + j = e → j < n → P i K → Q (L n (nI (o + i)) K) := by
  intro j
  induction j with
  | zero =>
    intro i n K he hn hP
    obtain ⟨n, rfl⟩ : ∃ q, n = q + 1 := ⟨n - 1, by omega⟩
    have : i = e := by omega
    subst this
    exact hx n K hP
  | succ j ih =>
    intro i n K he hn hP
    obtain ⟨n, rfl⟩ : ∃ q, n = q + 1 := ⟨n - 1, by omega⟩
    obtain ⟨K', h1, h2⟩ := hs n i K (by omega) hP
    rw [h1]
    exact ih (i + 1) n K' (by omega) (by omega) h2
theorem loop2 (L1 L2 : Nat → Int32 → Mem → Option (Int32 × Mem)) (o1 o2 e : Nat) (P : Nat → Mem → Mem → Prop)
    (x1 : ∀ n K, L1 (n + 1) (nI (o1 + e)) K = some (nI (o1 + e), K)) (x2 : ∀ n M, L2 (n + 1) (nI (o2 + e)) M = some (nI (o2 + e), M))
    (hs : ∀ n m i K M, i < e → P i K M → ∃ K' M', L1 (n + 1) (nI (o1 + i)) K = L1 n (nI (o1 + i + 1)) K' ∧ L2 (m + 1) (nI (o2 + i)) M = L2 m (nI (o2 + i + 1)) M' ∧ P (i + 1) K' M') :
    ∀ j i n m K M, i + j = e → j < n → j < m → P i K M → ∃ K' M', L1 n (nI (o1 + i)) K = some (nI (o1 + e), K') ∧ L2 m (nI (o2 + i)) M = some (nI (o2 + e), M') ∧ P e K' M' := by
  intro j
  induction j with
  | zero =>
    intro i n m K M he hn hm hP
    obtain ⟨n, rfl⟩ : ∃ q, n = q + 1 := ⟨n - 1, by omega⟩
    obtain ⟨m, rfl⟩ : ∃ q, m = q + 1 := ⟨m - 1, by omega⟩
    have : i = e := by omega
    subst this
    exact ⟨K, M, x1 n K, x2 m M, hP⟩
  | succ j ih =>
    intro i n m K M he hn hm hP
    obtain ⟨n, rfl⟩ : ∃ q, n = q + 1 := ⟨n - 1, by omega⟩
    obtain ⟨m, rfl⟩ : ∃ q, m = q + 1 := ⟨m - 1, by omega⟩
    obtain ⟨K', M', h1, h2, h3⟩ := hs n m i K M (by omega) hP
    rw [h1, h2]
    exact ih (i + 1) n m K' M' (by omega) (by omega) (by omega) h3
/-! branches -/
theorem ob {α β : Type} (x : α) (f : α → Option β) : (some x).bind f = f x := rfl
theorem if_t {α : Sort _} {P : Prop} {d : Decidable P} (h : P) (a b : α) : (if P then a else b) = a := if_pos h
theorem if_f {α : Sort _} {P : Prop} {d : Decidable P} (h : ¬ P) (a b : α) : (if P then a else b) = b := if_neg h
