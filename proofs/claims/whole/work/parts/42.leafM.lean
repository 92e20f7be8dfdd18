/-! THE REFERENCE'S small functions, evaluated: c < 2 a crossing, p < 8 a phase, r < 2 a ring -/
theorem q_le (L a : Nat) (hL : L < 2147483648) (h : a < 2147483648) : nI L ≤ nI a ↔ L ≤ a := nI_leI hL h
theorem c8_no {i : Nat} (h : i < 8) : ¬ (8 : Int32) ≤ nI i := fun e => absurd ((q_le 8 i (by omega) (by omega)).mp e) (by omega)
theorem c8_yes : (8 : Int32) ≤ nI 8 := by decide
def grn (M : Mem) (c p : Nat) : Bool := decide (M 19 (2 * c + p / 4) = 1 ∧ M 20 (2 * c + p / 4) = nI p)
def cal (M : Mem) (c p : Nat) : Bool := (!decide (M 9 (8 * c + p) = 0) || !decide (M 10 (8 * c + p) = 0)) && !grn M c p
def anyf (f : Nat → Bool) : Nat → Bool
  | 0 => false
  | n + 1 => anyf f n || f n
theorem anyf_iff (f : Nat → Bool) : ∀ n, anyf f n = true ↔ ∃ p, p < n ∧ f p = true := by
  intro n
  induction n with
  | zero => simp [anyf]
  | succ n ih =>
    simp only [anyf, Bool.or_eq_true, ih]
    constructor
    · rintro (⟨p, h1, h2⟩ | h)
      · exact ⟨p, by omega, h2⟩
      · exact ⟨n, by omega, h⟩
    · rintro ⟨p, h1, h2⟩
      rcases Nat.lt_or_ge p n with h | h
      · exact Or.inl ⟨p, h, h2⟩
      · have : p = n := by omega
        subst this
        exact Or.inr h2
theorem anyf_congr {f g : Nat → Bool} : ∀ n, (∀ p, p < n → f p = g p) → anyf f n = anyf g n := by
  intro n
  induction n with
  | zero => intro _; rfl
  | succ n ih =>
    intro h
    rw [anyf, anyf, ih (fun p hp => h p (by omega)), h n (by omega)]
section LM
variable {M : Mem} {c p : Nat}
theorem M_isCr (hc : c < 2) : f_X9_isCrossing (nI c) M = some 1 := by
  rcases (show c = 0 ∨ c = 1 by omega) with rfl | rfl <;> rfl
theorem M_isPh (hc : c < 2) (hp : p < 8) : f_X9_isPhase (nI c) (nI p) M = some 1 := by
  unfold f_X9_isPhase
  rw [M_isCr hc, ob, if_neg (by decide), if_neg (nI_ge0 (by omega)), if_neg (c8_no hp)]
theorem M_ringOf (hp : p < 8) : f_X9_ringOf (nI c) (nI p) M = some (nI (2 * c + p / 4)) := by
  unfold f_X9_ringOf
  have h4 : (4 : Int32) ≤ nI p ↔ 4 ≤ p := q_le 4 p (by omega) (by omega)
  by_cases h : 4 ≤ p
  · rw [if_pos (h4.mpr h), n_2, n_a1]
    congr 2
    omega
  · rw [if_neg (fun e => h (h4.mp e)), n_2, n_a0]
    congr 2
    omega
theorem M_sideOf (hp : p < 8) : f_X9_sideOf (nI p) M = some (nI (p % 4 / 2)) := by
  rcases (show p = 0 ∨ p = 1 ∨ p = 2 ∨ p = 3 ∨ p = 4 ∨ p = 5 ∨ p = 6 ∨ p = 7 by omega) with rfl | rfl | rfl | rfl | rfl | rfl | rfl | rfl <;> rfl
theorem M_entry (hc : c < 2) (hp : p < 8) {w : Nat} (hw : w < 8) : f_X9_entry (nI c) (nI p) (nI w) M = some (M 2 (64 * c + (8 * p + w))) := by
  unfold f_X9_entry
  rw [n_64, n_8, n_ak, n_ak, inb_t (by omega) (by omega), ix_nI (by omega), Nat.add_assoc]
  rfl
theorem M_entry0 (hc : c < 2) (hp : p < 8) : f_X9_entry (nI c) (nI p) 0 M = some (M 2 (64 * c + 8 * p)) := M_entry hc hp (w := 0) (by omega)
theorem M_entry1 (hc : c < 2) (hp : p < 8) : f_X9_entry (nI c) (nI p) 1 M = some (M 2 (64 * c + (8 * p + 1))) := M_entry hc hp (w := 1) (by omega)
theorem M_entry2 (hc : c < 2) (hp : p < 8) : f_X9_entry (nI c) (nI p) 2 M = some (M 2 (64 * c + (8 * p + 2))) := M_entry hc hp (w := 2) (by omega)
theorem M_entry3 (hc : c < 2) (hp : p < 8) : f_X9_entry (nI c) (nI p) 3 M = some (M 2 (64 * c + (8 * p + 3))) := M_entry hc hp (w := 3) (by omega)
theorem M_entry4 (hc : c < 2) (hp : p < 8) : f_X9_entry (nI c) (nI p) 4 M = some (M 2 (64 * c + (8 * p + 4))) := M_entry hc hp (w := 4) (by omega)
theorem M_entry5 (hc : c < 2) (hp : p < 8) : f_X9_entry (nI c) (nI p) 5 M = some (M 2 (64 * c + (8 * p + 5))) := M_entry hc hp (w := 5) (by omega)
theorem M_entry6 (hc : c < 2) (hp : p < 8) : f_X9_entry (nI c) (nI p) 6 M = some (M 2 (64 * c + (8 * p + 6))) := M_entry hc hp (w := 6) (by omega)
theorem M_entry7 (hc : c < 2) (hp : p < 8) : f_X9_entry (nI c) (nI p) 7 M = some (M 2 (64 * c + (8 * p + 7))) := M_entry hc hp (w := 7) (by omega)
theorem M_isGreen (hc : c < 2) (hp : p < 8) : f_X9_isGreen (nI c) (nI p) M = some (bi (grn M c p)) := by
  unfold f_X9_isGreen
  have hi : inb (nI (2 * c + p / 4)) 4 = true := inb_t (by omega) (by omega)
  rw [M_ringOf hp, ob, ob, if_pos hi, if_pos hi, ix_nI (by omega)]
  unfold grn
  by_cases h1 : M 19 (2 * c + p / 4) = 1
  · by_cases h2 : M 20 (2 * c + p / 4) = nI p
    · simp [h1, h2, bi]
    · simp [h1, h2, bi]
  · simp [h1, bi]
theorem M_failed (hc : c < 2) (hp : p < 8) : f_X9_failed (nI c) (nI p) M = some (bi (decide ((60 : Int32) ≤ M 12 (8 * c + p)))) := by
  unfold f_X9_failed
  rw [n_8, n_ak, if_pos (inb_t (by omega) (by omega)), ix_nI (by omega)]
  by_cases h : M 12 (8 * c + p) < 60
  · have h' : ¬ (60 : Int32) ≤ M 12 (8 * c + p) := Int32.not_le.mpr h
    rw [if_pos h, decide_eq_false h']
    rfl
  · have h' : (60 : Int32) ≤ M 12 (8 * c + p) := Int32.not_lt.mp h
    rw [if_neg h, decide_eq_true h']
    rfl
theorem M_runs (hc : c < 2) : f_X9_runs (nI c) M = some (bi (decide (M 4 c = 0 ∧ M 5 c = 0))) := by
  unfold f_X9_runs
  have hi : inb (nI c) 2 = true := inb_t hc (by omega)
  rw [if_pos hi, if_pos hi, ix_nI (by omega)]
  by_cases h1 : M 4 c = 0 <;> by_cases h2 : M 5 c = 0 <;> simp [h1, h2, bi]
theorem M_passes (hc : c < 2) (hp : p < 8) : f_X9_passes (nI c) (nI p) M = some (bi (!decide (M 11 (8 * c + p) = 0) && !decide ((60 : Int32) ≤ M 12 (8 * c + p)))) := by
  unfold f_X9_passes
  rw [M_failed hc hp, n_8, n_ak, if_pos (inb_t (by omega) (by omega)), ix_nI (by omega), ob]
  by_cases h1 : M 11 (8 * c + p) = 0 <;> by_cases h2 : (60 : Int32) ≤ M 12 (8 * c + p) <;> simp [h1, h2, bi]
theorem M_called (hc : c < 2) (hp : p < 8) : f_X9_called (nI c) (nI p) M = some (bi (cal M c p)) := by
  unfold f_X9_called cal
  rw [M_isGreen hc hp, n_8, n_ak, if_pos (inb_t (by omega) (by omega)), if_pos (inb_t (by omega) (by omega)), ix_nI (by omega), ob]
  by_cases h1 : M 9 (8 * c + p) = 0 <;> by_cases h2 : M 10 (8 * c + p) = 0 <;> cases grn M c p <;> simp [h1, h2, bi]
theorem M_calledOnL (hc : c < 2) {s : Nat} (hs : s < 2) : ∀ j i n (a : Bool), i + j = 8 → j < n → a = anyf (fun p => decide (p % 4 / 2 = s) && cal M c p) i → f_X9_calledOn_L5 (nI c) (nI s) n (bi a) (nI i) M = some (bi (anyf (fun p => decide (p % 4 / 2 = s) && cal M c p) 8), 8) := by
  intro j
  induction j with
  | zero =>
    intro i n a hi hn ha
    obtain ⟨n, rfl⟩ : ∃ q, n = q + 1 := ⟨n - 1, by omega⟩
    have : i = 8 := by omega
    subst this
    rw [f_X9_calledOn_L5, if_pos c8_yes, ha]
    rfl
  | succ j ih =>
    intro i n a hi hn ha
    obtain ⟨n, rfl⟩ : ∃ q, n = q + 1 := ⟨n - 1, by omega⟩
    have h8 : i < 8 := by omega
    rw [f_X9_calledOn_L5, if_neg (c8_no h8), M_sideOf h8, ob, M_called hc h8, ob]
    have e : (if bi a = 0 then (if nI (i % 4 / 2) = nI s then (if bi (cal M c i) = 0 then some 0 else some 1) else some 0) else some 1 : Option Int32) = some (bi (anyf (fun p => decide (p % 4 / 2 = s) && cal M c p) (i + 1))) := by
      rw [anyf, ← ha]
      have hq : nI (i % 4 / 2) = nI s ↔ i % 4 / 2 = s := eq_nI (by omega) (by omega)
      by_cases h1 : i % 4 / 2 = s
      · cases a <;> cases cal M c i <;> simp [bi, h1]
      · have h2 : ¬ nI (i % 4 / 2) = nI s := fun e => h1 (hq.mp e)
        cases a <;> simp [bi, h1, h2]
    rw [e, ob]
    show f_X9_calledOn_L5 (nI c) (nI s) n (bi (anyf _ (i + 1))) (nI i + 1) M = _
    rw [n_a1]
    exact ih (i + 1) n _ (by omega) (by omega) rfl
theorem M_calledOn (hc : c < 2) {s : Nat} (hs : s < 2) : f_X9_calledOn (nI c) (nI s) M = some (bi (anyf (fun p => decide (p % 4 / 2 = s) && cal M c p) 8)) := by
  unfold f_X9_calledOn
  show (f_X9_calledOn_L5 (nI c) (nI s) 70 (bi false) (nI 0) M).bind _ = _
  rw [M_calledOnL hc hs 8 0 70 false rfl (by omega) rfl, ob, if_pos (bi_bb _)]
theorem n_rem2 {q : Nat} (h : q < 2147483648) : jrem (nI q) 2 = nI (q % 2) := pk_rem (d := 2) h (by omega) (by omega)
theorem n_rem4 {q : Nat} (h : q < 2147483648) : jrem (nI q) 4 = nI (q % 4) := pk_rem (d := 4) h (by omega) (by omega)
theorem n_rem5 {q : Nat} (h : q < 2147483648) : jrem (nI q) 5 = nI (q % 5) := pk_rem (d := 5) h (by omega) (by omega)
theorem n_rem8 {q : Nat} (h : q < 2147483648) : jrem (nI q) 8 = nI (q % 8) := pk_rem (d := 8) h (by omega) (by omega)
theorem n_rem {q d : Nat} (h : q < 2147483648) (h0 : 0 < d) (hd : d < 2147483648) : jrem (nI q) (nI d) = nI (q % d) := pk_rem h h0 hd
theorem n_1s {s : Nat} (hs : s < 2) : (1 : Int32) - nI s = nI (1 - s) := pk_sub (a := 1) (b := s) (by omega)
def bfr (M : Mem) (c s p : Nat) : Bool := (!decide (M 19 (2 * c + p / 4) = 0) && !decide (M 20 (2 * c + p / 4) ≤ nI p)) && (decide (p % 4 / 2 = s) && cal M c p)
def ndd (M : Mem) (c s : Nat) : Bool := anyf (fun p => decide (p % 4 / 2 = 1 - s) && cal M c p) 8 || anyf (bfr M c s) 8
def fwd (M : Mem) (c q : Nat) : Int32 := if q % 2 = 1 then -1 else if cal M c (q + 1) = true then nI (q + 1) else -1
theorem M_neededL (hc : c < 2) {s : Nat} (hs : s < 2) (hS : M 6 c = nI s) (a0 : Bool) : ∀ j i n (a : Bool), i + j = 8 → j < n → a = (a0 || anyf (bfr M c s) i) → f_X9_needed_L16 (nI c) n (bi a) (nI i) M = some (bi (a0 || anyf (bfr M c s) 8), 8) := by
  intro j
  induction j with
  | zero =>
    intro i n a hi hn ha
    obtain ⟨n, rfl⟩ : ∃ q, n = q + 1 := ⟨n - 1, by omega⟩
    have : i = 8 := by omega
    subst this
    rw [f_X9_needed_L16, if_pos c8_yes, ha]
    rfl
  | succ j ih =>
    intro i n a hi hn ha
    obtain ⟨n, rfl⟩ : ∃ q, n = q + 1 := ⟨n - 1, by omega⟩
    have h8 : i < 8 := by omega
    have hi4 : inb (nI (2 * c + i / 4)) 4 = true := inb_t (by omega) (by omega)
    have hi2 : inb (nI c) 2 = true := inb_t hc (by omega)
    rw [f_X9_needed_L16, if_neg (c8_no h8), M_ringOf h8, ob, M_sideOf h8, ob, M_called hc h8, ob]
    show Option.bind (if bi a = 0 then (if inb (nI (2 * c + i / 4)) 4 = true then _ else none) else some 1 : Option Int32) _ = _
    rw [if_pos hi4, if_pos hi4, if_pos hi2, ix_nI (by omega), ix_nI (by omega), hS]
    have e : (if bi a = 0 then (if M 19 (2 * c + i / 4) = 0 then some 0 else (if M 20 (2 * c + i / 4) ≤ nI i then some 0 else (if nI (i % 4 / 2) = nI s then (if bi (cal M c i) = 0 then some 0 else some 1) else some 0))) else some 1 : Option Int32) = some (bi (a0 || anyf (bfr M c s) (i + 1))) := by
      rw [anyf, ← Bool.or_assoc, ← ha]
      unfold bfr
      have hq : nI (i % 4 / 2) = nI s ↔ i % 4 / 2 = s := eq_nI (by omega) (by omega)
      by_cases h3 : M 19 (2 * c + i / 4) = 0
      · cases a <;> simp [bi, h3]
      · by_cases h4 : M 20 (2 * c + i / 4) ≤ nI i
        · cases a <;> simp [bi, h3, h4]
        · by_cases h1 : i % 4 / 2 = s
          · cases a <;> cases cal M c i <;> simp [bi, h1, h3, h4]
          · have h2 : ¬ nI (i % 4 / 2) = nI s := fun e => h1 (hq.mp e)
            cases a <;> simp [bi, h1, h2, h3, h4]
    rw [e, ob]
    show f_X9_needed_L16 (nI c) n (bi (a0 || anyf _ (i + 1))) (nI i + 1) M = _
    rw [n_a1]
    exact ih (i + 1) n _ (by omega) (by omega) rfl
theorem M_needed (hc : c < 2) {s : Nat} (hs : s < 2) (hS : M 6 c = nI s) : f_X9_needed (nI c) M = some (bi (ndd M c s)) := by
  unfold f_X9_needed ndd
  rw [if_pos (inb_t hc (by omega)), ix_nI (by omega), hS, n_1s hs, M_calledOn hc (by omega), ob]
  show (f_X9_needed_L16 (nI c) 70 (bi _) (nI 0) M).bind _ = _
  rw [M_neededL hc hs hS (anyf (fun p => decide (p % 4 / 2 = 1 - s) && cal M c p) 8) 8 0 70 _ rfl (by omega) (by rw [show anyf (bfr M c s) 0 = false from rfl, Bool.or_false]), ob, if_pos (bi_bb _)]
theorem M_forward0 (hc : c < 2) {r : Nat} (hr : r < 2) (h : M 19 (2 * c + r) = 0) : f_X9_forward (nI c) (nI (2 * c + r)) M = some (-1) := by
  unfold f_X9_forward
  rw [if_pos (inb_t (by omega) (by omega)), ix_nI (by omega), if_pos h]
theorem M_forward (hc : c < 2) {r q : Nat} (hr : r < 2) (hq : q < 8) (h : ¬ M 19 (2 * c + r) = 0) (hph : M 20 (2 * c + r) = nI q) : f_X9_forward (nI c) (nI (2 * c + r)) M = some (fwd M c q) := by
  unfold f_X9_forward fwd
  have hi : inb (nI (2 * c + r)) 4 = true := inb_t (by omega) (by omega)
  rw [if_pos hi, if_pos hi, if_pos hi, if_pos hi, ix_nI (by omega), if_neg h, hph, n_rem2 (by omega), n_a1]
  by_cases h2 : q % 2 = 1
  · rw [if_pos (by rw [h2]; rfl), if_pos h2]
  · have h3 : ¬ nI (q % 2) = 1 := fun e => h2 ((eq_nI (b := 1) (by omega) (by omega)).mp e)
    rw [if_neg h3, if_neg h2, M_called hc (by omega), ob]
    cases cal M c (q + 1) <;> simp [bi]
theorem M_wanted0 (hc : c < 2) {r s : Nat} (hr : r < 2) (hs : s < 2) (hS : M 6 c = nI s) (h : M 19 (2 * c + r) = 0) : f_X9_wanted (nI c) (nI (2 * c + r)) M = some (bi (ndd M c s)) := by
  unfold f_X9_wanted
  rw [M_forward0 hc hr h, ob, if_pos rfl, M_needed hc hs hS, ob]
  cases ndd M c s <;> rfl
theorem M_wanted (hc : c < 2) {r q s : Nat} (hr : r < 2) (hq : q < 8) (hs : s < 2) (hS : M 6 c = nI s) (h : ¬ M 19 (2 * c + r) = 0) (hph : M 20 (2 * c + r) = nI q) : f_X9_wanted (nI c) (nI (2 * c + r)) M = some (bi (!decide (fwd M c q = -1) || ndd M c s)) := by
  unfold f_X9_wanted
  rw [M_forward hc hr hq h hph, ob, M_needed hc hs hS, ob]
  by_cases h2 : fwd M c q = -1
  · rw [if_pos h2]
    cases ndd M c s <;> simp [bi, h2]
  · rw [if_neg h2]
    simp [bi, h2]
end LM
