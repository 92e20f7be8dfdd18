/-! A TICK, (g): the reference's monitor, and both -/
section Wm
variable {b c : Nat} {K K' M M' : Mem}
def dk (M : Mem) (c p : Nat) : Int32 := if M 8 (8 * c + p) = 0 then 0 else if M 15 (8 * c + p) = 0 then M 16 (8 * c + p) + 1 else 0
theorem M_dark (hc : c < 2) : ∃ M', f_X9_dark (nI c) M = some (bi (anyf (fun p => !decide (dk M c p ≤ 1)) 8), M') ∧ (∀ row k, row ≠ 16 → M' row k = M row k) ∧ (∀ k, (k < 8 * c ∨ 8 * c + 8 ≤ k) → M' 16 k = M 16 k) ∧ ∀ p, p < 8 → M' 16 (8 * c + p) = dk M c p := by
  obtain ⟨M', e, p1, p2, p3⟩ := loopA (fun n a i M => f_X9_dark_L7 (nI c) n a i M) (8 * c) (fun p => !decide (dk M c p ≤ 1)) (fun i M' => (∀ row k, row ≠ 16 → M' row k = M row k) ∧ (∀ k, (k < 8 * c ∨ 8 * c + i ≤ k) → M' 16 k = M 16 k) ∧ ∀ p, p < i → M' 16 (8 * c + p) = dk M c p)
    (fun n a M => by show f_X9_dark_L7 (nI c) (n + 1) a (nI (8 * c + 8)) M = _; rw [f_X9_dark_L7, n_8, n_a8, if_pos ((le_nI (by omega) (by omega)).mpr (by omega))])
    (fun n i a M' hi hP => by
      obtain ⟨p1, p2, p3⟩ := hP
      have hle : ¬ nI (8 * c + 8) ≤ nI (8 * c + i) := fun e => absurd ((le_nI (by omega) (by omega)).mp e) (by omega)
      have i16 : inb (nI (8 * c + i)) 16 = true := inb_t (by omega) (by omega)
      have x16 : ix (nI (8 * c + i)) = 8 * c + i := ix_nI (by omega)
      have ev : (if M' 8 (8 * c + i) = 0 then some 0 else (if M' 15 (8 * c + i) = 0 then some (M' 16 (8 * c + i) + 1) else some 0) : Option Int32) = some (dk M c i) := by
        rw [p1 8 _ (by omega), p1 15 _ (by omega), p2 _ (by omega)]
        unfold dk
        by_cases h1 : M 8 (8 * c + i) = 0
        · rw [if_pos h1, if_pos h1]
        · rw [if_neg h1, if_neg h1]
          by_cases h2 : M 15 (8 * c + i) = 0
          · rw [if_pos h2, if_pos h2]
          · rw [if_neg h2, if_neg h2]
      refine ⟨ks M' 16 (8 * c + i) (dk M c i), ?_, fun row k hr => by rw [ks_i hr]; exact p1 row k hr, fun k hk => by rw [ks_k (by omega)]; exact p2 k (by omega), fun p hp => ?_⟩
      · show f_X9_dark_L7 (nI c) (n + 1) (bi a) (nI (8 * c + i)) M' = f_X9_dark_L7 (nI c) n (bi (a || _)) (nI (8 * c + i + 1)) _
        rw [f_X9_dark_L7, n_8, n_a8, if_neg hle]
        simp only [i16, x16, if_true, ev, ob, st, ks_s, lt, n_a1]
        cases a
        · by_cases h : dk M c i ≤ 1 <;> simp [h, bi]
        · simp [bi]
      · rcases Nat.lt_or_ge p i with hlt | hge
        · rw [ks_k (by omega)]
          exact p3 p hlt
        · have : p = i := by omega
          subst this
          rw [ks_s]) 8 0 70 false M rfl (by omega) ⟨fun _ _ _ => rfl, fun _ _ => rfl, fun p hp => absurd hp (by omega)⟩ rfl
  refine ⟨M', ?_, p1, p2, p3⟩
  unfold f_X9_dark
  simp only [lt, n_8]
  have e' : f_X9_dark_L7 (nI c) 70 0 (nI (8 * c)) M = _ := e
  rw [e', ob, if_pos (bi_bb _)]
theorem M_short (hc : c < 2) : ∃ M', f_X9_tooShort (nI c) M = some (bi (anyf (fun p => !decide (M 17 (8 * c + p) = 0) && (decide (M 15 (8 * c + p) ≤ 1) && !decide ((3 : Int32) ≤ yt (M 15 (8 * c + p)) (M 18 (8 * c + p))))) 8), M') ∧ (∀ row k, row ≠ 17 → row ≠ 18 → M' row k = M row k) ∧ (∀ row k, (k < 8 * c ∨ 8 * c + 8 ≤ k) → M' row k = M row k) ∧ ∀ p, p < 8 → M' 18 (8 * c + p) = yt (M 15 (8 * c + p)) (M 18 (8 * c + p)) ∧ M' 17 (8 * c + p) = bi (!decide (M 15 (8 * c + p) ≤ 1)) := by
  obtain ⟨M', e, p1, p2, p3⟩ := loopA (fun n a i M => f_X9_tooShort_L7 (nI c) n a i M) (8 * c) (fun p => !decide (M 17 (8 * c + p) = 0) && (decide (M 15 (8 * c + p) ≤ 1) && !decide ((3 : Int32) ≤ yt (M 15 (8 * c + p)) (M 18 (8 * c + p))))) (fun i M' => (∀ row k, row ≠ 17 → row ≠ 18 → M' row k = M row k) ∧ (∀ row k, (k < 8 * c ∨ 8 * c + i ≤ k) → M' row k = M row k) ∧ ∀ p, p < i → M' 18 (8 * c + p) = yt (M 15 (8 * c + p)) (M 18 (8 * c + p)) ∧ M' 17 (8 * c + p) = bi (!decide (M 15 (8 * c + p) ≤ 1)))
    (fun n a M => by show f_X9_tooShort_L7 (nI c) (n + 1) a (nI (8 * c + 8)) M = _; rw [f_X9_tooShort_L7, n_8, n_a8, if_pos ((le_nI (by omega) (by omega)).mpr (by omega))])
    (fun n i a M' hi hP => by
      obtain ⟨p1, p2, p3⟩ := hP
      have hle : ¬ nI (8 * c + 8) ≤ nI (8 * c + i) := fun e => absurd ((le_nI (by omega) (by omega)).mp e) (by omega)
      have i16 : inb (nI (8 * c + i)) 16 = true := inb_t (by omega) (by omega)
      have x16 : ix (nI (8 * c + i)) = 8 * c + i := ix_nI (by omega)
      have e15 : M' 15 (8 * c + i) = M 15 (8 * c + i) := p1 15 _ (by omega) (by omega)
      have e18 : M' 18 (8 * c + i) = M 18 (8 * c + i) := p2 18 _ (by omega)
      have e17 : M' 17 (8 * c + i) = M 17 (8 * c + i) := p2 17 _ (by omega)
      -- the middle memory
      obtain ⟨M2, ev, v17, v18, vo⟩ : ∃ M2, (if M' 15 (8 * c + i) &&& 4 = 0 then (if M' 15 (8 * c + i) &&& 2 = 0 then some M' else some (ks M' 18 (8 * c + i) (M' 18 (8 * c + i) + 1))) else some (ks M' 18 (8 * c + i) 0) : Option Mem) = some M2 ∧ M2 17 (8 * c + i) = M 17 (8 * c + i) ∧ M2 18 (8 * c + i) = yt (M 15 (8 * c + i)) (M 18 (8 * c + i)) ∧ ∀ row k, ¬ (row = 18 ∧ k = 8 * c + i) → M2 row k = M' row k := by
        rw [e15, e18]
        unfold yt
        by_cases h4 : M 15 (8 * c + i) &&& 4 = 0
        · by_cases h2 : M 15 (8 * c + i) &&& 2 = 0
          · rw [if_pos h4, if_pos h2, if_pos h4, if_pos h2]
            exact ⟨_, rfl, e17, e18, fun _ _ _ => rfl⟩
          · rw [if_pos h4, if_neg h2, if_pos h4, if_neg h2]
            exact ⟨_, rfl, by rw [ks_i (by omega)]; exact e17, ks_s _ _ _ _, fun row k h => ks_n (by omega)⟩
        · rw [if_neg h4, if_neg h4]
          exact ⟨_, rfl, by rw [ks_i (by omega)]; exact e17, ks_s _ _ _ _, fun row k h => ks_n (by omega)⟩
      refine ⟨ks M2 17 (8 * c + i) (bi (!decide (M 15 (8 * c + i) ≤ 1))), ?_, fun row k h1 h2 => by rw [ks_i h1, vo _ _ (by omega)]; exact p1 row k h1 h2, fun row k hk => by rw [ks_k (by omega), vo _ _ (by omega)]; exact p2 row k (by omega), fun p hp => ?_⟩
      · show f_X9_tooShort_L7 (nI c) (n + 1) (bi a) (nI (8 * c + i)) M' = f_X9_tooShort_L7 (nI c) n (bi (a || _)) (nI (8 * c + i + 1)) _
        rw [f_X9_tooShort_L7, n_8, n_a8, if_neg hle]
        have eg : (if M' 15 (8 * c + i) ≤ 1 then some 0 else some 1 : Option Int32) = some (bi (!decide (M 15 (8 * c + i) ≤ 1))) := by
          rw [e15]
          by_cases h : M 15 (8 * c + i) ≤ 1 <;> simp [h, bi]
        simp only [i16, x16, if_true, st, lt, n_a1]
        rw [eg, ob, ev, ob, v17, v18, bi_nar]
        cases a
        · by_cases h1 : M 17 (8 * c + i) = 0
          · simp [h1, bi]
          · by_cases h2 : M 15 (8 * c + i) ≤ 1
            · by_cases h3 : (3 : Int32) ≤ yt (M 15 (8 * c + i)) (M 18 (8 * c + i)) <;> simp [h1, h2, h3, bi]
            · simp [h1, h2, bi]
        · simp [bi]
      · rcases Nat.lt_or_ge p i with hlt | hge
        · rw [ks_n (by omega), ks_n (by omega), vo _ _ (by omega), vo _ _ (by omega)]
          exact p3 p hlt
        · have : p = i := by omega
          subst this
          rw [ks_s, ks_i (by omega), v18]
          exact ⟨rfl, rfl⟩) 8 0 70 false M rfl (by omega) ⟨fun _ _ _ _ => rfl, fun _ _ _ => rfl, fun p hp => absurd hp (by omega)⟩ rfl
  refine ⟨M', ?_, p1, p2, p3⟩
  unfold f_X9_tooShort
  simp only [lt, n_8]
  have e' : f_X9_tooShort_L7 (nI c) 70 0 (nI (8 * c)) M = _ := e
  rw [e', ob, if_pos (bi_bb _)]
def Zc (G : Nat → Int32) (p q : Nat) : Bool := !decide (G p ≤ 1) && (!decide (G q ≤ 1) && !tg p q)
theorem M_conf (hc : c < 2) : f_X9_conflict (nI c) M = some (bi (anyf (fun p => anyf (Zc (fun p => M 15 (8 * c + p)) p) p) 8)) := by
  have inner : ∀ p, p < 8 → ∀ a : Bool, f_X9_conflict_L13 (nI c) (nI p) 70 (bi a) 0 M = some (bi (a || anyf (Zc (fun p => M 15 (8 * c + p)) p) p), nI p) := by
    intro p hp a
    refine loopB (fun n a i => f_X9_conflict_L13 (nI c) (nI p) n a i M) p (Zc (fun p => M 15 (8 * c + p)) p) a (fun n a => by show f_X9_conflict_L13 (nI c) (nI p) (n + 1) a (nI p) M = _; rw [f_X9_conflict_L13, if_pos ((le_nI (by omega) (by omega)).mpr (by omega))]) (fun n i a hi => ?_) p 0 70 a (by omega) (by omega) (by rw [show anyf (Zc (fun p => M 15 (8 * c + p)) p) 0 = false from rfl, Bool.or_false])
    show f_X9_conflict_L13 (nI c) (nI p) (n + 1) (bi a) (nI i) M = _
    have hle : ¬ nI p ≤ nI i := fun e => absurd ((le_nI (by omega) (by omega)).mp e) (by omega)
    have e4 : ∀ q, q < 8 → ((4 : Int32) ≤ nI q ↔ 4 ≤ q) := fun q hq => q_le 4 q (by omega) (by omega)
    have es : nI (p % 4 / 2) = nI (i % 4 / 2) ↔ p % 4 / 2 = i % 4 / 2 := eq_nI (by omega) (by omega)
    have et : ((if (4 : Int32) ≤ nI p then some 0 else some 1 : Option Int32).bind fun v7 => (if (4 : Int32) ≤ nI i then some 0 else some 1 : Option Int32).bind fun v10 => if v7 = v10 then some 1 else ((f_X9_sideOf (nI p) M).bind fun u13 => (f_X9_sideOf (nI i) M).bind fun u15 => if u13 = u15 then some 0 else some 1)) = some (bi (!tg p i)) := by
      rw [M_sideOf hp, ob, M_sideOf (by omega), ob]
      unfold tg
      by_cases h1 : 4 ≤ p
      · by_cases h2 : 4 ≤ i
        · rw [if_pos ((e4 p hp).mpr h1), if_pos ((e4 i (by omega)).mpr h2)]
          have : p / 4 = i / 4 := by omega
          simp [this, bi]
        · rw [if_pos ((e4 p hp).mpr h1), if_neg (fun e => h2 ((e4 i (by omega)).mp e))]
          have : ¬ p / 4 = i / 4 := by omega
          by_cases h3 : p % 4 / 2 = i % 4 / 2
          · simp [this, h3, bi]
          · have h4 : ¬ nI (p % 4 / 2) = nI (i % 4 / 2) := fun e => h3 (es.mp e)
            simp [h3, h4, bi]
      · have h2 : ¬ 4 ≤ i := by omega
        rw [if_neg (fun e => h1 ((e4 p hp).mp e)), if_neg (fun e => h2 ((e4 i (by omega)).mp e))]
        have : p / 4 = i / 4 := by omega
        simp [this, bi]
    rw [f_X9_conflict_L13, if_neg hle]
    simp only [n_8, n_ak, inb_t (show 8 * c + p < 16 by omega) (show 16 < 2147483648 by omega), inb_t (show 8 * c + i < 16 by omega) (show 16 < 2147483648 by omega), if_true, ix_nI (show 8 * c + p < 2147483648 by omega), ix_nI (show 8 * c + i < 2147483648 by omega), lt, n_a1]
    rw [et]
    unfold Zc
    cases a
    · by_cases h1 : M 15 (8 * c + p) ≤ 1
      · simp [h1, bi]
      · by_cases h2 : M 15 (8 * c + i) ≤ 1
        · simp [h1, h2, bi]
        · simp [h1, h2, bi]
    · simp [bi]
  unfold f_X9_conflict
  have e := loopB (fun n a i => f_X9_conflict_L4 (nI c) n a i M) 8 (fun p => anyf (Zc (fun p => M 15 (8 * c + p)) p) p) false (fun n a => by show f_X9_conflict_L4 (nI c) (n + 1) a (nI 8) M = _; rw [f_X9_conflict_L4, if_pos c8_yes]) (fun n i a hi => by
    show f_X9_conflict_L4 (nI c) (n + 1) (bi a) (nI i) M = _
    rw [f_X9_conflict_L4, if_neg (c8_no hi)]
    simp only [lt, n_a1]
    rw [inner i hi a, ob]) 8 0 70 false rfl (by omega) rfl
  have e' : f_X9_conflict_L4 (nI c) 70 0 0 M = _ := e
  simp only [lt]
  rw [e', ob, Bool.false_or, if_pos (bi_bb _)]
theorem lampv_gs {x : Int32} (h : lampv x) : (x ≤ 1 ↔ x &&& 6 = 0) ∧ (x &&& 6 = 0 → x &&& 4 = 0 ∧ x &&& 2 = 0) := by
  rcases h with rfl | rfl | rfl | rfl | rfl | rfl <;> decide
theorem cf_eq {U : Nat → Bool} {L : Nat → Int32} (hv : ∀ p, p < 8 → lampv (L p)) (hu : ∀ p, p < 8 → U p = false → L p = 0) : anyf (fun p => anyf (fun q => decide (p + 1 ≤ q) && Yc U L p q) 8) 8 = anyf (fun p => anyf (Zc L p) p) 8 := by
  have tgc : ∀ p q, tg p q = tg q p := fun p q => by
    unfold tg
    have h1 : decide (p / 4 = q / 4) = decide (q / 4 = p / 4) := decide_eq_decide.mpr eq_comm
    have h2 : decide (p % 4 / 2 = q % 4 / 2) = decide (q % 4 / 2 = p % 4 / 2) := decide_eq_decide.mpr eq_comm
    rw [h1, h2]
  rw [Bool.eq_iff_iff, anyf_iff, anyf_iff]
  constructor
  · rintro ⟨p, hp, e⟩
    obtain ⟨q, hq, e⟩ := (anyf_iff _ 8).mp e
    simp only [Yc, Bool.and_eq_true, decide_eq_true_eq, Bool.not_eq_true', decide_eq_false_iff_not] at e
    obtain ⟨e1, ⟨-, -⟩, e3, e4, e5⟩ := e
    refine ⟨q, hq, (anyf_iff _ q).mpr ⟨p, by omega, ?_⟩⟩
    simp only [Zc, Bool.and_eq_true, Bool.not_eq_true', decide_eq_false_iff_not]
    exact ⟨fun e => e4 ((lampv_gs (hv q hq)).1.mp e), fun e => e3 ((lampv_gs (hv p hp)).1.mp e), by rw [tgc]; exact e5⟩
  · rintro ⟨p, hp, e⟩
    obtain ⟨q, hq, e⟩ := (anyf_iff _ p).mp e
    simp only [Zc, Bool.and_eq_true, Bool.not_eq_true', decide_eq_false_iff_not] at e
    obtain ⟨e1, e2, e3⟩ := e
    have g1 : ¬ L p &&& 6 = 0 := fun e => e1 ((lampv_gs (hv p hp)).1.mpr e)
    have g2 : ¬ L q &&& 6 = 0 := fun e => e2 ((lampv_gs (hv q (by omega))).1.mpr e)
    have u1 : U p = true := by
      cases hx : U p
      · rw [hu p hp hx] at g1
        exact absurd (by decide) g1
      · rfl
    have u2 : U q = true := by
      cases hx : U q
      · rw [hu q (by omega) hx] at g2
        exact absurd (by decide) g2
      · rfl
    refine ⟨q, by omega, (anyf_iff _ 8).mpr ⟨p, hp, ?_⟩⟩
    simp only [Yc, Bool.and_eq_true, decide_eq_true_eq, Bool.not_eq_true', decide_eq_false_iff_not]
    exact ⟨by omega, ⟨u2, u1⟩, g2, g1, by rw [tgc]; exact e3⟩
end Wm
