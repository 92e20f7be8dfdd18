/-! A TICK, (b): the link -/
theorem bmod_s {z : Int} (h1 : -2147483648 ≤ z) (h2 : z < 2147483648) : z.bmod (2 ^ 32) = z := Int.bmod_eq_of_le_mul_two (by omega) (by omega)
theorem jrem_i {x y : Int32} {z w : Int} (hx : x.toInt = z) (hy : y.toInt = w) (h1 : -1048576 < z) (h2 : z < 1048576) (h3 : 0 < w) (h4 : w < 1048576) : (jrem x y).toInt = z.tmod w := by
  have hne : y ≠ -1 := fun e => by
    rw [e] at hy
    have : (-1 : Int32).toInt = -1 := by decide
    omega
  have hd := Int32.toInt_div_of_ne_right x y hne
  rw [hx, hy] at hd
  have hm := Int.tmod_add_tdiv_mul z w
  have hl := Int.tmod_lt_of_pos z h3
  have hn : -w < z.tmod w := by
    have := Int.tmod_lt_of_pos (-z) h3
    rw [Int.neg_tmod] at this
    omega
  unfold jrem
  rw [Int32.toInt_sub, Int32.toInt_mul, hd, hx, hy, bmod_s (z := z.tdiv w * w) (by omega) (by omega), bmod_s (by omega) (by omega)]
  omega
theorem xor_sg {x y : Int32} (hy : 0 ≤ y) : 0 ≤ x ^^^ y ↔ 0 ≤ x := by
  have neg : ∀ a : Int32, a < 0 ↔ bt a 31 = true := by
    intro a
    rw [Int32.lt_iff_toInt_lt]
    have e : a.toBitVec.msb = bt a 31 := by
      unfold bt
      rw [BitVec.msb_eq_getLsbD_last]
    rw [← e, BitVec.msb_eq_toInt]
    simp
  have h1 : bt y 31 = false := by
    cases h : bt y 31
    · rfl
    · exact absurd ((neg y).mpr h) (Int32.not_lt.mpr hy)
  constructor
  · intro h
    refine Int32.not_lt.mp (fun q => ?_)
    have := (neg x).mp q
    refine absurd ((neg (x ^^^ y)).mpr ?_) (Int32.not_lt.mpr h)
    rw [b_xor, this, h1]
    rfl
  · intro h
    refine Int32.not_lt.mp (fun q => ?_)
    have := (neg _).mp q
    rw [b_xor, h1] at this
    refine absurd ((neg x).mpr ?_) (Int32.not_lt.mpr h)
    cases hx : bt x 31
    · rw [hx] at this
      cases this
    · rfl
theorem tm_e (z : Int) (y : Nat) : z.tmod y = z % y - (if 0 ≤ z ∨ (y : Int) ∣ z then 0 else (y : Int)) := by
  rw [Int.tmod_eq_emod]
  by_cases h : 0 ≤ z ∨ (y : Int) ∣ z
  · rw [if_pos h, if_pos h]
    rfl
  · rw [if_neg h, if_neg h]
    rfl
section Lk
variable {T b c : Nat} {K M : Mem}
theorem nI_Int {n : Nat} (h : n < 2147483648) : (nI n).toInt = (n : Int) := nI_toInt h
/-- wrap of any small number -/
theorem C_wrapZ {x : Int32} {z : Int} {y : Nat} (hx : x.toInt = z) (h1 : -1048576 < z) (h2 : z < 1048576) (h0 : 0 < y) (hy : y < 1048576) : f_X8_wrap x (nI y) K = some (nI (z % (y : Int)).toNat) := by
  have q1 : ¬ nI y ≤ 0 := nI_nle h0 (by omega)
  have q2 : ¬ nI y = 0 := nI_ne0 h0 (by omega)
  have hyI : (nI y).toInt = (y : Int) := nI_Int (by omega)
  have hj := jrem_i hx hyI h1 h2 (by omega) (by omega)
  have he0 := Int.emod_nonneg z (show (y : Int) ≠ 0 by omega)
  have he1 := Int.emod_lt_of_pos z (show (0 : Int) < y by omega)
  have ht := tm_e z y
  have hr : (nI (z % (y : Int)).toNat).toInt = z % y := by
    rw [nI_Int (by omega)]
    omega
  unfold f_X8_wrap f_J9_floorMod_7cf53
  rw [if_neg q1, if_neg q2]
  simp only [lt]
  have hs := xor_sg (x := x) (nI_0le (show y < 2147483648 by omega))
  by_cases hz : 0 ≤ z
  · have hx0 : (0 : Int32) ≤ x := Int32.le_iff_toInt_le.mpr (by rw [hx]; exact hz)
    rw [if_pos (hs.mpr hx0), ob]
    congr 1
    refine Int32.toInt_inj.mp ?_
    rw [hj, ht, if_pos (Or.inl hz), hr]
    omega
  · have hx0 : ¬ (0 : Int32) ≤ x := fun e => hz (by have := Int32.le_iff_toInt_le.mp e; rw [hx] at this; exact this)
    rw [if_neg (fun e => hx0 (hs.mp e))]
    by_cases hd : (y : Int) ∣ z
    · rw [if_pos (Or.inr hd)] at ht
      have e0 : z % (y : Int) = 0 := Int.emod_eq_zero_of_dvd hd
      have : jrem x (nI y) = 0 := Int32.toInt_inj.mp (by rw [hj, ht, e0]; rfl)
      rw [if_pos this, ob, this, e0]
      rfl
    · rw [if_neg (fun e => e.elim hz hd)] at ht
      have hne : ¬ jrem x (nI y) = 0 := fun e => by
        have e2 := congrArg Int32.toInt e
        rw [hj, ht] at e2
        have : (0 : Int32).toInt = 0 := rfl
        omega
      rw [if_neg hne, ob]
      congr 1
      refine Int32.toInt_inj.mp ?_
      rw [Int32.toInt_add, hj, ht, hyI, hr, bmod_s (by omega) (by omega)]
      omega
theorem sub_I {a d : Nat} (ha : a < 1048576) (hd : d < 1048576) : (nI a - nI d).toInt = (a : Int) - d := by
  rw [Int32.toInt_sub, nI_Int (by omega), nI_Int (by omega), bmod_s (by omega) (by omega)]
/-- the reference's own way to a remainder that isn't negative -/
theorem M_mod {x : Int32} {z : Int} {y : Nat} (hx : x.toInt = z) (h1 : -1048576 < z) (h2 : z < 1048576) (h0 : 0 < y) (hy : y < 1000) : jrem (jrem x (nI y) + nI y) (nI y) = nI (z % (y : Int)).toNat := by
  have hyI : (nI y).toInt = (y : Int) := nI_Int (by omega)
  have hj := jrem_i hx hyI h1 h2 (by omega) (by omega)
  have he0 := Int.emod_nonneg z (show (y : Int) ≠ 0 by omega)
  have he1 := Int.emod_lt_of_pos z (show (0 : Int) < y by omega)
  have ht := tm_e z y
  have hr : (nI (z % (y : Int)).toNat).toInt = z % y := by
    rw [nI_Int (by omega)]
    omega
  refine Int32.toInt_inj.mp ?_
  have ha : (jrem x (nI y) + nI y).toInt = z.tmod y + y := by
    rw [Int32.toInt_add, hj, hyI, bmod_s (by split at ht <;> omega) (by split at ht <;> omega)]
  rw [jrem_i ha hyI (by split at ht <;> omega) (by split at ht <;> omega) (by omega) (by omega), Int.tmod_eq_emod_of_nonneg (by split at ht <;> omega), hr, ht, Int.add_emod_right]
  split
  · rw [Int.sub_zero, Int.emod_emod_of_dvd _ (Int.dvd_refl _)]
  · rw [Int.sub_emod, Int.emod_emod_of_dvd _ (Int.dvd_refl _), Int.emod_self, Int.sub_zero, Int.emod_emod_of_dvd _ (Int.dvd_refl _)]
theorem emod_nat {z : Int} {n y : Nat} (h0 : 0 < y) (h : (n : Int) % y = z % y) : (z % (y : Int)).toNat = n % y := by
  rw [← h]
  omega
theorem em_sub (a l c : Int) : (a - l) % c = (a % c - l) % c := by
  rw [Int.sub_emod a l, Int.sub_emod (a % c) l, Int.emod_emod_of_dvd _ (Int.dvd_refl _)]
theorem lk_6 {cy l k oo : Nat} (hk : k < 1000000) (ho : oo < cy) (hl : l < cy) (hc : cy < 1000) (K : Mem) : ∃ z6, z6 < cy ∧ f_X8_wrap ((nI k - nI oo) - nI l) (nI cy) K = some (nI z6) ∧ jrem (((jrem (jrem (nI k - nI oo) (nI cy) + nI cy) (nI cy)) - nI l) + nI cy) (nI cy) = nI z6 := by
  have b1 := sub_I (show k < 1048576 by omega) (show oo < 1048576 by omega)
  have b2 : ((nI k - nI oo) - nI l).toInt = (k : Int) - oo - l := by
    rw [Int32.toInt_sub, b1, nI_Int (by omega), bmod_s (by omega) (by omega)]
  have w1 := C_wrapZ (K := K) b2 (by omega) (by omega) (show 0 < cy by omega) (by omega)
  have w2 := M_mod b1 (by omega) (by omega) (show 0 < cy by omega) hc
  have e0 := Int.emod_nonneg ((k : Int) - oo) (show (cy : Int) ≠ 0 by omega)
  have e1 := Int.emod_lt_of_pos ((k : Int) - oo) (show (0 : Int) < cy by omega)
  rw [em_sub] at w1
  generalize ((k : Int) - oo) % (cy : Int) = E at e0 e1 w1 w2
  rw [w2, w1]
  have w3 : (nI E.toNat - nI l) + nI cy = nI (E.toNat + cy - l) := by
    refine Int32.toInt_inj.mp ?_
    rw [Int32.toInt_add, sub_I (by omega) (by omega), nI_Int (by omega), nI_Int (by omega), bmod_s (by omega) (by omega)]
    omega
  rw [w3, n_rem (by omega) (by omega) (by omega)]
  have w4 : ((E - l) % (cy : Int)).toNat = (E.toNat + cy - l) % cy := by
    refine emod_nat (by omega) ?_
    have c1 : ((E.toNat + cy - l : Nat) : Int) = (E - l) + cy := by omega
    rw [c1, Int.add_emod_right]
  rw [w4]
  exact ⟨(E.toNat + cy - l) % cy, Nat.mod_lt _ (by omega), rfl, rfl⟩
theorem lk_way {cy l z6 : Nat} (hz : z6 < cy) (hl : l < cy) (hc : cy < 1000) (K : Mem) : ∃ lc, lc < cy ∧ ((f_X3_shorterWay (nI z6) (nI cy) K).bind fun u13 => f_X8_wrap (nI l + u13) (nI cy) K) = some (nI lc) ∧ ((nI z6 = 0 ∧ lc = l) ∨ (¬ nI z6 = 0 ∧ ∃ v, (if nI cy - nI z6 < nI z6 then some (nI l - 1) else some (nI l + 1) : Option Int32) = some v ∧ jrem (v + nI cy) (nI cy) = nI lc)) := by
  unfold f_X3_shorterWay
  by_cases hz6 : z6 = 0
  · subst hz6
    refine ⟨l, hl, ?_, Or.inl ⟨rfl, rfl⟩⟩
    rw [if_pos (show nI 0 = 0 from rfl), ob, n_a0, C_wrap (by omega) (by omega) (by omega), Nat.mod_eq_of_lt hl]
  · have n6 : ¬ nI z6 = 0 := nI_ne0 (by omega) (by omega)
    have s6 : nI cy - nI z6 = nI (cy - z6) := pk_sub (by omega)
    rw [if_neg n6, s6]
    by_cases hd : cy - z6 < z6
    · have hd' : nI (cy - z6) < nI z6 := (lt_nI (by omega) (by omega)).mpr hd
      rw [if_pos hd', if_pos hd', ob]
      have w5 : (nI l + (-1)).toInt = (l : Int) - 1 := by
        rw [Int32.toInt_add, nI_Int (by omega), show (-1 : Int32).toInt = -1 by decide, bmod_s (by omega) (by omega)]
        omega
      have w6 : (nI l - 1) + nI cy = nI (l + cy - 1) := by
        refine Int32.toInt_inj.mp ?_
        rw [Int32.toInt_add, Int32.toInt_sub, nI_Int (by omega), nI_Int (by omega), nI_Int (by omega), show (1 : Int32).toInt = 1 by decide, bmod_s (z := (l : Int) - 1) (by omega) (by omega), bmod_s (by omega) (by omega)]
        omega
      rw [C_wrapZ w5 (by omega) (by omega) (show 0 < cy by omega) (by omega)]
      have w7 : (((l : Int) - 1) % (cy : Int)).toNat = (l + cy - 1) % cy := by
        refine emod_nat (by omega) ?_
        have c1 : ((l + cy - 1 : Nat) : Int) = ((l : Int) - 1) + cy := by omega
        rw [c1, Int.add_emod_right]
      rw [w7]
      exact ⟨(l + cy - 1) % cy, Nat.mod_lt _ (by omega), rfl, Or.inr ⟨n6, _, rfl, by rw [w6, n_rem (by omega) (by omega) (by omega)]⟩⟩
    · have hd' : ¬ nI (cy - z6) < nI z6 := fun q => hd ((lt_nI (by omega) (by omega)).mp q)
      rw [if_neg hd', if_neg hd', ob, n_a1, C_wrap (by omega) (by omega) (by omega)]
      refine ⟨(l + 1) % cy, Nat.mod_lt _ (by omega), rfl, Or.inr ⟨n6, _, rfl, ?_⟩⟩
      rw [n_ak, n_rem (by omega) (by omega) (by omega), Nat.add_mod_right]
theorem ks_ks (X : Mem) (i k : Nat) (u v : Int32) : ks (ks X i k u) i k v = ks X i k v := by
  funext x y
  simp only [ks]
  by_cases hx : x = i <;> by_cases hy : y = k <;> simp [hx, hy]
theorem s_link (hbc : BC b c) (hc : c < 2) {k : Nat} (hk : k < 1000000) (hclk : M 0 1 = nI k) (hPl : rPl K M) (h : RC b c K M) : ∃ K' M', f_X3_pass (b + 8) (nI k) K = some K' ∧ f_X9_link (nI c) M = some M' ∧ RC b c K' M' ∧ oK b K K' ∧ oM c M M' := by
  have i2 : inb (nI c) 2 = true := inb_t hc (by omega)
  have x2 : ix (nI c) = c := ix_nI (by omega)
  obtain ⟨l0, l1, l2, l3, l5, ⟨n, hn, l6⟩, l7⟩ := h.2.2.2.2.1
  rcases l5 with e | ⟨j, hj, e, hm, sl, hsl, es⟩
  · have g : ¬ (0 : Int32) ≤ M 32 c := by rw [e]; decide
    exact ⟨K, M, by simp [f_X3_pass, l0, e], by simp only [f_X9_link, i2, x2, if_true, lt, g, if_false], h, oK_rf, oM_rf⟩
  · obtain ⟨cy, oo, ss, q1, q2, q3, q4, q5, q6, q7, q8⟩ := ((hPl j hj).2.2.2).resolve_left hm
    have g : (0 : Int32) ≤ nI j := nI_0le (by omega)
    have gm : ¬ nI j = -1 := nI_ne_m1 (by omega)
    have ij : inb (nI j) 4 = true := inb_t hj (by omega)
    have xj : ix (nI j) = j := ix_nI (by omega)
    have cz : ¬ nI cy = 0 := nI_ne0 (by omega) (by omega)
    by_cases hs : sl + 1 = 30
    · -- silent for too long
      refine ⟨ks (ks K (b + 8) 2 (nI 30)) (b + 8) 0 (-1), ks (ks M 34 c (nI 30)) 32 c (-1), ?_, ?_, ?_, (fun i k hi => by (repeat rw [ks_n (by omega)]) <;> rfl), (fun row k hn => by (repeat rw [ks_n (by unfold slc at hn; omega)]) <;> rfl)⟩
      · have a1 : ¬ nI 30 < 30 := by decide
        simp only [f_X3_pass, l0, e, gm, if_false, st, l2, es, n_a1, hs, ks_s, a1]
      · simp only [f_X9_link, i2, x2, if_true, lt, e, g, st, es, n_a1, hs, ks_s]
        rw [if_pos (show nI 30 = 30 from rfl)]
      · refine ⟨(rTab_f (by intro k; (repeat rw [ks_n (by omega)]) <;> rfl) (by intro k; (repeat rw [ks_n (by omega)]) <;> rfl) (by intro i hi; (repeat rw [ks_n (by omega)]) <;> rfl) (by intro i hi; (repeat rw [ks_n (by omega)]) <;> rfl) h.1), (rUse_f (by (repeat rw [ks_n (by omega)]) <;> rfl) (by intro i hi; (repeat rw [ks_n (by omega)]) <;> rfl) (by intro i hi; (repeat rw [ks_n (by omega)]) <;> rfl) h.2.1), (rCal_f (by (repeat rw [ks_n (by omega)]) <;> rfl) (by (repeat rw [ks_n (by omega)]) <;> rfl) (by intro i hi; (repeat rw [ks_n (by omega)]) <;> rfl) (by intro i hi; (repeat rw [ks_n (by omega)]) <;> rfl) (by intro i hi; (repeat rw [ks_n (by omega)]) <;> rfl) h.2.2.1), (rDet_f (by intro k; (repeat rw [ks_n (by omega)]) <;> rfl) (by intro k; (repeat rw [ks_n (by omega)]) <;> rfl) (by intro k; (repeat rw [ks_n (by omega)]) <;> rfl) (by intro i hi; (repeat rw [ks_n (by omega)]) <;> rfl) (by intro i hi; (repeat rw [ks_n (by omega)]) <;> rfl) (by intro i hi; (repeat rw [ks_n (by omega)]) <;> rfl) h.2.2.2.1), ?_, (rInp_f (by intro k; (repeat rw [ks_n (by omega)]) <;> rfl) (by intro k; (repeat rw [ks_n (by omega)]) <;> rfl) (by intro i hi; (repeat rw [ks_n (by omega)]) <;> rfl) (by intro i hi; (repeat rw [ks_n (by omega)]) <;> rfl) h.2.2.2.2.2.1), (rSc_f (by (repeat rw [ks_n (by omega)]) <;> rfl) (by (repeat rw [ks_n (by omega)]) <;> rfl) (by (repeat rw [ks_n (by omega)]) <;> rfl) (by (repeat rw [ks_n (by omega)]) <;> rfl) (by (repeat rw [ks_n (by omega)]) <;> rfl) (by (repeat rw [ks_n (by omega)]) <;> rfl) (by (repeat rw [ks_n (by omega)]) <;> rfl) (by (repeat rw [ks_n (by omega)]) <;> rfl) (by (repeat rw [ks_n (by omega)]) <;> rfl) (by (repeat rw [ks_n (by omega)]) <;> rfl) h.2.2.2.2.2.2.1), (rHad_f (by (repeat rw [ks_n (by omega)]) <;> rfl) (by (repeat rw [ks_n (by omega)]) <;> rfl) (by intro i hi; (repeat rw [ks_n (by omega)]) <;> rfl) (by intro i hi; (repeat rw [ks_n (by omega)]) <;> rfl) (by intro i hi; (repeat rw [ks_n (by omega)]) <;> rfl) h.2.2.2.2.2.2.2.1), (rRing_f (by omega) (by intro k; (repeat rw [ks_n (by omega)]) <;> rfl) (by intro i hi; (repeat rw [ks_n (by omega)]) <;> rfl) (by (repeat rw [ks_n (by omega)]) <;> rfl) (by intro row h19 h26; (repeat rw [ks_n (by omega)]) <;> rfl) h.2.2.2.2.2.2.2.2.1), (rRing_f (by omega) (by intro k; (repeat rw [ks_n (by omega)]) <;> rfl) (by intro i hi; (repeat rw [ks_n (by omega)]) <;> rfl) (by (repeat rw [ks_n (by omega)]) <;> rfl) (by intro row h19 h26; (repeat rw [ks_n (by omega)]) <;> rfl) h.2.2.2.2.2.2.2.2.2.1), (rMon_f (by (repeat rw [ks_n (by omega)]) <;> rfl) (by intro k; (repeat rw [ks_n (by omega)]) <;> rfl) (by intro k; (repeat rw [ks_n (by omega)]) <;> rfl) (by intro k; (repeat rw [ks_n (by omega)]) <;> rfl) (by (repeat rw [ks_n (by omega)]) <;> rfl) (by intro i hi; (repeat rw [ks_n (by omega)]) <;> rfl) (by intro i hi; (repeat rw [ks_n (by omega)]) <;> rfl) (by intro i hi; (repeat rw [ks_n (by omega)]) <;> rfl) (by intro i hi; (repeat rw [ks_n (by omega)]) <;> rfl) (by intro i hi; (repeat rw [ks_n (by omega)]) <;> rfl) h.2.2.2.2.2.2.2.2.2.2)⟩
        unfold rLnk
        have a : ∀ X : Mem, ks (ks X 34 c (nI 30)) 32 c (-1) 35 c = X 35 c := fun X => by rw [ks_n (by omega), ks_n (by omega)]
        have a' : ∀ X : Mem, ks (ks X 34 c (nI 30)) 32 c (-1) 33 c = X 33 c := fun X => by rw [ks_n (by omega), ks_n (by omega)]
        have a'' : ∀ X : Mem, ks (ks X 34 c (nI 30)) 32 c (-1) 34 c = nI 30 := fun X => by rw [ks_n (by omega), ks_s]
        have k1 : ks (ks K (b + 8) 2 (nI 30)) (b + 8) 0 (-1) (b + 8) 1 = K (b + 8) 1 := by rw [ks_n (by omega), ks_n (by omega)]
        have k2 : ks (ks K (b + 8) 2 (nI 30)) (b + 8) 0 (-1) (b + 8) 2 = nI 30 := by rw [ks_n (by omega), ks_s]
        have k3 : ks (ks K (b + 8) 2 (nI 30)) (b + 8) 0 (-1) (b + 8) 3 = K (b + 8) 3 := by rw [ks_n (by omega), ks_n (by omega)]
        rw [a, a', a'', k1, k2, k3, ks_s, ks_s]
        exact ⟨rfl, l1, rfl, l3, Or.inl rfl, ⟨n, hn, l6⟩, l7⟩
    · have a1 : nI (sl + 1) < 30 := (lt_nI (b := 30) (by omega) (by omega)).mpr (by omega)
      have a2 : ¬ nI (sl + 1) = 30 := fun q => hs ((eq_nI (b := 30) (by omega) (by omega)).mp q)
      -- the local clock behind it
      have hl : (n + 1) % cy < cy := Nat.mod_lt _ (by omega)
      obtain ⟨lc, hlc, fc, fm⟩ : ∃ lc, lc < cy ∧ f_X3_pass (b + 8) (nI k) K = some (ks (ks K (b + 8) 2 (nI (sl + 1))) (b + 8) 1 (nI lc)) ∧ f_X9_link (nI c) M = some (ks (ks M 34 c (nI (sl + 1))) 35 c (nI lc)) := by
        have r1 : rPl (ks K (b + 8) 2 (nI (sl + 1))) M := fun i hi => by
          have := hPl i hi
          rw [ks_n (by unfold BC at hbc; omega), ks_n (by unfold BC at hbc; omega), ks_n (by unfold BC at hbc; omega)]
          exact this
        have r2 : ∀ v, rPl (ks (ks K (b + 8) 2 (nI (sl + 1))) (b + 8) 1 v) M := fun v i hi => by
          have := r1 i hi
          rw [ks_n (a := 2) (by unfold BC at hbc; omega), ks_n (a := 3) (by unfold BC at hbc; omega), ks_n (a := 4) (by unfold BC at hbc; omega)]
          exact this
        have k0 : ks K (b + 8) 2 (nI (sl + 1)) (b + 8) 0 = nI j := by rw [ks_n (by omega), l0, e]
        have k1 : ks K (b + 8) 2 (nI (sl + 1)) (b + 8) 1 = nI n := by rw [ks_n (by omega), l1, l6]
        have k0' : ∀ v, ks (ks K (b + 8) 2 (nI (sl + 1))) (b + 8) 1 v (b + 8) 0 = nI j := fun v => by rw [ks_n (by omega), k0]
        have m29 : ks M 34 c (nI (sl + 1)) 29 j = nI cy := by rw [ks_n (by omega), q6]
        have m35 : ks M 34 c (nI (sl + 1)) 35 c = nI n := by rw [ks_n (by omega), l6]
        have m29' : ∀ v, ks (ks M 34 c (nI (sl + 1))) 35 c v 29 j = nI cy := fun v => by rw [ks_n (by omega), m29]
        have m30' : ∀ v, ks (ks M 34 c (nI (sl + 1))) 35 c v 30 j = nI oo := fun v => by rw [ks_n (by omega), ks_n (by omega), q7]
        have m01' : ∀ v, ks (ks M 34 c (nI (sl + 1))) 35 c v 0 1 = nI k := fun v => by rw [ks_n (by omega), ks_n (by omega), hclk]
        have C1 : f_X3_pass (b + 8) (nI k) K = (if nI (k % 5) = 0 then ((f_X8_wrap ((nI k - nI oo) - nI ((n + 1) % cy)) (nI cy) (ks (ks K (b + 8) 2 (nI (sl + 1))) (b + 8) 1 (nI ((n + 1) % cy)))).bind fun u10 => (f_X3_shorterWay u10 (nI cy) (ks (ks K (b + 8) 2 (nI (sl + 1))) (b + 8) 1 (nI ((n + 1) % cy)))).bind fun u13 => (f_X8_wrap (nI ((n + 1) % cy) + u13) (nI cy) (ks (ks K (b + 8) 2 (nI (sl + 1))) (b + 8) 1 (nI ((n + 1) % cy)))).bind fun u15 => some (ks (ks (ks K (b + 8) 2 (nI (sl + 1))) (b + 8) 1 (nI ((n + 1) % cy))) (b + 8) 1 u15)) else some (ks (ks K (b + 8) 2 (nI (sl + 1))) (b + 8) 1 (nI ((n + 1) % cy)))) := by
          have w1 := C_wrap (K := ks K (b + 8) 2 (nI (sl + 1))) (n := n + 1) (y := cy) (by omega) (by omega) (by omega)
          simp only [f_X3_pass, l0, e, gm, if_false, st, l2, es, n_a1, ks_s, a1, if_true, k0, C_cycle hj r1 hm, q6, ob, lt, k1, w1, n_rem5 (show k < 2147483648 by omega), k0', C_offset hj (r2 _) hm, q7]
        have M1 : f_X9_link (nI c) M = (if nI (k % 5) = 0 then (if jrem (((jrem (jrem (nI k - nI oo) (nI cy) + nI cy) (nI cy)) - nI ((n + 1) % cy)) + nI cy) (nI cy) = 0 then some (ks (ks M 34 c (nI (sl + 1))) 35 c (nI ((n + 1) % cy))) else ((if nI cy - jrem (((jrem (jrem (nI k - nI oo) (nI cy) + nI cy) (nI cy)) - nI ((n + 1) % cy)) + nI cy) (nI cy) < jrem (((jrem (jrem (nI k - nI oo) (nI cy) + nI cy) (nI cy)) - nI ((n + 1) % cy)) + nI cy) (nI cy) then some (nI ((n + 1) % cy) - 1) else some (nI ((n + 1) % cy) + 1) : Option Int32).bind fun v7 => some (ks (ks (ks (ks M 34 c (nI (sl + 1))) 35 c (nI ((n + 1) % cy))) 35 c v7) 35 c (jrem (v7 + nI cy) (nI cy))))) else some (ks (ks M 34 c (nI (sl + 1))) 35 c (nI ((n + 1) % cy)))) := by
          have w1 : jrem (nI (n + 1)) (nI cy) = nI ((n + 1) % cy) := n_rem (by omega) (by omega) (by omega)
          have z : ∀ v u : Int32, ks (ks (ks M 34 c (nI (sl + 1))) 35 c v) 35 c u 29 j = nI cy := fun v u => by rw [ks_n (by omega), m29']
          simp only [f_X9_link, i2, x2, if_true, lt, e, g, st, es, n_a1, ks_s, a2, if_false, ij, xj, m29, cz, m35, w1, m01', n_rem5 (show k < 2147483648 by omega), m29', m30', z]
        rw [C1, M1]
        generalize (n + 1) % cy = l at hl
        by_cases h5 : nI (k % 5) = 0
        · rw [if_pos h5, if_pos h5]
          obtain ⟨z6, z6c, w1, w2⟩ := lk_6 hk q3 hl (by omega) (ks (ks K (b + 8) 2 (nI (sl + 1))) (b + 8) 1 (nI l))
          obtain ⟨lc, hlc, w3, w4⟩ := lk_way z6c hl (by omega) (ks (ks K (b + 8) 2 (nI (sl + 1))) (b + 8) 1 (nI l))
          refine ⟨lc, hlc, ?_, ?_⟩
          · rw [w1, ob]
            obtain ⟨u13, y1, y2⟩ := bd w3
            rw [y1, ob, y2, ob, ks_ks]
          · rw [w2]
            rcases w4 with ⟨y1, y2⟩ | ⟨y1, v, y2, y3⟩
            · rw [if_pos y1, y2]
            · rw [if_neg y1, y2, ob, y3, ks_ks, ks_ks]
        · rw [if_neg h5, if_neg h5]
          exact ⟨l, hl, rfl, rfl⟩
      refine ⟨_, _, fc, fm, ?_, (fun i k hi => by (repeat rw [ks_n (by omega)]) <;> rfl), (fun row k hn => by (repeat rw [ks_n (by unfold slc at hn; omega)]) <;> rfl)⟩
      refine ⟨(rTab_f (by intro k; (repeat rw [ks_n (by omega)]) <;> rfl) (by intro k; (repeat rw [ks_n (by omega)]) <;> rfl) (by intro i hi; (repeat rw [ks_n (by omega)]) <;> rfl) (by intro i hi; (repeat rw [ks_n (by omega)]) <;> rfl) h.1), (rUse_f (by (repeat rw [ks_n (by omega)]) <;> rfl) (by intro i hi; (repeat rw [ks_n (by omega)]) <;> rfl) (by intro i hi; (repeat rw [ks_n (by omega)]) <;> rfl) h.2.1), (rCal_f (by (repeat rw [ks_n (by omega)]) <;> rfl) (by (repeat rw [ks_n (by omega)]) <;> rfl) (by intro i hi; (repeat rw [ks_n (by omega)]) <;> rfl) (by intro i hi; (repeat rw [ks_n (by omega)]) <;> rfl) (by intro i hi; (repeat rw [ks_n (by omega)]) <;> rfl) h.2.2.1), (rDet_f (by intro k; (repeat rw [ks_n (by omega)]) <;> rfl) (by intro k; (repeat rw [ks_n (by omega)]) <;> rfl) (by intro k; (repeat rw [ks_n (by omega)]) <;> rfl) (by intro i hi; (repeat rw [ks_n (by omega)]) <;> rfl) (by intro i hi; (repeat rw [ks_n (by omega)]) <;> rfl) (by intro i hi; (repeat rw [ks_n (by omega)]) <;> rfl) h.2.2.2.1), ?_, (rInp_f (by intro k; (repeat rw [ks_n (by omega)]) <;> rfl) (by intro k; (repeat rw [ks_n (by omega)]) <;> rfl) (by intro i hi; (repeat rw [ks_n (by omega)]) <;> rfl) (by intro i hi; (repeat rw [ks_n (by omega)]) <;> rfl) h.2.2.2.2.2.1), (rSc_f (by (repeat rw [ks_n (by omega)]) <;> rfl) (by (repeat rw [ks_n (by omega)]) <;> rfl) (by (repeat rw [ks_n (by omega)]) <;> rfl) (by (repeat rw [ks_n (by omega)]) <;> rfl) (by (repeat rw [ks_n (by omega)]) <;> rfl) (by (repeat rw [ks_n (by omega)]) <;> rfl) (by (repeat rw [ks_n (by omega)]) <;> rfl) (by (repeat rw [ks_n (by omega)]) <;> rfl) (by (repeat rw [ks_n (by omega)]) <;> rfl) (by (repeat rw [ks_n (by omega)]) <;> rfl) h.2.2.2.2.2.2.1), (rHad_f (by (repeat rw [ks_n (by omega)]) <;> rfl) (by (repeat rw [ks_n (by omega)]) <;> rfl) (by intro i hi; (repeat rw [ks_n (by omega)]) <;> rfl) (by intro i hi; (repeat rw [ks_n (by omega)]) <;> rfl) (by intro i hi; (repeat rw [ks_n (by omega)]) <;> rfl) h.2.2.2.2.2.2.2.1), (rRing_f (by omega) (by intro k; (repeat rw [ks_n (by omega)]) <;> rfl) (by intro i hi; (repeat rw [ks_n (by omega)]) <;> rfl) (by (repeat rw [ks_n (by omega)]) <;> rfl) (by intro row h19 h26; (repeat rw [ks_n (by omega)]) <;> rfl) h.2.2.2.2.2.2.2.2.1), (rRing_f (by omega) (by intro k; (repeat rw [ks_n (by omega)]) <;> rfl) (by intro i hi; (repeat rw [ks_n (by omega)]) <;> rfl) (by (repeat rw [ks_n (by omega)]) <;> rfl) (by intro row h19 h26; (repeat rw [ks_n (by omega)]) <;> rfl) h.2.2.2.2.2.2.2.2.2.1), (rMon_f (by (repeat rw [ks_n (by omega)]) <;> rfl) (by intro k; (repeat rw [ks_n (by omega)]) <;> rfl) (by intro k; (repeat rw [ks_n (by omega)]) <;> rfl) (by intro k; (repeat rw [ks_n (by omega)]) <;> rfl) (by (repeat rw [ks_n (by omega)]) <;> rfl) (by intro i hi; (repeat rw [ks_n (by omega)]) <;> rfl) (by intro i hi; (repeat rw [ks_n (by omega)]) <;> rfl) (by intro i hi; (repeat rw [ks_n (by omega)]) <;> rfl) (by intro i hi; (repeat rw [ks_n (by omega)]) <;> rfl) (by intro i hi; (repeat rw [ks_n (by omega)]) <;> rfl) h.2.2.2.2.2.2.2.2.2.2)⟩
      unfold rLnk
      have a : ∀ X : Mem, ks (ks X 34 c (nI (sl + 1))) 35 c (nI lc) 32 c = X 32 c := fun X => by rw [ks_n (by omega), ks_n (by omega)]
      have a' : ∀ X : Mem, ks (ks X 34 c (nI (sl + 1))) 35 c (nI lc) 33 c = X 33 c := fun X => by rw [ks_n (by omega), ks_n (by omega)]
      have a'' : ∀ X : Mem, ks (ks X 34 c (nI (sl + 1))) 35 c (nI lc) 34 c = nI (sl + 1) := fun X => by rw [ks_n (by omega), ks_s]
      have k0 : ks (ks K (b + 8) 2 (nI (sl + 1))) (b + 8) 1 (nI lc) (b + 8) 0 = K (b + 8) 0 := by rw [ks_n (by omega), ks_n (by omega)]
      have k2 : ks (ks K (b + 8) 2 (nI (sl + 1))) (b + 8) 1 (nI lc) (b + 8) 2 = nI (sl + 1) := by rw [ks_n (by omega), ks_s]
      have k3 : ks (ks K (b + 8) 2 (nI (sl + 1))) (b + 8) 1 (nI lc) (b + 8) 3 = K (b + 8) 3 := by rw [ks_n (by omega), ks_n (by omega)]
      rw [a, a', a'', k0, k2, k3, ks_s, ks_s]
      exact ⟨l0, rfl, rfl, l3, Or.inr ⟨j, hj, e, by rw [ks_n (by omega), ks_n (by omega)]; exact hm, sl + 1, by omega, rfl⟩, ⟨lc, by omega, rfl⟩, l7⟩
end Lk
