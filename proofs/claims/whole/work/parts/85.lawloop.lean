/-! THE LAW'S LOOP -/
theorem and15 (v : Int32) : ∃ t, t < 16 ∧ v &&& 15 = nI t := by
  have h1 : (v &&& 15).toBitVec.toNat ≤ 15 := by
    rw [Int32.toBitVec_and, BitVec.toNat_and]
    exact Nat.and_le_right
  refine ⟨(v &&& 15).toBitVec.toNat, by omega, ?_⟩
  refine Int32.toBitVec_inj.mp (BitVec.eq_of_toNat_eq ?_)
  show _ = (BitVec.ofNat 32 (v &&& 15).toBitVec.toNat).toNat
  rw [BitVec.toNat_ofNat, Nat.mod_eq_of_lt (by omega)]
theorem len5 {L j : Nat} (hL : L ≤ 320) (h : ¬ nI L - 5 < nI (5 * j)) (hj : j ≤ 65) : 5 * j + 5 ≤ L := by
  rcases Nat.lt_or_ge L 5 with h5 | h5
  · exfalso
    have h0 : nI L - 5 < 0 := by
      rcases (show L = 0 ∨ L = 1 ∨ L = 2 ∨ L = 3 ∨ L = 4 by omega) with rfl | rfl | rfl | rfl | rfl <;> decide
    exact h (Int32.lt_of_lt_of_le h0 (nI_0le (by omega)))
  · have e : nI L - 5 = nI (L - 5) := by
      have e1 : nI (L - 5) + 5 = nI L := by
        rw [n_a5, show L - 5 + 5 = L by omega]
      rw [← e1, Int32.add_sub_cancel]
    rw [e] at h
    have h2 := mt (lt_nI (a := L - 5) (b := 5 * j) (by omega) (by omega)).mpr h
    omega
section Lp
variable {l : Launch} {D : va_G} {A : Nat → Prop} {G : jG} {ad ad2 : Nat → Nat} {o b L : Nat} {aI aZ aF aS aL : ClassId} {xs : Nat → Int32}
set_option maxRecDepth 100000 in
set_option maxHeartbeats 4000000 in
theorem law_loop (C : kC (l, D, A, TL aI aZ aF aS aL) G cL_law RL wsL_law room_1 9) (hlt : l.stackTraces = false) (hN : NWC (gS G)) (hT : xT (gS G)) (hZ : xZ A (gS G) (gS G).heap) (hNc : va_Nc ISE IAE (gS G)) (hX : va_X b L xs (gS G) (gS G).heap) (hbl : b < (gS G).heap.size) (hbA : ¬ A b) (hL : L ≤ 320) (fin : ∀ (ws : va_W) (lv : List (Nat × Value)), kW (l, D, A, TL aI aZ aF aS aL) G ws 211 2065 899 lv [.int 1]) :
    ∀ (n j cu su : Nat) (K M : Mem) (f : Nat → Int64), j + n = 65 → cu = 80 + j → su = 1023 + 6 * j → RR (20 * j) K M → kW (l, D, A, TL aI aZ aF aS aL) G (wW ad ad2 o aI aZ aF aS aL K M f) cu su 23 (lvL b ad ad2 o j) [] := by
  intro n
  induction n with
  | zero =>
    intro j cu su K M f hj hcu hsu h
    refine k_iload C 4 dL_law_23 rfl ?_
    refine k_aload_n C 0 dL_law_25 rfl rfl ?_
    refine k_slen C hX hbl hbA dL_law_26 ?_
    refine k_iconst (v := 5) C dL_law_27 (by decide) ?_
    refine k_isub C dL_law_28 ?_
    refine k_icmp_gt C 898 dL_law_29 (by decide) (fun _ => ?_) (fun hle => ?_)
    · refine k_iconst (v := 1) C dL_law_898 (by decide) ?_
      exact k_wide (by omega) (by omega) (fin _ _)
    · have := len5 (j := j) hL hle (by omega)
      omega
  | succ n ih =>
    intro j cu su K M f hj hcu hsu h
    refine k_iload C 4 dL_law_23 rfl ?_
    refine k_aload_n C 0 dL_law_25 rfl rfl ?_
    refine k_slen C hX hbl hbA dL_law_26 ?_
    refine k_iconst (v := 5) C dL_law_27 (by decide) ?_
    refine k_isub C dL_law_28 ?_
    refine k_icmp_gt C 898 dL_law_29 (by decide) (fun _ => ?_) (fun hle => ?_)
    · refine k_iconst (v := 1) C dL_law_898 (by decide) ?_
      exact k_wide (by omega) (by omega) (fin _ _)
    · have hi := len5 (j := j) hL hle (by omega)
      have next : ∀ (K M : Mem) (f : Nat → Int64), RR (20 * j + 20) K M → kW (l, D, A, TL aI aZ aF aS aL) G (wW ad ad2 o aI aZ aF aS aL K M f) (cu + 1) (su + 6) 892 (lvL b ad ad2 o j) [] := fun K M f h => by
        refine k_iinc C (v := nI (5 * (j + 1))) 4 [(4, .int (nI (5 * (j + 1)))), (0, .ref b), (1, .ref (ad 0)), (2, .ref (ad2 0)), (3, .ref o)] dL_law_892 rfl (n_a5 (5 * j)) (by decide) rfl ?_
        refine k_goto C 23 dL_law_895 (by decide) ?_
        refine k_sub [1, 2, 3, 4, 0] (lv2 := lvL b ad ad2 o (j + 1)) rfl ?_
        exact ih (j + 1) (cu + 1) (su + 6) K M f (by omega) (by omega) (by omega) h
      have next0 : ∀ (K M : Mem), RR (20 * j) K M → kW (l, D, A, TL aI aZ aF aS aL) G (wW ad ad2 o aI aZ aF aS aL K M f) (cu + 1) (su + 6) 892 (lvL b ad ad2 o j) [] := fun K M h => next K M f (RR_le h (by omega))
      have hcu1 : cu + 1 ≤ room_1.cells := by show cu + 1 ≤ 211; omega
      have hsu1 : su + 6 ≤ room_1.slots := by show su + 6 ≤ 2065; omega
      refine k_aload_n C 0 dL_law_32 rfl rfl ?_
      refine k_iload C 4 dL_law_33 rfl ?_
      refine k_sld C hX hbl hbA (vp_in_nI (by omega) (by omega)) dL_law_35 ?_
      refine k_bipush (v := 15) C dL_law_36 (by decide) ?_
      refine k_iand C dL_law_38 ?_
      obtain ⟨t, ht, et⟩ := and15 (xs (ix (nI (5 * j))))
      rw [et]
      have hw1 : cu ≤ cu + 1 := Nat.le_succ _
      have hw2 : su ≤ su + 6 := Nat.le_add_right _ _
      match t, ht with
      | 0, _ => exact k_tabIn C 116 dL_law_39 (by decide) (by decide) rfl (by decide) (k_wide hw1 hw2 (lc_put C hN hX hbl hbA hcu1 hsu1 hi hL h next0))
      | 1, _ => exact k_tabIn C 177 dL_law_39 (by decide) (by decide) rfl (by decide) (lc_enact C hlt hN hT hZ hNc hX hbl hbA hcu1 hsu1 hi hL h (fun K M f h => next K M f (RR_le h (by omega))))
      | 2, _ => exact k_tabIn C 233 dL_law_39 (by decide) (by decide) rfl (by decide) (k_wide hw1 hw2 (lc_place C hN hX hbl hbA hcu1 hsu1 hi hL h next0))
      | 3, _ => exact k_tabIn C 258 dL_law_39 (by decide) (by decide) rfl (by decide) (k_wide hw1 hw2 (lc_detect C hN hX hbl hbA hcu1 hsu1 hi hL h next0))
      | 4, _ => exact k_tabIn C 323 dL_law_39 (by decide) (by decide) rfl (by decide) (k_wide hw1 hw2 (lc_press C hN hX hbl hbA hcu1 hsu1 hi hL h next0))
      | 5, _ => exact k_tabIn C 360 dL_law_39 (by decide) (by decide) rfl (by decide) (k_wide hw1 hw2 (lc_target C hN hX hbl hbA hcu1 hsu1 hi hL h next0))
      | 6, _ => exact k_tabIn C 409 dL_law_39 (by decide) (by decide) rfl (by decide) (k_wide hw1 hw2 (lc_preempt C hN hX hbl hbA hcu1 hsu1 hi hL h next0))
      | 7, _ => exact k_tabIn C 474 dL_law_39 (by decide) (by decide) rfl (by decide) (k_wide hw1 hw2 (lc_plan C hN hX hbl hbA hcu1 hsu1 hi hL h next0))
      | 8, _ => exact k_tabIn C 535 dL_law_39 (by decide) (by decide) rfl (by decide) (k_wide hw1 hw2 (lc_message C hN hX hbl hbA hcu1 hsu1 hi hL h next0))
      | 9, _ => exact k_tabIn C 584 dL_law_39 (by decide) (by decide) rfl (by decide) (k_wide hw1 hw2 (lc_fault C hN hX hbl hbA hcu1 hsu1 hi hL h next0))
      | 10, _ => exact k_tabIn C 633 dL_law_39 (by decide) (by decide) rfl (by decide) (k_wide hw1 hw2 (lc_reset C hN hX hbl hbA hcu1 hsu1 hi hL h next0))
      | 11, _ => exact k_tabIn C 658 dL_law_39 (by decide) (by decide) rfl (by decide) (lc_tick C hlt hN hT hZ hNc hX hbl hbA hcu1 hsu1 hi hL h (by omega) next)
      | 12, _ => exact k_tabIn C 714 dL_law_39 (by decide) (by decide) rfl (by decide) (k_wide hw1 hw2 (lc_lamp C hN hX hbl hbA hcu1 hsu1 hi hL h next0))
      | 13, _ => exact k_tabIn C 751 dL_law_39 (by decide) (by decide) rfl (by decide) (k_wide hw1 hw2 (lc_signs C hN hX hbl hbA hcu1 hsu1 hi hL h next0))
      | 14, _ => exact k_tabIn C 788 dL_law_39 (by decide) (by decide) rfl (by decide) (k_wide hw1 hw2 (lc_crossing C hN hX hbl hbA hcu1 hsu1 hi hL h next0))
      | 15, _ => exact k_tabIn C 825 dL_law_39 (by decide) (by decide) rfl (by decide) (k_wide hw1 hw2 (lc_occ C hN hX hbl hbA hcu1 hsu1 hi hL h next0))
      | t + 16, ht => exact absurd ht (by omega)
end Lp
