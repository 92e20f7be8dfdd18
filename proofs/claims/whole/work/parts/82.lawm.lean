/-! THE LAW'S OWN METHODS enact AND tick: what the class throws becomes a code -/
abbrev eL (c : ClassId) (f : Nat → Int64) : va_E := .inl (c, 1, .inr (.inl f))
def wL (ad : Nat → Nat) (o : Nat) (aI aZ aF aL : ClassId) (K : Mem) (f : Nat → Int64) : va_W := [(o, eL aL f)] ++ wC ad aI aZ aF K
abbrev T3L (aI aZ aF aL : ClassId) : List (ClassId × FieldType) := [(aI, .int), (aZ, .boolean), (aF, .float), (aL, .long)]
theorem wC_ad (ad : Nat → Nat) (aI aZ aF : ClassId) (K : Mem) : (wC ad aI aZ aF K).map (fun q => q.1) = (List.range 43).map ad := rfl
theorem wM_ad (ad : Nat → Nat) (aI aZ aS aF : ClassId) (M : Mem) : (wM ad aI aZ aS aF M).map (fun q => q.1) = (List.range 36).map ad := rfl
abbrev jC1 : List Nat := [1, 2, 3, 4, 5, 6, 7, 8, 9, 10, 11, 12, 13, 14, 15, 16, 17, 18, 19, 20, 21, 22, 23, 24, 25, 26, 27, 28, 29, 30, 31, 32, 33, 34, 35, 36, 37, 38, 39, 40, 41, 42, 43]
theorem wL_c {ad : Nat → Nat} {o : Nat} {aI aZ aF aL : ClassId} {K : Mem} {f : Nat → Int64} : jC1.map (fun i => (wL ad o aI aZ aF aL K f)[i]?) = (wC ad aI aZ aF K).map some := rfl
theorem hdX8_enact : yX8_enact.cls = RX8 ∧ yX8_enact.cls ≠ "java/lang/invoke/MethodHandle" ∧ yX8_enact.cls ≠ "java/lang/invoke/VarHandle" ∧ (parseMethodDescriptor yX8_enact.desc).map (fun d => d.parameters.length) = some 1 := by decide +kernel
theorem hdX8_tick : yX8_tick.cls = RX8 ∧ yX8_tick.cls ≠ "java/lang/invoke/MethodHandle" ∧ yX8_tick.cls ≠ "java/lang/invoke/VarHandle" ∧ (parseMethodDescriptor yX8_tick.desc).map (fun d => d.parameters.length) = some 1 := by decide +kernel
abbrev rmL_enact : Room := { frames := 7, cells := 1, slots := 6, locals := 130 }
abbrev rmL_tick : Room := { frames := 7, cells := 1, slots := 6, locals := 160 }
theorem FW_a : Cond.castable IAE IAE ∈ FW := by decide +kernel
theorem FW_b : Cond.castable ISE ISE ∈ FW := by decide +kernel
theorem cl_e13 : Cond.classLink yL_enact.cls 13 IAE ∈ wsL_enact := by decide +kernel
theorem cl_e15 : Cond.classLink yL_enact.cls 15 ISE ∈ wsL_enact := by decide +kernel
theorem cl_t13 : Cond.classLink yL_tick.cls 13 IAE ∈ wsL_tick := by decide +kernel
section Lm
variable {l : Launch} {D : va_G} {ad : Nat → Nat} {aI aZ aF aL : ClassId} {o : Nat} {p : Int32} {K K1 : Mem} {r1 k : Int32} {ex : Option String}
set_option maxRecDepth 100000 in
set_option maxHeartbeats 4000000 in
theorem k_Lenact (hM : cX (EC l D ad aI aZ aF) yX8_enact wsX8_enact rmX8_enact [.ref (ad 0), .int p] K ex r1 K1) (hk : (ex = none ∧ k = 0) ∨ (ex = some IAE ∧ k = 1) ∨ (ex = some ISE ∧ k = 2)) (f : Nat → Int64) : cLw l D (T3L aI aZ aF aL) yL_enact wsL_enact rmL_enact [.ref (ad 0), .int p, .ref o] (wL ad o aI aZ aF aL K f) k (fun u => wL ad o aI aZ aF aL K1 u) (fun u => k = 0 → u 0 = r1.toInt64) := by
  refine k_entL (cc := cL_enact) (maxL := 4) (by decide) rfl (Nat.le_of_ble_eq_true rfl) (fun G A C htab hN hT hZ hNc ret => ?_)
  refine k_sub [0, 1, 2] (lv2 := [(0, .ref (ad 0)), (1, .int p), (2, .ref o)]) rfl ?_
  refine k_aload_n C 2 dL_enact_0 rfl rfl ?_
  refine k_iconst (v := 0) C dL_enact_1 rfl ?_
  refine k_aload_n C 0 dL_enact_2 rfl rfl ?_
  refine k_iload_n C 1 dL_enact_3 rfl rfl ?_
  refine k_cX C (EC_ok l D ad aI aZ aF) (fun K => aa_A (wC_ad ad aI aZ aF K)) [0, 1, 2] rfl hN hT hZ [.int p] [(o, eL aL f)] jC1 [0] gL_enact_X8_enact rfl hdX8_enact ⟨⟨rfl, rfl⟩, Nat.le_of_ble_eq_true rfl, Nat.le_of_ble_eq_true rfl⟩ rfl g_0 rfl hM wL_c rfl rfl rfl (by decide) (Nat.le_of_ble_eq_true rfl) (Nat.le_of_ble_eq_true rfl) dL_enact_4 rfl (Nat.le_of_ble_eq_true rfl) (fun hex => ?_) (fun En hex => ?_)
  · obtain rfl : k = 0 := by
      rcases hk with ⟨-, h⟩ | h
      · exact h
      · rw [hex] at h
        simp at h
    refine k_i2l C dL_enact_7 ?_
    refine k_last (q0 := 0) C 3 (wL ad o aI aZ aF aL K1 (vp_updL f 0 r1.toInt64)) rfl rfl (inb_in rfl) rfl dL_enact_8 ?_
    refine k_goto C 18 dL_enact_9 (by decide) ?_
    refine k_iconst (v := 0) C dL_enact_18 rfl ?_
    exact ret 19 _ _ (fun _ => rfl) dL_enact_19
  · rcases hk with ⟨h, -⟩ | ⟨h, rfl⟩ | ⟨h, rfl⟩
    · rw [hex] at h
      cases h
    · obtain rfl : En = IAE := Option.some.inj (hex.symm.trans h)
      refine k_catch1 C ⟨0, 9, 12, 13⟩ [⟨0, 9, 15, 15⟩] htab (by decide) (by decide) cl_e13 (hT.2.2.2 _ FW_a) (fun q => ?_)
      refine k_astore_n C [(3, .ref q), (0, .ref (ad 0)), (1, .int p), (2, .ref o)] dL_enact_12 rfl (by decide) rfl ?_
      refine k_iconst (v := 1) C dL_enact_13 rfl ?_
      exact ret 14 _ f (fun h9 => absurd h9 n10) dL_enact_14
    · obtain rfl : En = ISE := Option.some.inj (hex.symm.trans h)
      refine k_catch2 C ⟨0, 9, 12, 13⟩ ⟨0, 9, 15, 15⟩ [] htab (by decide) (by decide) cl_e13 hNc (by decide) (by decide) cl_e15 (hT.2.2.2 _ FW_b) (fun q => ?_)
      refine k_astore_n C [(3, .ref q), (0, .ref (ad 0)), (1, .int p), (2, .ref o)] dL_enact_15 rfl (by decide) rfl ?_
      refine k_iconst (v := 2) C dL_enact_16 rfl ?_
      exact ret 17 _ f (fun h9 => absurd h9 (by decide)) dL_enact_17
set_option maxRecDepth 100000 in
set_option maxHeartbeats 4000000 in
theorem k_Ltick (hM : cX (EC l D ad aI aZ aF) yX8_tick wsX8_tick rmX8_tick [.ref (ad 0), .int p] K ex r1 K1) (hk : (ex = none ∧ k = 0) ∨ (ex = some IAE ∧ k = 1)) (f : Nat → Int64) : cLw l D (T3L aI aZ aF aL) yL_tick wsL_tick rmL_tick [.ref (ad 0), .int p, .ref o] (wL ad o aI aZ aF aL K f) k (fun u => wL ad o aI aZ aF aL K1 u) (fun u => k = 0 → u 0 = r1.toInt64) := by
  refine k_entL (cc := cL_tick) (maxL := 4) (by decide) rfl (Nat.le_of_ble_eq_true rfl) (fun G A C htab hN hT hZ hNc ret => ?_)
  refine k_sub [0, 1, 2] (lv2 := [(0, .ref (ad 0)), (1, .int p), (2, .ref o)]) rfl ?_
  refine k_aload_n C 2 dL_tick_0 rfl rfl ?_
  refine k_iconst (v := 0) C dL_tick_1 rfl ?_
  refine k_aload_n C 0 dL_tick_2 rfl rfl ?_
  refine k_iload_n C 1 dL_tick_3 rfl rfl ?_
  refine k_cX C (EC_ok l D ad aI aZ aF) (fun K => aa_A (wC_ad ad aI aZ aF K)) [0, 1, 2] rfl hN hT hZ [.int p] [(o, eL aL f)] jC1 [0] gL_tick_X8_tick rfl hdX8_tick ⟨⟨rfl, rfl⟩, Nat.le_of_ble_eq_true rfl, Nat.le_of_ble_eq_true rfl⟩ rfl g_0 rfl hM wL_c rfl rfl rfl (by decide) (Nat.le_of_ble_eq_true rfl) (Nat.le_of_ble_eq_true rfl) dL_tick_4 rfl (Nat.le_of_ble_eq_true rfl) (fun hex => ?_) (fun En hex => ?_)
  · obtain rfl : k = 0 := by
      rcases hk with ⟨-, h⟩ | h
      · exact h
      · rw [hex] at h
        simp at h
    refine k_i2l C dL_tick_7 ?_
    refine k_last (q0 := 0) C 3 (wL ad o aI aZ aF aL K1 (vp_updL f 0 r1.toInt64)) rfl rfl (inb_in rfl) rfl dL_tick_8 ?_
    refine k_goto C 15 dL_tick_9 (by decide) ?_
    refine k_iconst (v := 0) C dL_tick_15 rfl ?_
    exact ret 16 _ _ (fun _ => rfl) dL_tick_16
  · rcases hk with ⟨h, -⟩ | ⟨h, rfl⟩
    · rw [hex] at h
      cases h
    · obtain rfl : En = IAE := Option.some.inj (hex.symm.trans h)
      refine k_catch1 C ⟨0, 9, 12, 13⟩ [] htab (by decide) (by decide) cl_t13 (hT.2.2.2 _ FW_a) (fun q => ?_)
      refine k_astore_n C [(3, .ref q), (0, .ref (ad 0)), (1, .int p), (2, .ref o)] dL_tick_12 rfl (by decide) rfl ?_
      refine k_iconst (v := 1) C dL_tick_13 rfl ?_
      exact ret 14 _ f (fun h9 => absurd h9 n10) dL_tick_14
end Lm
