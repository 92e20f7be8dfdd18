/-! FLOATS: what is not negative and no NaN stays so under times 0.875f and plus 0.125f -/
theorem fp_bound (f : FP.Core.Fmt) (s : Bool) (c : Nat) (q : Int) : (∃ c' q', FP.Core.bound f s c q = .fin s c' q') ∨ FP.Core.bound f s c q = .inf s := by
  unfold FP.Core.bound
  by_cases h : q ≤ f.qmax
  · rw [if_pos h]
    exact Or.inl ⟨_, _, rfl⟩
  · rw [if_neg h]
    exact Or.inr rfl
theorem fp_settle (f : FP.Core.Fmt) (s : Bool) (c : Nat) (q : Int) : (∃ c' q', FP.Core.settle f s c q = .fin s c' q') ∨ FP.Core.settle f s c q = .inf s := by
  unfold FP.Core.settle
  by_cases h : c < 2 ^ f.p
  · rw [if_pos h]
    exact fp_bound f s c q
  · rw [if_neg h]
    exact fp_bound f s _ _
theorem fp_ratio (f : FP.Core.Fmt) (s : Bool) (a d : Nat) (e : Int) : (∃ c' q', FP.Core.roundRatio f s a d e = .fin s c' q') ∨ FP.Core.roundRatio f s a d e = .inf s := by
  unfold FP.Core.roundRatio
  by_cases h : a = 0
  · rw [if_pos h]
    exact Or.inl ⟨_, _, rfl⟩
  · rw [if_neg h]
    exact fp_settle f s _ _
theorem fp_round (f : FP.Core.Fmt) {d : FP.Core.Datum} (h : (∃ c q, d = .fin false c q) ∨ d = .inf false) : (∃ c q, FP.Core.round f d = .fin false c q) ∨ FP.Core.round f d = .inf false := by
  rcases h with ⟨c, q, rfl⟩ | rfl
  · exact fp_ratio f false c 1 q
  · exact Or.inr rfl
theorem fp_d875 : FP.Core.decode FP.Core.b32 (1063256064 : UInt32).toNat = .fin false 14680064 (-24) := by decide +kernel
theorem fp_d125 : FP.Core.decode FP.Core.b32 (1040187392 : UInt32).toNat = .fin false 8388608 (-26) := by decide +kernel
theorem fp_mul {x : UInt32} (h : fpos x) : fpos (FP.fmul x 1063256064) := by
  have e : FP.Core.decode FP.Core.b32 (FP.fmul x 1063256064).toNat = FP.Core.round FP.Core.b32 (FP.Core.exactProduct (FP.Core.decode FP.Core.b32 x.toNat) (FP.Core.decode FP.Core.b32 (1063256064 : UInt32).toNat)) := FP.Core.val32_fmul x 1063256064
  unfold fpos
  rw [e, fp_d875]
  refine fp_round _ ?_
  rcases h with ⟨c, q, e1⟩ | e1
  · rw [e1]
    exact Or.inl ⟨_, _, rfl⟩
  · rw [e1]
    exact Or.inr rfl
theorem fp_add {x : UInt32} (h : fpos x) : fpos (FP.fadd x 1040187392) := by
  have e : FP.Core.decode FP.Core.b32 (FP.fadd x 1040187392).toNat = FP.Core.round FP.Core.b32 (FP.Core.exactSum (FP.Core.decode FP.Core.b32 x.toNat) (FP.Core.decode FP.Core.b32 (1040187392 : UInt32).toNat)) := FP.Core.val32_fadd x 1040187392
  unfold fpos
  rw [e, fp_d125]
  refine fp_round _ ?_
  rcases h with ⟨c, q, e1⟩ | e1
  · rw [e1]
    refine Or.inl ⟨(FP.Core.sumUnits false c q false 8388608 (-26) (min q (-26))).natAbs, min q (-26), ?_⟩
    have hs : FP.Core.sumSign false false (FP.Core.sumUnits false c q false 8388608 (-26) (min q (-26))) = false := by
      unfold FP.Core.sumSign
      by_cases h0 : FP.Core.sumUnits false c q false 8388608 (-26) (min q (-26)) = 0
      · rw [if_pos h0]
        rfl
      · rw [if_neg h0]
        refine decide_eq_false ?_
        unfold FP.Core.sumUnits FP.Core.signed
        simp only [Bool.false_eq_true, if_false]
        omega
    show FP.Core.Datum.fin (FP.Core.sumSign false false (FP.Core.sumUnits false c q false 8388608 (-26) (min q (-26)))) _ _ = _
    rw [hs]
  · rw [e1]
    exact Or.inr rfl
theorem fp_nn {x : UInt32} (h : fpos x) : nn x = true := by
  unfold nn
  refine decide_eq_true ?_
  rcases Nat.lt_or_ge (x &&& 0x7fffffff).toNat 0x7f800001 with hlt | hge
  · exact UInt32.le_iff_toNat_le.mpr (by show _ ≤ 0x7f800000; omega)
  · exfalso
    have e2 : (x &&& 0x7fffffff).toNat = x.toNat % 2147483648 := by
      rw [UInt32.toNat_and, show (0x7fffffff : UInt32).toNat = 2 ^ 31 - 1 by decide +kernel, Nat.and_two_pow_sub_one_eq_mod]
    rw [e2] at hge
    have hd : FP.Core.decode FP.Core.b32 x.toNat = .nan := by
      unfold FP.Core.decode FP.Core.fieldE FP.Core.fieldT
      have t1 : FP.Core.b32.tails = 8388608 := by decide
      have t2 : FP.Core.b32.exps = 256 := by decide
      rw [t1, t2]
      have h1 : x.toNat / 8388608 % 256 = 256 - 1 := by omega
      have h2 : ¬ x.toNat % 8388608 = 0 := by omega
      rw [if_pos h1, if_neg h2]
    rcases h with ⟨c, q, e1⟩ | e1
    · rw [e1] at hd
      cases hd
    · rw [e1] at hd
      cases hd
