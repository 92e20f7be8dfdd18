/-! an occupancy as a double -/
theorem fp_f2d {x : UInt32} (h : fpos x) : vf_n64 (FP.f2d x) ∧ FP.dcmp (FP.f2d x) (FP.f2d x) = some .eq := by
  have hv : ¬ FP.Core.val32 x = .nan := by
    show ¬ FP.Core.decode FP.Core.b32 x.toNat = .nan
    rcases h with ⟨c, q, e1⟩ | e1 <;> rw [e1] <;> exact fun e => by cases e
  have hn : ¬ FP.Core.fIsNaN x = true := fun e => hv ((FP.Core.fIsNaN_iff x).mp e)
  have e0 : FP.f2d x = FP.Core.f2d x := by
    unfold FP.f2d
    rw [if_neg hn]
  have e1 : (∃ c q, FP.Core.val64 (FP.Core.f2d x) = .fin false c q) ∨ FP.Core.val64 (FP.Core.f2d x) = .inf false := by
    rw [FP.Core.val64_f2d]
    exact fp_round _ h
  have hv2 : FP.Core.val64 (FP.Core.f2d x) ≠ .nan := by
    rcases e1 with ⟨c, q, e1⟩ | e1 <;> rw [e1] <;> exact fun e => by cases e
  rw [e0]
  refine ⟨?_, FP.Core.dcmp_self hv2⟩
  unfold vf_n64
  generalize FP.Core.f2d x = y at hv2
  rcases Nat.lt_or_ge (y &&& 0x7fffffffffffffff).toNat 0x7ff0000000000001 with hlt | hge
  · exact UInt64.le_iff_toNat_le.mpr (by show _ ≤ 0x7ff0000000000000; omega)
  · exfalso
    have e2 : (y &&& 0x7fffffffffffffff).toNat = y.toNat % 9223372036854775808 := by
      rw [UInt64.toNat_and, show (0x7fffffffffffffff : UInt64).toNat = 2 ^ 63 - 1 by decide +kernel, Nat.and_two_pow_sub_one_eq_mod]
    rw [e2] at hge
    refine hv2 ?_
    show FP.Core.decode FP.Core.b64 y.toNat = .nan
    unfold FP.Core.decode FP.Core.fieldE FP.Core.fieldT
    have t1 : FP.Core.b64.tails = 4503599627370496 := by decide
    have t2 : FP.Core.b64.exps = 2048 := by decide
    rw [t1, t2]
    have h1 : y.toNat / 4503599627370496 % 2048 = 2048 - 1 := by omega
    have h2 : ¬ y.toNat % 4503599627370496 = 0 := by omega
    rw [if_pos h1, if_neg h2]
