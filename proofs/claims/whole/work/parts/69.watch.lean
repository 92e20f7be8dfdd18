/-! A TICK, (g): the monitor -/
section Wa
variable {b c : Nat} {K M : Mem}
theorem wat0 : True := trivial
end Wa
