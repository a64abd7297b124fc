/-! ===== the pure part: words ===== -/
section WRD
variable {S : Mem}
theorem len_t : ∀ t, t < 9 → g_J0_length_8abf5 S t = some (nI (lenT t)) := by
  intro t ht
  have : ∀ t, t < 9 → (Int32.ofNat (lenT t)) >>> ((0 : Int32) &&& 31) = nI (lenT t) := by decide +kernel
  show some ((Int32.ofNat (lenT t)) >>> ((0 : Int32) &&& 31)) = _
  rw [this t ht]
end WRD
