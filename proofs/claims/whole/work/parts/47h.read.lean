/-! ===== the pure part: words ===== -/
section WRD
variable {S : Mem}
theorem len_t : ∀ t, t < 9 → g_J0_length_8abf5 S t = some (nI (lenT t)) := by
  intro t ht
  have : ∀ t, t < 9 → (Int32.ofNat (lenT t)) >>> ((0 : Int32) &&& 31) = nI (lenT t) := by decide +kernel
  show some ((Int32.ofNat (lenT t)) >>> ((0 : Int32) &&& 31)) = _
  rw [this t ht]
/-- the i-th sign of the word t -/
def wch (t i : Nat) : Nat := ((wByt.getD t []).getD i 0).toNatClampNeg
theorem chr_S (t : Nat) (x : Int32) : g_J0_charAt_5068e S t x = g_J0_charAt_5068e (fun _ _ => 0) t x := rfl
theorem chr_t : ∀ t, t < 9 → ∀ i, i < lenT t → g_J0_charAt_5068e S t (nI i) = some (nI (wch t i)) := by
  intro t ht i hi
  rw [chr_S]
  have : ∀ t, t < 9 → ∀ i, i < lenT t → g_J0_charAt_5068e (fun _ _ => 0) t (nI i) = some (nI (wch t i)) := by decide +kernel
  exact this t ht i hi
end WRD
