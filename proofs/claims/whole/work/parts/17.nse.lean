/-- 'throw new NoSuchElementException("no such pallet")' of knownPallet -/
theorem MW.throwN {E : mi_E} {d : Nat} {lv : List (Option Value)} {h : va_W} {mc ms : Nat} {Q : mi_O → va_W → Nat → Nat → Prop} (hc1 : mc + 1 ≤ mi_CC) (hc2 : ms + 6 ≤ mi_CS) (hq : Q (.inr 0) h (mc + 1) (ms + 6)) : MW E MX5_knownPallet (d + 8) 15 lv [] h mc ms Q := by
  sorry

