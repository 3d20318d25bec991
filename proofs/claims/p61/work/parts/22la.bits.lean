/-! HOW MANY BITS A NUMBER OF SIXTEEN HAS -/
theorem j6_bits16a : allB 16384 (fun r => decide (f_J6_bitCount_0f7a4 (nI r) = some (nI (rPc 16 r)))) = true := by decide +kernel
theorem j6_bits16b : allB 16384 (fun r => decide (f_J6_bitCount_0f7a4 (nI (r + 16384)) = some (nI (rPc 16 (r + 16384))))) = true := by decide +kernel
theorem j6_bits16c : allB 16384 (fun r => decide (f_J6_bitCount_0f7a4 (nI (r + 32768)) = some (nI (rPc 16 (r + 32768))))) = true := by decide +kernel
theorem j6_bits16d : allB 16384 (fun r => decide (f_J6_bitCount_0f7a4 (nI (r + 49152)) = some (nI (rPc 16 (r + 49152))))) = true := by decide +kernel
theorem j6_bits16 {r : Nat} (hr : r < 65536) : f_J6_bitCount_0f7a4 (nI r) = some (nI (rPc 16 r)) := by
  rcases Nat.lt_or_ge r 16384 with q | q
  · exact of_decide_eq_true (allB_at j6_bits16a r q)
  · rcases Nat.lt_or_ge r 32768 with q2 | q2
    · have h := of_decide_eq_true (allB_at j6_bits16b (r - 16384) (by omega))
      rw [Nat.sub_add_cancel q] at h; exact h
    · rcases Nat.lt_or_ge r 49152 with q3 | q3
      · have h := of_decide_eq_true (allB_at j6_bits16c (r - 32768) (by omega))
        rw [Nat.sub_add_cancel q2] at h; exact h
      · have h := of_decide_eq_true (allB_at j6_bits16d (r - 49152) (by omega))
        rw [Nat.sub_add_cancel q3] at h; exact h
