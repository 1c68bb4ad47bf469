/-! the tables of the law against its bytes -/
theorem ckc4_0 : ckCh 4 bv4_c0 = true := by decide +kernel
theorem ckc4_1 : ckCh 4 bv4_c1 = true := by decide +kernel
theorem ckc4_2 : ckCh 4 bv4_c2 = true := by decide +kernel
theorem ckc4_3 : ckCh 4 bv4_c3 = true := by decide +kernel
theorem ckc4_4 : ckCh 4 bv4_c4 = true := by decide +kernel
theorem ckc4_5 : ckCh 4 bv4_c5 = true := by decide +kernel
theorem ckc4_6 : ckCh 4 bv4_c6 = true := by decide +kernel
theorem ckc4_7 : ckCh 4 bv4_c7 = true := by decide +kernel
theorem ckc4_8 : ckCh 4 bv4_c8 = true := by decide +kernel
theorem ckc4_9 : ckCh 4 bv4_c9 = true := by decide +kernel
theorem ckc4_10 : ckCh 4 bv4_c10 = true := by decide +kernel
theorem ckl4 : ckML 4 = true := (ckCh_a ckc4_0 (ckCh_a ckc4_1 (ckCh_a ckc4_2 (ckCh_a ckc4_3 (ckCh_a ckc4_4 (ckCh_a ckc4_5 (ckCh_a ckc4_6 (ckCh_a ckc4_7 (ckCh_a ckc4_8 (ckCh_a ckc4_9 ckc4_10))))))))))
theorem ckc5_0 : ckCh 5 bv5_c0 = true := by decide +kernel
theorem ckc5_1 : ckCh 5 bv5_c1 = true := by decide +kernel
theorem ckc5_2 : ckCh 5 bv5_c2 = true := by decide +kernel
theorem ckl5 : ckML 5 = true := (ckCh_a ckc5_0 (ckCh_a ckc5_1 ckc5_2))
theorem ckc6_0 : ckCh 6 bv6_c0 = true := by decide +kernel
theorem ckc6_1 : ckCh 6 bv6_c1 = true := by decide +kernel
theorem ckc6_2 : ckCh 6 bv6_c2 = true := by decide +kernel
theorem ckl6 : ckML 6 = true := (ckCh_a ckc6_0 (ckCh_a ckc6_1 ckc6_2))
theorem ckc7_0 : ckCh 7 bv7_c0 = true := by decide +kernel
theorem ckc7_1 : ckCh 7 bv7_c1 = true := by decide +kernel
theorem ckl7 : ckML 7 = true := (ckCh_a ckc7_0 ckc7_1)
theorem ckc8_0 : ckCh 8 bv8_c0 = true := by decide +kernel
theorem ckc8_1 : ckCh 8 bv8_c1 = true := by decide +kernel
theorem ckc8_2 : ckCh 8 bv8_c2 = true := by decide +kernel
theorem ckc8_3 : ckCh 8 bv8_c3 = true := by decide +kernel
theorem ckc8_4 : ckCh 8 bv8_c4 = true := by decide +kernel
theorem ckc8_5 : ckCh 8 bv8_c5 = true := by decide +kernel
theorem ckc8_6 : ckCh 8 bv8_c6 = true := by decide +kernel
theorem ckc8_7 : ckCh 8 bv8_c7 = true := by decide +kernel
theorem ckc8_8 : ckCh 8 bv8_c8 = true := by decide +kernel
theorem ckc8_9 : ckCh 8 bv8_c9 = true := by decide +kernel
theorem ckl8 : ckML 8 = true := (ckCh_a ckc8_0 (ckCh_a ckc8_1 (ckCh_a ckc8_2 (ckCh_a ckc8_3 (ckCh_a ckc8_4 (ckCh_a ckc8_5 (ckCh_a ckc8_6 (ckCh_a ckc8_7 (ckCh_a ckc8_8 ckc8_9)))))))))
theorem ckl_all : ∀ a, a < 9 → ckML a = true
  | 0, _ => ckl0
  | 1, _ => ckl1
  | 2, _ => ckl2
  | 3, _ => ckl3
  | 4, _ => ckl4
  | 5, _ => ckl5
  | 6, _ => ckl6
  | 7, _ => ckl7
  | 8, _ => ckl8
  | n + 9, h => absurd h (by omega)
def ckMeL (k : Nat) : Bool := decide ((yL k).cls = RL) && decide (plainName (yL k).cls = true) && decide ((yL k).cls ≠ "java/lang/invoke/MethodHandle") && decide ((yL k).cls ≠ "java/lang/invoke/VarHandle") && decide ((parseMethodDescriptor (yL k).desc).map (fun d => d.parameters.length) = some (nL2 k)) && decide (lL k ≤ 17) && (decide (rL k = some .int) || decide (rL k = some .boolean))
theorem methL_ok : (List.range 8).all ckMeL = true := by decide +kernel
