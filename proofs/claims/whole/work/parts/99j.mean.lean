/-! the mean over all illnesses: by actors, and by sets -/
section MN
variable (fr val : Nat → Nat)
def MFn : Nat → Nat → Nat → Nat → Nat
  | 0, _, I, L => L * val I
  | n + 1, a, I, L => MFn n (a + 1) (I + 2 ^ a) (L * fr a) + MFn n (a + 1) I (L * (100 - fr a))
def lkN : Nat → Nat → Nat → Nat
  | 0, _, _ => 1
  | n + 1, a, t => (if t % 2 = 1 then fr a else 100 - fr a) * lkN n (a + 1) (t / 2)
theorem sumN_two (F : Nat → Nat) : ∀ n, sumN (2 * n) F = sumN n (fun u => F (2 * u + 1) + F (2 * u))
  | 0 => rfl
  | n + 1 => by
    rw [show 2 * (n + 1) = 2 * n + 1 + 1 by omega, sumN, sumN, sumN, sumN_two F n]; omega
theorem MF_sum : ∀ (n a I L : Nat), MFn fr val n a I L = L * sumN (2 ^ n) (fun t => lkN fr n a t * val (I + t * 2 ^ a))
  | 0, a, I, L => by
    rw [MFn]
    simp [sumN, lkN]
  | n + 1, a, I, L => by
    rw [MFn, MF_sum n, MF_sum n, show 2 ^ (n + 1) = 2 * 2 ^ n by rw [Nat.pow_succ, Nat.mul_comm], sumN_two, sumN_add, Nat.mul_add, Nat.mul_assoc, Nat.mul_assoc]
    congr 1
    · congr 1
      rw [← sumN_mul]
      refine sumN_cong fun u _ => ?_
      rw [lkN, if_pos (by omega), show (2 * u + 1) / 2 = u by omega, Nat.mul_assoc]
      congr 2
      rw [Nat.pow_succ, Nat.add_mul, Nat.one_mul, Nat.mul_comm 2 u, Nat.mul_assoc, Nat.mul_comm 2 (2 ^ a), Nat.add_assoc, Nat.add_comm (2 ^ a)]
    · congr 1
      rw [← sumN_mul]
      refine sumN_cong fun u _ => ?_
      rw [lkN, if_neg (by omega), show (2 * u) / 2 = u by omega, Nat.mul_assoc]
      congr 2
      rw [Nat.pow_succ, Nat.mul_comm 2 u, Nat.mul_assoc, Nat.mul_comm 2 (2 ^ a)]
end MN
