/-! ===== sets as numbers ===== -/
theorem zo_nat (n : Nat) (h : n < 2 ^ 31) : Int32.ofInt (n : Int) = nI n := by
  apply Int32.toInt_inj.mp
  rw [zo_toInt ⟨by omega, by omega⟩, nI_toInt h]
theorem zsh_k : ∀ k : Nat, k < 32 → ((Int32.ofInt (k : Int) &&& 31).toBitVec.smod 32).toNat = k := by decide +kernel
theorem zshr_nat {n k : Nat} (hn : n < 2 ^ 31) (hk : k < 32) : zshr (n : Int) (k : Int) = ((n / 2 ^ k : Nat) : Int) := by
  unfold zshr
  rw [zo_nat n hn, pk_shrN hn _ k (zsh_k k hk), nI_toInt (Nat.lt_of_le_of_lt (Nat.div_le_self _ _) hn)]
theorem zand_nat1 {n : Nat} (hn : n < 2 ^ 31) : zand (n : Int) 1 = ((n % 2 : Nat) : Int) := by
  unfold zand
  rw [zo_nat n hn, pk_andN (by omega) (m := Int32.ofInt 1) 1 (by decide), nI_toInt (by omega)]
theorem zbit_nat {n k : Nat} (hn : n < 2 ^ 31) (hk : k < 32) : zbit (n : Int) (k : Int) = ((n / 2 ^ k % 2 : Nat) : Int) := by
  unfold zbit
  rw [zshr_nat hn hk, zand_nat1 (Nat.lt_of_le_of_lt (Nat.div_le_self _ _) hn)]
theorem zbit_test {n k : Nat} (hn : n < 2 ^ 31) (hk : k < 32) : zbit (n : Int) (k : Int) = 1 ↔ n.testBit k = true := by
  rw [zbit_nat hn hk, Nat.testBit_eq_decide_div_mod_eq, decide_eq_true_iff]
  generalize n / 2 ^ k % 2 = x
  omega
theorem zor_nat {a b : Nat} (ha : a < 2 ^ 31) (hb : b < 2 ^ 31) : zor (a : Int) (b : Int) = ((a ||| b : Nat) : Int) := by
  unfold zor
  rw [zo_nat a ha, zo_nat b hb]
  have hlt : a ||| b < 2 ^ 31 := Nat.or_lt_two_pow ha hb
  have h1 : (nI a ||| nI b).toBitVec.toNat = a ||| b := by
    show (nI a).toBitVec.toNat ||| (nI b).toBitVec.toNat = _
    rw [pk_tn (by omega), pk_tn (by omega)]
  show (nI a ||| nI b).toBitVec.toInt = _
  rw [BitVec.toInt_eq_toNat_of_lt (by rw [h1]; omega), h1]
theorem zshl_1 : ∀ k : Nat, k < 31 → zshl 1 (k : Int) = ((2 ^ k : Nat) : Int) := by decide +kernel
theorem zor_bit {s b j : Nat} (hs : s < 2 ^ 31) (hb : b < 31) (hj : j < 31) : zbit (zor (s : Int) (zshl 1 (b : Int))) (j : Int) = 1 ↔ (zbit (s : Int) (j : Int) = 1 ∨ j = b) := by
  have h2 : 2 ^ b < 2 ^ 31 := Nat.pow_lt_pow_right (by decide) hb
  rw [zshl_1 b hb, zor_nat hs h2, zbit_test (Nat.or_lt_two_pow hs h2) (by omega), zbit_test hs (by omega), Nat.testBit_or, Nat.testBit_two_pow]
  simp
  constructor
  · rintro (h | h)
    · exact Or.inl h
    · exact Or.inr h.symm
  · rintro (h | h)
    · exact Or.inl h
    · exact Or.inr h.symm
theorem zbit_z (j : Nat) (hj : j < 31) : zbit 0 (j : Int) = 0 := by
  have := zbit_nat (n := 0) (k := j) (by decide) (by omega)
  simpa using this
