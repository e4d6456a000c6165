def inR (x : Int32) (n : Nat) : Bool := decide (0 ≤ x.toInt ∧ x.toInt < n)
theorem inR_lt {x : Int32} {n : Nat} (h : x < 0) : inR x n = false := by
  rw [Int32.lt_iff_toInt_lt] at h
  simp [inR]; intro h2; exact absurd h (by simpa using h2)
theorem inR_ge {x : Int32} {n : Nat} (hn : n < 2 ^ 31) (h : nI n ≤ x) : inR x n = false := by
  rw [Int32.le_iff_toInt_le, nI_toInt hn] at h
  simp [inR]; omega
theorem inR_t {x : Int32} {n : Nat} (hn : n < 2 ^ 31) (h0 : ¬ x < 0) (h : ¬ nI n ≤ x) : inR x n = true := by
  rw [Int32.le_iff_toInt_le, nI_toInt hn] at h
  rw [Int32.lt_iff_toInt_lt] at h0
  have : (0 : Int32).toInt = 0 := by decide
  simp [inR]; omega
theorem inR_of {x : Int32} {n : Nat} (h : inR x n = true) : ∃ j : Nat, j < n ∧ x = nI j := by
  simp [inR] at h
  have hx : ¬ x < 0 := by
    rw [Int32.lt_iff_toInt_lt]
    have : (0 : Int32).toInt = 0 := by decide
    omega
  obtain ⟨j, hj, rfl⟩ := nI_of hx
  rw [nI_toInt hj] at h
  exact ⟨j, by omega, rfl⟩
theorem inR_nI {j n : Nat} (hj : j < 2 ^ 31) : inR (nI j) n = decide (j < n) := by
  simp [inR, nI_toInt hj]
def sm (a b : Nat) : Nat := if a = 9000000000000000000 ∨ b = 9000000000000000000 then 9000000000000000000 else min 1000000000000000 (a + b)
theorem tb_0 {b i : Nat} (h : b / 2 ^ i &&& 1 = 0) : b.testBit i = false := by
  rw [Nat.and_one_is_mod] at h
  rw [Nat.testBit_eq_decide_div_mod_eq, h]; rfl
theorem tb_1 {b i : Nat} (h : ¬ b / 2 ^ i &&& 1 = 0) : b.testBit i = true := by
  rw [Nat.and_one_is_mod] at h
  rw [Nat.testBit_eq_decide_div_mod_eq]
  have : b / 2 ^ i % 2 = 1 := by omega
  rw [this]; rfl
theorem bx_lt (b i : Nat) (h : b < 2 ^ 31) : b / 2 ^ i &&& 1 < 2 ^ 31 := by
  rw [Nat.and_one_is_mod]; omega
def matchF (Hd : Nat → Nat) (w : Nat) : Nat → Nat
  | 0 => 0
  | n + 1 => matchF Hd w n + (if Hd n = w then 1 else 0)
theorem matchF_le (Hd : Nat → Nat) (w : Nat) : ∀ n, matchF Hd w n ≤ n
  | 0 => Nat.le_refl _
  | n + 1 => by have := matchF_le Hd w n; simp only [matchF]; split <;> omega
