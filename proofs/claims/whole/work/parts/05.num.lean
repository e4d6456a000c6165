theorem oI_pos {a : Nat} (h : 0 < a) : oI a = nI (a - 1) := by
  obtain ⟨b, rfl⟩ : ∃ b, a = b + 1 := ⟨a - 1, by omega⟩
  exact oI_s b
theorem nI_lt0 {a : Nat} (h : a < 2 ^ 31) : nI a < 0 ↔ False := ⟨fun h2 => absurd h2 (nI_pos h), False.elim⟩
theorem nI_ge0 {a : Nat} (h : a < 2 ^ 31) : 0 ≤ nI a ↔ True := ⟨fun _ => trivial, fun _ => nI_pos' h⟩
theorem oI_lt0 {a : Nat} (h : a < 2 ^ 31) : oI a < 0 ↔ a = 0 := by
  cases a with
  | zero => simp only [oI_0]; decide
  | succ a => rw [oI_s]; exact ⟨fun h2 => absurd h2 (nI_pos (by omega)), fun h2 => by omega⟩
theorem oI_ge0 {a : Nat} (h : a < 2 ^ 31) : 0 ≤ oI a ↔ 0 < a := by
  cases a with
  | zero => simp only [oI_0]; decide
  | succ a => rw [oI_s]; exact ⟨fun _ => by omega, fun _ => nI_pos' (by omega)⟩
theorem z_sl : ∀ n, n < 32 → ((nI n &&& 31).toBitVec.smod 32).toNat = n := by decide +kernel
theorem z_shl {a j : Nat} (hj : j < 32) (h : a * 2 ^ j < 2 ^ 32) : nI a <<< (nI j &&& 31) = nI (a * 2 ^ j) := pk_shlN _ j (z_sl j hj) h
theorem z_shr {a j : Nat} (hj : j < 32) (h : a < 2 ^ 31) : nI a >>> (nI j &&& 31) = nI (a / 2 ^ j) := pk_shrN h _ j (z_sl j hj)
theorem z_and (a b : Nat) : nI a &&& nI b = nI (a &&& b) := by
  apply Int32.toBitVec_inj.mp
  show BitVec.ofNat 32 a &&& BitVec.ofNat 32 b = BitVec.ofNat 32 (a &&& b)
  apply BitVec.eq_of_getLsbD_eq
  intro i hi
  simp [BitVec.getLsbD_and, BitVec.getLsbD_ofNat, hi, Nat.testBit_and]
theorem z_or (a b : Nat) : nI a ||| nI b = nI (a ||| b) := by
  apply Int32.toBitVec_inj.mp
  show BitVec.ofNat 32 a ||| BitVec.ofNat 32 b = BitVec.ofNat 32 (a ||| b)
  apply BitVec.eq_of_getLsbD_eq
  intro i hi
  simp [BitVec.getLsbD_or, BitVec.getLsbD_ofNat, hi, Nat.testBit_or]
theorem rv_of {a : Nat} (h : a ≠ 9000000000000000000) : rv a = lN a := by simp [rv, h]
theorem rv_NV : rv 9000000000000000000 = -1 := by decide
theorem rv_lt0 {a : Nat} (h : a ≤ 9000000000000000000) : rv a < 0 ↔ a = 9000000000000000000 := by
  by_cases e : a = 9000000000000000000
  · subst e; simp only [rv_NV]; decide
  · rw [rv_of e]
    have := (pk_lLT (a := a) (b := 0) (by omega) (by decide))
    constructor
    · intro h2; exact absurd (this.mp h2) (by omega)
    · intro h2; exact absurd h2 e
theorem rv_ge0 {a : Nat} (h : a ≤ 9000000000000000000) : 0 ≤ rv a ↔ ¬ a = 9000000000000000000 := by
  rw [← rv_lt0 h]
  simp only [Int64.lt_iff_toInt_lt, Int64.le_iff_toInt_le]
  omega
theorem rv_eq {a b : Nat} (ha : a ≤ 9000000000000000000) (hb : b ≤ 9000000000000000000) : rv a = rv b ↔ a = b := by
  constructor
  · intro h
    by_cases e : a = 9000000000000000000
    · have h1 := (rv_lt0 ha).mpr e
      rw [h] at h1
      rw [e, (rv_lt0 hb).mp h1]
    · by_cases f : b = 9000000000000000000
      · have h1 := (rv_lt0 hb).mpr f
        rw [← h] at h1
        exact absurd ((rv_lt0 ha).mp h1) e
      · rw [rv_of e, rv_of f] at h
        exact (pk_lEQ (by omega) (by omega)).mp h
  · intro h; rw [h]
section GM
variable {E : Ev} {cc : ByteArray} {Ts : List Cond} {own : String} {rm : Room} {nL k n pc : Nat} {lv : List (Nat × Value)} {st : List Value} {ws : va_W}
theorem g_max (C : Cx E cc Ts own rm nL) {i : Nat} (h1 : Cond.methodLink own i Lib.Math.max.name ∈ Ts) (h2 : Cond.static Lib.Math.max.name ∈ Ts) (h3 : Cond.initialized "java/lang/Math" ∈ Ts) (h4 : Cond.code Lib.Math.max.name Lib.Math.max.code 2 (some .int) ∈ Ts) (hf : 1 ≤ rm.frames) (hl : (st.map fun v => v.category).sum + 13 ≤ rm.locals) (hk : k ≤ rm.cells ∧ n ≤ rm.slots) {a b : Nat} (ha : a < 2 ^ 31) (hb : b < 2 ^ 31) (d : decode cc pc = .ok (.invokestatic i, 3)) (q : Nat) (hq : pc + 3 = q) (kk : Go E k n q lv (.int (nI (max a b)) :: st) ws) : Go E k n pc lv (.int (nI b) :: .int (nI a) :: st) ws := by
  subst hq
  have e : (if nI a < nI b then nI b else nI a) = nI (max a b) := by
    by_cases h : a < b
    · rw [if_pos ((nI_ltI ha hb).mpr h), Nat.max_eq_right (by omega)]
    · rw [if_neg (fun q => h ((nI_ltI ha hb).mp q)), Nat.max_eq_left (by omega)]
  intro H locs ls hl0 hP hD hS
  refine va_mmax C.1.1 C.1.2.1 (by rw [C.1.2.2.1, hl0.1]) C.1.2.2.2.1 (C.1.2.2.2.2 _ h1) (C.1.2.2.2.2 _ h2) (C.1.2.2.2.2 _ h3) (C.1.2.2.2.2 _ h4) (by rw [C.2.2.2.2.1]; exact hf) (by rw [C.2.2.2.2.1]; exact hl) (by rw [C.2.2.2.2.1]; exact hk.1) (by rw [C.2.2.2.2.1]; exact hk.2) d ?_
  rw [e]
  exact kk H locs ls hl0 hP hD hS
theorem g_minL (C : Cx E cc Ts own rm nL) {i : Nat} (h1 : Cond.methodLink own i Lib.MathLoose.min_long.x ∈ Ts) (h2 : Cond.static Lib.MathLoose.min_long.x ∈ Ts) (h3 : Cond.initialized "java/lang/Math" ∈ Ts) (h4 : Cond.code Lib.MathLoose.min_long.x Lib.MathLoose.min_long.code 4 (some .long) ∈ Ts) (hf : 1 ≤ rm.frames) (hl : (st.map fun v => v.category).sum + 15 ≤ rm.locals) (hk : k ≤ rm.cells ∧ n ≤ rm.slots) {a b : Nat} (ha : a < 2 ^ 63) (hb : b < 2 ^ 63) (d : decode cc pc = .ok (.invokestatic i, 3)) (q : Nat) (hq : pc + 3 = q) (kk : Go E k n q lv (.long (lN (min a b)) :: st) ws) : Go E k n pc lv (.long (lN b) :: .long (lN a) :: st) ws := by
  subst hq
  have e : (if lN b < lN a then lN b else lN a) = lN (min a b) := by
    by_cases h : b < a
    · rw [if_pos ((pk_lLT hb ha).mpr h), Nat.min_eq_right (by omega)]
    · rw [if_neg (fun q => h ((pk_lLT hb ha).mp q)), Nat.min_eq_left (by omega)]
  intro H locs ls hl0 hP hD hS
  refine va_mmin_long C.1.1 C.1.2.1 (by rw [C.1.2.2.1, hl0.1]) C.1.2.2.2.1 (C.1.2.2.2.2 _ h1) (C.1.2.2.2.2 _ h2) (C.1.2.2.2.2 _ h3) (C.1.2.2.2.2 _ h4) (by rw [C.2.2.2.2.1]; exact hf) (by rw [C.2.2.2.2.1]; exact hl) (by rw [C.2.2.2.2.1]; exact hk.1) (by rw [C.2.2.2.2.1]; exact hk.2) d ?_
  rw [e]
  exact kk H locs ls hl0 hP hD hS
end GM
