theorem inR_yes {j n : Nat} (h : j < n) (hn : n < 2 ^ 31) : inR (nI j) n = true := by
  rw [inR_nI (by omega)]; simpa using h
def rg (x : Int32) (lo hi : Nat) : Bool := decide ((lo : Int) ≤ x.toInt ∧ x.toInt ≤ (hi : Int))
theorem rg_of {x : Int32} {lo hi : Nat} (h : rg x lo hi = true) : ∃ j : Nat, lo ≤ j ∧ j ≤ hi ∧ x = nI j := by
  simp [rg] at h
  have hx : ¬ x < 0 := by
    rw [Int32.lt_iff_toInt_lt]
    have : (0 : Int32).toInt = 0 := by decide
    omega
  obtain ⟨j, hj, rfl⟩ := nI_of hx
  rw [nI_toInt hj] at h
  exact ⟨j, by omega, by omega, rfl⟩
theorem rg_t {x : Int32} {lo hi : Nat} (hl : lo < 2 ^ 31) (hh : hi < 2 ^ 31) (h1 : ¬ x < nI lo) (h2 : ¬ nI hi < x) : rg x lo hi = true := by
  rw [Int32.lt_iff_toInt_lt, nI_toInt hl] at h1
  rw [Int32.lt_iff_toInt_lt, nI_toInt hh] at h2
  simp [rg]; omega
def plR (w k : Int32) (n : Nat) : Bool := if w = 0 then inR k n else if w = nI 1 then inR k 6 else false
theorem plR_0 {w k : Int32} {n : Nat} (h : w = 0) : plR w k n = inR k n := by unfold plR; rw [if_pos h]
theorem plR_1 {w k : Int32} {n : Nat} (h : ¬ w = 0) (h1 : w = nI 1) : plR w k n = inR k 6 := by unfold plR; rw [if_neg h, if_pos h1]
theorem plR_2 {w k : Int32} {n : Nat} (h : ¬ w = 0) (h1 : ¬ w = nI 1) : plR w k n = false := by unfold plR; rw [if_neg h, if_neg h1]
theorem plR_of {w k : Int32} {n : Nat} (h : plR w k n = true) : ∃ u j : Nat, w = nI u ∧ k = nI j ∧ u < 2 ∧ (if u = 0 then j < n else j < 6) := by
  unfold plR at h
  split at h
  · next e =>
    obtain ⟨j, hj, rfl⟩ := inR_of h
    exact ⟨0, j, by rw [e]; rfl, rfl, by decide, by simpa using hj⟩
  · split at h
    · next e =>
      obtain ⟨j, hj, rfl⟩ := inR_of h
      exact ⟨1, j, e, rfl, by decide, by simpa using hj⟩
    · cases h
def CCf (n z : Nat) (Hd To Tp Bl : Nat → Nat) : Nat → Nat := itC n z Hd To Tp Bl 126
theorem CCf_ok (n z : Nat) (Hd To Tp Bl : Nat → Nat) : okf (CCf n z Hd To Tp Bl) := itC_ok 126
def KKf (n z : Nat) (Hp Hd To Tp Bl : Nat → Nat) : Nat → Nat := niC z Hp Hd To Tp Bl (CCf n z Hd To Tp Bl) 276
theorem KKf_ok (n z : Nat) (Hp Hd To Tp Bl : Nat → Nat) : okf (KKf n z Hp Hd To Tp Bl) := niC_ok (CCf_ok _ _ _ _ _ _) 276
def RWf (lp : Nat) (Hp Kc Sg : Nat → Nat) (h : Nat) (Rw : Nat → Nat) : Nat → Nat := bdF Hp Kc Sg (fillG Rw (lsF lp) 11) 0 h
theorem RWf_ok {lp : Nat} {Hp Kc Sg : Nat → Nat} {h : Nat} {Rw : Nat → Nat} (hR : okf Rw) : okf (RWf lp Hp Kc Sg h Rw) := bdF_ok (fillG_ok hR (lsF_ok lp) 11) 0 h
def fitB (a b : Int32) (m : Nat) : Bool := if a = -1 then decide (b = -1) else inR a m && (decide (b = -1) || inR b m)
def nearP (Hp Kc Rw Hd To Tp Bl Sg : Nat → Nat) (c h ds i : Nat) : Prop := Hd i + 1 = headF c h Sg ∧ afF Hp Kc Rw To Tp Bl i (h - 1) = ds - 1
theorem headF_pos {c h : Nat} {Sg : Nat → Nat} {x : Nat} (e : x + 1 = headF c h Sg) : 0 < h := by
  unfold headF at e
  by_cases h0 : h = 0
  · rw [if_pos h0] at e; omega
  · omega
theorem headF_lt {c h : Nat} {Sg : Nat → Nat} (hc : c < 5) (hS : ∀ i, Sg i < 5) : headF c h Sg < 26 := by
  unfold headF; have := hS (h - 1); split <;> omega
theorem m1_toInt : (-1 : Int32).toInt = -1 := by decide
theorem oI_lt_m1 : oI 0 < -1 ↔ False := by rw [oI_0]; decide
theorem oI_0_lt {h : Nat} (hh : h < 2 ^ 31) : oI 0 < nI h ↔ True := by
  rw [oI_0, Int32.lt_iff_toInt_lt, nI_toInt hh, m1_toInt]
  exact ⟨fun _ => trivial, fun _ => by omega⟩
theorem nI_lt_m1 {i : Nat} (hi : i < 2 ^ 31) : nI i < -1 ↔ False := by
  rw [Int32.lt_iff_toInt_lt, nI_toInt hi, m1_toInt]
  exact ⟨fun h => by omega, False.elim⟩
theorem nI_ne_m1 {i : Nat} (hi : i < 2 ^ 31) : ¬ nI i = -1 ↔ True := by
  refine ⟨fun _ => trivial, fun _ e => ?_⟩
  have := nI_toInt hi
  rw [e, m1_toInt] at this; omega
theorem at_in {i : Int32} {h : Nat} (hh : h < 2 ^ 31) (h1 : ¬ i = -1) (h2 : ¬ i < -1) (h3 : i < nI h) : inR i h = true := by
  rw [Int32.lt_iff_toInt_lt, nI_toInt hh] at h3
  rw [Int32.lt_iff_toInt_lt, m1_toInt] at h2
  have h4 : ¬ i.toInt = -1 := fun e => h1 (Int32.toInt_inj.mp (by rw [e, m1_toInt]))
  simp [inR]; omega
theorem go_nlt {i x : Int32} (h : x ≤ i) : ¬ i < x := by
  rw [Int32.lt_iff_toInt_lt]; rw [Int32.le_iff_toInt_le] at h; omega
