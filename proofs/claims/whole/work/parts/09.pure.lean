theorem inR_yes {j n : Nat} (h : j < n) (hn : n < 2 ^ 31) : inR (nI j) n = true := by
  rw [inR_nI (by omega)]; simpa using h
def rg (x : Int32) (lo hi : Nat) : Bool := decide ((lo : Int) ≤ x.toInt ∧ x.toInt ≤ (hi : Int))
theorem rg_of {x : Int32} {lo hi : Nat} (h : rg x lo hi = true) : ∃ j : Nat, lo ≤ j ∧ j ≤ hi ∧ x = nI j := by
  simp [rg] at h
  have hx : ¬ x < 0 := by
    rw [Int32.lt_iff_toInt_lt]
    have : (0 : Int32).toInt = 0 := by decide
    omega
  obtain ⟨j, hj, rfl⟩ := nI_of hx
  rw [nI_toInt hj] at h
  exact ⟨j, by omega, by omega, rfl⟩
theorem rg_t {x : Int32} {lo hi : Nat} (hl : lo < 2 ^ 31) (hh : hi < 2 ^ 31) (h1 : ¬ x < nI lo) (h2 : ¬ nI hi < x) : rg x lo hi = true := by
  rw [Int32.lt_iff_toInt_lt, nI_toInt hl] at h1
  rw [Int32.lt_iff_toInt_lt, nI_toInt hh] at h2
  simp [rg]; omega
def plR (w k : Int32) (n : Nat) : Bool := if w = 0 then inR k n else if w = nI 1 then inR k 6 else false
theorem plR_0 {w k : Int32} {n : Nat} (h : w = 0) : plR w k n = inR k n := by unfold plR; rw [if_pos h]
theorem plR_1 {w k : Int32} {n : Nat} (h : ¬ w = 0) (h1 : w = nI 1) : plR w k n = inR k 6 := by unfold plR; rw [if_neg h, if_pos h1]
theorem plR_2 {w k : Int32} {n : Nat} (h : ¬ w = 0) (h1 : ¬ w = nI 1) : plR w k n = false := by unfold plR; rw [if_neg h, if_neg h1]
theorem plR_of {w k : Int32} {n : Nat} (h : plR w k n = true) : ∃ u j : Nat, w = nI u ∧ k = nI j ∧ u < 2 ∧ (if u = 0 then j < n else j < 6) := by
  unfold plR at h
  split at h
  · next e =>
    obtain ⟨j, hj, rfl⟩ := inR_of h
    exact ⟨0, j, by rw [e]; rfl, rfl, by decide, by simpa using hj⟩
  · split at h
    · next e =>
      obtain ⟨j, hj, rfl⟩ := inR_of h
      exact ⟨1, j, e, rfl, by decide, by simpa using hj⟩
    · cases h
def CCf (n z : Nat) (Hd To Tp Bl : Nat → Nat) : Nat → Nat := itC n z Hd To Tp Bl 126
theorem CCf_ok (n z : Nat) (Hd To Tp Bl : Nat → Nat) : okf (CCf n z Hd To Tp Bl) := itC_ok 126
def KKf (n z : Nat) (Hp Hd To Tp Bl : Nat → Nat) : Nat → Nat := niC z Hp Hd To Tp Bl (CCf n z Hd To Tp Bl) 276
theorem KKf_ok (n z : Nat) (Hp Hd To Tp Bl : Nat → Nat) : okf (KKf n z Hp Hd To Tp Bl) := niC_ok (CCf_ok _ _ _ _ _ _) 276
def RWf (lp : Nat) (Hp Kc Sg : Nat → Nat) (h : Nat) (Rw : Nat → Nat) : Nat → Nat := bdF Hp Kc Sg (fillG Rw (lsF lp) 11) 0 h
theorem RWf_ok {lp : Nat} {Hp Kc Sg : Nat → Nat} {h : Nat} {Rw : Nat → Nat} (hR : okf Rw) : okf (RWf lp Hp Kc Sg h Rw) := bdF_ok (fillG_ok hR (lsF_ok lp) 11) 0 h
def fitB (a b : Int32) (m : Nat) : Bool := if a = -1 then decide (b = -1) else inR a m && (decide (b = -1) || inR b m)
abbrev nearP (Hp Kc Rw Hd To Tp Bl Sg : Nat → Nat) (c h ds i : Nat) : Prop := Hd i + 1 = headF c h Sg ∧ afF Hp Kc Rw To Tp Bl i (h - 1) = ds - 1
theorem headF_pos {c h : Nat} {Sg : Nat → Nat} {x : Nat} (e : x + 1 = headF c h Sg) : 0 < h := by
  unfold headF at e
  by_cases h0 : h = 0
  · rw [if_pos h0] at e; omega
  · omega
theorem headF_lt {c h : Nat} {Sg : Nat → Nat} (hc : c < 5) (hS : ∀ i, Sg i < 5) : headF c h Sg < 26 := by
  unfold headF; have := hS (h - 1); split <;> omega
theorem m1_toInt : (-1 : Int32).toInt = -1 := by decide
theorem oI_lt_m1 : oI 0 < -1 ↔ False := by rw [oI_0]; decide
theorem oI_0_lt {h : Nat} (hh : h < 2 ^ 31) : oI 0 < nI h ↔ True := by
  rw [oI_0, Int32.lt_iff_toInt_lt, nI_toInt hh, m1_toInt]
  exact ⟨fun _ => trivial, fun _ => by omega⟩
theorem nI_lt_m1 {i : Nat} (hi : i < 2 ^ 31) : nI i < -1 ↔ False := by
  rw [Int32.lt_iff_toInt_lt, nI_toInt hi, m1_toInt]
  exact ⟨fun h => by omega, False.elim⟩
theorem nI_ne_m1 {i : Nat} (hi : i < 2 ^ 31) : ¬ nI i = -1 ↔ True := by
  refine ⟨fun _ => trivial, fun _ e => ?_⟩
  have := nI_toInt hi
  rw [e, m1_toInt] at this; omega
theorem at_in {i : Int32} {h : Nat} (hh : h < 2 ^ 31) (h1 : ¬ i = -1) (h2 : ¬ i < -1) (h3 : i < nI h) : inR i h = true := by
  rw [Int32.lt_iff_toInt_lt, nI_toInt hh] at h3
  rw [Int32.lt_iff_toInt_lt, m1_toInt] at h2
  have h4 : ¬ i.toInt = -1 := fun e => h1 (Int32.toInt_inj.mp (by rw [e, m1_toInt]))
  simp [inR]; omega
theorem go_nlt {i x : Int32} (h : x ≤ i) : ¬ i < x := by
  rw [Int32.lt_iff_toInt_lt]; rw [Int32.le_iff_toInt_le] at h; omega
section GT
variable {E : Ev} {cc : ByteArray} {Ts : List Cond} {own : String} {rm : Room} {nL k n pc : Nat} {lv : List (Nat × Value)} {st : List Value} {ws : va_W}
theorem g_tabIn (C : Cx E cc Ts own rm nL) {dflt lo hi : Int} {offs : Array Int} {len : Nat} {x : Int32} {off : Int} (d : decode cc pc = .ok (.tableswitch dflt lo hi offs, len)) (h1 : ¬ x.toInt < lo) (h2 : ¬ hi < x.toInt) (ho : offs[(x.toInt - lo).toNat]? = some off) (t : Nat) (ht : (pc : Int) + off = (t : Int)) (kk : Go E k n t lv st ws) : Go E k n pc lv (.int x :: st) ws :=
  fun H locs ls hl hP hD hS => lv_tableIn C.1.1 C.1.2.1 d h1 h2 ho ht (kk H locs ls hl hP hD hS)
theorem g_tabOut (C : Cx E cc Ts own rm nL) {dflt lo hi : Int} {offs : Array Int} {len : Nat} {x : Int32} (d : decode cc pc = .ok (.tableswitch dflt lo hi offs, len)) (h : x.toInt < lo ∨ hi < x.toInt) (t : Nat) (ht : (pc : Int) + dflt = (t : Int)) (kk : Go E k n t lv st ws) : Go E k n pc lv (.int x :: st) ws :=
  fun H locs ls hl hP hD hS => lv_tableOut C.1.1 C.1.2.1 d h ht (kk H locs ls hl hP hD hS)
end GT
theorem rg_out {x : Int32} {lo hi : Nat} (h : rg x lo hi = false) : x.toInt < lo ∨ hi < x.toInt := by
  simp [rg] at h; omega
def bI01 (b : Bool) : Int32 := bI b
def rnF (z : Nat) (Hp Kc Hd To Tp Bl : Nat → Nat) (near : Nat → Nat → (Nat → Nat) → (Nat → Nat) → Nat → Nat) : Nat → Nat → Nat → Nat → (Nat → Nat) → (Nat → Nat) → Nat × Nat × Nat × (Nat → Nat) × (Nat → Nat)
  | 0, _, c, h, Sg, Rw => (0, c, h, Sg, Rw)
  | f + 1, ds, c, h, Sg, Rw =>
    if ds = 0 then (0, c, h, Sg, Rw)
    else if z ≤ near c h Sg Rw ds then (0, c, h, Sg, Rw)
    else if ¬ (Bl (near c h Sg Rw ds) = 0 ∨ h < 60) then (0, c, h, Sg, Rw)
    else
      let r := near c h Sg Rw ds
      let q := rnF z Hp Kc Hd To Tp Bl near f (ds - 1) (To r) (chH h (Tp r) (Bl r)) (chS Sg h (Tp r) (Bl r)) (bdF Hp Kc (chS Sg h (Tp r) (Bl r)) Rw (h - 1) (chH h (Tp r) (Bl r) - (h - 1)))
      (q.1 + 1, q.2)
theorem plR_yes {w y n : Nat} (hw : w < 2) (hy : if w = 0 then y < n else y < 6) (hn : n < 2 ^ 31) : plR (nI w) (nI y) n = true := by
  have h01 : w = 0 ∨ w = 1 := by omega
  rcases h01 with rfl | rfl
  · rw [plR_0 (by decide)]; exact inR_yes (by simpa using hy) hn
  · rw [plR_1 (by decide) rfl]; exact inR_yes (by simpa using hy) (by decide)
theorem pl_lt {w y n : Nat} (hw : w < 2) (hy : if w = 0 then y < n else y < 6) (hn : n ≤ 5) : (if w = 0 then y else 5 + y) < 11 := by
  by_cases h : w = 0
  · rw [if_pos h] at hy ⊢; omega
  · rw [if_neg h] at hy ⊢; omega
theorem if_then {α : Type} {c : Prop} [Decidable c] {a b : α} (h : c → a = b) : (if c then a else b) = b := by
  by_cases e : c
  · rw [if_pos e]; exact h e
  · rw [if_neg e]
theorem if_then2 {α : Type} {c d : Prop} [Decidable (c ∧ d)] {a b : α} (h : c → d → a = b) : (if c ∧ d then a else b) = b := if_then (fun e => h e.1 e.2)
theorem lt_of_ne_P {i r : Nat} (h : i ≤ r) (h2 : i ≠ r) : i < r := by omega
theorem afF_ok {Hp Kc Rw To Tp Bl : Nat → Nat} (h : okf Rw) (r k : Nat) : afF Hp Kc Rw To Tp Bl r k ≤ 1000000000000000 ∨ afF Hp Kc Rw To Tp Bl r k = 9000000000000000000 := by
  unfold afF; split
  · exact h _
  · split
    · exact acF_ok _ _ _ _ _ _ _
    · exact afP_ok _ _ _ _ _ _ _ _
theorem tlF_lt {z : Nat} {Hd To Tp Bl Cv : Nat → Nat} (hz : z ≤ 30) : ∀ k, tlF z Hd To Tp Bl Cv k < 2 ^ 20 := by
  intro k
  have := tfT_le (bo := leQ (wsM (agR (exF Cv) Hd To Tp Bl z) 25) (risR (wsM (agR (exF Cv) Hd To Tp Bl z) 25) Hd To Tp Bl z) 25) (z := z) (Ex := exF Cv) (Hd := Hd) (To := To) (Tp := Tp) (Bl := Bl) 26 k
  unfold tlF
  omega
theorem near_eq {p : Nat → Prop} {i r : Nat} (h : i ≤ r) (hp : p i) (hNo : ∀ i, i < r → ¬ p i) : r = i := by
  rcases Nat.lt_or_ge i r with q | q
  · exact absurd hp (hNo i q)
  · omega
