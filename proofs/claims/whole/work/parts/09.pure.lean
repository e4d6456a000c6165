theorem inR_yes {j n : Nat} (h : j < n) (hn : n < 2 ^ 31) : inR (nI j) n = true := by
  rw [inR_nI (by omega)]; simpa using h
def rg (x : Int32) (lo hi : Nat) : Bool := decide ((lo : Int) ≤ x.toInt ∧ x.toInt ≤ (hi : Int))
theorem rg_of {x : Int32} {lo hi : Nat} (h : rg x lo hi = true) : ∃ j : Nat, lo ≤ j ∧ j ≤ hi ∧ x = nI j := by
  simp [rg] at h
  have hx : ¬ x < 0 := by
    rw [Int32.lt_iff_toInt_lt]
    have : (0 : Int32).toInt = 0 := by decide
    omega
  obtain ⟨j, hj, rfl⟩ := nI_of hx
  rw [nI_toInt hj] at h
  exact ⟨j, by omega, by omega, rfl⟩
theorem rg_t {x : Int32} {lo hi : Nat} (hl : lo < 2 ^ 31) (hh : hi < 2 ^ 31) (h1 : ¬ x < nI lo) (h2 : ¬ nI hi < x) : rg x lo hi = true := by
  rw [Int32.lt_iff_toInt_lt, nI_toInt hl] at h1
  rw [Int32.lt_iff_toInt_lt, nI_toInt hh] at h2
  simp [rg]; omega
def plR (w k : Int32) (n : Nat) : Bool := if w = 0 then inR k n else if w = nI 1 then inR k 6 else false
theorem plR_0 {w k : Int32} {n : Nat} (h : w = 0) : plR w k n = inR k n := by unfold plR; rw [if_pos h]
theorem plR_1 {w k : Int32} {n : Nat} (h : ¬ w = 0) (h1 : w = nI 1) : plR w k n = inR k 6 := by unfold plR; rw [if_neg h, if_pos h1]
theorem plR_2 {w k : Int32} {n : Nat} (h : ¬ w = 0) (h1 : ¬ w = nI 1) : plR w k n = false := by unfold plR; rw [if_neg h, if_neg h1]
theorem plR_of {w k : Int32} {n : Nat} (h : plR w k n = true) : ∃ u j : Nat, w = nI u ∧ k = nI j ∧ u < 2 ∧ (if u = 0 then j < n else j < 6) := by
  unfold plR at h
  split at h
  · next e =>
    obtain ⟨j, hj, rfl⟩ := inR_of h
    exact ⟨0, j, by rw [e]; rfl, rfl, by decide, by simpa using hj⟩
  · split at h
    · next e =>
      obtain ⟨j, hj, rfl⟩ := inR_of h
      exact ⟨1, j, e, rfl, by decide, by simpa using hj⟩
    · cases h
def CCf (n z : Nat) (Hd To Tp Bl : Nat → Nat) : Nat → Nat := itC n z Hd To Tp Bl 126
theorem CCf_ok (n z : Nat) (Hd To Tp Bl : Nat → Nat) : okf (CCf n z Hd To Tp Bl) := itC_ok 126
def KKf (n z : Nat) (Hp Hd To Tp Bl : Nat → Nat) : Nat → Nat := niC z Hp Hd To Tp Bl (CCf n z Hd To Tp Bl) 276
theorem KKf_ok (n z : Nat) (Hp Hd To Tp Bl : Nat → Nat) : okf (KKf n z Hp Hd To Tp Bl) := niC_ok (CCf_ok _ _ _ _ _ _) 276
def RWf (lp : Nat) (Hp Kc Sg : Nat → Nat) (h : Nat) (Rw : Nat → Nat) : Nat → Nat := bdF Hp Kc Sg (fillG Rw (lsF lp) 11) 0 h
theorem RWf_ok {lp : Nat} {Hp Kc Sg : Nat → Nat} {h : Nat} {Rw : Nat → Nat} (hR : okf Rw) : okf (RWf lp Hp Kc Sg h Rw) := bdF_ok (fillG_ok hR (lsF_ok lp) 11) 0 h
def fitB (a b : Int32) (m : Nat) : Bool := if a = -1 then decide (b = -1) else inR a m && (decide (b = -1) || inR b m)
abbrev nearP (Hp Kc Rw Hd To Tp Bl Sg : Nat → Nat) (c h ds i : Nat) : Prop := Hd i + 1 = headF c h Sg ∧ afF Hp Kc Rw To Tp Bl i (h - 1) = ds - 1
theorem headF_pos {c h : Nat} {Sg : Nat → Nat} {x : Nat} (e : x + 1 = headF c h Sg) : 0 < h := by
  unfold headF at e
  by_cases h0 : h = 0
  · rw [if_pos h0] at e; omega
  · omega
theorem headF_lt {c h : Nat} {Sg : Nat → Nat} (hc : c < 5) (hS : ∀ i, Sg i < 5) : headF c h Sg < 26 := by
  unfold headF; have := hS (h - 1); split <;> omega
theorem m1_toInt : (-1 : Int32).toInt = -1 := by decide
theorem oI_lt_m1 : oI 0 < -1 ↔ False := by rw [oI_0]; decide
theorem oI_0_lt {h : Nat} (hh : h < 2 ^ 31) : oI 0 < nI h ↔ True := by
  rw [oI_0, Int32.lt_iff_toInt_lt, nI_toInt hh, m1_toInt]
  exact ⟨fun _ => trivial, fun _ => by omega⟩
theorem nI_lt_m1 {i : Nat} (hi : i < 2 ^ 31) : nI i < -1 ↔ False := by
  rw [Int32.lt_iff_toInt_lt, nI_toInt hi, m1_toInt]
  exact ⟨fun h => by omega, False.elim⟩
theorem nI_ne_m1 {i : Nat} (hi : i < 2 ^ 31) : ¬ nI i = -1 ↔ True := by
  refine ⟨fun _ => trivial, fun _ e => ?_⟩
  have := nI_toInt hi
  rw [e, m1_toInt] at this; omega
theorem at_in {i : Int32} {h : Nat} (hh : h < 2 ^ 31) (h1 : ¬ i = -1) (h2 : ¬ i < -1) (h3 : i < nI h) : inR i h = true := by
  rw [Int32.lt_iff_toInt_lt, nI_toInt hh] at h3
  rw [Int32.lt_iff_toInt_lt, m1_toInt] at h2
  have h4 : ¬ i.toInt = -1 := fun e => h1 (Int32.toInt_inj.mp (by rw [e, m1_toInt]))
  simp [inR]; omega
theorem go_nlt {i x : Int32} (h : x ≤ i) : ¬ i < x := by
  rw [Int32.lt_iff_toInt_lt]; rw [Int32.le_iff_toInt_le] at h; omega
section GT
variable {E : Ev} {cc : ByteArray} {Ts : List Cond} {own : String} {rm : Room} {nL k n pc : Nat} {lv : List (Nat × Value)} {st : List Value} {ws : va_W}
theorem g_tabIn (C : Cx E cc Ts own rm nL) {dflt lo hi : Int} {offs : Array Int} {len : Nat} {x : Int32} {off : Int} (d : decode cc pc = .ok (.tableswitch dflt lo hi offs, len)) (h1 : ¬ x.toInt < lo) (h2 : ¬ hi < x.toInt) (ho : offs[(x.toInt - lo).toNat]? = some off) (t : Nat) (ht : (pc : Int) + off = (t : Int)) (kk : Go E k n t lv st ws) : Go E k n pc lv (.int x :: st) ws :=
  fun H locs ls hl hP hD hS => lv_tableIn C.1.1 C.1.2.1 d h1 h2 ho ht (kk H locs ls hl hP hD hS)
theorem g_tabOut (C : Cx E cc Ts own rm nL) {dflt lo hi : Int} {offs : Array Int} {len : Nat} {x : Int32} (d : decode cc pc = .ok (.tableswitch dflt lo hi offs, len)) (h : x.toInt < lo ∨ hi < x.toInt) (t : Nat) (ht : (pc : Int) + dflt = (t : Int)) (kk : Go E k n t lv st ws) : Go E k n pc lv (.int x :: st) ws :=
  fun H locs ls hl hP hD hS => lv_tableOut C.1.1 C.1.2.1 d h ht (kk H locs ls hl hP hD hS)
end GT
theorem rg_out {x : Int32} {lo hi : Nat} (h : rg x lo hi = false) : x.toInt < lo ∨ hi < x.toInt := by
  simp [rg] at h; omega
theorem plR_yes {w y n : Nat} (hw : w < 2) (hy : if w = 0 then y < n else y < 6) (hn : n < 2 ^ 31) : plR (nI w) (nI y) n = true := by
  have h01 : w = 0 ∨ w = 1 := by omega
  rcases h01 with rfl | rfl
  · rw [plR_0 (by decide)]; exact inR_yes (by simpa using hy) hn
  · rw [plR_1 (by decide) rfl]; exact inR_yes (by simpa using hy) (by decide)
theorem pl_lt {w y n : Nat} (hw : w < 2) (hy : if w = 0 then y < n else y < 6) (hn : n ≤ 5) : (if w = 0 then y else 5 + y) < 11 := by
  by_cases h : w = 0
  · rw [if_pos h] at hy ⊢; omega
  · rw [if_neg h] at hy ⊢; omega
theorem if_then {α : Type} {c : Prop} [Decidable c] {a b : α} (h : c → a = b) : (if c then a else b) = b := by
  by_cases e : c
  · rw [if_pos e]; exact h e
  · rw [if_neg e]
theorem if_then2 {α : Type} {c d : Prop} [Decidable (c ∧ d)] {a b : α} (h : c → d → a = b) : (if c ∧ d then a else b) = b := if_then (fun e => h e.1 e.2)
theorem lt_of_ne_P {i r : Nat} (h : i ≤ r) (h2 : i ≠ r) : i < r := by omega
theorem afF_ok {Hp Kc Rw To Tp Bl : Nat → Nat} (h : okf Rw) (r k : Nat) : afF Hp Kc Rw To Tp Bl r k ≤ 1000000000000000 ∨ afF Hp Kc Rw To Tp Bl r k = 9000000000000000000 := by
  unfold afF; split
  · exact h _
  · split
    · exact acF_ok _ _ _ _ _ _ _
    · exact afP_ok _ _ _ _ _ _ _ _
theorem tlF_lt {z : Nat} {Hd To Tp Bl Cv : Nat → Nat} (hz : z ≤ 30) : ∀ k, tlF z Hd To Tp Bl Cv k < 2 ^ 20 := by
  intro k
  have := tfT_le (bo := leQ (wsM (agR (exF Cv) Hd To Tp Bl z) 25) (risR (wsM (agR (exF Cv) Hd To Tp Bl z) 25) Hd To Tp Bl z) 25) (z := z) (Ex := exF Cv) (Hd := Hd) (To := To) (Tp := Tp) (Bl := Bl) 26 k
  unfold tlF
  omega
theorem near_eq {p : Nat → Prop} {i r : Nat} (h : i ≤ r) (hp : p i) (hNo : ∀ i, i < r → ¬ p i) : r = i := by
  rcases Nat.lt_or_ge i r with q | q
  · exact absurd hp (hNo i q)
  · omega
def fsI (p : Nat → Bool) : Nat → Nat
  | 0 => 0
  | n + 1 => if fsI p n < n then fsI p n else if p n = true then n else n + 1
theorem fsI_le (p : Nat → Bool) : ∀ n, fsI p n ≤ n
  | 0 => Nat.le_refl 0
  | n + 1 => by
    have := fsI_le p n
    simp only [fsI]; split
    · omega
    · split <;> omega
theorem fsI_no (p : Nat → Bool) : ∀ n i, i < fsI p n → p i = false
  | 0, i, h => absurd h (Nat.not_lt_zero i)
  | n + 1, i, h => by
    have h1 := fsI_le p n
    simp only [fsI] at h
    split at h
    · exact fsI_no p n i h
    · next e =>
      have en : fsI p n = n := by omega
      split at h
      · exact fsI_no p n i (by omega)
      · next q =>
        rcases Nat.lt_or_ge i n with hi | hi
        · exact fsI_no p n i (by omega)
        · have : i = n := by omega
          subst this; simpa using q
theorem fsI_yes (p : Nat → Bool) : ∀ n, fsI p n < n → p (fsI p n) = true
  | 0, h => absurd h (Nat.not_lt_zero _)
  | n + 1, h => by
    by_cases e : fsI p n < n
    · have : fsI p (n + 1) = fsI p n := by simp only [fsI, if_pos e]
      rw [this]; exact fsI_yes p n e
    · by_cases q : p n = true
      · have : fsI p (n + 1) = n := by simp only [fsI, if_neg e, if_pos q]
        rw [this]; exact q
      · have : fsI p (n + 1) = n + 1 := by simp only [fsI, if_neg e, if_neg q]
        omega
def nearI (z : Nat) (Hp Kc Hd To Tp Bl : Nat → Nat) (c h : Nat) (Sg Rw : Nat → Nat) (ds : Nat) : Nat := fsI (fun i => decide (nearP Hp Kc Rw Hd To Tp Bl Sg c h ds i)) z
theorem nearI_cases (z : Nat) (Hp Kc Hd To Tp Bl : Nat → Nat) (c h : Nat) (Sg Rw : Nat → Nat) (ds : Nat) :
    (∃ r, r = nearI z Hp Kc Hd To Tp Bl c h Sg Rw ds ∧ r < z ∧ nearP Hp Kc Rw Hd To Tp Bl Sg c h ds r ∧ ∀ i, i < r → ¬ nearP Hp Kc Rw Hd To Tp Bl Sg c h ds i) ∨ (z ≤ nearI z Hp Kc Hd To Tp Bl c h Sg Rw ds ∧ ∀ i, i < z → ¬ nearP Hp Kc Rw Hd To Tp Bl Sg c h ds i) := by
  rcases Nat.lt_or_ge (nearI z Hp Kc Hd To Tp Bl c h Sg Rw ds) z with q | q
  · exact Or.inl ⟨_, rfl, q, of_decide_eq_true (fsI_yes _ z q), fun i hi => of_decide_eq_false (fsI_no _ z i hi)⟩
  · refine Or.inr ⟨q, fun i hi => of_decide_eq_false (fsI_no _ z i (Nat.lt_of_lt_of_le hi q))⟩
def rnF (z : Nat) (Hp Kc Hd To Tp Bl : Nat → Nat) : Nat → Nat → Nat → Nat → (Nat → Nat) → (Nat → Nat) → Nat × Nat × Nat × (Nat → Nat) × (Nat → Nat)
  | 0, _, c, h, Sg, Rw => (0, c, h, Sg, Rw)
  | f + 1, ds, c, h, Sg, Rw =>
    if ds = 0 then (0, c, h, Sg, Rw)
    else if z ≤ nearI z Hp Kc Hd To Tp Bl c h Sg Rw ds then (0, c, h, Sg, Rw)
    else if ¬ (Bl (nearI z Hp Kc Hd To Tp Bl c h Sg Rw ds) = 0 ∨ h < 60) then (0, c, h, Sg, Rw)
    else ((rnF z Hp Kc Hd To Tp Bl f (ds - 1) (To (nearI z Hp Kc Hd To Tp Bl c h Sg Rw ds)) (chH h (Tp (nearI z Hp Kc Hd To Tp Bl c h Sg Rw ds)) (Bl (nearI z Hp Kc Hd To Tp Bl c h Sg Rw ds))) (chS Sg h (Tp (nearI z Hp Kc Hd To Tp Bl c h Sg Rw ds)) (Bl (nearI z Hp Kc Hd To Tp Bl c h Sg Rw ds))) (bdF Hp Kc (chS Sg h (Tp (nearI z Hp Kc Hd To Tp Bl c h Sg Rw ds)) (Bl (nearI z Hp Kc Hd To Tp Bl c h Sg Rw ds))) Rw (h - 1) (chH h (Tp (nearI z Hp Kc Hd To Tp Bl c h Sg Rw ds)) (Bl (nearI z Hp Kc Hd To Tp Bl c h Sg Rw ds)) - (h - 1)))).1 + 1,
      (rnF z Hp Kc Hd To Tp Bl f (ds - 1) (To (nearI z Hp Kc Hd To Tp Bl c h Sg Rw ds)) (chH h (Tp (nearI z Hp Kc Hd To Tp Bl c h Sg Rw ds)) (Bl (nearI z Hp Kc Hd To Tp Bl c h Sg Rw ds))) (chS Sg h (Tp (nearI z Hp Kc Hd To Tp Bl c h Sg Rw ds)) (Bl (nearI z Hp Kc Hd To Tp Bl c h Sg Rw ds))) (bdF Hp Kc (chS Sg h (Tp (nearI z Hp Kc Hd To Tp Bl c h Sg Rw ds)) (Bl (nearI z Hp Kc Hd To Tp Bl c h Sg Rw ds))) Rw (h - 1) (chH h (Tp (nearI z Hp Kc Hd To Tp Bl c h Sg Rw ds)) (Bl (nearI z Hp Kc Hd To Tp Bl c h Sg Rw ds)) - (h - 1)))).2)
theorem rn_out {m c h m' c' h' : Nat} {S R S' R' : Nat → Nat} (e : ((m, c, h, S, R) : Nat × Nat × Nat × (Nat → Nat) × (Nat → Nat)) = (m', c', h', S', R')) : m' = m ∧ c' = c ∧ h' = h ∧ S' = S ∧ R' = R := by
  cases e; exact ⟨rfl, rfl, rfl, rfl, rfl⟩
theorem rn_0 {z : Nat} {Hp Kc Hd To Tp Bl : Nat → Nat} {f ds c h m c' h' : Nat} {Sg Rw S' R' : Nat → Nat} (hf : f = 0 ∨ ds = 0 ∨ z ≤ nearI z Hp Kc Hd To Tp Bl c h Sg Rw ds ∨ ¬ (Bl (nearI z Hp Kc Hd To Tp Bl c h Sg Rw ds) = 0 ∨ h < 60)) (e : rnF z Hp Kc Hd To Tp Bl f ds c h Sg Rw = (m, c', h', S', R')) : m = 0 ∧ c' = c ∧ h' = h ∧ S' = Sg ∧ R' = Rw := by
  cases f with
  | zero => exact rn_out e
  | succ f =>
    simp only [rnF] at e
    split at e
    · exact rn_out e
    · next h1 =>
      split at e
      · exact rn_out e
      · next h2 =>
        split at e
        · exact rn_out e
        · next h3 =>
          rcases hf with q | q | q | q
          · cases q
          · exact absurd q h1
          · exact absurd q h2
          · exact absurd q h3
theorem rn_s {z : Nat} {Hp Kc Hd To Tp Bl : Nat → Nat} {f ds c h m c' h' r : Nat} {Sg Rw S' R' : Nat → Nat} (hf : 0 < f) (hd : 0 < ds) (er : r = nearI z Hp Kc Hd To Tp Bl c h Sg Rw ds) (hr : r < z) (hro : Bl r = 0 ∨ h < 60) (e : rnF z Hp Kc Hd To Tp Bl f ds c h Sg Rw = (m, c', h', S', R')) :
    0 < m ∧ rnF z Hp Kc Hd To Tp Bl (f - 1) (ds - 1) (To r) (chH h (Tp r) (Bl r)) (chS Sg h (Tp r) (Bl r)) (bdF Hp Kc (chS Sg h (Tp r) (Bl r)) Rw (h - 1) (chH h (Tp r) (Bl r) - (h - 1))) = (m - 1, c', h', S', R') := by
  obtain ⟨f, rfl⟩ : ∃ g, f = g + 1 := ⟨f - 1, by omega⟩
  subst er
  simp only [rnF] at e
  rw [if_neg (by omega), if_neg (by omega), if_neg (fun q => q hro)] at e
  rw [Nat.add_sub_cancel]
  generalize rnF z Hp Kc Hd To Tp Bl f (ds - 1) _ _ _ _ = q at e ⊢
  obtain ⟨q1, q2⟩ := q
  simp only [Prod.mk.injEq] at e
  obtain ⟨e1, e2⟩ := e
  subst e1; subst e2
  exact ⟨by omega, rfl⟩
theorem chH_le {h a b : Nat} (hh : h ≤ 60) (h0 : 0 < h) (hab : a = 0 → b = 0) (hr : b = 0 ∨ h < 60) : chH h a b ≤ 60 ∧ h - 1 ≤ chH h a b := by
  unfold chH
  by_cases e : a = 0
  · rw [if_pos e, if_pos (hab e)]; omega
  · rw [if_neg e]
    by_cases f : b = 0
    · rw [if_pos f]; omega
    · rw [if_neg f]; omega
theorem up5 {S : Nat → Nat} {k v : Nat} (h : ∀ i, S i < 5) (hv : v < 5) : ∀ i, up S k v i < 5 := by
  intro i; unfold up; split
  · exact hv
  · exact h i
theorem chS_lt {Sg : Nat → Nat} {h a b : Nat} (hS : ∀ i, Sg i < 5) (ha : a ≤ 5) (hb : b ≤ 5) : ∀ i, chS Sg h a b i < 5 := by
  have h1 : ∀ i, (if b = 0 then Sg else up Sg (h - 1) (b - 1)) i < 5 := by
    by_cases e : b = 0
    · rw [if_pos e]; exact hS
    · rw [if_neg e]; exact up5 hS (by omega)
  unfold chS
  by_cases e : a = 0
  · rw [if_pos e]; exact h1
  · rw [if_neg e]; exact up5 h1 (by omega)
