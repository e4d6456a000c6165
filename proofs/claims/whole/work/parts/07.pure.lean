theorem or_lt {a b k : Nat} (ha : a < 2 ^ k) (hb : b < 2 ^ k) : a ||| b < 2 ^ k := Nat.or_lt_two_pow ha hb
def ahF (Hp : Nat → Nat) (b s : Nat) : Nat → Nat
  | 0 => 0
  | p + 1 => if b.testBit p then ahF Hp b s p ||| Hp (p * 5 + s) else ahF Hp b s p
theorem ahF_lt {Hp : Nat → Nat} (h : ∀ k, Hp k < 64) (b s : Nat) : ∀ p, ahF Hp b s p < 64
  | 0 => Nat.zero_lt_succ 63
  | p + 1 => by
    simp only [ahF]; split
    · exact Nat.or_lt_two_pow (n := 6) (ahF_lt h b s p) (h _)
    · exact ahF_lt h b s p
def hoF (Hp Sg : Nat → Nat) : Nat → Nat → Nat
  | 0, b => b
  | a + 1, b => hoF Hp Sg a (ahF Hp b (Sg a) 11 * 32)
def mkF (lp p : Nat) (i : Bool) : Nat := if i then lp ||| 1 * 2 ^ p else lp &&& (1 * 2 ^ p ^^^ 4294967295)
theorem z_xor (a b : Nat) : nI a ^^^ nI b = nI (a ^^^ b) := by
  apply Int32.toBitVec_inj.mp
  show BitVec.ofNat 32 a ^^^ BitVec.ofNat 32 b = BitVec.ofNat 32 (a ^^^ b)
  apply BitVec.eq_of_getLsbD_eq
  intro i hi
  simp [hi]
theorem m1_nI : (-1 : Int32) = nI 4294967295 := by decide
def thF (Hp Kc : Nat → Nat) (p s x : Nat) : Nat := if p < 5 then Kc ((p * 5 + s) * 11 + x) else if 5 ≤ x ∧ (Hp (p * 5 + s)).testBit (x - 5) = true then 0 else 9000000000000000000
theorem thF_ok {Hp Kc : Nat → Nat} (h : okf Kc) (p s x : Nat) : thF Hp Kc p s x ≤ 1000000000000000 ∨ thF Hp Kc p s x = 9000000000000000000 := by
  unfold thF; split
  · exact h _
  · split
    · left; decide
    · right; rfl
def nrC (Hp Kc : Nat → Nat) (hd f p s : Nat) : Nat → Nat → Nat
  | 0 => Kc
  | i + 1 => lowC (nrC Hp Kc hd f p s i) (hd * 11 + (5 + i)) (sm f (thF Hp (nrC Hp Kc hd f p s i) p s (5 + i)))
def nrB (Hp Kc : Nat → Nat) (hd f p s : Nat) : Nat → Bool
  | 0 => false
  | i + 1 => lowB (nrC Hp Kc hd f p s i) (hd * 11 + (5 + i)) (sm f (thF Hp (nrC Hp Kc hd f p s i) p s (5 + i))) || nrB Hp Kc hd f p s i
theorem nrC_ok {Hp Kc : Nat → Nat} (h : okf Kc) (hd f p s : Nat) : ∀ i, okf (nrC Hp Kc hd f p s i)
  | 0 => h
  | i + 1 => lowC_ok (nrC_ok h hd f p s i) (sm_ok _ _)
theorem nrC_same {Hp Kc : Nat → Nat} {hd f p s : Nat} : ∀ i, nrB Hp Kc hd f p s i = false → nrC Hp Kc hd f p s i = Kc
  | 0, _ => rfl
  | i + 1, h => by
    simp only [nrB, Bool.or_eq_false_iff] at h
    simp only [nrC]; rw [lowC_same h.1, nrC_same i h.2]
def nbC (Hp Kc : Nat → Nat) (hd inner b : Nat) : Nat → Nat → Nat
  | 0 => Kc
  | x + 1 => if sm 1 (nbC Hp Kc hd inner b x (inner + x)) = 9000000000000000000 then nbC Hp Kc hd inner b x else if b = 0 then lowC (nbC Hp Kc hd inner b x) (hd * 11 + x) (sm 1 (nbC Hp Kc hd inner b x (inner + x))) else nrC Hp (nbC Hp Kc hd inner b x) hd (sm 1 (nbC Hp Kc hd inner b x (inner + x))) x (b - 1) 6
def nbB (Hp Kc : Nat → Nat) (hd inner b : Nat) : Nat → Bool
  | 0 => false
  | x + 1 => if sm 1 (nbC Hp Kc hd inner b x (inner + x)) = 9000000000000000000 then nbB Hp Kc hd inner b x else (if b = 0 then lowB (nbC Hp Kc hd inner b x) (hd * 11 + x) (sm 1 (nbC Hp Kc hd inner b x (inner + x))) else nrB Hp (nbC Hp Kc hd inner b x) hd (sm 1 (nbC Hp Kc hd inner b x (inner + x))) x (b - 1) 6) || nbB Hp Kc hd inner b x
theorem nbC_ok {Hp Kc : Nat → Nat} (h : okf Kc) (hd inner b : Nat) : ∀ x, okf (nbC Hp Kc hd inner b x)
  | 0 => h
  | x + 1 => by
    simp only [nbC]; split
    · exact nbC_ok h hd inner b x
    · split
      · exact lowC_ok (nbC_ok h hd inner b x) (sm_ok _ _)
      · exact nrC_ok (nbC_ok h hd inner b x) _ _ _ _ _
theorem nbC_same {Hp Kc : Nat → Nat} {hd inner b : Nat} : ∀ x, nbB Hp Kc hd inner b x = false → nbC Hp Kc hd inner b x = Kc
  | 0, _ => rfl
  | x + 1, h => by
    by_cases e : sm 1 (nbC Hp Kc hd inner b x (inner + x)) = 9000000000000000000
    · simp only [nbB, if_pos e] at h
      simp only [nbC, if_pos e]; exact nbC_same x h
    · simp only [nbB, if_neg e, Bool.or_eq_false_iff] at h
      simp only [nbC, if_neg e]
      by_cases f : b = 0
      · rw [if_pos f] at h ⊢; rw [lowC_same h.1]; exact nbC_same x h.2
      · rw [if_neg f] at h ⊢; rw [nrC_same 6 h.1]; exact nbC_same x h.2
def nyC (Hp Hd To Tp Bl Kc : Nat → Nat) (r : Nat) : Nat → Nat := if Tp r = 0 then Kc else nbC Hp Kc (Hd r) ((To r * 5 + (Tp r - 1)) * 11) (Bl r) 11
def nyB (Hp Hd To Tp Bl Kc : Nat → Nat) (r : Nat) : Bool := if Tp r = 0 then false else nbB Hp Kc (Hd r) ((To r * 5 + (Tp r - 1)) * 11) (Bl r) 11
theorem nyC_ok {Hp Hd To Tp Bl Kc : Nat → Nat} (h : okf Kc) (r : Nat) : okf (nyC Hp Hd To Tp Bl Kc r) := by
  unfold nyC; split
  · exact h
  · exact nbC_ok h _ _ _ _
theorem nyC_same {Hp Hd To Tp Bl Kc : Nat → Nat} {r : Nat} (h : nyB Hp Hd To Tp Bl Kc r = false) : nyC Hp Hd To Tp Bl Kc r = Kc := by
  unfold nyB at h; unfold nyC
  split at h
  · next e => rw [if_pos e]
  · next e => rw [if_neg e]; exact nbC_same _ h
def ndC (Hp Hd To Tp Bl Kc : Nat → Nat) : Nat → Nat → Nat
  | 0 => Kc
  | r + 1 => nyC Hp Hd To Tp Bl (ndC Hp Hd To Tp Bl Kc r) r
def ndB (Hp Hd To Tp Bl Kc : Nat → Nat) : Nat → Bool
  | 0 => false
  | r + 1 => nyB Hp Hd To Tp Bl (ndC Hp Hd To Tp Bl Kc r) r || ndB Hp Hd To Tp Bl Kc r
theorem ndC_ok {Hp Hd To Tp Bl Kc : Nat → Nat} (h : okf Kc) : ∀ r, okf (ndC Hp Hd To Tp Bl Kc r)
  | 0 => h
  | r + 1 => nyC_ok (ndC_ok h r) r
theorem ndC_same {Hp Hd To Tp Bl Kc : Nat → Nat} : ∀ r, ndB Hp Hd To Tp Bl Kc r = false → ndC Hp Hd To Tp Bl Kc r = Kc
  | 0, _ => rfl
  | r + 1, h => by
    simp only [ndB, Bool.or_eq_false_iff] at h
    simp only [ndC]
    rw [nyC_same h.1, ndC_same r h.2]
def sfF (Hp Cv : Nat → Nat) : Nat → Nat := fun k => if k % 11 < 5 then Cv (k / 11 * 5 + k % 11) else if (Hp (k / 11)).testBit (k % 11 - 5) = true then 0 else 9000000000000000000
theorem sfF_ok {Hp Cv : Nat → Nat} (h : okf Cv) : okf (sfF Hp Cv) := by
  intro k; unfold sfF; split
  · exact h _
  · split
    · left; decide
    · right; rfl
def niC (z : Nat) (Hp Hd To Tp Bl Cv : Nat → Nat) : Nat → Nat → Nat
  | 0 => sfF Hp Cv
  | t + 1 => ndC Hp Hd To Tp Bl (niC z Hp Hd To Tp Bl Cv t) z
def niB (z : Nat) (Hp Hd To Tp Bl Cv : Nat → Nat) : Nat → Bool
  | 0 => true
  | t + 1 => ndB Hp Hd To Tp Bl (niC z Hp Hd To Tp Bl Cv t) z
theorem niC_ok {z : Nat} {Hp Hd To Tp Bl Cv : Nat → Nat} (h : okf Cv) : ∀ t, okf (niC z Hp Hd To Tp Bl Cv t)
  | 0 => sfF_ok h
  | t + 1 => ndC_ok (niC_ok h t) z
theorem niC_fix {z : Nat} {Hp Hd To Tp Bl Cv : Nat → Nat} {t : Nat} (h : ndC Hp Hd To Tp Bl (niC z Hp Hd To Tp Bl Cv t) z = niC z Hp Hd To Tp Bl Cv t) : ∀ d, niC z Hp Hd To Tp Bl Cv (t + d) = niC z Hp Hd To Tp Bl Cv t
  | 0 => rfl
  | d + 1 => by
    show ndC Hp Hd To Tp Bl (niC z Hp Hd To Tp Bl Cv (t + d)) z = _
    rw [niC_fix h d]; exact h
theorem niC_stop {z : Nat} {Hp Hd To Tp Bl Cv : Nat → Nat} {t : Nat} (ht : t ≤ 276) (h : niB z Hp Hd To Tp Bl Cv t = false) : niC z Hp Hd To Tp Bl Cv 276 = niC z Hp Hd To Tp Bl Cv t := by
  cases t with
  | zero => simp [niB] at h
  | succ t =>
    have e := ndC_same z (show ndB Hp Hd To Tp Bl (niC z Hp Hd To Tp Bl Cv t) z = false from h)
    have f := niC_fix e
    have h1 : niC z Hp Hd To Tp Bl Cv (t + 1) = niC z Hp Hd To Tp Bl Cv t := e
    rw [h1]
    have := f (276 - t)
    rw [show t + (276 - t) = 276 from by omega] at this
    exact this
def fillG {α : Type} (X T : Nat → α) (i : Nat) : Nat → α := fun k => if k < i then T k else X k
theorem fillG_0 {α : Type} (X T : Nat → α) : fillG X T 0 = X := by funext k; simp [fillG]
theorem fillG_s {α : Type} (X T : Nat → α) (i : Nat) : fillG X T (i + 1) = up (fillG X T i) i (T i) := by
  funext k; simp only [fillG, up]
  by_cases h : k = i
  · subst h; simp
  · by_cases h2 : k < i
    · simp [h, h2, Nat.lt_succ_of_lt h2]
    · have : ¬ k < i + 1 := by omega
      simp [h, h2, this]
theorem fillG_in {α : Type} (X T : Nat → α) {i k : Nat} (h : k < i) : fillG X T i k = T k := by simp [fillG, h]
theorem fillG_ok {X T : Nat → Nat} (hX : okf X) (hT : okf T) (i : Nat) : okf (fillG X T i) := by
  intro k; unfold fillG; split
  · exact hT k
  · exact hX k
def lsF (lp : Nat) : Nat → Nat := fun p => if lp.testBit p = true then 0 else 9000000000000000000
theorem lsF_ok (lp : Nat) : okf (lsF lp) := by
  intro k; unfold lsF; split
  · left; decide
  · right; rfl
def acF (Hp Kc Rw : Nat → Nat) (p s h : Nat) : Nat → Nat
  | 0 => 9000000000000000000
  | x + 1 => if Rw (h * 11 + x) < acF Hp Kc Rw p s h x then min (acF Hp Kc Rw p s h x) (sm (thF Hp Kc p s x) (Rw (h * 11 + x))) else acF Hp Kc Rw p s h x
theorem min_ok {a b : Nat} (ha : a ≤ 1000000000000000 ∨ a = 9000000000000000000) (hb : b ≤ 1000000000000000 ∨ b = 9000000000000000000) : min a b ≤ 1000000000000000 ∨ min a b = 9000000000000000000 := by
  rcases Nat.le_total a b with h | h
  · rw [Nat.min_eq_left h]; exact ha
  · rw [Nat.min_eq_right h]; exact hb
theorem acF_ok (Hp Kc Rw : Nat → Nat) (p s h : Nat) : ∀ x, acF Hp Kc Rw p s h x ≤ 1000000000000000 ∨ acF Hp Kc Rw p s h x = 9000000000000000000
  | 0 => Or.inr rfl
  | x + 1 => by
    simp only [acF]; split
    · exact min_ok (acF_ok Hp Kc Rw p s h x) (sm_ok _ _)
    · exact acF_ok Hp Kc Rw p s h x
def bdP (Hp Kc Sg Rw : Nat → Nat) (i : Nat) : Nat → Nat → Nat
  | 0 => Rw
  | x + 1 => up (bdP Hp Kc Sg Rw i x) ((i + 1) * 11 + x) (acF Hp Kc (bdP Hp Kc Sg Rw i x) x (Sg i) i 11)
theorem bdP_ok {Hp Kc Sg Rw : Nat → Nat} (h : okf Rw) (i : Nat) : ∀ x, okf (bdP Hp Kc Sg Rw i x)
  | 0 => h
  | x + 1 => up_ok (bdP_ok h i x) (acF_ok _ _ _ _ _ _ _)
def bdF (Hp Kc Sg Rw : Nat → Nat) (kp : Nat) : Nat → Nat → Nat
  | 0 => Rw
  | d + 1 => bdP Hp Kc Sg (bdF Hp Kc Sg Rw kp d) (kp + d) 11
theorem bdF_ok {Hp Kc Sg Rw : Nat → Nat} (h : okf Rw) (kp : Nat) : ∀ d, okf (bdF Hp Kc Sg Rw kp d)
  | 0 => h
  | d + 1 => bdP_ok (bdF_ok h kp d) _ 11
def afP (Hp Kc Rw : Nat → Nat) (q a b h : Nat) : Nat → Nat
  | 0 => 9000000000000000000
  | x + 1 => if thF Hp Kc q a x < afP Hp Kc Rw q a b h x then min (afP Hp Kc Rw q a b h x) (sm (thF Hp Kc q a x) (acF Hp Kc Rw x b h 11)) else afP Hp Kc Rw q a b h x
theorem afP_ok (Hp Kc Rw : Nat → Nat) (q a b h : Nat) : ∀ x, afP Hp Kc Rw q a b h x ≤ 1000000000000000 ∨ afP Hp Kc Rw q a b h x = 9000000000000000000
  | 0 => Or.inr rfl
  | x + 1 => by
    simp only [afP]; split
    · exact min_ok (afP_ok Hp Kc Rw q a b h x) (sm_ok _ _)
    · exact afP_ok Hp Kc Rw q a b h x
def afF (Hp Kc Rw To Tp Bl : Nat → Nat) (r h : Nat) : Nat := if Tp r = 0 then Rw (h * 11 + To r) else if Bl r = 0 then acF Hp Kc Rw (To r) (Tp r - 1) h 11 else afP Hp Kc Rw (To r) (Tp r - 1) (Bl r - 1) h 11
theorem pow_lt_64 {p : Nat} (h : p < 6) : 2 ^ p < 64 := show 2 ^ p < 2 ^ 6 from Nat.pow_lt_pow_right (a := 2) (by decide) h
theorem pow_lt_2048 {p : Nat} (h : p < 11) : 2 ^ p < 2048 := show 2 ^ p < 2 ^ 11 from Nat.pow_lt_pow_right (a := 2) (by decide) h
theorem pow_lt_32 {p : Nat} (h : p < 5) : 2 ^ p < 32 := show 2 ^ p < 2 ^ 5 from Nat.pow_lt_pow_right (a := 2) (by decide) h
theorem oI_sub (h : Nat) : nI h - nI 1 = oI h := rfl
theorem hoF_pos {Hp Sg : Nat → Nat} {a P : Nat} (h : 0 < a) : hoF Hp Sg a P = hoF Hp Sg (a - 1) (ahF Hp P (Sg (a - 1)) 11 * 32) := by
  obtain ⟨b, rfl⟩ : ∃ b, a = b + 1 := ⟨a - 1, by omega⟩
  rfl
theorem sfF_lo {Hp Cv : Nat → Nat} {hd q : Nat} (h : q < 5) : sfF Hp Cv (hd * 11 + q) = Cv (hd * 5 + q) := by
  have h1 : (hd * 11 + q) % 11 = q := by omega
  have h2 : (hd * 11 + q) / 11 = hd := by omega
  simp only [sfF, h1, h2]; rw [if_pos h]
theorem sfF_hi {Hp Cv : Nat → Nat} {hd nd : Nat} (h : nd < 6) : sfF Hp Cv (hd * 11 + 5 + nd) = if (Hp hd).testBit nd = true then 0 else 9000000000000000000 := by
  have h1 : (hd * 11 + 5 + nd) % 11 = 5 + nd := by omega
  have h2 : (hd * 11 + 5 + nd) / 11 = hd := by omega
  simp only [sfF, h1, h2]; rw [if_neg (by omega), show 5 + nd - 5 = nd from by omega]
