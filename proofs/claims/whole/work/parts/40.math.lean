/-! IN, COUNT, and bits -/
def anB (p : Nat → Bool) : Nat → Bool
  | 0 => false
  | n + 1 => anB p n || p n
theorem anB_t {p : Nat → Bool} : ∀ n, anB p n = true ↔ ∃ i, i < n ∧ p i = true
  | 0 => ⟨fun h => by simp [anB] at h, fun ⟨i, h, _⟩ => absurd h (Nat.not_lt_zero i)⟩
  | n + 1 => by
    simp only [anB, Bool.or_eq_true, anB_t n]
    constructor
    · rintro (⟨i, h1, h2⟩ | h)
      · exact ⟨i, by omega, h2⟩
      · exact ⟨n, by omega, h⟩
    · rintro ⟨i, h1, h2⟩
      rcases Nat.lt_or_ge i n with w | w
      · exact Or.inl ⟨i, w, h2⟩
      · have : i = n := by omega
        subst this; exact Or.inr h2
theorem anB_congr {p q : Nat → Bool} : ∀ n, (∀ i, i < n → p i = q i) → anB p n = anB q n
  | 0, _ => rfl
  | n + 1, h => by simp only [anB]; rw [anB_congr n (fun i hi => h i (by omega)), h n (by omega)]
theorem ahF_bit (Hp : Nat → Nat) (b s i : Nat) : ∀ p, (ahF Hp b s p).testBit i = anB (fun p => b.testBit p && (Hp (p * 5 + s)).testBit i) p
  | 0 => by simp only [ahF, anB, Nat.zero_testBit]
  | p + 1 => by
    simp only [ahF, anB]; rw [← ahF_bit Hp b s i p]
    cases e : b.testBit p with
    | true => simp [Nat.testBit_or]
    | false => simp
theorem pow_bit (k i : Nat) : (1 * 2 ^ k).testBit i = decide (k = i) := by rw [Nat.one_mul, Nat.testBit_two_pow]
theorem mhY_bit (L : Nat → Nat → Nat → Bool) (x s acc i : Nat) : ∀ k, (mhY L x s acc k).testBit i = (acc.testBit i || (decide (5 ≤ i ∧ i < 5 + k) && L x s i))
  | 0 => by simp only [mhY]; rw [decide_eq_false (by omega)]; simp
  | k + 1 => by
    simp only [mhY]; rw [Nat.testBit_or, mhY_bit L x s acc i k]
    by_cases e : i = 5 + k
    · subst e
      rw [decide_eq_false (show ¬ (5 ≤ 5 + k ∧ 5 + k < 5 + k) by omega), decide_eq_true (show 5 ≤ 5 + k ∧ 5 + k < 5 + (k + 1) by omega)]
      cases q : L x s (5 + k) with
      | true => simp [Nat.testBit_two_pow]
      | false => simp
    · have e2 : (5 ≤ i ∧ i < 5 + (k + 1)) ↔ (5 ≤ i ∧ i < 5 + k) := by omega
      have e3 : (if L x s (5 + k) = true then 1 * 2 ^ (5 + k) else 0).testBit i = false := by
        split
        · rw [pow_bit, decide_eq_false (by omega)]
        · exact Nat.zero_testBit i
      rw [e3, Bool.or_false]; simp only [e2]
theorem mhX_bit (L : Nat → Nat → Nat → Bool) (b s i : Nat) : ∀ p, (mhX L b s p).testBit i = anB (fun p => b.testBit p && (decide (5 ≤ i ∧ i < 11) && L p s i)) p
  | 0 => by simp only [mhX, anB, Nat.zero_testBit]
  | p + 1 => by
    simp only [mhX, anB]; rw [← mhX_bit L b s i p]
    cases e : b.testBit p with
    | true => rw [if_pos rfl, mhY_bit, Bool.true_and]
    | false => simp
section INS
variable {Hp : Nat → Nat} {L : Nat → Nat → Nat → Bool} {n m : Nat}
theorem hop_eq (hN : NR Hp L n m) (hHp : ∀ k, Hp k < 64) (b s : Nat) (hs : s < 5) : ahF Hp b s 11 * 32 = mhX L b s 11 := by
  apply Nat.eq_of_testBit_eq
  intro i
  rw [show (32 : Nat) = 2 ^ 5 from rfl, Nat.testBit_mul_two_pow, ahF_bit, mhX_bit]
  by_cases h5 : 5 ≤ i
  · rw [decide_eq_true h5, Bool.true_and]
    refine anB_congr 11 (fun p hp => ?_)
    by_cases h11 : i < 11
    · have e := hN.1 p s (i - 5) hp hs (by omega)
      rw [show 5 + (i - 5) = i from by omega] at e
      rw [e, decide_eq_true ⟨h5, h11⟩, Bool.true_and]
    · rw [decide_eq_false (by omega), Bool.false_and, Bool.and_false]
      have : (Hp (p * 5 + s)).testBit (i - 5) = false := Nat.testBit_lt_two_pow (Nat.lt_of_lt_of_le (hHp _) (show 2 ^ 6 ≤ 2 ^ (i - 5) from Nat.pow_le_pow_right (by decide) (by omega)))
      rw [this, Bool.and_false]
  · rw [decide_eq_false h5, Bool.false_and]
    symm
    rw [Bool.eq_false_iff]
    intro q
    obtain ⟨p, _, w⟩ := (anB_t 11).mp q
    rw [decide_eq_false (by omega)] at w
    simp at w
theorem ho_mh (hN : NR Hp L n m) (hHp : ∀ k, Hp k < 64) {Sg : Nat → Nat} (hS : ∀ i, Sg i < 5) : ∀ h b, hoF Hp Sg h b = mhF L Sg h b
  | 0, _ => rfl
  | h + 1, b => by simp only [hoF, mhF]; rw [hop_eq hN hHp b (Sg h) (hS h)]; exact ho_mh hN hHp hS h _
theorem mlF_an (La : Nat → Bool) (b t : Nat) : ∀ x, mlF La b t x = anB (fun x => t.testBit x && La (b + x)) x
  | 0 => rfl
  | x + 1 => by simp only [mlF, anB]; rw [mlF_an La b t x]
theorem and_ne {a b N : Nat} (hb : b < 2 ^ N) : decide (¬ (a &&& b) = 0) = anB (fun x => a.testBit x && b.testBit x) N := by
  rw [Bool.eq_iff_iff, decide_eq_true_eq, anB_t]
  constructor
  · intro h
    by_cases q : ∃ i, i < N ∧ (a.testBit i && b.testBit i) = true
    · exact q
    · exfalso; apply h
      apply Nat.eq_of_testBit_eq
      intro i
      rw [Nat.testBit_and, Nat.zero_testBit]
      rcases Nat.lt_or_ge i N with w | w
      · cases e : (a.testBit i && b.testBit i) with
        | false => rfl
        | true => exact absurd ⟨i, w, e⟩ q
      · rw [Nat.testBit_lt_two_pow (Nat.lt_of_lt_of_le hb (Nat.pow_le_pow_right (by decide) w)), Bool.and_false]
  · rintro ⟨i, _, h⟩ q
    have := congrArg (fun x => x.testBit i) q
    simp only [Nat.testBit_and, Nat.zero_testBit] at this
    rw [this] at h; cases h
/-- IN -/
theorem in_eq (hN : NR Hp L n m) (hHp : ∀ k, Hp k < 64) {Sg : Nat → Nat} (hS : ∀ i, Sg i < 5) {lp j : Nat} {La : Nat → Bool} (hlp : lp < 2 ^ 11) (hl : ∀ x, x < 11 → lp.testBit x = La (11 * j + x)) (h c : Nat) : decide (¬ (hoF Hp Sg h (1 * 2 ^ c) &&& lp) = 0) = mlF La (11 * j) (mhF L Sg h (1 * 2 ^ c)) 11 := by
  rw [ho_mh hN hHp hS, and_ne hlp, mlF_an]
  exact anB_congr 11 (fun x hx => by rw [hl x hx])
end INS
theorem head_iff {c h i : Nat} {Pp Ps Sg : Nat → Nat} (hP : Pp i < 5 ∧ Ps i < 5) (hc : c < 5) (hS : ∀ i, Sg i < 5) : (Pp i * 5 + Ps i + 1 = headF c h Sg) ↔ gsF c h Pp Ps Sg i = true := by
  have := hS (h - 1)
  simp only [headF, gsF, decide_eq_true_eq]
  by_cases e : h = 0
  · rw [if_pos e]; omega
  · rw [if_neg e]; omega
/-- COUNT -/
theorem count_eq {c h : Nat} {Pp Ps Sg : Nat → Nat} (hP : ∀ r, Pp r < 5 ∧ Ps r < 5) (hc : c < 5) (hS : ∀ i, Sg i < 5) : ∀ z, matchF (fun r => Pp r * 5 + Ps r) (headF c h Sg) z = cgF c h Pp Ps Sg z
  | 0 => rfl
  | z + 1 => by
    simp only [matchF, cgF]
    rw [count_eq hP hc hS z]
    congr 1
    by_cases e : gsF c h Pp Ps Sg z = true
    · rw [if_pos e, if_pos ((head_iff (hP z) hc hS).mpr e)]
    · rw [if_neg e, if_neg (fun q => e ((head_iff (hP z) hc hS).mp q))]
/-! the heads that a rule leads to -/
theorem exQ_bit (Cv : Nat → Nat) (hd i : Nat) : ∀ q, (exQ Cv hd q).testBit i = decide (i < q ∧ ¬ Cv (hd * 5 + i) = 9000000000000000000)
  | 0 => by simp [exQ]
  | q + 1 => by
    simp only [exQ]
    by_cases e : Cv (hd * 5 + q) = 9000000000000000000
    · rw [if_pos e, exQ_bit Cv hd i q]
      apply decide_eq_decide.mpr
      constructor
      · rintro ⟨a, b⟩; exact ⟨by omega, b⟩
      · rintro ⟨a, b⟩
        refine ⟨?_, b⟩
        by_cases w : i = q
        · subst w; exact absurd e b
        · omega
    · rw [if_neg e, Nat.testBit_or, exQ_bit Cv hd i q, pow_bit]
      rw [Bool.eq_iff_iff, Bool.or_eq_true, decide_eq_true_eq, decide_eq_true_eq, decide_eq_true_eq]
      constructor
      · rintro (⟨a, b⟩ | a)
        · exact ⟨by omega, b⟩
        · subst a; exact ⟨by omega, e⟩
      · rintro ⟨a, b⟩
        by_cases w : i = q
        · exact Or.inr w.symm
        · exact Or.inl ⟨by omega, b⟩
theorem unQ_bit (x b i : Nat) (hb : b < 5) : ∀ q, (unQ x b q).testBit i = decide (i % 5 = b ∧ i / 5 < q ∧ x.testBit (i / 5) = true)
  | 0 => by simp [unQ]
  | q + 1 => by
    have e5 : (q * 5 + b = i) ↔ (i % 5 = b ∧ i / 5 = q) := by omega
    simp only [unQ]
    by_cases e : x.testBit q = true
    · rw [if_pos e, Nat.testBit_or, unQ_bit x b i hb q, pow_bit, Bool.eq_iff_iff, Bool.or_eq_true, decide_eq_true_eq, decide_eq_true_eq, decide_eq_true_eq, e5]
      constructor
      · rintro (⟨a, b, c⟩ | ⟨a, b⟩)
        · exact ⟨a, by omega, c⟩
        · exact ⟨a, by omega, by rw [b]; exact e⟩
      · rintro ⟨a, b, c⟩
        by_cases w : i / 5 = q
        · exact Or.inr ⟨a, w⟩
        · exact Or.inl ⟨a, by omega, c⟩
    · rw [if_neg e, unQ_bit x b i hb q]
      apply decide_eq_decide.mpr
      constructor
      · rintro ⟨a, b, c⟩; exact ⟨a, by omega, c⟩
      · rintro ⟨a, b, c⟩
        refine ⟨a, ?_, c⟩
        by_cases w : i / 5 = q
        · rw [w] at c; exact absurd c e
        · omega
theorem hbQ_bit (Co : Nat → Nat) (q a b v i : Nat) (hb : b < 5) : ∀ x, (hbQ Co q a b v x).testBit i = (v.testBit i || decide (i % 5 = b ∧ i / 5 < x ∧ ¬ Co ((5 * q + a) * 11 + i / 5) = 9000000000000000000))
  | 0 => by simp [hbQ]
  | x + 1 => by
    have e5 : (5 * x + b = i) ↔ (i % 5 = b ∧ i / 5 = x) := by omega
    simp only [hbQ]
    rw [Nat.testBit_or, hbQ_bit Co q a b v i hb x, Bool.or_assoc]
    congr 1
    by_cases e : Co ((5 * q + a) * 11 + x) = 9000000000000000000
    · rw [if_pos e, Nat.zero_testBit, Bool.or_false]
      apply decide_eq_decide.mpr
      constructor
      · rintro ⟨a, b, c⟩; exact ⟨a, by omega, c⟩
      · rintro ⟨a, b, c⟩
        refine ⟨a, ?_, c⟩
        by_cases w : i / 5 = x
        · rw [w] at c; exact absurd e c
        · omega
    · rw [if_neg e, pow_bit, Bool.eq_iff_iff, Bool.or_eq_true, decide_eq_true_eq, decide_eq_true_eq, decide_eq_true_eq, e5]
      constructor
      · rintro (⟨a, b, c⟩ | ⟨a, b⟩)
        · exact ⟨a, by omega, c⟩
        · exact ⟨a, by omega, by rw [b]; exact e⟩
      · rintro ⟨a, b, c⟩
        by_cases w : i / 5 = x
        · exact Or.inr ⟨a, w⟩
        · exact Or.inl ⟨a, by omega, c⟩
/-- the class's pops are the reference's -/
def PQ (n : Nat) (Cv Co : Nat → Nat) : Prop := (∀ h q, q < 5 → Cv (h * 5 + q) = Co (h * 11 + q)) ∧ (∀ k, n ≤ k % 11 → Co k = 9000000000000000000) ∧ n ≤ 5
theorem un_hb {n : Nat} {Cv Co Pq Pa Pb : Nat → Nat} (hP : PQ n Cv Co) {r : Nat} (hq : Pq r < 5) (ha : Pa r ≤ 5) (hb : Pb r ≤ 5) (hpa : ¬ Pa r = 0) : 1 * 2 ^ (Pq r * 5 + (Pa r - 1)) ||| unF (exF Cv) Pq Pa Pb r = hbF n Co Pq Pa Pb r := by
  obtain ⟨p1, p2, p3⟩ := hP
  apply Nat.eq_of_testBit_eq
  intro i
  unfold unF hbF
  rw [if_neg hpa]
  by_cases e : Pb r = 0
  · rw [if_pos e, if_pos e, Nat.or_zero, Nat.zero_or, Nat.mul_comm 5]
  · rw [if_neg e, if_neg e, Nat.testBit_or, unQ_bit _ _ _ (by omega), hbQ_bit _ _ _ _ _ _ (by omega), Nat.zero_or, Nat.mul_comm 5]
    congr 1
    apply decide_eq_decide.mpr
    simp only [exF, exQ_bit, decide_eq_true_eq]
    constructor
    · rintro ⟨a, b, c, d⟩
      rw [p1 _ _ c] at d
      refine ⟨a, ?_, d⟩
      rcases Nat.lt_or_ge (i / 5) n with w | w
      · exact w
      · exact absurd (p2 _ (by omega)) d
    · rintro ⟨a, b, d⟩
      refine ⟨a, by omega, by omega, ?_⟩
      rw [p1 _ _ (by omega)]; exact d
theorem aeQ_bit (Ex : Nat → Nat) (b s i : Nat) : ∀ p, (aeQ Ex b s p).testBit i = anB (fun p => b.testBit p && (Ex (p * 5 + s)).testBit i) p
  | 0 => by simp only [aeQ, anB, Nat.zero_testBit]
  | p + 1 => by
    simp only [aeQ, anB]; rw [← aeQ_bit Ex b s i p]
    cases e : b.testBit p with
    | true => simp [Nat.testBit_or]
    | false => simp
theorem poQ_bit (Co : Nat → Nat) (p s v i : Nat) : ∀ q, (poQ Co p s v q).testBit i = (v.testBit i || decide (i < q ∧ ¬ Co ((5 * p + s) * 11 + i) = 9000000000000000000))
  | 0 => by simp [poQ]
  | q + 1 => by
    simp only [poQ]
    rw [Nat.testBit_or, poQ_bit Co p s v i q, Bool.or_assoc]
    congr 1
    by_cases e : Co ((5 * p + s) * 11 + q) = 9000000000000000000
    · rw [if_pos e, Nat.zero_testBit, Bool.or_false]
      apply decide_eq_decide.mpr
      constructor
      · rintro ⟨a, b⟩; exact ⟨by omega, b⟩
      · rintro ⟨a, b⟩
        refine ⟨?_, b⟩
        by_cases w : i = q
        · subst w; exact absurd e b
        · omega
    · rw [if_neg e, pow_bit, Bool.eq_iff_iff, Bool.or_eq_true, decide_eq_true_eq, decide_eq_true_eq, decide_eq_true_eq]
      constructor
      · rintro (⟨a, b⟩ | a)
        · exact ⟨by omega, b⟩
        · subst a; exact ⟨by omega, e⟩
      · rintro ⟨a, b⟩
        by_cases w : i = q
        · exact Or.inr w.symm
        · exact Or.inl ⟨by omega, b⟩
theorem poP_bit (n : Nat) (Co : Nat → Nat) (b s i : Nat) : ∀ p, (poP n Co b s p).testBit i = anB (fun p => b.testBit p && decide (i < n ∧ ¬ Co ((5 * p + s) * 11 + i) = 9000000000000000000)) p
  | 0 => by simp only [poP, anB, Nat.zero_testBit]
  | p + 1 => by
    simp only [poP, anB]; rw [← poP_bit n Co b s i p]
    cases e : b.testBit p with
    | true => rw [if_pos rfl, poQ_bit, Bool.true_and]
    | false => simp
theorem anB_ext {p : Nat → Bool} {n N : Nat} (hn : n ≤ N) (h : ∀ i, n ≤ i → p i = false) : anB p n = anB p N := by
  rw [Bool.eq_iff_iff, anB_t, anB_t]
  constructor
  · rintro ⟨i, a, b⟩; exact ⟨i, by omega, b⟩
  · rintro ⟨i, a, b⟩
    refine ⟨i, ?_, b⟩
    rcases Nat.lt_or_ge i n with w | w
    · exact w
    · rw [h i w] at b; cases b
def ltn (b n : Nat) : Prop := ∀ i, n ≤ i → b.testBit i = false
theorem ae_po {n : Nat} {Cv Co : Nat → Nat} (hP : PQ n Cv Co) {b s : Nat} (hb : ltn b n) : aeQ (exF Cv) b s 5 = poP n Co b s n ∧ ltn (poP n Co b s n) n := by
  obtain ⟨p1, p2, p3⟩ := hP
  refine ⟨?_, fun i hi => ?_⟩
  · apply Nat.eq_of_testBit_eq
    intro i
    rw [aeQ_bit, poP_bit, anB_ext p3 (p := fun p => b.testBit p && decide (i < n ∧ ¬ Co ((5 * p + s) * 11 + i) = 9000000000000000000)) (fun i hi => by rw [hb i hi, Bool.false_and])]
    refine anB_congr 5 (fun p hp => ?_)
    congr 1
    simp only [exF, exQ_bit]
    apply decide_eq_decide.mpr
    constructor
    · rintro ⟨a, d⟩
      rw [p1 _ _ a, Nat.mul_comm p] at d
      refine ⟨?_, d⟩
      rcases Nat.lt_or_ge i n with w | w
      · exact w
      · exact absurd (p2 _ (by omega)) d
    · rintro ⟨a, d⟩
      refine ⟨by omega, ?_⟩
      rw [p1 _ _ (by omega), Nat.mul_comm p]; exact d
  · rw [poP_bit, Bool.eq_false_iff]
    intro q
    obtain ⟨p, _, w⟩ := (anB_t n).mp q
    rw [decide_eq_false (by omega)] at w
    simp at w
theorem hsQ_bit (b s i : Nat) (hs : s < 5) : ∀ q, (hsQ b s q).testBit i = decide (i % 5 = s ∧ i / 5 < q ∧ b.testBit (i / 5) = true)
  | 0 => by simp [hsQ]
  | q + 1 => by
    have e : hsQ b s (q + 1) = if b.testBit q = true then hsQ b s q ||| 1 * 2 ^ (q * 5 + s) else hsQ b s q := rfl
    have : ∀ q, hsQ b s q = unQ b s q := by
      intro q; induction q with
      | zero => rfl
      | succ q ih => simp only [hsQ, unQ, ih]
    rw [this, unQ_bit _ _ _ hs]
