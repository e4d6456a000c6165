/-! the states of the settling loop: s t = scC .. t -/
section SC
variable {z : Nat} {Lx : Nat → Bool} {Pp Ps Pq Pa Pb C0 : Nat → Nat} {S0 : Nat → Bool}
theorem sc_inv (hR : ∀ r, Pp r < 5 ∧ Ps r < 5) {B0 : Nat} (h0 : SInv z Lx Pp Ps Pq Pa Pb C0 S0 B0) : ∀ t, ∃ B, SInv z Lx Pp Ps Pq Pa Pb (scC z Lx Pp Ps Pq Pa Pb C0 S0 t).1 (scC z Lx Pp Ps Pq Pa Pb C0 S0 t).2.1 B
  | 0 => ⟨B0, h0⟩
  | t + 1 => by
    obtain ⟨B, h⟩ := sc_inv hR h0 t
    exact settle_inv hR h
theorem sc_ct : ∀ t, (∀ i, i < t → (scC z Lx Pp Ps Pq Pa Pb C0 S0 (i + 1)).2.2 = true) → t ≤ ctB (scC z Lx Pp Ps Pq Pa Pb C0 S0 t).2.1 275
  | 0, _ => Nat.zero_le _
  | t + 1, h => by
    have a := sc_ct t (fun i hi => h i (by omega))
    have b : ctB (scC z Lx Pp Ps Pq Pa Pb C0 S0 t).2.1 275 < ctB (scC z Lx Pp Ps Pq Pa Pb C0 S0 (t + 1)).2.1 275 := stS_more (h t (by omega))
    omega
/-- the loop ends: the first t whose answer is false -/
theorem sc_end {M : Nat} (hM : ∀ t, ctB (scC z Lx Pp Ps Pq Pa Pb C0 S0 t).2.1 275 ≤ M) : ∃ tT, 0 < tT ∧ tT ≤ M + 1 ∧ (scC z Lx Pp Ps Pq Pa Pb C0 S0 tT).2.2 = false ∧ ∀ t, t < tT → (scC z Lx Pp Ps Pq Pa Pb C0 S0 t).2.2 = true := by
  have hex : ∃ t, t ≤ M + 1 ∧ (scC z Lx Pp Ps Pq Pa Pb C0 S0 t).2.2 = false := by
    by_cases h : ∀ i, i < M + 1 → (scC z Lx Pp Ps Pq Pa Pb C0 S0 (i + 1)).2.2 = true
    · have a := sc_ct (M + 1) h
      have b := hM (M + 1)
      omega
    · simp only [Classical.not_forall] at h
      obtain ⟨i, hi, hn⟩ := h
      exact ⟨i + 1, by omega, by simpa using hn⟩
  obtain ⟨t, ⟨h1, h2⟩, h3⟩ := pk_least (fun t => t ≤ M + 1 ∧ (scC z Lx Pp Ps Pq Pa Pb C0 S0 t).2.2 = false) hex
  refine ⟨t, ?_, h1, h2, ?_⟩
  · rcases Nat.eq_zero_or_pos t with q | q
    · subst q; cases h2
    · exact q
  · intro i hi
    have := h3 i hi
    cases e : (scC z Lx Pp Ps Pq Pa Pb C0 S0 i).2.2 with
    | true => rfl
    | false => exact absurd ⟨by omega, e⟩ this
/-- at the end: no rule lowers a cost -/
theorem sc_fix (hR : ∀ r, Pp r < 5 ∧ Ps r < 5) {B0 : Nat} (h0 : SInv z Lx Pp Ps Pq Pa Pb C0 S0 B0) {tT : Nat} (hp : 0 < tT) (h : (scC z Lx Pp Ps Pq Pa Pb C0 S0 tT).2.2 = false) : ∀ r y, r < z → y < 11 → (scC z Lx Pp Ps Pq Pa Pb C0 S0 tT).1 (kx Pp Ps r y) ≤ brF Lx (scC z Lx Pp Ps Pq Pa Pb C0 S0 tT).1 Pq Pa Pb r y := by
  obtain ⟨t, rfl⟩ : ∃ t, tT = t + 1 := ⟨tT - 1, by omega⟩
  obtain ⟨B, hi⟩ := sc_inv hR h0 t
  have he := settle_end hR hi h
  have e : (scC z Lx Pp Ps Pq Pa Pb C0 S0 (t + 1)).1 = (scC z Lx Pp Ps Pq Pa Pb C0 S0 t).1 := he.1
  rw [e]; exact he.2
/-- a cost that a settle gives is a rule's, over the costs before it -/
theorem sc_new {t k : Nat} : (scC z Lx Pp Ps Pq Pa Pb C0 S0 (t + 1)).1 k = (scC z Lx Pp Ps Pq Pa Pb C0 S0 t).1 k ∨ ∃ r y, r < z ∧ y < 11 ∧ k = kx Pp Ps r y ∧ (scC z Lx Pp Ps Pq Pa Pb C0 S0 (t + 1)).1 k = brF Lx (scC z Lx Pp Ps Pq Pa Pb C0 S0 t).1 Pq Pa Pb r y := by
  have e : ∀ (Su : Nat → Bool) (Co : Nat → Nat), stC z Lx Su Pp Ps Pq Pa Pb Co k = Co k ∨ ∃ r y, r < z ∧ y < 11 ∧ k = kx Pp Ps r y ∧ stC z Lx Su Pp Ps Pq Pa Pb Co k = brF Lx Co Pq Pa Pb r y := by
    intro Su Co
    have hC : stC z Lx Su Pp Ps Pq Pa Pb Co k = if k < 275 ∧ seQ Su (stT z Lx Su Pp Ps Pq Pa Pb Co) (stL z Lx Su Pp Ps Pq Pa Pb Co) k = true then stL z Lx Su Pp Ps Pq Pa Pb Co else Co k := rfl
    by_cases q : k < 275 ∧ seQ Su (stT z Lx Su Pp Ps Pq Pa Pb Co) (stL z Lx Su Pp Ps Pq Pa Pb Co) k = true
    · right
      rw [if_pos q] at hC
      obtain ⟨_, q2, q3⟩ := seQ_inv q.2
      rcases st_at (z := z) (Lx := Lx) (Su := Su) (Pp := Pp) (Ps := Ps) (Pq := Pq) (Pa := Pa) (Pb := Pb) (Co := Co) k with w | ⟨r, y, w1, w2, w3, _, w5⟩
      · exact absurd w q2
      · exact ⟨r, y, w1, w2, w3, by rw [hC, ← q3, w5]⟩
    · left; rw [if_neg q] at hC; exact hC
  exact e _ _
end SC
