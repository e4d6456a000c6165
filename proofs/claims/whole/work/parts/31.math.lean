def SInv (z : Nat) (Lx : Nat → Bool) (Pp Ps Pq Pa Pb Co : Nat → Nat) (Su : Nat → Bool) (B : Nat) : Prop :=
  okf Co ∧ (∀ k, Su k = true → Co k ≤ B) ∧ (∀ k, Su k = false → Co k = 9000000000000000000) ∧ (∀ r y, r < z → y < 11 → Su (kx Pp Ps r y) = true → Co (kx Pp Ps r y) ≤ brF Lx Co Pq Pa Pb r y) ∧ (∀ r y, r < z → y < 11 → Su (kx Pp Ps r y) = false → B ≤ brF Lx Co Pq Pa Pb r y)
theorem seQ_inv {Su : Nat → Bool} {T : Nat → Nat} {L i : Nat} (h : seQ Su T L i = true) : Su i = false ∧ ¬ T i = 9000000000000000000 ∧ T i = L := by
  simp only [seQ, Bool.and_eq_true, Bool.not_eq_true', decide_eq_true_eq] at h
  exact ⟨h.1, h.2.1, h.2.2⟩
theorem seQ_NV {Su : Nat → Bool} {T : Nat → Nat} {L : Nat} (hL : L = 9000000000000000000) (i : Nat) : seQ Su T L i = false := by
  cases h : seQ Su T L i with
  | false => rfl
  | true => obtain ⟨_, h2, h3⟩ := seQ_inv h; exact absurd (h3.trans hL) h2
theorem seC_none {Su : Nat → Bool} {T Co : Nat → Nat} {L k : Nat} (h : ∀ i, i < k → seQ Su T L i = false) : seC Su T Co L k = Co := by
  funext i; simp only [seC]
  by_cases e : i < k
  · rw [if_neg (fun q => by rw [h i e] at q; exact absurd q.2 (by decide))]
  · rw [if_neg (fun q => e q.1)]
theorem seS_none {Su : Nat → Bool} {T : Nat → Nat} {L k : Nat} (h : ∀ i, i < k → seQ Su T L i = false) : seS Su T L k = Su := by
  funext i; simp only [seS]
  by_cases e : i < k
  · rw [if_neg (fun q => by rw [h i e] at q; exact absurd q.2 (by decide))]
  · rw [if_neg (fun q => e q.1)]
theorem seA_all {Su : Nat → Bool} {T : Nat → Nat} {L : Nat} : ∀ k, seA Su T L k = false → ∀ i, i < k → seQ Su T L i = false
  | 0, _, i, h => absurd h (Nat.not_lt_zero i)
  | k + 1, h, i, hi => by
    simp only [seA, Bool.or_eq_false_iff] at h
    rcases Nat.lt_or_ge i k with w | w
    · exact seA_all k h.2 i w
    · have : i = k := by omega
      subst this; exact h.1
theorem seA_ex {Su : Nat → Bool} {T : Nat → Nat} {L : Nat} : ∀ k, seA Su T L k = true → ∃ i, i < k ∧ seQ Su T L i = true
  | 0, h => by simp [seA] at h
  | k + 1, h => by
    simp only [seA, Bool.or_eq_true] at h
    rcases h with h | h
    · exact ⟨k, by omega, h⟩
    · obtain ⟨i, hi, h2⟩ := seA_ex k h
      exact ⟨i, by omega, h2⟩
section ST
variable {z : Nat} {Lx Su : Nat → Bool} {Pp Ps Pq Pa Pb Co : Nat → Nat} {B : Nat}
theorem st_le {r y : Nat} (hr : r < z) (hy : y < 11) (hs : Su (kx Pp Ps r y) = false) : stT z Lx Su Pp Ps Pq Pa Pb Co (kx Pp Ps r y) ≤ brF Lx Co Pq Pa Pb r y := trR_le (F := scF Lx Pq Pa Pb Co) hr hy hs
theorem st_at (k : Nat) : stT z Lx Su Pp Ps Pq Pa Pb Co k = 9000000000000000000 ∨ ∃ r y, r < z ∧ y < 11 ∧ k = kx Pp Ps r y ∧ Su k = false ∧ stT z Lx Su Pp Ps Pq Pa Pb Co k = brF Lx Co Pq Pa Pb r y := trR_at z k
theorem sl_le (k : Nat) : stL z Lx Su Pp Ps Pq Pa Pb Co ≤ stT z Lx Su Pp Ps Pq Pa Pb Co k := leR_le z k
theorem sl_at : stL z Lx Su Pp Ps Pq Pa Pb Co = 9000000000000000000 ∨ ∃ r y, r < z ∧ y < 11 ∧ Su (kx Pp Ps r y) = false ∧ stT z Lx Su Pp Ps Pq Pa Pb Co (kx Pp Ps r y) = stL z Lx Su Pp Ps Pq Pa Pb Co := leR_at z
theorem kx_lt (hR : ∀ r, Pp r < 5 ∧ Ps r < 5) {r y : Nat} (hy : y < 11) : kx Pp Ps r y < 275 := by
  have := hR r; simp only [kx]; omega
theorem settle_inv (hR : ∀ r, Pp r < 5 ∧ Ps r < 5) (h : SInv z Lx Pp Ps Pq Pa Pb Co Su B) : ∃ B', SInv z Lx Pp Ps Pq Pa Pb (stC z Lx Su Pp Ps Pq Pa Pb Co) (stS z Lx Su Pp Ps Pq Pa Pb Co) B' := by
  by_cases hL : stL z Lx Su Pp Ps Pq Pa Pb Co = 9000000000000000000
  · refine ⟨B, ?_⟩
    have e1 : stC z Lx Su Pp Ps Pq Pa Pb Co = Co := seC_none (fun i _ => seQ_NV hL i)
    have e2 : stS z Lx Su Pp Ps Pq Pa Pb Co = Su := seS_none (fun i _ => seQ_NV hL i)
    rw [e1, e2]; exact h
  · obtain ⟨h0, h1, h2, h3, h4⟩ := h
    have hBL : B ≤ stL z Lx Su Pp Ps Pq Pa Pb Co := by
      rcases sl_at (z := z) (Lx := Lx) (Su := Su) (Pp := Pp) (Ps := Ps) (Pq := Pq) (Pa := Pa) (Pb := Pb) (Co := Co) with q | ⟨r, y, _, _, _, q⟩
      · exact absurd q hL
      · rcases st_at (z := z) (Lx := Lx) (Su := Su) (Pp := Pp) (Ps := Ps) (Pq := Pq) (Pa := Pa) (Pb := Pb) (Co := Co) (kx Pp Ps r y) with w | ⟨r', y', w1, w2, w3, w4, w5⟩
        · rw [q] at w; exact absurd w hL
        · rw [q] at w5; rw [w5]; rw [w3] at w4; exact h4 r' y' w1 w2 w4
    have hoC := stC_ok (z := z) (Lx := Lx) (Su := Su) (Pp := Pp) (Ps := Ps) (Pq := Pq) (Pa := Pa) (Pb := Pb) h0
    have hC : ∀ k, stC z Lx Su Pp Ps Pq Pa Pb Co k = if k < 275 ∧ seQ Su (stT z Lx Su Pp Ps Pq Pa Pb Co) (stL z Lx Su Pp Ps Pq Pa Pb Co) k = true then stL z Lx Su Pp Ps Pq Pa Pb Co else Co k := fun _ => rfl
    have hS : ∀ k, stS z Lx Su Pp Ps Pq Pa Pb Co k = if k < 275 ∧ seQ Su (stT z Lx Su Pp Ps Pq Pa Pb Co) (stL z Lx Su Pp Ps Pq Pa Pb Co) k = true then true else Su k := fun _ => rfl
    have hle : ∀ k, stL z Lx Su Pp Ps Pq Pa Pb Co ≤ stT z Lx Su Pp Ps Pq Pa Pb Co k := fun k => sl_le k
    have hst : ∀ {r y : Nat}, r < z → y < 11 → Su (kx Pp Ps r y) = false → stT z Lx Su Pp Ps Pq Pa Pb Co (kx Pp Ps r y) ≤ brF Lx Co Pq Pa Pb r y := fun hr hy hs => st_le hr hy hs
    generalize stL z Lx Su Pp Ps Pq Pa Pb Co = L at hL hBL hC hS hle ⊢
    generalize stT z Lx Su Pp Ps Pq Pa Pb Co = T at hC hS hle hst
    generalize stC z Lx Su Pp Ps Pq Pa Pb Co = C' at hoC hC ⊢
    generalize stS z Lx Su Pp Ps Pq Pa Pb Co = S' at hS ⊢
    have hkeep : ∀ k, min (Co k) L ≤ C' k := by
      intro k; rw [hC]; split <;> omega
    have hbr := fun r y => brF_keep (Lx := Lx) (Pq := Pq) (Pa := Pa) (Pb := Pb) h0 hoC hkeep r y
    refine ⟨L, hoC, ?_, ?_, ?_, ?_⟩
    · intro k hk
      rw [hC]; rw [hS] at hk
      by_cases e : k < 275 ∧ seQ Su T L k = true
      · rw [if_pos e]; exact Nat.le_refl _
      · rw [if_neg e] at hk ⊢; exact Nat.le_trans (h1 k hk) hBL
    · intro k hk
      rw [hC]; rw [hS] at hk
      by_cases e : k < 275 ∧ seQ Su T L k = true
      · rw [if_pos e] at hk; cases hk
      · rw [if_neg e] at hk ⊢; exact h2 k hk
    · intro r y hr hy hk
      have hb := hbr r y
      rw [hC]; rw [hS] at hk
      by_cases e : kx Pp Ps r y < 275 ∧ seQ Su T L (kx Pp Ps r y) = true
      · rw [if_pos e]
        obtain ⟨q1, _, q3⟩ := seQ_inv e.2
        have := hst hr hy q1
        omega
      · rw [if_neg e] at hk ⊢
        have a := h3 r y hr hy hk
        have b := h1 _ hk
        omega
    · intro r y hr hy hk
      have hb := hbr r y
      rw [hS] at hk
      by_cases e : kx Pp Ps r y < 275 ∧ seQ Su T L (kx Pp Ps r y) = true
      · rw [if_pos e] at hk; cases hk
      · rw [if_neg e] at hk
        have a := hst hr hy hk
        have b := hle (kx Pp Ps r y)
        omega
theorem settle_end (hR : ∀ r, Pp r < 5 ∧ Ps r < 5) (h : SInv z Lx Pp Ps Pq Pa Pb Co Su B) (hA : stA z Lx Su Pp Ps Pq Pa Pb Co = false) : stC z Lx Su Pp Ps Pq Pa Pb Co = Co ∧ ∀ r y, r < z → y < 11 → Co (kx Pp Ps r y) ≤ brF Lx Co Pq Pa Pb r y := by
  have hq := seA_all 275 (show seA Su (stT z Lx Su Pp Ps Pq Pa Pb Co) (stL z Lx Su Pp Ps Pq Pa Pb Co) 275 = false from hA)
  refine ⟨seC_none hq, ?_⟩
  have hL : stL z Lx Su Pp Ps Pq Pa Pb Co = 9000000000000000000 := by
    rcases sl_at (z := z) (Lx := Lx) (Su := Su) (Pp := Pp) (Ps := Ps) (Pq := Pq) (Pa := Pa) (Pb := Pb) (Co := Co) with q | ⟨r, y, _, hy, hs, q⟩
    · exact q
    · by_cases e : stL z Lx Su Pp Ps Pq Pa Pb Co = 9000000000000000000
      · exact e
      · have := hq (kx Pp Ps r y) (kx_lt hR hy)
        rw [seQ_y hs (by rw [q]; exact e) q] at this; cases this
  intro r y hr hy
  cases hs : Su (kx Pp Ps r y) with
  | true => exact h.2.2.2.1 r y hr hy hs
  | false =>
    have a := st_le (Lx := Lx) (Pq := Pq) (Pa := Pa) (Pb := Pb) (Co := Co) hr hy hs
    have b := sl_le (z := z) (Lx := Lx) (Su := Su) (Pp := Pp) (Ps := Ps) (Pq := Pq) (Pa := Pa) (Pb := Pb) (Co := Co) (kx Pp Ps r y)
    rw [hL] at b
    rw [h.2.2.1 _ hs]; omega
end ST
def ctB (p : Nat → Bool) : Nat → Nat
  | 0 => 0
  | n + 1 => ctB p n + (if p n = true then 1 else 0)
theorem ctB_le (p : Nat → Bool) : ∀ n, ctB p n ≤ n
  | 0 => Nat.le_refl _
  | n + 1 => by have := ctB_le p n; simp only [ctB]; split <;> omega
theorem ctB_mono {p q : Nat → Bool} (h : ∀ k, p k = true → q k = true) : ∀ n, ctB p n ≤ ctB q n
  | 0 => Nat.le_refl _
  | n + 1 => by
    have := ctB_mono h n
    simp only [ctB]
    by_cases e : p n = true
    · rw [if_pos e, if_pos (h n e)]; omega
    · rw [if_neg e]; omega
theorem ctB_lt {p q : Nat → Bool} (h : ∀ k, p k = true → q k = true) {i : Nat} (hp : p i = false) (hq : q i = true) : ∀ n, i < n → ctB p n < ctB q n
  | 0, hi => absurd hi (Nat.not_lt_zero i)
  | n + 1, hi => by
    simp only [ctB]
    rcases Nat.lt_or_ge i n with w | w
    · have := ctB_lt h hp hq n w
      by_cases e : p n = true
      · rw [if_pos e, if_pos (h n e)]; omega
      · rw [if_neg e]; split <;> omega
    · have : i = n := by omega
      subst this
      have := ctB_mono h i
      rw [if_neg (by rw [hp]; decide), if_pos hq]; omega
theorem stS_sub {z : Nat} {Lx Su : Nat → Bool} {Pp Ps Pq Pa Pb Co : Nat → Nat} (k : Nat) (h : Su k = true) : stS z Lx Su Pp Ps Pq Pa Pb Co k = true := by
  simp only [stS, seS]; split
  · rfl
  · exact h
theorem stS_more {z : Nat} {Lx Su : Nat → Bool} {Pp Ps Pq Pa Pb Co : Nat → Nat} (h : stA z Lx Su Pp Ps Pq Pa Pb Co = true) : ctB Su 275 < ctB (stS z Lx Su Pp Ps Pq Pa Pb Co) 275 := by
  obtain ⟨i, hi, hq⟩ := seA_ex 275 h
  exact ctB_lt stS_sub (seQ_inv hq).1 (by simp only [stS, seS]; rw [if_pos ⟨hi, hq⟩]) 275 hi
