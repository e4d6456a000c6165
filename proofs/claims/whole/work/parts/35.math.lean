section PG
variable {n z : Nat} {Lx : Nat → Bool} {Pp Ps Pq Pa Pb C0 : Nat → Nat} {S0 : Nat → Bool}
theorem Cg_inf (h0 : ∀ k, k % 11 < 5 → C0 k = 9000000000000000000) (hq : ∀ r, r < z → Pq r < n) (hq5 : ∀ r, Pq r < 5) : ∀ t k, n ≤ k % 11 → k % 11 < 5 → (scC z Lx Pp Ps Pq Pa Pb C0 S0 t).1 k = 9000000000000000000
  | 0, k, _, h5 => h0 k h5
  | t + 1, k, hk, h5 => by
    have ih := Cg_inf h0 hq hq5 t
    rcases sc_new (z := z) (Lx := Lx) (Pp := Pp) (Ps := Ps) (Pq := Pq) (Pa := Pa) (Pb := Pb) (C0 := C0) (S0 := S0) (t := t) (k := k) with h | ⟨r, y, hr, hy, hk2, h⟩
    · exact h.trans (ih k hk h5)
    · refine h.trans ?_
      have hy2 : k % 11 = y := by rw [hk2]; simp only [kx]; omega
      have hny : n ≤ y := by omega
      have rd : ∀ x s, rdF Lx ((scC z Lx Pp Ps Pq Pa Pb C0 S0 t).1) x s y = 9000000000000000000 := by
        intro x s; unfold rdF; split
        · exact ih _ (by omega) (by omega)
        · rw [if_neg (fun q => by omega)]
      have hqr := hq r hr
      show brF Lx ((scC z Lx Pp Ps Pq Pa Pb C0 S0 t).1) Pq Pa Pb r y = _
      unfold brF; split
      · rw [if_neg (by omega)]
      · split
        · rw [rd]; exact sm_inf (Or.inr rfl)
        · rcases brL_at (Lx := Lx) (Co := (scC z Lx Pp Ps Pq Pa Pb C0 S0 t).1) (q := Pq r) (a := Pa r - 1) (b := Pb r - 1) (y := y) 11 with w | ⟨i, _, w⟩
          · rw [w]; exact sm_inf (Or.inr rfl)
          · rw [w, rd]; rw [sm_inf (Or.inr rfl)]; exact sm_inf (Or.inr rfl)
/-- the class is at most the reference's costs, round by round -/
theorem pop_ubG (h0 : ∀ k, k % 11 < 5 → C0 k = 9000000000000000000) (ho0 : okf C0) (hR : ∀ r, Pp r < 5 ∧ Ps r < 5) (hq : ∀ r, r < z → Pq r < n) (hq5 : ∀ r, Pq r < 5) (hn : n ≤ 5) : ∀ t h q, q < n → itC n z (fun r => Pp r * 5 + Ps r) Pq Pa Pb t (h * 5 + q) ≤ (scC z Lx Pp Ps Pq Pa Pb C0 S0 t).1 (h * 11 + q)
  | 0, h, q, hqn => by
    have := h0 (h * 11 + q) (by omega)
    show _ ≤ C0 (h * 11 + q)
    rw [this]; exact Nat.le_refl _
  | t + 1, h, q, hqn => by
    have ih := pop_ubG h0 ho0 hR hq hq5 hn t
    have hoC : okf (itC n z (fun r => Pp r * 5 + Ps r) Pq Pa Pb t) := itC_ok t
    have hoR : okf ((scC z Lx Pp Ps Pq Pa Pb C0 S0 t).1) := scC_ok ho0 t
    rcases sc_new (z := z) (Lx := Lx) (Pp := Pp) (Ps := Ps) (Pq := Pq) (Pa := Pa) (Pb := Pb) (C0 := C0) (S0 := S0) (t := t) (k := h * 11 + q) with e | ⟨r, y, hr, hy, hk, e⟩
    · refine Nat.le_trans (rdC_le z _) ?_
      exact Nat.le_trans (ih h q hqn) (Nat.le_of_eq e.symm)
    · have hy2 : y = q := by simp only [kx] at hk; omega
      have hh : h = Pp r * 5 + Ps r := by simp only [kx] at hk; omega
      subst hy2
      refine Nat.le_trans ?_ (Nat.le_of_eq e.symm)
      show itC n z (fun r => Pp r * 5 + Ps r) Pq Pa Pb (t + 1) (h * 5 + y) ≤ brF Lx ((scC z Lx Pp Ps Pq Pa Pb C0 S0 t).1) Pq Pa Pb r y
      refine rdC_at (r := r) ?_ z hr
      have hD : ∀ k, rdC n (fun r => Pp r * 5 + Ps r) Pq Pa Pb (itC n z (fun r => Pp r * 5 + Ps r) Pq Pa Pb t) r k ≤ itC n z (fun r => Pp r * 5 + Ps r) Pq Pa Pb t k := rdC_le r
      have hoD : okf (rdC n (fun r => Pp r * 5 + Ps r) Pq Pa Pb (itC n z (fun r => Pp r * 5 + Ps r) Pq Pa Pb t) r) := rdC_ok hoC r
      generalize rdC n (fun r => Pp r * 5 + Ps r) Pq Pa Pb (itC n z (fun r => Pp r * 5 + Ps r) Pq Pa Pb t) r = D at hD hoD ⊢
      have hDC : ∀ h q, q < n → D (h * 5 + q) ≤ (scC z Lx Pp Ps Pq Pa Pb C0 S0 t).1 (h * 11 + q) := fun h q hq => Nat.le_trans (hD _) (ih h q hq)
      have hinf := Cg_inf (Lx := Lx) (Pp := Pp) (Ps := Ps) (Pa := Pa) (Pb := Pb) (S0 := S0) h0 hq hq5 t
      generalize (scC z Lx Pp Ps Pq Pa Pb C0 S0 t).1 = R at hoR hDC hinf ⊢
      have hpr := hq5 r
      rw [hh]
      unfold byC brF
      by_cases ha : Pa r = 0
      · rw [if_pos ha, if_pos ha]
        by_cases hy3 : Pq r = y
        · rw [if_pos hy3, hy3]; exact lowC_at
        · rw [if_neg hy3]
          refine Nat.le_trans (lowC_le _) ?_
          have := hoD ((Pp r * 5 + Ps r) * 5 + y); omega
      · rw [if_neg ha, if_neg ha]
        by_cases hb : Pb r = 0
        · rw [if_pos hb, hb]
          refine Nat.le_trans (pbC_at1 hoD hqn) ?_
          have h1 := hDC (Pq r * 5 + (Pa r - 1)) y hqn
          have e1 : rdF Lx R (Pq r) (Pa r - 1) y = R ((Pq r * 5 + (Pa r - 1)) * 11 + y) := by unfold rdF; rw [if_pos hpr, Nat.mul_comm 5]
          rw [e1]
          exact sm_mono (Nat.le_refl _) h1 (Or.inl (by decide)) (hoR _)
        · rw [if_neg hb]
          have hov := (pbC_ok (n := n) hoD ((Pp r * 5 + Ps r) * 5) ((Pq r * 5 + (Pa r - 1)) * 5) (Pb r) n) ((Pp r * 5 + Ps r) * 5 + y)
          have hov2 : pbC n D ((Pp r * 5 + Ps r) * 5) ((Pq r * 5 + (Pa r - 1)) * 5) (Pb r) n ((Pp r * 5 + Ps r) * 5 + y) ≤ 9000000000000000000 := by omega
          rcases brL_at (Lx := Lx) (Co := R) (q := Pq r) (a := Pa r - 1) (b := Pb r - 1) (y := y) 11 with w | ⟨i, hi, w⟩
          · rw [w, sm_inf (Or.inr rfl)]; exact hov2
          · rw [w]
            by_cases hin : i < n
            · have e1 : rdF Lx R (Pq r) (Pa r - 1) i = R ((Pq r * 5 + (Pa r - 1)) * 11 + i) := by unfold rdF; rw [if_pos hpr, Nat.mul_comm 5]
              have e2 : rdF Lx R i (Pb r - 1) y = R ((i * 5 + (Pb r - 1)) * 11 + y) := by unfold rdF; rw [if_pos (by omega), Nat.mul_comm 5]
              rw [e1, e2, ← sm_assoc]
              refine Nat.le_trans (pbC_at2 hb hoD hin y hqn) ?_
              exact sm_mono (sm_mono (Nat.le_refl _) (hDC _ i hin) (Or.inl (by decide)) (hoR _)) (hDC _ y hqn) (sm_okv _ _) (hoR _)
            · have e1 : sm (rdF Lx R (Pq r) (Pa r - 1) i) (rdF Lx R i (Pb r - 1) y) = 9000000000000000000 := by
                by_cases hi5 : i < 5
                · apply sm_inf; left
                  unfold rdF; rw [if_pos hpr]; exact hinf _ (by omega) (by omega)
                · apply sm_inf; right
                  unfold rdF; rw [if_neg hi5, if_neg (fun q => by omega)]
              rw [e1, sm_inf (Or.inr rfl)]; exact hov2
end PG
