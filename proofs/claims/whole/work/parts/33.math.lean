/-! the class's pop table against the reference's costs -/
theorem lowC_le {C : Nat → Nat} {i v : Nat} (k : Nat) : lowC C i v k ≤ C k := by
  unfold lowC; split
  · by_cases e : k = i
    · subst e; rw [up_same]; omega
    · rw [up_ne _ _ e]; exact Nat.le_refl _
  · exact Nat.le_refl _
theorem lowC_at {C : Nat → Nat} {i v : Nat} : lowC C i v i ≤ v := by
  unfold lowC; split
  · rw [up_same]; exact Nat.le_refl _
  · omega
theorem prC_le {C : Nat → Nat} {b f nx : Nat} : ∀ x k, prC C b f nx x k ≤ C k
  | 0, _ => Nat.le_refl _
  | x + 1, k => Nat.le_trans (lowC_le k) (prC_le x k)
theorem prC_at {C : Nat → Nat} {b f nx : Nat} (hC : okf C) (hf : okv f) : ∀ {n x : Nat}, x < n → prC C b f nx n (b + x) ≤ sm f (C (nx * 5 + x))
  | 0, x, h => absurd h (Nat.not_lt_zero x)
  | n + 1, x, h => by
    simp only [prC]
    rcases Nat.lt_or_ge x n with w | w
    · exact Nat.le_trans (lowC_le _) (prC_at hC hf w)
    · have : x = n := by omega
      subst this
      exact Nat.le_trans lowC_at (sm_mono (Nat.le_refl _) (prC_le x _) hf (hC _))
theorem pbC_le {n : Nat} {C : Nat → Nat} {b i w : Nat} : ∀ x k, pbC n C b i w x k ≤ C k
  | 0, _ => Nat.le_refl _
  | x + 1, k => by
    simp only [pbC]; split
    · exact pbC_le x k
    · split
      · exact Nat.le_trans (lowC_le k) (pbC_le x k)
      · exact Nat.le_trans (prC_le n k) (pbC_le x k)
theorem pbC_at1 {n : Nat} {C : Nat → Nat} {b i : Nat} (hC : okf C) : ∀ {m x : Nat}, x < m → pbC n C b i 0 m (b + x) ≤ sm 1 (C (i + x))
  | 0, x, h => absurd h (Nat.not_lt_zero x)
  | m + 1, x, h => by
    rcases Nat.lt_or_ge x m with w | w
    · have ih := pbC_at1 (n := n) (b := b) (i := i) hC w
      simp only [pbC]; split
      · exact ih
      · exact Nat.le_trans (lowC_le _) ih
    · have : x = m := by omega
      subst this
      have h1 := sm_mono (Nat.le_refl 1) (pbC_le (n := n) (C := C) (b := b) (i := i) (w := 0) x (i + x)) (Or.inl (by decide)) (hC (i + x))
      have ho := pbC_ok (n := n) hC b i 0 x (b + x)
      simp only [pbC]; split
      · next e => rw [e] at h1; omega
      · exact Nat.le_trans lowC_at h1
theorem pbC_at2 {n : Nat} {C : Nat → Nat} {b i w : Nat} (hw : ¬ w = 0) (hC : okf C) : ∀ {m x : Nat}, x < m → ∀ y, y < n → pbC n C b i w m (b + y) ≤ sm (sm 1 (C (i + x))) (C ((x * 5 + (w - 1)) * 5 + y))
  | 0, x, h => absurd h (Nat.not_lt_zero x)
  | m + 1, x, h => by
    intro y hy
    rcases Nat.lt_or_ge x m with q | q
    · have ih := pbC_at2 (n := n) (b := b) (i := i) hw hC q y hy
      simp only [pbC]; split
      · exact ih
      · exact Nat.le_trans (prC_le n _) ih
    · have : x = m := by omega
      subst this
      have h1 := sm_mono (Nat.le_refl 1) (pbC_le (n := n) (C := C) (b := b) (i := i) (w := w) x (i + x)) (Or.inl (by decide)) (hC (i + x))
      have ho := pbC_ok (n := n) hC b i w x
      simp only [pbC]; split
      · next e =>
        rw [e] at h1
        have h2 := (sm_ge (sm_okv 1 (C (i + x))) (hC ((x * 5 + (w - 1)) * 5 + y))).1
        have h3 := ho (b + y)
        omega
      · refine Nat.le_trans (prC_at ho (sm_okv _ _) hy) ?_
        exact sm_mono h1 (pbC_le x _) (sm_okv _ _) (hC _)
theorem byC_le {n : Nat} {Hd To Tp Bl C : Nat → Nat} (r k : Nat) : byC n Hd To Tp Bl C r k ≤ C k := by
  unfold byC; split
  · exact lowC_le k
  · exact pbC_le n k
theorem rdC_le {n : Nat} {Hd To Tp Bl C : Nat → Nat} : ∀ r k, rdC n Hd To Tp Bl C r k ≤ C k
  | 0, _ => Nat.le_refl _
  | r + 1, k => Nat.le_trans (byC_le r k) (rdC_le r k)
theorem rdC_at {n : Nat} {Hd To Tp Bl C : Nat → Nat} {k v : Nat} {r : Nat} (h : byC n Hd To Tp Bl (rdC n Hd To Tp Bl C r) r k ≤ v) : ∀ z, r < z → rdC n Hd To Tp Bl C z k ≤ v
  | 0, hr => absurd hr (Nat.not_lt_zero r)
  | z + 1, hr => by
    rcases Nat.lt_or_ge r z with w | w
    · exact Nat.le_trans (byC_le z k) (rdC_at h z w)
    · have : r = z := by omega
      subst this; exact h
theorem itC_dec {n z : Nat} {Hd To Tp Bl : Nat → Nat} (t k : Nat) : ∀ d, itC n z Hd To Tp Bl (t + d) k ≤ itC n z Hd To Tp Bl t k
  | 0 => Nat.le_refl _
  | d + 1 => Nat.le_trans (rdC_le z k) (itC_dec t k d)
section PP
variable {n z : Nat} {Pp Ps Pq Pa Pb : Nat → Nat}
abbrev Ct (z : Nat) (Pp Ps Pq Pa Pb : Nat → Nat) (t : Nat) : Nat → Nat := (sN z Pp Ps Pq Pa Pb t).1
theorem Ct_inf (hq : ∀ r, r < z → Pq r < n) (hq5 : ∀ r, Pq r < 5) : ∀ t k, n ≤ k % 11 → Ct z Pp Ps Pq Pa Pb t k = 9000000000000000000
  | 0, _, _ => rfl
  | t + 1, k, hk => by
    have ih := Ct_inf hq hq5 t
    rcases sc_new (z := z) (Lx := fun _ => false) (Pp := Pp) (Ps := Ps) (Pq := Pq) (Pa := Pa) (Pb := Pb) (C0 := fun _ => 9000000000000000000) (S0 := fun _ => false) (t := t) (k := k) with h | ⟨r, y, hr, hy, hk2, h⟩
    · exact h.trans (ih k hk)
    · refine h.trans ?_
      have hy2 : k % 11 = y := by rw [hk2]; simp only [kx]; omega
      have hny : n ≤ y := by omega
      have rd : ∀ x s, rdF (fun _ => false) (Ct z Pp Ps Pq Pa Pb t) x s y = 9000000000000000000 := by
        intro x s; unfold rdF; split
        · exact ih _ (by omega)
        · rw [if_neg (fun q => Bool.noConfusion q.2)]
      have hqr := hq r hr
      show brF (fun _ => false) (Ct z Pp Ps Pq Pa Pb t) Pq Pa Pb r y = _
      unfold brF; split
      · rw [if_neg (by omega)]
      · split
        · rw [rd]; exact sm_inf (Or.inr rfl)
        · rcases brL_at (Lx := fun _ => false) (Co := Ct z Pp Ps Pq Pa Pb t) (q := Pq r) (a := Pa r - 1) (b := Pb r - 1) (y := y) 11 with w | ⟨i, _, w⟩
          · rw [w]; exact sm_inf (Or.inr rfl)
          · rw [w, rd]; rw [sm_inf (Or.inr rfl)]; exact sm_inf (Or.inr rfl)
/-- the class is at most the reference's costs, round by round -/
theorem pop_ub (hR : ∀ r, Pp r < 5 ∧ Ps r < 5) (hq : ∀ r, r < z → Pq r < n) (hq5 : ∀ r, Pq r < 5) (hn : n ≤ 5) : ∀ t h q, q < n → itC n z (fun r => Pp r * 5 + Ps r) Pq Pa Pb t (h * 5 + q) ≤ Ct z Pp Ps Pq Pa Pb t (h * 11 + q)
  | 0, _, _, _ => Nat.le_refl _
  | t + 1, h, q, hqn => by
    have ih := pop_ub hR hq hq5 hn t
    have hoC : okf (itC n z (fun r => Pp r * 5 + Ps r) Pq Pa Pb t) := itC_ok t
    have hoR : okf (Ct z Pp Ps Pq Pa Pb t) := sN_ok _ _ _ _ _ _ _
    rcases sc_new (z := z) (Lx := fun _ => false) (Pp := Pp) (Ps := Ps) (Pq := Pq) (Pa := Pa) (Pb := Pb) (C0 := fun _ => 9000000000000000000) (S0 := fun _ => false) (t := t) (k := h * 11 + q) with e | ⟨r, y, hr, hy, hk, e⟩
    · refine Nat.le_trans (rdC_le z _) ?_
      exact Nat.le_trans (ih h q hqn) (Nat.le_of_eq e.symm)
    · have hy2 : y = q := by simp only [kx] at hk; omega
      have hh : h = Pp r * 5 + Ps r := by simp only [kx] at hk; omega
      subst hy2
      refine Nat.le_trans ?_ (Nat.le_of_eq e.symm)
      show itC n z (fun r => Pp r * 5 + Ps r) Pq Pa Pb (t + 1) (h * 5 + y) ≤ brF (fun _ => false) (Ct z Pp Ps Pq Pa Pb t) Pq Pa Pb r y
      refine rdC_at (r := r) ?_ z hr
      have hD : ∀ k, rdC n (fun r => Pp r * 5 + Ps r) Pq Pa Pb (itC n z (fun r => Pp r * 5 + Ps r) Pq Pa Pb t) r k ≤ itC n z (fun r => Pp r * 5 + Ps r) Pq Pa Pb t k := rdC_le r
      have hoD : okf (rdC n (fun r => Pp r * 5 + Ps r) Pq Pa Pb (itC n z (fun r => Pp r * 5 + Ps r) Pq Pa Pb t) r) := rdC_ok hoC r
      generalize rdC n (fun r => Pp r * 5 + Ps r) Pq Pa Pb (itC n z (fun r => Pp r * 5 + Ps r) Pq Pa Pb t) r = D at hD hoD ⊢
      have hDC : ∀ h q, q < n → D (h * 5 + q) ≤ Ct z Pp Ps Pq Pa Pb t (h * 11 + q) := fun h q hq => Nat.le_trans (hD _) (ih h q hq)
      have hinf := Ct_inf (Pp := Pp) (Ps := Ps) (Pa := Pa) (Pb := Pb) hq hq5 t
      generalize Ct z Pp Ps Pq Pa Pb t = R at hoR hDC hinf ⊢
      have hpr := hq5 r
      rw [hh]
      unfold byC brF
      by_cases ha : Pa r = 0
      · rw [if_pos ha, if_pos ha]
        by_cases hy3 : Pq r = y
        · rw [if_pos hy3, hy3]; exact lowC_at
        · rw [if_neg hy3]
          refine Nat.le_trans (lowC_le _) ?_
          have := hoD ((Pp r * 5 + Ps r) * 5 + y); omega
      · rw [if_neg ha, if_neg ha]
        by_cases hb : Pb r = 0
        · rw [if_pos hb, hb]
          refine Nat.le_trans (pbC_at1 hoD hqn) ?_
          have h1 := hDC (Pq r * 5 + (Pa r - 1)) y hqn
          have e1 : rdF (fun _ => false) R (Pq r) (Pa r - 1) y = R ((Pq r * 5 + (Pa r - 1)) * 11 + y) := by unfold rdF; rw [if_pos hpr, Nat.mul_comm 5]
          rw [e1]
          exact sm_mono (Nat.le_refl _) h1 (Or.inl (by decide)) (hoR _)
        · rw [if_neg hb]
          have hov := (pbC_ok (n := n) hoD ((Pp r * 5 + Ps r) * 5) ((Pq r * 5 + (Pa r - 1)) * 5) (Pb r) n) ((Pp r * 5 + Ps r) * 5 + y)
          have hov2 : pbC n D ((Pp r * 5 + Ps r) * 5) ((Pq r * 5 + (Pa r - 1)) * 5) (Pb r) n ((Pp r * 5 + Ps r) * 5 + y) ≤ 9000000000000000000 := by omega
          rcases brL_at (Lx := fun _ => false) (Co := R) (q := Pq r) (a := Pa r - 1) (b := Pb r - 1) (y := y) 11 with w | ⟨i, hi, w⟩
          · rw [w, sm_inf (Or.inr rfl)]; exact hov2
          · rw [w]
            by_cases hin : i < n
            · have e1 : rdF (fun _ => false) R (Pq r) (Pa r - 1) i = R ((Pq r * 5 + (Pa r - 1)) * 11 + i) := by unfold rdF; rw [if_pos hpr, Nat.mul_comm 5]
              have e2 : rdF (fun _ => false) R i (Pb r - 1) y = R ((i * 5 + (Pb r - 1)) * 11 + y) := by unfold rdF; rw [if_pos (by omega), Nat.mul_comm 5]
              rw [e1, e2, ← sm_assoc]
              refine Nat.le_trans (pbC_at2 hb hoD hin y hqn) ?_
              exact sm_mono (sm_mono (Nat.le_refl _) (hDC _ i hin) (Or.inl (by decide)) (hoR _)) (hDC _ y hqn) (sm_okv _ _) (hoR _)
            · have e1 : sm (rdF (fun _ => false) R (Pq r) (Pa r - 1) i) (rdF (fun _ => false) R i (Pb r - 1) y) = 9000000000000000000 := by
                by_cases hi5 : i < 5
                · apply sm_inf; left
                  unfold rdF; rw [if_pos hpr]; exact hinf _ (by omega)
                · apply sm_inf; right
                  unfold rdF; rw [if_neg hi5, if_neg (fun q => Bool.noConfusion q.2)]
              rw [e1, sm_inf (Or.inr rfl)]; exact hov2
end PP
theorem sm_monoL {a b c : Nat} (h : a ≤ b) (hb : okv b) : sm a c ≤ sm b c := by
  unfold okv at hb; unfold sm
  split <;> split <;> omega
