section
/-! HIGH: heights of heads -/
theorem fhK_iff {G : Nat → Nat} {s top pu v x : Nat} : ∀ K, fhK G s top pu v K ≤ x ↔ v ≤ x ∧ ∀ k, k < K → fhB G s top pu k ≤ x
  | 0 => ⟨fun h => ⟨h, fun k hk => absurd hk (Nat.not_lt_zero k)⟩, fun h => h.1⟩
  | K + 1 => by
    have ih := fhK_iff (G := G) (s := s) (top := top) (pu := pu) (v := v) (x := x) K
    have e : fhK G s top pu v (K + 1) ≤ x ↔ fhK G s top pu v K ≤ x ∧ fhB G s top pu K ≤ x := by
      simp only [fhK]; split <;> omega
    rw [e, ih]
    constructor
    · rintro ⟨⟨h1, h2⟩, h3⟩
      refine ⟨h1, fun k hk => ?_⟩
      rcases Nat.lt_or_ge k K with w | w
      · exact h2 k w
      · have : k = K := by omega
        subst this; exact h3
    · rintro ⟨h1, h2⟩
      exact ⟨⟨h1, fun k hk => h2 k (by omega)⟩, h2 K (by omega)⟩
theorem fhK_at {G : Nat → Nat} {s top pu v : Nat} : ∀ K, fhK G s top pu v K = v ∨ ∃ k, k < K ∧ fhK G s top pu v K = fhB G s top pu k
  | 0 => Or.inl rfl
  | K + 1 => by
    simp only [fhK]; split
    · exact Or.inr ⟨K, by omega, rfl⟩
    · rcases fhK_at (G := G) (s := s) (top := top) (pu := pu) (v := v) K with h | ⟨k, hk, h⟩
      · exact Or.inl h
      · exact Or.inr ⟨k, by omega, h⟩
def wtF (Tt Pu : Nat → Nat) (r k : Nat) : Nat := if k + 1 = Tt r ∧ Pu r = 2 then 1 else 0
theorem fhB_in {G Tt Pu : Nat → Nat} {s r k : Nat} (h : s.testBit k = true) : fhB G s (Tt r) (Pu r) k = G k + wtF Tt Pu r k := by
  unfold fhB wtF; rw [if_pos h]
theorem fhB_out {G Tt Pu : Nat → Nat} {s r k : Nat} (h2 : k + 1 = Tt r → Pu r = 2 → s.testBit k = true) (h : s.testBit k = false) : fhB G s (Tt r) (Pu r) k = 0 := by
  unfold fhB; rw [if_neg (by rw [h]; decide), if_neg]
  rintro ⟨a, b⟩
  rw [h2 a b] at h; cases h
theorem fhV_ge {G : Nat → Nat} {s top pu h x : Nat} (hx : x ≤ fhK G s top pu (G h) 25) (hx2 : x ≤ 1000) : x ≤ fhV G s top pu h := by
  unfold fhV; split <;> omega
section FH
variable {z : Nat} {Hb Tt Pu Pp Ps : Nat → Nat}
theorem fhR_ge {G : Nat → Nat} (hG : le1k G) (a : Nat) : ∀ r, G a ≤ fhR Hb Tt Pu Pp Ps G r a
  | 0 => Nat.le_refl _
  | r + 1 => by
    have ih := fhR_ge hG a r
    simp only [fhR, up]; split
    · next e =>
      subst e
      refine Nat.le_trans ih (fhV_ge ((fhK_iff 25).mp (Nat.le_refl _)).1 (fhR_le hG r _))
    · exact ih
theorem fhR_up {G : Nat → Nat} (hG : le1k G) (a r : Nat) : ∀ d, fhR Hb Tt Pu Pp Ps G r a ≤ fhR Hb Tt Pu Pp Ps G (r + d) a
  | 0 => Nat.le_refl _
  | d + 1 => by
    have ih := fhR_up hG a r d
    refine Nat.le_trans ih ?_
    have := fhR_le (Hb := Hb) (Tt := Tt) (Pu := Pu) (Pp := Pp) (Ps := Ps) hG (r + d)
    show _ ≤ up (fhR Hb Tt Pu Pp Ps G (r + d)) _ _ a
    simp only [up]; split
    · next e => subst e; exact fhV_ge ((fhK_iff 25).mp (Nat.le_refl _)).1 (this _)
    · exact Nat.le_refl _
theorem fhR_e {G : Nat → Nat} (hG : le1k G) {r k : Nat} (hr : r < z) (hk : k < 25) (h : (Hb r).testBit k = true) : min 1000 (G k + wtF Tt Pu r k) ≤ fhR Hb Tt Pu Pp Ps G z (5 * Pp r + Ps r) := by
  have e := fhR_up (Hb := Hb) (Tt := Tt) (Pu := Pu) (Pp := Pp) (Ps := Ps) hG (5 * Pp r + Ps r) (r + 1) (z - (r + 1))
  rw [show r + 1 + (z - (r + 1)) = z from by omega] at e
  refine Nat.le_trans ?_ e
  simp only [fhR, up_same]
  refine fhV_ge (Nat.le_trans (Nat.min_le_right _ _) ?_) (Nat.min_le_left _ _)
  have q := ((fhK_iff (G := fhR Hb Tt Pu Pp Ps G r) (s := Hb r) (top := Tt r) (pu := Pu r) (v := fhR Hb Tt Pu Pp Ps G r (5 * Pp r + Ps r)) 25).mp (Nat.le_refl _)).2 k hk
  rw [fhB_in h] at q
  have := fhR_ge (Hb := Hb) (Tt := Tt) (Pu := Pu) (Pp := Pp) (Ps := Ps) hG k r
  omega
theorem fhT_e {r k : Nat} (t : Nat) (hr : r < z) (hk : k < 25) (h : (Hb r).testBit k = true) : min 1000 (fhT z Hb Tt Pu Pp Ps t k + wtF Tt Pu r k) ≤ fhT z Hb Tt Pu Pp Ps (t + 1) (5 * Pp r + Ps r) := fhR_e (fhT_le t) hr hk h
theorem fhT_up (a t : Nat) : ∀ d, fhT z Hb Tt Pu Pp Ps t a ≤ fhT z Hb Tt Pu Pp Ps (t + d) a
  | 0 => Nat.le_refl _
  | d + 1 => Nat.le_trans (fhT_up a t d) (fhR_ge (fhT_le (t + d)) a z)
theorem fhT_mono (a : Nat) {s t : Nat} (h : s ≤ t) : fhT z Hb Tt Pu Pp Ps s a ≤ fhT z Hb Tt Pu Pp Ps t a := by
  have := fhT_up (z := z) (Hb := Hb) (Tt := Tt) (Pu := Pu) (Pp := Pp) (Ps := Ps) a s (t - s)
  rw [show s + (t - s) = t from by omega] at this; exact this
theorem fhT_pos (a t : Nat) : 1 ≤ fhT z Hb Tt Pu Pp Ps t a := fhT_mono (s := 0) a (Nat.zero_le t)
/-! heads from which heights grow without end -/
theorem fhT_ds {x s : Nat} : ∀ t a, dsB (egB z (fun r => 5 * Pp r + Ps r) Hb) x t a = true → x < 25 → fhT z Hb Tt Pu Pp Ps s x ≤ fhT z Hb Tt Pu Pp Ps (s + t) a
  | 0, a, q, _ => by simp [dsB] at q
  | t + 1, a, q, hx => by
    rcases dsB_s.mp q with w | w | ⟨k, hk, w1, w2⟩
    · exact Nat.le_trans (fhT_ds t a w hx) (fhT_mono a (by omega))
    · obtain ⟨r, hr, rfl, h⟩ := egB_t.mp w
      have h1 := fhT_e (Tt := Tt) (Pu := Pu) (Pp := Pp) (Ps := Ps) s hr hx h
      have h2 := fhT_le (z := z) (Hb := Hb) (Tt := Tt) (Pu := Pu) (Pp := Pp) (Ps := Ps) s x
      refine Nat.le_trans ?_ (fhT_mono _ (show s + 1 ≤ s + (t + 1) by omega))
      omega
    · obtain ⟨r, hr, rfl, h⟩ := egB_t.mp w1
      have h1 := fhT_e (Tt := Tt) (Pu := Pu) (Pp := Pp) (Ps := Ps) (s + t) hr hk h
      have h2 := fhT_le (z := z) (Hb := Hb) (Tt := Tt) (Pu := Pu) (Pp := Pp) (Ps := Ps) (s + t) k
      have h3 := fhT_ds (s := s) t k w2 hx
      show _ ≤ fhT z Hb Tt Pu Pp Ps (s + t + 1) (5 * Pp r + Ps r)
      omega
theorem fhT_rise {r k : Nat} (hr : r < z) (hk : k < 25) (hg : 5 * Pp r + Ps r < 25) (h : (Hb r).testBit k = true) (hw : wtF Tt Pu r k = 1) (hc : k = 5 * Pp r + Ps r ∨ rcB (egB z (fun r => 5 * Pp r + Ps r) Hb) k (5 * Pp r + Ps r) = true) (s : Nat) : min 1000 (fhT z Hb Tt Pu Pp Ps s (5 * Pp r + Ps r) + 1) ≤ fhT z Hb Tt Pu Pp Ps (s + 26) (5 * Pp r + Ps r) := by
  have h1 := fhT_e (Tt := Tt) (Pu := Pu) (Pp := Pp) (Ps := Ps) (s + 25) hr hk h
  rw [hw] at h1
  have h2 : fhT z Hb Tt Pu Pp Ps s (5 * Pp r + Ps r) ≤ fhT z Hb Tt Pu Pp Ps (s + 25) k := by
    rcases hc with e | e
    · rw [e]; exact fhT_mono _ (by omega)
    · exact fhT_ds 25 k e hg
  show _ ≤ fhT z Hb Tt Pu Pp Ps (s + 25 + 1) (5 * Pp r + Ps r)
  omega
theorem fhT_more {r k : Nat} (hr : r < z) (hk : k < 25) (hg : 5 * Pp r + Ps r < 25) (h : (Hb r).testBit k = true) (hw : wtF Tt Pu r k = 1) (hc : k = 5 * Pp r + Ps r ∨ rcB (egB z (fun r => 5 * Pp r + Ps r) Hb) k (5 * Pp r + Ps r) = true) : ∀ j, min 1000 (1 + j) ≤ fhT z Hb Tt Pu Pp Ps (26 * j) (5 * Pp r + Ps r)
  | 0 => Nat.le_trans (Nat.min_le_right _ _) (fhT_pos _ _)
  | j + 1 => by
    have ih := fhT_more hr hk hg h hw hc j
    have := fhT_rise hr hk hg h hw hc (26 * j)
    show _ ≤ fhT z Hb Tt Pu Pp Ps (26 * j + 26) (5 * Pp r + Ps r)
    omega
/-! heads with an end -/
variable {Bd : Nat → Bool} {sz : Nat → Nat}
theorem fhR_sz (h2 : ∀ r k, k + 1 = Tt r → Pu r = 2 → (Hb r).testBit k = true) (H1 : ∀ r k, r < z → Bd (5 * Pp r + Ps r) = true → (Hb r).testBit k = true → Bd k = true ∧ k < 25 ∧ sz k + wtF Tt Pu r k ≤ sz (5 * Pp r + Ps r)) {G : Nat → Nat} (hG : ∀ a, a < 25 → Bd a = true → G a ≤ sz a) : ∀ r, r ≤ z → ∀ a, a < 25 → Bd a = true → fhR Hb Tt Pu Pp Ps G r a ≤ sz a
  | 0, _ => hG
  | r + 1, hr => by
    intro a ha hb
    have ih := fhR_sz h2 H1 hG r (by omega)
    simp only [fhR, up]; split
    · next e =>
      subst e
      have : fhK (fhR Hb Tt Pu Pp Ps G r) (Hb r) (Tt r) (Pu r) (fhR Hb Tt Pu Pp Ps G r (5 * Pp r + Ps r)) 25 ≤ sz (5 * Pp r + Ps r) := by
        rw [fhK_iff]
        refine ⟨ih _ ha hb, fun k hk => ?_⟩
        by_cases q : (Hb r).testBit k = true
        · rw [fhB_in q]
          obtain ⟨b1, b2, b3⟩ := H1 r k (by omega) hb q
          have := ih k b2 b1
          omega
        · rw [fhB_out (h2 r k) (by simpa using q)]; exact Nat.zero_le _
      unfold fhV; split <;> omega
    · exact ih a ha hb
theorem fhT_sz (h2 : ∀ r k, k + 1 = Tt r → Pu r = 2 → (Hb r).testBit k = true) (H0 : ∀ a, a < 25 → 1 ≤ sz a) (H1 : ∀ r k, r < z → Bd (5 * Pp r + Ps r) = true → (Hb r).testBit k = true → Bd k = true ∧ k < 25 ∧ sz k + wtF Tt Pu r k ≤ sz (5 * Pp r + Ps r)) : ∀ t a, a < 25 → Bd a = true → fhT z Hb Tt Pu Pp Ps t a ≤ sz a
  | 0, a, ha, _ => H0 a ha
  | t + 1, a, ha, hb => fhR_sz h2 H1 (fhT_sz h2 H0 H1 t) z (Nat.le_refl _) a ha hb
theorem mono_stab {f : Nat → Nat} {M : Nat} (h1 : ∀ s t, s ≤ t → f s ≤ f t) (h2 : ∀ t, f t ≤ M) : ∀ d s, M ≤ f s + d → ∃ S, ∀ t, S ≤ t → f t = f S
  | 0, s, h => ⟨s, fun t ht => by have := h1 s t ht; have := h2 t; omega⟩
  | d + 1, s, h => by
    by_cases q : ∃ t, s ≤ t ∧ f s < f t
    · obtain ⟨t, ht, hl⟩ := q
      exact mono_stab h1 h2 d t (by omega)
    · refine ⟨s, fun t ht => ?_⟩
      have := h1 s t ht
      rcases Nat.lt_or_ge (f s) (f t) with w | w
      · exact absurd ⟨t, ht, w⟩ q
      · omega
theorem stab_all {f : Nat → Nat → Nat} {Bd : Nat → Bool} {M : Nat} (h1 : ∀ a s t, s ≤ t → f s a ≤ f t a) (h2 : ∀ t a, a < 25 → Bd a = true → f t a ≤ M) : ∀ N, N ≤ 25 → ∃ S, ∀ a, a < N → Bd a = true → ∀ t, S ≤ t → f t a = f S a
  | 0, _ => ⟨0, fun a ha => absurd ha (Nat.not_lt_zero a)⟩
  | N + 1, hN => by
    obtain ⟨S1, q1⟩ := stab_all h1 h2 N (by omega)
    by_cases hb : Bd N = true
    · obtain ⟨S2, q2⟩ := mono_stab (f := fun t => f t N) (h1 N) (fun t => h2 t N (by omega) hb) M 0 (Nat.le_add_left _ _)
      refine ⟨max S1 S2, fun a ha hba t ht => ?_⟩
      have m1 : S1 ≤ max S1 S2 := Nat.le_max_left _ _
      have m2 : S2 ≤ max S1 S2 := Nat.le_max_right _ _
      rcases Nat.lt_or_ge a N with w | w
      · rw [q1 a w hba t (by omega), q1 a w hba (max S1 S2) m1]
      · have : a = N := by omega
        subst this
        have e1 := q2 t (by omega)
        have e2 := q2 (max S1 S2) m2
        exact e1.trans e2.symm
    · refine ⟨S1, fun a ha hba t ht => ?_⟩
      rcases Nat.lt_or_ge a N with w | w
      · exact q1 a w hba t ht
      · have : a = N := by omega
        subst this; exact absurd hba hb
theorem fh_fin (h2 : ∀ r k, k + 1 = Tt r → Pu r = 2 → (Hb r).testBit k = true) {V : Nat → Nat} (hg : ∀ r, 5 * Pp r + Ps r < 25) (HB : ∀ r k, r < z → Bd (5 * Pp r + Ps r) = true → (Hb r).testBit k = true → Bd k = true ∧ k < 25) (hV1 : ∀ a, a < 25 → Bd a = true → 1 ≤ V a ∧ V a ≤ 25) (hV2 : ∀ r k, r < z → Bd (5 * Pp r + Ps r) = true → (Hb r).testBit k = true → V k + wtF Tt Pu r k ≤ V (5 * Pp r + Ps r)) (hV3 : ∀ t a, a < 25 → Bd a = true → fhT z Hb Tt Pu Pp Ps t a ≤ V a) {t : Nat} (hst : ∀ a, a < 25 → Bd a = true → fhT z Hb Tt Pu Pp Ps (t + 1) a = V a → fhT z Hb Tt Pu Pp Ps t a = V a) {G : Nat → Nat} (hG : ∀ a, a < 25 → Bd a = true → G a ≤ V a ∧ (G a = V a → fhT z Hb Tt Pu Pp Ps t a = V a)) : ∀ r, r ≤ z → ∀ a, a < 25 → Bd a = true → fhR Hb Tt Pu Pp Ps G r a ≤ V a ∧ (fhR Hb Tt Pu Pp Ps G r a = V a → fhT z Hb Tt Pu Pp Ps t a = V a)
  | 0, _ => hG
  | r + 1, hr => by
    intro a ha hb
    have ih := fh_fin h2 hg HB hV1 hV2 hV3 hst hG r (by omega)
    simp only [fhR, up]; split
    · next e =>
      subst e
      have hle : fhK (fhR Hb Tt Pu Pp Ps G r) (Hb r) (Tt r) (Pu r) (fhR Hb Tt Pu Pp Ps G r (5 * Pp r + Ps r)) 25 ≤ V (5 * Pp r + Ps r) := by
        rw [fhK_iff]
        refine ⟨(ih _ ha hb).1, fun k hk => ?_⟩
        by_cases q : (Hb r).testBit k = true
        · rw [fhB_in q]
          have b1 := HB r k (by omega) hb q
          have b2 := hV2 r k (by omega) hb q
          have := (ih k b1.2 b1.1).1
          omega
        · rw [fhB_out (h2 r k) (by simpa using q)]; exact Nat.zero_le _
      have hv := hV1 _ ha hb
      have ev : fhV (fhR Hb Tt Pu Pp Ps G r) (Hb r) (Tt r) (Pu r) (5 * Pp r + Ps r) = fhK (fhR Hb Tt Pu Pp Ps G r) (Hb r) (Tt r) (Pu r) (fhR Hb Tt Pu Pp Ps G r (5 * Pp r + Ps r)) 25 := by
        unfold fhV; rw [if_pos (by omega)]
      rw [ev]
      refine ⟨hle, fun q => ?_⟩
      rcases fhK_at (G := fhR Hb Tt Pu Pp Ps G r) (s := Hb r) (top := Tt r) (pu := Pu r) (v := fhR Hb Tt Pu Pp Ps G r (5 * Pp r + Ps r)) 25 with w | ⟨k, hk, w⟩
      · exact (ih _ ha hb).2 (by rw [← w]; exact q)
      · by_cases hq : (Hb r).testBit k = true
        · rw [w, fhB_in hq] at q
          have b1 := HB r k (by omega) hb hq
          have b2 := hV2 r k (by omega) hb hq
          have b3 := ih k b1.2 b1.1
          have b4 := b3.2 (by omega)
          have b5 := fhT_e (Tt := Tt) (Pu := Pu) (Pp := Pp) (Ps := Ps) t (show r < z by omega) hk hq
          have b6 := hV3 (t + 1) _ ha hb
          exact hst _ ha hb (by omega)
        · rw [w, fhB_out (h2 r k) (by simpa using hq)] at q
          omega
    · exact ih a ha hb
theorem fh_end (h2 : ∀ r k, k + 1 = Tt r → Pu r = 2 → (Hb r).testBit k = true) (hg : ∀ r, 5 * Pp r + Ps r < 25) (H0 : ∀ a, a < 25 → 1 ≤ sz a ∧ sz a ≤ 25) (H1 : ∀ r k, r < z → Bd (5 * Pp r + Ps r) = true → (Hb r).testBit k = true → Bd k = true ∧ k < 25 ∧ sz k + wtF Tt Pu r k ≤ sz (5 * Pp r + Ps r)) (a : Nat) (ha : a < 25) (hb : Bd a = true) : fhT z Hb Tt Pu Pp Ps 1000 a = fhT z Hb Tt Pu Pp Ps 26 a ∧ fhT z Hb Tt Pu Pp Ps 1000 a ≤ 25 := by
  have hsz := fhT_sz (z := z) (Hb := Hb) (Tt := Tt) (Pu := Pu) (Pp := Pp) (Ps := Ps) (Bd := Bd) h2 (fun a h => (H0 a h).1) H1
  obtain ⟨S, hS⟩ := stab_all (f := fhT z Hb Tt Pu Pp Ps) (Bd := Bd) (M := 25) (fun a s t h => fhT_mono a h) (fun t a h1 h2 => Nat.le_trans (hsz t a h1 h2) (H0 a h1).2) 25 (Nat.le_refl _)
  have HB : ∀ r k, r < z → Bd (5 * Pp r + Ps r) = true → (Hb r).testBit k = true → Bd k = true ∧ k < 25 := fun r k h3 h4 h5 => ⟨(H1 r k h3 h4 h5).1, (H1 r k h3 h4 h5).2.1⟩
  have hV1 : ∀ a, a < 25 → Bd a = true → 1 ≤ fhT z Hb Tt Pu Pp Ps S a ∧ fhT z Hb Tt Pu Pp Ps S a ≤ 25 := fun a h3 h4 => ⟨fhT_pos a S, Nat.le_trans (hsz S a h3 h4) (H0 a h3).2⟩
  have hV2 : ∀ r k, r < z → Bd (5 * Pp r + Ps r) = true → (Hb r).testBit k = true → fhT z Hb Tt Pu Pp Ps S k + wtF Tt Pu r k ≤ fhT z Hb Tt Pu Pp Ps S (5 * Pp r + Ps r) := by
    intro r k h3 h4 h5
    have b1 := HB r k h3 h4 h5
    have b2 := fhT_e (Tt := Tt) (Pu := Pu) (Pp := Pp) (Ps := Ps) S h3 b1.2 h5
    have b3 := hS _ (hg r) h4 (S + 1) (by omega)
    have b4 := hV1 _ (hg r) h4
    omega
  have hV3 : ∀ t a, a < 25 → Bd a = true → fhT z Hb Tt Pu Pp Ps t a ≤ fhT z Hb Tt Pu Pp Ps S a := by
    intro t a h3 h4
    rcases Nat.le_total t S with w | w
    · exact fhT_mono a w
    · exact Nat.le_of_eq (hS a h3 h4 t w)
  have key : ∀ t, (∀ a, a < 25 → Bd a = true → fhT z Hb Tt Pu Pp Ps (t + 1) a = fhT z Hb Tt Pu Pp Ps S a → fhT z Hb Tt Pu Pp Ps t a = fhT z Hb Tt Pu Pp Ps S a) → ∀ a, a < 25 → Bd a = true → fhT z Hb Tt Pu Pp Ps t a = fhT z Hb Tt Pu Pp Ps S a := by
    intro t hst
    have q : ∀ d, ∀ a, a < 25 → Bd a = true → fhT z Hb Tt Pu Pp Ps (t + d) a ≤ fhT z Hb Tt Pu Pp Ps S a ∧ (fhT z Hb Tt Pu Pp Ps (t + d) a = fhT z Hb Tt Pu Pp Ps S a → fhT z Hb Tt Pu Pp Ps t a = fhT z Hb Tt Pu Pp Ps S a) := by
      intro d
      induction d with
      | zero => exact fun a h3 h4 => ⟨hV3 t a h3 h4, fun h => h⟩
      | succ d ih => exact fh_fin (V := fhT z Hb Tt Pu Pp Ps S) h2 hg HB hV1 hV2 hV3 hst ih z (Nat.le_refl _)
    intro a h3 h4
    exact (q S a h3 h4).2 (hS a h3 h4 (t + S) (by omega))
  have fin : fhT z Hb Tt Pu Pp Ps 26 a = fhT z Hb Tt Pu Pp Ps S a := by
    have up1 : ∀ t a, (decide (Bd a = true → a < 25 → fhT z Hb Tt Pu Pp Ps t a = fhT z Hb Tt Pu Pp Ps S a)) = true → (decide (Bd a = true → a < 25 → fhT z Hb Tt Pu Pp Ps (t + 1) a = fhT z Hb Tt Pu Pp Ps S a)) = true := by
      intro t a h
      rw [decide_eq_true_eq] at h ⊢
      intro h3 h4
      have := h h3 h4
      have m := fhT_mono (z := z) (Hb := Hb) (Tt := Tt) (Pu := Pu) (Pp := Pp) (Ps := Ps) a (show t ≤ t + 1 by omega)
      have m2 := hV3 (t + 1) a h4 h3
      omega
    rcases chain_go (N := 25) (D := fun t a => decide (Bd a = true → a < 25 → fhT z Hb Tt Pu Pp Ps t a = fhT z Hb Tt Pu Pp Ps S a)) up1 25 with ⟨s, hs, h⟩ | h
    · have e := key s (fun a h3 h4 h5 => by
        have q := h a h3
        rw [decide_eq_true (fun _ _ => h5)] at q
        exact of_decide_eq_true q.symm h4 h3) a ha hb
      have m := fhT_mono (z := z) (Hb := Hb) (Tt := Tt) (Pu := Pu) (Pp := Pp) (Ps := Ps) a (show s ≤ 26 by omega)
      have m2 := hV3 26 a ha hb
      omega
    · exact absurd (Nat.le_trans h (ctB_le _ 25)) (by decide)
  have m := fhT_mono (z := z) (Hb := Hb) (Tt := Tt) (Pu := Pu) (Pp := Pp) (Ps := Ps) a (show 26 ≤ 1000 by omega)
  have m2 := hV3 1000 a ha hb
  have m3 := hV1 a ha hb
  omega
end FH
end
