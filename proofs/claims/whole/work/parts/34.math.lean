/-- a table of the class is nowhere below g -/
def LBp (g C : Nat → Nat) : Prop := ∀ h q, q < 5 → g (h * 11 + q) ≤ C (h * 5 + q)
theorem lowC_lb {g C : Nat → Nat} {h q v : Nat} (hC : LBp g C) (hq : q < 5) (hv : g (h * 11 + q) ≤ v) : LBp g (lowC C (h * 5 + q) v) := by
  intro h' q' hq'
  unfold lowC; split
  · by_cases e : h' * 5 + q' = h * 5 + q
    · have e1 : h' = h := by omega
      have e2 : q' = q := by omega
      subst e1; subst e2; rw [up_same]; exact hv
    · rw [up_ne _ _ e]; exact hC h' q' hq'
  · exact hC h' q' hq'
theorem prC_lb {g C : Nat → Nat} {h f nx n : Nat} (hC : LBp g C) (ho : okf C) (hf : okv f) (hn : n ≤ 5) (H : ∀ x, x < n → g (h * 11 + x) ≤ sm f (g (nx * 11 + x))) : ∀ x, x ≤ n → LBp g (prC C (h * 5) f nx x)
  | 0, _ => hC
  | x + 1, hx => by
    have ih := prC_lb hC ho hf hn H x (by omega)
    simp only [prC]
    exact lowC_lb ih (by omega) (Nat.le_trans (H x (by omega)) (sm_mono (Nat.le_refl _) (ih nx x (by omega)) hf (prC_ok ho _ _ _ _ _)))
theorem pbC_lb {g C : Nat → Nat} {h hi w n : Nat} (hC : LBp g C) (ho : okf C) (hn : n ≤ 5) (H1 : w = 0 → ∀ x, x < n → g (h * 11 + x) ≤ sm 1 (g (hi * 11 + x))) (H2 : ¬ w = 0 → ∀ x y, x < n → y < n → g (h * 11 + y) ≤ sm (sm 1 (g (hi * 11 + x))) (g ((x * 5 + (w - 1)) * 11 + y))) : ∀ x, x ≤ n → LBp g (pbC n C (h * 5) (hi * 5) w x)
  | 0, _ => hC
  | x + 1, hx => by
    have ih := pbC_lb hC ho hn H1 H2 x (by omega)
    have hox : okf (pbC n C (h * 5) (hi * 5) w x) := pbC_ok ho _ _ _ _
    have h1 : okv 1 := Or.inl (by decide)
    have hm : sm 1 (g (hi * 11 + x)) ≤ sm 1 (pbC n C (h * 5) (hi * 5) w x (hi * 5 + x)) := sm_mono (Nat.le_refl _) (ih hi x (by omega)) h1 (hox _)
    simp only [pbC]
    by_cases e : sm 1 (pbC n C (h * 5) (hi * 5) w x (hi * 5 + x)) = 9000000000000000000
    · rw [if_pos e]; exact ih
    · rw [if_neg e]
      by_cases f : w = 0
      · rw [if_pos f]
        exact lowC_lb ih (by omega) (Nat.le_trans (H1 f x (by omega)) hm)
      · rw [if_neg f]
        refine prC_lb ih hox (sm_okv _ _) hn (fun y hy => ?_) n (Nat.le_refl _)
        refine Nat.le_trans (H2 f x y (by omega) hy) ?_
        have hg : okv (g ((x * 5 + (w - 1)) * 11 + y)) ∨ True := Or.inr trivial
        exact sm_monoL hm (sm_okv _ _)
section LB
variable {n z : Nat} {Lx : Nat → Bool} {Pp Ps Pq Pa Pb g : Nat → Nat}
theorem byC_lb (hg : okf g) (hq5 : ∀ r, Pq r < 5) (hn : n ≤ 5) {C : Nat → Nat} (hC : LBp g C) (ho : okf C) {r : Nat} (hP : ∀ y, y < 11 → g (kx Pp Ps r y) ≤ brF Lx g Pq Pa Pb r y) : LBp g (byC n (fun r => Pp r * 5 + Ps r) Pq Pa Pb C r) := by
  have hpr := hq5 r
  have ek : ∀ y, kx Pp Ps r y = (Pp r * 5 + Ps r) * 11 + y := fun y => by simp only [kx]; omega
  unfold byC
  by_cases ha : Pa r = 0
  · rw [if_pos ha]
    refine lowC_lb hC hpr ?_
    have := hP (Pq r) (by omega)
    unfold brF at this
    rw [if_pos ha, if_pos rfl, ek] at this; exact this
  · rw [if_neg ha]
    have er : ∀ y, rdF Lx g (Pq r) (Pa r - 1) y = g ((Pq r * 5 + (Pa r - 1)) * 11 + y) := fun y => by unfold rdF; rw [if_pos hpr, Nat.mul_comm 5]
    refine pbC_lb hC ho hn (fun hb x hx => ?_) (fun hb x y hx hy => ?_) n (Nat.le_refl _)
    · have := hP x (by omega)
      unfold brF at this
      rw [if_neg ha, if_pos hb, ek, er] at this; exact this
    · have := hP y (by omega)
      unfold brF at this
      rw [if_neg ha, if_neg hb, ek] at this
      refine Nat.le_trans this ?_
      have e2 : rdF Lx g x (Pb r - 1) y = g ((x * 5 + (Pb r - 1)) * 11 + y) := by unfold rdF; rw [if_pos (by omega), Nat.mul_comm 5]
      rw [sm_assoc]
      have h1 := brL_le (Lx := Lx) (Co := g) (q := Pq r) (a := Pa r - 1) (b := Pb r - 1) (y := y) (x := 11) (i := x) (by omega)
      rw [er, e2] at h1
      exact sm_mono (Nat.le_refl _) h1 (Or.inl (by decide)) (sm_okv _ _)
theorem rdC_lb (hg : okf g) (hq5 : ∀ r, Pq r < 5) (hn : n ≤ 5) {C : Nat → Nat} (hC : LBp g C) (ho : okf C) (hP : ∀ r y, r < z → y < 11 → g (kx Pp Ps r y) ≤ brF Lx g Pq Pa Pb r y) : ∀ r, r ≤ z → LBp g (rdC n (fun r => Pp r * 5 + Ps r) Pq Pa Pb C r)
  | 0, _ => hC
  | r + 1, hr => byC_lb hg hq5 hn (rdC_lb hg hq5 hn hC ho hP r (by omega)) (rdC_ok ho r) (fun y hy => hP r y (by omega) hy)
theorem itC_lb (hg : okf g) (hq5 : ∀ r, Pq r < 5) (hn : n ≤ 5) (hP : ∀ r y, r < z → y < 11 → g (kx Pp Ps r y) ≤ brF Lx g Pq Pa Pb r y) : ∀ t, LBp g (itC n z (fun r => Pp r * 5 + Ps r) Pq Pa Pb t)
  | 0 => fun h q _ => by have := hg (h * 11 + q); simp only [itC]; omega
  | t + 1 => rdC_lb hg hq5 hn (itC_lb hg hq5 hn hP t) (itC_ok t) hP z (Nat.le_refl _)
end LB
theorem sN_inv0 {z : Nat} {Pp Ps Pq Pa Pb : Nat → Nat} : SInv z (fun _ => false) Pp Ps Pq Pa Pb (fun _ => 9000000000000000000) (fun _ => false) 0 :=
  ⟨fun _ => Or.inr rfl, fun _ h => Bool.noConfusion h, fun _ _ => rfl, fun _ _ _ _ h => Bool.noConfusion h, fun _ _ _ _ _ => Nat.zero_le _⟩
theorem sc_sure {z : Nat} {Lx : Nat → Bool} {Pp Ps Pq Pa Pb C0 : Nat → Nat} {S0 : Nat → Bool} (h0 : ∀ k, S0 k = true → ¬ C0 k = 9000000000000000000) : ∀ t k, (scC z Lx Pp Ps Pq Pa Pb C0 S0 t).2.1 k = true → ¬ (scC z Lx Pp Ps Pq Pa Pb C0 S0 t).1 k = 9000000000000000000
  | 0, k, h => h0 k h
  | t + 1, k, h => by
    have ih := sc_sure (z := z) (Lx := Lx) (Pp := Pp) (Ps := Ps) (Pq := Pq) (Pa := Pa) (Pb := Pb) h0 t k
    have e : ∀ (Su : Nat → Bool) (Co : Nat → Nat), (Su k = true → ¬ Co k = 9000000000000000000) → stS z Lx Su Pp Ps Pq Pa Pb Co k = true → ¬ stC z Lx Su Pp Ps Pq Pa Pb Co k = 9000000000000000000 := by
      intro Su Co hi hs
      simp only [stC, seC]; simp only [stS, seS] at hs
      split at hs
      · next q =>
        rw [if_pos q]
        obtain ⟨_, q2, q3⟩ := seQ_inv q.2
        rw [← q3]; exact q2
      · next q => rw [if_neg q]; exact hi hs
    exact e _ _ ih h
theorem ct125 : ctB (fun k => decide (k % 11 < 5)) 275 = 125 := by decide +kernel
/-- POP: the class's table is the reference's -/
theorem pops_eq {n z : Nat} {Pp Ps Pq Pa Pb : Nat → Nat} (hR : ∀ r, Pp r < 5 ∧ Ps r < 5) (hq : ∀ r, r < z → Pq r < n) (hq5 : ∀ r, Pq r < 5) (hn : n ≤ 5) :
    ∃ tT, (sN z Pp Ps Pq Pa Pb tT).2.2 = false ∧ (∀ t, t < tT → (sN z Pp Ps Pq Pa Pb t).2.2 = true) ∧ ∀ h q, q < 5 → CCf n z (fun r => Pp r * 5 + Ps r) Pq Pa Pb (h * 5 + q) = (sN z Pp Ps Pq Pa Pb tT).1 (h * 11 + q) := by
  have hM : ∀ t, ctB (sN z Pp Ps Pq Pa Pb t).2.1 275 ≤ 125 := by
    intro t
    rw [← ct125]
    refine ctB_mono (fun k hk => ?_) 275
    apply decide_eq_true
    have h1 := sc_sure (z := z) (Lx := fun _ => false) (Pp := Pp) (Ps := Ps) (Pq := Pq) (Pa := Pa) (Pb := Pb) (C0 := fun _ => 9000000000000000000) (S0 := fun _ => false) (fun _ h => Bool.noConfusion h) t k hk
    rcases Nat.lt_or_ge (k % 11) n with w | w
    · omega
    · exact absurd (Ct_inf hq hq5 t k w) h1
  obtain ⟨tT, hp, hle, hT1, hT2⟩ := sc_end (z := z) (Lx := fun _ => false) (Pp := Pp) (Ps := Ps) (Pq := Pq) (Pa := Pa) (Pb := Pb) (C0 := fun _ => 9000000000000000000) (S0 := fun _ => false) hM
  refine ⟨tT, hT1, hT2, ?_⟩
  have hfix := sc_fix hR sN_inv0 hp hT1
  have hg : okf (sN z Pp Ps Pq Pa Pb tT).1 := sN_ok _ _ _ _ _ _ _
  intro h q hq2
  have lb := itC_lb (n := n) (g := (sN z Pp Ps Pq Pa Pb tT).1) hg hq5 hn hfix 126 h q hq2
  rcases Nat.lt_or_ge q n with w | w
  · have ub := pop_ub (Pa := Pa) (Pb := Pb) hR hq hq5 hn tT h q w
    have dc := itC_dec (n := n) (z := z) (Hd := fun r => Pp r * 5 + Ps r) (To := Pq) (Tp := Pa) (Bl := Pb) tT (h * 5 + q) (126 - tT)
    rw [show tT + (126 - tT) = 126 from by omega] at dc
    exact Nat.le_antisymm (Nat.le_trans dc ub) lb
  · have e := Ct_inf (Pp := Pp) (Ps := Ps) (Pa := Pa) (Pb := Pb) hq hq5 tT (h * 11 + q) (by omega)
    have ho : okf (CCf n z (fun r => Pp r * 5 + Ps r) Pq Pa Pb) := CCf_ok _ _ _ _ _ _
    have o := ho (h * 5 + q)
    have lb2 : (sN z Pp Ps Pq Pa Pb tT).1 (h * 11 + q) ≤ CCf n z (fun r => Pp r * 5 + Ps r) Pq Pa Pb (h * 5 + q) := lb
    have e' : (sN z Pp Ps Pq Pa Pb tT).1 (h * 11 + q) = 9000000000000000000 := e
    rw [e'] at lb2 ⊢
    omega
