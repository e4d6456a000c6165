/-! NET: the class's table of a net against the reference's costs -/
def NR (Hp : Nat → Nat) (L : Nat → Nat → Nat → Bool) (n m : Nat) : Prop := (∀ p s nd, p < 11 → s < 5 → nd < 6 → (Hp (p * 5 + s)).testBit nd = L p s (5 + nd)) ∧ (∀ p s y, p < 5 → s < 5 → 5 ≤ y → y < 11 → L p s y = true → p < n ∧ s < m)
theorem lxG_at {L : Nat → Nat → Nat → Bool} {x s y : Nat} (hs : s < 5) (hy : 5 ≤ y) (hy2 : y < 11) : lxG L ((5 * x + s) * 6 + y - 5) = L x s y := by
  unfold lxG
  rw [show ((5 * x + s) * 6 + y - 5) / 30 = x from by omega, show ((5 * x + s) * 6 + y - 5) / 6 % 5 = s from by omega, show 5 + ((5 * x + s) * 6 + y - 5) % 6 = y from by omega]
theorem th_rd {Hp : Nat → Nat} {L : Nat → Nat → Nat → Bool} {n m : Nat} (hN : NR Hp L n m) (K : Nat → Nat) {p s x : Nat} (hp : p < 11) (hs : s < 5) (hx : x < 11) : thF Hp K p s x = rdF (lxG L) K p s x := by
  unfold thF rdF
  by_cases h : p < 5
  · rw [if_pos h, if_pos h, Nat.mul_comm 5]
  · rw [if_neg h, if_neg h]
    by_cases h5 : 5 ≤ x
    · have e := hN.1 p s (x - 5) hp hs (by omega)
      rw [show 5 + (x - 5) = x from by omega] at e
      rw [lxG_at hs h5 hx, e]
      by_cases q : L p s x = true
      · rw [if_pos ⟨h5, q⟩, if_pos ⟨by omega, q⟩]
      · rw [if_neg (fun w => q w.2), if_neg (fun w => q w.2)]
    · rw [if_neg (fun w => h5 w.1), if_neg (fun w => h5 (by omega))]
theorem mk_at {Hp : Nat → Nat} {L : Nat → Nat → Nat → Bool} {n m : Nat} (hN : NR Hp L n m) {h y : Nat} (hh : h < 25) (h5 : 5 ≤ y) (hy : y < 11) : mkG L n m (h * 11 + y) = (Hp h).testBit (y - 5) := by
  have e := hN.1 (h / 5) (h % 5) (y - 5) (by omega) (by omega) (by omega)
  rw [show h / 5 * 5 + h % 5 = h from by omega, show 5 + (y - 5) = y from by omega] at e
  have f := hN.2 (h / 5) (h % 5) y (by omega) (by omega) h5 hy
  unfold mkG
  rw [show (h * 11 + y) / 55 = h / 5 from by omega, show (h * 11 + y) / 11 % 5 = h % 5 from by omega, show (h * 11 + y) % 11 = y from by omega, e]
  cases q : L (h / 5) (h % 5) y with
  | false => rw [Bool.and_false]
  | true => rw [decide_eq_true ⟨(f q).1, (f q).2, h5⟩]; rfl
theorem mk_lo {L : Nat → Nat → Nat → Bool} {n m k : Nat} (h : k % 11 < 5) : mkG L n m k = false := by
  unfold mkG; rw [decide_eq_false (by omega)]; rfl
theorem sJ_inv0 {z n m : Nat} {Pp Ps Pq Pa Pb : Nat → Nat} {L : Nat → Nat → Nat → Bool} : SInv z (lxG L) Pp Ps Pq Pa Pb (iniC (mkG L n m) 275) (iniS (mkG L n m) 275) 0 := by
  have hz : ∀ k, iniS (mkG L n m) 275 k = true → iniC (mkG L n m) 275 k = 0 := by
    intro k h
    unfold iniS at h; unfold iniC
    rw [Bool.and_eq_true, decide_eq_true_eq] at h
    rw [if_pos h]
  refine ⟨iniC_ok _ _, fun k h => by rw [hz k h]; exact Nat.le_refl _, ?_, ?_, fun _ _ _ _ _ => Nat.zero_le _⟩
  · intro k h
    unfold iniS at h; unfold iniC
    rw [if_neg (fun q => by rw [q.2, decide_eq_true q.1] at h; cases h)]
  · intro r y _ _ h; rw [hz _ h]; exact Nat.zero_le _
theorem sc_keep {z : Nat} {Lx : Nat → Bool} {Pp Ps Pq Pa Pb C0 : Nat → Nat} {S0 : Nat → Bool} {k : Nat} (h : S0 k = true) : ∀ t, (scC z Lx Pp Ps Pq Pa Pb C0 S0 t).2.1 k = true ∧ (scC z Lx Pp Ps Pq Pa Pb C0 S0 t).1 k = C0 k
  | 0 => ⟨h, rfl⟩
  | t + 1 => by
    have ih := sc_keep (z := z) (Lx := Lx) (Pp := Pp) (Ps := Ps) (Pq := Pq) (Pa := Pa) (Pb := Pb) (C0 := C0) h t
    have e : ∀ (Su : Nat → Bool) (Co : Nat → Nat), Su k = true → stS z Lx Su Pp Ps Pq Pa Pb Co k = true ∧ stC z Lx Su Pp Ps Pq Pa Pb Co k = Co k := by
      intro Su Co hs
      refine ⟨stS_sub k hs, ?_⟩
      simp only [stC, seC]
      rw [if_neg (fun q => by have := (seQ_inv q.2).1; rw [hs] at this; cases this)]
    exact ⟨(e _ _ ih.1).1, (e _ _ ih.1).2.trans ih.2⟩
/-- a net's table is nowhere below g -/
def LBn (g K : Nat → Nat) : Prop := ∀ h y, h < 25 → y < 11 → g (h * 11 + y) ≤ K (h * 11 + y)
theorem lowC_lbn {g K : Nat → Nat} {h y v : Nat} (hK : LBn g K) (hy : y < 11) (hv : g (h * 11 + y) ≤ v) : LBn g (lowC K (h * 11 + y) v) := by
  intro h' y' hh hy'
  unfold lowC; split
  · by_cases e : h' * 11 + y' = h * 11 + y
    · rw [e, up_same]; exact hv
    · rw [up_ne _ _ e]; exact hK h' y' hh hy'
  · exact hK h' y' hh hy'
theorem th_lb {Hp g K : Nat → Nat} {L : Nat → Nat → Nat → Bool} {n m : Nat} (hN : NR Hp L n m) (hK : LBn g K) {p s x : Nat} (hp : p < 11) (hs : s < 5) (hx : x < 11) : rdF (lxG L) g p s x ≤ thF Hp K p s x := by
  rw [th_rd hN K hp hs hx]
  unfold rdF; split
  · exact hK _ _ (by omega) hx
  · exact Nat.le_refl _
theorem nrC_lbn {Hp g K : Nat → Nat} {L : Nat → Nat → Nat → Bool} {n m h f p s : Nat} (hN : NR Hp L n m) (hK : LBn g K) (ho : okf K) (hf : okv f) (hp : p < 11) (hs : s < 5) (H : ∀ y, 5 ≤ y → y < 11 → g (h * 11 + y) ≤ sm f (rdF (lxG L) g p s y)) : ∀ i, i ≤ 6 → LBn g (nrC Hp K h f p s i)
  | 0, _ => hK
  | i + 1, hi => by
    have ih := nrC_lbn hN hK ho hf hp hs H i (by omega)
    simp only [nrC]
    exact lowC_lbn ih (by omega) (Nat.le_trans (H (5 + i) (by omega) (by omega)) (sm_mono (Nat.le_refl _) (th_lb hN ih hp hs (by omega)) hf (thF_ok (nrC_ok ho _ _ _ _ _) _ _ _)))
theorem nbC_lbn {Hp g K : Nat → Nat} {L : Nat → Nat → Nat → Bool} {n m h hi w : Nat} (hN : NR Hp L n m) (hK : LBn g K) (ho : okf K) (hhi : hi < 25) (hw : w ≤ 5) (H1 : w = 0 → ∀ x, x < 11 → g (h * 11 + x) ≤ sm 1 (g (hi * 11 + x))) (H2 : ¬ w = 0 → ∀ x y, x < 11 → 5 ≤ y → y < 11 → g (h * 11 + y) ≤ sm (sm 1 (g (hi * 11 + x))) (rdF (lxG L) g x (w - 1) y)) : ∀ x, x ≤ 11 → LBn g (nbC Hp K h (hi * 11) w x)
  | 0, _ => hK
  | x + 1, hx => by
    have ih := nbC_lbn hN hK ho hhi hw H1 H2 x (by omega)
    have hox : okf (nbC Hp K h (hi * 11) w x) := nbC_ok ho _ _ _ _
    have h1 : okv 1 := Or.inl (by decide)
    have hm : sm 1 (g (hi * 11 + x)) ≤ sm 1 (nbC Hp K h (hi * 11) w x (hi * 11 + x)) := sm_mono (Nat.le_refl _) (ih hi x hhi (by omega)) h1 (hox _)
    simp only [nbC]
    by_cases e : sm 1 (nbC Hp K h (hi * 11) w x (hi * 11 + x)) = 9000000000000000000
    · rw [if_pos e]; exact ih
    · rw [if_neg e]
      by_cases f : w = 0
      · rw [if_pos f]
        exact lowC_lbn ih (by omega) (Nat.le_trans (H1 f x (by omega)) hm)
      · rw [if_neg f]
        refine nrC_lbn hN ih hox (sm_okv _ _) (by omega) (by omega) (fun y h5 hy => ?_) 6 (Nat.le_refl _)
        exact Nat.le_trans (H2 f x y (by omega) h5 hy) (sm_monoL hm (sm_okv _ _))
/-- what the class's rows of rules ask of the rules -/
def RB (Pp Ps Pq Pa Pb : Nat → Nat) : Prop := ∀ r, Pp r < 5 ∧ Ps r < 5 ∧ Pq r < 5 ∧ Pa r ≤ 5 ∧ Pb r ≤ 5
section LN
variable {n m z : Nat} {Hp g : Nat → Nat} {L : Nat → Nat → Nat → Bool} {Pp Ps Pq Pa Pb : Nat → Nat}
theorem nyC_lbn (hN : NR Hp L n m) (hB : RB Pp Ps Pq Pa Pb) {K : Nat → Nat} (hK : LBn g K) (ho : okf K) {r : Nat} (hP : ∀ y, y < 11 → g (kx Pp Ps r y) ≤ brF (lxG L) g Pq Pa Pb r y) : LBn g (nyC Hp (fun r => Pp r * 5 + Ps r) Pq Pa Pb K r) := by
  obtain ⟨b1, b2, b3, b4, b5⟩ := hB r
  have ek : ∀ y, kx Pp Ps r y = (Pp r * 5 + Ps r) * 11 + y := fun y => by simp only [kx]; omega
  unfold nyC
  by_cases ha : Pa r = 0
  · rw [if_pos ha]; exact hK
  · rw [if_neg ha]
    have er : ∀ y, rdF (lxG L) g (Pq r) (Pa r - 1) y = g ((Pq r * 5 + (Pa r - 1)) * 11 + y) := fun y => by unfold rdF; rw [if_pos b3, Nat.mul_comm 5]
    refine nbC_lbn hN hK ho (by omega) b5 (fun hb x hx => ?_) (fun hb x y hx h5 hy => ?_) 11 (Nat.le_refl _)
    · have := hP x hx
      unfold brF at this
      rw [if_neg ha, if_pos hb, ek, er] at this; exact this
    · have := hP y hy
      unfold brF at this
      rw [if_neg ha, if_neg hb, ek] at this
      refine Nat.le_trans this ?_
      rw [sm_assoc]
      have h1 := brL_le (Lx := lxG L) (Co := g) (q := Pq r) (a := Pa r - 1) (b := Pb r - 1) (y := y) (x := 11) (i := x) (by omega)
      rw [er] at h1
      exact sm_mono (Nat.le_refl _) h1 (Or.inl (by decide)) (sm_okv _ _)
theorem ndC_lbn (hN : NR Hp L n m) (hB : RB Pp Ps Pq Pa Pb) {K : Nat → Nat} (hK : LBn g K) (ho : okf K) (hP : ∀ r y, r < z → y < 11 → g (kx Pp Ps r y) ≤ brF (lxG L) g Pq Pa Pb r y) : ∀ r, r ≤ z → LBn g (ndC Hp (fun r => Pp r * 5 + Ps r) Pq Pa Pb K r)
  | 0, _ => hK
  | r + 1, hr => nyC_lbn hN hB (ndC_lbn hN hB hK ho hP r (by omega)) (ndC_ok ho r) (fun y hy => hP r y (by omega) hy)
theorem niC_lbn (hN : NR Hp L n m) (hB : RB Pp Ps Pq Pa Pb) {Cv : Nat → Nat} (hC : okf Cv) (h0 : LBn g (sfF Hp Cv)) (hP : ∀ r y, r < z → y < 11 → g (kx Pp Ps r y) ≤ brF (lxG L) g Pq Pa Pb r y) : ∀ t, LBn g (niC z Hp (fun r => Pp r * 5 + Ps r) Pq Pa Pb Cv t)
  | 0 => h0
  | t + 1 => ndC_lbn hN hB (niC_lbn hN hB hC h0 hP t) (niC_ok hC t) hP z (Nat.le_refl _)
end LN
theorem nrC_le {Hp K : Nat → Nat} {hd f p s : Nat} : ∀ i k, nrC Hp K hd f p s i k ≤ K k
  | 0, _ => Nat.le_refl _
  | i + 1, k => Nat.le_trans (lowC_le k) (nrC_le i k)
theorem thF_le {Hp K K' : Nat → Nat} (h : ∀ k, K k ≤ K' k) (p s x : Nat) : thF Hp K p s x ≤ thF Hp K' p s x := by
  unfold thF; split
  · exact h _
  · exact Nat.le_refl _
theorem nrC_at {Hp K : Nat → Nat} {hd f p s : Nat} (hK : okf K) (hf : okv f) : ∀ {n i : Nat}, i < n → nrC Hp K hd f p s n (hd * 11 + (5 + i)) ≤ sm f (thF Hp K p s (5 + i))
  | 0, i, h => absurd h (Nat.not_lt_zero i)
  | n + 1, i, h => by
    simp only [nrC]
    rcases Nat.lt_or_ge i n with w | w
    · exact Nat.le_trans (lowC_le _) (nrC_at hK hf w)
    · have : i = n := by omega
      subst this
      exact Nat.le_trans lowC_at (sm_mono (Nat.le_refl _) (thF_le (nrC_le i) _ _ _) hf (thF_ok hK _ _ _))
theorem nbC_le {Hp K : Nat → Nat} {hd i w : Nat} : ∀ x k, nbC Hp K hd i w x k ≤ K k
  | 0, _ => Nat.le_refl _
  | x + 1, k => by
    simp only [nbC]; split
    · exact nbC_le x k
    · split
      · exact Nat.le_trans (lowC_le k) (nbC_le x k)
      · exact Nat.le_trans (nrC_le 6 k) (nbC_le x k)
theorem nbC_at1 {Hp K : Nat → Nat} {hd i : Nat} (hC : okf K) : ∀ {m x : Nat}, x < m → nbC Hp K hd i 0 m (hd * 11 + x) ≤ sm 1 (K (i + x))
  | 0, x, h => absurd h (Nat.not_lt_zero x)
  | m + 1, x, h => by
    rcases Nat.lt_or_ge x m with w | w
    · have ih := nbC_at1 (Hp := Hp) (hd := hd) (i := i) hC w
      simp only [nbC]; split
      · exact ih
      · exact Nat.le_trans (lowC_le _) ih
    · have : x = m := by omega
      subst this
      have h1 := sm_mono (Nat.le_refl 1) (nbC_le (Hp := Hp) (K := K) (hd := hd) (i := i) (w := 0) x (i + x)) (Or.inl (by decide)) (hC (i + x))
      have ho := nbC_ok (Hp := Hp) hC hd i 0 x (hd * 11 + x)
      simp only [nbC]; split
      · next e => rw [e] at h1; omega
      · exact Nat.le_trans lowC_at h1
theorem nbC_at2 {Hp K : Nat → Nat} {hd i w : Nat} (hw : ¬ w = 0) (hC : okf K) : ∀ {m x : Nat}, x < m → ∀ y, y < 6 → nbC Hp K hd i w m (hd * 11 + (5 + y)) ≤ sm (sm 1 (K (i + x))) (thF Hp K x (w - 1) (5 + y))
  | 0, x, h => absurd h (Nat.not_lt_zero x)
  | m + 1, x, h => by
    intro y hy
    rcases Nat.lt_or_ge x m with q | q
    · have ih := nbC_at2 (Hp := Hp) (hd := hd) (i := i) hw hC q y hy
      simp only [nbC]; split
      · exact ih
      · exact Nat.le_trans (nrC_le 6 _) ih
    · have : x = m := by omega
      subst this
      have h1 := sm_mono (Nat.le_refl 1) (nbC_le (Hp := Hp) (K := K) (hd := hd) (i := i) (w := w) x (i + x)) (Or.inl (by decide)) (hC (i + x))
      have ho := nbC_ok (Hp := Hp) hC hd i w x
      simp only [nbC]; split
      · next e =>
        rw [e] at h1
        have h2 := (sm_ge (sm_okv 1 (K (i + x))) (thF_ok (Hp := Hp) hC x (w - 1) (5 + y))).1
        have h3 := ho (hd * 11 + (5 + y))
        omega
      · refine Nat.le_trans (nrC_at ho (sm_okv _ _) hy) ?_
        exact sm_mono h1 (thF_le (nbC_le x) _ _ _) (sm_okv _ _) (thF_ok hC _ _ _)
theorem nyC_le {Hp Hd To Tp Bl K : Nat → Nat} (r k : Nat) : nyC Hp Hd To Tp Bl K r k ≤ K k := by
  unfold nyC; split
  · exact Nat.le_refl _
  · exact nbC_le 11 k
theorem ndC_le {Hp Hd To Tp Bl K : Nat → Nat} : ∀ r k, ndC Hp Hd To Tp Bl K r k ≤ K k
  | 0, _ => Nat.le_refl _
  | r + 1, k => Nat.le_trans (nyC_le r k) (ndC_le r k)
theorem ndC_at {Hp Hd To Tp Bl K : Nat → Nat} {k v : Nat} {r : Nat} (h : nyC Hp Hd To Tp Bl (ndC Hp Hd To Tp Bl K r) r k ≤ v) : ∀ z, r < z → ndC Hp Hd To Tp Bl K z k ≤ v
  | 0, hr => absurd hr (Nat.not_lt_zero r)
  | z + 1, hr => by
    rcases Nat.lt_or_ge r z with w | w
    · exact Nat.le_trans (nyC_le z k) (ndC_at h z w)
    · have : r = z := by omega
      subst this; exact h
theorem niC_dec {z : Nat} {Hp Hd To Tp Bl Cv : Nat → Nat} (t k : Nat) : ∀ d, niC z Hp Hd To Tp Bl Cv (t + d) k ≤ niC z Hp Hd To Tp Bl Cv t k
  | 0 => Nat.le_refl _
  | d + 1 => Nat.le_trans (ndC_le z k) (niC_dec t k d)
