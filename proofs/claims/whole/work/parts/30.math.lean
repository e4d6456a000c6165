def okv (a : Nat) : Prop := a ≤ 1000000000000000 ∨ a = 9000000000000000000
theorem sm_comm (a b : Nat) : sm a b = sm b a := by
  unfold sm
  by_cases h : a = 9000000000000000000 ∨ b = 9000000000000000000
  · rw [if_pos h, if_pos (Or.comm.mp h)]
  · rw [if_neg h, if_neg (fun q => h (Or.comm.mp q)), Nat.add_comm]
theorem sm_ge {a b : Nat} (ha : okv a) (hb : okv b) : a ≤ sm a b ∧ b ≤ sm a b := by
  unfold okv at ha hb; unfold sm; split <;> omega
theorem sm_mono {a b c d : Nat} (h1 : a ≤ c) (h2 : b ≤ d) (hc : okv c) (hd : okv d) : sm a b ≤ sm c d := by
  unfold okv at hc hd; unfold sm
  split <;> split <;> omega
theorem sm_fin {a b : Nat} (ha : ¬ a = 9000000000000000000) (hb : ¬ b = 9000000000000000000) : sm a b = min 1000000000000000 (a + b) := by
  unfold sm; rw [if_neg (by omega)]
theorem sm_inf {a b : Nat} (h : a = 9000000000000000000 ∨ b = 9000000000000000000) : sm a b = 9000000000000000000 := by
  unfold sm; rw [if_pos h]
theorem sm_assoc {a b c : Nat} : sm (sm a b) c = sm a (sm b c) := by
  by_cases h1 : a = 9000000000000000000
  · rw [sm_inf (Or.inl (sm_inf (Or.inl h1))), sm_inf (Or.inl h1)]
  · by_cases h2 : b = 9000000000000000000
    · rw [sm_inf (Or.inl (sm_inf (Or.inr h2))), sm_inf (Or.inr (sm_inf (Or.inl h2)))]
    · by_cases h3 : c = 9000000000000000000
      · rw [sm_inf (Or.inr h3), sm_inf (Or.inr (sm_inf (Or.inr h3)))]
      · rw [sm_fin h1 h2, sm_fin h2 h3, sm_fin (by omega) h3, sm_fin h1 (by omega)]; omega
theorem sm_okv (a b : Nat) : okv (sm a b) := sm_ok a b
theorem min_okv {a b : Nat} (ha : okv a) (hb : okv b) : okv (min a b) := min_ok ha hb
/-- what stays above the old value or above the bound -/
theorem sm_keep {a b a' b' L : Nat} (ha : okv a) (hb : okv b) (ha' : okv a') (hb' : okv b') (h1 : min a L ≤ a') (h2 : min b L ≤ b') : min (sm a b) L ≤ sm a' b' := by
  have g := sm_ge ha' hb'
  by_cases q : L ≤ a'
  · omega
  · by_cases w : L ≤ b'
    · omega
    · have := sm_mono (show a ≤ a' by omega) (show b ≤ b' by omega) ha' hb'
      omega
theorem brL_le {Lx : Nat → Bool} {Co : Nat → Nat} {q a b y : Nat} : ∀ {x i : Nat}, i < x → brL Lx Co q a b y x ≤ sm (rdF Lx Co q a i) (rdF Lx Co i b y)
  | 0, i, h => absurd h (Nat.not_lt_zero i)
  | x + 1, i, h => by
    simp only [brL]
    rcases Nat.lt_or_ge i x with w | w
    · exact Nat.le_trans (Nat.min_le_left _ _) (brL_le w)
    · have : i = x := by omega
      subst this; exact Nat.min_le_right _ _
theorem brL_at {Lx : Nat → Bool} {Co : Nat → Nat} {q a b y : Nat} : ∀ x, brL Lx Co q a b y x = 9000000000000000000 ∨ ∃ i, i < x ∧ brL Lx Co q a b y x = sm (rdF Lx Co q a i) (rdF Lx Co i b y)
  | 0 => Or.inl rfl
  | x + 1 => by
    simp only [brL]
    rcases Nat.le_total (brL Lx Co q a b y x) (sm (rdF Lx Co q a x) (rdF Lx Co x b y)) with w | w
    · rw [Nat.min_eq_left w]
      rcases brL_at (Lx := Lx) (Co := Co) (q := q) (a := a) (b := b) (y := y) x with h | ⟨i, hi, h⟩
      · exact Or.inl h
      · exact Or.inr ⟨i, by omega, h⟩
    · rw [Nat.min_eq_right w]; exact Or.inr ⟨x, by omega, rfl⟩
theorem rdF_mono {Lx : Nat → Bool} {Co Cp : Nat → Nat} (h : ∀ k, Co k ≤ Cp k) (x s y : Nat) : rdF Lx Co x s y ≤ rdF Lx Cp x s y := by
  unfold rdF; split
  · exact h _
  · exact Nat.le_refl _
theorem brL_mono {Lx : Nat → Bool} {Co Cp : Nat → Nat} (hp : okf Cp) (h : ∀ k, Co k ≤ Cp k) (q a b y : Nat) : ∀ x, brL Lx Co q a b y x ≤ brL Lx Cp q a b y x
  | 0 => Nat.le_refl _
  | x + 1 => by
    simp only [brL]
    have h1 := brL_mono (Lx := Lx) hp h q a b y x
    have h2 := sm_mono (rdF_mono (Lx := Lx) h q a x) (rdF_mono (Lx := Lx) h x b y) (rdF_ok hp _ _ _) (rdF_ok hp _ _ _)
    omega
theorem brF_mono {Lx : Nat → Bool} {Co Cp Pq Pa Pb : Nat → Nat} (hp : okf Cp) (h : ∀ k, Co k ≤ Cp k) (r y : Nat) : brF Lx Co Pq Pa Pb r y ≤ brF Lx Cp Pq Pa Pb r y := by
  unfold brF; split
  · exact Nat.le_refl _
  · split
    · exact sm_mono (Nat.le_refl _) (rdF_mono h _ _ _) (Or.inl (by decide)) |> fun f => f (rdF_ok hp _ _ _)
    · exact sm_mono (Nat.le_refl _) (brL_mono hp h _ _ _ _ 11) (Or.inl (by decide)) (brL_ok _ _ _ _ _ _ _)
theorem rdF_keep {Lx : Nat → Bool} {Co Cp : Nat → Nat} {L : Nat} (h : ∀ k, min (Co k) L ≤ Cp k) (x s y : Nat) : min (rdF Lx Co x s y) L ≤ rdF Lx Cp x s y := by
  unfold rdF; split
  · exact h _
  · exact Nat.min_le_left _ _
theorem brL_keep {Lx : Nat → Bool} {Co Cp : Nat → Nat} {L : Nat} (ho : okf Co) (hp : okf Cp) (h : ∀ k, min (Co k) L ≤ Cp k) (q a b y : Nat) : ∀ x, min (brL Lx Co q a b y x) L ≤ brL Lx Cp q a b y x
  | 0 => Nat.min_le_left _ _
  | x + 1 => by
    simp only [brL]
    have h1 := brL_keep (Lx := Lx) ho hp h q a b y x
    have h2 := sm_keep (rdF_ok ho q a x) (rdF_ok ho x b y) (rdF_ok hp q a x) (rdF_ok hp x b y) (rdF_keep (Lx := Lx) h q a x) (rdF_keep (Lx := Lx) h x b y)
    omega
theorem brF_keep {Lx : Nat → Bool} {Co Cp Pq Pa Pb : Nat → Nat} {L : Nat} (ho : okf Co) (hp : okf Cp) (h : ∀ k, min (Co k) L ≤ Cp k) (r y : Nat) : min (brF Lx Co Pq Pa Pb r y) L ≤ brF Lx Cp Pq Pa Pb r y := by
  have h1 : okv 1 := Or.inl (by decide)
  unfold brF; split
  · exact Nat.min_le_left _ _
  · split
    · exact sm_keep h1 (rdF_ok ho _ _ _) h1 (rdF_ok hp _ _ _) (Nat.min_le_left _ _) (rdF_keep h _ _ _)
    · exact sm_keep h1 (brL_ok _ _ _ _ _ _ _) h1 (brL_ok _ _ _ _ _ _ _) (Nat.min_le_left _ _) (brL_keep ho hp h _ _ _ _ 11)

/-! the settling -/
abbrev kx (Pp Ps : Nat → Nat) (r y : Nat) : Nat := (5 * Pp r + Ps r) * 11 + y
theorem trY_mono {Su : Nat → Bool} {F : Nat → Nat → Nat} {T : Nat → Nat} {b r : Nat} : ∀ y k, trY Su F T b r y k ≤ T k
  | 0, k => Nat.le_refl _
  | y + 1, k => by
    simp only [trY]; split
    · exact trY_mono y k
    · by_cases e : k = b + y
      · subst e; rw [up_same]; exact Nat.le_trans (Nat.min_le_left _ _) (trY_mono y _)
      · rw [up_ne _ _ e]; exact trY_mono y k
theorem trY_le {Su : Nat → Bool} {F : Nat → Nat → Nat} {T : Nat → Nat} {b r : Nat} : ∀ {n y : Nat}, y < n → Su (b + y) = false → trY Su F T b r n (b + y) ≤ F r y
  | 0, y, h, _ => absurd h (Nat.not_lt_zero y)
  | n + 1, y, h, hs => by
    simp only [trY]
    rcases Nat.lt_or_ge y n with w | w
    · have ih := trY_le (F := F) (T := T) (r := r) w hs
      split
      · exact ih
      · rw [up_ne _ _ (by omega)]; exact ih
    · have : y = n := by omega
      subst this
      rw [if_neg (by rw [hs]; decide), up_same]; exact Nat.min_le_right _ _
theorem trY_at {Su : Nat → Bool} {F : Nat → Nat → Nat} {T : Nat → Nat} {b r : Nat} : ∀ n k, trY Su F T b r n k = T k ∨ ∃ y, y < n ∧ k = b + y ∧ Su k = false ∧ trY Su F T b r n k = F r y
  | 0, k => Or.inl rfl
  | n + 1, k => by
    simp only [trY]
    split
    · rcases trY_at (Su := Su) (F := F) (T := T) (b := b) (r := r) n k with h | ⟨y, h1, h2⟩
      · exact Or.inl h
      · exact Or.inr ⟨y, by omega, h2⟩
    · next hs =>
      by_cases e : k = b + n
      · subst e
        rw [up_same]
        rcases Nat.le_total (trY Su F T b r n (b + n)) (F r n) with w | w
        · rw [Nat.min_eq_left w]
          rcases trY_at (Su := Su) (F := F) (T := T) (b := b) (r := r) n (b + n) with h | ⟨y, h1, h2⟩
          · exact Or.inl h
          · exact Or.inr ⟨y, by omega, h2⟩
        · rw [Nat.min_eq_right w]
          exact Or.inr ⟨n, by omega, rfl, by simpa using hs, rfl⟩
      · rw [up_ne _ _ e]
        rcases trY_at (Su := Su) (F := F) (T := T) (b := b) (r := r) n k with h | ⟨y, h1, h2⟩
        · exact Or.inl h
        · exact Or.inr ⟨y, by omega, h2⟩
theorem leY_mono {Su : Nat → Bool} {F : Nat → Nat → Nat} {T : Nat → Nat} {L b r : Nat} : ∀ y, leY Su F T L b r y ≤ L
  | 0 => Nat.le_refl _
  | y + 1 => by
    simp only [leY]; split
    · exact leY_mono y
    · exact Nat.le_trans (Nat.min_le_left _ _) (leY_mono y)
/-- the least is the least of all trials -/
theorem leY_le {Su : Nat → Bool} {F : Nat → Nat → Nat} {T : Nat → Nat} {L b r : Nat} (hL : ∀ k, L ≤ T k) : ∀ n k, leY Su F T L b r n ≤ trY Su F T b r n k
  | 0, k => hL k
  | n + 1, k => by
    by_cases hs : Su (b + n) = true
    · rw [leY_t hs, trY_t hs]; exact leY_le hL n k
    · have hs : Su (b + n) = false := by simpa using hs
      by_cases e : k = b + n
      · subst e; simp only [leY]; rw [if_neg (by rw [hs]; decide)]; exact Nat.min_le_right _ _
      · have h1 : trY Su F T b r (n + 1) k = trY Su F T b r n k := by rw [trY_f hs, up_ne _ _ e]
        rw [h1]; simp only [leY]; rw [if_neg (by rw [hs]; decide)]
        exact Nat.le_trans (Nat.min_le_left _ _) (leY_le hL n k)
theorem leY_at {Su : Nat → Bool} {F : Nat → Nat → Nat} {T : Nat → Nat} {L b r : Nat} (hL : ∀ k, L ≤ T k) : ∀ n, leY Su F T L b r n = L ∨ ∃ y, y < n ∧ Su (b + y) = false ∧ trY Su F T b r n (b + y) = leY Su F T L b r n
  | 0 => Or.inl rfl
  | n + 1 => by
    by_cases hs : Su (b + n) = true
    · rw [leY_t hs, trY_t hs]
      rcases leY_at (Su := Su) (F := F) (r := r) (b := b) hL n with h | ⟨y, h1, h2, h3⟩
      · exact Or.inl h
      · exact Or.inr ⟨y, by omega, h2, h3⟩
    · have hs : Su (b + n) = false := by simpa using hs
      have e1 : leY Su F T L b r (n + 1) = min (leY Su F T L b r n) (trY Su F T b r (n + 1) (b + n)) := by simp only [leY]; rw [if_neg (by rw [hs]; decide)]
      rcases Nat.le_total (trY Su F T b r (n + 1) (b + n)) (leY Su F T L b r n) with w | w
      · rw [e1, Nat.min_eq_right w]; exact Or.inr ⟨n, by omega, hs, rfl⟩
      · rw [e1, Nat.min_eq_left w]
        rcases leY_at (Su := Su) (F := F) (r := r) (b := b) hL n with h | ⟨y, h1, h2, h3⟩
        · exact Or.inl h
        · refine Or.inr ⟨y, by omega, h2, ?_⟩
          rw [trY_f hs, up_ne _ _ (by omega)]; exact h3
theorem trR_le {Su : Nat → Bool} {F : Nat → Nat → Nat} {Pp Ps : Nat → Nat} : ∀ {z r y : Nat}, r < z → y < 11 → Su (kx Pp Ps r y) = false → trR Su F Pp Ps z (kx Pp Ps r y) ≤ F r y
  | 0, r, y, h, _, _ => absurd h (Nat.not_lt_zero r)
  | z + 1, r, y, h, hy, hs => by
    simp only [trR]
    rcases Nat.lt_or_ge r z with w | w
    · exact Nat.le_trans (trY_mono 11 _) (trR_le w hy hs)
    · have : r = z := by omega
      subst this; exact trY_le hy hs
theorem trR_at {Su : Nat → Bool} {F : Nat → Nat → Nat} {Pp Ps : Nat → Nat} : ∀ z k, trR Su F Pp Ps z k = 9000000000000000000 ∨ ∃ r y, r < z ∧ y < 11 ∧ k = kx Pp Ps r y ∧ Su k = false ∧ trR Su F Pp Ps z k = F r y
  | 0, k => Or.inl rfl
  | z + 1, k => by
    simp only [trR]
    rcases trY_at (Su := Su) (F := F) (T := trR Su F Pp Ps z) (b := (5 * Pp z + Ps z) * 11) (r := z) 11 k with h | ⟨y, h1, h2, h3, h4⟩
    · rw [h]
      rcases trR_at (Su := Su) (F := F) (Pp := Pp) (Ps := Ps) z k with g | ⟨r, y, g1, g2⟩
      · exact Or.inl g
      · exact Or.inr ⟨r, y, by omega, g2⟩
    · exact Or.inr ⟨z, y, by omega, h1, h2, h3, h4⟩
theorem leR_le {Su : Nat → Bool} {F : Nat → Nat → Nat} {Pp Ps : Nat → Nat} : ∀ z k, leR Su F Pp Ps z ≤ trR Su F Pp Ps z k
  | 0, _ => Nat.le_refl _
  | z + 1, k => leY_le (leR_le z) 11 k
theorem leR_at {Su : Nat → Bool} {F : Nat → Nat → Nat} {Pp Ps : Nat → Nat} : ∀ z, leR Su F Pp Ps z = 9000000000000000000 ∨ ∃ r y, r < z ∧ y < 11 ∧ Su (kx Pp Ps r y) = false ∧ trR Su F Pp Ps z (kx Pp Ps r y) = leR Su F Pp Ps z
  | 0 => Or.inl rfl
  | z + 1 => by
    rcases leY_at (Su := Su) (F := F) (r := z) (b := (5 * Pp z + Ps z) * 11) (leR_le (Su := Su) (F := F) (Pp := Pp) (Ps := Ps) z) 11 with h | ⟨y, h1, h2, h3⟩
    · have e : leR Su F Pp Ps (z + 1) = leR Su F Pp Ps z := h
      rcases leR_at (Su := Su) (F := F) (Pp := Pp) (Ps := Ps) z with g | ⟨r, y, g1, g2, g3, g4⟩
      · exact Or.inl (e.trans g)
      · refine Or.inr ⟨r, y, by omega, g2, g3, ?_⟩
        have a := leR_le (Su := Su) (F := F) (Pp := Pp) (Ps := Ps) (z + 1) (kx Pp Ps r y)
        have b : trR Su F Pp Ps (z + 1) (kx Pp Ps r y) ≤ trR Su F Pp Ps z (kx Pp Ps r y) := trY_mono 11 _
        omega
    · exact Or.inr ⟨z, y, by omega, h1, h2, h3⟩
