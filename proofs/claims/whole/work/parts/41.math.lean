section
/-! REACH: Warshall's rows and the turns are both the closure of the edges -/
theorem chain_ct {D : Nat → Nat → Bool} {N : Nat} (h1 : ∀ t a, D t a = true → D (t + 1) a = true) (t : Nat) : (∀ a, a < N → D (t + 1) a = D t a) ∨ ctB (D t) N < ctB (D (t + 1)) N := by
  by_cases h : ∃ a, a < N ∧ ¬ D (t + 1) a = D t a
  · obtain ⟨a, ha, hn⟩ := h
    right
    cases e : D t a with
    | true => exact absurd (by rw [h1 t a e, e]) hn
    | false =>
      cases f : D (t + 1) a with
      | false => exact absurd (by rw [e, f]) hn
      | true => exact ctB_lt (h1 t) e f N ha
  · left
    intro a ha
    by_cases q : D (t + 1) a = D t a
    · exact q
    · exact absurd ⟨a, ha, q⟩ h
theorem chain_go {D : Nat → Nat → Bool} {N : Nat} (h1 : ∀ t a, D t a = true → D (t + 1) a = true) : ∀ t, (∃ s, s ≤ t ∧ ∀ a, a < N → D (s + 1) a = D s a) ∨ t + 1 ≤ ctB (D (t + 1)) N
  | 0 => by
    rcases chain_ct (N := N) h1 0 with h | h
    · exact Or.inl ⟨0, Nat.le_refl _, h⟩
    · right; omega
  | t + 1 => by
    rcases chain_go (N := N) h1 t with ⟨s, hs, h⟩ | h
    · exact Or.inl ⟨s, by omega, h⟩
    · rcases chain_ct (N := N) h1 (t + 1) with h2 | h2
      · exact Or.inl ⟨t + 1, Nat.le_refl _, h2⟩
      · right; omega
theorem chain_eq {D : Nat → Nat → Bool} {N : Nat} (h1 : ∀ t a, D t a = true → D (t + 1) a = true) (h2 : ∀ t, (∀ a, a < N → D (t + 1) a = D t a) → ∀ a, a < N → D (t + 1 + 1) a = D (t + 1) a) : ∀ a, a < N → D (N + 1) a = D N a := by
  rcases chain_go (N := N) h1 N with ⟨s, hs, h⟩ | h
  · have : ∀ d a, a < N → D (s + d + 1) a = D (s + d) a := by
      intro d
      induction d with
      | zero => exact h
      | succ d ih => exact h2 (s + d) ih
    have q := this (N - s)
    rw [show s + (N - s) = N from by omega] at q
    exact q
  · have := ctB_le (D (N + 1)) N
    omega
/-- an edge: a rule with the head a leads to the head b -/
def egB (z : Nat) (Hd Hb : Nat → Nat) (a b : Nat) : Bool := anB (fun r => decide (Hd r = a) && (Hb r).testBit b) z
theorem egB_t {z : Nat} {Hd Hb : Nat → Nat} {a b : Nat} : egB z Hd Hb a b = true ↔ ∃ r, r < z ∧ Hd r = a ∧ (Hb r).testBit b = true := by
  unfold egB; rw [anB_t]
  constructor
  · rintro ⟨r, h1, h2⟩
    rw [Bool.and_eq_true, decide_eq_true_eq] at h2
    exact ⟨r, h1, h2.1, h2.2⟩
  · rintro ⟨r, h1, h2, h3⟩
    exact ⟨r, h1, by rw [h3, decide_eq_true h2]; rfl⟩
/-- from a to x in one step or more, t at most -/
def dsB (e : Nat → Nat → Bool) (x : Nat) : Nat → Nat → Bool
  | 0, _ => false
  | t + 1, a => dsB e x t a || (e a x || anB (fun k => e a k && dsB e x t k) 25)
theorem dsB_s {e : Nat → Nat → Bool} {x t a : Nat} : dsB e x (t + 1) a = true ↔ dsB e x t a = true ∨ e a x = true ∨ ∃ k, k < 25 ∧ e a k = true ∧ dsB e x t k = true := by
  simp only [dsB, Bool.or_eq_true, anB_t, Bool.and_eq_true]
theorem dsB_up {e : Nat → Nat → Bool} {x : Nat} (t a : Nat) (h : dsB e x t a = true) : dsB e x (t + 1) a = true := dsB_s.mpr (Or.inl h)
theorem dsB_st {e : Nat → Nat → Bool} {x : Nat} (t : Nat) (h : ∀ a, a < 25 → dsB e x (t + 1) a = dsB e x t a) (a : Nat) : dsB e x (t + 1 + 1) a = dsB e x (t + 1) a := by
  rw [Bool.eq_iff_iff]
  constructor
  · intro q0
    rcases dsB_s.mp q0 with q | q | ⟨k, hk, q1, q2⟩
    · exact q
    · exact dsB_s.mpr (Or.inr (Or.inl q))
    · rw [h k hk] at q2; exact dsB_s.mpr (Or.inr (Or.inr ⟨k, hk, q1, q2⟩))
  · intro q; exact dsB_s.mpr (Or.inl q)
def rcB (e : Nat → Nat → Bool) (a x : Nat) : Bool := dsB e x 25 a
section RC
variable {e : Nat → Nat → Bool}
theorem dsB_le {x a t : Nat} (h : dsB e x t a = true) : ∀ d, dsB e x (t + d) a = true
  | 0 => h
  | d + 1 => dsB_up (t + d) a (dsB_le h d)
theorem rc_26 {a x : Nat} (ha : a < 25) : dsB e x 26 a = rcB e a x := chain_eq (N := 25) (D := dsB e x) (dsB_up (e := e) (x := x)) (fun t h a _ => dsB_st t h a) a ha
theorem rc_e {a x : Nat} (h : e a x = true) : rcB e a x = true := dsB_le (t := 1) (dsB_s.mpr (Or.inr (Or.inl h))) 24
theorem rc_s {a k x : Nat} (ha : a < 25) (hk : k < 25) (h : e a k = true) (h2 : rcB e k x = true) : rcB e a x = true := by
  rw [← rc_26 ha]; exact dsB_s.mpr (Or.inr (Or.inr ⟨k, hk, h, h2⟩))
theorem ds_ind {x : Nat} {P : Nat → Prop} (h1 : ∀ a, e a x = true → P a) (h2 : ∀ a k, e a k = true → P k → P a) : ∀ t a, dsB e x t a = true → P a
  | 0, _, h => by simp [dsB] at h
  | t + 1, a, h => by
    rcases dsB_s.mp h with q | q | ⟨k, _, q1, q2⟩
    · exact ds_ind h1 h2 t a q
    · exact h1 a q
    · exact h2 a k q1 (ds_ind h1 h2 t k q2)
theorem rc_ind {a x : Nat} {P : Nat → Prop} (h : rcB e a x = true) (h1 : ∀ a, e a x = true → P a) (h2 : ∀ a k, e a k = true → P k → P a) : P a := ds_ind h1 h2 25 a h
theorem rc_tr (hE : ∀ a b, e a b = true → a < 25 ∧ b < 25) {a b c : Nat} (h1 : rcB e a b = true) (h2 : rcB e b c = true) : rcB e a c = true :=
  rc_ind (P := fun a => rcB e a c = true) h1 (fun a h => rc_s (hE a b h).1 (hE a b h).2 h h2) (fun a k h q => rc_s (hE a k h).1 (hE a k h).2 h q)
theorem rc_lt (hE : ∀ a b, e a b = true → a < 25 ∧ b < 25) {a x : Nat} (h : rcB e a x = true) : a < 25 ∧ x < 25 :=
  rc_ind (P := fun a => a < 25 ∧ x < 25) h (fun a h => hE a x h) (fun a k h q => ⟨(hE a k h).1, q.2⟩)
end RC
/-! Warshall -/
theorem wsQ_cl (A : Nat → Nat) (m : Nat) : ∀ h a, wsQ A m h a = if a < h ∧ (A a).testBit m = true then A a ||| A m else A a
  | 0, a => by simp [wsQ]
  | h + 1, a => by
    have e1 : wsQ A m h h = A h := by rw [wsQ_cl A m h h, if_neg (by omega)]
    have e2 : wsQ A m h m = A m := by rw [wsQ_cl A m h m]; split <;> simp
    simp only [wsQ]
    rw [e1, e2]
    by_cases q : (A h).testBit m = true
    · rw [if_pos q]
      by_cases w : a = h
      · subst w; rw [up_same, if_pos ⟨by omega, q⟩]
      · rw [up_ne _ _ w, wsQ_cl A m h a]
        have : (a < h + 1) ↔ (a < h) := by omega
        simp only [this]
    · rw [if_neg q, wsQ_cl A m h a]
      by_cases w : a = h
      · subst w; rw [if_neg (by omega), if_neg (fun x => q x.2)]
      · have : (a < h + 1) ↔ (a < h) := by omega
        simp only [this]
theorem wsM_b (A : Nat → Nat) (m a b : Nat) : (wsM A (m + 1) a).testBit b = true ↔ (wsM A m a).testBit b = true ∨ (a < 25 ∧ (wsM A m a).testBit m = true ∧ (wsM A m m).testBit b = true) := by
  simp only [wsM]
  rw [wsQ_cl]
  by_cases q : a < 25 ∧ (wsM A m a).testBit m = true
  · rw [if_pos q, Nat.testBit_or, Bool.or_eq_true]
    constructor
    · rintro (w | w)
      · exact Or.inl w
      · exact Or.inr ⟨q.1, q.2, w⟩
    · rintro (w | w)
      · exact Or.inl w
      · exact Or.inr w.2.2
  · rw [if_neg q]
    exact ⟨Or.inl, fun w => w.elim id (fun w => absurd ⟨w.1, w.2.1⟩ q)⟩
theorem wsM_tr (A : Nat → Nat) : ∀ m, m ≤ 25 → ∀ a b i, a < 25 → i < m → (wsM A m a).testBit i = true → (wsM A m i).testBit b = true → (wsM A m a).testBit b = true
  | 0, _, a, b, i, _, hi, _, _ => absurd hi (Nat.not_lt_zero i)
  | m + 1, hm, a, b, i, ha, hi, h1, h2 => by
    have ih := wsM_tr A m (by omega)
    rw [wsM_b] at h1 h2 ⊢
    rcases Nat.lt_or_ge i m with w | w
    · rcases h1 with h1 | ⟨_, p1, p2⟩
      · rcases h2 with h2 | ⟨_, r1, r2⟩
        · exact Or.inl (ih a b i ha w h1 h2)
        · exact Or.inr ⟨ha, ih a m i ha w h1 r1, r2⟩
      · rcases h2 with h2 | ⟨_, r1, r2⟩
        · exact Or.inr ⟨ha, p1, ih m b i (by omega) w p2 h2⟩
        · exact Or.inr ⟨ha, p1, r2⟩
    · have : i = m := by omega
      subst this
      have q1 : (wsM A i a).testBit i = true := h1.elim id (fun q => q.2.1)
      have q2 : (wsM A i i).testBit b = true := h2.elim id (fun q => q.2.2)
      exact Or.inr ⟨ha, q1, q2⟩
theorem wsM_ge (A : Nat → Nat) {a b : Nat} (h : (A a).testBit b = true) : ∀ m, (wsM A m a).testBit b = true
  | 0 => h
  | m + 1 => (wsM_b A m a b).mpr (Or.inl (wsM_ge A h m))
theorem wsM_so {A : Nat → Nat} {R : Nat → Nat → Prop} (h : ∀ a b, (A a).testBit b = true → R a b) (hR : ∀ a b c, R a b → R b c → R a c) : ∀ m a b, (wsM A m a).testBit b = true → R a b
  | 0, a, b, q => h a b q
  | m + 1, a, b, q => by
    rcases (wsM_b A m a b).mp q with w | ⟨_, w1, w2⟩
    · exact wsM_so h hR m a b w
    · exact hR a m b (wsM_so h hR m a m w1) (wsM_so h hR m m b w2)
theorem wsM_rc {A : Nat → Nat} {e : Nat → Nat → Bool} (hE : ∀ a b, e a b = true → a < 25 ∧ b < 25) (hA : ∀ a b, (A a).testBit b = e a b) (a b : Nat) : (wsM A 25 a).testBit b = rcB e a b := by
  rw [Bool.eq_iff_iff]
  constructor
  · exact wsM_so (R := fun a b => rcB e a b = true) (fun a b q => rc_e (by rw [← hA]; exact q)) (fun a b c => rc_tr hE) 25 a b
  · intro h
    refine rc_ind (P := fun a => (wsM A 25 a).testBit b = true) h (fun a q => wsM_ge A (by rw [hA]; exact q) 25) (fun a k q w => ?_)
    exact wsM_tr A 25 (Nat.le_refl _) a b k (hE a k q).1 (hE a k q).2 (wsM_ge A (by rw [hA]; exact q) 25) w
/-! the turns -/
theorem frK_so {A : Nat → Nat} {h s : Nat} {R : Nat → Nat → Prop} (hA : ∀ a b, (A a).testBit b = true → R a b) (hs : ∀ b, s.testBit b = true → R h b) (hR : ∀ a b c, R a b → R b c → R a c) : ∀ k a b, (frK A h s k a).testBit b = true → R a b
  | 0, a, b, q => by
    simp only [frK, up] at q
    split at q
    · next w => subst w; rw [Nat.testBit_or, Bool.or_eq_true] at q; exact q.elim (hA _ _) (hs _)
    · exact hA a b q
  | k + 1, a, b, q => by
    simp only [frK, up] at q
    split at q
    · next w =>
      subst w
      rw [Nat.testBit_or, Bool.or_eq_true] at q
      rcases q with q | q
      · exact frK_so hA hs hR k _ b q
      · split at q
        · next v => exact hR _ k b (hs k v) (frK_so hA hs hR k k b q)
        · simp at q
    · exact frK_so hA hs hR k a b q
theorem frK_ge {A : Nat → Nat} {h s a b : Nat} (hA : (A a).testBit b = true) : ∀ k, (frK A h s k a).testBit b = true
  | 0 => by
    simp only [frK, up]; split
    · next w => subst w; rw [Nat.testBit_or, hA]; rfl
    · exact hA
  | k + 1 => by
    have ih := frK_ge (h := h) (s := s) hA k
    simp only [frK, up]; split
    · next w => subst w; rw [Nat.testBit_or, ih]; rfl
    · exact ih
theorem frK_s {A : Nat → Nat} {h s b : Nat} (hs : s.testBit b = true) : ∀ k, (frK A h s k h).testBit b = true
  | 0 => by simp only [frK, up_same]; rw [Nat.testBit_or, hs, Bool.or_true]
  | k + 1 => by simp only [frK, up_same]; rw [Nat.testBit_or, frK_s hs k, Bool.true_or]
theorem frK_k {A : Nat → Nat} {h s b i : Nat} (hs : s.testBit i = true) (hA : (A i).testBit b = true) : ∀ k, i < k → (frK A h s k h).testBit b = true
  | 0, hi => absurd hi (Nat.not_lt_zero i)
  | k + 1, hi => by
    simp only [frK, up_same]
    rw [Nat.testBit_or, Bool.or_eq_true]
    rcases Nat.lt_or_ge i k with w | w
    · exact Or.inl (frK_k hs hA k w)
    · have : i = k := by omega
      subst this
      right; rw [if_pos hs]; exact frK_ge hA i
section FR
variable {Hb Pp Ps : Nat → Nat}
theorem frR_so {R : Nat → Nat → Prop} (hR : ∀ a b c, R a b → R b c → R a c) {A : Nat → Nat} (hA : ∀ a b, (A a).testBit b = true → R a b) {z : Nat} (hs : ∀ r, r < z → ∀ b, (Hb r).testBit b = true → R (5 * Pp r + Ps r) b) : ∀ r, r ≤ z → ∀ a b, (frR Hb Pp Ps A r a).testBit b = true → R a b
  | 0, _ => hA
  | r + 1, h => frK_so (frR_so hR hA hs r (by omega)) (hs r (by omega)) hR 25
theorem frR_ge {A : Nat → Nat} {a b : Nat} (hA : (A a).testBit b = true) : ∀ r, (frR Hb Pp Ps A r a).testBit b = true
  | 0 => hA
  | r + 1 => frK_ge (frR_ge hA r) 25
theorem frR_up {A : Nat → Nat} {a b r : Nat} (h : (frR Hb Pp Ps A r a).testBit b = true) : ∀ d, (frR Hb Pp Ps A (r + d) a).testBit b = true
  | 0 => h
  | d + 1 => frK_ge (frR_up h d) 25
theorem frR_s {A : Nat → Nat} {b r z : Nat} (hr : r < z) (hs : (Hb r).testBit b = true) : (frR Hb Pp Ps A z (5 * Pp r + Ps r)).testBit b = true := by
  have := frR_up (A := A) (r := r + 1) (frK_s (A := frR Hb Pp Ps A r) (h := 5 * Pp r + Ps r) hs 25) (z - (r + 1))
  rw [show r + 1 + (z - (r + 1)) = z from by omega] at this
  exact this
theorem frR_k {A : Nat → Nat} {b r z k : Nat} (hr : r < z) (hk : k < 25) (hs : (Hb r).testBit k = true) (hA : (A k).testBit b = true) : (frR Hb Pp Ps A z (5 * Pp r + Ps r)).testBit b = true := by
  have := frR_up (A := A) (r := r + 1) (frK_k (A := frR Hb Pp Ps A r) (h := 5 * Pp r + Ps r) hs (frR_ge hA r) 25 hk) (z - (r + 1))
  rw [show r + 1 + (z - (r + 1)) = z from by omega] at this
  exact this
theorem frT_so {z : Nat} {R : Nat → Nat → Prop} (hR : ∀ a b c, R a b → R b c → R a c) (hs : ∀ r, r < z → ∀ b, (Hb r).testBit b = true → R (5 * Pp r + Ps r) b) : ∀ t a b, (frT z Hb Pp Ps t a).testBit b = true → R a b
  | 0, a, b, q => by simp [frT] at q
  | t + 1, a, b, q => frR_so hR (frT_so hR hs t) hs z (Nat.le_refl _) a b q
theorem frT_ge {z x : Nat} : ∀ t a, dsB (egB z (fun r => 5 * Pp r + Ps r) Hb) x t a = true → (frT z Hb Pp Ps t a).testBit x = true
  | 0, a, q => by simp [dsB] at q
  | t + 1, a, q => by
    simp only [frT]
    rcases dsB_s.mp q with w | w | ⟨k, hk, w1, w2⟩
    · exact frR_ge (frT_ge t a w) z
    · obtain ⟨r, hr, rfl, h⟩ := egB_t.mp w
      exact frR_s hr h
    · obtain ⟨r, hr, rfl, h⟩ := egB_t.mp w1
      exact frR_k hr hk h (frT_ge t k w2)
theorem frT_rc {z : Nat} (hE : ∀ a b, egB z (fun r => 5 * Pp r + Ps r) Hb a b = true → a < 25 ∧ b < 25) (a b : Nat) : (frT z Hb Pp Ps 26 a).testBit b = rcB (egB z (fun r => 5 * Pp r + Ps r) Hb) a b := by
  rw [Bool.eq_iff_iff]
  constructor
  · exact frT_so (R := fun a b => rcB (egB z (fun r => 5 * Pp r + Ps r) Hb) a b = true) (fun a b c => rc_tr hE) (fun r hr b h => rc_e (egB_t.mpr ⟨r, hr, rfl, h⟩)) 26 a b
  · intro h; exact frT_ge 26 a (dsB_up 25 a h)
end FR
theorem agR_bit {Ex Hd To Tp Bl Hb : Nat → Nat} (h0 : ∀ r, Tp r = 0 → Hb r = 0) (h1 : ∀ r, ¬ Tp r = 0 → 1 * 2 ^ (To r * 5 + (Tp r - 1)) ||| unF Ex To Tp Bl r = Hb r) (a b : Nat) : ∀ z, (agR Ex Hd To Tp Bl z a).testBit b = egB z Hd Hb a b
  | 0 => by simp [agR, egB, anB]
  | z + 1 => by
    have ih := agR_bit (Hd := Hd) h0 h1 a b z
    simp only [egB, anB] at ih ⊢
    rw [← ih]
    simp only [agR]
    by_cases e : Tp z = 0
    · rw [if_pos e, h0 z e]; simp
    · rw [if_neg e, h1 z e]
      by_cases w : Hd z = a
      · subst w; rw [up_same, Nat.testBit_or]; simp
      · rw [up_ne _ _ (Ne.symm w), decide_eq_false w]; simp
section EN
variable {n z : Nat} {Cv Co Pp Ps Pq Pa Pb : Nat → Nat}
theorem hb_0 {r : Nat} (h : Pa r = 0) : hbF n Co Pq Pa Pb r = 0 := by unfold hbF; rw [if_pos h]
theorem eg_lt (hB : RB Pp Ps Pq Pa Pb) (hn : n ≤ 5) (a b : Nat) (h : egB z (fun r => 5 * Pp r + Ps r) (hbF n Co Pq Pa Pb) a b = true) : a < 25 ∧ b < 25 := by
  obtain ⟨r, _, e, q⟩ := egB_t.mp h
  have hr := hB r
  refine ⟨by omega, ?_⟩
  rcases Nat.lt_or_ge b 25 with w | w
  · exact w
  · rw [Nat.testBit_lt_two_pow (Nat.lt_of_lt_of_le (hbF_lt hn hr.2.2.1 hr.2.2.2.1 hr.2.2.2.2) (Nat.pow_le_pow_right (by decide) w))] at q
    cases q
theorem hd_eq (Pp Ps : Nat → Nat) : (fun r => Pp r * 5 + Ps r) = fun r => 5 * Pp r + Ps r := by
  funext r; omega
abbrev eE' (n z : Nat) (Co Pp Ps Pq Pa Pb : Nat → Nat) : Nat → Nat → Bool := egB z (fun r => 5 * Pp r + Ps r) (hbF n Co Pq Pa Pb)
theorem ah_rc (hP : PQ n Cv Co) (hB : RB Pp Ps Pq Pa Pb) (a b : Nat) : (wsM (agR (exF Cv) (fun r => Pp r * 5 + Ps r) Pq Pa Pb z) 25 a).testBit b = rcB (eE' n z Co Pp Ps Pq Pa Pb) a b := by
  rw [hd_eq]
  exact wsM_rc (eg_lt hB hP.2.2) (fun a b => agR_bit (fun r h => hb_0 h) (fun r h => un_hb hP (hB r).2.2.1 (hB r).2.2.2.1 (hB r).2.2.2.2 h) a b z) a b
theorem cirQ_bit (A : Nat → Nat) (k : Nat) : ∀ h, (cirQ A h).testBit k = (decide (k < h) && (A k).testBit k)
  | 0 => by simp [cirQ]
  | h + 1 => by
    simp only [cirQ]
    rw [Nat.testBit_or, cirQ_bit A k h, Nat.testBit_and, pow_bit]
    by_cases w : k = h
    · subst w; simp
    · have e : (k < h + 1) ↔ (k < h) := by omega
      simp only [e]
      rw [decide_eq_false (show ¬ h = k from fun q => w q.symm)]; simp
theorem leQ_bit (A : Nat → Nat) (w k : Nat) : ∀ h, (leQ A w h).testBit k = (decide (k < h) && decide (¬ (A k ||| 1 * 2 ^ k) &&& w = 0))
  | 0 => by simp [leQ]
  | h + 1 => by
    simp only [leQ]
    by_cases v : k = h
    · subst v
      by_cases q : (A k ||| 1 * 2 ^ k) &&& w = 0
      · rw [if_pos q, leQ_bit A w k k, decide_eq_false (show ¬ ¬ (A k ||| 1 * 2 ^ k) &&& w = 0 from fun x => x q)]; simp
      · rw [if_neg q, Nat.testBit_or, pow_bit, decide_eq_true (show ¬ (A k ||| 1 * 2 ^ k) &&& w = 0 from q)]; simp
    · have e : (k < h + 1) ↔ (k < h) := by omega
      simp only [e]
      split
      · exact leQ_bit A w k h
      · rw [Nat.testBit_or, leQ_bit A w k h, pow_bit, decide_eq_false (show ¬ h = k from fun q => v q.symm), Bool.or_false]
theorem le_t {A : Nat → Nat} {w k : Nat} (hw : w < 2 ^ 25) : (leQ A w 25).testBit k = true ↔ k < 25 ∧ ∃ i, i < 25 ∧ ((A k).testBit i = true ∨ k = i) ∧ w.testBit i = true := by
  rw [leQ_bit, and_ne hw, Bool.and_eq_true, decide_eq_true_eq, anB_t]
  simp only [Nat.testBit_or, pow_bit, Bool.and_eq_true, Bool.or_eq_true, decide_eq_true_eq]
theorem feK_t {A : Nat → Nat} {h : Nat} : ∀ k, feK A h k = true ↔ (A h).testBit h = true ∨ ∃ i, i < k ∧ (A h).testBit i = true ∧ (A i).testBit i = true
  | 0 => by
    simp only [feK]
    exact ⟨Or.inl, fun q => q.elim id (fun ⟨i, w, _⟩ => absurd w (Nat.not_lt_zero i))⟩
  | k + 1 => by
    simp only [feK, Bool.or_eq_true, Bool.and_eq_true]; rw [feK_t k]
    constructor
    · rintro ((q | ⟨i, q1, q2⟩) | q)
      · exact Or.inl q
      · exact Or.inr ⟨i, by omega, q2⟩
      · exact Or.inr ⟨k, by omega, q⟩
    · rintro (q | ⟨i, q1, q2⟩)
      · exact Or.inl (Or.inl q)
      · rcases Nat.lt_or_ge i k with w | w
        · exact Or.inl (Or.inr ⟨i, w, q2⟩)
        · have : i = k := by omega
          subst this; exact Or.inr q2
theorem ci_fe (hP : PQ n Cv Co) (hB : RB Pp Ps Pq Pa Pb) {h : Nat} (hh : h < 25) : (ciF z (fun r => Pp r * 5 + Ps r) Pq Pa Pb Cv).testBit h = feK (frT z (hbF n Co Pq Pa Pb) Pp Ps 26) h 25 := by
  have a1 := ah_rc (z := z) hP hB
  have a2 := frT_rc (z := z) (Hb := hbF n Co Pq Pa Pb) (Pp := Pp) (Ps := Ps) (eg_lt hB hP.2.2)
  rw [Bool.eq_iff_iff, feK_t]
  unfold ciF
  rw [le_t (cirQ_lt (wsM_lt (agR_lt (fun r => by have := hB r; omega) z) 25) 25)]
  simp only [cirQ_bit, a1, a2, Bool.and_eq_true, decide_eq_true_eq]
  constructor
  · rintro ⟨_, i, hi, q | q, _, w⟩
    · exact Or.inr ⟨i, hi, q, w⟩
    · subst q; exact Or.inl w
  · rintro (q | ⟨i, hi, q1, q2⟩)
    · exact ⟨hh, h, hh, Or.inr rfl, hh, q⟩
    · exact ⟨hh, i, hi, Or.inl q1, hi, q2⟩
theorem hs_ne {b s w : Nat} (hs : s < 5) (hw : w < 2 ^ 25) : ¬ hsQ b s 5 &&& w = 0 ↔ ∃ p, p < 5 ∧ b.testBit p = true ∧ w.testBit (5 * p + s) = true := by
  have := and_ne (a := hsQ b s 5) hw
  have e : (¬ hsQ b s 5 &&& w = 0) ↔ anB (fun x => (hsQ b s 5).testBit x && w.testBit x) 25 = true := by rw [← this, decide_eq_true_eq]
  rw [e, anB_t]
  simp only [hsQ_bit b s _ hs, Bool.and_eq_true, decide_eq_true_eq]
  constructor
  · rintro ⟨i, hi, ⟨q1, q2, q3⟩, q4⟩
    exact ⟨i / 5, q2, q3, by rw [show 5 * (i / 5) + s = i from by omega]; exact q4⟩
  · rintro ⟨p, hp, q1, q2⟩
    exact ⟨5 * p + s, by omega, ⟨by omega, by omega, by rw [show (5 * p + s) / 5 = p from by omega]; exact q1⟩, q2⟩
theorem enP_t {A : Nat → Nat} {b s : Nat} {v : Bool} : ∀ p, enP A b s v p = (v || anB (fun p => b.testBit p && feK A (5 * p + s) 25) p)
  | 0 => by simp [enP, anB]
  | p + 1 => by simp only [enP, anB]; rw [enP_t p, Bool.or_assoc]
theorem enF_gn (hP : PQ n Cv Co) (hB : RB Pp Ps Pq Pa Pb) {Sg : Nat → Nat} (hS : ∀ i, Sg i < 5) : ∀ a b v, ltn b n → enF n (frT z (hbF n Co Pq Pa Pb) Pp Ps 26) Co Sg a b v = (v || gnF (ciF z (fun r => Pp r * 5 + Ps r) Pq Pa Pb Cv) (exF Cv) Sg a b)
  | 0, b, v, _ => by simp [enF, gnF]
  | a + 1, b, v, hb => by
    obtain ⟨e1, e2⟩ := ae_po hP (s := Sg a) hb
    have hci : ciF z (fun r => Pp r * 5 + Ps r) Pq Pa Pb Cv < 2 ^ 25 := leQ_lt _ _ 25 (Nat.le_refl _)
    have hn := hP.2.2
    simp only [enF, gnF]
    rw [enF_gn hP hB hS a _ _ e2, e1, enP_t, Bool.or_assoc]
    congr 1
    have key : anB (fun p => b.testBit p && feK (frT z (hbF n Co Pq Pa Pb) Pp Ps 26) (5 * p + Sg a) 25) n = true ↔ ¬ hsQ b (Sg a) 5 &&& ciF z (fun r => Pp r * 5 + Ps r) Pq Pa Pb Cv = 0 := by
      have h5 := hS a
      rw [anB_t, hs_ne h5 hci]
      constructor
      · rintro ⟨p, hp, q⟩
        rw [Bool.and_eq_true] at q
        refine ⟨p, by omega, q.1, ?_⟩
        rw [ci_fe hP hB (by omega)]; exact q.2
      · rintro ⟨p, hp, q1, q2⟩
        have hpn : p < n := by
          rcases Nat.lt_or_ge p n with w | w
          · exact w
          · rw [hb p w] at q1; cases q1
        refine ⟨p, hpn, ?_⟩
        rw [ci_fe hP hB (by omega)] at q2
        rw [q1, q2]; rfl
    by_cases q : hsQ b (Sg a) 5 &&& ciF z (fun r => Pp r * 5 + Ps r) Pq Pa Pb Cv = 0
    · rw [if_pos q]
      have : anB (fun p => b.testBit p && feK (frT z (hbF n Co Pq Pa Pb) Pp Ps 26) (5 * p + Sg a) 25) n = false := by
        rw [Bool.eq_false_iff]; exact fun w => key.mp w q
      rw [this, Bool.false_or]
    · rw [if_neg q, key.mpr q, Bool.true_or]
theorem pow_ltn {c n : Nat} (h : c < n) : ltn (1 * 2 ^ c) n := by
  intro i hi; rw [pow_bit, decide_eq_false (by omega)]
/-- ENDLESS -/
theorem endless_eq (hP : PQ n Cv Co) (hB : RB Pp Ps Pq Pa Pb) {Sg : Nat → Nat} (hS : ∀ i, Sg i < 5) {c : Nat} (hc : c < n) (h : Nat) : gnF (ciF z (fun r => Pp r * 5 + Ps r) Pq Pa Pb Cv) (exF Cv) Sg h (1 * 2 ^ c) = enF n (frT z (hbF n Co Pq Pa Pb) Pp Ps 26) Co Sg h (1 * 2 ^ c) false := by
  rw [enF_gn hP hB hS h _ _ (pow_ltn hc), Bool.false_or]
end EN
end
