/-! FAR: rests of a stack -/
def mnF (f : Nat → Nat) : Nat → Nat
  | 0 => 9000000000000000000
  | x + 1 => min (mnF f x) (f x)
theorem mnF_le {f : Nat → Nat} {v : Nat} : ∀ n, v ≤ mnF f n ↔ v ≤ 9000000000000000000 ∧ ∀ x, x < n → v ≤ f x
  | 0 => ⟨fun h => ⟨h, fun x hx => absurd hx (Nat.not_lt_zero x)⟩, fun h => h.1⟩
  | n + 1 => by
    simp only [mnF, Nat.le_min, mnF_le n]
    constructor
    · rintro ⟨⟨h1, h2⟩, h3⟩
      refine ⟨h1, fun x hx => ?_⟩
      rcases Nat.lt_or_ge x n with w | w
      · exact h2 x w
      · have : x = n := by omega
        subst this; exact h3
    · rintro ⟨h1, h2⟩
      exact ⟨⟨h1, fun x hx => h2 x (by omega)⟩, h2 n (by omega)⟩
theorem eq_le {a b : Nat} (h : ∀ v, v ≤ a ↔ v ≤ b) : a = b := Nat.le_antisymm ((h a).mp (Nat.le_refl _)) ((h b).mpr (Nat.le_refl _))
theorem mnF_at {f : Nat → Nat} {n x : Nat} (h : x < n) : mnF f n ≤ f x := ((mnF_le n).mp (Nat.le_refl _)).2 x h
theorem mnF_ok {f : Nat → Nat} : ∀ n, (∀ x, x < n → okv (f x)) → okv (mnF f n)
  | 0, _ => Or.inr rfl
  | n + 1, h => min_okv (mnF_ok n (fun x hx => h x (by omega))) (h n (by omega))
theorem mnF_ex {f : Nat → Nat} : ∀ n, mnF f n = 9000000000000000000 ∨ ∃ x, x < n ∧ mnF f n = f x
  | 0 => Or.inl rfl
  | n + 1 => by
    simp only [mnF]
    rcases Nat.le_total (mnF f n) (f n) with w | w
    · rw [Nat.min_eq_left w]
      rcases mnF_ex (f := f) n with h | ⟨x, hx, h⟩
      · exact Or.inl h
      · exact Or.inr ⟨x, by omega, h⟩
    · rw [Nat.min_eq_right w]; exact Or.inr ⟨n, by omega, rfl⟩
theorem mnF_congr {f g : Nat → Nat} : ∀ n, (∀ x, x < n → f x = g x) → mnF f n = mnF g n
  | 0, _ => rfl
  | n + 1, h => by simp only [mnF]; rw [mnF_congr n (fun x hx => h x (by omega)), h n (by omega)]
theorem sm_min {c a b : Nat} (hc : okv c) (ha : okv a) (hb : okv b) : sm c (min a b) = min (sm c a) (sm c b) := by
  rcases Nat.le_total a b with w | w
  · rw [Nat.min_eq_left w, Nat.min_eq_left (sm_mono (Nat.le_refl _) w hc hb)]
  · rw [Nat.min_eq_right w, Nat.min_eq_right (sm_mono (Nat.le_refl _) w hc ha)]
theorem sm_mn {c : Nat} {f : Nat → Nat} (hc : okv c) : ∀ n, (∀ x, x < n → okv (f x)) → sm c (mnF f n) = mnF (fun x => sm c (f x)) n
  | 0, _ => sm_inf (Or.inr rfl)
  | n + 1, h => by
    have hf : ∀ x, x < n → okv (f x) := fun x hx => h x (by omega)
    simp only [mnF]
    rw [sm_min hc (mnF_ok n hf) (h n (by omega)), sm_mn hc n hf]
theorem mn_swap {g : Nat → Nat → Nat} (n m : Nat) : mnF (fun x => mnF (fun y => g x y) m) n = mnF (fun y => mnF (fun x => g x y) n) m := by
  apply eq_le; intro v
  simp only [mnF_le]
  constructor
  · rintro ⟨h1, h2⟩
    exact ⟨h1, fun y hy => ⟨h1, fun x hx => (h2 x hx).2 y hy⟩⟩
  · rintro ⟨h1, h2⟩
    exact ⟨h1, fun x hx => ⟨h1, fun y hy => (h2 y hy).2 x hx⟩⟩
theorem brL_mn (Lx : Nat → Bool) (Co : Nat → Nat) (q a b y : Nat) : ∀ x, brL Lx Co q a b y x = mnF (fun x => sm (rdF Lx Co q a x) (rdF Lx Co x b y)) x
  | 0 => rfl
  | x + 1 => by simp only [brL, mnF]; rw [brL_mn]
theorem rsY_mn (Lx : Nat → Bool) (Co Sg T : Nat → Nat) (x i : Nat) : ∀ y, rsY Lx Co Sg T x i y = mnF (fun y => sm (rdF Lx Co x (Sg i) y) (T (11 * i + y))) y
  | 0 => rfl
  | y + 1 => by simp only [rsY, mnF]; rw [rsY_mn]
theorem nxY_mn (F : Nat → Nat → Nat) (Re : Nat → Nat) (r b : Nat) : ∀ y, nxY F Re r b y = mnF (fun y => sm (F r y) (Re (b + y))) y
  | 0 => rfl
  | y + 1 => by simp only [nxY, mnF]; rw [nxY_mn]
theorem prune {a b c : Nat} (h : b ≤ c) : (if b < a then min a c else a) = min a c := by
  split
  · rfl
  · rw [Nat.min_eq_left (by omega)]
theorem acF_mn (Hp Kc Rw : Nat → Nat) (p s h : Nat) (hK : okf Kc) (hR : okf Rw) : ∀ x, acF Hp Kc Rw p s h x = mnF (fun x => sm (thF Hp Kc p s x) (Rw (h * 11 + x))) x
  | 0 => rfl
  | x + 1 => by
    simp only [acF, mnF]
    rw [prune (sm_ge (thF_ok hK p s x) (hR _)).2, acF_mn Hp Kc Rw p s h hK hR x]
theorem afP_mn (Hp Kc Rw : Nat → Nat) (q a b h : Nat) (hK : okf Kc) : ∀ x, afP Hp Kc Rw q a b h x = mnF (fun x => sm (thF Hp Kc q a x) (acF Hp Kc Rw x b h 11)) x
  | 0 => rfl
  | x + 1 => by
    simp only [afP, mnF]
    rw [prune (sm_ge (thF_ok hK q a x) (acF_ok _ _ _ _ _ _ _)).1, afP_mn Hp Kc Rw q a b h hK x]
/-- the rest of row i at place x -/
def RR (Lx : Nat → Bool) (Co : Nat → Nat) (La : Nat → Bool) (j : Nat) (Sg : Nat → Nat) : Nat → Nat → Nat
  | 0, x => laF La j x
  | i + 1, x => mnF (fun y => sm (rdF Lx Co x (Sg i) y) (RR Lx Co La j Sg i y)) 11
theorem RR_ok (Lx : Nat → Bool) (Co : Nat → Nat) (La : Nat → Bool) (j : Nat) (Sg : Nat → Nat) : ∀ i x, okv (RR Lx Co La j Sg i x)
  | 0, x => laF_ok La j x
  | i + 1, _ => mnF_ok 11 (fun _ _ => sm_okv _ _)
theorem RR_congr {Lx : Nat → Bool} {Co : Nat → Nat} {La : Nat → Bool} {j : Nat} {Sg S' : Nat → Nat} : ∀ i, (∀ k, k < i → Sg k = S' k) → ∀ x, RR Lx Co La j Sg i x = RR Lx Co La j S' i x
  | 0, _, _ => rfl
  | i + 1, h, x => by
    simp only [RR]
    rw [h i (by omega)]
    exact mnF_congr 11 (fun y _ => by rw [RR_congr i (fun k hk => h k (by omega)) y])
section FAR
variable {Lx La : Nat → Bool} {Co Sg : Nat → Nat} {j : Nat}
theorem rsX_RR {T : Nat → Nat} {i : Nat} (hT : ∀ i', i' ≤ i → ∀ x, x < 11 → T (11 * i' + x) = RR Lx Co La j Sg i' x) : ∀ x, x ≤ 11 → (∀ i', i' ≤ i → ∀ y, y < 11 → rsX Lx Co Sg T i x (11 * i' + y) = RR Lx Co La j Sg i' y) ∧ (∀ y, y < x → rsX Lx Co Sg T i x (11 * (i + 1) + y) = RR Lx Co La j Sg (i + 1) y)
  | 0, _ => ⟨hT, fun y hy => absurd hy (Nat.not_lt_zero y)⟩
  | x + 1, hx => by
    have ih := rsX_RR hT x (by omega)
    simp only [rsX]
    refine ⟨fun i' hi y hy => ?_, fun y hy => ?_⟩
    · rw [up_ne _ _ (by omega)]; exact ih.1 i' hi y hy
    · by_cases e : y = x
      · subst e; rw [up_same, rsY_mn]
        simp only [RR]
        exact mnF_congr 11 (fun y' hy' => by rw [ih.1 i (Nat.le_refl _) y' hy'])
      · rw [up_ne _ _ (by omega)]; exact ih.2 y (by omega)
theorem rsI_RR {T : Nat → Nat} (hT : ∀ x, x < 11 → T x = laF La j x) : ∀ h i, i ≤ h → ∀ x, x < 11 → rsI Lx Co Sg T h (11 * i + x) = RR Lx Co La j Sg i x
  | 0, i, hi, x, hx => by
    have : i = 0 := by omega
    subst this
    simp only [rsI, RR, Nat.mul_zero, Nat.zero_add]; exact hT x hx
  | h + 1, i, hi, x, hx => by
    have a := rsX_RR (Sg := Sg) (T := rsI Lx Co Sg T h) (i := h) (fun i' hi' x hx => rsI_RR hT h i' hi' x hx) 11 (Nat.le_refl _)
    simp only [rsI]
    rcases Nat.lt_or_ge h i with w | w
    · have : i = h + 1 := by omega
      subst this; exact a.2 x hx
    · exact a.1 i w x hx
theorem RSf_RR {Re : Nat → Nat} (h i x : Nat) (hi : i ≤ h) (hx : x < 11) : RSf Lx La Co Sg Re j h (11 * i + x) = RR Lx Co La j Sg i x := rsI_RR (fun x hx => fillG_in _ _ hx) h i hi x hx
end FAR
/-- the class's tables speak of the reference's -/
def TH (Hp Kc : Nat → Nat) (Lx : Nat → Bool) (Co : Nat → Nat) : Prop := okf Kc ∧ ∀ p s x, p < 11 → s < 5 → x < 11 → thF Hp Kc p s x = rdF Lx Co p s x
theorem TH_of {Hp Kc Co : Nat → Nat} {L : Nat → Nat → Nat → Bool} {n m : Nat} (hN : NR Hp L n m) (hK : okf Kc) (hKC : ∀ h y, h < 25 → y < 11 → Kc (h * 11 + y) = Co (h * 11 + y)) : TH Hp Kc (lxG L) Co := by
  refine ⟨hK, fun p s x hp hs hx => ?_⟩
  rw [th_rd hN Kc hp hs hx]
  unfold rdF; split
  · exact hKC _ _ (by omega) hx
  · rfl
section FARC
variable {Lx La : Nat → Bool} {Hp Kc Co Sg : Nat → Nat} {j : Nat}
theorem acF_RR (hT : TH Hp Kc Lx Co) {Rw : Nat → Nat} (hR : okf Rw) {p s h : Nat} {S : Nat → Nat} (hp : p < 11) (hs : s < 5) (hw : ∀ x, x < 11 → Rw (h * 11 + x) = RR Lx Co La j S h x) : acF Hp Kc Rw p s h 11 = mnF (fun y => sm (rdF Lx Co p s y) (RR Lx Co La j S h y)) 11 := by
  rw [acF_mn _ _ _ _ _ _ hT.1 hR]
  exact mnF_congr 11 (fun x hx => by rw [hT.2 p s x hp hs hx, hw x hx])
theorem bdP_RR (hT : TH Hp Kc Lx Co) (hS : ∀ i, Sg i < 5) {T : Nat → Nat} {i : Nat} (hoT : okf T) (h : ∀ i', i' ≤ i → ∀ x, x < 11 → T (i' * 11 + x) = RR Lx Co La j Sg i' x) : ∀ x, x ≤ 11 → (∀ i', i' ≤ i → ∀ y, y < 11 → bdP Hp Kc Sg T i x (i' * 11 + y) = RR Lx Co La j Sg i' y) ∧ (∀ y, y < x → bdP Hp Kc Sg T i x ((i + 1) * 11 + y) = RR Lx Co La j Sg (i + 1) y)
  | 0, _ => ⟨h, fun y hy => absurd hy (Nat.not_lt_zero y)⟩
  | x + 1, hx => by
    have ih := bdP_RR hT hS hoT h x (by omega)
    simp only [bdP]
    refine ⟨fun i' hi y hy => ?_, fun y hy => ?_⟩
    · rw [up_ne _ _ (by omega)]; exact ih.1 i' hi y hy
    · by_cases e : y = x
      · subst e; rw [up_same, acF_RR hT (bdP_ok hoT i y) (by omega) (hS i) (ih.1 i (Nat.le_refl _))]
        simp only [RR]
      · rw [up_ne _ _ (by omega)]; exact ih.2 y (by omega)
theorem bdF_RR (hT : TH Hp Kc Lx Co) (hS : ∀ i, Sg i < 5) {T : Nat → Nat} {kp : Nat} (hoT : okf T) (h : ∀ i', i' ≤ kp → ∀ x, x < 11 → T (i' * 11 + x) = RR Lx Co La j Sg i' x) : ∀ d i, i ≤ kp + d → ∀ x, x < 11 → bdF Hp Kc Sg T kp d (i * 11 + x) = RR Lx Co La j Sg i x
  | 0, i, hi, x, hx => h i hi x hx
  | d + 1, i, hi, x, hx => by
    have a := bdP_RR hT hS (T := bdF Hp Kc Sg T kp d) (i := kp + d) (bdF_ok hoT kp d) (fun i' hi' x hx => bdF_RR hT hS hoT h d i' hi' x hx) 11 (Nat.le_refl _)
    simp only [bdF]
    rcases Nat.lt_or_ge (kp + d) i with w | w
    · have : i = kp + d + 1 := by omega
      subst this; exact a.2 x hx
    · exact a.1 i w x hx
theorem RWf_RR (hT : TH Hp Kc Lx Co) (hS : ∀ i, Sg i < 5) {lp : Nat} (hl : ∀ x, x < 11 → lp.testBit x = La (11 * j + x)) {Rw : Nat → Nat} (hRw : okf Rw) (h i x : Nat) (hi : i ≤ h) (hx : x < 11) : RWf lp Hp Kc Sg h Rw (i * 11 + x) = RR Lx Co La j Sg i x := by
  refine bdF_RR hT hS (kp := 0) (fillG_ok hRw (lsF_ok lp) 11) (fun i' hi' x hx => ?_) h i (by omega) x hx
  have : i' = 0 := by omega
  subst this
  rw [Nat.zero_mul, Nat.zero_add, fillG_in _ _ hx]
  simp only [RR, lsF, laF, hl x hx]
/-- FAR: both answer the same -/
theorem far_eq (hT : TH Hp Kc Lx Co) (hS : ∀ i, Sg i < 5) {lp : Nat} (hl : ∀ x, x < 11 → lp.testBit x = La (11 * j + x)) {Rw Re : Nat → Nat} (hRw : okf Rw) {h c : Nat} (hc : c < 5) : RWf lp Hp Kc Sg h Rw (h * 11 + c) = RSf Lx La Co Sg Re j h (11 * h + c) := by
  rw [RWf_RR hT hS hl hRw h h c (Nat.le_refl _) (by omega), RSf_RR h h c (Nat.le_refl _) (by omega)]
end FARC
/-! a rule's way: one step and then the rest -/
section STEP
variable {Lx La : Nat → Bool} {Hp Kc Co Sg Pq Pa Pb Rw Re : Nat → Nat} {j : Nat}
theorem nx_af (hT : TH Hp Kc Lx Co) (hCo : okf Co) (hB : ∀ r, Pq r < 5 ∧ Pa r ≤ 5 ∧ Pb r ≤ 5) (hRw : okf Rw) {k : Nat} (hw : ∀ x, x < 11 → Rw (k * 11 + x) = RR Lx Co La j Sg k x) (he : ∀ x, x < 11 → Re (11 * k + x) = RR Lx Co La j Sg k x) (r : Nat) : nxY (scF Lx Pq Pa Pb Co) Re r (11 * k) 11 = sm 1 (afF Hp Kc Rw Pq Pa Pb r k) := by
  obtain ⟨b1, b2, b3⟩ := hB r
  have h1 : okv 1 := Or.inl (by decide)
  rw [nxY_mn, mnF_congr 11 (g := fun y => sm (brF Lx Co Pq Pa Pb r y) (RR Lx Co La j Sg k y)) (fun y hy => by rw [he y hy]; rfl)]
  have hRR := RR_ok Lx Co La j Sg k
  unfold afF
  by_cases ha : Pa r = 0
  · rw [if_pos ha]
    have e : ∀ y, brF Lx Co Pq Pa Pb r y = if Pq r = y then 1 else 9000000000000000000 := fun y => by unfold brF; rw [if_pos ha]
    rw [hw _ (by omega)]
    apply eq_le; intro v
    rw [mnF_le]
    constructor
    · rintro ⟨_, h2⟩
      have := h2 (Pq r) (by omega)
      rw [e, if_pos rfl] at this; exact this
    · intro h
      have o := sm_okv 1 (RR Lx Co La j Sg k (Pq r))
      unfold okv at o
      refine ⟨by omega, fun x hx => ?_⟩
      rw [e]
      by_cases q : Pq r = x
      · rw [if_pos q, ← q]; exact h
      · rw [if_neg q, sm_inf (Or.inl rfl)]; omega
  · rw [if_neg ha]
    by_cases hb : Pb r = 0
    · rw [if_pos hb]
      have e : ∀ y, brF Lx Co Pq Pa Pb r y = sm 1 (rdF Lx Co (Pq r) (Pa r - 1) y) := fun y => by unfold brF; rw [if_neg ha, if_pos hb]
      rw [acF_RR hT hRw (by omega) (by omega) hw, sm_mn h1 11 (fun _ _ => sm_okv _ _)]
      exact mnF_congr 11 (fun y _ => by rw [e, sm_assoc])
    · rw [if_neg hb]
      have e : ∀ y, brF Lx Co Pq Pa Pb r y = sm 1 (mnF (fun x => sm (rdF Lx Co (Pq r) (Pa r - 1) x) (rdF Lx Co x (Pb r - 1) y)) 11) := fun y => by unfold brF; rw [if_neg ha, if_neg hb, brL_mn]
      rw [afP_mn _ _ _ _ _ _ _ hT.1, sm_mn h1 11 (fun _ _ => sm_okv _ _)]
      have l1 : mnF (fun y => sm (brF Lx Co Pq Pa Pb r y) (RR Lx Co La j Sg k y)) 11 = mnF (fun y => mnF (fun x => sm 1 (sm (rdF Lx Co (Pq r) (Pa r - 1) x) (sm (rdF Lx Co x (Pb r - 1) y) (RR Lx Co La j Sg k y)))) 11) 11 := by
        refine mnF_congr 11 (fun y _ => ?_)
        rw [e, sm_comm, ← sm_assoc, sm_comm _ 1, sm_assoc, sm_mn (hRR y) 11 (fun _ _ => sm_okv _ _), sm_mn h1 11 (fun _ _ => sm_okv _ _)]
        exact mnF_congr 11 (fun x _ => by rw [sm_comm (RR Lx Co La j Sg k y), sm_assoc (a := rdF Lx Co (Pq r) (Pa r - 1) x)])
      rw [l1, ← mn_swap]
      refine mnF_congr 11 (fun x hx => ?_)
      rw [hT.2 _ _ x (by omega) (by omega) hx, acF_RR hT hRw hx (by omega) hw, sm_mn (rdF_ok hCo _ _ _) 11 (fun _ _ => sm_okv _ _), sm_mn h1 11 (fun _ _ => sm_okv _ _)]
end STEP
