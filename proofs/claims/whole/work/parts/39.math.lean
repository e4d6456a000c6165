/-! STEP and RUN -/
section ATT
variable {z : Nat} {Lx : Nat → Bool} {Pp Ps Pq Pa Pb C0 : Nat → Nat} {S0 : Nat → Bool}
theorem sc_dec (hR : ∀ r, Pp r < 5 ∧ Ps r < 5) {B0 : Nat} (h0 : SInv z Lx Pp Ps Pq Pa Pb C0 S0 B0) (t k : Nat) : (scC z Lx Pp Ps Pq Pa Pb C0 S0 (t + 1)).1 k ≤ (scC z Lx Pp Ps Pq Pa Pb C0 S0 t).1 k := by
  obtain ⟨B, hi⟩ := sc_inv hR h0 t
  have e : ∀ (Su : Nat → Bool) (Co : Nat → Nat), okf (stC z Lx Su Pp Ps Pq Pa Pb Co) → (∀ k, Su k = false → Co k = 9000000000000000000) → stC z Lx Su Pp Ps Pq Pa Pb Co k ≤ Co k := by
    intro Su Co ho hu
    have o := ho k
    simp only [stC, seC] at o ⊢
    split
    · next q => rw [hu k (seQ_inv q.2).1]; rw [if_pos q] at o; omega
    · exact Nat.le_refl _
  exact e _ _ (stC_ok hi.1) hi.2.2.1
theorem sc_att (hR : ∀ r, Pp r < 5 ∧ Ps r < 5) {B0 : Nat} (h0 : SInv z Lx Pp Ps Pq Pa Pb C0 S0 B0) : ∀ t k, ¬ (scC z Lx Pp Ps Pq Pa Pb C0 S0 t).1 k = 9000000000000000000 → S0 k = true ∨ ∃ r y, r < z ∧ y < 11 ∧ k = kx Pp Ps r y ∧ brF Lx (scC z Lx Pp Ps Pq Pa Pb C0 S0 t).1 Pq Pa Pb r y ≤ (scC z Lx Pp Ps Pq Pa Pb C0 S0 t).1 k
  | 0, k, h => by
    cases e : S0 k with
    | true => exact Or.inl rfl
    | false => exact absurd (h0.2.2.1 k e) h
  | t + 1, k, h => by
    have ho : okf (scC z Lx Pp Ps Pq Pa Pb C0 S0 t).1 := scC_ok h0.1 t
    have mono := fun r y => brF_mono (Lx := Lx) (Pq := Pq) (Pa := Pa) (Pb := Pb) ho (sc_dec hR h0 t) r y
    rcases sc_new (z := z) (Lx := Lx) (Pp := Pp) (Ps := Ps) (Pq := Pq) (Pa := Pa) (Pb := Pb) (C0 := C0) (S0 := S0) (t := t) (k := k) with e | ⟨r, y, hr, hy, hk, e⟩
    · rw [e] at h
      rcases sc_att hR h0 t k h with q | ⟨r, y, hr, hy, hk, q⟩
      · exact Or.inl q
      · exact Or.inr ⟨r, y, hr, hy, hk, by rw [e]; exact Nat.le_trans (mono r y) q⟩
    · exact Or.inr ⟨r, y, hr, hy, hk, by rw [e]; exact mono r y⟩
end ATT
/-- what the costs of a net are: no rule lowers one, and each is a link's or a rule's -/
def CF (z : Nat) (Lx : Nat → Bool) (Pp Ps Pq Pa Pb Co : Nat → Nat) : Prop := okf Co ∧ (∀ r y, r < z → y < 11 → Co (kx Pp Ps r y) ≤ brF Lx Co Pq Pa Pb r y) ∧ (∀ h y, h < 25 → y < 11 → ¬ Co (h * 11 + y) = 9000000000000000000 → (5 ≤ y ∧ Co (h * 11 + y) = 0) ∨ ∃ r, r < z ∧ h = 5 * Pp r + Ps r ∧ brF Lx Co Pq Pa Pb r y ≤ Co (h * 11 + y))
theorem CF_J {z n m : Nat} {Pp Ps Pq Pa Pb : Nat → Nat} {L : Nat → Nat → Nat → Bool} (hB : RB Pp Ps Pq Pa Pb) {tT : Nat} (hfix : ∀ r y, r < z → y < 11 → Jt z n m Pp Ps Pq Pa Pb L tT (kx Pp Ps r y) ≤ brF (lxG L) (Jt z n m Pp Ps Pq Pa Pb L tT) Pq Pa Pb r y) : CF z (lxG L) Pp Ps Pq Pa Pb (Jt z n m Pp Ps Pq Pa Pb L tT) := by
  have hR : ∀ r, Pp r < 5 ∧ Ps r < 5 := fun r => ⟨(hB r).1, (hB r).2.1⟩
  refine ⟨sJ_ok _ _ _ _ _ _ _ _ _ _, hfix, fun h y hh hy hne => ?_⟩
  rcases sc_att hR sJ_inv0 tT (h * 11 + y) hne with q | ⟨r, y', hr, hy', hk, q⟩
  · left
    have k := (sc_keep (z := z) (Lx := lxG L) (Pp := Pp) (Ps := Ps) (Pq := Pq) (Pa := Pa) (Pb := Pb) (C0 := iniC (mkG L n m) 275) q tT).2
    unfold iniS at q
    rw [Bool.and_eq_true, decide_eq_true_eq] at q
    have c0 : iniC (mkG L n m) 275 (h * 11 + y) = 0 := by unfold iniC; rw [if_pos q]
    refine ⟨?_, k.trans c0⟩
    rcases Nat.lt_or_ge y 5 with w | w
    · rw [mk_lo (by omega)] at q; exact Bool.noConfusion q.2
    · exact w
  · right
    have e1 : y' = y := by simp only [kx] at hk; omega
    have e2 : h = 5 * Pp r + Ps r := by simp only [kx] at hk; omega
    subst e1
    exact ⟨r, hr, e2, q⟩
theorem RR_node {Lx : Nat → Bool} {Co : Nat → Nat} {La : Nat → Bool} {j : Nat} {Sg : Nat → Nat} : ∀ i x, 5 ≤ x → RR Lx Co La j Sg i x = 0 ∨ RR Lx Co La j Sg i x = 9000000000000000000
  | 0, x, _ => by simp only [RR, laF]; split <;> simp
  | i + 1, x, hx => by
    simp only [RR]
    rcases mnF_ex (f := fun y => sm (rdF Lx Co x (Sg i) y) (RR Lx Co La j Sg i y)) 11 with h | ⟨y, hy, h⟩
    · exact Or.inr h
    · rw [h]
      simp only [rdF]
      rw [if_neg (by omega)]
      by_cases q : 4 < y ∧ Lx ((5 * x + Sg i) * 6 + y - 5) = true
      · rw [if_pos q]
        rcases RR_node (Lx := Lx) (Co := Co) (La := La) (j := j) (Sg := Sg) i y (by omega) with w | w
        · left; rw [w]; decide
        · right; rw [w]; exact sm_inf (Or.inr rfl)
      · rw [if_neg q]; right; exact sm_inf (Or.inl rfl)
theorem fsI_lt {p : Nat → Bool} {n i : Nat} (hi : i < n) (hp : p i = true) : fsI p n < n := by
  rcases Nat.lt_or_ge (fsI p n) n with w | w
  · exact w
  · have := fsI_no p n i (by omega)
    rw [hp] at this; cases this
theorem fsI_congr {p q : Nat → Bool} : ∀ n, (∀ i, i < n → p i = q i) → fsI p n = fsI q n
  | 0, _ => rfl
  | n + 1, h => by simp only [fsI]; rw [fsI_congr n (fun i hi => h i (by omega)), h n (by omega)]
theorem next_ex {z : Nat} {Lx : Nat → Bool} {Pp Ps Pq Pa Pb Co : Nat → Nat} {La : Nat → Bool} {j : Nat} (hF : CF z Lx Pp Ps Pq Pa Pb Co) (hR : ∀ r, Pp r < 5 ∧ Ps r < 5) {c h : Nat} {S Re : Nat → Nat} (hc : c < 5) (hS : ∀ i, S i < 5) (he : ∀ i, i ≤ h → ∀ x, x < 11 → Re (11 * i + x) = RR Lx Co La j S i x) (h1 : ¬ RR Lx Co La j S h c = 0) (h2 : ¬ RR Lx Co La j S h c = 9000000000000000000) : nextI z Lx Co Pp Ps Pq Pa Pb c h S Re (Re (11 * h + c)) < z := by
  rw [he h (Nat.le_refl _) c (by omega)]
  cases h with
  | zero => simp only [RR, laF] at h1 h2; split at h1 <;> simp_all
  | succ k =>
    have hsk := hS k
    obtain ⟨hC, hfix, hatt⟩ := hF
    rcases mnF_ex (f := fun y => sm (rdF Lx Co c (S k) y) (RR Lx Co La j S k y)) 11 with q | ⟨y, hy, q⟩
    · exact absurd q h2
    · have rdc : ∀ y, rdF Lx Co c (S k) y = Co ((c * 5 + S k) * 11 + y) := fun y => by unfold rdF; rw [if_pos hc, Nat.mul_comm 5]
      have q' : RR Lx Co La j S (k + 1) c = sm (Co ((c * 5 + S k) * 11 + y)) (RR Lx Co La j S k y) := by rw [← rdc]; exact q
      have hne : ¬ Co ((c * 5 + S k) * 11 + y) = 9000000000000000000 := fun w => h2 (by rw [q', w]; exact sm_inf (Or.inl rfl))
      rcases hatt (c * 5 + S k) y (by omega) hy hne with ⟨w5, w0⟩ | ⟨r, hr, hh, hb⟩
      · exfalso
        rw [w0] at q'
        rcases RR_node (Lx := Lx) (Co := Co) (La := La) (j := j) (Sg := S) k y w5 with v | v
        · rw [v] at q'; exact h1 (q'.trans (by decide))
        · rw [v] at q'; exact h2 (q'.trans (sm_inf (Or.inr rfl)))
      · have hRr := hR r
        have e1 : Pp r = c := by omega
        have e2 : Ps r = S k := by omega
        refine fsI_lt hr (decide_eq_true ⟨decide_eq_true ⟨Nat.succ_pos k, e1, e2⟩, ?_⟩)
        rw [nxY_mn]
        apply Nat.le_antisymm
        · refine Nat.le_trans (mnF_at hy) ?_
          show sm (brF Lx Co Pq Pa Pb r y) (Re (11 * (k + 1 - 1) + y)) ≤ _
          rw [Nat.add_sub_cancel, he k (by omega) y hy, q']
          exact sm_mono hb (Nat.le_refl _) (hC _) (RR_ok _ _ _ _ _ _ _)
        · rw [mnF_le]
          have o := RR_ok Lx Co La j S (k + 1) c
          unfold okv at o
          refine ⟨by omega, fun y' hy' => ?_⟩
          show _ ≤ sm (brF Lx Co Pq Pa Pb r y') (Re (11 * (k + 1 - 1) + y'))
          rw [Nat.add_sub_cancel, he k (by omega) y' hy']
          have l : RR Lx Co La j S (k + 1) c ≤ sm (rdF Lx Co c (S k) y') (RR Lx Co La j S k y') := mnF_at (f := fun y => sm (rdF Lx Co c (S k) y) (RR Lx Co La j S k y)) hy'
          refine Nat.le_trans l ?_
          have f := hfix r y' hr hy'
          simp only [kx] at f
          rw [show (5 * Pp r + Ps r) * 11 + y' = (c * 5 + S k) * 11 + y' from by omega, ← rdc] at f
          exact sm_mono f (Nat.le_refl _) (brF_ok _ _ _ _ _ _ _) (RR_ok _ _ _ _ _ _ _)
theorem sm1_eq {a d : Nat} (h0 : 0 < d) (h1 : d < 1000000000000000) (ha : okv a) : sm 1 a = d ↔ a = d - 1 := by
  unfold okv at ha
  by_cases e : a = 9000000000000000000
  · rw [sm_inf (Or.inr e)]; omega
  · rw [sm_fin (by decide) e]; omega
section RUN
variable {z n : Nat} {Lx La : Nat → Bool} {Hp Kc Co Pp Ps Pq Pa Pb : Nat → Nat} {j : Nat}
theorem near_next (hT : TH Hp Kc Lx Co) (hCo : okf Co) (hB : RB Pp Ps Pq Pa Pb) {c h ds : Nat} {Sg Rw Re : Nat → Nat} (hRw : okf Rw) (hc : c < 5) (hS : ∀ i, Sg i < 5) (hw : ∀ i, i ≤ h → ∀ x, x < 11 → Rw (i * 11 + x) = RR Lx Co La j Sg i x) (he : ∀ i, i ≤ h → ∀ x, x < 11 → Re (11 * i + x) = RR Lx Co La j Sg i x) (h0 : 0 < ds) (h1 : ds < 1000000000000000) (i : Nat) : nearP Hp Kc Rw (fun r => Pp r * 5 + Ps r) Pq Pa Pb Sg c h ds i ↔ nextP Lx Co Pp Ps Pq Pa Pb Sg Re c h ds i := by
  have hBi := hB i
  unfold nearP nextP
  by_cases hh : h = 0
  · subst hh
    constructor
    · rintro ⟨a, _⟩; simp [headF] at a
    · rintro ⟨a, _⟩; have := gsF_pos a; omega
  · have hs := hS (h - 1)
    have a1 : (Pp i * 5 + Ps i + 1 = headF c h Sg) ↔ gsF c h Pp Ps Sg i = true := by
      simp only [headF, gsF, decide_eq_true_eq]; rw [if_neg hh]; omega
    have a2 := nx_af (Hp := Hp) (Pq := Pq) (Pa := Pa) (Pb := Pb) (Rw := Rw) (Re := Re) (Sg := Sg) (La := La) (j := j) (k := h - 1) hT hCo (fun r => ⟨(hB r).2.2.1, (hB r).2.2.2.1, (hB r).2.2.2.2⟩) hRw (hw (h - 1) (by omega)) (he (h - 1) (by omega)) i
    rw [a1, a2, sm1_eq h0 h1 (afF_ok hRw _ _)]
/-- what is left after a rule is what the rule's way says -/
theorem after_eq (hT : TH Hp Kc Lx Co) (hB : RB Pp Ps Pq Pa Pb) (hab : ∀ r, Pa r = 0 → Pb r = 0) {h : Nat} {Sg Rw : Nat → Nat} (hRw : okf Rw) (h0 : 0 < h) (hw : ∀ i, i ≤ h → ∀ x, x < 11 → Rw (i * 11 + x) = RR Lx Co La j Sg i x) (r : Nat) : RR Lx Co La j (chS Sg h (Pa r) (Pb r)) (chH h (Pa r) (Pb r)) (Pq r) = afF Hp Kc Rw Pq Pa Pb r (h - 1) ∧ ∀ i, i ≤ h - 1 → ∀ x, RR Lx Co La j (chS Sg h (Pa r) (Pb r)) i x = RR Lx Co La j Sg i x := by
  obtain ⟨_, _, b3, b4, b5⟩ := hB r
  have kp : ∀ k, k < h - 1 → chS Sg h (Pa r) (Pb r) k = Sg k := by
    intro k hk
    have u1 : ∀ v, up Sg (h - 1) v k = Sg k := fun v => up_ne _ _ (by omega)
    by_cases ha : Pa r = 0
    · rw [does_0 ha (hab r ha)]
    · by_cases hb : Pb r = 0
      · rw [does_1 ha hb]; exact u1 _
      · rw [does_22 ha hb, up_ne _ _ (by omega)]; exact u1 _
  have low : ∀ i, i ≤ h - 1 → ∀ x, RR Lx Co La j (chS Sg h (Pa r) (Pb r)) i x = RR Lx Co La j Sg i x := fun i hi x => RR_congr i (fun k hk => kp k (by omega)) x
  refine ⟨?_, low⟩
  unfold afF
  by_cases ha : Pa r = 0
  · rw [if_pos ha, does_0h h0 ha (hab r ha), low _ (Nat.le_refl _), hw (h - 1) (by omega) _ (by omega)]
  · rw [if_neg ha]
    by_cases hb : Pb r = 0
    · rw [if_pos hb, does_1h h0 ha hb, acF_RR hT hRw (by omega) (by omega) (hw (h - 1) (by omega))]
      simp only [RR]
      have e : chS Sg h (Pa r) (Pb r) (h - 1) = Pa r - 1 := by rw [does_1 ha hb, up_same]
      rw [e]
      exact mnF_congr 11 (fun y _ => by rw [low _ (Nat.le_refl _)])
    · rw [if_neg hb, does_22h h0 ha hb, afP_mn _ _ _ _ _ _ _ hT.1]
      have e1 : chS Sg h (Pa r) (Pb r) (h - 1) = Pb r - 1 := by rw [does_22 ha hb, up_ne _ _ (by omega), up_same]
      have e2 : chS Sg h (Pa r) (Pb r) (h - 1 + 1) = Pa r - 1 := by rw [does_22 ha hb, up_same]
      simp only [RR]
      rw [e1, e2]
      refine mnF_congr 11 (fun x hx => ?_)
      rw [hT.2 _ _ x (by omega) (by omega) hx, acF_RR hT hRw hx (by omega) (hw (h - 1) (by omega))]
      rw [mnF_congr 11 (fun y _ => by rw [low _ (Nat.le_refl _)])]
def RnR (n : Nat) (A B : Nat × Nat × Nat × (Nat → Nat) × (Nat → Nat)) : Prop := A.1 = B.1 ∧ A.2.1 = B.2.1 ∧ A.2.2.1 = B.2.2.1 ∧ A.2.2.2.1 = B.2.2.2.1 ∧ okf A.2.2.2.2 ∧ okf B.2.2.2.2 ∧ A.2.1 < n ∧ A.2.2.1 ≤ 60 ∧ ∀ i, A.2.2.2.1 i < 5
theorem RnR_stop {n c h : Nat} {Sg Rw Re : Nat → Nat} (hc : c < n) (hh : h ≤ 60) (hS : ∀ i, Sg i < 5) (hRw : okf Rw) (hRe : okf Re) : RnR n (0, c, h, Sg, Rw) (0, c, h, Sg, Re) := ⟨rfl, rfl, rfl, rfl, hRw, hRe, hc, hh, hS⟩
theorem RnR_step {n : Nat} {A B : Nat × Nat × Nat × (Nat → Nat) × (Nat → Nat)} (h : RnR n A B) : RnR n (A.1 + 1, A.2) (B.1 + 1, B.2) := ⟨by rw [h.1], h.2⟩
theorem run_eq (hT : TH Hp Kc Lx Co) (hF : CF z Lx Pp Ps Pq Pa Pb Co) (hB : RB Pp Ps Pq Pa Pb) (hab : ∀ r, Pa r = 0 → Pb r = 0) (hq : ∀ r, r < z → Pq r < n) (hn : n ≤ 5) : ∀ f ds c h Sg Rw Re, c < n → h ≤ 60 → (∀ i, Sg i < 5) → okf Rw → okf Re → (∀ i, i ≤ h → ∀ x, x < 11 → Rw (i * 11 + x) = RR Lx Co La j Sg i x) → (∀ i, i ≤ h → ∀ x, x < 11 → Re (11 * i + x) = RR Lx Co La j Sg i x) → ds = RR Lx Co La j Sg h c → ds < 1000000000000000 →
    RnR n (rnF z Hp Kc (fun r => Pp r * 5 + Ps r) Pq Pa Pb f ds c h Sg Rw) (rmF z Lx La Co Pp Ps Pq Pa Pb j f c h Sg Re)
  | 0, ds, c, h, Sg, Rw, Re, hc, hh, hS, hRw, hRe, _, _, _, _ => RnR_stop hc hh hS hRw hRe
  | f + 1, ds, c, h, Sg, Rw, Re, hc, hh, hS, hRw, hRe, hw, he, hds, hlt => by
    have hRc := he h (Nat.le_refl _) c (by omega)
    rw [← hds] at hRc
    simp only [rnF, rmF]
    by_cases hd0 : ds = 0
    · rw [if_pos hd0, if_pos (Or.inl (hRc.trans hd0))]; exact RnR_stop hc hh hS hRw hRe
    · have hNR : ¬ (Re (11 * h + c) = 0 ∨ Re (11 * h + c) = 9000000000000000000) := by rw [hRc]; omega
      rw [if_neg hd0, if_neg hNR]
      have hnx := next_ex (La := La) (j := j) hF (fun r => ⟨(hB r).1, (hB r).2.1⟩) (show c < 5 by omega) hS he (by rw [← hds]; exact hd0) (by rw [← hds]; omega)
      have en : nearI z Hp Kc (fun r => Pp r * 5 + Ps r) Pq Pa Pb c h Sg Rw ds = nextI z Lx Co Pp Ps Pq Pa Pb c h Sg Re (Re (11 * h + c)) := by
        unfold nearI nextI
        refine fsI_congr z (fun i _ => ?_)
        rw [hRc]
        exact decide_eq_decide.mpr (near_next hT hF.1 hB hRw (by omega) hS hw he (by omega) hlt i)
      rw [en]
      obtain ⟨r, er, hr, hP, _⟩ := nextI_some hnx
      rw [← er]
      rw [if_neg (show ¬ z ≤ r by omega)]
      by_cases hro : Pb r = 0 ∨ h < 60
      · have hrn : ¬ ¬ (Pb r = 0 ∨ h < 60) := fun q => q hro
        rw [if_neg hrn, if_neg hrn]
        apply RnR_step
        have h0 : 0 < h := gsF_pos hP.1
        have hNP := (near_next (La := La) (j := j) hT hF.1 hB hRw (show c < 5 by omega) hS hw he (by omega) hlt r).mpr (by rw [← hRc]; exact hP)
        have ha := after_eq (La := La) (j := j) hT hB hab hRw h0 hw r
        have hS' : ∀ i, chS Sg h (Pa r) (Pb r) i < 5 := chS_lt hS (hB r).2.2.2.1 (hB r).2.2.2.2
        have hH' := chH_le (h := h) (a := Pa r) (b := Pb r) hh h0 (hab r) hro
        refine run_eq hT hF hB hab hq hn f (ds - 1) (Pq r) _ _ _ _ (hq r hr) hH'.1 hS' (bdF_ok hRw _ _) (RSf_ok hRe _ _) ?_ ?_ ?_ (by omega)
        · intro i hi x hx
          exact bdF_RR hT hS' hRw (fun i' hi' x hx => by rw [ha.2 i' hi', hw i' (by omega) x hx]) _ i (by omega) x hx
        · intro i hi x hx
          exact RSf_RR _ i x hi hx
        · rw [ha.1]; exact hNP.2.symm
      · rw [if_pos hro, if_pos hro]; exact RnR_stop hc hh hS hRw hRe
end RUN
