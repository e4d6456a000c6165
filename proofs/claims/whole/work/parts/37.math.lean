theorem pops_low {n z : Nat} {Pp Ps Pq Pa Pb : Nat → Nat} (hR : ∀ r, Pp r < 5 ∧ Ps r < 5) (hq : ∀ r, r < z → Pq r < n) (hq5 : ∀ r, Pq r < 5) (hn : n ≤ 5) (t h q : Nat) (hq2 : q < 5) : CCf n z (fun r => Pp r * 5 + Ps r) Pq Pa Pb (h * 5 + q) ≤ itC n z (fun r => Pp r * 5 + Ps r) Pq Pa Pb t (h * 5 + q) := by
  obtain ⟨tT, h1, _, h3⟩ := pops_eq (Pa := Pa) (Pb := Pb) hR hq hq5 hn
  rw [h3 h q hq2]
  refine itC_lb (n := n) (Lx := fun _ => false) (sN_ok _ _ _ _ _ _ _) hq5 hn (sc_fix hR sN_inv0 ?_ h1) t h q hq2
  rcases Nat.eq_zero_or_pos tT with e | e
  · subst e; cases h1
  · exact e
section NU
variable {n m z : Nat} {Hp : Nat → Nat} {L : Nat → Nat → Nat → Bool} {Pp Ps Pq Pa Pb : Nat → Nat}
abbrev Jt (z n m : Nat) (Pp Ps Pq Pa Pb : Nat → Nat) (L : Nat → Nat → Nat → Bool) (t : Nat) : Nat → Nat := (sJ z n m Pp Ps Pq Pa Pb L t).1
theorem ini_lo {k : Nat} (h : k % 11 < 5) : iniC (mkG L n m) 275 k = 9000000000000000000 := by
  unfold iniC; rw [if_neg (fun q => by rw [mk_lo h] at q; exact Bool.noConfusion q.2)]
theorem cc_J (hB : RB Pp Ps Pq Pa Pb) (hq : ∀ r, r < z → Pq r < n) (hn : n ≤ 5) (t h y : Nat) (hy : y < 5) : CCf n z (fun r => Pp r * 5 + Ps r) Pq Pa Pb (h * 5 + y) ≤ Jt z n m Pp Ps Pq Pa Pb L t (h * 11 + y) := by
  have hR : ∀ r, Pp r < 5 ∧ Ps r < 5 := fun r => ⟨(hB r).1, (hB r).2.1⟩
  have hq5 : ∀ r, Pq r < 5 := fun r => (hB r).2.2.1
  rcases Nat.lt_or_ge y n with w | w
  · exact Nat.le_trans (pops_low hR hq hq5 hn t h y hy) (pop_ubG (C0 := iniC (mkG L n m) 275) (fun k hk => ini_lo hk) (iniC_ok _ _) hR hq hq5 hn t h y w)
  · have e : Jt z n m Pp Ps Pq Pa Pb L t (h * 11 + y) = 9000000000000000000 := Cg_inf (C0 := iniC (mkG L n m) 275) (fun k hk => ini_lo hk) hq hq5 t (h * 11 + y) (by omega) (by omega)
    have o := CCf_ok n z (fun r => Pp r * 5 + Ps r) Pq Pa Pb (h * 5 + y)
    rw [e]; omega
/-- the class's net is at most the reference's costs, round by round -/
theorem net_ub (hN : NR Hp L n m) (hB : RB Pp Ps Pq Pa Pb) (hq : ∀ r, r < z → Pq r < n) (hn : n ≤ 5) : ∀ t h y, h < 25 → y < 11 → niC z Hp (fun r => Pp r * 5 + Ps r) Pq Pa Pb (CCf n z (fun r => Pp r * 5 + Ps r) Pq Pa Pb) t (h * 11 + y) ≤ Jt z n m Pp Ps Pq Pa Pb L t (h * 11 + y)
  | 0, h, y, hh, hy => by
    rcases Nat.lt_or_ge y 5 with w | w
    · have e := cc_J (m := m) (L := L) (Pa := Pa) (Pb := Pb) hB hq hn 0 h y w
      show sfF Hp _ (h * 11 + y) ≤ _
      rw [sfF_lo w]; exact e
    · show sfF Hp _ (h * 11 + y) ≤ iniC (mkG L n m) 275 (h * 11 + y)
      have e := sfF_hi (Hp := Hp) (Cv := CCf n z (fun r => Pp r * 5 + Ps r) Pq Pa Pb) (hd := h) (nd := y - 5) (by omega)
      rw [show h * 11 + 5 + (y - 5) = h * 11 + y from by omega, ← mk_at hN hh w hy] at e
      rw [e]; unfold iniC
      by_cases q : mkG L n m (h * 11 + y) = true
      · rw [if_pos q]; exact Nat.zero_le _
      · rw [if_neg q, if_neg (fun x => q x.2)]; exact Nat.le_refl _
  | t + 1, h, y, hh, hy => by
    have ih := net_ub hN hB hq hn t
    rcases Nat.lt_or_ge y 5 with w | w
    · have e := cc_J (m := m) (L := L) (Pa := Pa) (Pb := Pb) hB hq hn (t + 1) h y w
      have d := niC_dec (z := z) (Hp := Hp) (Hd := fun r => Pp r * 5 + Ps r) (To := Pq) (Tp := Pa) (Bl := Pb) (Cv := CCf n z (fun r => Pp r * 5 + Ps r) Pq Pa Pb) 0 (h * 11 + y) (t + 1)
      rw [Nat.zero_add] at d
      refine Nat.le_trans d (Nat.le_trans ?_ e)
      show sfF Hp _ (h * 11 + y) ≤ _
      rw [sfF_lo w]; exact Nat.le_refl _
    · have hoC : okf (niC z Hp (fun r => Pp r * 5 + Ps r) Pq Pa Pb (CCf n z (fun r => Pp r * 5 + Ps r) Pq Pa Pb) t) := niC_ok (CCf_ok _ _ _ _ _ _) t
      have hoR : okf (Jt z n m Pp Ps Pq Pa Pb L t) := sJ_ok _ _ _ _ _ _ _ _ _ _
      rcases sc_new (z := z) (Lx := lxG L) (Pp := Pp) (Ps := Ps) (Pq := Pq) (Pa := Pa) (Pb := Pb) (C0 := iniC (mkG L n m) 275) (S0 := iniS (mkG L n m) 275) (t := t) (k := h * 11 + y) with e | ⟨r, y', hr, hy', hk, e⟩
      · refine Nat.le_trans (ndC_le z _) ?_
        exact Nat.le_trans (ih h y hh hy) (Nat.le_of_eq e.symm)
      · have hy2 : y' = y := by simp only [kx] at hk; omega
        have hh2 : h = Pp r * 5 + Ps r := by simp only [kx] at hk; omega
        subst hy2
        refine Nat.le_trans ?_ (Nat.le_of_eq e.symm)
        show niC z Hp (fun r => Pp r * 5 + Ps r) Pq Pa Pb (CCf n z (fun r => Pp r * 5 + Ps r) Pq Pa Pb) (t + 1) (h * 11 + y') ≤ brF (lxG L) (Jt z n m Pp Ps Pq Pa Pb L t) Pq Pa Pb r y'
        refine ndC_at (r := r) ?_ z hr
        have hD : ∀ k, ndC Hp (fun r => Pp r * 5 + Ps r) Pq Pa Pb (niC z Hp (fun r => Pp r * 5 + Ps r) Pq Pa Pb (CCf n z (fun r => Pp r * 5 + Ps r) Pq Pa Pb) t) r k ≤ niC z Hp (fun r => Pp r * 5 + Ps r) Pq Pa Pb (CCf n z (fun r => Pp r * 5 + Ps r) Pq Pa Pb) t k := ndC_le r
        have hoD : okf (ndC Hp (fun r => Pp r * 5 + Ps r) Pq Pa Pb (niC z Hp (fun r => Pp r * 5 + Ps r) Pq Pa Pb (CCf n z (fun r => Pp r * 5 + Ps r) Pq Pa Pb) t) r) := ndC_ok hoC r
        generalize ndC Hp (fun r => Pp r * 5 + Ps r) Pq Pa Pb (niC z Hp (fun r => Pp r * 5 + Ps r) Pq Pa Pb (CCf n z (fun r => Pp r * 5 + Ps r) Pq Pa Pb) t) r = D at hD hoD ⊢
        have hDC : ∀ h y, h < 25 → y < 11 → D (h * 11 + y) ≤ Jt z n m Pp Ps Pq Pa Pb L t (h * 11 + y) := fun h y h1 h2 => Nat.le_trans (hD _) (ih h y h1 h2)
        generalize Jt z n m Pp Ps Pq Pa Pb L t = R at hoR hDC ⊢
        obtain ⟨b1, b2, b3, b4, b5⟩ := hB r
        have hD9 : ∀ k, D k ≤ 9000000000000000000 := fun k => by have := hoD k; omega
        rw [hh2]
        unfold nyC brF
        by_cases ha : Pa r = 0
        · rw [if_pos ha, if_pos ha, if_neg (by omega)]; exact hD9 _
        · rw [if_neg ha, if_neg ha]
          have e1 : ∀ i, rdF (lxG L) R (Pq r) (Pa r - 1) i = R ((Pq r * 5 + (Pa r - 1)) * 11 + i) := fun i => by unfold rdF; rw [if_pos b3, Nat.mul_comm 5]
          by_cases hb : Pb r = 0
          · rw [if_pos hb, hb]
            refine Nat.le_trans (nbC_at1 hoD hy') ?_
            rw [e1]
            exact sm_mono (Nat.le_refl _) (hDC _ y' (by omega) hy') (Or.inl (by decide)) (hoR _)
          · rw [if_neg hb]
            have hov2 := Nat.le_trans (nbC_le (Hp := Hp) (K := D) (hd := Pp r * 5 + Ps r) (i := (Pq r * 5 + (Pa r - 1)) * 11) (w := Pb r) 11 ((Pp r * 5 + Ps r) * 11 + y')) (hD9 _)
            rcases brL_at (Lx := lxG L) (Co := R) (q := Pq r) (a := Pa r - 1) (b := Pb r - 1) (y := y') 11 with q | ⟨i, hi, q⟩
            · rw [q, sm_inf (Or.inr rfl)]; exact hov2
            · rw [q, e1, ← sm_assoc]
              have k1 := nbC_at2 (Hp := Hp) (hd := Pp r * 5 + Ps r) (i := (Pq r * 5 + (Pa r - 1)) * 11) hb hoD (m := 11) hi (y' - 5) (by omega)
              rw [show 5 + (y' - 5) = y' from by omega] at k1
              refine Nat.le_trans k1 ?_
              have t1 : thF Hp D i (Pb r - 1) y' ≤ rdF (lxG L) R i (Pb r - 1) y' := by
                rw [th_rd hN D hi (by omega) hy']
                unfold rdF; split
                · exact hDC _ _ (by omega) hy'
                · exact Nat.le_refl _
              exact sm_mono (sm_mono (Nat.le_refl _) (hDC _ i (by omega) hi) (Or.inl (by decide)) (hoR _)) t1 (sm_okv _ _) (rdF_ok hoR _ _ _)
/-- NET: the class's table is the reference's -/
theorem net_eq (hN : NR Hp L n m) (hB : RB Pp Ps Pq Pa Pb) (hq : ∀ r, r < z → Pq r < n) (hn : n ≤ 5) :
    ∃ tT, (sJ z n m Pp Ps Pq Pa Pb L tT).2.2 = false ∧ (∀ t, t < tT → (sJ z n m Pp Ps Pq Pa Pb L t).2.2 = true) ∧ (∀ h y, h < 25 → y < 11 → KKf n z Hp (fun r => Pp r * 5 + Ps r) Pq Pa Pb (h * 11 + y) = Jt z n m Pp Ps Pq Pa Pb L tT (h * 11 + y)) ∧ (∀ r y, r < z → y < 11 → Jt z n m Pp Ps Pq Pa Pb L tT (kx Pp Ps r y) ≤ brF (lxG L) (Jt z n m Pp Ps Pq Pa Pb L tT) Pq Pa Pb r y) := by
  have hR : ∀ r, Pp r < 5 ∧ Ps r < 5 := fun r => ⟨(hB r).1, (hB r).2.1⟩
  have hq5 : ∀ r, Pq r < 5 := fun r => (hB r).2.2.1
  have hM : ∀ t, ctB (sJ z n m Pp Ps Pq Pa Pb L t).2.1 275 ≤ 275 := fun t => ctB_le _ _
  obtain ⟨tT, hp, hle, hT1, hT2⟩ := sc_end (z := z) (Lx := lxG L) (Pp := Pp) (Ps := Ps) (Pq := Pq) (Pa := Pa) (Pb := Pb) (C0 := iniC (mkG L n m) 275) (S0 := iniS (mkG L n m) 275) hM
  have hfix := sc_fix hR sJ_inv0 hp hT1
  refine ⟨tT, hT1, hT2, ?_, hfix⟩
  have hg : okf (Jt z n m Pp Ps Pq Pa Pb L tT) := sJ_ok _ _ _ _ _ _ _ _ _ _
  have h0 : LBn (Jt z n m Pp Ps Pq Pa Pb L tT) (sfF Hp (CCf n z (fun r => Pp r * 5 + Ps r) Pq Pa Pb)) := by
    intro h y hh hy
    rcases Nat.lt_or_ge y 5 with w | w
    · rw [sfF_lo w]
      exact itC_lb (n := n) (g := Jt z n m Pp Ps Pq Pa Pb L tT) hg hq5 hn hfix 126 h y w
    · have e := sfF_hi (Hp := Hp) (Cv := CCf n z (fun r => Pp r * 5 + Ps r) Pq Pa Pb) (hd := h) (nd := y - 5) (by omega)
      rw [show h * 11 + 5 + (y - 5) = h * 11 + y from by omega, ← mk_at hN hh w hy] at e
      rw [e]
      by_cases q : mkG L n m (h * 11 + y) = true
      · rw [if_pos q]
        have s0 : iniS (mkG L n m) 275 (h * 11 + y) = true := by unfold iniS; rw [q, decide_eq_true (by omega)]; rfl
        have k := (sc_keep (z := z) (Lx := lxG L) (Pp := Pp) (Ps := Ps) (Pq := Pq) (Pa := Pa) (Pb := Pb) (C0 := iniC (mkG L n m) 275) s0 tT).2
        have c0 : iniC (mkG L n m) 275 (h * 11 + y) = 0 := by unfold iniC; rw [if_pos ⟨by omega, q⟩]
        exact Nat.le_of_eq (k.trans c0)
      · rw [if_neg q]; have := hg (h * 11 + y); omega
  intro h y hh hy
  have lb := niC_lbn (z := z) hN hB (CCf_ok n z (fun r => Pp r * 5 + Ps r) Pq Pa Pb) h0 hfix 276 h y hh hy
  have ub := net_ub hN hB hq hn tT h y hh hy
  have dc := niC_dec (z := z) (Hp := Hp) (Hd := fun r => Pp r * 5 + Ps r) (To := Pq) (Tp := Pa) (Bl := Pb) (Cv := CCf n z (fun r => Pp r * 5 + Ps r) Pq Pa Pb) tT (h * 11 + y) (276 - tT)
  rw [show tT + (276 - tT) = 276 from by omega] at dc
  exact Nat.le_antisymm (Nat.le_trans dc ub) lb
end NU
