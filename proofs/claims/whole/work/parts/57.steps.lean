section
theorem s_far {l : Launch} {D : va_G} {cy : Nat → ClassId} {o o7 t : Nat} {wc wm : va_W} (hI : INV t cy o o7 wc wm) (ht : t ≤ 900) (x : Int32) : STL l D cy o o7 t wc wm yX6_far wsX6_far yX7_far wsX7_far [.int x] := by
  obtain ⟨ad, ud, n, m, z, Pp, Ps, Pq, Pa, Pb, c, h, Sg, ns, st, sn, Cv, ci, bo, sh, Ex, Ah, Tl, Rw, N, nf, Lm, Lf, Ly, Lt, La, Co, Lx, Su, Tr, Re, Rc, Hg, rfl, rfl, hR, hs, hC, hN, hRe⟩ := hI
  obtain ⟨⟨hn1, hn, hm, hz⟩, hB, hab, hq⟩ := id hR
  obtain ⟨hc, hh, hS⟩ := id hs
  obtain ⟨i1, i2, i3, i4, i5, i6, i7⟩ := id hC
  by_cases e : inR x ns = true
  · obtain ⟨j, hj, rfl⟩ := inR_of e
    obtain ⟨b1, b2, b3, b4, b5⟩ := hN.2.1 j (by have := hN.1; omega)
    obtain ⟨d1, d2, d3⟩ := hN.2.2.1 j hj
    have hc5 : c < 5 := by omega
    obtain ⟨tT, hT1, hT2, hKK, hfix⟩ := net_eq d2 hB hq hn
    have hTH := TH_of d2 (KKf_ok _ _ _ _ _ _ _) hKK
    have hfar : RWf (N j).2.1 (N j).2.2.2.2.1 (KKf n z (N j).2.2.2.2.1 (fun r => Pp r * 5 + Ps r) Pq Pa Pb) Sg h Rw (h * 11 + c) = RSf (lxG (lkG Lf Ly Lt Lm j)) La (sJ z n m Pp Ps Pq Pa Pb (lkG Lf Ly Lt Lm j) tT).1 Sg Re j h (11 * h + c) := far_eq hTH hS d3 i7 hc5
    have h6 := w6_far_ok (l := l) (D := D) (cy := cy) (o := o) (ad := ad) (m := m) (Hd := fun r => Pp r * 5 + Ps r) (To := Pq) (Tp := Pa) (Bl := Pb) (ci := ci) (bo := bo) (sh := sh) (Ex := Ex) (Ah := Ah) (Tl := Tl) (N := N) j i3 ⟨hn, hz, ru25 hB⟩ (show sn < 1000 by omega) (show st < 1000 by omega) i4 b3 b4 b2 (by omega) b5 i7 hc5 hh hS hN.1 hj
    rw [hfar] at h6
    exact stl h6 (w7_far_ok j tT hB hab hz hN.2.2.2.1 hN.2.2.2.2 hn hm hRe hc5 hh hS hN.1 hj hT1 hT2) (INV_mk hR hs (IC_far hC (RWf_ok i7)) (INt_far hj hN) (RSf_ok hRe _ _)) (by decide)
  · exact stl (w6_far_bad x hN.1 (Bool.eq_false_iff.mpr e)) (w7_far_bad x hN.1 (Bool.eq_false_iff.mpr e)) (INV_mk hR hs (IC_t hC) hN hRe) (by decide)

theorem s_step {l : Launch} {D : va_G} {cy : Nat → ClassId} {o o7 t : Nat} {wc wm : va_W} (hI : INV t cy o o7 wc wm) (ht : t ≤ 900) (x : Int32) : STI l D cy o o7 t wc wm yX6_step wsX6_step yX7_step wsX7_step [.int x] := by
  obtain ⟨ad, ud, n, m, z, Pp, Ps, Pq, Pa, Pb, c, h, Sg, ns, st, sn, Cv, ci, bo, sh, Ex, Ah, Tl, Rw, N, nf, Lm, Lf, Ly, Lt, La, Co, Lx, Su, Tr, Re, Rc, Hg, rfl, rfl, hR, hs, hC, hN, hRe⟩ := hI
  obtain ⟨⟨hn1, hn, hm, hz⟩, hB, hab, hq⟩ := id hR
  obtain ⟨hc, hh, hS⟩ := id hs
  obtain ⟨i1, i2, i3, i4, i5, i6, i7⟩ := id hC
  by_cases e : inR x ns = true
  · obtain ⟨j, hj, rfl⟩ := inR_of e
    obtain ⟨b1, b2, b3, b4, b5⟩ := hN.2.1 j (by have := hN.1; omega)
    obtain ⟨d1, d2, d3⟩ := hN.2.2.1 j hj
    have hc5 : c < 5 := by omega
    obtain ⟨tT, hT1, hT2, hKK, hfix⟩ := net_eq d2 hB hq hn
    have hTH := TH_of d2 (KKf_ok _ _ _ _ _ _ _) hKK
    have hfar : RWf (N j).2.1 (N j).2.2.2.2.1 (KKf n z (N j).2.2.2.2.1 (fun r => Pp r * 5 + Ps r) Pq Pa Pb) Sg h Rw (h * 11 + c) = RSf (lxG (lkG Lf Ly Lt Lm j)) La (sJ z n m Pp Ps Pq Pa Pb (lkG Lf Ly Lt Lm j) tT).1 Sg Re j h (11 * h + c) := far_eq hTH hS d3 i7 hc5
    have hw := fun i hi x hx => RWf_RR hTH hS d3 i7 h i x hi hx
    have he := fun i hi x hx => RSf_RR (Lx := lxG (lkG Lf Ly Lt Lm j)) (La := La) (Co := (sJ z n m Pp Ps Pq Pa Pb (lkG Lf Ly Lt Lm j) tT).1) (Sg := Sg) (j := j) (Re := Re) h i x hi hx
    have hds := he h (Nat.le_refl _) c (by omega)
    by_cases q : RSf (lxG (lkG Lf Ly Lt Lm j)) La (sJ z n m Pp Ps Pq Pa Pb (lkG Lf Ly Lt Lm j) tT).1 Sg Re j h (11 * h + c) = 0 ∨ 1000000000000000 ≤ RSf (lxG (lkG Lf Ly Lt Lm j)) La (sJ z n m Pp Ps Pq Pa Pb (lkG Lf Ly Lt Lm j) tT).1 Sg Re j h (11 * h + c)
    · have h6 := w6_step_not (l := l) (D := D) (cy := cy) (o := o) (ad := ad) (m := m) (Hd := fun r => Pp r * 5 + Ps r) (To := Pq) (Tp := Pa) (Bl := Pb) (ci := ci) (bo := bo) (sh := sh) (Ex := Ex) (Ah := Ah) (Tl := Tl) (N := N) j i3 ⟨hn, hz, ru25 hB⟩ (show sn < 1000 by omega) (show st < 1000 by omega) i4 b3 b4 b2 (by omega) b5 i7 hc5 hh hS hN.1 hj (by rw [hfar]; exact q)
      exact sti h6 (w7_step_not j tT hB hab hz hN.2.2.2.1 hN.2.2.2.2 hn hm hRe hc5 hh hS hN.1 hj hT1 hT2 q) (INV_mk hR hs (IC_far hC (RWf_ok i7)) (INt_far hj hN) (RSf_ok hRe _ _)) (by decide)
    · have hCF := CF_J hB hfix
      have hR2 : ∀ r, Pp r < 5 ∧ Ps r < 5 := fun r => ⟨(hB r).1, (hB r).2.1⟩
      have hx := next_ex hCF hR2 hc5 hS he (by rw [← hds]; omega) (by rw [← hds]; omega)
      obtain ⟨r, _, hr, hP7, hNo7⟩ := nextI_some hx
      have hnn := near_next hTH (sJ_ok _ _ _ _ _ _ _ _ _ _) hB (RWf_ok i7) hc5 hS hw he (ds := RSf (lxG (lkG Lf Ly Lt Lm j)) La (sJ z n m Pp Ps Pq Pa Pb (lkG Lf Ly Lt Lm j) tT).1 Sg Re j h (11 * h + c)) (by omega) (by omega)
      have hP6 := (hnn r).mpr hP7
      have hNo6 : ∀ i, i < r → ¬ nearP (N j).2.2.2.2.1 (KKf n z (N j).2.2.2.2.1 (fun r => Pp r * 5 + Ps r) Pq Pa Pb) (RWf (N j).2.1 (N j).2.2.2.2.1 (KKf n z (N j).2.2.2.2.1 (fun r => Pp r * 5 + Ps r) Pq Pa Pb) Sg h Rw) (fun r => Pp r * 5 + Ps r) Pq Pa Pb Sg c h (RSf (lxG (lkG Lf Ly Lt Lm j)) La (sJ z n m Pp Ps Pq Pa Pb (lkG Lf Ly Lt Lm j) tT).1 Sg Re j h (11 * h + c)) i := fun i hi w => hNo7 i hi ((hnn i).mp w)
      rw [← hfar] at hP6 hNo6
      have hgs := hP7.1
      by_cases hro : Pb r = 0 ∨ h < 60
      · have h6 := w6_step_ok (l := l) (D := D) (cy := cy) (o := o) (ad := ad) (m := m) (Hd := fun r => Pp r * 5 + Ps r) (To := Pq) (Tp := Pa) (Bl := Pb) (ci := ci) (bo := bo) (sh := sh) (Ex := Ex) (Ah := Ah) (Tl := Tl) (N := N) j r i3 ⟨hn, hz, ru25 hB⟩ (show sn < 1000 by omega) (show st < 1000 by omega) i4 b3 b4 b2 (by omega) b5 i7 hc5 hh hS hN.1 hj hr (by rw [hfar]; omega) (by rw [hfar]; omega) hP6 hNo6 hro
        exact sti h6 (w7_step_ok j tT r hB hab hz hN.2.2.2.1 hN.2.2.2.2 hn hm hRe hc5 hh hS hN.1 hj hT1 hT2 hr (by omega) (by omega) hP7 hNo7 hro) (INV_mk hR (IS_go hR hs hr (gsF_pos hgs) hro) (IC_far hC (RWf_ok i7)) (INt_far hj hN) (RSf_ok hRe _ _)) (by decide)
      · have h6 := w6_step_full (l := l) (D := D) (cy := cy) (o := o) (ad := ad) (m := m) (Hd := fun r => Pp r * 5 + Ps r) (To := Pq) (Tp := Pa) (Bl := Pb) (ci := ci) (bo := bo) (sh := sh) (Ex := Ex) (Ah := Ah) (Tl := Tl) (N := N) j r i3 ⟨hn, hz, ru25 hB⟩ (show sn < 1000 by omega) (show st < 1000 by omega) i4 b3 b4 b2 (by omega) b5 i7 hc5 hh hS hN.1 hj hr (by rw [hfar]; omega) (by rw [hfar]; omega) hP6 hNo6 hro
        exact sti h6 (w7_step_full j tT r hB hab hz hN.2.2.2.1 hN.2.2.2.2 hn hm hRe hc5 hh hS hN.1 hj hT1 hT2 hr (by omega) (by omega) hP7 hNo7 hro) (INV_mk hR hs (IC_far hC (RWf_ok i7)) (INt_far hj hN) (RSf_ok hRe _ _)) (by decide)
  · exact sti (w6_step_bad x hN.1 (Bool.eq_false_iff.mpr e)) (w7_step_bad x hN.1 (Bool.eq_false_iff.mpr e)) (INV_mk hR hs (IC_t hC) hN hRe) (by decide)

theorem s_run {l : Launch} {D : va_G} {cy : Nat → ClassId} {o o7 t : Nat} {wc wm : va_W} (hI : INV t cy o o7 wc wm) (ht : t ≤ 900) (x y : Int32) : STI l D cy o o7 t wc wm yX6_run wsX6_run yX7_run wsX7_run [.int x, .int y] := by
  obtain ⟨ad, ud, n, m, z, Pp, Ps, Pq, Pa, Pb, c, h, Sg, ns, st, sn, Cv, ci, bo, sh, Ex, Ah, Tl, Rw, N, nf, Lm, Lf, Ly, Lt, La, Co, Lx, Su, Tr, Re, Rc, Hg, rfl, rfl, hR, hs, hC, hN, hRe⟩ := hI
  obtain ⟨⟨hn1, hn, hm, hz⟩, hB, hab, hq⟩ := id hR
  obtain ⟨hc, hh, hS⟩ := id hs
  obtain ⟨i1, i2, i3, i4, i5, i6, i7⟩ := id hC
  by_cases e : (inR x ns && rg y 0 2000) = true
  · rw [Bool.and_eq_true] at e
    obtain ⟨j, hj, rfl⟩ := inR_of e.1
    obtain ⟨kk, _, hk2, rfl⟩ := rg_of e.2
    obtain ⟨b1, b2, b3, b4, b5⟩ := hN.2.1 j (by have := hN.1; omega)
    obtain ⟨d1, d2, d3⟩ := hN.2.2.1 j hj
    have hc5 : c < 5 := by omega
    obtain ⟨tT, hT1, hT2, hKK, hfix⟩ := net_eq d2 hB hq hn
    have hTH := TH_of d2 (KKf_ok _ _ _ _ _ _ _) hKK
    have hfar : RWf (N j).2.1 (N j).2.2.2.2.1 (KKf n z (N j).2.2.2.2.1 (fun r => Pp r * 5 + Ps r) Pq Pa Pb) Sg h Rw (h * 11 + c) = RSf (lxG (lkG Lf Ly Lt Lm j)) La (sJ z n m Pp Ps Pq Pa Pb (lkG Lf Ly Lt Lm j) tT).1 Sg Re j h (11 * h + c) := far_eq hTH hS d3 i7 hc5
    have hw := fun i hi x hx => RWf_RR hTH hS d3 i7 h i x hi hx
    have he := fun i hi x hx => RSf_RR (Lx := lxG (lkG Lf Ly Lt Lm j)) (La := La) (Co := (sJ z n m Pp Ps Pq Pa Pb (lkG Lf Ly Lt Lm j) tT).1) (Sg := Sg) (j := j) (Re := Re) h i x hi hx
    have hds := he h (Nat.le_refl _) c (by omega)
    by_cases q : 1000000000000000 ≤ RSf (lxG (lkG Lf Ly Lt Lm j)) La (sJ z n m Pp Ps Pq Pa Pb (lkG Lf Ly Lt Lm j) tT).1 Sg Re j h (11 * h + c)
    · have h6 := w6_run_not (l := l) (D := D) (cy := cy) (o := o) (ad := ad) (m := m) (Hd := fun r => Pp r * 5 + Ps r) (To := Pq) (Tp := Pa) (Bl := Pb) (ci := ci) (bo := bo) (sh := sh) (Ex := Ex) (Ah := Ah) (Tl := Tl) (N := N) j kk i3 ⟨hn, hz, ru25 hB⟩ (show sn < 1000 by omega) (show st < 1000 by omega) i4 b3 b4 b2 (by omega) b5 i7 hc5 hh hS hN.1 hj hk2 (by rw [hfar]; exact q)
      exact sti h6 (w7_run_not j tT kk hB hab hz hN.2.2.2.1 hN.2.2.2.2 hn hm hRe hc5 hh hS hN.1 hj hT1 hT2 hk2 q) (INV_mk hR hs (IC_far hC (RWf_ok i7)) (INt_far hj hN) (RSf_ok hRe _ _)) (by decide)
    · have hCF := CF_J hB hfix
      have hR2 : ∀ r, Pp r < 5 ∧ Ps r < 5 := fun r => ⟨(hB r).1, (hB r).2.1⟩
      have hRn := run_eq hTH hCF hB hab hq hn kk (RWf (N j).2.1 (N j).2.2.2.2.1 (KKf n z (N j).2.2.2.2.1 (fun r => Pp r * 5 + Ps r) Pq Pa Pb) Sg h Rw (h * 11 + c)) c h Sg (RWf (N j).2.1 (N j).2.2.2.2.1 (KKf n z (N j).2.2.2.2.1 (fun r => Pp r * 5 + Ps r) Pq Pa Pb) Sg h Rw) (RSf (lxG (lkG Lf Ly Lt Lm j)) La (sJ z n m Pp Ps Pq Pa Pb (lkG Lf Ly Lt Lm j) tT).1 Sg Re j h) hc hh hS (RWf_ok i7) (RSf_ok hRe _ _) hw he (by rw [hfar]; exact hds) (by rw [hfar]; omega)
      have h6 := fun mt cf hf Sf Rf hfin => w6_run_ok (l := l) (D := D) (cy := cy) (o := o) (ad := ad) (m := m) (Hd := fun r => Pp r * 5 + Ps r) (To := Pq) (Tp := Pa) (Bl := Pb) (ci := ci) (bo := bo) (sh := sh) (Ex := Ex) (Ah := Ah) (Tl := Tl) (N := N) (sn := sn) (Cv := Cv) (Rw := Rw) j kk mt cf hf Sf Rf i3 ⟨hn, hz, ru25 hB⟩ (show sn < 1000 by omega) (show st < 1000 by omega) i4 b3 b4 b2 (by omega) b5 i7 hc5 hh hS hN.1 hj hk2 (by rw [hfar]; omega) hab hfin
      have h7 := fun mt cf hf Sf Rf hfin => w7_run_ok (l := l) (D := D) (cy := cy) (o7 := o7) (ud := ud) (nf := nf) (La := La) (Co := Co) (Lx := Lx) (Su := Su) (Tr := Tr) (Rc := Rc) (Hg := Hg) j tT kk mt cf hf Sf Rf hB hab hz hN.2.2.2.1 hN.2.2.2.2 hn hm hRe hc5 hh hS hN.1 hj hT1 hT2 hk2 (by omega) (fun c1 h1 S1 R0 hc1 hh1 hS1 hR0 z1 z2 => next_ex hCF hR2 hc1 hS1 (fun i hi x hx => RSf_RR h1 i x hi hx) (by rw [← RSf_RR (Re := R0) h1 h1 c1 (Nat.le_refl _) (by omega)]; exact z1) (by rw [← RSf_RR (Re := R0) h1 h1 c1 (Nat.le_refl _) (by omega)]; exact z2)) hfin
      generalize rnF z (N j).2.2.2.2.1 (KKf n z (N j).2.2.2.2.1 (fun r => Pp r * 5 + Ps r) Pq Pa Pb) (fun r => Pp r * 5 + Ps r) Pq Pa Pb kk (RWf (N j).2.1 (N j).2.2.2.2.1 (KKf n z (N j).2.2.2.2.1 (fun r => Pp r * 5 + Ps r) Pq Pa Pb) Sg h Rw (h * 11 + c)) c h Sg (RWf (N j).2.1 (N j).2.2.2.2.1 (KKf n z (N j).2.2.2.2.1 (fun r => Pp r * 5 + Ps r) Pq Pa Pb) Sg h Rw) = X at hRn h6
      generalize rmF z (lxG (lkG Lf Ly Lt Lm j)) La (sJ z n m Pp Ps Pq Pa Pb (lkG Lf Ly Lt Lm j) tT).1 Pp Ps Pq Pa Pb j kk c h Sg (RSf (lxG (lkG Lf Ly Lt Lm j)) La (sJ z n m Pp Ps Pq Pa Pb (lkG Lf Ly Lt Lm j) tT).1 Sg Re j h) = Y at hRn h7
      obtain ⟨mt, cf, hf, Sf, Rf⟩ := X
      obtain ⟨mt', cf', hf', Sf', Rf'⟩ := Y
      obtain ⟨q1, q2, q3, q4, q5, q6, q7, q8, q9⟩ := hRn
      simp only at q1 q2 q3 q4 q5 q6 q7 q8 q9
      subst q1; subst q2; subst q3; subst q4
      exact sti (h6 _ _ _ _ _ rfl) (h7 _ _ _ _ _ rfl) (INV_mk hR ⟨q7, q8, q9⟩ (IC_far hC q5) (INt_far hj hN) q6) (by decide)
  · exact sti (w6_run_bad x y hN.1 (Bool.eq_false_iff.mpr e)) (w7_run_bad x y hN.1 (Bool.eq_false_iff.mpr e)) (INV_mk hR hs (IC_t hC) hN hRe) (by decide)

theorem s_pop {l : Launch} {D : va_G} {cy : Nat → ClassId} {o o7 t : Nat} {wc wm : va_W} (hI : INV t cy o o7 wc wm) (ht : t ≤ 900) (p s q : Int32) : STL l D cy o o7 t wc wm yX6_pop wsX6_pop yX7_pop wsX7_pop [.int p, .int s, .int q] := by
  obtain ⟨ad, ud, n, m, z, Pp, Ps, Pq, Pa, Pb, c, h, Sg, ns, st, sn, Cv, ci, bo, sh, Ex, Ah, Tl, Rw, N, nf, Lm, Lf, Ly, Lt, La, Co, Lx, Su, Tr, Re, Rc, Hg, rfl, rfl, hR, hs, hC, hN, hRe⟩ := hI
  obtain ⟨⟨hn1, hn, hm, hz⟩, hB, hab, hq⟩ := id hR
  obtain ⟨hc, hh, hS⟩ := id hs
  obtain ⟨i1, i2, i3, i4, i5, i6, i7⟩ := id hC
  by_cases e : (inR p n && inR s m && inR q n) = true
  · rw [Bool.and_eq_true, Bool.and_eq_true] at e
    obtain ⟨p, hp, rfl⟩ := inR_of e.1.1
    obtain ⟨s, hs', rfl⟩ := inR_of e.1.2
    obtain ⟨q, hq', rfl⟩ := inR_of e.2
    obtain ⟨tT, hT1, hT2, hpe⟩ := pops_eq (Pa := Pa) (Pb := Pb) (fun r => ⟨(hB r).1, (hB r).2.1⟩) hq (fun r => (hB r).2.2.1) hn
    have h6 := w6_pop_ok (l := l) (D := D) (cy := cy) (o := o) (ad := ad) (Hd := fun r => Pp r * 5 + Ps r) (To := Pq) (Tp := Pa) (Bl := Pb) (c := c) (h := h) (Sg := Sg) (ns := ns) (ci := ci) (bo := bo) (sh := sh) (Ex := Ex) (Ah := Ah) (Tl := Tl) (Rw := Rw) (N := N) p s q i3 ⟨hn, hz, ru25 hB⟩ (show sn < 1000 by omega) (show st < 1000 by omega) i4 hm hp hs' hq'
    rw [hpe (p * 5 + s) q (by omega), Nat.mul_comm p 5] at h6
    exact stl h6 (w7_pop_ok p s q tT hB hz hN.2.2.2.1 hN.2.2.2.2 hn hm hT1 hT2 hp hs' hq') (INV_mk hR hs (IC_pop hC) hN hRe) (by decide)
  · exact stl (w6_pop_bad p s q hn hm (Bool.eq_false_iff.mpr e)) (w7_pop_bad p s q hn hm (Bool.eq_false_iff.mpr e)) (INV_mk hR hs (IC_t hC) hN hRe) (by decide)

theorem s_endless {l : Launch} {D : va_G} {cy : Nat → ClassId} {o o7 t : Nat} {wc wm : va_W} (hI : INV t cy o o7 wc wm) (ht : t ≤ 900)  : STI l D cy o o7 t wc wm yX6_endless wsX6_endless yX7_endless wsX7_endless [] := by
  obtain ⟨ad, ud, n, m, z, Pp, Ps, Pq, Pa, Pb, c, h, Sg, ns, st, sn, Cv, ci, bo, sh, Ex, Ah, Tl, Rw, N, nf, Lm, Lf, Ly, Lt, La, Co, Lx, Su, Tr, Re, Rc, Hg, rfl, rfl, hR, hs, hC, hN, hRe⟩ := hI
  obtain ⟨⟨hn1, hn, hm, hz⟩, hB, hab, hq⟩ := id hR
  obtain ⟨hc, hh, hS⟩ := id hs
  obtain ⟨i1, i2, i3, i4, i5, i6, i7⟩ := id hC
  obtain ⟨tT, hT1, hT2, hpe⟩ := pops_eq (Pa := Pa) (Pb := Pb) (fun r => ⟨(hB r).1, (hB r).2.1⟩) hq (fun r => (hB r).2.2.1) hn
  have hPQ : PQ n (CCf n z (fun r => Pp r * 5 + Ps r) Pq Pa Pb) (sN z Pp Ps Pq Pa Pb tT).1 := ⟨hpe, fun k hk => Ct_inf hq (fun r => (hB r).2.2.1) tT k hk, hn⟩
  have h6 := w6_endless (l := l) (D := D) (cy := cy) (o := o) (ad := ad) (m := m) (Hd := fun r => Pp r * 5 + Ps r) (To := Pq) (Tp := Pa) (Bl := Pb) (ns := ns) (Rw := Rw) (N := N) i3 ⟨hn, hz, ru25 hB⟩ (show sn < 1000 by omega) (show st < 1000 by omega) i4 hab (show sh < 1000 by omega) i6 (show c < 5 by omega) hh hS
  rw [endless_eq hPQ hB hS hc h] at h6
  exact sti h6 (w7_endless tT hB hz hN.2.2.2.1 hN.2.2.2.2 hn hm hT1 hT2 (by omega) hh hS) (INV_mk hR hs (IC_heads hC) hN hRe) (by decide)

theorem s_high {l : Launch} {D : va_G} {cy : Nat → ClassId} {o o7 t : Nat} {wc wm : va_W} (hI : INV t cy o o7 wc wm) (ht : t ≤ 900)  : STI l D cy o o7 t wc wm yX6_high wsX6_high yX7_high wsX7_high [] := by
  obtain ⟨ad, ud, n, m, z, Pp, Ps, Pq, Pa, Pb, c, h, Sg, ns, st, sn, Cv, ci, bo, sh, Ex, Ah, Tl, Rw, N, nf, Lm, Lf, Ly, Lt, La, Co, Lx, Su, Tr, Re, Rc, Hg, rfl, rfl, hR, hs, hC, hN, hRe⟩ := hI
  obtain ⟨⟨hn1, hn, hm, hz⟩, hB, hab, hq⟩ := id hR
  obtain ⟨hc, hh, hS⟩ := id hs
  obtain ⟨i1, i2, i3, i4, i5, i6, i7⟩ := id hC
  obtain ⟨tT, hT1, hT2, hpe⟩ := pops_eq (Pa := Pa) (Pb := Pb) (fun r => ⟨(hB r).1, (hB r).2.1⟩) hq (fun r => (hB r).2.2.1) hn
  have hPQ : PQ n (CCf n z (fun r => Pp r * 5 + Ps r) Pq Pa Pb) (sN z Pp Ps Pq Pa Pb tT).1 := ⟨hpe, fun k hk => Ct_inf hq (fun r => (hB r).2.2.1) tT k hk, hn⟩
  have h6 := w6_high (l := l) (D := D) (cy := cy) (o := o) (ad := ad) (m := m) (Hd := fun r => Pp r * 5 + Ps r) (To := Pq) (Tp := Pa) (Bl := Pb) (ns := ns) (Rw := Rw) (N := N) i3 ⟨hn, hz, ru25 hB⟩ (show sn < 1000 by omega) (show st < 1000 by omega) i4 hab (show sh < 1000 by omega) i6 (show c < 5 by omega) hh hS
  rw [high_eq hPQ hB hab hS hc h] at h6
  exact sti h6 (w7_high tT hB hz hN.2.2.2.1 hN.2.2.2.2 hn hm hT1 hT2 (by omega) hh hS) (INV_mk hR hs (IC_heads hC) hN hRe) (by decide)

end
