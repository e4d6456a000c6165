section
theorem fit_of {a b : Int32} {m : Nat} (h : fitB a b m = true) : ∃ a' b' : Nat, a = oI a' ∧ b = oI b' ∧ a' ≤ m ∧ b' ≤ m ∧ (a' = 0 → b' = 0) := by
  unfold fitB at h
  by_cases e : a = -1
  · rw [if_pos e, decide_eq_true_eq] at h
    exact ⟨0, 0, by rw [e, oI_0], by rw [h, oI_0], Nat.zero_le _, Nat.zero_le _, fun _ => rfl⟩
  · rw [if_neg e, Bool.and_eq_true, Bool.or_eq_true, decide_eq_true_eq] at h
    obtain ⟨i, hi, rfl⟩ := inR_of h.1
    rcases h.2 with q | q
    · exact ⟨i + 1, 0, (oI_s i).symm, by rw [q, oI_0], hi, Nat.zero_le _, fun _ => rfl⟩
    · obtain ⟨k, hk, rfl⟩ := inR_of q
      exact ⟨i + 1, k + 1, (oI_s i).symm, (oI_s k).symm, hi, hk, fun x => by omega⟩
theorem up_hd (Pp Ps : Nat → Nat) (z p s : Nat) : up (fun r => Pp r * 5 + Ps r) z (p * 5 + s) = fun r => up Pp z p r * 5 + up Ps z s r := by
  funext r; simp only [up]; split <;> rfl
theorem ru25 {Pp Ps Pq Pa Pb : Nat → Nat} (hB : RB Pp Ps Pq Pa Pb) : ∀ r, (fun r => Pp r * 5 + Ps r) r < 25 ∧ Pq r < 5 ∧ Pa r ≤ 5 ∧ Pb r ≤ 5 := by
  intro r
  obtain ⟨a1, a2, a3, a4, a5⟩ := hB r
  exact ⟨show Pp r * 5 + Ps r < 25 by omega, a3, a4, a5⟩
theorem IR_add {n m z : Nat} {Pp Ps Pq Pa Pb : Nat → Nat} {p s q a b : Nat} (hR : IR n m z Pp Ps Pq Pa Pb) (hz : z < 30) (hp : p < n) (hs : s < m) (hq : q < n) (ha : a ≤ m) (hb : b ≤ m) (hab : a = 0 → b = 0) : IR n m (z + 1) (up Pp z p) (up Ps z s) (up Pq z q) (up Pa z a) (up Pb z b) := by
  obtain ⟨⟨hn1, hn, hm, hz2⟩, hB, h3, h4⟩ := hR
  refine ⟨⟨hn1, hn, hm, by omega⟩, fun r => ?_, fun r => ?_, fun r hr => ?_⟩
  · by_cases e : r = z
    · subst e; simp only [up_same]; exact ⟨by omega, by omega, by omega, by omega, by omega⟩
    · simp only [up_ne _ _ e]; exact hB r
  · by_cases e : r = z
    · subst e; simp only [up_same]; exact hab
    · simp only [up_ne _ _ e]; exact h3 r
  · by_cases e : r = z
    · subst e; simp only [up_same]; exact hq
    · simp only [up_ne _ _ e]; exact h4 r (by omega)
theorem IS_go {n z c h : Nat} {m : Nat} {Pp Ps Pq Pa Pb Sg : Nat → Nat} {r : Nat} (hR : IR n m z Pp Ps Pq Pa Pb) (hs : IS n c h Sg) (hr : r < z) (h0 : 0 < h) (hro : Pb r = 0 ∨ h < 60) : IS n (Pq r) (chH h (Pa r) (Pb r)) (chS Sg h (Pa r) (Pb r)) := by
  obtain ⟨_, hB, h3, h4⟩ := hR
  exact ⟨h4 r hr, (chH_le hs.2.1 h0 (h3 r) hro).1, chS_lt hs.2.2 (hB r).2.2.2.1 (hB r).2.2.2.2⟩
theorem s_machine {l : Launch} {D : va_G} {cy : Nat → ClassId} {o o7 t : Nat} {wc wm : va_W} (hI : INV t cy o o7 wc wm) (ht : t ≤ 900) (a b : Int32) : STI l D cy o o7 t wc wm yX6_machine wsX6_machine yX7_machine wsX7_machine [.int a, .int b] := by
  obtain ⟨ad, ud, n, m, z, Pp, Ps, Pq, Pa, Pb, c, h, Sg, ns, st, sn, Cv, ci, bo, sh, Ex, Ah, Tl, Rw, N, nf, Lm, Lf, Ly, Lt, La, Co, Lx, Su, Tr, Re, Rc, Hg, rfl, rfl, hR, hs, hC, hN, hRe⟩ := hI
  obtain ⟨⟨hn1, hn, hm, hz⟩, hB, hab, hq⟩ := id hR
  obtain ⟨hc, hh, hS⟩ := id hs
  obtain ⟨i1, i2, i3, i4, i5, i6, i7⟩ := id hC
  by_cases e : (rg a 1 5 && rg b 1 5) = true
  · rw [Bool.and_eq_true] at e
    obtain ⟨i, a1, a2, rfl⟩ := rg_of e.1
    obtain ⟨j, b1, b2, rfl⟩ := rg_of e.2
    exact sti (w6_machine_ok i j ⟨a1, a2⟩ ⟨b1, b2⟩) (w7_machine_ok i j ⟨a1, a2⟩ ⟨b1, b2⟩) (INV_mk ⟨⟨a1, a2, b2, Nat.zero_le _⟩, hB, hab, fun r hr => absurd hr (Nat.not_lt_zero r)⟩ ⟨a1, Nat.zero_le _, hS⟩ (IC_new hC) (INt_0 hN) hRe) (by decide)
  · exact sti (w6_machine_bad a b (Bool.eq_false_iff.mpr e)) (w7_machine_bad a b (Bool.eq_false_iff.mpr e)) (INV_mk hR hs (IC_t hC) hN hRe) (by decide)

theorem s_rule {l : Launch} {D : va_G} {cy : Nat → ClassId} {o o7 t : Nat} {wc wm : va_W} (hI : INV t cy o o7 wc wm) (ht : t ≤ 900) (p s q a b : Int32) : STI l D cy o o7 t wc wm yX6_rule wsX6_rule yX7_rule wsX7_rule [.int p, .int s, .int q, .int a, .int b] := by
  obtain ⟨ad, ud, n, m, z, Pp, Ps, Pq, Pa, Pb, c, h, Sg, ns, st, sn, Cv, ci, bo, sh, Ex, Ah, Tl, Rw, N, nf, Lm, Lf, Ly, Lt, La, Co, Lx, Su, Tr, Re, Rc, Hg, rfl, rfl, hR, hs, hC, hN, hRe⟩ := hI
  obtain ⟨⟨hn1, hn, hm, hz⟩, hB, hab, hq⟩ := id hR
  obtain ⟨hc, hh, hS⟩ := id hs
  obtain ⟨i1, i2, i3, i4, i5, i6, i7⟩ := id hC
  by_cases e : (inR p n && inR s m && inR q n && fitB a b m) = true
  · rw [Bool.and_eq_true, Bool.and_eq_true, Bool.and_eq_true] at e
    obtain ⟨p, hp, rfl⟩ := inR_of e.1.1.1
    obtain ⟨s, hs', rfl⟩ := inR_of e.1.1.2
    obtain ⟨q, hq', rfl⟩ := inR_of e.1.2
    obtain ⟨a, b, rfl, rfl, ha, hb, hab'⟩ := fit_of e.2
    by_cases e30 : z = 30
    · exact sti (w6_rule_full p s q a b hn hm e30 hp hs' hq' ha hb hab') (w7_rule_full p s q a b hn hm e30 hp hs' hq' ha hb hab') (INV_mk hR hs (IC_t hC) hN hRe) (by decide)
    · have hz' : z < 30 := by omega
      have h6 := w6_rule_ok (l := l) (D := D) (cy := cy) (o := o) (ad := ad) (st := st) (Hd := fun r => Pp r * 5 + Ps r) (To := Pq) (Tp := Pa) (Bl := Pb) (c := c) (h := h) (Sg := Sg) (ns := ns) (sn := sn) (Cv := Cv) (ci := ci) (bo := bo) (sh := sh) (Ex := Ex) (Ah := Ah) (Tl := Tl) (Rw := Rw) (N := N) p s q a b hn hm hz' hp hs' hq' ha hb hab'
      rw [up_hd] at h6
      exact sti h6 (w7_rule_ok p s q a b hn hm hz' hp hs' hq' ha hb hab') (INV_mk (IR_add hR hz' hp hs' hq' ha hb hab') hs (IC_new hC) (INt_new hN) hRe) (by decide)
  · exact sti (w6_rule_bad p s q a b hn hm (Bool.eq_false_iff.mpr e)) (w7_rule_bad p s q a b hn hm (Bool.eq_false_iff.mpr e)) (INV_mk hR hs (IC_t hC) hN hRe) (by decide)

theorem s_unrule {l : Launch} {D : va_G} {cy : Nat → ClassId} {o o7 t : Nat} {wc wm : va_W} (hI : INV t cy o o7 wc wm) (ht : t ≤ 900)  : STI l D cy o o7 t wc wm yX6_unrule wsX6_unrule yX7_unrule wsX7_unrule [] := by
  obtain ⟨ad, ud, n, m, z, Pp, Ps, Pq, Pa, Pb, c, h, Sg, ns, st, sn, Cv, ci, bo, sh, Ex, Ah, Tl, Rw, N, nf, Lm, Lf, Ly, Lt, La, Co, Lx, Su, Tr, Re, Rc, Hg, rfl, rfl, hR, hs, hC, hN, hRe⟩ := hI
  obtain ⟨⟨hn1, hn, hm, hz⟩, hB, hab, hq⟩ := id hR
  obtain ⟨hc, hh, hS⟩ := id hs
  obtain ⟨i1, i2, i3, i4, i5, i6, i7⟩ := id hC
  by_cases e : z = 0
  · exact sti (w6_unrule_not e) (w7_unrule_not e) (INV_mk hR hs (IC_t hC) hN hRe) (by decide)
  · exact sti (w6_unrule_ok ⟨by omega, hz⟩) (w7_unrule_ok ⟨by omega, hz⟩) (INV_mk ⟨⟨hn1, hn, hm, by omega⟩, hB, hab, fun r hr => hq r (by omega)⟩ hs (IC_new hC) (INt_new hN) hRe) (by decide)

theorem s_stand {l : Launch} {D : va_G} {cy : Nat → ClassId} {o o7 t : Nat} {wc wm : va_W} (hI : INV t cy o o7 wc wm) (ht : t ≤ 900) (p : Int32) : STI l D cy o o7 t wc wm yX6_stand wsX6_stand yX7_stand wsX7_stand [.int p] := by
  obtain ⟨ad, ud, n, m, z, Pp, Ps, Pq, Pa, Pb, c, h, Sg, ns, st, sn, Cv, ci, bo, sh, Ex, Ah, Tl, Rw, N, nf, Lm, Lf, Ly, Lt, La, Co, Lx, Su, Tr, Re, Rc, Hg, rfl, rfl, hR, hs, hC, hN, hRe⟩ := hI
  obtain ⟨⟨hn1, hn, hm, hz⟩, hB, hab, hq⟩ := id hR
  obtain ⟨hc, hh, hS⟩ := id hs
  obtain ⟨i1, i2, i3, i4, i5, i6, i7⟩ := id hC
  by_cases e : inR p n = true
  · obtain ⟨p, hp, rfl⟩ := inR_of e
    exact sti (w6_stand_ok p hn hp) (w7_stand_ok p hn hp) (INV_mk hR ⟨hp, Nat.zero_le _, hS⟩ (IC_t hC) hN hRe) (by decide)
  · exact sti (w6_stand_bad p hn (Bool.eq_false_iff.mpr e)) (w7_stand_bad p hn (Bool.eq_false_iff.mpr e)) (INV_mk hR hs (IC_t hC) hN hRe) (by decide)

theorem s_push {l : Launch} {D : va_G} {cy : Nat → ClassId} {o o7 t : Nat} {wc wm : va_W} (hI : INV t cy o o7 wc wm) (ht : t ≤ 900) (s : Int32) : STI l D cy o o7 t wc wm yX6_push wsX6_push yX7_push wsX7_push [.int s] := by
  obtain ⟨ad, ud, n, m, z, Pp, Ps, Pq, Pa, Pb, c, h, Sg, ns, st, sn, Cv, ci, bo, sh, Ex, Ah, Tl, Rw, N, nf, Lm, Lf, Ly, Lt, La, Co, Lx, Su, Tr, Re, Rc, Hg, rfl, rfl, hR, hs, hC, hN, hRe⟩ := hI
  obtain ⟨⟨hn1, hn, hm, hz⟩, hB, hab, hq⟩ := id hR
  obtain ⟨hc, hh, hS⟩ := id hs
  obtain ⟨i1, i2, i3, i4, i5, i6, i7⟩ := id hC
  by_cases e : inR s m = true
  · obtain ⟨s, hs', rfl⟩ := inR_of e
    by_cases e60 : h = 60
    · exact sti (w6_push_full s hm hs' e60) (w7_push_full s hm hs' e60) (INV_mk hR hs (IC_t hC) hN hRe) (by decide)
    · have h60 : h < 60 := by omega
      exact sti (w6_push_ok s hm hs' h60) (w7_push_ok s hm hs' h60) (INV_mk hR ⟨hc, by omega, up5 hS (by omega)⟩ (IC_t hC) hN hRe) (by decide)
  · exact sti (w6_push_bad s hm (Bool.eq_false_iff.mpr e)) (w7_push_bad s hm (Bool.eq_false_iff.mpr e)) (INV_mk hR hs (IC_t hC) hN hRe) (by decide)

theorem s_at {l : Launch} {D : va_G} {cy : Nat → ClassId} {o o7 t : Nat} {wc wm : va_W} (hI : INV t cy o o7 wc wm) (ht : t ≤ 900) (i : Int32) : STI l D cy o o7 t wc wm yX6_at wsX6_at yX7_at wsX7_at [.int i] := by
  obtain ⟨ad, ud, n, m, z, Pp, Ps, Pq, Pa, Pb, c, h, Sg, ns, st, sn, Cv, ci, bo, sh, Ex, Ah, Tl, Rw, N, nf, Lm, Lf, Ly, Lt, La, Co, Lx, Su, Tr, Re, Rc, Hg, rfl, rfl, hR, hs, hC, hN, hRe⟩ := hI
  obtain ⟨⟨hn1, hn, hm, hz⟩, hB, hab, hq⟩ := id hR
  obtain ⟨hc, hh, hS⟩ := id hs
  obtain ⟨i1, i2, i3, i4, i5, i6, i7⟩ := id hC
  by_cases e1 : i = -1
  · rw [← oI_0] at e1
    subst e1
    exact sti (w6_at_c hh) (w7_at_c hh) (INV_mk hR hs (IC_t hC) hN hRe) (by decide)
  · by_cases e : inR i h = true
    · obtain ⟨i, hi, rfl⟩ := inR_of e
      exact sti (w6_at_s i hh hi) (w7_at_s i hh hi) (INV_mk hR hs (IC_t hC) hN hRe) (by decide)
    · exact sti (w6_at_bad i hh e1 (Bool.eq_false_iff.mpr e)) (w7_at_bad i hh e1 (Bool.eq_false_iff.mpr e)) (INV_mk hR hs (IC_t hC) hN hRe) (by decide)

theorem s_go {l : Launch} {D : va_G} {cy : Nat → ClassId} {o o7 t : Nat} {wc wm : va_W} (hI : INV t cy o o7 wc wm) (ht : t ≤ 900) (r : Int32) : STI l D cy o o7 t wc wm yX6_go wsX6_go yX7_go wsX7_go [.int r] := by
  obtain ⟨ad, ud, n, m, z, Pp, Ps, Pq, Pa, Pb, c, h, Sg, ns, st, sn, Cv, ci, bo, sh, Ex, Ah, Tl, Rw, N, nf, Lm, Lf, Ly, Lt, La, Co, Lx, Su, Tr, Re, Rc, Hg, rfl, rfl, hR, hs, hC, hN, hRe⟩ := hI
  obtain ⟨⟨hn1, hn, hm, hz⟩, hB, hab, hq⟩ := id hR
  obtain ⟨hc, hh, hS⟩ := id hs
  obtain ⟨i1, i2, i3, i4, i5, i6, i7⟩ := id hC
  by_cases e : inR r z = true
  · obtain ⟨r, hr, rfl⟩ := inR_of e
    have hhd := head_iff (c := c) (h := h) (Sg := Sg) (i := r) ⟨(hB r).1, (hB r).2.1⟩ (by omega) hS
    by_cases g : gsF c h Pp Ps Sg r = true
    · by_cases hro : Pb r = 0 ∨ h < 60
      · exact sti (w6_go_ok r (ru25 hB) hz (by omega) hh hS hr (hhd.mpr g) hro) (w7_go_ok r hB hab hz (by omega) hh hS hr g hro) (INV_mk hR (IS_go hR hs hr (gsF_pos g) hro) (IC_t hC) hN hRe) (by decide)
      · exact sti (w6_go_full r (ru25 hB) hz (by omega) hh hS hr (hhd.mpr g) hro) (w7_go_full r hB hab hz (by omega) hh hS hr g hro) (INV_mk hR hs (IC_t hC) hN hRe) (by decide)
    · exact sti (w6_go_not r (ru25 hB) hz (by omega) hh hS hr (fun q => g (hhd.mp q))) (w7_go_not r hB hab hz (by omega) hh hS hr (Bool.eq_false_iff.mpr g)) (INV_mk hR hs (IC_t hC) hN hRe) (by decide)
  · exact sti (w6_go_bad r hz (Bool.eq_false_iff.mpr e)) (w7_go_bad r hz (Bool.eq_false_iff.mpr e)) (INV_mk hR hs (IC_t hC) hN hRe) (by decide)

theorem s_set {l : Launch} {D : va_G} {cy : Nat → ClassId} {o o7 t : Nat} {wc wm : va_W} (hI : INV t cy o o7 wc wm) (ht : t ≤ 900)  : STI l D cy o o7 t wc wm yX6_set wsX6_set yX7_set wsX7_set [] := by
  obtain ⟨ad, ud, n, m, z, Pp, Ps, Pq, Pa, Pb, c, h, Sg, ns, st, sn, Cv, ci, bo, sh, Ex, Ah, Tl, Rw, N, nf, Lm, Lf, Ly, Lt, La, Co, Lx, Su, Tr, Re, Rc, Hg, rfl, rfl, hR, hs, hC, hN, hRe⟩ := hI
  obtain ⟨⟨hn1, hn, hm, hz⟩, hB, hab, hq⟩ := id hR
  obtain ⟨hc, hh, hS⟩ := id hs
  obtain ⟨i1, i2, i3, i4, i5, i6, i7⟩ := id hC
  by_cases e : ns = 6
  · exact sti (w6_set_full e) (w7_set_full e) (INV_mk hR hs (IC_t hC) hN hRe) (by decide)
  · have hns : ns < 6 := by have := hN.1; omega
    exact sti (w6_set_ok hns) (w7_set_ok hns) (INV_mk hR hs (IC_t hC) (INt_set hns hN) hRe) (by decide)

theorem s_link {l : Launch} {D : va_G} {cy : Nat → ClassId} {o o7 t : Nat} {wc wm : va_W} (hI : INV t cy o o7 wc wm) (ht : t ≤ 900) (x w y s u : Int32) : STI l D cy o o7 t wc wm yX6_link wsX6_link yX7_link wsX7_link [.int x, .int w, .int y, .int s, .int u] := by
  obtain ⟨ad, ud, n, m, z, Pp, Ps, Pq, Pa, Pb, c, h, Sg, ns, st, sn, Cv, ci, bo, sh, Ex, Ah, Tl, Rw, N, nf, Lm, Lf, Ly, Lt, La, Co, Lx, Su, Tr, Re, Rc, Hg, rfl, rfl, hR, hs, hC, hN, hRe⟩ := hI
  obtain ⟨⟨hn1, hn, hm, hz⟩, hB, hab, hq⟩ := id hR
  obtain ⟨hc, hh, hS⟩ := id hs
  obtain ⟨i1, i2, i3, i4, i5, i6, i7⟩ := id hC
  by_cases e : (inR x ns && plR w y n && inR s m && inR u 6) = true
  · rw [Bool.and_eq_true, Bool.and_eq_true, Bool.and_eq_true] at e
    obtain ⟨j, hj, rfl⟩ := inR_of e.1.1.1
    obtain ⟨w, y, rfl, rfl, hw, hy⟩ := plR_of e.1.1.2
    obtain ⟨s, hs', rfl⟩ := inR_of e.1.2
    obtain ⟨u, hu, rfl⟩ := inR_of e.2
    have e1 := (hN.2.2.1 j hj).1
    have e2 := hN.2.2.2.2 j
    by_cases e24 : Lm j = 24
    · exact sti (w6_link_full j w y s u hn hm hN.1 hj hw hy hs' hu (by omega)) (w7_link_full j w y s u hn hm hN.1 hj hw hy hs' hu hN.2.2.2.2 e24) (INV_mk hR hs (IC_t hC) hN hRe) (by decide)
    · have hlk : Lm j < 24 := by omega
      have h6 := w6_link_ok (l := l) (D := D) (cy := cy) (o := o) (ad := ad) (z := z) (st := st) (Hd := fun r => Pp r * 5 + Ps r) (To := Pq) (Tp := Pa) (Bl := Pb) (c := c) (h := h) (Sg := Sg) (sn := sn) (Cv := Cv) (ci := ci) (bo := bo) (sh := sh) (Ex := Ex) (Ah := Ah) (Tl := Tl) (Rw := Rw) (N := N) j w y s u hn hm hN.1 hj hw hy hs' hu (by omega)
      have ev : nI ((N j).1 + 1) = nI (Lm j + 1) := by rw [e1]
      rw [ev] at h6
      exact sti h6 (w7_link_ok j w y s u hn hm hN.1 hj hw hy hs' hu hN.2.2.2.2 hlk) (INV_mk hR hs (IC_t hC) (INt_link hj hw hy hn hm hs' hu hlk hN) hRe) (by decide)
  · exact sti (w6_link_bad x w y s u hn hm hN.1 (Bool.eq_false_iff.mpr e)) (w7_link_bad x w y s u hn hm hN.1 (Bool.eq_false_iff.mpr e)) (INV_mk hR hs (IC_t hC) hN hRe) (by decide)

theorem s_last {l : Launch} {D : va_G} {cy : Nat → ClassId} {o o7 t : Nat} {wc wm : va_W} (hI : INV t cy o o7 wc wm) (ht : t ≤ 900) (x w y : Int32) (u : Bool) : STI l D cy o o7 t wc wm yX6_last wsX6_last yX7_last wsX7_last [.int x, .int w, .int y, .int (bI u)] := by
  obtain ⟨ad, ud, n, m, z, Pp, Ps, Pq, Pa, Pb, c, h, Sg, ns, st, sn, Cv, ci, bo, sh, Ex, Ah, Tl, Rw, N, nf, Lm, Lf, Ly, Lt, La, Co, Lx, Su, Tr, Re, Rc, Hg, rfl, rfl, hR, hs, hC, hN, hRe⟩ := hI
  obtain ⟨⟨hn1, hn, hm, hz⟩, hB, hab, hq⟩ := id hR
  obtain ⟨hc, hh, hS⟩ := id hs
  obtain ⟨i1, i2, i3, i4, i5, i6, i7⟩ := id hC
  by_cases e : (inR x ns && plR w y n) = true
  · rw [Bool.and_eq_true] at e
    obtain ⟨j, hj, rfl⟩ := inR_of e.1
    obtain ⟨w, y, rfl, rfl, hw, hy⟩ := plR_of e.2
    have hpl := pl_lt hw hy hn
    have ev : bI ((N j).2.1.testBit (if w = 0 then y else 5 + y)) = bI (La (11 * j + (if w = 0 then y else 5 + y))) := by rw [(hN.2.2.1 j hj).2.2 _ hpl]
    have h6 := w6_last_ok (l := l) (D := D) (cy := cy) (o := o) (ad := ad) (m := m) (z := z) (st := st) (Hd := fun r => Pp r * 5 + Ps r) (To := Pq) (Tp := Pa) (Bl := Pb) (c := c) (h := h) (Sg := Sg) (sn := sn) (Cv := Cv) (ci := ci) (bo := bo) (sh := sh) (Ex := Ex) (Ah := Ah) (Tl := Tl) (Rw := Rw) (N := N) j w y u hn hN.1 hj hw hy (hN.2.1 j (by have := hN.1; omega)).2.2.2.1
    rw [ev] at h6
    exact sti h6 (w7_last_ok j w y u hn hN.1 hj hw hy) (INV_mk hR hs (IC_t hC) (INt_last hj hpl hN) hRe) (by decide)
  · exact sti (w6_last_bad x w y u hn hN.1 (Bool.eq_false_iff.mpr e)) (w7_last_bad x w y u hn hN.1 (Bool.eq_false_iff.mpr e)) (INV_mk hR hs (IC_t hC) hN hRe) (by decide)

theorem s_unset {l : Launch} {D : va_G} {cy : Nat → ClassId} {o o7 t : Nat} {wc wm : va_W} (hI : INV t cy o o7 wc wm) (ht : t ≤ 900)  : STI l D cy o o7 t wc wm yX6_unset wsX6_unset yX7_unset wsX7_unset [] := by
  obtain ⟨ad, ud, n, m, z, Pp, Ps, Pq, Pa, Pb, c, h, Sg, ns, st, sn, Cv, ci, bo, sh, Ex, Ah, Tl, Rw, N, nf, Lm, Lf, Ly, Lt, La, Co, Lx, Su, Tr, Re, Rc, Hg, rfl, rfl, hR, hs, hC, hN, hRe⟩ := hI
  obtain ⟨⟨hn1, hn, hm, hz⟩, hB, hab, hq⟩ := id hR
  obtain ⟨hc, hh, hS⟩ := id hs
  obtain ⟨i1, i2, i3, i4, i5, i6, i7⟩ := id hC
  by_cases e : ns = 0
  · exact sti (w6_unset_not e) (w7_unset_not e) (INV_mk hR hs (IC_t hC) hN hRe) (by decide)
  · exact sti (w6_unset_ok ⟨by omega, hN.1⟩) (w7_unset_ok ⟨by omega, hN.1⟩) (INV_mk hR hs (IC_t hC) (INt_un hN) hRe) (by decide)

theorem s_in {l : Launch} {D : va_G} {cy : Nat → ClassId} {o o7 t : Nat} {wc wm : va_W} (hI : INV t cy o o7 wc wm) (ht : t ≤ 900) (x : Int32) : STI l D cy o o7 t wc wm yX6_in wsX6_in yX7_in wsX7_in [.int x] := by
  obtain ⟨ad, ud, n, m, z, Pp, Ps, Pq, Pa, Pb, c, h, Sg, ns, st, sn, Cv, ci, bo, sh, Ex, Ah, Tl, Rw, N, nf, Lm, Lf, Ly, Lt, La, Co, Lx, Su, Tr, Re, Rc, Hg, rfl, rfl, hR, hs, hC, hN, hRe⟩ := hI
  obtain ⟨⟨hn1, hn, hm, hz⟩, hB, hab, hq⟩ := id hR
  obtain ⟨hc, hh, hS⟩ := id hs
  obtain ⟨i1, i2, i3, i4, i5, i6, i7⟩ := id hC
  by_cases e : inR x ns = true
  · obtain ⟨j, hj, rfl⟩ := inR_of e
    obtain ⟨b1, b2, b3, b4, b5⟩ := hN.2.1 j (by have := hN.1; omega)
    obtain ⟨d1, d2, d3⟩ := hN.2.2.1 j hj
    have h6 := w6_in_ok (l := l) (D := D) (cy := cy) (o := o) (ad := ad) (n := n) (m := m) (z := z) (st := st) (Hd := fun r => Pp r * 5 + Ps r) (To := Pq) (Tp := Pa) (Bl := Pb) (sn := sn) (Cv := Cv) (ci := ci) (bo := bo) (sh := sh) (Ex := Ex) (Ah := Ah) (Tl := Tl) (Rw := Rw) j hN.1 hj b3 b4 (show c < 5 by omega) hh hS
    rw [in_eq d2 b3 hS b4 d3] at h6
    exact sti h6 (w7_in_ok j hN.2.2.2.1 hN.2.2.2.2 hN.1 hj (by omega) hh hS) (INV_mk hR hs (IC_t hC) hN hRe) (by decide)
  · exact sti (w6_in_bad x hN.1 (Bool.eq_false_iff.mpr e)) (w7_in_bad x hN.1 (Bool.eq_false_iff.mpr e)) (INV_mk hR hs (IC_t hC) hN hRe) (by decide)

theorem s_count {l : Launch} {D : va_G} {cy : Nat → ClassId} {o o7 t : Nat} {wc wm : va_W} (hI : INV t cy o o7 wc wm) (ht : t ≤ 900) (x : Int32) : STI l D cy o o7 t wc wm yX6_count wsX6_count yX7_count wsX7_count [.int x] := by
  obtain ⟨ad, ud, n, m, z, Pp, Ps, Pq, Pa, Pb, c, h, Sg, ns, st, sn, Cv, ci, bo, sh, Ex, Ah, Tl, Rw, N, nf, Lm, Lf, Ly, Lt, La, Co, Lx, Su, Tr, Re, Rc, Hg, rfl, rfl, hR, hs, hC, hN, hRe⟩ := hI
  obtain ⟨⟨hn1, hn, hm, hz⟩, hB, hab, hq⟩ := id hR
  obtain ⟨hc, hh, hS⟩ := id hs
  obtain ⟨i1, i2, i3, i4, i5, i6, i7⟩ := id hC
  by_cases e : rg x 0 5 = true
  · obtain ⟨k, _, k2, rfl⟩ := rg_of e
    have hH : ∀ r, (fun r => Pp r * 5 + Ps r) r < 25 := fun r => (ru25 hB r).1
    have hR2 : ∀ r, Pp r < 5 ∧ Ps r < 5 := fun r => ⟨(hB r).1, (hB r).2.1⟩
    have hc5 : c < 5 := by omega
    rcases (show k = 0 ∨ k = 1 ∨ k = 2 ∨ k = 3 ∨ k = 4 ∨ k = 5 by omega) with q | q | q | q | q | q <;> subst q
    · exact sti (w6_count_0 hz hH hc5 hh hS) (w7_count_0 hz hR2 hc5 hh hS) (INV_mk hR hs (IC_t hC) hN hRe) (by decide)
    · exact sti (w6_count_1 hz hH hc5 hh hS) (w7_count_1 hz hR2 hc5 hh hS) (INV_mk hR hs (IC_t hC) hN hRe) (by decide)
    · exact sti (w6_count_2 hz hH hc5 hh hS) (w7_count_2 hz hR2 hc5 hh hS) (INV_mk hR hs (IC_t hC) hN hRe) (by decide)
    · exact sti (w6_count_3 hz hH hc5 hh hS) (w7_count_3 hz hR2 hc5 hh hS) (INV_mk hR hs (IC_t hC) hN hRe) (by decide)
    · exact sti (w6_count_4 hz hH hc5 hh hS) (w7_count_4 hz hR2 hc5 hh hS) (INV_mk hR hs (IC_t hC) hN hRe) (by decide)
    · have h7 := w7_count_5 (l := l) (D := D) (cy := cy) (o7 := o7) (ud := ud) (n := n) (m := m) (ns := ns) (nf := nf) (Pq := Pq) (Pa := Pa) (Pb := Pb) (Lm := Lm) (Lf := Lf) (Ly := Ly) (Lt := Lt) (La := La) (Co := Co) (Lx := Lx) (Su := Su) (Tr := Tr) (Re := Re) (Rc := Rc) (Hg := Hg) hz hR2 hc5 hh hS
      rw [← count_eq hR2 hc5 hS z] at h7
      exact sti (w6_count_5 hz hH hc5 hh hS) h7 (INV_mk hR hs (IC_t hC) hN hRe) (by decide)
  · exact sti (w6_count_bad x (Bool.eq_false_iff.mpr e)) (w7_count_bad x (Bool.eq_false_iff.mpr e)) (INV_mk hR hs (IC_t hC) hN hRe) (by decide)

end
