section
theorem eq_ge {a b : Nat} (h : ∀ x, a ≤ x ↔ b ≤ x) : a = b := Nat.le_antisymm ((h b).mpr (Nat.le_refl _)) ((h a).mp (Nat.le_refl _))
theorem rcQ_iff {Tl : Nat → Nat} {sh v x : Nat} : ∀ K, rcQ Tl sh v K ≤ x ↔ v ≤ x ∧ ∀ k, k < K → sh.testBit k = true → Tl k ≤ x
  | 0 => ⟨fun h => ⟨h, fun k hk => absurd hk (Nat.not_lt_zero k)⟩, fun h => h.1⟩
  | K + 1 => by
    have ih := rcQ_iff (Tl := Tl) (sh := sh) (v := v) (x := x) K
    have e : rcQ Tl sh v (K + 1) ≤ x ↔ rcQ Tl sh v K ≤ x ∧ (sh.testBit K = true → Tl K ≤ x) := by
      simp only [rcQ]
      by_cases q : sh.testBit K = true
      · rw [if_pos q, Nat.max_le]; exact ⟨fun h => ⟨h.1, fun _ => h.2⟩, fun h => ⟨h.1, h.2 q⟩⟩
      · rw [if_neg q]; exact ⟨fun h => ⟨h, fun w => absurd w q⟩, fun h => h.1⟩
    rw [e, ih]
    constructor
    · rintro ⟨⟨h1, h2⟩, h3⟩
      refine ⟨h1, fun k hk => ?_⟩
      rcases Nat.lt_or_ge k K with w | w
      · exact h2 k w
      · have : k = K := by omega
        subst this; exact h3
    · rintro ⟨h1, h2⟩
      exact ⟨⟨h1, fun k hk => h2 k (by omega)⟩, h2 K (by omega)⟩
theorem tmQ_iff {Tl : Nat → Nat} {sh i t x : Nat} : ∀ K, tmQ Tl sh i t K ≤ x ↔ t ≤ x ∧ ∀ k, k < K → sh.testBit k = true → i + Tl k ≤ x
  | 0 => ⟨fun h => ⟨h, fun k hk => absurd hk (Nat.not_lt_zero k)⟩, fun h => h.1⟩
  | K + 1 => by
    have ih := tmQ_iff (Tl := Tl) (sh := sh) (i := i) (t := t) (x := x) K
    have e : tmQ Tl sh i t (K + 1) ≤ x ↔ tmQ Tl sh i t K ≤ x ∧ (sh.testBit K = true → i + Tl K ≤ x) := by
      simp only [tmQ]
      by_cases q : sh.testBit K = true
      · rw [if_pos q, Nat.max_le]; exact ⟨fun h => ⟨h.1, fun _ => h.2⟩, fun h => ⟨h.1, h.2 q⟩⟩
      · rw [if_neg q]; exact ⟨fun h => ⟨h, fun w => absurd w q⟩, fun h => h.1⟩
    rw [e, ih]
    constructor
    · rintro ⟨⟨h1, h2⟩, h3⟩
      refine ⟨h1, fun k hk => ?_⟩
      rcases Nat.lt_or_ge k K with w | w
      · exact h2 k w
      · have : k = K := by omega
        subst this; exact h3
    · rintro ⟨h1, h2⟩
      exact ⟨⟨h1, fun k hk => h2 k (by omega)⟩, h2 K (by omega)⟩
theorem hiP_ch {G : Nat → Nat} {b s i mo : Nat} : ∀ P, (∀ p, p < P → b.testBit p = true → G (5 * p + s) ≤ 26) → 0 < hiP G b s i mo P ∧ ∀ x, hiP G b s i mo P ≤ x + 1 ↔ mo ≤ x ∧ ∀ p, p < P → b.testBit p = true → i + G (5 * p + s) ≤ x
  | 0, _ => by
    simp only [hiP]
    refine ⟨by omega, fun x => ⟨fun h => ⟨by omega, fun p hp => absurd hp (Nat.not_lt_zero p)⟩, fun h => by have := h.1; omega⟩⟩
  | P + 1, h => by
    obtain ⟨i1, i2⟩ := hiP_ch (G := G) (b := b) (s := s) (i := i) (mo := mo) P (fun p hp => h p (by omega))
    have hP := h P (by omega)
    have e : 0 < hiP G b s i mo (P + 1) ∧ ∀ x, hiP G b s i mo (P + 1) ≤ x + 1 ↔ hiP G b s i mo P ≤ x + 1 ∧ (b.testBit P = true → i + G (5 * P + s) ≤ x) := by
      simp only [hiP]
      rw [if_neg (by omega)]
      by_cases q : b.testBit P = true
      · rw [if_pos q, if_neg (by have := hP q; omega)]
        refine ⟨by split <;> omega, fun x => ?_⟩
        split
        · exact ⟨fun w => ⟨by omega, fun _ => by omega⟩, fun w => by have := w.2 q; omega⟩
        · exact ⟨fun w => ⟨w, fun _ => by omega⟩, fun w => w.1⟩
      · rw [if_neg q]
        exact ⟨i1, fun x => ⟨fun w => ⟨w, fun v => absurd v q⟩, fun w => w.1⟩⟩
    refine ⟨e.1, fun x => ?_⟩
    rw [e.2, i2]
    constructor
    · rintro ⟨⟨h1, h2⟩, h3⟩
      refine ⟨h1, fun k hk => ?_⟩
      rcases Nat.lt_or_ge k P with w | w
      · exact h2 k w
      · have : k = P := by omega
        subst this; exact h3
    · rintro ⟨h1, h2⟩
      exact ⟨⟨h1, fun k hk => h2 k (by omega)⟩, h2 P (by omega)⟩
theorem hiP_no {G : Nat → Nat} {b s i mo p : Nat} (hb : b.testBit p = true) (hG : 26 < G (5 * p + s)) : ∀ P, p < P → hiP G b s i mo P = 0
  | 0, h => absurd h (Nat.not_lt_zero p)
  | P + 1, h => by
    simp only [hiP]
    by_cases e : hiP G b s i mo P = 0
    · rw [if_pos e]
    · rcases Nat.lt_or_ge p P with w | w
      · exact absurd (hiP_no hb hG P w) e
      · have : p = P := by omega
        subst this
        rw [if_neg e, if_pos hb, if_pos hG]
theorem risR_t {A Hd To Tp Bl : Nat → Nat} {i : Nat} : ∀ z, (risR A Hd To Tp Bl z).testBit i = true ↔ ∃ r, r < z ∧ ¬ Bl r = 0 ∧ Hd r = i ∧ ((A (To r * 5 + (Tp r - 1))).testBit i = true ∨ To r * 5 + (Tp r - 1) = i)
  | 0 => by simp [risR]
  | z + 1 => by
    have ih := risR_t (A := A) (Hd := Hd) (To := To) (Tp := Tp) (Bl := Bl) (i := i) z
    have e : (risR A Hd To Tp Bl (z + 1)).testBit i = true ↔ (risR A Hd To Tp Bl z).testBit i = true ∨ (¬ Bl z = 0 ∧ Hd z = i ∧ ((A (To z * 5 + (Tp z - 1))).testBit i = true ∨ To z * 5 + (Tp z - 1) = i)) := by
      simp only [risR]
      by_cases q : Bl z = 0
      · rw [if_pos q]; exact ⟨Or.inl, fun w => w.elim id (fun w => absurd q w.1)⟩
      · rw [if_neg q, Nat.testBit_or, Nat.testBit_and, Nat.testBit_or, pow_bit, pow_bit]
        simp only [Bool.or_eq_true, Bool.and_eq_true, decide_eq_true_eq]
        constructor
        · rintro (w | ⟨w1, w2⟩)
          · exact Or.inl w
          · exact Or.inr ⟨q, w2, w1⟩
        · rintro (w | ⟨_, w2, w1⟩)
          · exact Or.inl w
          · exact Or.inr ⟨w1, w2⟩
    rw [e, ih]
    constructor
    · rintro (⟨r, hr, q⟩ | q)
      · exact ⟨r, by omega, q⟩
      · exact ⟨z, by omega, q⟩
    · rintro ⟨r, hr, q⟩
      rcases Nat.lt_or_ge r z with w | w
      · exact Or.inl ⟨r, w, q⟩
      · have : r = z := by omega
        subst this; exact Or.inr q
def szF (e : Nat → Nat → Bool) (a : Nat) : Nat := ctB (fun x => decide (a = x) || rcB e a x) 25
theorem sz_le25 (e : Nat → Nat → Bool) (a : Nat) : szF e a ≤ 25 := ctB_le _ 25
theorem sz_pos {e : Nat → Nat → Bool} {a : Nat} (ha : a < 25) : 1 ≤ szF e a := by
  have : ctB (fun _ => false) 25 < szF e a := ctB_lt (p := fun _ => false) (fun k h => by cases h) (i := a) rfl (by simp) 25 ha
  omega
theorem sz_sub {e : Nat → Nat → Bool} (hE : ∀ a b, e a b = true → a < 25 ∧ b < 25) {a k : Nat} (h : e a k = true) (x : Nat) (q : (decide (k = x) || rcB e k x) = true) : (decide (a = x) || rcB e a x) = true := by
  rw [Bool.or_eq_true, decide_eq_true_eq] at q ⊢
  right
  rcases q with q | q
  · subst q; exact rc_e h
  · exact rc_s (hE a k h).1 (hE a k h).2 h q
theorem sz_mono {e : Nat → Nat → Bool} (hE : ∀ a b, e a b = true → a < 25 ∧ b < 25) {a k : Nat} (h : e a k = true) : szF e k ≤ szF e a := ctB_mono (sz_sub hE h) 25
theorem sz_lt {e : Nat → Nat → Bool} (hE : ∀ a b, e a b = true → a < 25 ∧ b < 25) {a k : Nat} (h : e a k = true) (h1 : ¬ k = a) (h2 : ¬ rcB e k a = true) : szF e k < szF e a :=
  ctB_lt (sz_sub hE h) (i := a) (by rw [decide_eq_false h1, Bool.eq_false_iff.mpr h2]; rfl) (by simp) 25 (hE a k h).1
section HI
variable {n z : Nat} {Cv Co Pp Ps Pq Pa Pb : Nat → Nat}
theorem hb_bit (hP : PQ n Cv Co) (hB : RB Pp Ps Pq Pa Pb) {r k : Nat} (h : ¬ Pa r = 0) : (hbF n Co Pq Pa Pb r).testBit k = true ↔ k = Pq r * 5 + (Pa r - 1) ∨ (unF (exF Cv) Pq Pa Pb r).testBit k = true := by
  rw [← un_hb hP (hB r).2.2.1 (hB r).2.2.2.1 (hB r).2.2.2.2 h, Nat.testBit_or, pow_bit, Bool.or_eq_true, decide_eq_true_eq]
  exact ⟨fun q => q.elim (fun w => Or.inl w.symm) Or.inr, fun q => q.elim (fun w => Or.inl w.symm) Or.inr⟩
theorem wt_1 {r k : Nat} (ha : ¬ Pa r = 0) (hb : ¬ Pb r = 0) (hk : k = Pq r * 5 + (Pa r - 1)) : wtF (ttF Pq Pa) (puF Pa Pb) r k = 1 := by
  unfold wtF; rw [if_pos]
  refine ⟨by rw [ttF_1 ha]; omega, ?_⟩
  unfold puF; rw [if_neg ha, if_neg hb]
theorem wt_c {r k : Nat} (h : ¬ wtF (ttF Pq Pa) (puF Pa Pb) r k = 0) : ¬ Pa r = 0 ∧ ¬ Pb r = 0 ∧ k = Pq r * 5 + (Pa r - 1) := by
  unfold wtF at h
  split at h
  · next q =>
    have e := puF_2 q.2
    refine ⟨e.1, e.2, ?_⟩
    have := q.1; rw [ttF_1 e.1] at this; omega
  · exact absurd rfl h
theorem wt_le (Tt Pu : Nat → Nat) (r k : Nat) : wtF Tt Pu r k ≤ 1 := by unfold wtF; split <;> omega
theorem tt_in (hP : PQ n Cv Co) (hB : RB Pp Ps Pq Pa Pb) (r k : Nat) (h1 : k + 1 = ttF Pq Pa r) (h2 : puF Pa Pb r = 2) : (hbF n Co Pq Pa Pb r).testBit k = true := by
  have e := puF_2 h2
  rw [hb_bit hP hB e.1]
  rw [ttF_1 e.1] at h1
  exact Or.inl (by omega)
abbrev bO (z : Nat) (Pp Ps Pq Pa Pb Cv : Nat → Nat) : Nat := boF z (fun r => Pp r * 5 + Ps r) Pq Pa Pb Cv
theorem bo_t (hP : PQ n Cv Co) (hB : RB Pp Ps Pq Pa Pb) {a : Nat} : (bO z Pp Ps Pq Pa Pb Cv).testBit a = true ↔ a < 25 ∧ ∃ i, i < 25 ∧ (rcB (eE' n z Co Pp Ps Pq Pa Pb) a i = true ∨ a = i) ∧ ∃ r, r < z ∧ ¬ Pb r = 0 ∧ 5 * Pp r + Ps r = i ∧ (rcB (eE' n z Co Pp Ps Pq Pa Pb) (Pq r * 5 + (Pa r - 1)) i = true ∨ Pq r * 5 + (Pa r - 1) = i) := by
  have a1 := ah_rc (z := z) hP hB
  unfold bO boF
  rw [le_t (risR_lt (fun r => by have := hB r; omega) z)]
  simp only [risR_t, a1]
  have e : ∀ r i, (Pp r * 5 + Ps r = i) ↔ (5 * Pp r + Ps r = i) := fun r i => by omega
  simp only [e]
theorem bo_dn (hP : PQ n Cv Co) (hB : RB Pp Ps Pq Pa Pb) {a k : Nat} (he : eE' n z Co Pp Ps Pq Pa Pb a k = true) (h : (bO z Pp Ps Pq Pa Pb Cv).testBit k = true) : (bO z Pp Ps Pq Pa Pb Cv).testBit a = true := by
  have hE := eg_lt (z := z) (Co := Co) hB hP.2.2
  rw [bo_t hP hB] at h ⊢
  obtain ⟨_, i, hi, q, w⟩ := h
  refine ⟨(hE a k he).1, i, hi, Or.inl ?_, w⟩
  rcases q with q | q
  · exact rc_s (hE a k he).1 (hE a k he).2 he q
  · subst q; exact rc_e he
theorem bd_H1 (hP : PQ n Cv Co) (hB : RB Pp Ps Pq Pa Pb) (r k : Nat) (hr : r < z) (hb : (!(bO z Pp Ps Pq Pa Pb Cv).testBit (5 * Pp r + Ps r)) = true) (h : (hbF n Co Pq Pa Pb r).testBit k = true) : (!(bO z Pp Ps Pq Pa Pb Cv).testBit k) = true ∧ k < 25 ∧ szF (eE' n z Co Pp Ps Pq Pa Pb) k + wtF (ttF Pq Pa) (puF Pa Pb) r k ≤ szF (eE' n z Co Pp Ps Pq Pa Pb) (5 * Pp r + Ps r) := by
  have hE := eg_lt (z := z) (Co := Co) hB hP.2.2
  have he : eE' n z Co Pp Ps Pq Pa Pb (5 * Pp r + Ps r) k = true := egB_t.mpr ⟨r, hr, rfl, h⟩
  have hl := hE _ _ he
  rw [Bool.not_eq_true'] at hb ⊢
  refine ⟨?_, hl.2, ?_⟩
  · rw [Bool.eq_false_iff]; intro q
    rw [bo_dn hP hB he q] at hb; cases hb
  · by_cases w : wtF (ttF Pq Pa) (puF Pa Pb) r k = 0
    · rw [w, Nat.add_zero]; exact sz_mono hE he
    · obtain ⟨w1, w2, w3⟩ := wt_c w
      have wl := wt_le (ttF Pq Pa) (puF Pa Pb) r k
      have no : ¬ (rcB (eE' n z Co Pp Ps Pq Pa Pb) k (5 * Pp r + Ps r) = true ∨ k = 5 * Pp r + Ps r) := by
        intro q
        have : (bO z Pp Ps Pq Pa Pb Cv).testBit (5 * Pp r + Ps r) = true := by
          rw [bo_t hP hB]
          refine ⟨hl.1, _, hl.1, Or.inr rfl, r, hr, w2, rfl, ?_⟩
          rw [← w3]; exact q
        rw [this] at hb; cases hb
      exact Nat.le_trans (Nat.add_le_add_left wl _) (sz_lt hE he (fun q => no (Or.inr q)) (fun q => no (Or.inl q)))
abbrev gT (n z : Nat) (Co Pp Ps Pq Pa Pb : Nat → Nat) (t : Nat) : Nat → Nat := fhT z (hbF n Co Pq Pa Pb) (ttF Pq Pa) (puF Pa Pb) Pp Ps t
theorem hg25 (hB : RB Pp Ps Pq Pa Pb) (r : Nat) : 5 * Pp r + Ps r < 25 := by have := hB r; omega
theorem bd_end (hP : PQ n Cv Co) (hB : RB Pp Ps Pq Pa Pb) {a : Nat} (ha : a < 25) (hb : (bO z Pp Ps Pq Pa Pb Cv).testBit a = false) : gT n z Co Pp Ps Pq Pa Pb 1000 a = gT n z Co Pp Ps Pq Pa Pb 26 a ∧ gT n z Co Pp Ps Pq Pa Pb 1000 a ≤ 25 :=
  fh_end (Bd := fun a => !(bO z Pp Ps Pq Pa Pb Cv).testBit a) (sz := szF (eE' n z Co Pp Ps Pq Pa Pb)) (tt_in hP hB) (hg25 hB) (fun a h => ⟨sz_pos h, sz_le25 _ _⟩) (bd_H1 hP hB) a ha (by simp only [hb]; rfl)
theorem bo_26 (hP : PQ n Cv Co) (hB : RB Pp Ps Pq Pa Pb) (hab : ∀ r, Pa r = 0 → Pb r = 0) {a : Nat} (hb : (bO z Pp Ps Pq Pa Pb Cv).testBit a = true) : 26 < gT n z Co Pp Ps Pq Pa Pb 1000 a := by
  rw [bo_t hP hB] at hb
  obtain ⟨ha, i, hi, q, r, hr, hpb, rfl, w⟩ := hb
  have hpa : ¬ Pa r = 0 := fun e => hpb (hab r e)
  have hin : (hbF n Co Pq Pa Pb r).testBit (Pq r * 5 + (Pa r - 1)) = true := (hb_bit hP hB hpa).mpr (Or.inl rfl)
  have hk : Pq r * 5 + (Pa r - 1) < 25 := by have := hB r; omega
  have m := fhT_more (Tt := ttF Pq Pa) (Pu := puF Pa Pb) hr hk (hg25 hB r) hin (wt_1 hpa hpb rfl) (w.elim Or.inr Or.inl) 26
  have m2 : gT n z Co Pp Ps Pq Pa Pb (26 * 26) (5 * Pp r + Ps r) ≤ gT n z Co Pp Ps Pq Pa Pb 1000 a := by
    rcases q with q | q
    · exact Nat.le_trans (fhT_ds (s := 26 * 26) 25 a q (hg25 hB r)) (fhT_mono a (by omega))
    · rw [q]; exact fhT_mono _ (by omega)
  have m3 : min 1000 (1 + 26) ≤ gT n z Co Pp Ps Pq Pa Pb (26 * 26) (5 * Pp r + Ps r) := m
  omega
theorem tf_R (hP : PQ n Cv Co) (hB : RB Pp Ps Pq Pa Pb) {Tl G : Nat → Nat} (hTG : ∀ a, a < 25 → (bO z Pp Ps Pq Pa Pb Cv).testBit a = false → Tl a = G a) (hG : ∀ a, a < 25 → (!(bO z Pp Ps Pq Pa Pb Cv).testBit a) = true → G a ≤ szF (eE' n z Co Pp Ps Pq Pa Pb) a) : ∀ r, r ≤ z → ∀ a, a < 25 → (bO z Pp Ps Pq Pa Pb Cv).testBit a = false → tfR (bO z Pp Ps Pq Pa Pb Cv) (exF Cv) (fun r => 5 * Pp r + Ps r) Pq Pa Pb Tl r a = fhR (hbF n Co Pq Pa Pb) (ttF Pq Pa) (puF Pa Pb) Pp Ps G r a
  | 0, _ => hTG
  | r + 1, hr => by
    intro a ha hb
    have ih := tf_R hP hB hTG hG r (by omega)
    simp only [tfR]
    by_cases hbo : (bO z Pp Ps Pq Pa Pb Cv).testBit (5 * Pp r + Ps r) = true
    · rw [if_pos hbo]
      have hne : a ≠ 5 * Pp r + Ps r := by
        intro e; rw [← e, hb] at hbo; cases hbo
      simp only [fhR]
      rw [up_ne _ _ hne]; exact ih a ha hb
    · rw [if_neg hbo]
      have hbf : (bO z Pp Ps Pq Pa Pb Cv).testBit (5 * Pp r + Ps r) = false := by simpa using hbo
      by_cases e : a = 5 * Pp r + Ps r
      · subst e
        have fle := fhR_sz (z := z) (Bd := fun a => !(bO z Pp Ps Pq Pa Pb Cv).testBit a) (sz := szF (eE' n z Co Pp Ps Pq Pa Pb)) (tt_in hP hB) (bd_H1 hP hB) hG (r + 1) hr _ ha (by simp only [hb]; rfl)
        have s25 := sz_le25 (eE' n z Co Pp Ps Pq Pa Pb) (5 * Pp r + Ps r)
        simp only [fhR, up_same] at fle ⊢
        have ev : fhV (fhR (hbF n Co Pq Pa Pb) (ttF Pq Pa) (puF Pa Pb) Pp Ps G r) (hbF n Co Pq Pa Pb r) (ttF Pq Pa r) (puF Pa Pb r) (5 * Pp r + Ps r) = fhK (fhR (hbF n Co Pq Pa Pb) (ttF Pq Pa) (puF Pa Pb) Pp Ps G r) (hbF n Co Pq Pa Pb r) (ttF Pq Pa r) (puF Pa Pb r) (fhR (hbF n Co Pq Pa Pb) (ttF Pq Pa) (puF Pa Pb) Pp Ps G r (5 * Pp r + Ps r)) 25 := by
          unfold fhV at fle ⊢
          split
          · rfl
          · next q => rw [if_neg q] at fle; omega
        rw [ev]
        have i0 := ih _ ha hb
        unfold rbC
        by_cases hpa : Pa r = 0
        · rw [if_pos hpa, i0]
          apply eq_ge; intro x
          rw [fhK_iff]
          refine ⟨fun h => ⟨h, fun k hk => ?_⟩, fun h => h.1⟩
          rw [fhB_out (tt_in hP hB r k) (by rw [hb_0 hpa]; exact Nat.zero_testBit k)]; exact Nat.zero_le _
        · rw [if_neg hpa]
          have em : (if tfR (bO z Pp Ps Pq Pa Pb Cv) (exF Cv) (fun r => 5 * Pp r + Ps r) Pq Pa Pb Tl r (5 * Pp r + Ps r) < rbV (exF Cv) Pq Pa Pb (tfR (bO z Pp Ps Pq Pa Pb Cv) (exF Cv) (fun r => 5 * Pp r + Ps r) Pq Pa Pb Tl r) r then up (tfR (bO z Pp Ps Pq Pa Pb Cv) (exF Cv) (fun r => 5 * Pp r + Ps r) Pq Pa Pb Tl r) (5 * Pp r + Ps r) (rbV (exF Cv) Pq Pa Pb (tfR (bO z Pp Ps Pq Pa Pb Cv) (exF Cv) (fun r => 5 * Pp r + Ps r) Pq Pa Pb Tl r) r) else tfR (bO z Pp Ps Pq Pa Pb Cv) (exF Cv) (fun r => 5 * Pp r + Ps r) Pq Pa Pb Tl r) (5 * Pp r + Ps r) = max (tfR (bO z Pp Ps Pq Pa Pb Cv) (exF Cv) (fun r => 5 * Pp r + Ps r) Pq Pa Pb Tl r (5 * Pp r + Ps r)) (rbV (exF Cv) Pq Pa Pb (tfR (bO z Pp Ps Pq Pa Pb Cv) (exF Cv) (fun r => 5 * Pp r + Ps r) Pq Pa Pb Tl r) r) := by
            split
            · rw [up_same]; omega
            · omega
          refine Eq.trans em ?_
          apply eq_ge; intro x
          rw [Nat.max_le, fhK_iff, i0]
          refine and_congr Iff.rfl ?_
          unfold rbV
          rw [rcQ_iff]
          have hin : (hbF n Co Pq Pa Pb r).testBit (Pq r * 5 + (Pa r - 1)) = true := (hb_bit hP hB hpa).mpr (Or.inl rfl)
          have hnt : (!(bO z Pp Ps Pq Pa Pb Cv).testBit (5 * Pp r + Ps r)) = true := by rw [hbf]; rfl
          have ag : ∀ k, (hbF n Co Pq Pa Pb r).testBit k = true → k < 25 ∧ tfR (bO z Pp Ps Pq Pa Pb Cv) (exF Cv) (fun r => 5 * Pp r + Ps r) Pq Pa Pb Tl r k = fhR (hbF n Co Pq Pa Pb) (ttF Pq Pa) (puF Pa Pb) Pp Ps G r k := by
            intro k q
            obtain ⟨b1, b2, _⟩ := bd_H1 hP hB r k (by omega) hnt q
            exact ⟨b2, ih k b2 (by simpa using b1)⟩
          have lf : wtF (ttF Pq Pa) (puF Pa Pb) r (Pq r * 5 + (Pa r - 1)) = if Pb r = 0 then 0 else 1 := by
            by_cases q : Pb r = 0
            · rw [if_pos q]
              by_cases w : wtF (ttF Pq Pa) (puF Pa Pb) r (Pq r * 5 + (Pa r - 1)) = 0
              · exact w
              · exact absurd q (wt_c w).2.1
            · rw [if_neg q]; exact wt_1 hpa q rfl
          rw [(ag _ hin).2]
          constructor
          · rintro ⟨h1, h2⟩ k hk
            by_cases q : (hbF n Co Pq Pa Pb r).testBit k = true
            · rw [fhB_in q]
              by_cases w : wtF (ttF Pq Pa) (puF Pa Pb) r k = 0
              · rw [w, Nat.add_zero, ← (ag k q).2]
                rcases (hb_bit hP hB hpa).mp q with v | v
                · rw [v, (ag _ hin).2]; omega
                · exact h2 k hk v
              · rw [(wt_c w).2.2, lf]; exact h1
            · rw [fhB_out (tt_in hP hB r k) (by simpa using q)]; exact Nat.zero_le _
          · intro h
            refine ⟨?_, fun k hk v => ?_⟩
            · have := h _ (ag _ hin).1
              rw [fhB_in hin, lf] at this; exact this
            · have q := (hb_bit hP hB hpa).mpr (Or.inr v)
              have := h k hk
              rw [fhB_in q] at this
              rw [(ag k q).2]; omega
      · simp only [fhR]
        rw [up_ne _ _ e]
        have i0 := ih a ha hb
        unfold rbC
        split
        · exact i0
        · split
          · rw [up_ne _ _ e]; exact i0
          · exact i0
theorem tf_T (hP : PQ n Cv Co) (hB : RB Pp Ps Pq Pa Pb) : ∀ t a, a < 25 → (bO z Pp Ps Pq Pa Pb Cv).testBit a = false → tfT (bO z Pp Ps Pq Pa Pb Cv) z (exF Cv) (fun r => 5 * Pp r + Ps r) Pq Pa Pb t a = gT n z Co Pp Ps Pq Pa Pb t a
  | 0, _, _, _ => rfl
  | t + 1, a, ha, hb => tf_R hP hB (tf_T hP hB t) (fhT_sz (Bd := fun a => !(bO z Pp Ps Pq Pa Pb Cv).testBit a) (sz := szF (eE' n z Co Pp Ps Pq Pa Pb)) (tt_in hP hB) (fun a h => sz_pos h) (bd_H1 hP hB) t) z (Nat.le_refl _) a ha hb
theorem tl_eq (hP : PQ n Cv Co) (hB : RB Pp Ps Pq Pa Pb) {a : Nat} (ha : a < 25) (hb : (bO z Pp Ps Pq Pa Pb Cv).testBit a = false) : tlF z (fun r => Pp r * 5 + Ps r) Pq Pa Pb Cv a = gT n z Co Pp Ps Pq Pa Pb 1000 a := by
  rw [(bd_end hP hB ha hb).1, ← tf_T hP hB 26 a ha hb]
  unfold tlF bO boF
  rw [hd_eq]
theorem hi_tp (hP : PQ n Cv Co) (hB : RB Pp Ps Pq Pa Pb) (hab : ∀ r, Pa r = 0 → Pb r = 0) {Sg : Nat → Nat} (hS : ∀ i, Sg i < 5) : ∀ a b t, ltn b n → tpF (bO z Pp Ps Pq Pa Pb Cv) (exF Cv) (tlF z (fun r => Pp r * 5 + Ps r) Pq Pa Pb Cv) Sg a b t = hiF n (gT n z Co Pp Ps Pq Pa Pb 1000) Co Sg a b t
  | 0, _, _, _ => rfl
  | a + 1, b, t, hb => by
    obtain ⟨e1, e2⟩ := ae_po hP (s := Sg a) hb
    have hbo : bO z Pp Ps Pq Pa Pb Cv < 2 ^ 25 := leQ_lt _ _ 25 (Nat.le_refl _)
    have hn := hP.2.2
    have h5 := hS a
    simp only [tpF, hiF]
    by_cases q : hsQ b (Sg a) 5 &&& bO z Pp Ps Pq Pa Pb Cv = 0
    · have no : ∀ p, p < 5 → b.testBit p = true → (bO z Pp Ps Pq Pa Pb Cv).testBit (5 * p + Sg a) = false := by
        intro p hp hbp
        rw [Bool.eq_false_iff]; intro w
        exact (hs_ne h5 hbo).mpr ⟨p, hp, hbp, w⟩ q
      have ch := hiP_ch (G := gT n z Co Pp Ps Pq Pa Pb 1000) (b := b) (s := Sg a) (i := a) (mo := t) n (fun p hp hbp => by
        have := (bd_end hP hB (a := 5 * p + Sg a) (by omega) (no p (by omega) hbp)).2
        omega)
      rw [if_pos q, if_neg (by omega), e1, hi_tp hP hB hab hS a _ _ e2]
      congr 1
      apply eq_ge; intro x
      rw [tmQ_iff, show (hiP (gT n z Co Pp Ps Pq Pa Pb 1000) b (Sg a) a t n - 1 ≤ x) = (hiP (gT n z Co Pp Ps Pq Pa Pb 1000) b (Sg a) a t n ≤ x + 1) from by apply propext; omega, ch.2]
      refine and_congr Iff.rfl ?_
      simp only [hsQ_bit b (Sg a) _ h5, decide_eq_true_eq]
      constructor
      · intro h p hp hbp
        have := h (5 * p + Sg a) (by omega) ⟨by omega, by omega, by rw [show (5 * p + Sg a) / 5 = p from by omega]; exact hbp⟩
        rw [tl_eq hP hB (by omega) (no p (by omega) hbp)] at this
        exact this
      · rintro h k hk ⟨k1, k2, k3⟩
        have hkn : k / 5 < n := by
          rcases Nat.lt_or_ge (k / 5) n with w | w
          · exact w
          · rw [hb _ w] at k3; cases k3
        have := h (k / 5) hkn k3
        have e : 5 * (k / 5) + Sg a = k := by omega
        have hno := no (k / 5) k2 k3
        rw [e] at this hno
        rw [tl_eq hP hB hk hno]; exact this
    · obtain ⟨p, hp, q1, q2⟩ := (hs_ne h5 hbo).mp q
      have hpn : p < n := by
        rcases Nat.lt_or_ge p n with w | w
        · exact w
        · rw [hb p w] at q1; cases q1
      rw [if_neg q, if_pos (hiP_no q1 (bo_26 hP hB hab q2) n hpn)]
/-- HIGH -/
theorem high_eq (hP : PQ n Cv Co) (hB : RB Pp Ps Pq Pa Pb) (hab : ∀ r, Pa r = 0 → Pb r = 0) {Sg : Nat → Nat} (hS : ∀ i, Sg i < 5) {c : Nat} (hc : c < n) (h : Nat) : tpF (boF z (fun r => Pp r * 5 + Ps r) Pq Pa Pb Cv) (exF Cv) (tlF z (fun r => Pp r * 5 + Ps r) Pq Pa Pb Cv) Sg h (1 * 2 ^ c) h = hiF n (fhT z (hbF n Co Pq Pa Pb) (ttF Pq Pa) (puF Pa Pb) Pp Ps 1000) Co Sg h (1 * 2 ^ c) h := hi_tp hP hB hab hS h _ _ (pow_ltn hc)
end HI
end
