section
/-! what holds between the class's world and the reference's -/
def IR (n m z : Nat) (Pp Ps Pq Pa Pb : Nat → Nat) : Prop := (1 ≤ n ∧ n ≤ 5 ∧ m ≤ 5 ∧ z ≤ 30) ∧ RB Pp Ps Pq Pa Pb ∧ (∀ r, Pa r = 0 → Pb r = 0) ∧ ∀ r, r < z → Pq r < n
def IS (n c h : Nat) (Sg : Nat → Nat) : Prop := c < n ∧ h ≤ 60 ∧ ∀ i, Sg i < 5
def IC (t n z st : Nat) (Hd To Tp Bl : Nat → Nat) (sn : Nat) (Cv : Nat → Nat) (ci bo sh : Nat) (Ex Ah Tl Rw : Nat → Nat) : Prop :=
  st ≤ t ∧ sn ≤ st + 1 ∧ okf Cv ∧ (sn = st + 1 → Cv = CCf n z Hd To Tp Bl) ∧ sh ≤ st + 1 ∧ (sh = st + 1 → ci = ciF z Hd To Tp Bl (CCf n z Hd To Tp Bl) ∧ bo = boF z Hd To Tp Bl (CCf n z Hd To Tp Bl) ∧ Ex = exF (CCf n z Hd To Tp Bl) ∧ Ah = ahH z Hd To Tp Bl (CCf n z Hd To Tp Bl) ∧ Tl = tlF z Hd To Tp Bl (CCf n z Hd To Tp Bl)) ∧ okf Rw
def NB (n z st : Nat) (Hd To Tp Bl : Nat → Nat) (x : NetT) : Prop := x.2.2.2.1 ≤ st + 1 ∧ okf x.2.2.2.2.2 ∧ (∀ k, x.2.2.2.2.1 k < 64) ∧ x.2.1 < 2 ^ 11 ∧ (x.2.2.1 = false → x.2.2.2.1 = st + 1 → x.2.2.2.2.2 = KKf n z x.2.2.2.2.1 Hd To Tp Bl)
def NLk (n m j : Nat) (x : NetT) (Lm Lf Ly Lt : Nat → Nat) (La : Nat → Bool) : Prop := x.1 = Lm j ∧ NR x.2.2.2.2.1 (lkG Lf Ly Lt Lm j) n m ∧ ∀ y, y < 11 → x.2.1.testBit y = La (11 * j + y)
def INt (n m z st ns : Nat) (Hd To Tp Bl : Nat → Nat) (N : Nat → NetT) (Lm Lf Ly Lt : Nat → Nat) (La : Nat → Bool) : Prop :=
  ns ≤ 6 ∧ (∀ j, j < 6 → NB n z st Hd To Tp Bl (N j)) ∧ (∀ j, j < ns → NLk n m j (N j) Lm Lf Ly Lt La) ∧ (∀ k, Lf k < 11 ∧ Ly k < 5 ∧ Lt k < 11) ∧ ∀ k, Lm k ≤ 24
def INV (t : Nat) (cy : Nat → ClassId) (o o7 : Nat) (wc wm : va_W) : Prop :=
  ∃ (ad ud : Nat → Nat) (n m z : Nat) (Pp Ps Pq Pa Pb : Nat → Nat) (c h : Nat) (Sg : Nat → Nat) (ns st sn : Nat) (Cv : Nat → Nat) (ci bo sh : Nat) (Ex Ah Tl Rw : Nat → Nat) (N : Nat → NetT) (nf : Nat) (Lm Lf Ly Lt : Nat → Nat) (La : Nat → Bool) (Co : Nat → Nat) (Lx Su : Nat → Bool) (Tr Re Rc Hg : Nat → Nat),
    wc = wC cy o ad n m z st (fun r => Pp r * 5 + Ps r) Pq Pa Pb c h Sg ns sn Cv ci bo sh Ex Ah Tl Rw N ∧ wm = wM cy o7 ud n m z c h ns nf Pp Ps Pq Pa Pb Sg Lm Lf Ly Lt La Co Lx Su Tr Re Rc Hg ∧
    IR n m z Pp Ps Pq Pa Pb ∧ IS n c h Sg ∧ IC t n z st (fun r => Pp r * 5 + Ps r) Pq Pa Pb sn Cv ci bo sh Ex Ah Tl Rw ∧ INt n m z st ns (fun r => Pp r * 5 + Ps r) Pq Pa Pb N Lm Lf Ly Lt La ∧ okf Re
section IV
variable {t : Nat} {cy : Nat → ClassId} {o o7 : Nat} {ad ud : Nat → Nat} {n m z : Nat} {Pp Ps Pq Pa Pb : Nat → Nat} {c h : Nat} {Sg : Nat → Nat} {ns st sn : Nat} {Cv : Nat → Nat} {ci bo sh : Nat} {Ex Ah Tl Rw : Nat → Nat} {N : Nat → NetT} {nf : Nat} {Lm Lf Ly Lt : Nat → Nat} {La : Nat → Bool} {Co : Nat → Nat} {Lx Su : Nat → Bool} {Tr Re Rc Hg : Nat → Nat}
theorem INV_mk (h1 : IR n m z Pp Ps Pq Pa Pb) (h2 : IS n c h Sg) (h3 : IC t n z st (fun r => Pp r * 5 + Ps r) Pq Pa Pb sn Cv ci bo sh Ex Ah Tl Rw) (h4 : INt n m z st ns (fun r => Pp r * 5 + Ps r) Pq Pa Pb N Lm Lf Ly Lt La) (h5 : okf Re) :
    INV t cy o o7 (wC cy o ad n m z st (fun r => Pp r * 5 + Ps r) Pq Pa Pb c h Sg ns sn Cv ci bo sh Ex Ah Tl Rw N) (wM cy o7 ud n m z c h ns nf Pp Ps Pq Pa Pb Sg Lm Lf Ly Lt La Co Lx Su Tr Re Rc Hg) :=
  ⟨ad, ud, n, m, z, Pp, Ps, Pq, Pa, Pb, c, h, Sg, ns, st, sn, Cv, ci, bo, sh, Ex, Ah, Tl, Rw, N, nf, Lm, Lf, Ly, Lt, La, Co, Lx, Su, Tr, Re, Rc, Hg, rfl, rfl, h1, h2, h3, h4, h5⟩
theorem INV_len {wc wm : va_W} (hI : INV t cy o o7 wc wm) : wc.length = 35 ∧ wm.length = 19 ∧ (∃ fs, wc[0]? = some (o, .inr (6, fs))) ∧ ∃ fs, wm[0]? = some (o7, .inr (7, fs)) := by
  obtain ⟨ad, ud, n, m, z, Pp, Ps, Pq, Pa, Pb, c, h, Sg, ns, st, sn, Cv, ci, bo, sh, Ex, Ah, Tl, Rw, N, nf, Lm, Lf, Ly, Lt, La, Co, Lx, Su, Tr, Re, Rc, Hg, rfl, rfl, _⟩ := hI
  exact ⟨rfl, rfl, ⟨_, rfl⟩, ⟨_, rfl⟩⟩
variable {Hd To Tp Bl Hd' To' Tp' Bl' : Nat → Nat} {n' z' m' : Nat}
theorem IC_t (h : IC t n z st Hd To Tp Bl sn Cv ci bo sh Ex Ah Tl Rw) : IC (t + 1) n z st Hd To Tp Bl sn Cv ci bo sh Ex Ah Tl Rw := ⟨by have := h.1; omega, h.2⟩
theorem IC_new (h : IC t n z st Hd To Tp Bl sn Cv ci bo sh Ex Ah Tl Rw) : IC (t + 1) n' z' (st + 1) Hd' To' Tp' Bl' sn Cv ci bo sh Ex Ah Tl Rw := by
  obtain ⟨h1, h2, h3, h4, h5, h6, h7⟩ := h
  exact ⟨by omega, by omega, h3, fun e => by omega, by omega, fun e => by omega, h7⟩
theorem IC_pop (h : IC t n z st Hd To Tp Bl sn Cv ci bo sh Ex Ah Tl Rw) : IC (t + 1) n z st Hd To Tp Bl (st + 1) (CCf n z Hd To Tp Bl) ci bo sh Ex Ah Tl Rw := by
  obtain ⟨h1, h2, h3, h4, h5, h6, h7⟩ := h
  exact ⟨by omega, Nat.le_refl _, CCf_ok _ _ _ _ _ _, fun _ => rfl, h5, h6, h7⟩
theorem IC_far {Rf : Nat → Nat} (h : IC t n z st Hd To Tp Bl sn Cv ci bo sh Ex Ah Tl Rw) (hR : okf Rf) : IC (t + 1) n z st Hd To Tp Bl (st + 1) (CCf n z Hd To Tp Bl) ci bo sh Ex Ah Tl Rf := by
  obtain ⟨h1, h2, h3, h4, h5, h6, h7⟩ := h
  exact ⟨by omega, Nat.le_refl _, CCf_ok _ _ _ _ _ _, fun _ => rfl, h5, h6, hR⟩
theorem IC_heads (h : IC t n z st Hd To Tp Bl sn Cv ci bo sh Ex Ah Tl Rw) : IC (t + 1) n z st Hd To Tp Bl (st + 1) (CCf n z Hd To Tp Bl) (ciF z Hd To Tp Bl (CCf n z Hd To Tp Bl)) (boF z Hd To Tp Bl (CCf n z Hd To Tp Bl)) (st + 1) (exF (CCf n z Hd To Tp Bl)) (ahH z Hd To Tp Bl (CCf n z Hd To Tp Bl)) (tlF z Hd To Tp Bl (CCf n z Hd To Tp Bl)) Rw := by
  obtain ⟨h1, h2, h3, h4, h5, h6, h7⟩ := h
  exact ⟨by omega, Nat.le_refl _, CCf_ok _ _ _ _ _ _, fun _ => rfl, Nat.le_refl _, fun _ => ⟨rfl, rfl, rfl, rfl, rfl⟩, h7⟩
theorem NB_new {x : NetT} (h : NB n z st Hd To Tp Bl x) : NB n' z' (st + 1) Hd' To' Tp' Bl' x := by
  obtain ⟨h1, h2, h3, h4, h5⟩ := h
  exact ⟨by omega, h2, h3, h4, fun _ e => by omega⟩
theorem INt_new (h : INt n m z st ns Hd To Tp Bl N Lm Lf Ly Lt La) : INt n m z' (st + 1) ns Hd' To' Tp' Bl' N Lm Lf Ly Lt La := by
  obtain ⟨h1, h2, h3, h4, h5⟩ := h
  exact ⟨h1, fun j hj => NB_new (h2 j hj), h3, h4, h5⟩
theorem INt_0 (h : INt n m z st ns Hd To Tp Bl N Lm Lf Ly Lt La) : INt n' m' z' (st + 1) 0 Hd' To' Tp' Bl' N Lm Lf Ly Lt La := by
  obtain ⟨h1, h2, h3, h4, h5⟩ := h
  exact ⟨by omega, fun j hj => NB_new (h2 j hj), fun j hj => absurd hj (Nat.not_lt_zero j), h4, h5⟩
theorem INt_un (h : INt n m z st ns Hd To Tp Bl N Lm Lf Ly Lt La) : INt n m z st (ns - 1) Hd To Tp Bl N Lm Lf Ly Lt La := by
  obtain ⟨h1, h2, h3, h4, h5⟩ := h
  exact ⟨by omega, h2, fun j hj => h3 j (by omega), h4, h5⟩
theorem up_all {α : Type} {f : Nat → α} {P : Nat → α → Prop} {k : Nat} {x : α} (h : ∀ j, j ≠ k → P j (f j)) (hx : P k x) (j : Nat) : P j (up f k x j) := by
  by_cases e : j = k
  · subst e; rw [up_same]; exact hx
  · rw [up_ne _ _ e]; exact h j e
theorem INt_far {j : Nat} (hj : j < ns) (h : INt n m z st ns Hd To Tp Bl N Lm Lf Ly Lt La) : INt n m z st ns Hd To Tp Bl (up N j ((N j).1, (N j).2.1, false, st + 1, (N j).2.2.2.2.1, KKf n z (N j).2.2.2.2.1 Hd To Tp Bl)) Lm Lf Ly Lt La := by
  obtain ⟨h1, h2, h3, h4, h5⟩ := h
  have b := h2 j (by omega)
  have c := h3 j hj
  refine ⟨h1, fun i hi => ?_, fun i hi => ?_, h4, h5⟩
  · by_cases e : i = j
    · subst e; rw [up_same]; exact ⟨Nat.le_refl _, KKf_ok _ _ _ _ _ _ _, b.2.2.1, b.2.2.2.1, fun _ _ => rfl⟩
    · rw [up_ne _ _ e]; exact h2 i hi
  · by_cases e : i = j
    · subst e; rw [up_same]; exact c
    · rw [up_ne _ _ e]; exact h3 i hi
theorem clL_in {La : Nat → Bool} {b : Nat} : ∀ {x y : Nat}, y < x → clL La b x (b + y) = false
  | 0, y, h => absurd h (Nat.not_lt_zero y)
  | x + 1, y, h => by
    simp only [clL]
    by_cases e : y = x
    · subst e; rw [up_same]
    · rw [up_ne _ _ (by omega)]; exact clL_in (by omega)
theorem clL_out {La : Nat → Bool} {b k : Nat} : ∀ {x : Nat}, (k < b ∨ b + x ≤ k) → clL La b x k = La k
  | 0, _ => rfl
  | x + 1, h => by
    simp only [clL]
    rw [up_ne _ _ (by omega)]; exact clL_out (by omega)
theorem lkG_ne {Lf Ly Lt Lm : Nat → Nat} {i k v : Nat} (h : i ≠ k) : lkG Lf Ly Lt (up Lm k v) i = lkG Lf Ly Lt Lm i := by
  unfold lkG; rw [up_ne _ _ h]
theorem INt_set (hns : ns < 6) (h : INt n m z st ns Hd To Tp Bl N Lm Lf Ly Lt La) : INt n m z st (ns + 1) Hd To Tp Bl (up N ns (0, 0, true, (N ns).2.2.2.1, fun _ => 0, (N ns).2.2.2.2.2)) (up Lm ns 0) Lf Ly Lt (clL La (11 * ns) 11) := by
  obtain ⟨h1, h2, h3, h4, h5⟩ := h
  have b := h2 ns hns
  refine ⟨by omega, fun i hi => ?_, fun i hi => ?_, h4, fun k => up_all (P := fun _ (x : Nat) => x ≤ 24) (fun j _ => h5 j) (Nat.zero_le _) k⟩
  · by_cases e : i = ns
    · subst e; rw [up_same]; exact ⟨b.1, b.2.1, fun _ => show (0 : Nat) < 64 from by decide, show (0 : Nat) < 2 ^ 11 from by decide, fun q => by cases q⟩
    · rw [up_ne _ _ e]; exact h2 i hi
  · by_cases e : i = ns
    · subst e
      rw [up_same]
      refine ⟨by rw [up_same], ⟨fun p s nd _ _ _ => ?_, fun p s y _ _ _ _ q => ?_⟩, fun y hy => ?_⟩
      · show Nat.testBit 0 nd = lkF Lf Ly Lt (24 * i) p s (5 + nd) (up Lm i 0 i)
        rw [up_same]; exact Nat.zero_testBit nd
      · have q2 : lkF Lf Ly Lt (24 * i) p s y (up Lm i 0 i) = true := q
        rw [up_same] at q2; cases q2
      · show Nat.testBit 0 y = _
        rw [clL_in hy]; exact Nat.zero_testBit y
    · rw [up_ne _ _ e]
      obtain ⟨a1, a2, a3⟩ := h3 i (by omega)
      refine ⟨by rw [up_ne _ _ e]; exact a1, by rw [lkG_ne e]; exact a2, fun y hy => ?_⟩
      rw [clL_out (by omega)]; exact a3 y hy
theorem lkF_congr {Lf Ly Lt Lf' Ly' Lt' : Nat → Nat} {b f s t : Nat} : ∀ K, (∀ i, i < K → Lf (b + i) = Lf' (b + i) ∧ Ly (b + i) = Ly' (b + i) ∧ Lt (b + i) = Lt' (b + i)) → lkF Lf Ly Lt b f s t K = lkF Lf' Ly' Lt' b f s t K
  | 0, _ => rfl
  | K + 1, h => by
    obtain ⟨e1, e2, e3⟩ := h K (by omega)
    simp only [lkF]; rw [lkF_congr K (fun i hi => h i (by omega)), e1, e2, e3]
theorem INt_link {j w y s u : Nat} (hj : j < ns) (hw : w < 2) (hy : if w = 0 then y < n else y < 6) (hn : n ≤ 5) (hm : m ≤ 5) (hs : s < m) (hu : u < 6) (hlk : Lm j < 24) (h : INt n m z st ns Hd To Tp Bl N Lm Lf Ly Lt La) :
    INt n m z st ns Hd To Tp Bl (up N j ((N j).1 + 1, (N j).2.1, true, (N j).2.2.2.1, up (N j).2.2.2.2.1 ((if w = 0 then y else 5 + y) * 5 + s) ((N j).2.2.2.2.1 ((if w = 0 then y else 5 + y) * 5 + s) ||| 1 * 2 ^ u), (N j).2.2.2.2.2)) (up Lm j (Lm j + 1)) (up Lf (24 * j + Lm j) (if w = 0 then y else 5 + y)) (up Ly (24 * j + Lm j) s) (up Lt (24 * j + Lm j) (5 + u)) La := by
  obtain ⟨h1, h2, h3, h4, h5⟩ := h
  have hpl := pl_lt hw hy hn
  have hp5 : (if w = 0 then y else 5 + y) < 5 → (if w = 0 then y else 5 + y) < n := by
    by_cases e : w = 0
    · rw [if_pos e] at hy ⊢; intro _; exact hy
    · rw [if_neg e]; intro q; omega
  generalize (if w = 0 then y else 5 + y) = pl at hpl hp5 ⊢
  have b := h2 j (by omega)
  have c := h3 j hj
  refine ⟨h1, fun i hi => ?_, fun i hi => ?_, fun k => ⟨up_all (P := fun _ (x : Nat) => x < 11) (fun j _ => (h4 j).1) hpl k, up_all (P := fun _ (x : Nat) => x < 5) (fun j _ => (h4 j).2.1) (by omega) k, up_all (P := fun _ (x : Nat) => x < 11) (fun j _ => (h4 j).2.2) (by omega) k⟩, fun k => up_all (P := fun _ (x : Nat) => x ≤ 24) (fun j _ => h5 j) (by omega) k⟩
  · by_cases e : i = j
    · subst e; rw [up_same]
      refine ⟨b.1, b.2.1, fun k => up_all (P := fun _ (x : Nat) => x < 64) (fun j _ => b.2.2.1 j) ?_ k, b.2.2.2.1, fun q => by cases q⟩
      exact Nat.or_lt_two_pow (n := 6) (b.2.2.1 _) (by rw [Nat.one_mul]; exact Nat.pow_lt_pow_right (a := 2) (by decide) hu)
    · rw [up_ne _ _ e]; exact h2 i hi
  · by_cases e : i = j
    · subst e; rw [up_same]
      obtain ⟨a1, a2, a3⟩ := c
      have eL : ∀ p s' x, lkG (up Lf (24 * i + Lm i) pl) (up Ly (24 * i + Lm i) s) (up Lt (24 * i + Lm i) (5 + u)) (up Lm i (Lm i + 1)) i p s' x = (lkG Lf Ly Lt Lm i p s' x || decide (pl = p ∧ s = s' ∧ 5 + u = x)) := by
        intro p s' x
        unfold lkG
        rw [up_same]
        simp only [lkF, up_same]
        rw [lkF_congr (Lf' := Lf) (Ly' := Ly) (Lt' := Lt) (Lm i) (fun k hk => ⟨up_ne _ _ (by omega), up_ne _ _ (by omega), up_ne _ _ (by omega)⟩)]
      refine ⟨by rw [up_same, a1], ⟨fun p s' nd hp hs' hnd => ?_, fun p s' x hp hs' hx1 hx2 q => ?_⟩, a3⟩
      · rw [eL]
        have o := a2.1 p s' nd hp hs' hnd
        rw [← o]
        show (up (N i).2.2.2.2.1 (pl * 5 + s) _ (p * 5 + s')).testBit nd = _
        by_cases q : p * 5 + s' = pl * 5 + s
        · have q1 : pl = p := by omega
          have q2 : s = s' := by omega
          subst q1; subst q2
          rw [up_same, Nat.testBit_or, pow_bit]
          congr 1
          apply decide_eq_decide.mpr; omega
        · rw [up_ne _ _ q, decide_eq_false (by omega), Bool.or_false]
      · rw [eL, Bool.or_eq_true, decide_eq_true_eq] at q
        rcases q with q | ⟨q1, q2, q3⟩
        · exact a2.2 p s' x hp hs' hx1 hx2 q
        · subst q1; subst q2; exact ⟨hp5 hp, hs⟩
    · rw [up_ne _ _ e]
      obtain ⟨a1, a2, a3⟩ := h3 i hi
      refine ⟨by rw [up_ne _ _ e]; exact a1, ?_, a3⟩
      have : lkG (up Lf (24 * j + Lm j) pl) (up Ly (24 * j + Lm j) s) (up Lt (24 * j + Lm j) (5 + u)) (up Lm j (Lm j + 1)) i = lkG Lf Ly Lt Lm i := by
        rw [lkG_ne e]
        unfold lkG
        funext p s' x
        have := h5 i
        exact lkF_congr (Lm i) (fun k hk => ⟨up_ne _ _ (by omega), up_ne _ _ (by omega), up_ne _ _ (by omega)⟩)
      rw [this]; exact a2
theorem mkF_bit {lp p y : Nat} {i : Bool} (hp : p < 11) (hy : y < 11) : (mkF lp p i).testBit y = if y = p then i else lp.testBit y := by
  unfold mkF
  cases i with
  | true =>
    rw [if_pos rfl, Nat.testBit_or, pow_bit]
    by_cases e : y = p
    · subst e; simp
    · rw [if_neg e, decide_eq_false (fun q => e q.symm), Bool.or_false]
  | false =>
    rw [if_neg (by decide), Nat.testBit_and, Nat.testBit_xor, pow_bit, show (4294967295 : Nat) = 2 ^ 32 - 1 from rfl, Nat.testBit_two_pow_sub_one, decide_eq_true (show y < 32 by omega)]
    by_cases e : y = p
    · subst e; simp
    · rw [if_neg e, decide_eq_false (fun q => e q.symm)]; simp
theorem mkF_lt {lp p : Nat} {i : Bool} (hp : p < 11) (hl : lp < 2 ^ 11) : mkF lp p i < 2 ^ 11 := by
  unfold mkF
  cases i with
  | true => rw [if_pos rfl]; exact Nat.or_lt_two_pow hl (by rw [Nat.one_mul]; exact Nat.pow_lt_pow_right (a := 2) (by decide) hp)
  | false => rw [if_neg (by decide)]; exact Nat.lt_of_le_of_lt Nat.and_le_left hl
theorem INt_last {j pl : Nat} {b : Bool} (hj : j < ns) (hpl : pl < 11) (h : INt n m z st ns Hd To Tp Bl N Lm Lf Ly Lt La) :
    INt n m z st ns Hd To Tp Bl (up N j ((N j).1, mkF (N j).2.1 pl b, (N j).2.2.1, (N j).2.2.2.1, (N j).2.2.2.2.1, (N j).2.2.2.2.2)) Lm Lf Ly Lt (up La (11 * j + pl) b) := by
  obtain ⟨h1, h2, h3, h4, h5⟩ := h
  have bb := h2 j (by omega)
  have c := h3 j hj
  refine ⟨h1, fun i hi => ?_, fun i hi => ?_, h4, h5⟩
  · by_cases e : i = j
    · subst e; rw [up_same]; exact ⟨bb.1, bb.2.1, bb.2.2.1, mkF_lt hpl bb.2.2.2.1, bb.2.2.2.2⟩
    · rw [up_ne _ _ e]; exact h2 i hi
  · by_cases e : i = j
    · subst e; rw [up_same]
      refine ⟨c.1, c.2.1, fun y hy => ?_⟩
      show (mkF (N i).2.1 pl b).testBit y = _
      rw [mkF_bit hpl hy]
      by_cases q : y = pl
      · subst q; rw [if_pos rfl, up_same]
      · rw [if_neg q, up_ne _ _ (by omega)]; exact c.2.2 y hy
    · rw [up_ne _ _ e]
      obtain ⟨a1, a2, a3⟩ := h3 i hi
      exact ⟨a1, a2, fun y hy => by rw [up_ne _ _ (by omega)]; exact a3 y hy⟩
end IV
/-- a call on both sides: the same answer, the worlds again as they must -/
def STI (l : Launch) (D : va_G) (cy : Nat → ClassId) (o o7 t : Nat) (wc wm : va_W) (y6 : MethodName) (w6 : List Cond) (y7 : MethodName) (w7 : List Cond) (As : List Value) : Prop :=
  ∃ (wc' wm' : va_W) (v : Int32) (f L f' L' : Nat), (f ≤ 8 ∧ L ≤ 300 ∧ f' ≤ 8 ∧ L' ≤ 300) ∧ INV (t + 1) cy o o7 wc' wm' ∧ CoI l y6 w6 f L D cy wc (.ref o :: As) wc' v ∧ CoI l y7 w7 f' L' D cy wm (.ref o7 :: As) wm' v
def STL (l : Launch) (D : va_G) (cy : Nat → ClassId) (o o7 t : Nat) (wc wm : va_W) (y6 : MethodName) (w6 : List Cond) (y7 : MethodName) (w7 : List Cond) (As : List Value) : Prop :=
  ∃ (wc' wm' : va_W) (v : Int64) (f L f' L' : Nat), (f ≤ 8 ∧ L ≤ 300 ∧ f' ≤ 8 ∧ L' ≤ 300) ∧ INV (t + 1) cy o o7 wc' wm' ∧ CoL l y6 w6 f L D cy wc (.ref o :: As) wc' v ∧ CoL l y7 w7 f' L' D cy wm (.ref o7 :: As) wm' v
theorem sti {l : Launch} {D : va_G} {cy : Nat → ClassId} {o o7 t : Nat} {wc wm wc' wm' : va_W} {y6 y7 : MethodName} {w6 w7 : List Cond} {As : List Value} {v : Int32} {f L f' L' : Nat} (h6 : CoI l y6 w6 f L D cy wc (.ref o :: As) wc' v) (h7 : CoI l y7 w7 f' L' D cy wm (.ref o7 :: As) wm' v) (hI : INV (t + 1) cy o o7 wc' wm') (hb : f ≤ 8 ∧ L ≤ 300 ∧ f' ≤ 8 ∧ L' ≤ 300) : STI l D cy o o7 t wc wm y6 w6 y7 w7 As := ⟨wc', wm', v, f, L, f', L', hb, hI, h6, h7⟩
theorem stl {l : Launch} {D : va_G} {cy : Nat → ClassId} {o o7 t : Nat} {wc wm wc' wm' : va_W} {y6 y7 : MethodName} {w6 w7 : List Cond} {As : List Value} {v : Int64} {f L f' L' : Nat} (h6 : CoL l y6 w6 f L D cy wc (.ref o :: As) wc' v) (h7 : CoL l y7 w7 f' L' D cy wm (.ref o7 :: As) wm' v) (hI : INV (t + 1) cy o o7 wc' wm') (hb : f ≤ 8 ∧ L ≤ 300 ∧ f' ≤ 8 ∧ L' ≤ 300) : STL l D cy o o7 t wc wm y6 w6 y7 w7 As := ⟨wc', wm', v, f, L, f', L', hb, hI, h6, h7⟩
end
