def inR (x : Int32) (n : Nat) : Bool := decide (0 ≤ x.toInt ∧ x.toInt < n)
theorem inR_lt {x : Int32} {n : Nat} (h : x < 0) : inR x n = false := by
  rw [Int32.lt_iff_toInt_lt] at h
  simp [inR]; intro h2; exact absurd h (by simpa using h2)
theorem inR_ge {x : Int32} {n : Nat} (hn : n < 2 ^ 31) (h : nI n ≤ x) : inR x n = false := by
  rw [Int32.le_iff_toInt_le, nI_toInt hn] at h
  simp [inR]; omega
theorem inR_t {x : Int32} {n : Nat} (hn : n < 2 ^ 31) (h0 : ¬ x < 0) (h : ¬ nI n ≤ x) : inR x n = true := by
  rw [Int32.le_iff_toInt_le, nI_toInt hn] at h
  rw [Int32.lt_iff_toInt_lt] at h0
  have : (0 : Int32).toInt = 0 := by decide
  simp [inR]; omega
theorem inR_of {x : Int32} {n : Nat} (h : inR x n = true) : ∃ j : Nat, j < n ∧ x = nI j := by
  simp [inR] at h
  have hx : ¬ x < 0 := by
    rw [Int32.lt_iff_toInt_lt]
    have : (0 : Int32).toInt = 0 := by decide
    omega
  obtain ⟨j, hj, rfl⟩ := nI_of hx
  rw [nI_toInt hj] at h
  exact ⟨j, by omega, rfl⟩
theorem inR_nI {j n : Nat} (hj : j < 2 ^ 31) : inR (nI j) n = decide (j < n) := by
  simp [inR, nI_toInt hj]
def sm (a b : Nat) : Nat := if a = 9000000000000000000 ∨ b = 9000000000000000000 then 9000000000000000000 else min 1000000000000000 (a + b)
theorem tb_0 {b i : Nat} (h : b / 2 ^ i &&& 1 = 0) : b.testBit i = false := by
  rw [Nat.and_one_is_mod] at h
  rw [Nat.testBit_eq_decide_div_mod_eq, h]; rfl
theorem tb_1 {b i : Nat} (h : ¬ b / 2 ^ i &&& 1 = 0) : b.testBit i = true := by
  rw [Nat.and_one_is_mod] at h
  rw [Nat.testBit_eq_decide_div_mod_eq]
  have : b / 2 ^ i % 2 = 1 := by omega
  rw [this]; rfl
theorem bx_lt (b i : Nat) (h : b < 2 ^ 31) : b / 2 ^ i &&& 1 < 2 ^ 31 := by
  rw [Nat.and_one_is_mod]; omega
def matchF (Hd : Nat → Nat) (w : Nat) : Nat → Nat
  | 0 => 0
  | n + 1 => matchF Hd w n + (if Hd n + 1 = w then 1 else 0)
theorem matchF_le (Hd : Nat → Nat) (w : Nat) : ∀ n, matchF Hd w n ≤ n
  | 0 => Nat.le_refl _
  | n + 1 => by have := matchF_le Hd w n; simp only [matchF]; split <;> omega
theorem arrV_congr (c : ClassId) (n : Nat) (f g : Nat → Value) (h : ∀ k, k < n → f k = g k) : arrV c n f = arrV c n g := by
  unfold arrV
  congr 1
  congr 1
  funext i
  exact h i.val i.isLt
theorem swap_P {D : va_G} {cl : List vw_C} {ws : va_W} {H : Heap} (hP : va_P D cl ws H) {q0 a : Nat} {c : ClassId} {x y : vp_A} (ha : ws[q0]? = some (a, .inl (c, x))) (h : vp_cell c x = vp_cell c y) : va_P D cl (ws.set q0 (a, .inl (c, y))) H := by
  intro k q hq
  by_cases e : k = q0
  · subst e
    have hk : k < ws.length := (List.getElem?_eq_some_iff.mp ha).1
    rw [List.getElem?_set_self hk] at hq
    cases hq
    have := hP k _ ha
    show H[a]? = some (vp_cell c y)
    rw [← h]; exact this
  · rw [List.getElem?_set_ne (Ne.symm e)] at hq
    exact hP k q hq
theorem go_swap {E : Ev} {k n pc : Nat} {lv : List (Nat × Value)} {st : List Value} {ws ws' : va_W} (q0 : Nat) {a : Nat} {c : ClassId} {x y : vp_A} (ha : ws[q0]? = some (a, .inl (c, x))) (h : vp_cell c x = vp_cell c y) (hw : ws.set q0 (a, .inl (c, y)) = ws') (kk : Go E k n pc lv st ws') : Go E k n pc lv st ws := by
  subst hw
  exact fun H locs ls hl hP hD hS => kk H locs ls hl (swap_P hP ha h) (hD.set ha) hS
theorem cell_N (c : ClassId) (n : Nat) (X Y : Nat → Nat) (h : ∀ k, k < n → X k = Y k) : vp_cell c (n, .inl (fun r => nI (X r))) = vp_cell c (n, .inl (fun r => nI (Y r))) := by
  simp only [vp_cell_i]
  exact arrV_congr c n _ _ (fun k hk => by rw [h k hk])
theorem cell_L (c : ClassId) (n : Nat) (X Y : Nat → Nat) (h : ∀ k, k < n → X k = Y k) : vp_cell c (n, .inr (.inl (fun r => lN (X r)))) = vp_cell c (n, .inr (.inl (fun r => lN (Y r)))) := by
  simp only [vp_cell_l]
  exact arrV_congr c n _ _ (fun k hk => by rw [h k hk])
theorem cell_R (c : ClassId) (n : Nat) (X Y : Nat → Nat) (h : ∀ k, k < n → X k = Y k) : vp_cell c (n, .inr (.inl (fun r => rv (X r)))) = vp_cell c (n, .inr (.inl (fun r => rv (Y r)))) := by
  simp only [vp_cell_l]
  exact arrV_congr c n _ _ (fun k hk => by rw [h k hk])
theorem cell_Z (c : ClassId) (n : Nat) (X Y : Nat → Bool) (h : ∀ k, k < n → X k = Y k) : vp_cell c (n, .inl (fun r => bI (X r))) = vp_cell c (n, .inl (fun r => bI (Y r))) := by
  simp only [vp_cell_i]
  exact arrV_congr c n _ _ (fun k hk => by rw [h k hk])
def fillF {α : Type} (X : Nat → α) (v : α) (i : Nat) : Nat → α := fun k => if k < i then v else X k
theorem fillF_0 {α : Type} (X : Nat → α) (v : α) : fillF X v 0 = X := by funext k; simp [fillF]
theorem fillF_s {α : Type} (X : Nat → α) (v : α) (i : Nat) : fillF X v (i + 1) = up (fillF X v i) i v := by
  funext k; simp only [fillF, up]
  by_cases h : k = i
  · subst h; simp
  · by_cases h2 : k < i
    · simp [h, h2, Nat.lt_succ_of_lt h2]
    · have : ¬ k < i + 1 := by omega
      simp [h, h2, this]
theorem fillF_in {α : Type} (X : Nat → α) (v : α) {i k : Nat} (h : k < i) : fillF X v i k = v := by simp [fillF, h]
theorem nI_oI {a u : Nat} (ha : a < 500) (hu : u < 1000) : nI a = oI u ↔ a + 1 = u := by
  rw [← oI_s]
  constructor
  · intro h
    cases u with
    | zero => exact absurd ((oI_eq (a := a + 1) (by omega)).mp (h.trans oI_0)) (by omega)
    | succ u => rw [oI_s, oI_s] at h; have := (nI_eq (by omega) (by omega)).mp h; omega
  · intro h; rw [h]
theorem oI_nI {a u : Nat} (ha : a < 2 ^ 30) (hu : u < 2 ^ 30) : oI u = nI a ↔ u = a + 1 := by
  cases u with
  | zero =>
    constructor
    · intro h
      have := nI_toInt (n := a) (by omega)
      rw [← h, oI_0] at this
      have h2 : (-1 : Int32).toInt = -1 := by decide
      omega
    · intro h; omega
  | succ u => rw [oI_s, nI_eq (by omega) (by omega)]; omega
def headF (c h : Nat) (Sg : Nat → Nat) : Nat := if h = 0 then 0 else c * 5 + Sg (h - 1) + 1
def chH (h a b : Nat) : Nat := h - 1 + (if b = 0 then 0 else 1) + (if a = 0 then 0 else 1)
def chS (Sg : Nat → Nat) (h a b : Nat) : Nat → Nat := if a = 0 then (if b = 0 then Sg else up Sg (h - 1) (b - 1)) else up (if b = 0 then Sg else up Sg (h - 1) (b - 1)) (h - 1 + (if b = 0 then 0 else 1)) (a - 1)
def okf (C : Nat → Nat) : Prop := ∀ k, C k ≤ 1000000000000000 ∨ C k = 9000000000000000000
theorem sm_ok (a b : Nat) : sm a b ≤ 1000000000000000 ∨ sm a b = 9000000000000000000 := by
  unfold sm; split
  · exact Or.inr rfl
  · left; exact Nat.min_le_left _ _
theorem up_ok {C : Nat → Nat} {i v : Nat} (h : okf C) (hv : v ≤ 1000000000000000 ∨ v = 9000000000000000000) : okf (up C i v) := by
  intro k; unfold up; split
  · exact hv
  · exact h k
def lowB (C : Nat → Nat) (i v : Nat) : Bool := decide (v < C i)
def lowC (C : Nat → Nat) (i v : Nat) : Nat → Nat := if v < C i then up C i v else C
theorem lowC_ok {C : Nat → Nat} {i v : Nat} (h : okf C) (hv : v ≤ 1000000000000000 ∨ v = 9000000000000000000) : okf (lowC C i v) := by
  unfold lowC; split
  · exact up_ok h hv
  · exact h
def prC (C : Nat → Nat) (base first next : Nat) : Nat → Nat → Nat
  | 0 => C
  | x + 1 => lowC (prC C base first next x) (base + x) (sm first (prC C base first next x (next * 5 + x)))
def prB (C : Nat → Nat) (base first next : Nat) : Nat → Bool
  | 0 => false
  | x + 1 => lowB (prC C base first next x) (base + x) (sm first (prC C base first next x (next * 5 + x))) || prB C base first next x
theorem prC_ok {C : Nat → Nat} (h : okf C) (base first next : Nat) : ∀ x, okf (prC C base first next x)
  | 0 => h
  | x + 1 => lowC_ok (prC_ok h base first next x) (sm_ok _ _)
def pbC (n : Nat) (C : Nat → Nat) (base inner b : Nat) : Nat → Nat → Nat
  | 0 => C
  | x + 1 => if sm 1 (pbC n C base inner b x (inner + x)) = 9000000000000000000 then pbC n C base inner b x else if b = 0 then lowC (pbC n C base inner b x) (base + x) (sm 1 (pbC n C base inner b x (inner + x))) else prC (pbC n C base inner b x) base (sm 1 (pbC n C base inner b x (inner + x))) (x * 5 + (b - 1)) n
def pbB (n : Nat) (C : Nat → Nat) (base inner b : Nat) : Nat → Bool
  | 0 => false
  | x + 1 => if sm 1 (pbC n C base inner b x (inner + x)) = 9000000000000000000 then pbB n C base inner b x else (if b = 0 then lowB (pbC n C base inner b x) (base + x) (sm 1 (pbC n C base inner b x (inner + x))) else prB (pbC n C base inner b x) base (sm 1 (pbC n C base inner b x (inner + x))) (x * 5 + (b - 1)) n) || pbB n C base inner b x
theorem pbC_ok {n : Nat} {C : Nat → Nat} (h : okf C) (base inner b : Nat) : ∀ x, okf (pbC n C base inner b x)
  | 0 => h
  | x + 1 => by
    simp only [pbC]; split
    · exact pbC_ok h base inner b x
    · split
      · exact lowC_ok (pbC_ok h base inner b x) (sm_ok _ _)
      · exact prC_ok (pbC_ok h base inner b x) _ _ _ _
def byC (n : Nat) (Hd To Tp Bl : Nat → Nat) (C : Nat → Nat) (r : Nat) : Nat → Nat := if Tp r = 0 then lowC C (Hd r * 5 + To r) 1 else pbC n C (Hd r * 5) ((To r * 5 + (Tp r - 1)) * 5) (Bl r) n
def byB (n : Nat) (Hd To Tp Bl : Nat → Nat) (C : Nat → Nat) (r : Nat) : Bool := if Tp r = 0 then lowB C (Hd r * 5 + To r) 1 else pbB n C (Hd r * 5) ((To r * 5 + (Tp r - 1)) * 5) (Bl r) n
theorem byC_ok {n : Nat} {Hd To Tp Bl C : Nat → Nat} (h : okf C) (r : Nat) : okf (byC n Hd To Tp Bl C r) := by
  unfold byC; split
  · exact lowC_ok h (Or.inl (by decide))
  · exact pbC_ok h _ _ _ _
def rdC (n : Nat) (Hd To Tp Bl : Nat → Nat) (C : Nat → Nat) : Nat → Nat → Nat
  | 0 => C
  | r + 1 => byC n Hd To Tp Bl (rdC n Hd To Tp Bl C r) r
def rdB (n : Nat) (Hd To Tp Bl : Nat → Nat) (C : Nat → Nat) : Nat → Bool
  | 0 => false
  | r + 1 => byB n Hd To Tp Bl (rdC n Hd To Tp Bl C r) r || rdB n Hd To Tp Bl C r
theorem rdC_ok {n : Nat} {Hd To Tp Bl C : Nat → Nat} (h : okf C) : ∀ r, okf (rdC n Hd To Tp Bl C r)
  | 0 => h
  | r + 1 => byC_ok (rdC_ok h r) r
def itC (n z : Nat) (Hd To Tp Bl : Nat → Nat) : Nat → Nat → Nat
  | 0 => fun _ => 9000000000000000000
  | t + 1 => rdC n Hd To Tp Bl (itC n z Hd To Tp Bl t) z
def itB (n z : Nat) (Hd To Tp Bl : Nat → Nat) : Nat → Bool
  | 0 => true
  | t + 1 => rdB n Hd To Tp Bl (itC n z Hd To Tp Bl t) z
theorem itC_ok {n z : Nat} {Hd To Tp Bl : Nat → Nat} : ∀ t, okf (itC n z Hd To Tp Bl t)
  | 0 => fun _ => Or.inr rfl
  | t + 1 => rdC_ok (itC_ok t) z
def ruOK (n z : Nat) (Hd To Tp Bl : Nat → Nat) : Prop := n ≤ 5 ∧ z ≤ 30 ∧ ∀ r, Hd r < 25 ∧ To r < 5 ∧ Tp r ≤ 5 ∧ Bl r ≤ 5
theorem lowC_same {C : Nat → Nat} {i v : Nat} (h : lowB C i v = false) : lowC C i v = C := by
  simp [lowB] at h; simp [lowC]; intro h2; omega
theorem prC_same {C : Nat → Nat} {base first next : Nat} : ∀ x, prB C base first next x = false → prC C base first next x = C
  | 0, _ => rfl
  | x + 1, h => by
    simp only [prB, Bool.or_eq_false_iff] at h
    simp only [prC]; rw [lowC_same h.1, prC_same x h.2]
theorem pbC_same {n : Nat} {C : Nat → Nat} {base inner b : Nat} : ∀ x, pbB n C base inner b x = false → pbC n C base inner b x = C
  | 0, _ => rfl
  | x + 1, h => by
    by_cases e : sm 1 (pbC n C base inner b x (inner + x)) = 9000000000000000000
    · simp only [pbB, if_pos e] at h
      simp only [pbC, if_pos e]; exact pbC_same x h
    · simp only [pbB, if_neg e, Bool.or_eq_false_iff] at h
      simp only [pbC, if_neg e]
      by_cases f : b = 0
      · rw [if_pos f] at h ⊢; rw [lowC_same h.1]; exact pbC_same x h.2
      · rw [if_neg f] at h ⊢; rw [prC_same n h.1]; exact pbC_same x h.2
theorem byC_same {n : Nat} {Hd To Tp Bl C : Nat → Nat} {r : Nat} (h : byB n Hd To Tp Bl C r = false) : byC n Hd To Tp Bl C r = C := by
  unfold byB at h; unfold byC
  split at h
  · next e => rw [if_pos e]; exact lowC_same h
  · next e => rw [if_neg e]; exact pbC_same _ h
theorem rdC_same {n : Nat} {Hd To Tp Bl C : Nat → Nat} : ∀ r, rdB n Hd To Tp Bl C r = false → rdC n Hd To Tp Bl C r = C
  | 0, _ => rfl
  | r + 1, h => by
    simp only [rdB, Bool.or_eq_false_iff] at h
    have e := rdC_same r h.2
    simp only [rdC]
    rw [byC_same h.1, e]
theorem itC_fix {n z : Nat} {Hd To Tp Bl : Nat → Nat} {t : Nat} (h : rdC n Hd To Tp Bl (itC n z Hd To Tp Bl t) z = itC n z Hd To Tp Bl t) : ∀ d, itC n z Hd To Tp Bl (t + d) = itC n z Hd To Tp Bl t
  | 0 => rfl
  | d + 1 => by
    show rdC n Hd To Tp Bl (itC n z Hd To Tp Bl (t + d)) z = _
    rw [itC_fix h d]; exact h
theorem itC_stop {n z : Nat} {Hd To Tp Bl : Nat → Nat} {t : Nat} (ht : t ≤ 126) (h : itB n z Hd To Tp Bl t = false) : itC n z Hd To Tp Bl 126 = itC n z Hd To Tp Bl t := by
  cases t with
  | zero => simp [itB] at h
  | succ t =>
    have e := rdC_same z (show rdB n Hd To Tp Bl (itC n z Hd To Tp Bl t) z = false from h)
    have f := itC_fix e
    have h1 : itC n z Hd To Tp Bl (t + 1) = itC n z Hd To Tp Bl t := e
    rw [h1]
    have := f (126 - t)
    rw [show t + (126 - t) = 126 from by omega] at this
    exact this
