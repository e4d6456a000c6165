theorem up_up {α : Type} (f : Nat → α) (k : Nat) (x y : α) : up (up f k x) k y = up f k y := by
  funext j; simp only [up]; split <;> rfl
theorem pow_lt_25 {p : Nat} (h : p < 25) : 2 ^ p < 2 ^ 25 := Nat.pow_lt_pow_right (a := 2) (by decide) h
theorem or25 {a b : Nat} (ha : a < 2 ^ 25) (hb : b < 2 ^ 25) : a ||| b < 2 ^ 25 := Nat.or_lt_two_pow ha hb
theorem one25 {p : Nat} (h : p < 25) : 1 * 2 ^ p < 2 ^ 25 := by rw [Nat.one_mul]; exact pow_lt_25 h
def exQ (Cv : Nat → Nat) (hd : Nat) : Nat → Nat
  | 0 => 0
  | q + 1 => if Cv (hd * 5 + q) = 9000000000000000000 then exQ Cv hd q else exQ Cv hd q ||| 1 * 2 ^ q
def exF (Cv : Nat → Nat) : Nat → Nat := fun hd => exQ Cv hd 5
theorem exQ_lt (Cv : Nat → Nat) (hd : Nat) : ∀ q, q ≤ 5 → exQ Cv hd q < 32
  | 0, _ => Nat.zero_lt_succ 31
  | q + 1, h => by
    simp only [exQ]; split
    · exact exQ_lt Cv hd q (by omega)
    · exact Nat.or_lt_two_pow (n := 5) (exQ_lt Cv hd q (by omega)) (by rw [Nat.one_mul]; exact pow_lt_32 (by omega))
theorem exF_lt (Cv : Nat → Nat) (hd : Nat) : exF Cv hd < 32 := exQ_lt Cv hd 5 (Nat.le_refl _)
def unQ (x b : Nat) : Nat → Nat
  | 0 => 0
  | q + 1 => if x.testBit q = true then unQ x b q ||| 1 * 2 ^ (q * 5 + b) else unQ x b q
theorem unQ_lt (x : Nat) {b : Nat} (hb : b < 5) : ∀ q, q ≤ 5 → unQ x b q < 2 ^ 25
  | 0, _ => by simp only [unQ]; decide
  | q + 1, h => by
    simp only [unQ]; split
    · exact or25 (unQ_lt x hb q (by omega)) (one25 (by omega))
    · exact unQ_lt x hb q (by omega)
def inF (To Tp : Nat → Nat) (r : Nat) : Nat := To r * 5 + (Tp r - 1)
def unF (Ex To Tp Bl : Nat → Nat) (r : Nat) : Nat := if Bl r = 0 then 0 else unQ (Ex (To r * 5 + (Tp r - 1))) (Bl r - 1) 5
theorem unF_lt {Ex To Tp Bl : Nat → Nat} {r : Nat} (h : Bl r ≤ 5) : unF Ex To Tp Bl r < 2 ^ 25 := by
  unfold unF; split
  · decide
  · exact unQ_lt _ (by omega) 5 (Nat.le_refl _)
def agR (Ex Hd To Tp Bl : Nat → Nat) : Nat → Nat → Nat
  | 0 => fun _ => 0
  | r + 1 => if Tp r = 0 then agR Ex Hd To Tp Bl r else up (agR Ex Hd To Tp Bl r) (Hd r) (agR Ex Hd To Tp Bl r (Hd r) ||| (1 * 2 ^ (To r * 5 + (Tp r - 1)) ||| unF Ex To Tp Bl r))
def lt25 (A : Nat → Nat) : Prop := ∀ k, A k < 2 ^ 25
theorem up_lt25 {A : Nat → Nat} {k v : Nat} (h : lt25 A) (hv : v < 2 ^ 25) : lt25 (up A k v) := by
  intro j; unfold up; split
  · exact hv
  · exact h j
theorem agR_lt {Ex Hd To Tp Bl : Nat → Nat} (h : ∀ r, Hd r < 25 ∧ To r < 5 ∧ Tp r ≤ 5 ∧ Bl r ≤ 5) : ∀ r, lt25 (agR Ex Hd To Tp Bl r)
  | 0 => fun _ => by simp only [agR]; decide
  | r + 1 => by
    simp only [agR]; split
    · exact agR_lt h r
    · have := h r
      exact up_lt25 (agR_lt h r) (or25 (agR_lt h r _) (or25 (one25 (by omega)) (unF_lt (by omega))))
def wsQ (A : Nat → Nat) (m : Nat) : Nat → Nat → Nat
  | 0 => A
  | h + 1 => if (wsQ A m h h).testBit m = true then up (wsQ A m h) h (wsQ A m h h ||| wsQ A m h m) else wsQ A m h
theorem wsQ_lt {A : Nat → Nat} (hA : lt25 A) (m : Nat) : ∀ h, lt25 (wsQ A m h)
  | 0 => hA
  | h + 1 => by
    simp only [wsQ]; split
    · exact up_lt25 (wsQ_lt hA m h) (or25 (wsQ_lt hA m h _) (wsQ_lt hA m h _))
    · exact wsQ_lt hA m h
def wsM (A : Nat → Nat) : Nat → Nat → Nat
  | 0 => A
  | m + 1 => wsQ (wsM A m) m 25
theorem wsM_lt {A : Nat → Nat} (hA : lt25 A) : ∀ m, lt25 (wsM A m)
  | 0 => hA
  | m + 1 => wsQ_lt (wsM_lt hA m) m 25
def cirQ (A : Nat → Nat) : Nat → Nat
  | 0 => 0
  | h + 1 => cirQ A h ||| (A h &&& 1 * 2 ^ h)
theorem cirQ_lt {A : Nat → Nat} (hA : lt25 A) : ∀ h, cirQ A h < 2 ^ 25
  | 0 => by simp only [cirQ]; decide
  | h + 1 => by simp only [cirQ]; exact or25 (cirQ_lt hA h) (Nat.lt_of_le_of_lt Nat.and_le_left (hA h))
def risR (A Hd To Tp Bl : Nat → Nat) : Nat → Nat
  | 0 => 0
  | r + 1 => if Bl r = 0 then risR A Hd To Tp Bl r else risR A Hd To Tp Bl r ||| ((A (To r * 5 + (Tp r - 1)) ||| 1 * 2 ^ (To r * 5 + (Tp r - 1))) &&& 1 * 2 ^ Hd r)
theorem risR_lt {A Hd To Tp Bl : Nat → Nat} (h : ∀ r, Hd r < 25) : ∀ r, risR A Hd To Tp Bl r < 2 ^ 25
  | 0 => by simp only [risR]; decide
  | r + 1 => by
    simp only [risR]; split
    · exact risR_lt h r
    · exact or25 (risR_lt h r) (Nat.lt_of_le_of_lt Nat.and_le_right (one25 (h r)))
def leQ (A : Nat → Nat) (w : Nat) : Nat → Nat
  | 0 => 0
  | h + 1 => if (A h ||| 1 * 2 ^ h) &&& w = 0 then leQ A w h else leQ A w h ||| 1 * 2 ^ h
theorem leQ_lt (A : Nat → Nat) (w : Nat) : ∀ h, h ≤ 25 → leQ A w h < 2 ^ 25
  | 0, _ => by simp only [leQ]; decide
  | h + 1, hh => by
    simp only [leQ]; split
    · exact leQ_lt A w h (by omega)
    · exact or25 (leQ_lt A w h (by omega)) (one25 (by omega))
def rcQ (Tl : Nat → Nat) (sh v : Nat) : Nat → Nat
  | 0 => v
  | h + 1 => if sh.testBit h = true then max (rcQ Tl sh v h) (Tl h) else rcQ Tl sh v h
theorem rcQ_le {Tl : Nat → Nat} {M : Nat} (hT : ∀ k, Tl k ≤ M) {sh v : Nat} (hv : v ≤ M) : ∀ h, rcQ Tl sh v h ≤ M
  | 0 => hv
  | h + 1 => by
    simp only [rcQ]; split
    · exact Nat.max_le.mpr ⟨rcQ_le hT hv h, hT h⟩
    · exact rcQ_le hT hv h
def rbV (Ex To Tp Bl Tl : Nat → Nat) (r : Nat) : Nat := rcQ Tl (unF Ex To Tp Bl r) (Tl (To r * 5 + (Tp r - 1)) + (if Bl r = 0 then 0 else 1)) 25
def rbB (Ex Hd To Tp Bl Tl : Nat → Nat) (r : Nat) : Bool := if Tp r = 0 then false else decide (Tl (Hd r) < rbV Ex To Tp Bl Tl r)
def rbC (Ex Hd To Tp Bl Tl : Nat → Nat) (r : Nat) : Nat → Nat := if Tp r = 0 then Tl else if Tl (Hd r) < rbV Ex To Tp Bl Tl r then up Tl (Hd r) (rbV Ex To Tp Bl Tl r) else Tl
theorem rbC_same {Ex Hd To Tp Bl Tl : Nat → Nat} {r : Nat} (h : rbB Ex Hd To Tp Bl Tl r = false) : rbC Ex Hd To Tp Bl Tl r = Tl := by
  unfold rbB at h; unfold rbC
  split at h
  · next e => rw [if_pos e]
  · next e => rw [if_neg e, if_neg (by simpa using h)]
theorem rbV_le {Ex To Tp Bl Tl : Nat → Nat} {M : Nat} (hT : ∀ k, Tl k ≤ M) (r : Nat) : rbV Ex To Tp Bl Tl r ≤ M + 1 :=
  rcQ_le (fun k => Nat.le_succ_of_le (hT k)) (by have := hT (To r * 5 + (Tp r - 1)); split <;> omega) 25
theorem rbC_le {Ex Hd To Tp Bl Tl : Nat → Nat} {M : Nat} (hT : ∀ k, Tl k ≤ M) (r : Nat) : ∀ k, rbC Ex Hd To Tp Bl Tl r k ≤ M + 1 := by
  intro k; unfold rbC; split
  · exact Nat.le_succ_of_le (hT k)
  · split
    · unfold up; split
      · exact rbV_le hT r
      · exact Nat.le_succ_of_le (hT k)
    · exact Nat.le_succ_of_le (hT k)
def tfR (bo : Nat) (Ex Hd To Tp Bl Tl : Nat → Nat) : Nat → Nat → Nat
  | 0 => Tl
  | r + 1 => if bo.testBit (Hd r) = true then tfR bo Ex Hd To Tp Bl Tl r else rbC Ex Hd To Tp Bl (tfR bo Ex Hd To Tp Bl Tl r) r
def tfB (bo : Nat) (Ex Hd To Tp Bl Tl : Nat → Nat) : Nat → Bool
  | 0 => false
  | r + 1 => if bo.testBit (Hd r) = true then tfB bo Ex Hd To Tp Bl Tl r else rbB Ex Hd To Tp Bl (tfR bo Ex Hd To Tp Bl Tl r) r || tfB bo Ex Hd To Tp Bl Tl r
theorem tfR_same {bo : Nat} {Ex Hd To Tp Bl Tl : Nat → Nat} : ∀ r, tfB bo Ex Hd To Tp Bl Tl r = false → tfR bo Ex Hd To Tp Bl Tl r = Tl
  | 0, _ => rfl
  | r + 1, h => by
    by_cases e : bo.testBit (Hd r) = true
    · simp only [tfB, if_pos e] at h; simp only [tfR, if_pos e]; exact tfR_same r h
    · simp only [tfB, if_neg e, Bool.or_eq_false_iff] at h; simp only [tfR, if_neg e]
      rw [rbC_same h.1]; exact tfR_same r h.2
theorem tfR_le {bo : Nat} {Ex Hd To Tp Bl Tl : Nat → Nat} {M : Nat} (hT : ∀ k, Tl k ≤ M) : ∀ r, ∀ k, tfR bo Ex Hd To Tp Bl Tl r k ≤ M + r
  | 0 => hT
  | r + 1 => by
    intro k
    simp only [tfR]; split
    · exact Nat.le_succ_of_le (tfR_le hT r k)
    · exact rbC_le (tfR_le hT r) r k
def tfT (bo z : Nat) (Ex Hd To Tp Bl : Nat → Nat) : Nat → Nat → Nat
  | 0 => fun _ => 1
  | t + 1 => tfR bo Ex Hd To Tp Bl (tfT bo z Ex Hd To Tp Bl t) z
def tfW (bo z : Nat) (Ex Hd To Tp Bl : Nat → Nat) : Nat → Bool
  | 0 => true
  | t + 1 => tfB bo Ex Hd To Tp Bl (tfT bo z Ex Hd To Tp Bl t) z
theorem tfT_le {bo z : Nat} {Ex Hd To Tp Bl : Nat → Nat} : ∀ t, ∀ k, tfT bo z Ex Hd To Tp Bl t k ≤ 1 + t * z
  | 0 => fun _ => Nat.le_add_right 1 _
  | t + 1 => by
    intro k
    have := tfR_le (bo := bo) (Ex := Ex) (Hd := Hd) (To := To) (Tp := Tp) (Bl := Bl) (tfT_le (bo := bo) (z := z) (Ex := Ex) (Hd := Hd) (To := To) (Tp := Tp) (Bl := Bl) t) z k
    rw [Nat.succ_mul]; simp only [tfT]; omega
theorem tfT_fix {bo z : Nat} {Ex Hd To Tp Bl : Nat → Nat} {t : Nat} (h : tfR bo Ex Hd To Tp Bl (tfT bo z Ex Hd To Tp Bl t) z = tfT bo z Ex Hd To Tp Bl t) : ∀ d, tfT bo z Ex Hd To Tp Bl (t + d) = tfT bo z Ex Hd To Tp Bl t
  | 0 => rfl
  | d + 1 => by
    show tfR bo Ex Hd To Tp Bl (tfT bo z Ex Hd To Tp Bl (t + d)) z = _
    rw [tfT_fix h d]; exact h
theorem tfT_stop {bo z : Nat} {Ex Hd To Tp Bl : Nat → Nat} {t : Nat} (ht : t ≤ 26) (h : tfW bo z Ex Hd To Tp Bl t = false) : tfT bo z Ex Hd To Tp Bl 26 = tfT bo z Ex Hd To Tp Bl t := by
  cases t with
  | zero => simp [tfW] at h
  | succ t =>
    have e := tfR_same z (show tfB bo Ex Hd To Tp Bl (tfT bo z Ex Hd To Tp Bl t) z = false from h)
    have f := tfT_fix e
    have h1 : tfT bo z Ex Hd To Tp Bl (t + 1) = tfT bo z Ex Hd To Tp Bl t := e
    rw [h1]
    have := f (26 - t)
    rw [show t + (26 - t) = 26 from by omega] at this
    exact this
def hsQ (b s : Nat) : Nat → Nat
  | 0 => 0
  | q + 1 => if b.testBit q = true then hsQ b s q ||| 1 * 2 ^ (q * 5 + s) else hsQ b s q
theorem hsQ_lt (b : Nat) {s : Nat} (hs : s < 5) : ∀ q, q ≤ 5 → hsQ b s q < 2 ^ 25
  | 0, _ => by simp only [hsQ]; decide
  | q + 1, h => by
    simp only [hsQ]; split
    · exact or25 (hsQ_lt b hs q (by omega)) (one25 (by omega))
    · exact hsQ_lt b hs q (by omega)
def aeQ (Ex : Nat → Nat) (b s : Nat) : Nat → Nat
  | 0 => 0
  | q + 1 => if b.testBit q = true then aeQ Ex b s q ||| Ex (q * 5 + s) else aeQ Ex b s q
theorem aeQ_lt {Ex : Nat → Nat} (hE : ∀ k, Ex k < 32) (b s : Nat) : ∀ q, aeQ Ex b s q < 32
  | 0 => Nat.zero_lt_succ 31
  | q + 1 => by
    simp only [aeQ]; split
    · exact Nat.or_lt_two_pow (n := 5) (aeQ_lt hE b s q) (hE _)
    · exact aeQ_lt hE b s q
def gnF (ci : Nat) (Ex Sg : Nat → Nat) : Nat → Nat → Bool
  | 0, _ => false
  | a + 1, b => if hsQ b (Sg a) 5 &&& ci = 0 then gnF ci Ex Sg a (aeQ Ex b (Sg a) 5) else true
theorem gnF_pos {ci : Nat} {Ex Sg : Nat → Nat} {a P : Nat} (h : 0 < a) : gnF ci Ex Sg a P = if hsQ P (Sg (a - 1)) 5 &&& ci = 0 then gnF ci Ex Sg (a - 1) (aeQ Ex P (Sg (a - 1)) 5) else true := by
  obtain ⟨b, rfl⟩ : ∃ b, a = b + 1 := ⟨a - 1, by omega⟩
  rfl
def tmQ (Tl : Nat → Nat) (sh i t : Nat) : Nat → Nat
  | 0 => t
  | h + 1 => if sh.testBit h = true then max (tmQ Tl sh i t h) (i + Tl h) else tmQ Tl sh i t h
theorem tmQ_le {Tl : Nat → Nat} {M : Nat} {i : Nat} (hT : ∀ k, i + Tl k ≤ M) {sh t : Nat} (ht : t ≤ M) : ∀ h, tmQ Tl sh i t h ≤ M
  | 0 => ht
  | h + 1 => by
    simp only [tmQ]; split
    · exact Nat.max_le.mpr ⟨tmQ_le hT ht h, hT h⟩
    · exact tmQ_le hT ht h
def tpF (bo : Nat) (Ex Tl Sg : Nat → Nat) : Nat → Nat → Nat → Nat
  | 0, _, t => t + 1
  | a + 1, b, t => if hsQ b (Sg a) 5 &&& bo = 0 then tpF bo Ex Tl Sg a (aeQ Ex b (Sg a) 5) (tmQ Tl (hsQ b (Sg a) 5) a t 25) else 0
theorem tpF_pos {bo : Nat} {Ex Tl Sg : Nat → Nat} {a P t : Nat} (h : 0 < a) : tpF bo Ex Tl Sg a P t = if hsQ P (Sg (a - 1)) 5 &&& bo = 0 then tpF bo Ex Tl Sg (a - 1) (aeQ Ex P (Sg (a - 1)) 5) (tmQ Tl (hsQ P (Sg (a - 1)) 5) (a - 1) t 25) else 0 := by
  obtain ⟨b, rfl⟩ : ∃ b, a = b + 1 := ⟨a - 1, by omega⟩
  rfl
def ahH (z : Nat) (Hd To Tp Bl Cv : Nat → Nat) : Nat → Nat := wsM (agR (exF Cv) Hd To Tp Bl z) 25
def ciF (z : Nat) (Hd To Tp Bl Cv : Nat → Nat) : Nat := leQ (wsM (agR (exF Cv) Hd To Tp Bl z) 25) (cirQ (wsM (agR (exF Cv) Hd To Tp Bl z) 25) 25) 25
def boF (z : Nat) (Hd To Tp Bl Cv : Nat → Nat) : Nat := leQ (wsM (agR (exF Cv) Hd To Tp Bl z) 25) (risR (wsM (agR (exF Cv) Hd To Tp Bl z) 25) Hd To Tp Bl z) 25
def tlF (z : Nat) (Hd To Tp Bl Cv : Nat → Nat) : Nat → Nat := tfT (leQ (wsM (agR (exF Cv) Hd To Tp Bl z) 25) (risR (wsM (agR (exF Cv) Hd To Tp Bl z) 25) Hd To Tp Bl z) 25) z (exF Cv) Hd To Tp Bl 26
theorem rbB_0 {Ex Hd To Tp Bl Tl : Nat → Nat} {r : Nat} (h : Tp r = 0) : rbB Ex Hd To Tp Bl Tl r = false := by unfold rbB; rw [if_pos h]
theorem rbC_0 {Ex Hd To Tp Bl Tl : Nat → Nat} {r : Nat} (h : Tp r = 0) : rbC Ex Hd To Tp Bl Tl r = Tl := by unfold rbC; rw [if_pos h]
theorem rb_no {Ex Hd To Tp Bl Tl : Nat → Nat} {r v : Nat} (h0 : ¬ Tp r = 0) (h : ¬ Tl (Hd r) < v) (hV : v = rbV Ex To Tp Bl Tl r) : rbB Ex Hd To Tp Bl Tl r = false ∧ rbC Ex Hd To Tp Bl Tl r = Tl := by
  subst hV; unfold rbB rbC
  rw [if_neg h0, if_neg h0, if_neg h]
  exact ⟨by simpa using h, rfl⟩
theorem rb_yes {Ex Hd To Tp Bl Tl : Nat → Nat} {r v : Nat} (h0 : ¬ Tp r = 0) (h : Tl (Hd r) < v) (hV : v = rbV Ex To Tp Bl Tl r) : rbB Ex Hd To Tp Bl Tl r = true ∧ rbC Ex Hd To Tp Bl Tl r = up Tl (Hd r) v := by
  subst hV; unfold rbB rbC
  rw [if_neg h0, if_neg h0, if_pos h]
  exact ⟨by simpa using h, rfl⟩
