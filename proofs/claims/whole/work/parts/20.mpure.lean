theorem tb_ne {b i : Nat} (hb : b < 2 ^ 31) : ¬ nI (b / 2 ^ i &&& 1) = nI 1 ↔ b.testBit i = false := by
  rw [nI_eq (bx_lt b i hb) (by decide), Nat.and_one_is_mod, Nat.testBit_eq_decide_div_mod_eq]
  simp
theorem rv_le {a b : Nat} (ha : a ≤ 9000000000000000000) (hb : b ≤ 9000000000000000000) (ha2 : ¬ a = 9000000000000000000) (hb2 : ¬ b = 9000000000000000000) : rv a ≤ rv b ↔ a ≤ b := by
  rw [rv_of ha2, rv_of hb2]; exact pk_lLE (by omega) (by omega)
theorem rv_add {a b : Nat} (ha : ¬ a = 9000000000000000000) (hb : ¬ b = 9000000000000000000) : rv a + rv b = lN (a + b) := by rw [rv_of ha, rv_of hb, lN_add]
def puF (Pa Pb : Nat → Nat) (r : Nat) : Nat := if Pa r = 0 then 0 else if Pb r = 0 then 1 else 2
theorem puF_le (Pa Pb : Nat → Nat) (r : Nat) : puF Pa Pb r ≤ 2 := by
  unfold puF; split
  · omega
  · split <;> omega
def gsF (c h : Nat) (Pp Ps Sg : Nat → Nat) (r : Nat) : Bool := decide (0 < h ∧ Pp r = c ∧ Ps r = Sg (h - 1))
def lkF (Lf Ly Lt : Nat → Nat) (b f s t : Nat) : Nat → Bool
  | 0 => false
  | i + 1 => lkF Lf Ly Lt b f s t i || decide (Lf (b + i) = f ∧ Ly (b + i) = s ∧ Lt (b + i) = t)
def lkG (Lf Ly Lt Lm : Nat → Nat) (j : Nat) : Nat → Nat → Nat → Bool := fun x s y => lkF Lf Ly Lt (24 * j) x s y (Lm j)
def mhY (L : Nat → Nat → Nat → Bool) (x s acc : Nat) : Nat → Nat
  | 0 => acc
  | i + 1 => mhY L x s acc i ||| (if L x s (5 + i) = true then 1 * 2 ^ (5 + i) else 0)
theorem mhY_lt {L : Nat → Nat → Nat → Bool} {x s acc : Nat} (ha : acc < 2 ^ 11) : ∀ i, i ≤ 6 → mhY L x s acc i < 2 ^ 11
  | 0, _ => ha
  | i + 1, h => by
    simp only [mhY]
    refine Nat.or_lt_two_pow (mhY_lt ha i (by omega)) ?_
    split
    · rw [Nat.one_mul]; exact Nat.pow_lt_pow_right (a := 2) (by decide) (by omega)
    · decide
def mhX (L : Nat → Nat → Nat → Bool) (at_ s : Nat) : Nat → Nat
  | 0 => 0
  | x + 1 => if at_.testBit x = true then mhY L x s (mhX L at_ s x) 6 else mhX L at_ s x
theorem mhX_lt (L : Nat → Nat → Nat → Bool) (at_ s : Nat) : ∀ x, mhX L at_ s x < 2 ^ 11
  | 0 => by simp only [mhX]; decide
  | x + 1 => by
    simp only [mhX]; split
    · exact mhY_lt (mhX_lt L at_ s x) 6 (Nat.le_refl _)
    · exact mhX_lt L at_ s x
def mhF (L : Nat → Nat → Nat → Bool) (Sg : Nat → Nat) : Nat → Nat → Nat
  | 0, b => b
  | a + 1, b => mhF L Sg a (mhX L b (Sg a) 11)
theorem mhF_pos {L : Nat → Nat → Nat → Bool} {Sg : Nat → Nat} {a P : Nat} (h : 0 < a) : mhF L Sg a P = mhF L Sg (a - 1) (mhX L P (Sg (a - 1)) 11) := by
  obtain ⟨b, rfl⟩ : ∃ b, a = b + 1 := ⟨a - 1, by omega⟩
  rfl
def mlF (La : Nat → Bool) (b at_ : Nat) : Nat → Bool
  | 0 => false
  | x + 1 => mlF La b at_ x || (at_.testBit x && La (b + x))
def rdF (Lx : Nat → Bool) (Co : Nat → Nat) (x s y : Nat) : Nat := if x < 5 then Co ((5 * x + s) * 11 + y) else if 4 < y ∧ Lx ((5 * x + s) * 6 + y - 5) = true then 0 else 9000000000000000000
theorem rdF_ok {Lx : Nat → Bool} {Co : Nat → Nat} (h : okf Co) (x s y : Nat) : rdF Lx Co x s y ≤ 1000000000000000 ∨ rdF Lx Co x s y = 9000000000000000000 := by
  unfold rdF; split
  · exact h _
  · split
    · left; decide
    · right; rfl
def brL (Lx : Nat → Bool) (Co : Nat → Nat) (q a b y : Nat) : Nat → Nat
  | 0 => 9000000000000000000
  | x + 1 => min (brL Lx Co q a b y x) (sm (rdF Lx Co q a x) (rdF Lx Co x b y))
theorem brL_ok (Lx : Nat → Bool) (Co : Nat → Nat) (q a b y : Nat) : ∀ x, brL Lx Co q a b y x ≤ 1000000000000000 ∨ brL Lx Co q a b y x = 9000000000000000000
  | 0 => Or.inr rfl
  | x + 1 => min_ok (brL_ok Lx Co q a b y x) (sm_ok _ _)
def brF (Lx : Nat → Bool) (Co Pq Pa Pb : Nat → Nat) (r y : Nat) : Nat := if Pa r = 0 then (if Pq r = y then 1 else 9000000000000000000) else if Pb r = 0 then sm 1 (rdF Lx Co (Pq r) (Pa r - 1) y) else sm 1 (brL Lx Co (Pq r) (Pa r - 1) (Pb r - 1) y 11)
theorem brF_ok (Lx : Nat → Bool) (Co Pq Pa Pb : Nat → Nat) (r y : Nat) : brF Lx Co Pq Pa Pb r y ≤ 1000000000000000 ∨ brF Lx Co Pq Pa Pb r y = 9000000000000000000 := by
  unfold brF; split
  · split
    · left; decide
    · right; rfl
  · split <;> exact sm_ok _ _
def trY (Su : Nat → Bool) (F : Nat → Nat → Nat) (T : Nat → Nat) (b r : Nat) : Nat → Nat → Nat
  | 0 => T
  | y + 1 => if Su (b + y) = true then trY Su F T b r y else up (trY Su F T b r y) (b + y) (min (trY Su F T b r y (b + y)) (F r y))
def leY (Su : Nat → Bool) (F : Nat → Nat → Nat) (T : Nat → Nat) (L b r : Nat) : Nat → Nat
  | 0 => L
  | y + 1 => if Su (b + y) = true then leY Su F T L b r y else min (leY Su F T L b r y) (trY Su F T b r (y + 1) (b + y))
def okF2 (F : Nat → Nat → Nat) : Prop := ∀ r y, F r y ≤ 1000000000000000 ∨ F r y = 9000000000000000000
theorem trY_ok {Su : Nat → Bool} {F : Nat → Nat → Nat} {T : Nat → Nat} (hF : okF2 F) (hT : okf T) (b r : Nat) : ∀ y, okf (trY Su F T b r y)
  | 0 => hT
  | y + 1 => by
    simp only [trY]; split
    · exact trY_ok hF hT b r y
    · exact up_ok (trY_ok hF hT b r y) (min_ok (trY_ok hF hT b r y _) (hF r y))
theorem leY_ok {Su : Nat → Bool} {F : Nat → Nat → Nat} {T : Nat → Nat} {L : Nat} (hF : okF2 F) (hT : okf T) (hL : L ≤ 1000000000000000 ∨ L = 9000000000000000000) (b r : Nat) : ∀ y, leY Su F T L b r y ≤ 1000000000000000 ∨ leY Su F T L b r y = 9000000000000000000
  | 0 => hL
  | y + 1 => by
    simp only [leY]; split
    · exact leY_ok hF hT hL b r y
    · exact min_ok (leY_ok hF hT hL b r y) (trY_ok hF hT b r (y + 1) _)
def trR (Su : Nat → Bool) (F : Nat → Nat → Nat) (Pp Ps : Nat → Nat) : Nat → Nat → Nat
  | 0 => fun _ => 9000000000000000000
  | r + 1 => trY Su F (trR Su F Pp Ps r) ((5 * Pp r + Ps r) * 11) r 11
def leR (Su : Nat → Bool) (F : Nat → Nat → Nat) (Pp Ps : Nat → Nat) : Nat → Nat
  | 0 => 9000000000000000000
  | r + 1 => leY Su F (trR Su F Pp Ps r) (leR Su F Pp Ps r) ((5 * Pp r + Ps r) * 11) r 11
theorem trR_ok {Su : Nat → Bool} {F : Nat → Nat → Nat} {Pp Ps : Nat → Nat} (hF : okF2 F) : ∀ r, okf (trR Su F Pp Ps r)
  | 0 => fun _ => Or.inr rfl
  | r + 1 => trY_ok hF (trR_ok hF r) _ r 11
theorem leR_ok {Su : Nat → Bool} {F : Nat → Nat → Nat} {Pp Ps : Nat → Nat} (hF : okF2 F) : ∀ r, leR Su F Pp Ps r ≤ 1000000000000000 ∨ leR Su F Pp Ps r = 9000000000000000000
  | 0 => Or.inr rfl
  | r + 1 => leY_ok hF (trR_ok hF r) (leR_ok hF r) _ r 11
def seQ (Su : Nat → Bool) (T : Nat → Nat) (L i : Nat) : Bool := !Su i && (decide (¬ T i = 9000000000000000000) && decide (T i = L))
def seC (Su : Nat → Bool) (T Co : Nat → Nat) (L k : Nat) : Nat → Nat := fun i => if i < k ∧ seQ Su T L i = true then L else Co i
def seS (Su : Nat → Bool) (T : Nat → Nat) (L k : Nat) : Nat → Bool := fun i => if i < k ∧ seQ Su T L i = true then true else Su i
def seA (Su : Nat → Bool) (T : Nat → Nat) (L : Nat) : Nat → Bool
  | 0 => false
  | k + 1 => seQ Su T L k || seA Su T L k
theorem seC_0 (Su : Nat → Bool) (T Co : Nat → Nat) (L : Nat) : seC Su T Co L 0 = Co := by funext i; simp [seC]
theorem seS_0 (Su : Nat → Bool) (T : Nat → Nat) (L : Nat) : seS Su T L 0 = Su := by funext i; simp [seS]
theorem seC_no {Su : Nat → Bool} {T Co : Nat → Nat} {L k : Nat} (h : seQ Su T L k = false) : seC Su T Co L (k + 1) = seC Su T Co L k := by
  funext i; simp only [seC]
  by_cases e : i = k
  · subst e; simp [h]
  · have : i < k + 1 ↔ i < k := by omega
    simp only [this]
theorem seS_no {Su : Nat → Bool} {T : Nat → Nat} {L k : Nat} (h : seQ Su T L k = false) : seS Su T L (k + 1) = seS Su T L k := by
  funext i; simp only [seS]
  by_cases e : i = k
  · subst e; simp [h]
  · have : i < k + 1 ↔ i < k := by omega
    simp only [this]
theorem seC_yes {Su : Nat → Bool} {T Co : Nat → Nat} {L k : Nat} (h : seQ Su T L k = true) : seC Su T Co L (k + 1) = up (seC Su T Co L k) k L := by
  funext i; simp only [seC, up]
  by_cases e : i = k
  · subst e; simp [h]
  · have : i < k + 1 ↔ i < k := by omega
    simp only [this, if_neg e]
theorem seS_yes {Su : Nat → Bool} {T : Nat → Nat} {L k : Nat} (h : seQ Su T L k = true) : seS Su T L (k + 1) = up (seS Su T L k) k true := by
  funext i; simp only [seS, up]
  by_cases e : i = k
  · subst e; simp [h]
  · have : i < k + 1 ↔ i < k := by omega
    simp only [this, if_neg e]
theorem seS_at (Su : Nat → Bool) (T : Nat → Nat) (L k : Nat) : seS Su T L k k = Su k := by simp [seS]
def scF (Lx : Nat → Bool) (Pq Pa Pb Co : Nat → Nat) : Nat → Nat → Nat := fun r y => brF Lx Co Pq Pa Pb r y
def stT (z : Nat) (Lx Su : Nat → Bool) (Pp Ps Pq Pa Pb Co : Nat → Nat) : Nat → Nat := trR Su (scF Lx Pq Pa Pb Co) Pp Ps z
def stL (z : Nat) (Lx Su : Nat → Bool) (Pp Ps Pq Pa Pb Co : Nat → Nat) : Nat := leR Su (scF Lx Pq Pa Pb Co) Pp Ps z
def stC (z : Nat) (Lx Su : Nat → Bool) (Pp Ps Pq Pa Pb Co : Nat → Nat) : Nat → Nat := seC Su (stT z Lx Su Pp Ps Pq Pa Pb Co) Co (stL z Lx Su Pp Ps Pq Pa Pb Co) 275
def stS (z : Nat) (Lx Su : Nat → Bool) (Pp Ps Pq Pa Pb Co : Nat → Nat) : Nat → Bool := seS Su (stT z Lx Su Pp Ps Pq Pa Pb Co) (stL z Lx Su Pp Ps Pq Pa Pb Co) 275
def stA (z : Nat) (Lx Su : Nat → Bool) (Pp Ps Pq Pa Pb Co : Nat → Nat) : Bool := seA Su (stT z Lx Su Pp Ps Pq Pa Pb Co) (stL z Lx Su Pp Ps Pq Pa Pb Co) 275
theorem scF_ok (Lx : Nat → Bool) (Pq Pa Pb Co : Nat → Nat) : okF2 (scF Lx Pq Pa Pb Co) := fun r y => brF_ok Lx Co Pq Pa Pb r y
theorem seC_ok {Su : Nat → Bool} {T Co : Nat → Nat} {L : Nat} (hC : okf Co) (hL : L ≤ 1000000000000000 ∨ L = 9000000000000000000) (k : Nat) : okf (seC Su T Co L k) := by
  intro i; unfold seC; split
  · exact hL
  · exact hC i
theorem stC_ok {z : Nat} {Lx Su : Nat → Bool} {Pp Ps Pq Pa Pb Co : Nat → Nat} (hC : okf Co) : okf (stC z Lx Su Pp Ps Pq Pa Pb Co) := seC_ok hC (leR_ok (scF_ok _ _ _ _ _) z) 275
def icP (L : Nat → Nat → Nat → Bool) (m : Nat) : Nat → Nat → Bool := fun p k => decide (k / 55 < p ∧ k / 11 % 5 < m ∧ 5 ≤ k % 11) && L (k / 55) (k / 11 % 5) (k % 11)
def scC (z : Nat) (Lx : Nat → Bool) (Pp Ps Pq Pa Pb : Nat → Nat) (C0 : Nat → Nat) (S0 : Nat → Bool) : Nat → (Nat → Nat) × (Nat → Bool) × Bool
  | 0 => (C0, S0, true)
  | t + 1 => (stC z Lx (scC z Lx Pp Ps Pq Pa Pb C0 S0 t).2.1 Pp Ps Pq Pa Pb (scC z Lx Pp Ps Pq Pa Pb C0 S0 t).1, stS z Lx (scC z Lx Pp Ps Pq Pa Pb C0 S0 t).2.1 Pp Ps Pq Pa Pb (scC z Lx Pp Ps Pq Pa Pb C0 S0 t).1, stA z Lx (scC z Lx Pp Ps Pq Pa Pb C0 S0 t).2.1 Pp Ps Pq Pa Pb (scC z Lx Pp Ps Pq Pa Pb C0 S0 t).1)
theorem scC_ok {z : Nat} {Lx : Nat → Bool} {Pp Ps Pq Pa Pb C0 : Nat → Nat} {S0 : Nat → Bool} (h : okf C0) : ∀ t, okf (scC z Lx Pp Ps Pq Pa Pb C0 S0 t).1
  | 0 => h
  | t + 1 => stC_ok (scC_ok h t)
def rsY (Lx : Nat → Bool) (Co Sg T : Nat → Nat) (x i : Nat) : Nat → Nat
  | 0 => 9000000000000000000
  | y + 1 => min (rsY Lx Co Sg T x i y) (sm (rdF Lx Co x (Sg i) y) (T (11 * i + y)))
theorem rsY_ok (Lx : Nat → Bool) (Co Sg T : Nat → Nat) (x i : Nat) : ∀ y, rsY Lx Co Sg T x i y ≤ 1000000000000000 ∨ rsY Lx Co Sg T x i y = 9000000000000000000
  | 0 => Or.inr rfl
  | y + 1 => min_ok (rsY_ok Lx Co Sg T x i y) (sm_ok _ _)
def rsX (Lx : Nat → Bool) (Co Sg T : Nat → Nat) (i : Nat) : Nat → Nat → Nat
  | 0 => T
  | x + 1 => up (rsX Lx Co Sg T i x) (11 * (i + 1) + x) (rsY Lx Co Sg (rsX Lx Co Sg T i x) x i 11)
theorem rsX_ok {Lx : Nat → Bool} {Co Sg T : Nat → Nat} (h : okf T) (i : Nat) : ∀ x, okf (rsX Lx Co Sg T i x)
  | 0 => h
  | x + 1 => up_ok (rsX_ok h i x) (rsY_ok _ _ _ _ _ _ _)
def rsI (Lx : Nat → Bool) (Co Sg T : Nat → Nat) : Nat → Nat → Nat
  | 0 => T
  | i + 1 => rsX Lx Co Sg (rsI Lx Co Sg T i) i 11
theorem rsI_ok {Lx : Nat → Bool} {Co Sg T : Nat → Nat} (h : okf T) : ∀ i, okf (rsI Lx Co Sg T i)
  | 0 => h
  | i + 1 => rsX_ok (rsI_ok h i) i 11
def laF (La : Nat → Bool) (j : Nat) : Nat → Nat := fun x => if La (11 * j + x) = true then 0 else 9000000000000000000
theorem laF_ok (La : Nat → Bool) (j : Nat) : okf (laF La j) := by
  intro k; unfold laF; split
  · left; decide
  · right; rfl
def RSf (Lx La : Nat → Bool) (Co Sg Re : Nat → Nat) (j h : Nat) : Nat → Nat := rsI Lx Co Sg (fillG Re (laF La j) 11) h
theorem RSf_ok {Lx La : Nat → Bool} {Co Sg Re : Nat → Nat} (hR : okf Re) (j h : Nat) : okf (RSf Lx La Co Sg Re j h) := rsI_ok (fillG_ok hR (laF_ok La j) 11) h
def nxY (F : Nat → Nat → Nat) (Re : Nat → Nat) (r b : Nat) : Nat → Nat
  | 0 => 9000000000000000000
  | y + 1 => min (nxY F Re r b y) (sm (F r y) (Re (b + y)))
theorem nxY_ok (F : Nat → Nat → Nat) (Re : Nat → Nat) (r b : Nat) : ∀ y, nxY F Re r b y ≤ 1000000000000000 ∨ nxY F Re r b y = 9000000000000000000
  | 0 => Or.inr rfl
  | y + 1 => min_ok (nxY_ok F Re r b y) (sm_ok _ _)
abbrev nextP (Lx : Nat → Bool) (Co Pp Ps Pq Pa Pb Sg Re : Nat → Nat) (c h nw r : Nat) : Prop := gsF c h Pp Ps Sg r = true ∧ nxY (scF Lx Pq Pa Pb Co) Re r (11 * (h - 1)) 11 = nw
def hbQ (Co : Nat → Nat) (q a b v : Nat) : Nat → Nat
  | 0 => v
  | x + 1 => hbQ Co q a b v x ||| (if Co ((5 * q + a) * 11 + x) = 9000000000000000000 then 0 else 1 * 2 ^ (5 * x + b))
def hbF (n : Nat) (Co Pq Pa Pb : Nat → Nat) (r : Nat) : Nat := if Pa r = 0 then 0 else if Pb r = 0 then (0 ||| 1 * 2 ^ (5 * Pq r + (Pa r - 1))) else hbQ Co (Pq r) (Pa r - 1) (Pb r - 1) (0 ||| 1 * 2 ^ (5 * Pq r + (Pa r - 1))) n
theorem hbQ_lt {Co : Nat → Nat} {q a b v : Nat} (hb : b < 5) (hv : v < 2 ^ 25) : ∀ x, x ≤ 5 → hbQ Co q a b v x < 2 ^ 25
  | 0, _ => hv
  | x + 1, h => by
    simp only [hbQ]
    refine or25 (hbQ_lt hb hv x (by omega)) ?_
    split
    · decide
    · exact one25 (by omega)
theorem hbF_lt {n : Nat} {Co Pq Pa Pb : Nat → Nat} {r : Nat} (hn : n ≤ 5) (hq : Pq r < 5) (ha : Pa r ≤ 5) (hb : Pb r ≤ 5) : hbF n Co Pq Pa Pb r < 2 ^ 25 := by
  unfold hbF; split
  · decide
  · split
    · exact or25 (by decide) (one25 (by omega))
    · exact hbQ_lt (by omega) (or25 (by decide) (one25 (by omega))) n hn
def frK (A : Nat → Nat) (h s : Nat) : Nat → Nat → Nat
  | 0 => up A h (A h ||| s)
  | k + 1 => up (frK A h s k) h (frK A h s k h ||| (if s.testBit k = true then frK A h s k k else 0))
def frR (Hb : Nat → Nat) (Pp Ps A : Nat → Nat) : Nat → Nat → Nat
  | 0 => A
  | r + 1 => frK (frR Hb Pp Ps A r) (5 * Pp r + Ps r) (Hb r) 25
def frT (z : Nat) (Hb Pp Ps : Nat → Nat) : Nat → Nat → Nat
  | 0 => fun _ => 0
  | t + 1 => frR Hb Pp Ps (frT z Hb Pp Ps t) z
theorem frK_lt {A : Nat → Nat} {h s : Nat} (hA : lt25 A) (hs : s < 2 ^ 25) : ∀ k, lt25 (frK A h s k)
  | 0 => up_lt25 hA (or25 (hA h) hs)
  | k + 1 => by
    refine up_lt25 (frK_lt hA hs k) (or25 (frK_lt hA hs k h) ?_)
    split
    · exact frK_lt hA hs k k
    · decide
theorem frR_lt {Hb Pp Ps A : Nat → Nat} (hH : lt25 Hb) (hA : lt25 A) : ∀ r, lt25 (frR Hb Pp Ps A r)
  | 0 => hA
  | r + 1 => frK_lt (frR_lt hH hA r) (hH r) 25
theorem frT_lt {z : Nat} {Hb Pp Ps : Nat → Nat} (hH : lt25 Hb) : ∀ t, lt25 (frT z Hb Pp Ps t)
  | 0 => fun _ => by simp only [frT]; decide
  | t + 1 => frR_lt hH (frT_lt hH t) z
def feK (A : Nat → Nat) (h : Nat) : Nat → Bool
  | 0 => (A h).testBit h
  | k + 1 => feK A h k || ((A h).testBit k && (A k).testBit k)
def poQ (Co : Nat → Nat) (p s v : Nat) : Nat → Nat
  | 0 => v
  | q + 1 => poQ Co p s v q ||| (if Co ((5 * p + s) * 11 + q) = 9000000000000000000 then 0 else 1 * 2 ^ q)
def poP (n : Nat) (Co : Nat → Nat) (b s : Nat) : Nat → Nat
  | 0 => 0
  | p + 1 => if b.testBit p = true then poQ Co p s (poP n Co b s p) n else poP n Co b s p
theorem poQ_lt {Co : Nat → Nat} {p s v : Nat} (hv : v < 32) : ∀ q, q ≤ 5 → poQ Co p s v q < 32
  | 0, _ => hv
  | q + 1, h => by
    simp only [poQ]
    refine Nat.or_lt_two_pow (n := 5) (poQ_lt hv q (by omega)) ?_
    split
    · decide
    · rw [Nat.one_mul]; exact pow_lt_32 (by omega)
theorem poP_lt {n : Nat} (hn : n ≤ 5) (Co : Nat → Nat) (b s : Nat) : ∀ p, poP n Co b s p < 32
  | 0 => Nat.zero_lt_succ 31
  | p + 1 => by
    simp only [poP]; split
    · exact poQ_lt (poP_lt hn Co b s p) n hn
    · exact poP_lt hn Co b s p
def enP (A : Nat → Nat) (b s : Nat) (v : Bool) : Nat → Bool
  | 0 => v
  | p + 1 => enP A b s v p || (b.testBit p && feK A (5 * p + s) 25)
def enF (n : Nat) (A Co Sg : Nat → Nat) : Nat → Nat → Bool → Bool
  | 0, _, v => v
  | a + 1, b, v => enF n A Co Sg a (poP n Co b (Sg a) n) (enP A b (Sg a) v n)
theorem enF_pos {n : Nat} {A Co Sg : Nat → Nat} {a P : Nat} {v : Bool} (h : 0 < a) : enF n A Co Sg a P v = enF n A Co Sg (a - 1) (poP n Co P (Sg (a - 1)) n) (enP A P (Sg (a - 1)) v n) := by
  obtain ⟨b, rfl⟩ : ∃ b, a = b + 1 := ⟨a - 1, by omega⟩
  rfl
def fhB (G : Nat → Nat) (s top pu k : Nat) : Nat := (if s.testBit k = true then G k else 0) + (if k + 1 = top ∧ pu = 2 then 1 else 0)
def fhK (G : Nat → Nat) (s top pu v : Nat) : Nat → Nat
  | 0 => v
  | k + 1 => if fhK G s top pu v k < fhB G s top pu k then fhB G s top pu k else fhK G s top pu v k
def fhV (G : Nat → Nat) (s top pu h : Nat) : Nat := if fhK G s top pu (G h) 25 < 1000 then fhK G s top pu (G h) 25 else 1000
def fhR (Hb Tt Pu Pp Ps G : Nat → Nat) : Nat → Nat → Nat
  | 0 => G
  | r + 1 => up (fhR Hb Tt Pu Pp Ps G r) (5 * Pp r + Ps r) (fhV (fhR Hb Tt Pu Pp Ps G r) (Hb r) (Tt r) (Pu r) (5 * Pp r + Ps r))
def fhT (z : Nat) (Hb Tt Pu Pp Ps : Nat → Nat) : Nat → Nat → Nat
  | 0 => fun _ => 1
  | t + 1 => fhR Hb Tt Pu Pp Ps (fhT z Hb Tt Pu Pp Ps t) z
def le1k (G : Nat → Nat) : Prop := ∀ k, G k ≤ 1000
theorem fhB_le {G : Nat → Nat} (hG : le1k G) (s top pu k : Nat) : fhB G s top pu k ≤ 1001 := by
  unfold fhB; have := hG k
  split <;> split <;> omega
theorem fhK_le {G : Nat → Nat} (hG : le1k G) {s top pu v : Nat} (hv : v ≤ 1001) : ∀ k, fhK G s top pu v k ≤ 1001
  | 0 => hv
  | k + 1 => by
    simp only [fhK]; split
    · exact fhB_le hG s top pu k
    · exact fhK_le hG hv k
theorem fhV_le (G : Nat → Nat) (s top pu h : Nat) : fhV G s top pu h ≤ 1000 := by unfold fhV; split <;> omega
theorem fhR_le {Hb Tt Pu Pp Ps G : Nat → Nat} (hG : le1k G) : ∀ r, le1k (fhR Hb Tt Pu Pp Ps G r)
  | 0 => hG
  | r + 1 => by
    intro k; simp only [fhR, up]; split
    · exact fhV_le _ _ _ _ _
    · exact fhR_le hG r k
theorem fhT_le {z : Nat} {Hb Tt Pu Pp Ps : Nat → Nat} : ∀ t, le1k (fhT z Hb Tt Pu Pp Ps t)
  | 0 => fun _ => by simp only [fhT]; decide
  | t + 1 => fhR_le (fhT_le t) z
def hiP (G : Nat → Nat) (b s i mo : Nat) : Nat → Nat
  | 0 => mo + 1
  | p + 1 => if hiP G b s i mo p = 0 then 0 else if b.testBit p = true then (if 26 < G (5 * p + s) then 0 else if hiP G b s i mo p < i + G (5 * p + s) + 1 then i + G (5 * p + s) + 1 else hiP G b s i mo p) else hiP G b s i mo p
def hiF (n : Nat) (G Co Sg : Nat → Nat) : Nat → Nat → Nat → Nat
  | 0, _, mo => mo + 1
  | a + 1, b, mo => if hiP G b (Sg a) a mo n = 0 then 0 else hiF n G Co Sg a (poP n Co b (Sg a) n) (hiP G b (Sg a) a mo n - 1)
theorem hiF_pos {n : Nat} {G Co Sg : Nat → Nat} {a P mo : Nat} (h : 0 < a) : hiF n G Co Sg a P mo = if hiP G P (Sg (a - 1)) (a - 1) mo n = 0 then 0 else hiF n G Co Sg (a - 1) (poP n Co P (Sg (a - 1)) n) (hiP G P (Sg (a - 1)) (a - 1) mo n - 1) := by
  obtain ⟨b, rfl⟩ : ∃ b, a = b + 1 := ⟨a - 1, by omega⟩
  rfl
theorem hiP_le {G : Nat → Nat} (hG : le1k G) {b s i mo M : Nat} (hm : mo + 1 ≤ M) (hi : i + 1002 ≤ M) : ∀ p, hiP G b s i mo p ≤ M
  | 0 => hm
  | p + 1 => by
    have ih := hiP_le hG (b := b) (s := s) (i := i) (mo := mo) hm hi p
    have := hG (5 * p + s)
    simp only [hiP]; split
    · omega
    · split
      · split
        · omega
        · split <;> omega
      · exact ih
theorem isin_1 {v lo hi : Int64} (h : v < lo) : ¬ (lo ≤ v ∧ v ≤ hi) := by
  rw [Int64.lt_iff_toInt_lt] at h; simp only [Int64.le_iff_toInt_le]; omega
theorem isin_2 {v lo hi : Int64} (h : hi < v) : ¬ (lo ≤ v ∧ v ≤ hi) := by
  rw [Int64.lt_iff_toInt_lt] at h; simp only [Int64.le_iff_toInt_le]; omega
theorem isin_3 {v lo hi : Int64} (h1 : ¬ v < lo) (h2 : ¬ hi < v) : lo ≤ v ∧ v ≤ hi := by
  rw [Int64.lt_iff_toInt_lt] at h1 h2; simp only [Int64.le_iff_toInt_le]; omega
theorem oI_toInt {n : Nat} (hn : n ≤ 2000) : (oI n).toInt = (n : Int) - 1 := by
  cases n with
  | zero => rw [oI_0]; decide
  | succ n => rw [oI_s, nI_toInt (by omega)]; omega
theorem isin_R {x : Int32} {n : Nat} (hn : n ≤ 2000) : inR x n = decide (lN 0 ≤ x.toInt64 ∧ x.toInt64 ≤ (oI n).toInt64) := by
  unfold inR
  congr 1
  simp only [Int64.le_iff_toInt_le, Int32.toInt_toInt64, oI_toInt hn]
  have : (lN 0).toInt = 0 := by decide
  rw [this]
  apply propext; omega
theorem isin_R5 {x : Int32} {n k : Nat} (hn : n ≤ 2000) (hk : n = k + 1) : inR x n = decide (lN 0 ≤ x.toInt64 ∧ x.toInt64 ≤ lN k) := by
  rw [isin_R hn, hk, oI_s, nI_l (by omega)]
theorem puF_2 {Pa Pb : Nat → Nat} {r : Nat} (h : puF Pa Pb r = 2) : ¬ Pa r = 0 ∧ ¬ Pb r = 0 := by
  unfold puF at h; split at h
  · cases h
  · split at h
    · cases h
    · exact ⟨by assumption, by assumption⟩
theorem puF_p {Pa Pb : Nat → Nat} {r : Nat} (h : ¬ puF Pa Pb r = 0) : ¬ Pa r = 0 := by
  intro e; apply h; unfold puF; rw [if_pos e]
theorem puF_1 {Pa Pb : Nat → Nat} {r : Nat} (h : ¬ puF Pa Pb r = 2) (ha : ¬ Pa r = 0) : Pb r = 0 := by
  by_cases e : Pb r = 0
  · exact e
  · exfalso; apply h; unfold puF; rw [if_neg ha, if_neg e]
theorem puF_0 {Pa Pb : Nat → Nat} {r : Nat} (h : puF Pa Pb r = 0) : Pa r = 0 := by
  unfold puF at h; split at h
  · assumption
  · split at h <;> cases h
theorem does_22 {Sg : Nat → Nat} {h a b : Nat} (ha : ¬ a = 0) (hb : ¬ b = 0) : chS Sg h a b = up (up Sg (h - 1) (b - 1)) (h - 1 + 1) (a - 1) := by unfold chS; rw [if_neg ha, if_neg hb, if_neg hb]
theorem does_22h {h a b : Nat} (h0 : 0 < h) (ha : ¬ a = 0) (hb : ¬ b = 0) : chH h a b = h - 1 + 1 + 1 := by unfold chH; rw [if_neg ha, if_neg hb]
theorem does_1 {Sg : Nat → Nat} {h a b : Nat} (ha : ¬ a = 0) (hb : b = 0) : chS Sg h a b = up Sg (h - 1) (a - 1) := by unfold chS; rw [if_neg ha, if_pos hb, if_pos hb, Nat.add_zero]
theorem does_1h {h a b : Nat} (h0 : 0 < h) (ha : ¬ a = 0) (hb : b = 0) : chH h a b = h - 1 + 1 := by unfold chH; rw [if_neg ha, if_pos hb]
theorem does_0 {Sg : Nat → Nat} {h a b : Nat} (ha : a = 0) (hb : b = 0) : chS Sg h a b = Sg := by unfold chS; rw [if_pos ha, if_pos hb]
theorem does_0h {h a b : Nat} (h0 : 0 < h) (ha : a = 0) (hb : b = 0) : chH h a b = h - 1 := by unfold chH; rw [if_pos ha, if_pos hb]; omega
theorem mhX_t {L : Nat → Nat → Nat → Bool} {P s x i : Nat} (h : P.testBit x = true) (hi : i = 6) : mhX L P s (x + 1) = mhY L x s (mhX L P s x) i := by
  subst hi; simp only [mhX, h, reduceIte]
theorem mhX_f {L : Nat → Nat → Nat → Bool} {P s x i : Nat} (h : P.testBit x = false) (hb : 0 < i → P.testBit x = true) : mhX L P s (x + 1) = mhY L x s (mhX L P s x) i := by
  have e0 : i = 0 := (Nat.eq_zero_or_pos i).elim id (fun q => Bool.noConfusion (h.symm.trans (hb q)))
  subst e0; simp only [mhX, h, Bool.false_eq_true, reduceIte, mhY]
theorem puF_b0 {Pa Pb : Nat → Nat} {r : Nat} (h : puF Pa Pb r = 1) : Pb r = 0 := by
  unfold puF at h; split at h
  · cases h
  · split at h
    · assumption
    · cases h
theorem puF_b1 {Pa Pb : Nat → Nat} {r : Nat} (ha : ¬ Pa r = 0) (h : ¬ puF Pa Pb r = 1) : ¬ Pb r = 0 := by
  intro e; apply h; unfold puF; rw [if_neg ha, if_pos e]
theorem trY_t {Su : Nat → Bool} {F : Nat → Nat → Nat} {T : Nat → Nat} {b r y : Nat} (h : Su (b + y) = true) : trY Su F T b r (y + 1) = trY Su F T b r y := by simp only [trY]; rw [if_pos h]
theorem leY_t {Su : Nat → Bool} {F : Nat → Nat → Nat} {T : Nat → Nat} {L b r y : Nat} (h : Su (b + y) = true) : leY Su F T L b r (y + 1) = leY Su F T L b r y := by simp only [leY]; rw [if_pos h]
theorem trY_f {Su : Nat → Bool} {F : Nat → Nat → Nat} {T : Nat → Nat} {b r y : Nat} (h : Su (b + y) = false) : trY Su F T b r (y + 1) = up (trY Su F T b r y) (b + y) (min (trY Su F T b r y (b + y)) (F r y)) := by simp only [trY]; rw [if_neg (by rw [h]; decide)]
theorem leY_f {Su : Nat → Bool} {F : Nat → Nat → Nat} {T : Nat → Nat} {L b r y : Nat} (h : Su (b + y) = false) : leY Su F T L b r (y + 1) = min (leY Su F T L b r y) (up (trY Su F T b r y) (b + y) (min (trY Su F T b r y (b + y)) (F r y)) (b + y)) := by
  rw [← trY_f h]; simp only [leY]; rw [if_neg (by rw [h]; decide)]
theorem seQ_1 {Su : Nat → Bool} {T : Nat → Nat} {L k : Nat} (h : Su k = true) : seQ Su T L k = false := by simp [seQ, h]
theorem seQ_2 {Su : Nat → Bool} {T : Nat → Nat} {L k : Nat} (h : T k = 9000000000000000000) : seQ Su T L k = false := by simp [seQ, h]
theorem seQ_3 {Su : Nat → Bool} {T : Nat → Nat} {L k : Nat} (h : ¬ T k = L) : seQ Su T L k = false := by simp [seQ, h]
theorem seQ_y {Su : Nat → Bool} {T : Nat → Nat} {L k : Nat} (h : Su k = false) (h2 : ¬ T k = 9000000000000000000) (h3 : T k = L) : seQ Su T L k = true := by
  simp only [seQ, h, h3, Bool.not_false, Bool.true_and]; rw [h3] at h2; simp [h2]
theorem seA_n1 {Su : Nat → Bool} {T : Nat → Nat} {L k : Nat} (h : Su k = true) : seA Su T L (k + 1) = seA Su T L k := by simp only [seA, seQ_1 h, Bool.false_or]
theorem seA_n2 {Su : Nat → Bool} {T : Nat → Nat} {L k : Nat} (h : T k = 9000000000000000000) : seA Su T L (k + 1) = seA Su T L k := by simp only [seA, seQ_2 h, Bool.false_or]
theorem seA_n3 {Su : Nat → Bool} {T : Nat → Nat} {L k : Nat} (h : ¬ T k = L) : seA Su T L (k + 1) = seA Su T L k := by simp only [seA, seQ_3 h, Bool.false_or]
theorem seA_y {Su : Nat → Bool} {T : Nat → Nat} {L k : Nat} (h : seQ Su T L k = true) : seA Su T L (k + 1) = true := by simp only [seA, h, Bool.true_or]
def fcT (z : Nat) (Lx : Nat → Bool) (Pp Ps Pq Pa Pb : Nat → Nat) (C0 : Nat → Nat) (S0 : Nat → Bool) : Nat → Nat → Nat
  | 0 => fun _ => 9000000000000000000
  | t + 1 => stT z Lx (scC z Lx Pp Ps Pq Pa Pb C0 S0 t).2.1 Pp Ps Pq Pa Pb (scC z Lx Pp Ps Pq Pa Pb C0 S0 t).1
theorem nI_m1 {j : Nat} (hj : j < 2 ^ 31) : nI j = -1 ↔ False := by
  refine ⟨fun e => ?_, False.elim⟩
  have := nI_toInt hj
  rw [e, m1_toInt] at this; omega
def lxG (L : Nat → Nat → Nat → Bool) : Nat → Bool := fun k => L (k / 30) (k / 6 % 5) (5 + k % 6)
def mkG (L : Nat → Nat → Nat → Bool) (n m : Nat) : Nat → Bool := fun k => decide (k / 55 < n ∧ k / 11 % 5 < m ∧ 5 ≤ k % 11) && L (k / 55) (k / 11 % 5) (k % 11)
def iniC (mk : Nat → Bool) (b : Nat) : Nat → Nat := fun k => if k < b ∧ mk k = true then 0 else 9000000000000000000
def iniS (mk : Nat → Bool) (b : Nat) : Nat → Bool := fun k => decide (k < b) && mk k
theorem iniC_ok (mk : Nat → Bool) (b : Nat) : okf (iniC mk b) := by
  intro k; unfold iniC; split
  · left; decide
  · right; rfl
theorem iniC_0 (mk : Nat → Bool) : iniC mk (5 * 0 * 11) = fun _ => 9000000000000000000 := by funext k; simp [iniC]
theorem iniS_0 (mk : Nat → Bool) : iniS mk (5 * 0 * 11) = fun _ => false := by funext k; simp [iniS]
theorem iniC_skip {mk : Nat → Bool} {a b : Nat} (h : ∀ k, (a ≤ k ∨ b ≤ k) → (k < a ∨ k < b) → mk k = false) : iniC mk b = iniC mk a := by
  funext k; simp only [iniC]
  by_cases e : k < a <;> by_cases f : k < b
  · simp [e, f]
  · have := h k (Or.inr (by omega)) (Or.inl e); simp [this]
  · have := h k (Or.inl (by omega)) (Or.inr f); simp [this]
  · simp [e, f]
theorem iniS_skip {mk : Nat → Bool} {a b : Nat} (h : ∀ k, (a ≤ k ∨ b ≤ k) → (k < a ∨ k < b) → mk k = false) : iniS mk b = iniS mk a := by
  funext k; simp only [iniS]
  by_cases e : k < a <;> by_cases f : k < b
  · simp [e, f]
  · have := h k (Or.inr (by omega)) (Or.inl e); simp [this]
  · have := h k (Or.inl (by omega)) (Or.inr f); simp [this]
  · simp [e, f]
theorem iniC_yes {mk : Nat → Bool} {b : Nat} (h : mk b = true) : iniC mk (b + 1) = up (iniC mk b) b 0 := by
  funext k; simp only [iniC, up]
  by_cases e : k = b
  · subst e; simp [h]
  · have : k < b + 1 ↔ k < b := by omega
    simp only [this, if_neg e]
theorem iniS_yes {mk : Nat → Bool} {b : Nat} (h : mk b = true) : iniS mk (b + 1) = up (iniS mk b) b true := by
  funext k; simp only [iniS, up]
  by_cases e : k = b
  · subst e; simp [h]
  · have : k < b + 1 ↔ k < b := by omega
    simp only [this, if_neg e]
theorem iniC_no {mk : Nat → Bool} {b : Nat} (h : mk b = false) : iniC mk (b + 1) = iniC mk b := iniC_skip (fun k h1 h2 => (show k = b by omega) ▸ h)
theorem iniS_no {mk : Nat → Bool} {b : Nat} (h : mk b = false) : iniS mk (b + 1) = iniS mk b := iniS_skip (fun k h1 h2 => (show k = b by omega) ▸ h)
theorem mkG_p {L : Nat → Nat → Nat → Bool} {n m k : Nat} (h : n ≤ k / 55) : mkG L n m k = false := by
  simp only [mkG]; rw [decide_eq_false (by omega)]; rfl
theorem mkG_s {L : Nat → Nat → Nat → Bool} {n m k p : Nat} (h1 : (5 * p + m) * 11 ≤ k) (h2 : k < 5 * (p + 1) * 11) (hm : m ≤ 5) : mkG L n m k = false := by
  simp only [mkG]; rw [decide_eq_false (by omega)]; rfl
theorem mkG_y {L : Nat → Nat → Nat → Bool} {n m k p s : Nat} (h1 : (5 * p + s) * 11 ≤ k) (h2 : k < (5 * p + s) * 11 + 5) : mkG L n m k = false := by
  simp only [mkG]; rw [decide_eq_false (by omega)]; rfl
theorem mkG_t {L : Nat → Nat → Nat → Bool} {n m p s y : Nat} (hp : p < n) (hs : s < m ∧ m ≤ 5) (hy : 5 ≤ y ∧ y < 11) (h : L p s y = true) : mkG L n m ((5 * p + s) * 11 + y) = true := by
  have e1 : ((5 * p + s) * 11 + y) / 55 = p := by omega
  have e2 : ((5 * p + s) * 11 + y) / 11 % 5 = s := by omega
  have e3 : ((5 * p + s) * 11 + y) % 11 = y := by omega
  simp only [mkG, e1, e2, e3]; rw [decide_eq_true (by omega), h]; rfl
theorem mkG_f {L : Nat → Nat → Nat → Bool} {n m p s y : Nat} (hp : p < n) (hs : s < m ∧ m ≤ 5) (hy : 5 ≤ y ∧ y < 11) (h : L p s y = false) : mkG L n m ((5 * p + s) * 11 + y) = false := by
  have e1 : ((5 * p + s) * 11 + y) / 55 = p := by omega
  have e2 : ((5 * p + s) * 11 + y) / 11 % 5 = s := by omega
  have e3 : ((5 * p + s) * 11 + y) % 11 = y := by omega
  simp only [mkG, e1, e2, e3]; rw [h, Bool.and_false]
theorem gsF_pos {c h : Nat} {Pp Ps Sg : Nat → Nat} {r : Nat} (e : gsF c h Pp Ps Sg r = true) : 0 < h := (of_decide_eq_true e).1
theorem hbF_e {n : Nat} {Co Pq Pa Pb : Nat → Nat} {r v x : Nat} (hv : v = if Pa r = 0 then 0 else (0 ||| 1 * 2 ^ (5 * Pq r + (Pa r - 1)))) (hx : 0 < x → puF Pa Pb r = 2) (h1 : x ≤ n) (h2 : n ≤ x) : hbF n Co Pq Pa Pb r = hbQ Co (Pq r) (Pa r - 1) (Pb r - 1) v x := by
  have e : x = n := by omega
  subst e
  unfold hbF
  by_cases ha : Pa r = 0
  · rw [if_pos ha] at hv ⊢
    cases x with
    | zero => rw [hv]; rfl
    | succ x => exact absurd ha (puF_2 (hx (by omega))).1
  · rw [if_neg ha] at hv ⊢
    by_cases hb : Pb r = 0
    · rw [if_pos hb]
      cases x with
      | zero => rw [hv]; rfl
      | succ x => exact absurd hb (puF_2 (hx (by omega))).2
    · rw [if_neg hb, hv]
theorem hbF_n {n : Nat} {Co Pq Pa Pb : Nat → Nat} {r v x : Nat} (hv : v = if Pa r = 0 then 0 else (0 ||| 1 * 2 ^ (5 * Pq r + (Pa r - 1)))) (hx : 0 < x → puF Pa Pb r = 2) (h : ¬ puF Pa Pb r = 2) : hbF n Co Pq Pa Pb r = hbQ Co (Pq r) (Pa r - 1) (Pb r - 1) v x := by
  have e : x = 0 := (Nat.eq_zero_or_pos x).elim id (fun q => absurd (hx q) h)
  subst e
  unfold hbF
  by_cases ha : Pa r = 0
  · rw [if_pos ha] at hv ⊢; rw [hv]; rfl
  · rw [if_neg ha] at hv ⊢
    rw [if_pos (puF_1 h ha), hv]; rfl
theorem poP_t {n : Nat} {Co : Nat → Nat} {b s p q : Nat} (h : b.testBit p = true) (hq : q = n) : poP n Co b s (p + 1) = poQ Co p s (poP n Co b s p) q := by
  subst hq; simp only [poP, h, reduceIte]
theorem poP_f {n : Nat} {Co : Nat → Nat} {b s p q : Nat} (h : b.testBit p = false) (hb : 0 < q → b.testBit p = true) : poP n Co b s (p + 1) = poQ Co p s (poP n Co b s p) q := by
  have e0 : q = 0 := (Nat.eq_zero_or_pos q).elim id (fun w => Bool.noConfusion (h.symm.trans (hb w)))
  subst e0; simp only [poP, h, Bool.false_eq_true, reduceIte, poQ]
theorem poP_z {n : Nat} {Co : Nat → Nat} {b s p q : Nat} (h : False) : poP n Co b s (p + 1) = poQ Co p s (poP n Co b s p) q := h.elim
def ttF (Pq Pa : Nat → Nat) (r : Nat) : Nat := if Pa r = 0 then 0 else 5 * Pq r + (Pa r - 1) + 1
theorem ttF_0 {Pq Pa : Nat → Nat} {r : Nat} (h : Pa r = 0) : ttF Pq Pa r = 0 := by unfold ttF; rw [if_pos h]
theorem ttF_1 {Pq Pa : Nat → Nat} {r : Nat} (h : ¬ Pa r = 0) : ttF Pq Pa r = 5 * Pq r + (Pa r - 1) + 1 := by unfold ttF; rw [if_neg h]
theorem ttF_le {Pq Pa : Nat → Nat} {r : Nat} (hq : Pq r < 5) (ha : Pa r ≤ 5) : ttF Pq Pa r ≤ 25 := by unfold ttF; split <;> omega
theorem fhB_v {G : Nat → Nat} {s top pu k a b : Nat} (h1 : (if s.testBit k = true then G k else 0) = a) (h2 : (if k + 1 = top ∧ pu = 2 then 1 else 0) = b) : fhB G s top pu k = a + b := by unfold fhB; rw [h1, h2]
theorem fhK_n {G : Nat → Nat} {s top pu v k x : Nat} (h : x ≤ fhK G s top pu v k) (hx : fhB G s top pu k = x) : fhK G s top pu v (k + 1) = fhK G s top pu v k := by
  simp only [fhK, hx]; rw [if_neg (by omega)]
theorem fhK_y {G : Nat → Nat} {s top pu v k x : Nat} (h : ¬ x ≤ fhK G s top pu v k) (hx : fhB G s top pu k = x) : fhK G s top pu v (k + 1) = x := by
  simp only [fhK, hx]; rw [if_pos (by omega)]
theorem fhR_a {Hb Tt Pu Pp Ps G : Nat → Nat} {r tt : Nat} (htt : tt = Tt r) (h : 1000 ≤ fhK (fhR Hb Tt Pu Pp Ps G r) (Hb r) tt (Pu r) (fhR Hb Tt Pu Pp Ps G r (5 * Pp r + Ps r)) 25) : fhR Hb Tt Pu Pp Ps G (r + 1) = up (fhR Hb Tt Pu Pp Ps G r) (5 * Pp r + Ps r) 1000 := by
  subst htt; simp only [fhR, fhV]; rw [if_neg (by omega)]
theorem fhR_b {Hb Tt Pu Pp Ps G : Nat → Nat} {r tt : Nat} (htt : tt = Tt r) (h : ¬ 1000 ≤ fhK (fhR Hb Tt Pu Pp Ps G r) (Hb r) tt (Pu r) (fhR Hb Tt Pu Pp Ps G r (5 * Pp r + Ps r)) 25) : fhR Hb Tt Pu Pp Ps G (r + 1) = up (fhR Hb Tt Pu Pp Ps G r) (5 * Pp r + Ps r) (fhK (fhR Hb Tt Pu Pp Ps G r) (Hb r) tt (Pu r) (fhR Hb Tt Pu Pp Ps G r (5 * Pp r + Ps r)) 25) := by
  subst htt; simp only [fhR, fhV]; rw [if_pos (by omega)]
theorem isin_rg {x : Int32} {lo hi : Nat} (hl : lo < 2 ^ 31) (hh : hi < 2 ^ 31) (h : decide (lN lo ≤ x.toInt64 ∧ x.toInt64 ≤ lN hi) = true) : rg x lo hi = true := by
  have h := of_decide_eq_true h
  simp only [Int64.le_iff_toInt_le, Int32.toInt_toInt64, pk_lT (show lo < 2 ^ 63 by omega), pk_lT (show hi < 2 ^ 63 by omega)] at h
  simp [rg]; omega
theorem isin_no {a lo hi : Nat} (hl : lo < 2 ^ 31) (hh : hi < 2 ^ 31) (ha : a < 2 ^ 31) (h : lo ≤ a ∧ a ≤ hi) (h2 : decide (lN lo ≤ lN a ∧ lN a ≤ lN hi) = false) : False := by
  have h2 := of_decide_eq_false h2
  rw [pk_lLE (by omega) (by omega), pk_lLE (by omega) (by omega)] at h2
  exact h2 h
theorem room_iff {h : Nat} {Pa Pb : Nat → Nat} {r : Nat} (h0 : 0 < h) (hh : h ≤ 60) (hab : Pa r = 0 → Pb r = 0) : h - 1 + puF Pa Pb r ≤ 60 ↔ (Pb r = 0 ∨ h < 60) := by
  unfold puF
  by_cases ha : Pa r = 0
  · rw [if_pos ha]; have := hab ha; omega
  · rw [if_neg ha]
    by_cases hb : Pb r = 0
    · rw [if_pos hb]; omega
    · rw [if_neg hb]; omega
def clL (La : Nat → Bool) (b : Nat) : Nat → Nat → Bool
  | 0 => La
  | x + 1 => up (clL La b x) (b + x) false
def cgF (c h : Nat) (Pp Ps Sg : Nat → Nat) : Nat → Nat
  | 0 => 0
  | i + 1 => cgF c h Pp Ps Sg i + (if gsF c h Pp Ps Sg i = true then 1 else 0)
theorem nfT {b : Bool} (h : b = false) : ¬ b = true := by rw [h]; decide
def sJ (z n m : Nat) (Pp Ps Pq Pa Pb : Nat → Nat) (L : Nat → Nat → Nat → Bool) (t : Nat) := scC z (lxG L) Pp Ps Pq Pa Pb (iniC (mkG L n m) 275) (iniS (mkG L n m) 275) t
def tJ (z n m : Nat) (Pp Ps Pq Pa Pb : Nat → Nat) (L : Nat → Nat → Nat → Bool) (t : Nat) : Nat → Nat := fcT z (lxG L) Pp Ps Pq Pa Pb (iniC (mkG L n m) 275) (iniS (mkG L n m) 275) t
theorem sJ_ok (z n m : Nat) (Pp Ps Pq Pa Pb : Nat → Nat) (L : Nat → Nat → Nat → Bool) (t : Nat) : okf (sJ z n m Pp Ps Pq Pa Pb L t).1 := scC_ok (iniC_ok _ _) t
def sN (z : Nat) (Pp Ps Pq Pa Pb : Nat → Nat) (t : Nat) := scC z (fun _ => false) Pp Ps Pq Pa Pb (fun _ => 9000000000000000000) (fun _ => false) t
def tN (z : Nat) (Pp Ps Pq Pa Pb : Nat → Nat) (t : Nat) : Nat → Nat := fcT z (fun _ => false) Pp Ps Pq Pa Pb (fun _ => 9000000000000000000) (fun _ => false) t
theorem sN_ok (z : Nat) (Pp Ps Pq Pa Pb : Nat → Nat) (t : Nat) : okf (sN z Pp Ps Pq Pa Pb t).1 := scC_ok (fun _ => Or.inr rfl) t
theorem rv_le0 {a : Nat} (h : a ≤ 9000000000000000000) : rv a ≤ lN 0 ↔ (a = 0 ∨ a = 9000000000000000000) := by
  by_cases e : a = 9000000000000000000
  · subst e; rw [rv_NV]; exact ⟨fun _ => Or.inr rfl, fun _ => by decide⟩
  · rw [rv_of e, pk_lLE (by omega) (by decide)]; omega
theorem rv_ltL {a : Nat} (h : a ≤ 9000000000000000000) (h2 : ¬ a = 9000000000000000000) : rv a < lN 1000000000000000 ↔ a < 1000000000000000 := by
  rw [rv_of h2]; exact pk_lLT (by omega) (by decide)
theorem isin_y {a lo hi : Nat} (hl : lo < 2 ^ 31) (hh : hi < 2 ^ 31) (h : lo ≤ a ∧ a ≤ hi) : decide (lN lo ≤ lN a ∧ lN a ≤ lN hi) = true := by
  apply decide_eq_true
  rw [pk_lLE (by omega) (by omega), pk_lLE (by omega) (by omega)]; exact h
def nextI (z : Nat) (Lx : Nat → Bool) (Co Pp Ps Pq Pa Pb : Nat → Nat) (c h : Nat) (Sg Re : Nat → Nat) (nw : Nat) : Nat := fsI (fun i => decide (nextP Lx Co Pp Ps Pq Pa Pb Sg Re c h nw i)) z
theorem nextI_some {z : Nat} {Lx : Nat → Bool} {Co Pp Ps Pq Pa Pb : Nat → Nat} {c h : Nat} {Sg Re : Nat → Nat} {nw : Nat} (q : nextI z Lx Co Pp Ps Pq Pa Pb c h Sg Re nw < z) :
    ∃ r, r = nextI z Lx Co Pp Ps Pq Pa Pb c h Sg Re nw ∧ r < z ∧ nextP Lx Co Pp Ps Pq Pa Pb Sg Re c h nw r ∧ ∀ i, i < r → ¬ nextP Lx Co Pp Ps Pq Pa Pb Sg Re c h nw i :=
  ⟨_, rfl, q, of_decide_eq_true (fsI_yes _ z q), fun i hi => of_decide_eq_false (fsI_no _ z i hi)⟩
def rmF (z : Nat) (Lx La : Nat → Bool) (Co Pp Ps Pq Pa Pb : Nat → Nat) (j : Nat) : Nat → Nat → Nat → (Nat → Nat) → (Nat → Nat) → Nat × Nat × Nat × (Nat → Nat) × (Nat → Nat)
  | 0, c, h, Sg, Re => (0, c, h, Sg, Re)
  | f + 1, c, h, Sg, Re =>
    if Re (11 * h + c) = 0 ∨ Re (11 * h + c) = 9000000000000000000 then (0, c, h, Sg, Re)
    else if ¬ (Pb (nextI z Lx Co Pp Ps Pq Pa Pb c h Sg Re (Re (11 * h + c))) = 0 ∨ h < 60) then (0, c, h, Sg, Re)
    else ((rmF z Lx La Co Pp Ps Pq Pa Pb j f (Pq (nextI z Lx Co Pp Ps Pq Pa Pb c h Sg Re (Re (11 * h + c)))) (chH h (Pa (nextI z Lx Co Pp Ps Pq Pa Pb c h Sg Re (Re (11 * h + c)))) (Pb (nextI z Lx Co Pp Ps Pq Pa Pb c h Sg Re (Re (11 * h + c))))) (chS Sg h (Pa (nextI z Lx Co Pp Ps Pq Pa Pb c h Sg Re (Re (11 * h + c)))) (Pb (nextI z Lx Co Pp Ps Pq Pa Pb c h Sg Re (Re (11 * h + c))))) (RSf Lx La Co (chS Sg h (Pa (nextI z Lx Co Pp Ps Pq Pa Pb c h Sg Re (Re (11 * h + c)))) (Pb (nextI z Lx Co Pp Ps Pq Pa Pb c h Sg Re (Re (11 * h + c))))) Re j (chH h (Pa (nextI z Lx Co Pp Ps Pq Pa Pb c h Sg Re (Re (11 * h + c)))) (Pb (nextI z Lx Co Pp Ps Pq Pa Pb c h Sg Re (Re (11 * h + c))))))).1 + 1,
      (rmF z Lx La Co Pp Ps Pq Pa Pb j f (Pq (nextI z Lx Co Pp Ps Pq Pa Pb c h Sg Re (Re (11 * h + c)))) (chH h (Pa (nextI z Lx Co Pp Ps Pq Pa Pb c h Sg Re (Re (11 * h + c)))) (Pb (nextI z Lx Co Pp Ps Pq Pa Pb c h Sg Re (Re (11 * h + c))))) (chS Sg h (Pa (nextI z Lx Co Pp Ps Pq Pa Pb c h Sg Re (Re (11 * h + c)))) (Pb (nextI z Lx Co Pp Ps Pq Pa Pb c h Sg Re (Re (11 * h + c))))) (RSf Lx La Co (chS Sg h (Pa (nextI z Lx Co Pp Ps Pq Pa Pb c h Sg Re (Re (11 * h + c)))) (Pb (nextI z Lx Co Pp Ps Pq Pa Pb c h Sg Re (Re (11 * h + c))))) Re j (chH h (Pa (nextI z Lx Co Pp Ps Pq Pa Pb c h Sg Re (Re (11 * h + c)))) (Pb (nextI z Lx Co Pp Ps Pq Pa Pb c h Sg Re (Re (11 * h + c))))))).2)
theorem rm_0 {z : Nat} {Lx La : Nat → Bool} {Co Pp Ps Pq Pa Pb : Nat → Nat} {j f c h m c' h' : Nat} {Sg Re S' R' : Nat → Nat} (hf : f = 0 ∨ (Re (11 * h + c) = 0 ∨ Re (11 * h + c) = 9000000000000000000) ∨ ¬ (Pb (nextI z Lx Co Pp Ps Pq Pa Pb c h Sg Re (Re (11 * h + c))) = 0 ∨ h < 60)) (e : rmF z Lx La Co Pp Ps Pq Pa Pb j f c h Sg Re = (m, c', h', S', R')) : m = 0 ∧ c' = c ∧ h' = h ∧ S' = Sg ∧ R' = Re := by
  cases f with
  | zero => exact rn_out e
  | succ f =>
    simp only [rmF] at e
    split at e
    · exact rn_out e
    · next h1 =>
      split at e
      · exact rn_out e
      · next h3 =>
        rcases hf with q | q | q
        · cases q
        · exact absurd q h1
        · exact absurd q h3
theorem rm_s {z : Nat} {Lx La : Nat → Bool} {Co Pp Ps Pq Pa Pb : Nat → Nat} {j f c h m c' h' r : Nat} {Sg Re S' R' : Nat → Nat} (hf : 0 < f) (hd : ¬ (Re (11 * h + c) = 0 ∨ Re (11 * h + c) = 9000000000000000000)) (er : r = nextI z Lx Co Pp Ps Pq Pa Pb c h Sg Re (Re (11 * h + c))) (hro : Pb r = 0 ∨ h < 60) (e : rmF z Lx La Co Pp Ps Pq Pa Pb j f c h Sg Re = (m, c', h', S', R')) :
    0 < m ∧ rmF z Lx La Co Pp Ps Pq Pa Pb j (f - 1) (Pq r) (chH h (Pa r) (Pb r)) (chS Sg h (Pa r) (Pb r)) (RSf Lx La Co (chS Sg h (Pa r) (Pb r)) Re j (chH h (Pa r) (Pb r))) = (m - 1, c', h', S', R') := by
  obtain ⟨f, rfl⟩ : ∃ g, f = g + 1 := ⟨f - 1, by omega⟩
  subst er
  simp only [rmF] at e
  rw [if_neg hd, if_neg (fun q => q hro)] at e
  rw [Nat.add_sub_cancel]
  generalize rmF z Lx La Co Pp Ps Pq Pa Pb j f _ _ _ _ = q at e ⊢
  obtain ⟨q1, q2⟩ := q
  simp only [Prod.mk.injEq] at e
  obtain ⟨e1, e2⟩ := e
  subst e1; subst e2
  exact ⟨by omega, rfl⟩
theorem hiP_f {G : Nat → Nat} {b s i mo p mq : Nat} (hq : hiP G b s i mo p = mq + 1) (h : b.testBit p = false) : hiP G b s i mo (p + 1) = mq + 1 := by
  simp only [hiP, hq, h]; simp
theorem hiP_n {G : Nat → Nat} {b s i mo p mq : Nat} (hq : hiP G b s i mo p = mq + 1) (h : b.testBit p = true) (h1 : G (5 * p + s) ≤ 26) (h2 : i + G (5 * p + s) ≤ mq) : hiP G b s i mo (p + 1) = mq + 1 := by
  simp only [hiP, hq, h, reduceIte]
  rw [if_neg (Nat.succ_ne_zero _), if_neg (by omega), if_neg (by omega)]
theorem hiP_y {G : Nat → Nat} {b s i mo p mq : Nat} (hq : hiP G b s i mo p = mq + 1) (h : b.testBit p = true) (h1 : G (5 * p + s) ≤ 26) (h2 : ¬ i + G (5 * p + s) ≤ mq) : hiP G b s i mo (p + 1) = i + G (5 * p + s) + 1 := by
  simp only [hiP, hq, h, reduceIte]
  rw [if_neg (Nat.succ_ne_zero _), if_neg (by omega), if_pos (by omega)]
theorem hiP_b {G : Nat → Nat} {b s i mo p mq : Nat} (hq : hiP G b s i mo p = mq + 1) (h : b.testBit p = true) (h1 : ¬ G (5 * p + s) ≤ 26) : hiP G b s i mo (p + 1) = 0 := by
  simp only [hiP, hq, h, reduceIte]
  rw [if_neg (Nat.succ_ne_zero _), if_pos (by omega)]
theorem hiP_0 {G : Nat → Nat} {b s i mo p : Nat} {n : Nat} (h : p + 1 ≤ n) (h0 : hiP G b s i mo (p + 1) = 0) : hiP G b s i mo n = 0 := by
  obtain ⟨d, rfl⟩ : ∃ d, n = p + 1 + d := ⟨n - (p + 1), by omega⟩
  induction d with
  | zero => exact h0
  | succ d ih =>
    show hiP G b s i mo (p + 1 + d + 1) = 0
    simp only [hiP]; rw [if_pos (ih (by omega))]
