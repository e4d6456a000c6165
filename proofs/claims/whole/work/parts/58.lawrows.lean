section
def LX (E : Ev) (b L : Nat) (xs : Nat → Int32) : Prop := va_X b L xs (eS E) (eH E) ∧ b < (eH E).size ∧ ¬ eA E b ∧ L ≤ 3072
section LR
variable {E : Ev} {cc : ByteArray} {Ts : List Cond} {own : String} {rm : Room} {nL k n pc : Nat} {lv : List (Nat × Value)} {st : List Value} {ws : va_W} {b L : Nat} {xs : Nat → Int32}
theorem g_sld (C : Cx E cc Ts own rm nL) (hX : LX E b L xs) {i : Nat} (hi : i < L) (d : decode cc pc = .ok (.iaload, 1)) (q : Nat) (hq : pc + 1 = q) (kk : Go E k n q lv (.int (xs i) :: st) ws) : Go E k n pc lv (.int (nI i) :: .ref b :: st) ws := by
  subst hq
  have h31 : L < 2 ^ 31 := Nat.lt_of_le_of_lt hX.2.2.2 (by decide)
  exact fun H locs ls hl hP hD hS => va_sld C.1.1 C.1.2.1 hX.1 hX.2.1 hX.2.2.1 hS (vp_in_nI hi h31) d (by rw [nI_clamp (Nat.lt_trans hi h31)]; exact kk H locs ls hl hP hD hS)
theorem g_slen (C : Cx E cc Ts own rm nL) (hX : LX E b L xs) (d : decode cc pc = .ok (.arraylength, 1)) (q : Nat) (hq : pc + 1 = q) (kk : Go E k n q lv (.int (nI L) :: st) ws) : Go E k n pc lv (.ref b :: st) ws := by
  subst hq
  exact fun H locs ls hl hP hD hS => va_slen C.1.1 C.1.2.1 hX.1 hX.2.1 hX.2.2.1 hS d (kk H locs ls hl hP hD hS)
theorem g_iinc6 (C : Cx E cc Ts own rm nL) {i a : Nat} {lv' : List (Nat × Value)} (d : decode cc pc = .ok (.iinc i 6, 3)) (q : Nat) (hq : pc + 3 = q) (j : Nat) (hj : lv[j]? = some (i, .int (nI a))) (hn : i < nL) (hl' : (i, Value.int (nI (a + 6))) :: lv.filter (fun q => !(q.1 == i) && !(q.1 + 1 == i && q.2.category == 2)) = lv') (kk : Go E k n q lv' st ws) : Go E k n pc lv st ws := by
  subst hq; exact fun H locs ls hl hP hD hS => lv_iinc (v := nI (a + 6)) C.1.1 C.1.2.1 d hl hj (by rw [← nI_add]; rfl) (by rw [C.2.2.2.2.2]; exact hn) hl' (fun ls2 hl2 => kk H locs ls2 hl2 hP hD hS)
end LR
theorem INV_t {t : Nat} {cy : Nat → ClassId} {o o7 : Nat} {wc wm : va_W} (hI : INV t cy o o7 wc wm) : INV (t + 1) cy o o7 wc wm := by
  obtain ⟨ad, ud, n, m, z, Pp, Ps, Pq, Pa, Pb, c, h, Sg, ns, st, sn, Cv, ci, bo, sh, Ex, Ah, Tl, Rw, N, nf, Lm, Lf, Ly, Lt, La, Co, Lx, Su, Tr, Re, Rc, Hg, rfl, rfl, hR, hs, hC, hN, hRe⟩ := hI
  exact INV_mk hR hs (IC_t hC) hN hRe
abbrev lvL (b o o7 i : Nat) : List (Nat × Value) := [(3, .int (nI i)), (2, .ref o7), (1, .ref o), (0, .ref b)]
end
