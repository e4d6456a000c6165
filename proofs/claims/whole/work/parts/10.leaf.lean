set_option maxHeartbeats 4000000 in
set_option maxRecDepth 100000 in
theorem c_X6_headOf (l : Launch) (D : va_G) (cy : Nat → ClassId) (p : Nat) (s : Nat)  : CoI l yX6_headOf wsX6_headOf 0 0 D cy [] [.int (nI p), .int (nI s)] [] (nI (p * 5 + s)) := by
  refine met_i (cc := cX6_headOf) (maxL := 2) (own := RX6) (lv := [(0, .int (nI p)), (1, .int (nI s))]) (by decide) rfl rfl rfl (Nat.le_of_ble_eq_true rfl) (fun E e1 e2 e3 C hret => ?_)
  subst e1; subst e2; subst e3
  refine g_iload_n C dX6_headOf_0 rfl 1 rfl 0 rfl ?_
  refine g_iconst (v := nI 5) C dX6_headOf_1 (by decide) 2 rfl ?_
  refine g_imul (z := nI (p * 5)) C dX6_headOf_2 3 rfl (pk_mul _ _) ?_
  refine g_iload_n C dX6_headOf_3 rfl 4 rfl 1 rfl ?_
  refine g_iadd (z := nI ((p * 5) + s)) C dX6_headOf_4 5 rfl (nI_add _ _) ?_
  have e_1 : (p * 5 + s) = ((p * 5) + s) := by first | with_reducible rfl | (simp [*])
  refine go_eq rfl (st' := [.int (nI (p * 5 + s))]) (ws' := []) (by first | with_reducible rfl | (simp only [e_1, oI_s, oI_0, bI_1, bI_0, and_self, reduceIte]; done)) (by first | with_reducible rfl | (simp only [e_1, oI_s, oI_0, bI_1, bI_0, and_self, reduceIte]; done)) ?_
  exact hret _ _ dX6_headOf_5
set_option maxHeartbeats 4000000 in
set_option maxRecDepth 100000 in
theorem c_X6_hasBit (l : Launch) (D : va_G) (cy : Nat → ClassId) (b : Nat) (i : Nat) (hb : b < 2 ^ 31) (hi : i < 32) : CoI l yX6_hasBit wsX6_hasBit 0 0 D cy [] [.int (nI b), .int (nI i)] [] (bI (b.testBit i)) := by
  refine met_z (cc := cX6_hasBit) (maxL := 2) (own := RX6) (lv := [(0, .int (nI b)), (1, .int (nI i))]) (by decide) rfl rfl rfl (Nat.le_of_ble_eq_true rfl) (fun E e1 e2 e3 C hret => ?_)
  subst e1; subst e2; subst e3
  refine g_iload_n C dX6_hasBit_0 rfl 1 rfl 0 rfl ?_
  refine g_iload_n C dX6_hasBit_1 rfl 2 rfl 1 rfl ?_
  refine g_ishr (z := nI (b / 2 ^ i)) C dX6_hasBit_2 3 rfl (z_shr (by omega) (by omega)) ?_
  refine g_iconst (v := nI 1) C dX6_hasBit_3 (by decide) 4 rfl ?_
  refine g_iand (z := nI ((b / 2 ^ i) &&& 1)) C dX6_hasBit_4 5 rfl (z_and _ _) ?_
  refine g_if_eq (X := (b / 2 ^ i) &&& 1 = 0) C dX6_hasBit_5 12 (by decide) 8 rfl (nI_eq0 (by exact bx_lt _ _ hb)) ?_ ?_
  · intro h5
    refine g_iconst (v := nI 0) C dX6_hasBit_12 (by decide) 13 rfl ?_
    have e_1 : (b.testBit i) = false := by first | with_reducible rfl | (first | exact tb_0 (by assumption) | exact tb_1 (by assumption))
    refine go_eq rfl (st' := [.int (bI (b.testBit i))]) (ws' := []) (by first | with_reducible rfl | (simp only [e_1, oI_s, oI_0, bI_1, bI_0, and_self, reduceIte]; done)) (by first | with_reducible rfl | (simp only [e_1, oI_s, oI_0, bI_1, bI_0, and_self, reduceIte]; done)) ?_
    exact hret _ _ dX6_hasBit_13
  · intro h5
    refine g_iconst (v := nI 1) C dX6_hasBit_8 (by decide) 9 rfl ?_
    refine g_goto C dX6_hasBit_9 13 (by decide) ?_
    have e_2 : (b.testBit i) = true := by first | with_reducible rfl | (first | exact tb_0 (by assumption) | exact tb_1 (by assumption))
    refine go_eq rfl (st' := [.int (bI (b.testBit i))]) (ws' := []) (by first | with_reducible rfl | (simp only [e_2, oI_s, oI_0, bI_1, bI_0, and_self, reduceIte]; done)) (by first | with_reducible rfl | (simp only [e_2, oI_s, oI_0, bI_1, bI_0, and_self, reduceIte]; done)) ?_
    exact hret _ _ dX6_hasBit_13
set_option maxHeartbeats 4000000 in
set_option maxRecDepth 100000 in
theorem c_X6_told (l : Launch) (D : va_G) (cy : Nat → ClassId) (a : Nat) (ha : a ≤ 9000000000000000000) : CoL l yX6_told wsX6_told 0 0 D cy [] [.long (lN a)] [] (rv a) := by
  refine met_l (cc := cX6_told) (maxL := 2) (own := RX6) (lv := [(0, .long (lN a))]) (by decide) rfl rfl rfl (Nat.le_of_ble_eq_true rfl) (fun E e1 e2 e3 C hret => ?_)
  subst e1; subst e2; subst e3
  refine g_lload_n C dX6_told_0 rfl 1 rfl 0 rfl ?_
  refine g_ldc2 (v' := (lN 9000000000000000000)) C (C.1.2.2.2.2 (.constantLong RX6 185 (9000000000000000000)) (List.mem_of_getElem? (i := 1) rfl)) (by decide) dX6_told_1 4 rfl ?_
  refine g_lcmp_ne (X := ¬ a = 9000000000000000000) C dX6_told_4 rfl dX6_told_5 14 (by decide) 8 rfl (not_congr (pk_lEQ (by omega) (by omega))) ?_ ?_
  · intro h4
    refine g_lload_n C dX6_told_14 rfl 15 rfl 0 rfl ?_
    refine go_st (show Value.long (lN a) = .long (rv a) from by rw [rv_of (by omega)]) ?_
    exact hret _ _ dX6_told_15
  · intro h4
    have h4 : a = 9000000000000000000 := Decidable.not_not.mp h4
    refine g_ldc2 (v' := (rv 9000000000000000000)) C (C.1.2.2.2.2 (.constantLong RX6 187 (-1)) (List.mem_of_getElem? (i := 2) rfl)) (by decide) dX6_told_8 11 rfl ?_
    refine g_goto C dX6_told_11 15 (by decide) ?_
    have e_1 : a = 9000000000000000000 := by first | with_reducible rfl | (assumption)
    refine go_eq rfl (st' := [.long (rv a)]) (ws' := []) (by first | with_reducible rfl | (simp only [e_1, oI_s, oI_0, bI_1, bI_0, and_self, reduceIte]; done) | (rw [rv_of (by assumption)])) (by first | with_reducible rfl | (simp only [e_1, oI_s, oI_0, bI_1, bI_0, and_self, reduceIte]; done) | (rw [rv_of (by assumption)])) ?_
    exact hret _ _ dX6_told_15
set_option maxHeartbeats 4000000 in
set_option maxRecDepth 100000 in
theorem c_X6_placeOf (l : Launch) (D : va_G) (cy : Nat → ClassId) (w : Nat) (j : Nat) (hw : w < 2) : CoI l yX6_placeOf wsX6_placeOf 0 0 D cy [] [.int (nI w), .int (nI j)] [] (nI (if w = 0 then j else 5 + j)) := by
  refine met_i (cc := cX6_placeOf) (maxL := 2) (own := RX6) (lv := [(0, .int (nI w)), (1, .int (nI j))]) (by decide) rfl rfl rfl (Nat.le_of_ble_eq_true rfl) (fun E e1 e2 e3 C hret => ?_)
  subst e1; subst e2; subst e3
  refine g_iload_n C dX6_placeOf_0 rfl 1 rfl 0 rfl ?_
  refine g_if_ne (X := ¬ w = 0) C dX6_placeOf_1 8 (by decide) 4 rfl (not_congr (nI_eq0 (by omega))) ?_ ?_
  · intro h1
    refine g_iconst (v := nI 5) C dX6_placeOf_8 (by decide) 9 rfl ?_
    refine g_iload_n C dX6_placeOf_9 rfl 10 rfl 1 rfl ?_
    refine g_iadd (z := nI (5 + j)) C dX6_placeOf_10 11 rfl (nI_add _ _) ?_
    have e_1 : (if w = 0 then j else 5 + j) = (5 + j) := by first | with_reducible rfl | (first | rw [if_pos (by assumption)] | rw [if_neg (by assumption)])
    refine go_eq rfl (st' := [.int (nI (if w = 0 then j else 5 + j))]) (ws' := []) (by first | with_reducible rfl | (simp only [e_1, oI_s, oI_0, bI_1, bI_0, and_self, reduceIte]; done)) (by first | with_reducible rfl | (simp only [e_1, oI_s, oI_0, bI_1, bI_0, and_self, reduceIte]; done)) ?_
    exact hret _ _ dX6_placeOf_11
  · intro h1
    have h1 : w = 0 := Decidable.not_not.mp h1
    refine g_iload_n C dX6_placeOf_4 rfl 5 rfl 1 rfl ?_
    refine g_goto C dX6_placeOf_5 11 (by decide) ?_
    have e_2 : (if w = 0 then j else 5 + j) = j := by first | with_reducible rfl | (first | rw [if_pos (by assumption)] | rw [if_neg (by assumption)])
    refine go_eq rfl (st' := [.int (nI (if w = 0 then j else 5 + j))]) (ws' := []) (by first | with_reducible rfl | (simp only [e_2, oI_s, oI_0, bI_1, bI_0, and_self, reduceIte]; done)) (by first | with_reducible rfl | (simp only [e_2, oI_s, oI_0, bI_1, bI_0, and_self, reduceIte]; done)) ?_
    exact hret _ _ dX6_placeOf_11
set_option maxHeartbeats 4000000 in
set_option maxRecDepth 100000 in
theorem c_X6_sum (l : Launch) (D : va_G) (cy : Nat → ClassId) (a : Nat) (b : Nat) (ha : a ≤ 1000000000000000 ∨ a = 9000000000000000000) (hb : b ≤ 1000000000000000 ∨ b = 9000000000000000000) : CoL l yX6_sum wsX6_sum 1 23 D cy [] [.long (lN a), .long (lN b)] [] (lN (sm a b)) := by
  refine met_l (cc := cX6_sum) (maxL := 4) (own := RX6) (lv := [(0, .long (lN a)), (2, .long (lN b))]) (by decide) rfl rfl rfl (Nat.le_of_ble_eq_true rfl) (fun E e1 e2 e3 C hret => ?_)
  subst e1; subst e2; subst e3
  refine g_lload_n C dX6_sum_0 rfl 1 rfl 0 rfl ?_
  refine g_ldc2 (v' := (lN 9000000000000000000)) C (C.1.2.2.2.2 (.constantLong RX6 185 (9000000000000000000)) (List.mem_of_getElem? (i := 1) rfl)) (by decide) dX6_sum_1 4 rfl ?_
  refine g_lcmp_eq (X := a = 9000000000000000000) C dX6_sum_4 rfl dX6_sum_5 16 (by decide) 8 rfl (pk_lEQ (by omega) (by omega)) ?_ ?_
  · intro h4
    refine g_ldc2 (v' := (lN 9000000000000000000)) C (C.1.2.2.2.2 (.constantLong RX6 185 (9000000000000000000)) (List.mem_of_getElem? (i := 1) rfl)) (by decide) dX6_sum_16 19 rfl ?_
    have e_1 : (sm a b) = 9000000000000000000 := by first | with_reducible rfl | (simp only [sm]; first | rw [if_pos (Or.inl (by assumption))] | rw [if_pos (Or.inr (by assumption))] | rw [if_neg (by omega)])
    refine go_eq rfl (st' := [.long (lN (sm a b))]) (ws' := []) (by first | with_reducible rfl | (simp only [e_1, oI_s, oI_0, bI_1, bI_0, and_self, reduceIte]; done)) (by first | with_reducible rfl | (simp only [e_1, oI_s, oI_0, bI_1, bI_0, and_self, reduceIte]; done)) ?_
    exact hret _ _ dX6_sum_19
  · intro h4
    refine g_lload_n C dX6_sum_8 rfl 9 rfl 1 rfl ?_
    refine g_ldc2 (v' := (lN 9000000000000000000)) C (C.1.2.2.2.2 (.constantLong RX6 185 (9000000000000000000)) (List.mem_of_getElem? (i := 1) rfl)) (by decide) dX6_sum_9 12 rfl ?_
    refine g_lcmp_ne (X := ¬ b = 9000000000000000000) C dX6_sum_12 rfl dX6_sum_13 20 (by decide) 16 rfl (not_congr (pk_lEQ (by omega) (by omega))) ?_ ?_
    · intro h12
      refine g_ldc2 (v' := (lN 1000000000000000)) C (C.1.2.2.2.2 (.constantLong RX6 147 (1000000000000000)) (List.mem_of_getElem? (i := 2) rfl)) (by decide) dX6_sum_20 23 rfl ?_
      refine g_lload_n C dX6_sum_23 rfl 24 rfl 0 rfl ?_
      refine g_lload_n C dX6_sum_24 rfl 25 rfl 1 rfl ?_
      refine g_ladd (z := lN (a + b)) C dX6_sum_25 26 rfl (lN_add _ _) ?_
      refine g_minL C (List.mem_of_getElem? (i := 3) rfl) (List.mem_of_getElem? (i := 4) rfl) (List.mem_of_getElem? (i := 5) rfl) (List.mem_of_getElem? (i := 6) rfl) (by decide) (Nat.le_of_ble_eq_true rfl) ⟨Nat.zero_le _, Nat.zero_le _⟩ (by omega) (by omega) dX6_sum_26 29 rfl ?_
      have e_2 : (sm a b) = (min 1000000000000000 (a + b)) := by first | with_reducible rfl | (simp only [sm]; first | rw [if_pos (Or.inl (by assumption))] | rw [if_pos (Or.inr (by assumption))] | rw [if_neg (by omega)])
      refine go_eq rfl (st' := [.long (lN (sm a b))]) (ws' := []) (by first | with_reducible rfl | (simp only [e_2, oI_s, oI_0, bI_1, bI_0, and_self, reduceIte]; done)) (by first | with_reducible rfl | (simp only [e_2, oI_s, oI_0, bI_1, bI_0, and_self, reduceIte]; done)) ?_
      exact hret _ _ dX6_sum_29
    · intro h12
      have h12 : b = 9000000000000000000 := Decidable.not_not.mp h12
      refine g_ldc2 (v' := (lN 9000000000000000000)) C (C.1.2.2.2.2 (.constantLong RX6 185 (9000000000000000000)) (List.mem_of_getElem? (i := 1) rfl)) (by decide) dX6_sum_16 19 rfl ?_
      have e_3 : (sm a b) = 9000000000000000000 := by first | with_reducible rfl | (simp only [sm]; first | rw [if_pos (Or.inl (by assumption))] | rw [if_pos (Or.inr (by assumption))] | rw [if_neg (by omega)])
      refine go_eq rfl (st' := [.long (lN (sm a b))]) (ws' := []) (by first | with_reducible rfl | (simp only [e_3, oI_s, oI_0, bI_1, bI_0, and_self, reduceIte]; done)) (by first | with_reducible rfl | (simp only [e_3, oI_s, oI_0, bI_1, bI_0, and_self, reduceIte]; done)) ?_
      exact hret _ _ dX6_sum_19
set_option maxHeartbeats 4000000 in
set_option maxRecDepth 100000 in
theorem c_X4_isControl (l : Launch) (D : va_G) (cy : Nat → ClassId) (h0 : Nat) (n : Nat) (m : Nat) (z : Nat) (st : Nat) (qh : Nat) (qt : Nat) (qp : Nat) (qb : Nat) (p : Int32) (hn : n < 100) : CoI l yX4_isControl wsX4_isControl 0 0 D cy [ob h0 4 [.int (nI n), .int (nI m), .int (nI z), .int (nI st), .ref qh, .ref qt, .ref qp, .ref qb]] [.ref h0, .int p] [ob h0 4 [.int (nI n), .int (nI m), .int (nI z), .int (nI st), .ref qh, .ref qt, .ref qp, .ref qb]] (bI (inR p n)) := by
  refine met_z (cc := cX4_isControl) (maxL := 2) (own := RX4) (lv := [(0, .ref h0), (1, .int p)]) (by decide) rfl rfl rfl (Nat.le_of_ble_eq_true rfl) (fun E e1 e2 e3 C hret => ?_)
  subst e1; subst e2; subst e3
  have iX4 : ∀ w ∈ wsX40, w ∈ wsX4_isControl := fun _ h => List.mem_cons_of_mem _ (List.mem_append_right _ h)
  refine g_iload_n C dX4_isControl_0 rfl 1 rfl 1 rfl ?_
  refine g_if_lt (X := p < 0) C dX4_isControl_1 16 (by decide) 4 rfl (Iff.rfl) ?_ ?_
  · intro h1
    refine g_iconst (v := nI 0) C dX4_isControl_16 (by decide) 17 rfl ?_
    have e_1 : (inR p n) = false := by first | with_reducible rfl | (first | exact inR_lt (by assumption) | exact inR_ge (by omega) (by assumption) | exact inR_t (by omega) (by assumption) (by assumption))
    refine go_eq rfl (st' := [.int (bI (inR p n))]) (ws' := [ob h0 4 [.int (nI n), .int (nI m), .int (nI z), .int (nI st), .ref qh, .ref qt, .ref qp, .ref qb]]) (by first | with_reducible rfl | (simp only [e_1, oI_s, oI_0, bI_1, bI_0, and_self, reduceIte]; done)) (by first | with_reducible rfl | (simp only [e_1, oI_s, oI_0, bI_1, bI_0, and_self, reduceIte]; done)) ?_
    exact hret _ _ dX4_isControl_17
  · intro h1
    refine g_iload_n C dX4_isControl_4 rfl 5 rfl 1 rfl ?_
    refine g_aload_n C dX4_isControl_5 rfl 6 rfl 0 rfl ?_
    refine g_get C iX4 0 rfl rfl 0 (by decide) (C.1.2.2.2.2 (.fieldLink RX4 9 "StackRuns$Rules" "controls" "I") (List.mem_of_getElem? (i := 1) rfl)) rfl dX4_isControl_6 9 rfl ?_
    refine g_icmp_ge (X := (nI n) ≤ p) C dX4_isControl_9 16 (by decide) 12 rfl (Iff.rfl) ?_ ?_
    · intro h9
      refine g_iconst (v := nI 0) C dX4_isControl_16 (by decide) 17 rfl ?_
      have e_2 : (inR p n) = false := by first | with_reducible rfl | (first | exact inR_lt (by assumption) | exact inR_ge (by omega) (by assumption) | exact inR_t (by omega) (by assumption) (by assumption))
      refine go_eq rfl (st' := [.int (bI (inR p n))]) (ws' := [ob h0 4 [.int (nI n), .int (nI m), .int (nI z), .int (nI st), .ref qh, .ref qt, .ref qp, .ref qb]]) (by first | with_reducible rfl | (simp only [e_2, oI_s, oI_0, bI_1, bI_0, and_self, reduceIte]; done)) (by first | with_reducible rfl | (simp only [e_2, oI_s, oI_0, bI_1, bI_0, and_self, reduceIte]; done)) ?_
      exact hret _ _ dX4_isControl_17
    · intro h9
      refine g_iconst (v := nI 1) C dX4_isControl_12 (by decide) 13 rfl ?_
      refine g_goto C dX4_isControl_13 17 (by decide) ?_
      have e_3 : (inR p n) = true := by first | with_reducible rfl | (first | exact inR_lt (by assumption) | exact inR_ge (by omega) (by assumption) | exact inR_t (by omega) (by assumption) (by assumption))
      refine go_eq rfl (st' := [.int (bI (inR p n))]) (ws' := [ob h0 4 [.int (nI n), .int (nI m), .int (nI z), .int (nI st), .ref qh, .ref qt, .ref qp, .ref qb]]) (by first | with_reducible rfl | (simp only [e_3, oI_s, oI_0, bI_1, bI_0, and_self, reduceIte]; done)) (by first | with_reducible rfl | (simp only [e_3, oI_s, oI_0, bI_1, bI_0, and_self, reduceIte]; done)) ?_
      exact hret _ _ dX4_isControl_17
set_option maxHeartbeats 4000000 in
set_option maxRecDepth 100000 in
theorem c_X4_isSign (l : Launch) (D : va_G) (cy : Nat → ClassId) (h0 : Nat) (n : Nat) (m : Nat) (z : Nat) (st : Nat) (qh : Nat) (qt : Nat) (qp : Nat) (qb : Nat) (p : Int32) (hm : m < 100) : CoI l yX4_isSign wsX4_isSign 0 0 D cy [ob h0 4 [.int (nI n), .int (nI m), .int (nI z), .int (nI st), .ref qh, .ref qt, .ref qp, .ref qb]] [.ref h0, .int p] [ob h0 4 [.int (nI n), .int (nI m), .int (nI z), .int (nI st), .ref qh, .ref qt, .ref qp, .ref qb]] (bI (inR p m)) := by
  refine met_z (cc := cX4_isSign) (maxL := 2) (own := RX4) (lv := [(0, .ref h0), (1, .int p)]) (by decide) rfl rfl rfl (Nat.le_of_ble_eq_true rfl) (fun E e1 e2 e3 C hret => ?_)
  subst e1; subst e2; subst e3
  have iX4 : ∀ w ∈ wsX40, w ∈ wsX4_isSign := fun _ h => List.mem_cons_of_mem _ (List.mem_append_right _ h)
  refine g_iload_n C dX4_isSign_0 rfl 1 rfl 1 rfl ?_
  refine g_if_lt (X := p < 0) C dX4_isSign_1 16 (by decide) 4 rfl (Iff.rfl) ?_ ?_
  · intro h1
    refine g_iconst (v := nI 0) C dX4_isSign_16 (by decide) 17 rfl ?_
    have e_1 : (inR p m) = false := by first | with_reducible rfl | (first | exact inR_lt (by assumption) | exact inR_ge (by omega) (by assumption) | exact inR_t (by omega) (by assumption) (by assumption))
    refine go_eq rfl (st' := [.int (bI (inR p m))]) (ws' := [ob h0 4 [.int (nI n), .int (nI m), .int (nI z), .int (nI st), .ref qh, .ref qt, .ref qp, .ref qb]]) (by first | with_reducible rfl | (simp only [e_1, oI_s, oI_0, bI_1, bI_0, and_self, reduceIte]; done)) (by first | with_reducible rfl | (simp only [e_1, oI_s, oI_0, bI_1, bI_0, and_self, reduceIte]; done)) ?_
    exact hret _ _ dX4_isSign_17
  · intro h1
    refine g_iload_n C dX4_isSign_4 rfl 5 rfl 1 rfl ?_
    refine g_aload_n C dX4_isSign_5 rfl 6 rfl 0 rfl ?_
    refine g_get C iX4 0 rfl rfl 1 (by decide) (C.1.2.2.2.2 (.fieldLink RX4 15 "StackRuns$Rules" "alphabet" "I") (List.mem_of_getElem? (i := 1) rfl)) rfl dX4_isSign_6 9 rfl ?_
    refine g_icmp_ge (X := (nI m) ≤ p) C dX4_isSign_9 16 (by decide) 12 rfl (Iff.rfl) ?_ ?_
    · intro h9
      refine g_iconst (v := nI 0) C dX4_isSign_16 (by decide) 17 rfl ?_
      have e_2 : (inR p m) = false := by first | with_reducible rfl | (first | exact inR_lt (by assumption) | exact inR_ge (by omega) (by assumption) | exact inR_t (by omega) (by assumption) (by assumption))
      refine go_eq rfl (st' := [.int (bI (inR p m))]) (ws' := [ob h0 4 [.int (nI n), .int (nI m), .int (nI z), .int (nI st), .ref qh, .ref qt, .ref qp, .ref qb]]) (by first | with_reducible rfl | (simp only [e_2, oI_s, oI_0, bI_1, bI_0, and_self, reduceIte]; done)) (by first | with_reducible rfl | (simp only [e_2, oI_s, oI_0, bI_1, bI_0, and_self, reduceIte]; done)) ?_
      exact hret _ _ dX4_isSign_17
    · intro h9
      refine g_iconst (v := nI 1) C dX4_isSign_12 (by decide) 13 rfl ?_
      refine g_goto C dX4_isSign_13 17 (by decide) ?_
      have e_3 : (inR p m) = true := by first | with_reducible rfl | (first | exact inR_lt (by assumption) | exact inR_ge (by omega) (by assumption) | exact inR_t (by omega) (by assumption) (by assumption))
      refine go_eq rfl (st' := [.int (bI (inR p m))]) (ws' := [ob h0 4 [.int (nI n), .int (nI m), .int (nI z), .int (nI st), .ref qh, .ref qt, .ref qp, .ref qb]]) (by first | with_reducible rfl | (simp only [e_3, oI_s, oI_0, bI_1, bI_0, and_self, reduceIte]; done)) (by first | with_reducible rfl | (simp only [e_3, oI_s, oI_0, bI_1, bI_0, and_self, reduceIte]; done)) ?_
      exact hret _ _ dX4_isSign_17
set_option maxHeartbeats 4000000 in
set_option maxRecDepth 100000 in
theorem c_X4_restart (l : Launch) (D : va_G) (cy : Nat → ClassId) (h0 : Nat) (n : Nat) (m : Nat) (z : Nat) (st : Nat) (qh : Nat) (qt : Nat) (qp : Nat) (qb : Nat) (a : Nat) (b : Nat)  : CoV l yX4_restart wsX4_restart 0 0 D cy [ob h0 4 [.int (nI n), .int (nI m), .int (nI z), .int (nI st), .ref qh, .ref qt, .ref qp, .ref qb]] [.ref h0, .int (nI a), .int (nI b)] [ob h0 4 [.int (nI a), .int (nI b), .int (nI 0), .int (nI (st + 1)), .ref qh, .ref qt, .ref qp, .ref qb]] := by
  refine met_v (cc := cX4_restart) (maxL := 3) (own := RX4) (lv := [(0, .ref h0), (1, .int (nI a)), (2, .int (nI b))]) (by decide) rfl rfl rfl (Nat.le_of_ble_eq_true rfl) (fun E e1 e2 e3 C hret => ?_)
  subst e1; subst e2; subst e3
  have iX4 : ∀ w ∈ wsX40, w ∈ wsX4_restart := fun _ h => List.mem_cons_of_mem _ (List.mem_append_right _ h)
  refine g_aload_n C dX4_restart_0 rfl 1 rfl 0 rfl ?_
  refine g_iload_n C dX4_restart_1 rfl 2 rfl 1 rfl ?_
  refine g_put (ws' := [ob h0 4 [.int (nI a), .int (nI m), .int (nI z), .int (nI st), .ref qh, .ref qt, .ref qp, .ref qb]]) (ty := .int) C iX4 tyX4_ok nmX4 0 rfl rfl 0 (by decide) (C.1.2.2.2.2 (.fieldLink RX4 9 "StackRuns$Rules" "controls" "I") (List.mem_of_getElem? (i := 1) rfl)) rfl (by decide +kernel) rfl rfl (Nat.le_of_ble_eq_true rfl) dX4_restart_2 5 rfl rfl ?_
  refine g_aload_n C dX4_restart_5 rfl 6 rfl 0 rfl ?_
  refine g_iload_n C dX4_restart_6 rfl 7 rfl 2 rfl ?_
  refine g_put (ws' := [ob h0 4 [.int (nI a), .int (nI b), .int (nI z), .int (nI st), .ref qh, .ref qt, .ref qp, .ref qb]]) (ty := .int) C iX4 tyX4_ok nmX4 0 rfl rfl 1 (by decide) (C.1.2.2.2.2 (.fieldLink RX4 15 "StackRuns$Rules" "alphabet" "I") (List.mem_of_getElem? (i := 2) rfl)) rfl (by decide +kernel) rfl rfl (Nat.le_of_ble_eq_true rfl) dX4_restart_7 10 rfl rfl ?_
  refine g_aload_n C dX4_restart_10 rfl 11 rfl 0 rfl ?_
  refine g_iconst (v := nI 0) C dX4_restart_11 (by decide) 12 rfl ?_
  refine g_put (ws' := [ob h0 4 [.int (nI a), .int (nI b), .int (nI 0), .int (nI st), .ref qh, .ref qt, .ref qp, .ref qb]]) (ty := .int) C iX4 tyX4_ok nmX4 0 rfl rfl 2 (by decide) (C.1.2.2.2.2 (.fieldLink RX4 18 "StackRuns$Rules" "size" "I") (List.mem_of_getElem? (i := 3) rfl)) rfl (by decide +kernel) rfl rfl (Nat.le_of_ble_eq_true rfl) dX4_restart_12 15 rfl rfl ?_
  refine g_aload_n C dX4_restart_15 rfl 16 rfl 0 rfl ?_
  refine g_dup C dX4_restart_16 rfl 17 rfl ?_
  refine g_get C iX4 0 rfl rfl 3 (by decide) (C.1.2.2.2.2 (.fieldLink RX4 21 "StackRuns$Rules" "stamp" "I") (List.mem_of_getElem? (i := 4) rfl)) rfl dX4_restart_17 20 rfl ?_
  refine g_iconst (v := nI 1) C dX4_restart_20 (by decide) 21 rfl ?_
  refine g_iadd (z := nI (st + 1)) C dX4_restart_21 22 rfl (nI_add _ _) ?_
  refine g_put (ws' := [ob h0 4 [.int (nI a), .int (nI b), .int (nI 0), .int (nI (st + 1)), .ref qh, .ref qt, .ref qp, .ref qb]]) (ty := .int) C iX4 tyX4_ok nmX4 0 rfl rfl 3 (by decide) (C.1.2.2.2.2 (.fieldLink RX4 21 "StackRuns$Rules" "stamp" "I") (List.mem_of_getElem? (i := 4) rfl)) rfl (by decide +kernel) rfl rfl (Nat.le_of_ble_eq_true rfl) dX4_restart_22 25 rfl rfl ?_
  exact hret _ _ dX4_restart_25
set_option maxHeartbeats 4000000 in
set_option maxRecDepth 100000 in
theorem c_X4_add (l : Launch) (D : va_G) (cy : Nat → ClassId) (h0 : Nat) (n : Nat) (m : Nat) (z : Nat) (st : Nat) (qh : Nat) (qt : Nat) (qp : Nat) (qb : Nat) (Hd : Nat → Nat) (To : Nat → Nat) (Tp : Nat → Nat) (Bl : Nat → Nat) (f : Nat) (q : Nat) (a : Nat) (b : Nat) (hz : z < 30) : CoI l yX4_add wsX4_add 0 0 D cy [ob h0 4 [.int (nI n), .int (nI m), .int (nI z), .int (nI st), .ref qh, .ref qt, .ref qp, .ref qb], aN cy qh 30 Hd, aN cy qt 30 To, aO cy qp 30 Tp, aO cy qb 30 Bl] [.ref h0, .int (nI f), .int (nI q), .int (oI a), .int (oI b)] [ob h0 4 [.int (nI n), .int (nI m), .int (nI (z + 1)), .int (nI (st + 1)), .ref qh, .ref qt, .ref qp, .ref qb], aN cy qh 30 (up Hd z f), aN cy qt 30 (up To z q), aO cy qp 30 (up Tp z a), aO cy qb 30 (up Bl z b)] (nI z) := by
  refine met_i (cc := cX4_add) (maxL := 5) (own := RX4) (lv := [(0, .ref h0), (1, .int (nI f)), (2, .int (nI q)), (3, .int (oI a)), (4, .int (oI b))]) (by decide) rfl rfl rfl (Nat.le_of_ble_eq_true rfl) (fun E e1 e2 e3 C hret => ?_)
  subst e1; subst e2; subst e3
  have iX4 : ∀ w ∈ wsX40, w ∈ wsX4_add := fun _ h => List.mem_cons_of_mem _ (List.mem_append_right _ h)
  refine g_aload_n C dX4_add_0 rfl 1 rfl 0 rfl ?_
  refine g_get C iX4 0 rfl rfl 4 (by decide) (C.1.2.2.2.2 (.fieldLink RX4 24 "StackRuns$Rules" "head" "[I") (List.mem_of_getElem? (i := 1) rfl)) rfl dX4_add_1 4 rfl ?_
  refine g_aload_n C dX4_add_4 rfl 5 rfl 0 rfl ?_
  refine g_get C iX4 0 rfl rfl 2 (by decide) (C.1.2.2.2.2 (.fieldLink RX4 18 "StackRuns$Rules" "size" "I") (List.mem_of_getElem? (i := 2) rfl)) rfl dX4_add_5 8 rfl ?_
  refine g_iload_n C dX4_add_8 rfl 9 rfl 1 rfl ?_
  refine g_iast (ws' := [ob h0 4 [.int (nI n), .int (nI m), .int (nI z), .int (nI st), .ref qh, .ref qt, .ref qp, .ref qb], aN (eY E) qh 30 (up Hd z f), aN (eY E) qt 30 To, aO (eY E) qp 30 Tp, aO (eY E) qb 30 Bl]) (i := z) C 1 rfl (by omega) (by decide) dX4_add_9 10 rfl (upd_N _ _ _) rfl ?_
  refine g_aload_n C dX4_add_10 rfl 11 rfl 0 rfl ?_
  refine g_get C iX4 0 rfl rfl 5 (by decide) (C.1.2.2.2.2 (.fieldLink RX4 28 "StackRuns$Rules" "to" "[I") (List.mem_of_getElem? (i := 3) rfl)) rfl dX4_add_11 14 rfl ?_
  refine g_aload_n C dX4_add_14 rfl 15 rfl 0 rfl ?_
  refine g_get C iX4 0 rfl rfl 2 (by decide) (C.1.2.2.2.2 (.fieldLink RX4 18 "StackRuns$Rules" "size" "I") (List.mem_of_getElem? (i := 2) rfl)) rfl dX4_add_15 18 rfl ?_
  refine g_iload_n C dX4_add_18 rfl 19 rfl 2 rfl ?_
  refine g_iast (ws' := [ob h0 4 [.int (nI n), .int (nI m), .int (nI z), .int (nI st), .ref qh, .ref qt, .ref qp, .ref qb], aN (eY E) qh 30 (up Hd z f), aN (eY E) qt 30 (up To z q), aO (eY E) qp 30 Tp, aO (eY E) qb 30 Bl]) (i := z) C 2 rfl (by omega) (by decide) dX4_add_19 20 rfl (upd_N _ _ _) rfl ?_
  refine g_aload_n C dX4_add_20 rfl 21 rfl 0 rfl ?_
  refine g_get C iX4 0 rfl rfl 6 (by decide) (C.1.2.2.2.2 (.fieldLink RX4 31 "StackRuns$Rules" "top" "[I") (List.mem_of_getElem? (i := 4) rfl)) rfl dX4_add_21 24 rfl ?_
  refine g_aload_n C dX4_add_24 rfl 25 rfl 0 rfl ?_
  refine g_get C iX4 0 rfl rfl 2 (by decide) (C.1.2.2.2.2 (.fieldLink RX4 18 "StackRuns$Rules" "size" "I") (List.mem_of_getElem? (i := 2) rfl)) rfl dX4_add_25 28 rfl ?_
  refine g_iload_n C dX4_add_28 rfl 29 rfl 3 rfl ?_
  refine g_iast (ws' := [ob h0 4 [.int (nI n), .int (nI m), .int (nI z), .int (nI st), .ref qh, .ref qt, .ref qp, .ref qb], aN (eY E) qh 30 (up Hd z f), aN (eY E) qt 30 (up To z q), aO (eY E) qp 30 (up Tp z a), aO (eY E) qb 30 Bl]) (i := z) C 3 rfl (by omega) (by decide) dX4_add_29 30 rfl (upd_O _ _ _) rfl ?_
  refine g_aload_n C dX4_add_30 rfl 31 rfl 0 rfl ?_
  refine g_get C iX4 0 rfl rfl 7 (by decide) (C.1.2.2.2.2 (.fieldLink RX4 34 "StackRuns$Rules" "below" "[I") (List.mem_of_getElem? (i := 5) rfl)) rfl dX4_add_31 34 rfl ?_
  refine g_aload_n C dX4_add_34 rfl 35 rfl 0 rfl ?_
  refine g_get C iX4 0 rfl rfl 2 (by decide) (C.1.2.2.2.2 (.fieldLink RX4 18 "StackRuns$Rules" "size" "I") (List.mem_of_getElem? (i := 2) rfl)) rfl dX4_add_35 38 rfl ?_
  refine g_iload C dX4_add_38 40 rfl 4 rfl ?_
  refine g_iast (ws' := [ob h0 4 [.int (nI n), .int (nI m), .int (nI z), .int (nI st), .ref qh, .ref qt, .ref qp, .ref qb], aN (eY E) qh 30 (up Hd z f), aN (eY E) qt 30 (up To z q), aO (eY E) qp 30 (up Tp z a), aO (eY E) qb 30 (up Bl z b)]) (i := z) C 4 rfl (by omega) (by decide) dX4_add_40 41 rfl (upd_O _ _ _) rfl ?_
  refine g_aload_n C dX4_add_41 rfl 42 rfl 0 rfl ?_
  refine g_dup C dX4_add_42 rfl 43 rfl ?_
  refine g_get C iX4 0 rfl rfl 2 (by decide) (C.1.2.2.2.2 (.fieldLink RX4 18 "StackRuns$Rules" "size" "I") (List.mem_of_getElem? (i := 2) rfl)) rfl dX4_add_43 46 rfl ?_
  refine g_iconst (v := nI 1) C dX4_add_46 (by decide) 47 rfl ?_
  refine g_iadd (z := nI (z + 1)) C dX4_add_47 48 rfl (nI_add _ _) ?_
  refine g_put (ws' := [ob h0 4 [.int (nI n), .int (nI m), .int (nI (z + 1)), .int (nI st), .ref qh, .ref qt, .ref qp, .ref qb], aN (eY E) qh 30 (up Hd z f), aN (eY E) qt 30 (up To z q), aO (eY E) qp 30 (up Tp z a), aO (eY E) qb 30 (up Bl z b)]) (ty := .int) C iX4 tyX4_ok nmX4 0 rfl rfl 2 (by decide) (C.1.2.2.2.2 (.fieldLink RX4 18 "StackRuns$Rules" "size" "I") (List.mem_of_getElem? (i := 2) rfl)) rfl (by decide +kernel) rfl rfl (Nat.le_of_ble_eq_true rfl) dX4_add_48 51 rfl rfl ?_
  refine g_aload_n C dX4_add_51 rfl 52 rfl 0 rfl ?_
  refine g_dup C dX4_add_52 rfl 53 rfl ?_
  refine g_get C iX4 0 rfl rfl 3 (by decide) (C.1.2.2.2.2 (.fieldLink RX4 21 "StackRuns$Rules" "stamp" "I") (List.mem_of_getElem? (i := 6) rfl)) rfl dX4_add_53 56 rfl ?_
  refine g_iconst (v := nI 1) C dX4_add_56 (by decide) 57 rfl ?_
  refine g_iadd (z := nI (st + 1)) C dX4_add_57 58 rfl (nI_add _ _) ?_
  refine g_put (ws' := [ob h0 4 [.int (nI n), .int (nI m), .int (nI (z + 1)), .int (nI (st + 1)), .ref qh, .ref qt, .ref qp, .ref qb], aN (eY E) qh 30 (up Hd z f), aN (eY E) qt 30 (up To z q), aO (eY E) qp 30 (up Tp z a), aO (eY E) qb 30 (up Bl z b)]) (ty := .int) C iX4 tyX4_ok nmX4 0 rfl rfl 3 (by decide) (C.1.2.2.2.2 (.fieldLink RX4 21 "StackRuns$Rules" "stamp" "I") (List.mem_of_getElem? (i := 6) rfl)) rfl (by decide +kernel) rfl rfl (Nat.le_of_ble_eq_true rfl) dX4_add_58 61 rfl rfl ?_
  refine g_aload_n C dX4_add_61 rfl 62 rfl 0 rfl ?_
  refine g_get C iX4 0 rfl rfl 2 (by decide) (C.1.2.2.2.2 (.fieldLink RX4 18 "StackRuns$Rules" "size" "I") (List.mem_of_getElem? (i := 2) rfl)) rfl dX4_add_62 65 rfl ?_
  refine g_iconst (v := nI 1) C dX4_add_65 (by decide) 66 rfl ?_
  refine g_isub (z := nI ((z + 1) - 1)) C dX4_add_66 67 rfl (pk_sub (by omega)) ?_
  have e_1 : ((z + 1) - 1) = z := by first | with_reducible rfl | (omega)
  refine go_eq rfl (st' := [.int (nI z)]) (ws' := [ob h0 4 [.int (nI n), .int (nI m), .int (nI (z + 1)), .int (nI (st + 1)), .ref qh, .ref qt, .ref qp, .ref qb], aN (eY E) qh 30 (up Hd z f), aN (eY E) qt 30 (up To z q), aO (eY E) qp 30 (up Tp z a), aO (eY E) qb 30 (up Bl z b)]) (by first | with_reducible rfl | (simp only [e_1, oI_s, oI_0, bI_1, bI_0, and_self, reduceIte]; done)) (by first | with_reducible rfl | (simp only [e_1, oI_s, oI_0, bI_1, bI_0, and_self, reduceIte]; done)) ?_
  exact hret _ _ dX4_add_67
set_option maxHeartbeats 4000000 in
set_option maxRecDepth 100000 in
theorem c_X4_dropNewest (l : Launch) (D : va_G) (cy : Nat → ClassId) (h0 : Nat) (n : Nat) (m : Nat) (z : Nat) (st : Nat) (qh : Nat) (qt : Nat) (qp : Nat) (qb : Nat) (hz : 0 < z) : CoI l yX4_dropNewest wsX4_dropNewest 0 0 D cy [ob h0 4 [.int (nI n), .int (nI m), .int (nI z), .int (nI st), .ref qh, .ref qt, .ref qp, .ref qb]] [.ref h0] [ob h0 4 [.int (nI n), .int (nI m), .int (nI (z - 1)), .int (nI (st + 1)), .ref qh, .ref qt, .ref qp, .ref qb]] (nI (z - 1)) := by
  refine met_i (cc := cX4_dropNewest) (maxL := 1) (own := RX4) (lv := [(0, .ref h0)]) (by decide) rfl rfl rfl (Nat.le_of_ble_eq_true rfl) (fun E e1 e2 e3 C hret => ?_)
  subst e1; subst e2; subst e3
  have iX4 : ∀ w ∈ wsX40, w ∈ wsX4_dropNewest := fun _ h => List.mem_cons_of_mem _ (List.mem_append_right _ h)
  refine g_aload_n C dX4_dropNewest_0 rfl 1 rfl 0 rfl ?_
  refine g_dup C dX4_dropNewest_1 rfl 2 rfl ?_
  refine g_get C iX4 0 rfl rfl 2 (by decide) (C.1.2.2.2.2 (.fieldLink RX4 18 "StackRuns$Rules" "size" "I") (List.mem_of_getElem? (i := 1) rfl)) rfl dX4_dropNewest_2 5 rfl ?_
  refine g_iconst (v := nI 1) C dX4_dropNewest_5 (by decide) 6 rfl ?_
  refine g_isub (z := nI (z - 1)) C dX4_dropNewest_6 7 rfl (pk_sub (by omega)) ?_
  refine g_put (ws' := [ob h0 4 [.int (nI n), .int (nI m), .int (nI (z - 1)), .int (nI st), .ref qh, .ref qt, .ref qp, .ref qb]]) (ty := .int) C iX4 tyX4_ok nmX4 0 rfl rfl 2 (by decide) (C.1.2.2.2.2 (.fieldLink RX4 18 "StackRuns$Rules" "size" "I") (List.mem_of_getElem? (i := 1) rfl)) rfl (by decide +kernel) rfl rfl (Nat.le_of_ble_eq_true rfl) dX4_dropNewest_7 10 rfl rfl ?_
  refine g_aload_n C dX4_dropNewest_10 rfl 11 rfl 0 rfl ?_
  refine g_dup C dX4_dropNewest_11 rfl 12 rfl ?_
  refine g_get C iX4 0 rfl rfl 3 (by decide) (C.1.2.2.2.2 (.fieldLink RX4 21 "StackRuns$Rules" "stamp" "I") (List.mem_of_getElem? (i := 2) rfl)) rfl dX4_dropNewest_12 15 rfl ?_
  refine g_iconst (v := nI 1) C dX4_dropNewest_15 (by decide) 16 rfl ?_
  refine g_iadd (z := nI (st + 1)) C dX4_dropNewest_16 17 rfl (nI_add _ _) ?_
  refine g_put (ws' := [ob h0 4 [.int (nI n), .int (nI m), .int (nI (z - 1)), .int (nI (st + 1)), .ref qh, .ref qt, .ref qp, .ref qb]]) (ty := .int) C iX4 tyX4_ok nmX4 0 rfl rfl 3 (by decide) (C.1.2.2.2.2 (.fieldLink RX4 21 "StackRuns$Rules" "stamp" "I") (List.mem_of_getElem? (i := 2) rfl)) rfl (by decide +kernel) rfl rfl (Nat.le_of_ble_eq_true rfl) dX4_dropNewest_17 20 rfl rfl ?_
  refine g_aload_n C dX4_dropNewest_20 rfl 21 rfl 0 rfl ?_
  refine g_get C iX4 0 rfl rfl 2 (by decide) (C.1.2.2.2.2 (.fieldLink RX4 18 "StackRuns$Rules" "size" "I") (List.mem_of_getElem? (i := 1) rfl)) rfl dX4_dropNewest_21 24 rfl ?_
  exact hret _ _ dX4_dropNewest_24
set_option maxHeartbeats 4000000 in
set_option maxRecDepth 100000 in
theorem c_X4_matching (l : Launch) (D : va_G) (cy : Nat → ClassId) (h0 : Nat) (n : Nat) (m : Nat) (z : Nat) (st : Nat) (qh : Nat) (qt : Nat) (qp : Nat) (qb : Nat) (Hd : Nat → Nat) (u : Nat) (hz : z ≤ 30) (hH : ∀ r, Hd r < 25) (hu : u < 100) : CoI l yX4_matching wsX4_matching 0 0 D cy [ob h0 4 [.int (nI n), .int (nI m), .int (nI z), .int (nI st), .ref qh, .ref qt, .ref qp, .ref qb], aN cy qh 30 Hd] [.ref h0, .int (oI u)] [ob h0 4 [.int (nI n), .int (nI m), .int (nI z), .int (nI st), .ref qh, .ref qt, .ref qp, .ref qb], aN cy qh 30 Hd] (nI (matchF Hd u z)) := by
  refine met_i (cc := cX4_matching) (maxL := 4) (own := RX4) (lv := [(0, .ref h0), (1, .int (oI u))]) (by decide) rfl rfl rfl (Nat.le_of_ble_eq_true rfl) (fun E e1 e2 e3 C hret => ?_)
  subst e1; subst e2; subst e3
  have iX4 : ∀ w ∈ wsX40, w ∈ wsX4_matching := fun _ h => List.mem_cons_of_mem _ (List.mem_append_right _ h)
  refine g_iconst (v := nI 0) C dX4_matching_0 (by decide) 1 rfl ?_
  refine g_istore_n (lv' := [(2, .int (nI 0)), (0, .ref h0), (1, .int (oI u))]) C dX4_matching_1 rfl 2 rfl (by decide) rfl ?_
  refine g_iconst (v := nI 0) C dX4_matching_2 (by decide) 3 rfl ?_
  refine g_istore_n (lv' := [(3, .int (nI 0)), (2, .int (nI 0)), (0, .ref h0), (1, .int (oI u))]) C dX4_matching_3 rfl 4 rfl (by decide) rfl ?_
  have L4 : ∀ i, i ≤ z → Go E 0 0 4 [(3, .int (nI i)), (2, .int (nI (matchF Hd u i))), (0, .ref h0), (1, .int (oI u))] [] [ob h0 4 [.int (nI n), .int (nI m), .int (nI z), .int (nI st), .ref qh, .ref qt, .ref qp, .ref qb], aN (eY E) qh 30 Hd] := by
    refine go_for z (fun i => Go E 0 0 4 [(3, .int (nI i)), (2, .int (nI (matchF Hd u i))), (0, .ref h0), (1, .int (oI u))] [] [ob h0 4 [.int (nI n), .int (nI m), .int (nI z), .int (nI st), .ref qh, .ref qt, .ref qp, .ref qb], aN (eY E) qh 30 Hd]) (fun i hi_i ih_i => ?_)
    refine g_iload_n C dX4_matching_4 rfl 5 rfl 0 rfl ?_
    refine g_aload_n C dX4_matching_5 rfl 6 rfl 2 rfl ?_
    refine g_get C iX4 0 rfl rfl 2 (by decide) (C.1.2.2.2.2 (.fieldLink RX4 18 "StackRuns$Rules" "size" "I") (List.mem_of_getElem? (i := 1) rfl)) rfl dX4_matching_6 9 rfl ?_
    refine g_icmp_ge (X := z ≤ i) C dX4_matching_9 31 (by decide) 12 rfl (nI_leI (by have := matchF_le Hd u i; omega) (by have := matchF_le Hd u i; omega)) ?_ ?_
    · intro h9
      refine g_iload_n C dX4_matching_31 rfl 32 rfl 1 rfl ?_
      have e_1 : (matchF Hd u z) = (matchF Hd u i) := by first | with_reducible rfl | ((first | rfl | (have e : i = z := by omega); rw [e]))
      refine go_eq rfl (st' := [.int (nI (matchF Hd u z))]) (ws' := [ob h0 4 [.int (nI n), .int (nI m), .int (nI z), .int (nI st), .ref qh, .ref qt, .ref qp, .ref qb], aN (eY E) qh 30 Hd]) (by first | with_reducible rfl | (simp only [e_1, oI_s, oI_0, bI_1, bI_0, and_self, reduceIte]; done)) (by first | with_reducible rfl | (simp only [e_1, oI_s, oI_0, bI_1, bI_0, and_self, reduceIte]; done)) ?_
      exact hret _ _ dX4_matching_32
    · intro h9
      refine g_aload_n C dX4_matching_12 rfl 13 rfl 2 rfl ?_
      refine g_get C iX4 0 rfl rfl 4 (by decide) (C.1.2.2.2.2 (.fieldLink RX4 24 "StackRuns$Rules" "head" "[I") (List.mem_of_getElem? (i := 2) rfl)) rfl dX4_matching_13 16 rfl ?_
      refine g_iload_n C dX4_matching_16 rfl 17 rfl 0 rfl ?_
      refine g_iald (i := i) C 1 rfl (by omega) (by decide) dX4_matching_17 18 rfl ?_
      refine g_iload_n C dX4_matching_18 rfl 19 rfl 3 rfl ?_
      refine g_icmp_ne (X := ¬ Hd i + 1 = u) C dX4_matching_19 25 (by decide) 22 rfl (not_congr (nI_oI (by have := hH i; omega) (by omega))) ?_ ?_
      · intro h19
        refine g_iinc (lv' := [(3, .int (nI (i + 1))), (2, .int (nI (matchF Hd u i))), (0, .ref h0), (1, .int (oI u))]) C dX4_matching_25 28 rfl 0 rfl (by decide) rfl ?_
        refine g_goto C dX4_matching_28 4 (by decide) ?_
        have e_2 : (matchF Hd u (i + 1)) = (matchF Hd u i) := by first | with_reducible rfl | (simp [matchF, *])
        refine go_eq (lv' := [(3, .int (nI (i + 1))), (2, .int (nI (matchF Hd u (i + 1)))), (0, .ref h0), (1, .int (oI u))]) (ws' := [ob h0 4 [.int (nI n), .int (nI m), .int (nI z), .int (nI st), .ref qh, .ref qt, .ref qp, .ref qb], aN (eY E) qh 30 Hd]) (by first | with_reducible rfl | (simp only [e_2, oI_s, oI_0, bI_1, bI_0, and_self, reduceIte]; done)) rfl (by first | with_reducible rfl | (simp only [oI_s, oI_0, bI_1, bI_0, and_self, reduceIte]; done) | rfl) ?_
        exact ih_i (by omega)
      · intro h19
        have h19 : Hd i + 1 = u := Decidable.not_not.mp h19
        refine g_iinc (lv' := [(2, .int (nI ((matchF Hd u i) + 1))), (3, .int (nI i)), (0, .ref h0), (1, .int (oI u))]) C dX4_matching_22 25 rfl 1 rfl (by decide) rfl ?_
        refine g_iinc (lv' := [(3, .int (nI (i + 1))), (2, .int (nI ((matchF Hd u i) + 1))), (0, .ref h0), (1, .int (oI u))]) C dX4_matching_25 28 rfl 1 rfl (by decide) rfl ?_
        refine g_goto C dX4_matching_28 4 (by decide) ?_
        have e_3 : (matchF Hd u (i + 1)) = ((matchF Hd u i) + 1) := by first | with_reducible rfl | (simp [matchF, *])
        refine go_eq (lv' := [(3, .int (nI (i + 1))), (2, .int (nI (matchF Hd u (i + 1)))), (0, .ref h0), (1, .int (oI u))]) (ws' := [ob h0 4 [.int (nI n), .int (nI m), .int (nI z), .int (nI st), .ref qh, .ref qt, .ref qp, .ref qb], aN (eY E) qh 30 Hd]) (by first | with_reducible rfl | (simp only [e_3, oI_s, oI_0, bI_1, bI_0, and_self, reduceIte]; done)) rfl (by first | with_reducible rfl | (simp only [oI_s, oI_0, bI_1, bI_0, and_self, reduceIte]; done) | rfl) ?_
        exact ih_i (by omega)
  have e_4 : (matchF Hd u 0) = 0 := by first | with_reducible rfl | (rfl)
  refine go_eq (lv' := [(3, .int (nI 0)), (2, .int (nI (matchF Hd u 0))), (0, .ref h0), (1, .int (oI u))]) (ws' := [ob h0 4 [.int (nI n), .int (nI m), .int (nI z), .int (nI st), .ref qh, .ref qt, .ref qp, .ref qb], aN (eY E) qh 30 Hd]) (by first | with_reducible rfl | (simp only [e_4, oI_s, oI_0, bI_1, bI_0, and_self, reduceIte]; done)) rfl (by first | with_reducible rfl | (simp only [oI_s, oI_0, bI_1, bI_0, and_self, reduceIte]; done) | rfl) ?_
  exact L4 0 (by omega)
set_option maxHeartbeats 4000000 in
set_option maxRecDepth 100000 in
theorem c_J7_fill_53178 (l : Launch) (D : va_G) (cy : Nat → ClassId) (a : Nat) (k : Nat) (X : Nat → Nat) (v : Nat) (hk : k < 1000) : CoV l yJ7_fill_53178 wsJ7_fill_53178 0 0 D cy [aN cy a k X] [.ref a, .int (nI v)] [aN cy a k (fun _ => v)] := by
  refine met_v (cc := cJ7_fill_53178) (maxL := 4) (own := RJ7) (lv := [(0, .ref a), (1, .int (nI v))]) (by decide) rfl rfl rfl (Nat.le_of_ble_eq_true rfl) (fun E e1 e2 e3 C hret => ?_)
  subst e1; subst e2; subst e3
  refine g_iconst (v := nI 0) C dJ7_fill_53178_0 (by decide) 1 rfl ?_
  refine g_istore_n (lv' := [(2, .int (nI 0)), (0, .ref a), (1, .int (nI v))]) C dJ7_fill_53178_1 rfl 2 rfl (by decide) rfl ?_
  refine g_aload_n C dJ7_fill_53178_2 rfl 3 rfl 1 rfl ?_
  refine g_alenI C 0 rfl dJ7_fill_53178_3 4 rfl ?_
  refine g_istore_n (lv' := [(3, .int (nI k)), (2, .int (nI 0)), (0, .ref a), (1, .int (nI v))]) C dJ7_fill_53178_4 rfl 5 rfl (by decide) rfl ?_
  have L5 : ∀ i, i ≤ k → Go E 0 0 5 [(3, .int (nI k)), (2, .int (nI i)), (0, .ref a), (1, .int (nI v))] [] [aN (eY E) a k (fillF X v i)] := by
    refine go_for k (fun i => Go E 0 0 5 [(3, .int (nI k)), (2, .int (nI i)), (0, .ref a), (1, .int (nI v))] [] [aN (eY E) a k (fillF X v i)]) (fun i hi_i ih_i => ?_)
    refine g_iload_n C dJ7_fill_53178_5 rfl 6 rfl 1 rfl ?_
    refine g_iload_n C dJ7_fill_53178_6 rfl 7 rfl 0 rfl ?_
    refine g_icmp_ge (X := k ≤ i) C dJ7_fill_53178_7 20 (by decide) 10 rfl (nI_leI (by omega) (by omega)) ?_ ?_
    · intro h7
      refine go_swap (ws' := [aN (eY E) a k (fun _ => v)]) 0 rfl (cell_N _ _ (fillF X v i) (fun _ => v) (fun k_ hk_ => by exact fillF_in X v (by omega))) rfl ?_
      exact hret _ _ dJ7_fill_53178_20
    · intro h7
      refine g_aload_n C dJ7_fill_53178_10 rfl 11 rfl 2 rfl ?_
      refine g_iload_n C dJ7_fill_53178_11 rfl 12 rfl 1 rfl ?_
      refine g_iload_n C dJ7_fill_53178_12 rfl 13 rfl 3 rfl ?_
      refine g_iast (ws' := [aN (eY E) a k (up (fillF X v i) i v)]) (i := i) C 0 rfl (by omega) (by omega) dJ7_fill_53178_13 14 rfl (upd_N _ _ _) rfl ?_
      refine g_iinc (lv' := [(2, .int (nI (i + 1))), (3, .int (nI k)), (0, .ref a), (1, .int (nI v))]) C dJ7_fill_53178_14 17 rfl 1 rfl (by decide) rfl ?_
      refine g_goto C dJ7_fill_53178_17 5 (by decide) ?_
      refine go_lv (lv' := [(3, .int (nI k)), (2, .int (nI (i + 1))), (0, .ref a), (1, .int (nI v))]) [1, 0, 2, 3] rfl ?_
      have e_1 : (fillF X v (i + 1)) = (up (fillF X v i) i v) := by first | with_reducible rfl | (rw [fillF_s])
      refine go_eq (lv' := [(3, .int (nI k)), (2, .int (nI (i + 1))), (0, .ref a), (1, .int (nI v))]) (ws' := [aN (eY E) a k (fillF X v (i + 1))]) (by first | with_reducible rfl | (simp only [oI_s, oI_0, bI_1, bI_0, and_self, reduceIte]; done) | rfl) rfl (by first | with_reducible rfl | (simp only [e_1, oI_s, oI_0, bI_1, bI_0, and_self, reduceIte]; done)) ?_
      exact ih_i (by omega)
  have e_2 : (fillF X v 0) = X := by first | with_reducible rfl | (rw [fillF_0])
  refine go_eq (lv' := [(3, .int (nI k)), (2, .int (nI 0)), (0, .ref a), (1, .int (nI v))]) (ws' := [aN (eY E) a k (fillF X v 0)]) (by first | with_reducible rfl | (simp only [oI_s, oI_0, bI_1, bI_0, and_self, reduceIte]; done) | rfl) rfl (by first | with_reducible rfl | (simp only [e_2, oI_s, oI_0, bI_1, bI_0, and_self, reduceIte]; done)) ?_
  exact L5 0 (by omega)
set_option maxHeartbeats 4000000 in
set_option maxRecDepth 100000 in
theorem c_J7_fill_d0a16 (l : Launch) (D : va_G) (cy : Nat → ClassId) (a : Nat) (k : Nat) (X : Nat → Nat) (v : Nat) (hk : k < 1000) : CoV l yJ7_fill_d0a16 wsJ7_fill_d0a16 0 0 D cy [aL cy a k X] [.ref a, .long (lN v)] [aL cy a k (fun _ => v)] := by
  refine met_v (cc := cJ7_fill_d0a16) (maxL := 5) (own := RJ7) (lv := [(0, .ref a), (1, .long (lN v))]) (by decide) rfl rfl rfl (Nat.le_of_ble_eq_true rfl) (fun E e1 e2 e3 C hret => ?_)
  subst e1; subst e2; subst e3
  refine g_iconst (v := nI 0) C dJ7_fill_d0a16_0 (by decide) 1 rfl ?_
  refine g_istore_n (lv' := [(3, .int (nI 0)), (0, .ref a), (1, .long (lN v))]) C dJ7_fill_d0a16_1 rfl 2 rfl (by decide) rfl ?_
  refine g_aload_n C dJ7_fill_d0a16_2 rfl 3 rfl 1 rfl ?_
  refine g_alenL C 0 rfl dJ7_fill_d0a16_3 4 rfl ?_
  refine g_istore (lv' := [(4, .int (nI k)), (3, .int (nI 0)), (0, .ref a), (1, .long (lN v))]) C dJ7_fill_d0a16_4 6 rfl (by decide) rfl ?_
  have L6 : ∀ i, i ≤ k → Go E 0 0 6 [(4, .int (nI k)), (3, .int (nI i)), (0, .ref a), (1, .long (lN v))] [] [aL (eY E) a k (fillF X v i)] := by
    refine go_for k (fun i => Go E 0 0 6 [(4, .int (nI k)), (3, .int (nI i)), (0, .ref a), (1, .long (lN v))] [] [aL (eY E) a k (fillF X v i)]) (fun i hi_i ih_i => ?_)
    refine g_iload_n C dJ7_fill_d0a16_6 rfl 7 rfl 1 rfl ?_
    refine g_iload C dJ7_fill_d0a16_7 9 rfl 0 rfl ?_
    refine g_icmp_ge (X := k ≤ i) C dJ7_fill_d0a16_9 22 (by decide) 12 rfl (nI_leI (by omega) (by omega)) ?_ ?_
    · intro h9
      refine go_swap (ws' := [aL (eY E) a k (fun _ => v)]) 0 rfl (cell_L _ _ (fillF X v i) (fun _ => v) (fun k_ hk_ => by exact fillF_in X v (by omega))) rfl ?_
      exact hret _ _ dJ7_fill_d0a16_22
    · intro h9
      refine g_aload_n C dJ7_fill_d0a16_12 rfl 13 rfl 2 rfl ?_
      refine g_iload_n C dJ7_fill_d0a16_13 rfl 14 rfl 1 rfl ?_
      refine g_lload_n C dJ7_fill_d0a16_14 rfl 15 rfl 3 rfl ?_
      refine g_last (ws' := [aL (eY E) a k (up (fillF X v i) i v)]) (i := i) C 0 rfl (by omega) (by omega) dJ7_fill_d0a16_15 16 rfl (upd_L _ _ _) rfl ?_
      refine g_iinc (lv' := [(3, .int (nI (i + 1))), (4, .int (nI k)), (0, .ref a), (1, .long (lN v))]) C dJ7_fill_d0a16_16 19 rfl 1 rfl (by decide) rfl ?_
      refine g_goto C dJ7_fill_d0a16_19 6 (by decide) ?_
      refine go_lv (lv' := [(4, .int (nI k)), (3, .int (nI (i + 1))), (0, .ref a), (1, .long (lN v))]) [1, 0, 2, 3] rfl ?_
      have e_1 : (fillF X v (i + 1)) = (up (fillF X v i) i v) := by first | with_reducible rfl | (rw [fillF_s])
      refine go_eq (lv' := [(4, .int (nI k)), (3, .int (nI (i + 1))), (0, .ref a), (1, .long (lN v))]) (ws' := [aL (eY E) a k (fillF X v (i + 1))]) (by first | with_reducible rfl | (simp only [oI_s, oI_0, bI_1, bI_0, and_self, reduceIte]; done) | rfl) rfl (by first | with_reducible rfl | (simp only [e_1, oI_s, oI_0, bI_1, bI_0, and_self, reduceIte]; done)) ?_
      exact ih_i (by omega)
  have e_2 : (fillF X v 0) = X := by first | with_reducible rfl | (rw [fillF_0])
  refine go_eq (lv' := [(4, .int (nI k)), (3, .int (nI 0)), (0, .ref a), (1, .long (lN v))]) (ws' := [aL (eY E) a k (fillF X v 0)]) (by first | with_reducible rfl | (simp only [oI_s, oI_0, bI_1, bI_0, and_self, reduceIte]; done) | rfl) rfl (by first | with_reducible rfl | (simp only [e_2, oI_s, oI_0, bI_1, bI_0, and_self, reduceIte]; done)) ?_
  exact L6 0 (by omega)
set_option maxHeartbeats 4000000 in
set_option maxRecDepth 100000 in
theorem c_X5_restart (l : Launch) (D : va_G) (cy : Nat → ClassId) (g0 : Nat) (c : Nat) (h : Nat) (qs : Nat) (p : Nat)  : CoV l yX5_restart wsX5_restart 0 0 D cy [ob g0 5 [.int (nI c), .int (nI h), .ref qs]] [.ref g0, .int (nI p)] [ob g0 5 [.int (nI p), .int (nI 0), .ref qs]] := by
  refine met_v (cc := cX5_restart) (maxL := 2) (own := RX5) (lv := [(0, .ref g0), (1, .int (nI p))]) (by decide) rfl rfl rfl (Nat.le_of_ble_eq_true rfl) (fun E e1 e2 e3 C hret => ?_)
  subst e1; subst e2; subst e3
  have iX5 : ∀ w ∈ wsX50, w ∈ wsX5_restart := fun _ h => List.mem_cons_of_mem _ (List.mem_append_right _ h)
  refine g_aload_n C dX5_restart_0 rfl 1 rfl 0 rfl ?_
  refine g_iload_n C dX5_restart_1 rfl 2 rfl 1 rfl ?_
  refine g_put (ws' := [ob g0 5 [.int (nI p), .int (nI h), .ref qs]]) (ty := .int) C iX5 tyX5_ok nmX5 0 rfl rfl 0 (by decide) (C.1.2.2.2.2 (.fieldLink RX5 9 "StackRuns$Stand" "control" "I") (List.mem_of_getElem? (i := 1) rfl)) rfl (by decide +kernel) rfl rfl (Nat.le_of_ble_eq_true rfl) dX5_restart_2 5 rfl rfl ?_
  refine g_aload_n C dX5_restart_5 rfl 6 rfl 0 rfl ?_
  refine g_iconst (v := nI 0) C dX5_restart_6 (by decide) 7 rfl ?_
  refine g_put (ws' := [ob g0 5 [.int (nI p), .int (nI 0), .ref qs]]) (ty := .int) C iX5 tyX5_ok nmX5 0 rfl rfl 1 (by decide) (C.1.2.2.2.2 (.fieldLink RX5 15 "StackRuns$Stand" "height" "I") (List.mem_of_getElem? (i := 2) rfl)) rfl (by decide +kernel) rfl rfl (Nat.le_of_ble_eq_true rfl) dX5_restart_7 10 rfl rfl ?_
  exact hret _ _ dX5_restart_10
set_option maxHeartbeats 4000000 in
set_option maxRecDepth 100000 in
theorem c_X5_cover (l : Launch) (D : va_G) (cy : Nat → ClassId) (g0 : Nat) (c : Nat) (h : Nat) (qs : Nat) (Sg : Nat → Nat) (s : Nat) (hh : h < 60) : CoV l yX5_cover wsX5_cover 0 0 D cy [ob g0 5 [.int (nI c), .int (nI h), .ref qs], aN cy qs 60 Sg] [.ref g0, .int (nI s)] [ob g0 5 [.int (nI c), .int (nI (h + 1)), .ref qs], aN cy qs 60 (up Sg h s)] := by
  refine met_v (cc := cX5_cover) (maxL := 2) (own := RX5) (lv := [(0, .ref g0), (1, .int (nI s))]) (by decide) rfl rfl rfl (Nat.le_of_ble_eq_true rfl) (fun E e1 e2 e3 C hret => ?_)
  subst e1; subst e2; subst e3
  have iX5 : ∀ w ∈ wsX50, w ∈ wsX5_cover := fun _ h => List.mem_cons_of_mem _ (List.mem_append_right _ h)
  refine g_aload_n C dX5_cover_0 rfl 1 rfl 0 rfl ?_
  refine g_get C iX5 0 rfl rfl 2 (by decide) (C.1.2.2.2.2 (.fieldLink RX5 18 "StackRuns$Stand" "signs" "[I") (List.mem_of_getElem? (i := 1) rfl)) rfl dX5_cover_1 4 rfl ?_
  refine g_aload_n C dX5_cover_4 rfl 5 rfl 0 rfl ?_
  refine g_get C iX5 0 rfl rfl 1 (by decide) (C.1.2.2.2.2 (.fieldLink RX5 15 "StackRuns$Stand" "height" "I") (List.mem_of_getElem? (i := 2) rfl)) rfl dX5_cover_5 8 rfl ?_
  refine g_iload_n C dX5_cover_8 rfl 9 rfl 1 rfl ?_
  refine g_iast (ws' := [ob g0 5 [.int (nI c), .int (nI h), .ref qs], aN (eY E) qs 60 (up Sg h s)]) (i := h) C 1 rfl (by omega) (by decide) dX5_cover_9 10 rfl (upd_N _ _ _) rfl ?_
  refine g_aload_n C dX5_cover_10 rfl 11 rfl 0 rfl ?_
  refine g_dup C dX5_cover_11 rfl 12 rfl ?_
  refine g_get C iX5 0 rfl rfl 1 (by decide) (C.1.2.2.2.2 (.fieldLink RX5 15 "StackRuns$Stand" "height" "I") (List.mem_of_getElem? (i := 2) rfl)) rfl dX5_cover_12 15 rfl ?_
  refine g_iconst (v := nI 1) C dX5_cover_15 (by decide) 16 rfl ?_
  refine g_iadd (z := nI (h + 1)) C dX5_cover_16 17 rfl (nI_add _ _) ?_
  refine g_put (ws' := [ob g0 5 [.int (nI c), .int (nI (h + 1)), .ref qs], aN (eY E) qs 60 (up Sg h s)]) (ty := .int) C iX5 tyX5_ok nmX5 0 rfl rfl 1 (by decide) (C.1.2.2.2.2 (.fieldLink RX5 15 "StackRuns$Stand" "height" "I") (List.mem_of_getElem? (i := 2) rfl)) rfl (by decide +kernel) rfl rfl (Nat.le_of_ble_eq_true rfl) dX5_cover_17 20 rfl rfl ?_
  exact hret _ _ dX5_cover_20
set_option maxHeartbeats 4000000 in
set_option maxRecDepth 100000 in
theorem c_X5_head (l : Launch) (D : va_G) (cy : Nat → ClassId) (g0 : Nat) (c : Nat) (h : Nat) (qs : Nat) (Sg : Nat → Nat) (hh : h ≤ 60) : CoI l yX5_head wsX5_head 1 21 D cy [ob g0 5 [.int (nI c), .int (nI h), .ref qs], aN cy qs 60 Sg] [.ref g0] [ob g0 5 [.int (nI c), .int (nI h), .ref qs], aN cy qs 60 Sg] (oI (headF c h Sg)) := by
  refine met_i (cc := cX5_head) (maxL := 1) (own := RX5) (lv := [(0, .ref g0)]) (by decide) rfl rfl rfl (Nat.le_of_ble_eq_true rfl) (fun E e1 e2 e3 C hret => ?_)
  subst e1; subst e2; subst e3
  have iX5 : ∀ w ∈ wsX50, w ∈ wsX5_head := fun _ h => List.mem_cons_of_mem _ (List.mem_append_right _ h)
  refine g_aload_n C dX5_head_0 rfl 1 rfl 0 rfl ?_
  refine g_get C iX5 0 rfl rfl 1 (by decide) (C.1.2.2.2.2 (.fieldLink RX5 15 "StackRuns$Stand" "height" "I") (List.mem_of_getElem? (i := 1) rfl)) rfl dX5_head_1 4 rfl ?_
  refine g_if_ne (X := ¬ h = 0) C dX5_head_4 11 (by decide) 7 rfl (not_congr (nI_eq0 (by omega))) ?_ ?_
  · intro h4
    refine g_aload_n C dX5_head_11 rfl 12 rfl 0 rfl ?_
    refine g_get C iX5 0 rfl rfl 0 (by decide) (C.1.2.2.2.2 (.fieldLink RX5 9 "StackRuns$Stand" "control" "I") (List.mem_of_getElem? (i := 2) rfl)) rfl dX5_head_12 15 rfl ?_
    refine g_aload_n C dX5_head_15 rfl 16 rfl 0 rfl ?_
    refine g_get C iX5 0 rfl rfl 2 (by decide) (C.1.2.2.2.2 (.fieldLink RX5 18 "StackRuns$Stand" "signs" "[I") (List.mem_of_getElem? (i := 3) rfl)) rfl dX5_head_16 19 rfl ?_
    refine g_aload_n C dX5_head_19 rfl 20 rfl 0 rfl ?_
    refine g_get C iX5 0 rfl rfl 1 (by decide) (C.1.2.2.2.2 (.fieldLink RX5 15 "StackRuns$Stand" "height" "I") (List.mem_of_getElem? (i := 1) rfl)) rfl dX5_head_20 23 rfl ?_
    refine g_iconst (v := nI 1) C dX5_head_23 (by decide) 24 rfl ?_
    refine g_isub (z := nI (h - 1)) C dX5_head_24 25 rfl (pk_sub (by omega)) ?_
    refine g_iald (i := (h - 1)) C 1 rfl (by omega) (by decide) dX5_head_25 26 rfl ?_
    refine g_cSNi (ws2 := [ob g0 5 [.int (nI c), .int (nI h), .ref qs], aN (eY E) qs 60 Sg]) (As := [.int (nI c), .int (nI (Sg (h - 1)))]) (st := []) (wsc := []) (wr := [ob g0 5 [.int (nI c), .int (nI h), .ref qs], aN (eY E) qs 60 Sg]) C (c_X6_headOf (eL E) (eD E) (eY E) c (Sg (h - 1)) ) 2 ggX5_head_X6_headOf (nm_RX5_22 C.2.2.1) (List.mem_of_getElem? (i := 5) rfl) (List.mem_of_getElem? (i := 4) rfl) rfl (by decide +kernel) (by decide) ⟨Nat.zero_le _, Nat.zero_le _⟩ rfl rfl (Nat.le_of_ble_eq_true rfl) [] [0, 1] [0, 1] rfl rfl (by decide) (by decide) rfl (by decide) dX5_head_26 29 rfl ?_
    have e_1 : (headF c h Sg) = ((c * 5 + (Sg (h - 1))) + 1) := by first | with_reducible rfl | (simp [headF, *])
    refine go_eq rfl (st' := [.int (oI (headF c h Sg))]) (ws' := [ob g0 5 [.int (nI c), .int (nI h), .ref qs], aN (eY E) qs 60 Sg]) (by first | with_reducible rfl | (simp only [e_1, oI_s, oI_0, bI_1, bI_0, and_self, reduceIte]; done)) (by first | with_reducible rfl | (simp only [e_1, oI_s, oI_0, bI_1, bI_0, and_self, reduceIte]; done)) ?_
    exact hret _ _ dX5_head_29
  · intro h4
    have h4 : h = 0 := Decidable.not_not.mp h4
    refine g_iconst (v := (-1)) C dX5_head_7 (by decide) 8 rfl ?_
    refine g_goto C dX5_head_8 29 (by decide) ?_
    have e_2 : (headF c h Sg) = 0 := by first | with_reducible rfl | (simp [headF, *])
    refine go_eq rfl (st' := [.int (oI (headF c h Sg))]) (ws' := [ob g0 5 [.int (nI c), .int (nI h), .ref qs], aN (eY E) qs 60 Sg]) (by first | with_reducible rfl | (simp only [e_2, oI_s, oI_0, bI_1, bI_0, and_self, reduceIte]; done)) (by first | with_reducible rfl | (simp only [e_2, oI_s, oI_0, bI_1, bI_0, and_self, reduceIte]; done)) ?_
    exact hret _ _ dX5_head_29
set_option maxHeartbeats 4000000 in
set_option maxRecDepth 100000 in
theorem c_X5_hasRoom (l : Launch) (D : va_G) (cy : Nat → ClassId) (g0 : Nat) (c : Nat) (h : Nat) (qs : Nat) (h0 : Nat) (n : Nat) (m : Nat) (z : Nat) (st : Nat) (qh : Nat) (qt : Nat) (qp : Nat) (qb : Nat) (Bl : Nat → Nat) (r : Nat) (hh : h ≤ 60) (hB : ∀ r, Bl r ≤ 5) (hr : r < 30) : CoI l yX5_hasRoom wsX5_hasRoom 0 0 D cy [ob g0 5 [.int (nI c), .int (nI h), .ref qs], ob h0 4 [.int (nI n), .int (nI m), .int (nI z), .int (nI st), .ref qh, .ref qt, .ref qp, .ref qb], aO cy qb 30 Bl] [.ref g0, .ref h0, .int (nI r)] [ob g0 5 [.int (nI c), .int (nI h), .ref qs], ob h0 4 [.int (nI n), .int (nI m), .int (nI z), .int (nI st), .ref qh, .ref qt, .ref qp, .ref qb], aO cy qb 30 Bl] (bI (decide (Bl r = 0 ∨ h < 60))) := by
  refine met_z (cc := cX5_hasRoom) (maxL := 3) (own := RX5) (lv := [(0, .ref g0), (1, .ref h0), (2, .int (nI r))]) (by decide) rfl rfl rfl (Nat.le_of_ble_eq_true rfl) (fun E e1 e2 e3 C hret => ?_)
  subst e1; subst e2; subst e3
  have iX4 : ∀ w ∈ wsX40, w ∈ wsX5_hasRoom := fun _ h => List.mem_cons_of_mem _ (List.mem_append_left _ (List.mem_append_right _ h))
  have iX5 : ∀ w ∈ wsX50, w ∈ wsX5_hasRoom := fun _ h => List.mem_cons_of_mem _ (List.mem_append_right _ h)
  have hB1 := hB r
  refine g_aload_n C dX5_hasRoom_0 rfl 1 rfl 1 rfl ?_
  refine g_getN C iX4 1 rfl rfl 7 (by decide) (nf_RX5_26 C.2.2.1 _) rfl dX5_hasRoom_1 4 rfl ?_
  refine g_iload_n C dX5_hasRoom_4 rfl 5 rfl 2 rfl ?_
  refine g_iald (i := r) C 2 rfl (by omega) (by decide) dX5_hasRoom_5 6 rfl ?_
  refine g_iconst (v := (-1)) C dX5_hasRoom_6 (by decide) 7 rfl ?_
  refine g_icmp_eq (X := Bl r = 0) C dX5_hasRoom_7 19 (by decide) 10 rfl (oI_eq (by omega)) ?_ ?_
  · intro h7
    refine g_iconst (v := nI 1) C dX5_hasRoom_19 (by decide) 20 rfl ?_
    refine g_goto C dX5_hasRoom_20 24 (by decide) ?_
    have e_1 : (decide (Bl r = 0 ∨ h < 60)) = true := by first | with_reducible rfl | (simp; omega)
    refine go_eq rfl (st' := [.int (bI (decide (Bl r = 0 ∨ h < 60)))]) (ws' := [ob g0 5 [.int (nI c), .int (nI h), .ref qs], ob h0 4 [.int (nI n), .int (nI m), .int (nI z), .int (nI st), .ref qh, .ref qt, .ref qp, .ref qb], aO (eY E) qb 30 Bl]) (by first | with_reducible rfl | (simp only [e_1, oI_s, oI_0, bI_1, bI_0, and_self, reduceIte]; done)) (by first | with_reducible rfl | (simp only [e_1, oI_s, oI_0, bI_1, bI_0, and_self, reduceIte]; done)) ?_
    exact hret _ _ dX5_hasRoom_24
  · intro h7
    refine g_aload_n C dX5_hasRoom_10 rfl 11 rfl 0 rfl ?_
    refine g_get C iX5 0 rfl rfl 1 (by decide) (C.1.2.2.2.2 (.fieldLink RX5 15 "StackRuns$Stand" "height" "I") (List.mem_of_getElem? (i := 1) rfl)) rfl dX5_hasRoom_11 14 rfl ?_
    refine g_bipush (v := nI 60) C dX5_hasRoom_14 (by decide) 16 rfl ?_
    refine g_icmp_ge (X := 60 ≤ h) C dX5_hasRoom_16 23 (by decide) 19 rfl (nI_leI (by omega) (by omega)) ?_ ?_
    · intro h16
      refine g_iconst (v := nI 0) C dX5_hasRoom_23 (by decide) 24 rfl ?_
      have e_2 : (decide (Bl r = 0 ∨ h < 60)) = false := by first | with_reducible rfl | (simp; omega)
      refine go_eq rfl (st' := [.int (bI (decide (Bl r = 0 ∨ h < 60)))]) (ws' := [ob g0 5 [.int (nI c), .int (nI h), .ref qs], ob h0 4 [.int (nI n), .int (nI m), .int (nI z), .int (nI st), .ref qh, .ref qt, .ref qp, .ref qb], aO (eY E) qb 30 Bl]) (by first | with_reducible rfl | (simp only [e_2, oI_s, oI_0, bI_1, bI_0, and_self, reduceIte]; done)) (by first | with_reducible rfl | (simp only [e_2, oI_s, oI_0, bI_1, bI_0, and_self, reduceIte]; done)) ?_
      exact hret _ _ dX5_hasRoom_24
    · intro h16
      refine g_iconst (v := nI 1) C dX5_hasRoom_19 (by decide) 20 rfl ?_
      refine g_goto C dX5_hasRoom_20 24 (by decide) ?_
      have e_3 : (decide (Bl r = 0 ∨ h < 60)) = true := by first | with_reducible rfl | (simp; omega)
      refine go_eq rfl (st' := [.int (bI (decide (Bl r = 0 ∨ h < 60)))]) (ws' := [ob g0 5 [.int (nI c), .int (nI h), .ref qs], ob h0 4 [.int (nI n), .int (nI m), .int (nI z), .int (nI st), .ref qh, .ref qt, .ref qp, .ref qb], aO (eY E) qb 30 Bl]) (by first | with_reducible rfl | (simp only [e_3, oI_s, oI_0, bI_1, bI_0, and_self, reduceIte]; done)) (by first | with_reducible rfl | (simp only [e_3, oI_s, oI_0, bI_1, bI_0, and_self, reduceIte]; done)) ?_
      exact hret _ _ dX5_hasRoom_24
set_option maxHeartbeats 4000000 in
set_option maxRecDepth 100000 in
theorem c_X5_change (l : Launch) (D : va_G) (cy : Nat → ClassId) (g0 : Nat) (c : Nat) (h : Nat) (qs : Nat) (Sg : Nat → Nat) (h0 : Nat) (n : Nat) (m : Nat) (z : Nat) (st : Nat) (qh : Nat) (qt : Nat) (qp : Nat) (qb : Nat) (To : Nat → Nat) (Tp : Nat → Nat) (Bl : Nat → Nat) (r : Nat) (hh : h ≤ 60) (h0h : 0 < h) (hB : ∀ r, Bl r ≤ 5) (hT : ∀ r, Tp r ≤ 5) (hr : r < 30) (hroom : Bl r = 0 ∨ h < 60) : CoV l yX5_change wsX5_change 1 21 D cy [ob g0 5 [.int (nI c), .int (nI h), .ref qs], aN cy qs 60 Sg, ob h0 4 [.int (nI n), .int (nI m), .int (nI z), .int (nI st), .ref qh, .ref qt, .ref qp, .ref qb], aN cy qt 30 To, aO cy qp 30 Tp, aO cy qb 30 Bl] [.ref g0, .ref h0, .int (nI r)] [ob g0 5 [.int (nI (To r)), .int (nI (chH h (Tp r) (Bl r))), .ref qs], aN cy qs 60 (chS Sg h (Tp r) (Bl r)), ob h0 4 [.int (nI n), .int (nI m), .int (nI z), .int (nI st), .ref qh, .ref qt, .ref qp, .ref qb], aN cy qt 30 To, aO cy qp 30 Tp, aO cy qb 30 Bl] := by
  refine met_v (cc := cX5_change) (maxL := 3) (own := RX5) (lv := [(0, .ref g0), (1, .ref h0), (2, .int (nI r))]) (by decide) rfl rfl rfl (Nat.le_of_ble_eq_true rfl) (fun E e1 e2 e3 C hret => ?_)
  subst e1; subst e2; subst e3
  have iX4 : ∀ w ∈ wsX40, w ∈ wsX5_change := fun _ h => List.mem_cons_of_mem _ (List.mem_append_right _ h)
  have iX5 : ∀ w ∈ wsX50, w ∈ wsX5_change := fun _ h => List.mem_cons_of_mem _ (List.mem_append_left _ (List.mem_append_right _ h))
  have hB1 := hB r
  have hT1 := hT r
  refine g_aload_n C dX5_change_0 rfl 1 rfl 0 rfl ?_
  refine g_dup C dX5_change_1 rfl 2 rfl ?_
  refine g_get C iX5 0 rfl rfl 1 (by decide) (C.1.2.2.2.2 (.fieldLink RX5 15 "StackRuns$Stand" "height" "I") (List.mem_of_getElem? (i := 1) rfl)) rfl dX5_change_2 5 rfl ?_
  refine g_iconst (v := nI 1) C dX5_change_5 (by decide) 6 rfl ?_
  refine g_isub (z := nI (h - 1)) C dX5_change_6 7 rfl (pk_sub (by omega)) ?_
  refine g_put (ws' := [ob g0 5 [.int (nI c), .int (nI (h - 1)), .ref qs], aN (eY E) qs 60 Sg, ob h0 4 [.int (nI n), .int (nI m), .int (nI z), .int (nI st), .ref qh, .ref qt, .ref qp, .ref qb], aN (eY E) qt 30 To, aO (eY E) qp 30 Tp, aO (eY E) qb 30 Bl]) (ty := .int) C iX5 tyX5_ok nmX5 0 rfl rfl 1 (by decide) (C.1.2.2.2.2 (.fieldLink RX5 15 "StackRuns$Stand" "height" "I") (List.mem_of_getElem? (i := 1) rfl)) rfl (by decide +kernel) rfl rfl (Nat.le_of_ble_eq_true rfl) dX5_change_7 10 rfl rfl ?_
  refine g_aload_n C dX5_change_10 rfl 11 rfl 1 rfl ?_
  refine g_getN C iX4 2 rfl rfl 7 (by decide) (nf_RX5_26 C.2.2.1 _) rfl dX5_change_11 14 rfl ?_
  refine g_iload_n C dX5_change_14 rfl 15 rfl 2 rfl ?_
  refine g_iald (i := r) C 5 rfl (by omega) (by decide) dX5_change_15 16 rfl ?_
  refine g_iconst (v := (-1)) C dX5_change_16 (by decide) 17 rfl ?_
  refine g_icmp_eq (X := Bl r = 0) C dX5_change_17 30 (by decide) 20 rfl (oI_eq (by omega)) ?_ ?_
  · intro h17
    refine g_aload_n C dX5_change_30 rfl 31 rfl 1 rfl ?_
    refine g_getN C iX4 2 rfl rfl 6 (by decide) (nf_RX5_35 C.2.2.1 _) rfl dX5_change_31 34 rfl ?_
    refine g_iload_n C dX5_change_34 rfl 35 rfl 2 rfl ?_
    refine g_iald (i := r) C 4 rfl (by omega) (by decide) dX5_change_35 36 rfl ?_
    refine g_iconst (v := (-1)) C dX5_change_36 (by decide) 37 rfl ?_
    refine g_icmp_eq (X := Tp r = 0) C dX5_change_37 50 (by decide) 40 rfl (oI_eq (by omega)) ?_ ?_
    · intro h37
      refine g_aload_n C dX5_change_50 rfl 51 rfl 0 rfl ?_
      refine g_aload_n C dX5_change_51 rfl 52 rfl 1 rfl ?_
      refine g_getN C iX4 2 rfl rfl 5 (by decide) (nf_RX5_38 C.2.2.1 _) rfl dX5_change_52 55 rfl ?_
      refine g_iload_n C dX5_change_55 rfl 56 rfl 2 rfl ?_
      refine g_iald (i := r) C 3 rfl (by omega) (by decide) dX5_change_56 57 rfl ?_
      refine g_put (ws' := [ob g0 5 [.int (nI (To r)), .int (nI (h - 1)), .ref qs], aN (eY E) qs 60 Sg, ob h0 4 [.int (nI n), .int (nI m), .int (nI z), .int (nI st), .ref qh, .ref qt, .ref qp, .ref qb], aN (eY E) qt 30 To, aO (eY E) qp 30 Tp, aO (eY E) qb 30 Bl]) (ty := .int) C iX5 tyX5_ok nmX5 0 rfl rfl 0 (by decide) (C.1.2.2.2.2 (.fieldLink RX5 9 "StackRuns$Stand" "control" "I") (List.mem_of_getElem? (i := 2) rfl)) rfl (by decide +kernel) rfl rfl (Nat.le_of_ble_eq_true rfl) dX5_change_57 60 rfl rfl ?_
      have e_1 : (chH h (Tp r) (Bl r)) = (h - 1) := by first | with_reducible rfl | (first | (simp [chH, *]; done) | (simp [chH, *]; omega) | simp [chS, *])
      have e_2 : (chS Sg h (Tp r) (Bl r)) = Sg := by first | with_reducible rfl | (first | (simp [chH, *]; done) | (simp [chH, *]; omega) | simp [chS, *])
      refine go_eq rfl (st' := []) (ws' := [ob g0 5 [.int (nI (To r)), .int (nI (chH h (Tp r) (Bl r))), .ref qs], aN (eY E) qs 60 (chS Sg h (Tp r) (Bl r)), ob h0 4 [.int (nI n), .int (nI m), .int (nI z), .int (nI st), .ref qh, .ref qt, .ref qp, .ref qb], aN (eY E) qt 30 To, aO (eY E) qp 30 Tp, aO (eY E) qb 30 Bl]) (by first | with_reducible rfl | (simp only [e_1, e_2, oI_s, oI_0, bI_1, bI_0, and_self, reduceIte]; done)) (by first | with_reducible rfl | (simp only [e_1, e_2, oI_s, oI_0, bI_1, bI_0, and_self, reduceIte]; done)) ?_
      exact hret _ _ dX5_change_60
    · intro h37
      refine g_aload_n C dX5_change_40 rfl 41 rfl 0 rfl ?_
      refine g_aload_n C dX5_change_41 rfl 42 rfl 1 rfl ?_
      refine g_getN C iX4 2 rfl rfl 6 (by decide) (nf_RX5_35 C.2.2.1 _) rfl dX5_change_42 45 rfl ?_
      refine g_iload_n C dX5_change_45 rfl 46 rfl 2 rfl ?_
      refine g_iald (i := r) C 4 rfl (by omega) (by decide) dX5_change_46 47 rfl ?_
      refine go_eq rfl (st' := [.int (nI ((Tp r) - 1)), .ref g0]) (ws' := [ob g0 5 [.int (nI c), .int (nI (h - 1)), .ref qs], aN (eY E) qs 60 Sg, ob h0 4 [.int (nI n), .int (nI m), .int (nI z), .int (nI st), .ref qh, .ref qt, .ref qp, .ref qb], aN (eY E) qt 30 To, aO (eY E) qp 30 Tp, aO (eY E) qb 30 Bl]) (by rw [oI_pos (a := (Tp r)) (by omega)]) (by rfl) ?_
      refine g_cVv (ws2 := [ob g0 5 [.int (nI c), .int (nI ((h - 1) + 1)), .ref qs], aN (eY E) qs 60 (up Sg (h - 1) ((Tp r) - 1)), ob h0 4 [.int (nI n), .int (nI m), .int (nI z), .int (nI st), .ref qh, .ref qt, .ref qp, .ref qb], aN (eY E) qt 30 To, aO (eY E) qp 30 Tp, aO (eY E) qb 30 Bl]) (As := [.int (nI ((Tp r) - 1))]) (st := []) (wsc := [ob g0 5 [.int (nI c), .int (nI (h - 1)), .ref qs], aN (eY E) qs 60 Sg]) (wr := [ob h0 4 [.int (nI n), .int (nI m), .int (nI z), .int (nI st), .ref qh, .ref qt, .ref qp, .ref qb], aN (eY E) qt 30 To, aO (eY E) qp 30 Tp, aO (eY E) qb 30 Bl]) C (c_X5_cover (eL E) (eD E) (eY E) g0 c (h - 1) qs Sg ((Tp r) - 1) (by omega)) 1 gX5_change_X5_cover rfl (by decide +kernel) (by decide) ⟨Nat.zero_le _, Nat.zero_le _⟩ rfl 0 rfl rfl rfl (Nat.le_of_ble_eq_true rfl) [0, 1] [2, 3, 4, 5] [4, 5, 0, 1, 2, 3] rfl rfl (by decide) (by decide) rfl (by decide) dX5_change_47 50 rfl ?_
      refine g_aload_n C dX5_change_50 rfl 51 rfl 0 rfl ?_
      refine g_aload_n C dX5_change_51 rfl 52 rfl 1 rfl ?_
      refine g_getN C iX4 2 rfl rfl 5 (by decide) (nf_RX5_38 C.2.2.1 _) rfl dX5_change_52 55 rfl ?_
      refine g_iload_n C dX5_change_55 rfl 56 rfl 2 rfl ?_
      refine g_iald (i := r) C 3 rfl (by omega) (by decide) dX5_change_56 57 rfl ?_
      refine g_put (ws' := [ob g0 5 [.int (nI (To r)), .int (nI ((h - 1) + 1)), .ref qs], aN (eY E) qs 60 (up Sg (h - 1) ((Tp r) - 1)), ob h0 4 [.int (nI n), .int (nI m), .int (nI z), .int (nI st), .ref qh, .ref qt, .ref qp, .ref qb], aN (eY E) qt 30 To, aO (eY E) qp 30 Tp, aO (eY E) qb 30 Bl]) (ty := .int) C iX5 tyX5_ok nmX5 0 rfl rfl 0 (by decide) (C.1.2.2.2.2 (.fieldLink RX5 9 "StackRuns$Stand" "control" "I") (List.mem_of_getElem? (i := 2) rfl)) rfl (by decide +kernel) rfl rfl (Nat.le_of_ble_eq_true rfl) dX5_change_57 60 rfl rfl ?_
      have e_3 : (chH h (Tp r) (Bl r)) = ((h - 1) + 1) := by first | with_reducible rfl | (first | (simp [chH, *]; done) | (simp [chH, *]; omega) | simp [chS, *])
      have e_4 : (chS Sg h (Tp r) (Bl r)) = (up Sg (h - 1) ((Tp r) - 1)) := by first | with_reducible rfl | (first | (simp [chH, *]; done) | (simp [chH, *]; omega) | simp [chS, *])
      refine go_eq rfl (st' := []) (ws' := [ob g0 5 [.int (nI (To r)), .int (nI (chH h (Tp r) (Bl r))), .ref qs], aN (eY E) qs 60 (chS Sg h (Tp r) (Bl r)), ob h0 4 [.int (nI n), .int (nI m), .int (nI z), .int (nI st), .ref qh, .ref qt, .ref qp, .ref qb], aN (eY E) qt 30 To, aO (eY E) qp 30 Tp, aO (eY E) qb 30 Bl]) (by first | with_reducible rfl | (simp only [e_3, e_4, oI_s, oI_0, bI_1, bI_0, and_self, reduceIte]; done)) (by first | with_reducible rfl | (simp only [e_3, e_4, oI_s, oI_0, bI_1, bI_0, and_self, reduceIte]; done)) ?_
      exact hret _ _ dX5_change_60
  · intro h17
    refine g_aload_n C dX5_change_20 rfl 21 rfl 0 rfl ?_
    refine g_aload_n C dX5_change_21 rfl 22 rfl 1 rfl ?_
    refine g_getN C iX4 2 rfl rfl 7 (by decide) (nf_RX5_26 C.2.2.1 _) rfl dX5_change_22 25 rfl ?_
    refine g_iload_n C dX5_change_25 rfl 26 rfl 2 rfl ?_
    refine g_iald (i := r) C 5 rfl (by omega) (by decide) dX5_change_26 27 rfl ?_
    refine go_eq rfl (st' := [.int (nI ((Bl r) - 1)), .ref g0]) (ws' := [ob g0 5 [.int (nI c), .int (nI (h - 1)), .ref qs], aN (eY E) qs 60 Sg, ob h0 4 [.int (nI n), .int (nI m), .int (nI z), .int (nI st), .ref qh, .ref qt, .ref qp, .ref qb], aN (eY E) qt 30 To, aO (eY E) qp 30 Tp, aO (eY E) qb 30 Bl]) (by rw [oI_pos (a := (Bl r)) (by omega)]) (by rfl) ?_
    refine g_cVv (ws2 := [ob g0 5 [.int (nI c), .int (nI ((h - 1) + 1)), .ref qs], aN (eY E) qs 60 (up Sg (h - 1) ((Bl r) - 1)), ob h0 4 [.int (nI n), .int (nI m), .int (nI z), .int (nI st), .ref qh, .ref qt, .ref qp, .ref qb], aN (eY E) qt 30 To, aO (eY E) qp 30 Tp, aO (eY E) qb 30 Bl]) (As := [.int (nI ((Bl r) - 1))]) (st := []) (wsc := [ob g0 5 [.int (nI c), .int (nI (h - 1)), .ref qs], aN (eY E) qs 60 Sg]) (wr := [ob h0 4 [.int (nI n), .int (nI m), .int (nI z), .int (nI st), .ref qh, .ref qt, .ref qp, .ref qb], aN (eY E) qt 30 To, aO (eY E) qp 30 Tp, aO (eY E) qb 30 Bl]) C (c_X5_cover (eL E) (eD E) (eY E) g0 c (h - 1) qs Sg ((Bl r) - 1) (by omega)) 1 gX5_change_X5_cover rfl (by decide +kernel) (by decide) ⟨Nat.zero_le _, Nat.zero_le _⟩ rfl 0 rfl rfl rfl (Nat.le_of_ble_eq_true rfl) [0, 1] [2, 3, 4, 5] [4, 5, 0, 1, 2, 3] rfl rfl (by decide) (by decide) rfl (by decide) dX5_change_27 30 rfl ?_
    refine g_aload_n C dX5_change_30 rfl 31 rfl 1 rfl ?_
    refine g_getN C iX4 2 rfl rfl 6 (by decide) (nf_RX5_35 C.2.2.1 _) rfl dX5_change_31 34 rfl ?_
    refine g_iload_n C dX5_change_34 rfl 35 rfl 2 rfl ?_
    refine g_iald (i := r) C 4 rfl (by omega) (by decide) dX5_change_35 36 rfl ?_
    refine g_iconst (v := (-1)) C dX5_change_36 (by decide) 37 rfl ?_
    refine g_icmp_eq (X := Tp r = 0) C dX5_change_37 50 (by decide) 40 rfl (oI_eq (by omega)) ?_ ?_
    · intro h37
      refine g_aload_n C dX5_change_50 rfl 51 rfl 0 rfl ?_
      refine g_aload_n C dX5_change_51 rfl 52 rfl 1 rfl ?_
      refine g_getN C iX4 2 rfl rfl 5 (by decide) (nf_RX5_38 C.2.2.1 _) rfl dX5_change_52 55 rfl ?_
      refine g_iload_n C dX5_change_55 rfl 56 rfl 2 rfl ?_
      refine g_iald (i := r) C 3 rfl (by omega) (by decide) dX5_change_56 57 rfl ?_
      refine g_put (ws' := [ob g0 5 [.int (nI (To r)), .int (nI ((h - 1) + 1)), .ref qs], aN (eY E) qs 60 (up Sg (h - 1) ((Bl r) - 1)), ob h0 4 [.int (nI n), .int (nI m), .int (nI z), .int (nI st), .ref qh, .ref qt, .ref qp, .ref qb], aN (eY E) qt 30 To, aO (eY E) qp 30 Tp, aO (eY E) qb 30 Bl]) (ty := .int) C iX5 tyX5_ok nmX5 0 rfl rfl 0 (by decide) (C.1.2.2.2.2 (.fieldLink RX5 9 "StackRuns$Stand" "control" "I") (List.mem_of_getElem? (i := 2) rfl)) rfl (by decide +kernel) rfl rfl (Nat.le_of_ble_eq_true rfl) dX5_change_57 60 rfl rfl ?_
      have e_5 : (chH h (Tp r) (Bl r)) = ((h - 1) + 1) := by first | with_reducible rfl | (first | (simp [chH, *]; done) | (simp [chH, *]; omega) | simp [chS, *])
      have e_6 : (chS Sg h (Tp r) (Bl r)) = (up Sg (h - 1) ((Bl r) - 1)) := by first | with_reducible rfl | (first | (simp [chH, *]; done) | (simp [chH, *]; omega) | simp [chS, *])
      refine go_eq rfl (st' := []) (ws' := [ob g0 5 [.int (nI (To r)), .int (nI (chH h (Tp r) (Bl r))), .ref qs], aN (eY E) qs 60 (chS Sg h (Tp r) (Bl r)), ob h0 4 [.int (nI n), .int (nI m), .int (nI z), .int (nI st), .ref qh, .ref qt, .ref qp, .ref qb], aN (eY E) qt 30 To, aO (eY E) qp 30 Tp, aO (eY E) qb 30 Bl]) (by first | with_reducible rfl | (simp only [e_5, e_6, oI_s, oI_0, bI_1, bI_0, and_self, reduceIte]; done)) (by first | with_reducible rfl | (simp only [e_5, e_6, oI_s, oI_0, bI_1, bI_0, and_self, reduceIte]; done)) ?_
      exact hret _ _ dX5_change_60
    · intro h37
      refine g_aload_n C dX5_change_40 rfl 41 rfl 0 rfl ?_
      refine g_aload_n C dX5_change_41 rfl 42 rfl 1 rfl ?_
      refine g_getN C iX4 2 rfl rfl 6 (by decide) (nf_RX5_35 C.2.2.1 _) rfl dX5_change_42 45 rfl ?_
      refine g_iload_n C dX5_change_45 rfl 46 rfl 2 rfl ?_
      refine g_iald (i := r) C 4 rfl (by omega) (by decide) dX5_change_46 47 rfl ?_
      refine go_eq rfl (st' := [.int (nI ((Tp r) - 1)), .ref g0]) (ws' := [ob g0 5 [.int (nI c), .int (nI ((h - 1) + 1)), .ref qs], aN (eY E) qs 60 (up Sg (h - 1) ((Bl r) - 1)), ob h0 4 [.int (nI n), .int (nI m), .int (nI z), .int (nI st), .ref qh, .ref qt, .ref qp, .ref qb], aN (eY E) qt 30 To, aO (eY E) qp 30 Tp, aO (eY E) qb 30 Bl]) (by rw [oI_pos (a := (Tp r)) (by omega)]) (by rfl) ?_
      refine g_cVv (ws2 := [ob g0 5 [.int (nI c), .int (nI (((h - 1) + 1) + 1)), .ref qs], aN (eY E) qs 60 (up (up Sg (h - 1) ((Bl r) - 1)) ((h - 1) + 1) ((Tp r) - 1)), ob h0 4 [.int (nI n), .int (nI m), .int (nI z), .int (nI st), .ref qh, .ref qt, .ref qp, .ref qb], aN (eY E) qt 30 To, aO (eY E) qp 30 Tp, aO (eY E) qb 30 Bl]) (As := [.int (nI ((Tp r) - 1))]) (st := []) (wsc := [ob g0 5 [.int (nI c), .int (nI ((h - 1) + 1)), .ref qs], aN (eY E) qs 60 (up Sg (h - 1) ((Bl r) - 1))]) (wr := [ob h0 4 [.int (nI n), .int (nI m), .int (nI z), .int (nI st), .ref qh, .ref qt, .ref qp, .ref qb], aN (eY E) qt 30 To, aO (eY E) qp 30 Tp, aO (eY E) qb 30 Bl]) C (c_X5_cover (eL E) (eD E) (eY E) g0 c ((h - 1) + 1) qs (up Sg (h - 1) ((Bl r) - 1)) ((Tp r) - 1) (by omega)) 1 gX5_change_X5_cover rfl (by decide +kernel) (by decide) ⟨Nat.zero_le _, Nat.zero_le _⟩ rfl 0 rfl rfl rfl (Nat.le_of_ble_eq_true rfl) [0, 1] [2, 3, 4, 5] [4, 5, 0, 1, 2, 3] rfl rfl (by decide) (by decide) rfl (by decide) dX5_change_47 50 rfl ?_
      refine g_aload_n C dX5_change_50 rfl 51 rfl 0 rfl ?_
      refine g_aload_n C dX5_change_51 rfl 52 rfl 1 rfl ?_
      refine g_getN C iX4 2 rfl rfl 5 (by decide) (nf_RX5_38 C.2.2.1 _) rfl dX5_change_52 55 rfl ?_
      refine g_iload_n C dX5_change_55 rfl 56 rfl 2 rfl ?_
      refine g_iald (i := r) C 3 rfl (by omega) (by decide) dX5_change_56 57 rfl ?_
      refine g_put (ws' := [ob g0 5 [.int (nI (To r)), .int (nI (((h - 1) + 1) + 1)), .ref qs], aN (eY E) qs 60 (up (up Sg (h - 1) ((Bl r) - 1)) ((h - 1) + 1) ((Tp r) - 1)), ob h0 4 [.int (nI n), .int (nI m), .int (nI z), .int (nI st), .ref qh, .ref qt, .ref qp, .ref qb], aN (eY E) qt 30 To, aO (eY E) qp 30 Tp, aO (eY E) qb 30 Bl]) (ty := .int) C iX5 tyX5_ok nmX5 0 rfl rfl 0 (by decide) (C.1.2.2.2.2 (.fieldLink RX5 9 "StackRuns$Stand" "control" "I") (List.mem_of_getElem? (i := 2) rfl)) rfl (by decide +kernel) rfl rfl (Nat.le_of_ble_eq_true rfl) dX5_change_57 60 rfl rfl ?_
      have e_7 : (chH h (Tp r) (Bl r)) = (((h - 1) + 1) + 1) := by first | with_reducible rfl | (first | (simp [chH, *]; done) | (simp [chH, *]; omega) | simp [chS, *])
      have e_8 : (chS Sg h (Tp r) (Bl r)) = (up (up Sg (h - 1) ((Bl r) - 1)) ((h - 1) + 1) ((Tp r) - 1)) := by first | with_reducible rfl | (first | (simp [chH, *]; done) | (simp [chH, *]; omega) | simp [chS, *])
      refine go_eq rfl (st' := []) (ws' := [ob g0 5 [.int (nI (To r)), .int (nI (chH h (Tp r) (Bl r))), .ref qs], aN (eY E) qs 60 (chS Sg h (Tp r) (Bl r)), ob h0 4 [.int (nI n), .int (nI m), .int (nI z), .int (nI st), .ref qh, .ref qt, .ref qp, .ref qb], aN (eY E) qt 30 To, aO (eY E) qp 30 Tp, aO (eY E) qb 30 Bl]) (by first | with_reducible rfl | (simp only [e_7, e_8, oI_s, oI_0, bI_1, bI_0, and_self, reduceIte]; done)) (by first | with_reducible rfl | (simp only [e_7, e_8, oI_s, oI_0, bI_1, bI_0, and_self, reduceIte]; done)) ?_
      exact hret _ _ dX5_change_60
