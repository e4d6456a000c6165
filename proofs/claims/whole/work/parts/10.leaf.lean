set_option maxHeartbeats 4000000 in
set_option maxRecDepth 100000 in
theorem c_X6_headOf (l : Launch) (D : va_G) (cy : Nat → ClassId) (p : Nat) (s : Nat)  : CoI l yX6_headOf wsX6_headOf 0 0 D cy [] [.int (nI p), .int (nI s)] [] (nI (p * 5 + s)) := by
  refine met_i (cc := cX6_headOf) (maxL := 2) (own := RX6) (lv := [(0, .int (nI p)), (1, .int (nI s))]) (by decide) rfl rfl rfl (Nat.le_of_ble_eq_true rfl) (fun E e1 e2 e3 C hret => ?_)
  subst e1; subst e2; subst e3
  refine g_iload_n C dX6_headOf_0 rfl 1 rfl 0 rfl ?_
  refine g_iconst (v := nI 5) C dX6_headOf_1 (by decide) 2 rfl ?_
  refine g_imul (z := nI (p * 5)) C dX6_headOf_2 3 rfl (pk_mul _ _) ?_
  refine g_iload_n C dX6_headOf_3 rfl 4 rfl 1 rfl ?_
  refine g_iadd (z := nI ((p * 5) + s)) C dX6_headOf_4 5 rfl (nI_add _ _) ?_
  have e_1 : (p * 5 + s) = ((p * 5) + s) := by simp [*]
  refine go_eq rfl (st' := [.int (nI (p * 5 + s))]) (ws' := []) (by first | rfl | (simp only [e_1]; first | done | rfl)) (by first | rfl | (simp only [e_1]; first | done | rfl)) ?_
  exact hret _ _ dX6_headOf_5
set_option maxHeartbeats 4000000 in
set_option maxRecDepth 100000 in
theorem c_X6_hasBit (l : Launch) (D : va_G) (cy : Nat → ClassId) (b : Nat) (i : Nat) (hb : b < 2 ^ 31) (hi : i < 32) : CoI l yX6_hasBit wsX6_hasBit 0 0 D cy [] [.int (nI b), .int (nI i)] [] (bI (b.testBit i)) := by
  refine met_z (cc := cX6_hasBit) (maxL := 2) (own := RX6) (lv := [(0, .int (nI b)), (1, .int (nI i))]) (by decide) rfl rfl rfl (Nat.le_of_ble_eq_true rfl) (fun E e1 e2 e3 C hret => ?_)
  subst e1; subst e2; subst e3
  refine g_iload_n C dX6_hasBit_0 rfl 1 rfl 0 rfl ?_
  refine g_iload_n C dX6_hasBit_1 rfl 2 rfl 1 rfl ?_
  refine g_ishr (z := nI (b / 2 ^ i)) C dX6_hasBit_2 3 rfl (z_shr (by omega) (by omega)) ?_
  refine g_iconst (v := nI 1) C dX6_hasBit_3 (by decide) 4 rfl ?_
  refine g_iand (z := nI ((b / 2 ^ i) &&& 1)) C dX6_hasBit_4 5 rfl (z_and _ _) ?_
  refine g_if_eq (X := (b / 2 ^ i) &&& 1 = 0) C dX6_hasBit_5 12 (by decide) 8 rfl (nI_eq0 (by exact bx_lt _ _ hb)) ?_ ?_
  · intro h5
    refine g_iconst (v := nI 0) C dX6_hasBit_12 (by decide) 13 rfl ?_
    have e_1 : (b.testBit i) = false := by first | exact tb_0 (by assumption) | exact tb_1 (by assumption)
    refine go_eq rfl (st' := [.int (bI (b.testBit i))]) (ws' := []) (by first | rfl | (simp only [e_1]; first | done | rfl)) (by first | rfl | (simp only [e_1]; first | done | rfl)) ?_
    exact hret _ _ dX6_hasBit_13
  · intro h5
    refine g_iconst (v := nI 1) C dX6_hasBit_8 (by decide) 9 rfl ?_
    refine g_goto C dX6_hasBit_9 13 (by decide) ?_
    have e_2 : (b.testBit i) = true := by first | exact tb_0 (by assumption) | exact tb_1 (by assumption)
    refine go_eq rfl (st' := [.int (bI (b.testBit i))]) (ws' := []) (by first | rfl | (simp only [e_2]; first | done | rfl)) (by first | rfl | (simp only [e_2]; first | done | rfl)) ?_
    exact hret _ _ dX6_hasBit_13
set_option maxHeartbeats 4000000 in
set_option maxRecDepth 100000 in
theorem c_X6_told (l : Launch) (D : va_G) (cy : Nat → ClassId) (a : Nat) (ha : a ≤ 9000000000000000000) : CoL l yX6_told wsX6_told 0 0 D cy [] [.long (lN a)] [] (rv a) := by
  refine met_l (cc := cX6_told) (maxL := 2) (own := RX6) (lv := [(0, .long (lN a))]) (by decide) rfl rfl rfl (Nat.le_of_ble_eq_true rfl) (fun E e1 e2 e3 C hret => ?_)
  subst e1; subst e2; subst e3
  refine g_lload_n C dX6_told_0 rfl 1 rfl 0 rfl ?_
  refine g_ldc2 (v' := (lN 9000000000000000000)) C (C.1.2.2.2.2 (.constantLong RX6 185 (9000000000000000000)) (List.mem_of_getElem? (i := 1) rfl)) (by decide) dX6_told_1 4 rfl ?_
  refine g_lcmp_ne (X := ¬ a = 9000000000000000000) C dX6_told_4 rfl dX6_told_5 14 (by decide) 8 rfl (not_congr (pk_lEQ (by omega) (by omega))) ?_ ?_
  · intro h4
    refine g_lload_n C dX6_told_14 rfl 15 rfl 0 rfl ?_
    refine go_eq rfl (st' := [.long (rv a)]) (ws' := []) (by first | rfl | (rw [rv_of (by assumption)])) (by first | rfl | (rw [rv_of (by assumption)])) ?_
    exact hret _ _ dX6_told_15
  · intro h4
    have h4 : a = 9000000000000000000 := Decidable.not_not.mp h4
    refine g_ldc2 (v' := (rv 9000000000000000000)) C (C.1.2.2.2.2 (.constantLong RX6 187 (-1)) (List.mem_of_getElem? (i := 2) rfl)) (by decide) dX6_told_8 11 rfl ?_
    refine g_goto C dX6_told_11 15 (by decide) ?_
    have e_1 : a = 9000000000000000000 := by assumption
    refine go_eq rfl (st' := [.long (rv a)]) (ws' := []) (by first | rfl | (simp only [e_1]; first | done | rfl) | (rw [rv_of (by assumption)])) (by first | rfl | (simp only [e_1]; first | done | rfl) | (rw [rv_of (by assumption)])) ?_
    exact hret _ _ dX6_told_15
set_option maxHeartbeats 4000000 in
set_option maxRecDepth 100000 in
theorem c_X6_placeOf (l : Launch) (D : va_G) (cy : Nat → ClassId) (w : Nat) (j : Nat) (hw : w < 2) : CoI l yX6_placeOf wsX6_placeOf 0 0 D cy [] [.int (nI w), .int (nI j)] [] (nI (if w = 0 then j else 5 + j)) := by
  refine met_i (cc := cX6_placeOf) (maxL := 2) (own := RX6) (lv := [(0, .int (nI w)), (1, .int (nI j))]) (by decide) rfl rfl rfl (Nat.le_of_ble_eq_true rfl) (fun E e1 e2 e3 C hret => ?_)
  subst e1; subst e2; subst e3
  refine g_iload_n C dX6_placeOf_0 rfl 1 rfl 0 rfl ?_
  refine g_if_ne (X := ¬ w = 0) C dX6_placeOf_1 8 (by decide) 4 rfl (not_congr (nI_eq0 (by omega))) ?_ ?_
  · intro h1
    refine g_iconst (v := nI 5) C dX6_placeOf_8 (by decide) 9 rfl ?_
    refine g_iload_n C dX6_placeOf_9 rfl 10 rfl 1 rfl ?_
    refine g_iadd (z := nI (5 + j)) C dX6_placeOf_10 11 rfl (nI_add _ _) ?_
    have e_1 : (if w = 0 then j else 5 + j) = (5 + j) := by first | rw [if_pos (by assumption)] | rw [if_neg (by assumption)]
    refine go_eq rfl (st' := [.int (nI (if w = 0 then j else 5 + j))]) (ws' := []) (by first | rfl | (simp only [e_1]; first | done | rfl)) (by first | rfl | (simp only [e_1]; first | done | rfl)) ?_
    exact hret _ _ dX6_placeOf_11
  · intro h1
    have h1 : w = 0 := Decidable.not_not.mp h1
    refine g_iload_n C dX6_placeOf_4 rfl 5 rfl 1 rfl ?_
    refine g_goto C dX6_placeOf_5 11 (by decide) ?_
    have e_2 : (if w = 0 then j else 5 + j) = j := by first | rw [if_pos (by assumption)] | rw [if_neg (by assumption)]
    refine go_eq rfl (st' := [.int (nI (if w = 0 then j else 5 + j))]) (ws' := []) (by first | rfl | (simp only [e_2]; first | done | rfl)) (by first | rfl | (simp only [e_2]; first | done | rfl)) ?_
    exact hret _ _ dX6_placeOf_11
set_option maxHeartbeats 4000000 in
set_option maxRecDepth 100000 in
theorem c_X6_sum (l : Launch) (D : va_G) (cy : Nat → ClassId) (a : Nat) (b : Nat) (ha : a ≤ 1000000000000000 ∨ a = 9000000000000000000) (hb : b ≤ 1000000000000000 ∨ b = 9000000000000000000) : CoL l yX6_sum wsX6_sum 1 23 D cy [] [.long (lN a), .long (lN b)] [] (lN (sm a b)) := by
  refine met_l (cc := cX6_sum) (maxL := 4) (own := RX6) (lv := [(0, .long (lN a)), (2, .long (lN b))]) (by decide) rfl rfl rfl (Nat.le_of_ble_eq_true rfl) (fun E e1 e2 e3 C hret => ?_)
  subst e1; subst e2; subst e3
  refine g_lload_n C dX6_sum_0 rfl 1 rfl 0 rfl ?_
  refine g_ldc2 (v' := (lN 9000000000000000000)) C (C.1.2.2.2.2 (.constantLong RX6 185 (9000000000000000000)) (List.mem_of_getElem? (i := 1) rfl)) (by decide) dX6_sum_1 4 rfl ?_
  refine g_lcmp_eq (X := a = 9000000000000000000) C dX6_sum_4 rfl dX6_sum_5 16 (by decide) 8 rfl (pk_lEQ (by omega) (by omega)) ?_ ?_
  · intro h4
    refine g_ldc2 (v' := (lN 9000000000000000000)) C (C.1.2.2.2.2 (.constantLong RX6 185 (9000000000000000000)) (List.mem_of_getElem? (i := 1) rfl)) (by decide) dX6_sum_16 19 rfl ?_
    have e_1 : (sm a b) = 9000000000000000000 := by simp only [sm]; first | rw [if_pos (Or.inl (by assumption))] | rw [if_pos (Or.inr (by assumption))] | rw [if_neg (by omega)]
    refine go_eq rfl (st' := [.long (lN (sm a b))]) (ws' := []) (by first | rfl | (simp only [e_1]; first | done | rfl)) (by first | rfl | (simp only [e_1]; first | done | rfl)) ?_
    exact hret _ _ dX6_sum_19
  · intro h4
    refine g_lload_n C dX6_sum_8 rfl 9 rfl 1 rfl ?_
    refine g_ldc2 (v' := (lN 9000000000000000000)) C (C.1.2.2.2.2 (.constantLong RX6 185 (9000000000000000000)) (List.mem_of_getElem? (i := 1) rfl)) (by decide) dX6_sum_9 12 rfl ?_
    refine g_lcmp_ne (X := ¬ b = 9000000000000000000) C dX6_sum_12 rfl dX6_sum_13 20 (by decide) 16 rfl (not_congr (pk_lEQ (by omega) (by omega))) ?_ ?_
    · intro h12
      refine g_ldc2 (v' := (lN 1000000000000000)) C (C.1.2.2.2.2 (.constantLong RX6 147 (1000000000000000)) (List.mem_of_getElem? (i := 2) rfl)) (by decide) dX6_sum_20 23 rfl ?_
      refine g_lload_n C dX6_sum_23 rfl 24 rfl 0 rfl ?_
      refine g_lload_n C dX6_sum_24 rfl 25 rfl 1 rfl ?_
      refine g_ladd (z := lN (a + b)) C dX6_sum_25 26 rfl (lN_add _ _) ?_
      refine g_minL C (List.mem_of_getElem? (i := 3) rfl) (List.mem_of_getElem? (i := 4) rfl) (List.mem_of_getElem? (i := 5) rfl) (List.mem_of_getElem? (i := 6) rfl) (by decide) (Nat.le_of_ble_eq_true rfl) ⟨Nat.zero_le _, Nat.zero_le _⟩ (by omega) (by omega) dX6_sum_26 29 rfl ?_
      have e_2 : (sm a b) = (min 1000000000000000 (a + b)) := by simp only [sm]; first | rw [if_pos (Or.inl (by assumption))] | rw [if_pos (Or.inr (by assumption))] | rw [if_neg (by omega)]
      refine go_eq rfl (st' := [.long (lN (sm a b))]) (ws' := []) (by first | rfl | (simp only [e_2]; first | done | rfl)) (by first | rfl | (simp only [e_2]; first | done | rfl)) ?_
      exact hret _ _ dX6_sum_29
    · intro h12
      have h12 : b = 9000000000000000000 := Decidable.not_not.mp h12
      refine g_ldc2 (v' := (lN 9000000000000000000)) C (C.1.2.2.2.2 (.constantLong RX6 185 (9000000000000000000)) (List.mem_of_getElem? (i := 1) rfl)) (by decide) dX6_sum_16 19 rfl ?_
      have e_3 : (sm a b) = 9000000000000000000 := by simp only [sm]; first | rw [if_pos (Or.inl (by assumption))] | rw [if_pos (Or.inr (by assumption))] | rw [if_neg (by omega)]
      refine go_eq rfl (st' := [.long (lN (sm a b))]) (ws' := []) (by first | rfl | (simp only [e_3]; first | done | rfl)) (by first | rfl | (simp only [e_3]; first | done | rfl)) ?_
      exact hret _ _ dX6_sum_19
set_option maxHeartbeats 4000000 in
set_option maxRecDepth 100000 in
theorem c_X4_isControl (l : Launch) (D : va_G) (cy : Nat → ClassId) (h0 : Nat) (n : Nat) (m : Nat) (z : Nat) (st : Nat) (qh : Nat) (qt : Nat) (qp : Nat) (qb : Nat) (p : Int32) (hn : n < 100) : CoI l yX4_isControl wsX4_isControl 0 0 D cy [ob h0 4 [.int (nI n), .int (nI m), .int (nI z), .int (nI st), .ref qh, .ref qt, .ref qp, .ref qb]] [.ref h0, .int p] [ob h0 4 [.int (nI n), .int (nI m), .int (nI z), .int (nI st), .ref qh, .ref qt, .ref qp, .ref qb]] (bI (inR p n)) := by
  refine met_z (cc := cX4_isControl) (maxL := 2) (own := RX4) (lv := [(0, .ref h0), (1, .int p)]) (by decide) rfl rfl rfl (Nat.le_of_ble_eq_true rfl) (fun E e1 e2 e3 C hret => ?_)
  subst e1; subst e2; subst e3
  have iX4 : ∀ w ∈ wsX40, w ∈ wsX4_isControl := fun _ h => List.mem_cons_of_mem _ (List.mem_append_right _ h)
  refine g_iload_n C dX4_isControl_0 rfl 1 rfl 1 rfl ?_
  refine g_if_lt (X := p < 0) C dX4_isControl_1 16 (by decide) 4 rfl (Iff.rfl) ?_ ?_
  · intro h1
    refine g_iconst (v := nI 0) C dX4_isControl_16 (by decide) 17 rfl ?_
    have e_1 : (inR p n) = false := by first | exact inR_lt (by assumption) | exact inR_ge (by omega) (by assumption) | exact inR_t (by omega) (by assumption) (by assumption)
    refine go_eq rfl (st' := [.int (bI (inR p n))]) (ws' := [ob h0 4 [.int (nI n), .int (nI m), .int (nI z), .int (nI st), .ref qh, .ref qt, .ref qp, .ref qb]]) (by first | rfl | (simp only [e_1]; first | done | rfl)) (by first | rfl | (simp only [e_1]; first | done | rfl)) ?_
    exact hret _ _ dX4_isControl_17
  · intro h1
    refine g_iload_n C dX4_isControl_4 rfl 5 rfl 1 rfl ?_
    refine g_aload_n C dX4_isControl_5 rfl 6 rfl 0 rfl ?_
    refine g_get C iX4 0 rfl rfl 0 (by decide) (C.1.2.2.2.2 (.fieldLink RX4 9 "StackRuns$Rules" "controls" "I") (List.mem_of_getElem? (i := 1) rfl)) rfl dX4_isControl_6 9 rfl ?_
    refine g_icmp_ge (X := (nI n) ≤ p) C dX4_isControl_9 16 (by decide) 12 rfl (Iff.rfl) ?_ ?_
    · intro h9
      refine g_iconst (v := nI 0) C dX4_isControl_16 (by decide) 17 rfl ?_
      have e_2 : (inR p n) = false := by first | exact inR_lt (by assumption) | exact inR_ge (by omega) (by assumption) | exact inR_t (by omega) (by assumption) (by assumption)
      refine go_eq rfl (st' := [.int (bI (inR p n))]) (ws' := [ob h0 4 [.int (nI n), .int (nI m), .int (nI z), .int (nI st), .ref qh, .ref qt, .ref qp, .ref qb]]) (by first | rfl | (simp only [e_2]; first | done | rfl)) (by first | rfl | (simp only [e_2]; first | done | rfl)) ?_
      exact hret _ _ dX4_isControl_17
    · intro h9
      refine g_iconst (v := nI 1) C dX4_isControl_12 (by decide) 13 rfl ?_
      refine g_goto C dX4_isControl_13 17 (by decide) ?_
      have e_3 : (inR p n) = true := by first | exact inR_lt (by assumption) | exact inR_ge (by omega) (by assumption) | exact inR_t (by omega) (by assumption) (by assumption)
      refine go_eq rfl (st' := [.int (bI (inR p n))]) (ws' := [ob h0 4 [.int (nI n), .int (nI m), .int (nI z), .int (nI st), .ref qh, .ref qt, .ref qp, .ref qb]]) (by first | rfl | (simp only [e_3]; first | done | rfl)) (by first | rfl | (simp only [e_3]; first | done | rfl)) ?_
      exact hret _ _ dX4_isControl_17
set_option maxHeartbeats 4000000 in
set_option maxRecDepth 100000 in
theorem c_X4_isSign (l : Launch) (D : va_G) (cy : Nat → ClassId) (h0 : Nat) (n : Nat) (m : Nat) (z : Nat) (st : Nat) (qh : Nat) (qt : Nat) (qp : Nat) (qb : Nat) (p : Int32) (hm : m < 100) : CoI l yX4_isSign wsX4_isSign 0 0 D cy [ob h0 4 [.int (nI n), .int (nI m), .int (nI z), .int (nI st), .ref qh, .ref qt, .ref qp, .ref qb]] [.ref h0, .int p] [ob h0 4 [.int (nI n), .int (nI m), .int (nI z), .int (nI st), .ref qh, .ref qt, .ref qp, .ref qb]] (bI (inR p m)) := by
  refine met_z (cc := cX4_isSign) (maxL := 2) (own := RX4) (lv := [(0, .ref h0), (1, .int p)]) (by decide) rfl rfl rfl (Nat.le_of_ble_eq_true rfl) (fun E e1 e2 e3 C hret => ?_)
  subst e1; subst e2; subst e3
  have iX4 : ∀ w ∈ wsX40, w ∈ wsX4_isSign := fun _ h => List.mem_cons_of_mem _ (List.mem_append_right _ h)
  refine g_iload_n C dX4_isSign_0 rfl 1 rfl 1 rfl ?_
  refine g_if_lt (X := p < 0) C dX4_isSign_1 16 (by decide) 4 rfl (Iff.rfl) ?_ ?_
  · intro h1
    refine g_iconst (v := nI 0) C dX4_isSign_16 (by decide) 17 rfl ?_
    have e_1 : (inR p m) = false := by first | exact inR_lt (by assumption) | exact inR_ge (by omega) (by assumption) | exact inR_t (by omega) (by assumption) (by assumption)
    refine go_eq rfl (st' := [.int (bI (inR p m))]) (ws' := [ob h0 4 [.int (nI n), .int (nI m), .int (nI z), .int (nI st), .ref qh, .ref qt, .ref qp, .ref qb]]) (by first | rfl | (simp only [e_1]; first | done | rfl)) (by first | rfl | (simp only [e_1]; first | done | rfl)) ?_
    exact hret _ _ dX4_isSign_17
  · intro h1
    refine g_iload_n C dX4_isSign_4 rfl 5 rfl 1 rfl ?_
    refine g_aload_n C dX4_isSign_5 rfl 6 rfl 0 rfl ?_
    refine g_get C iX4 0 rfl rfl 1 (by decide) (C.1.2.2.2.2 (.fieldLink RX4 15 "StackRuns$Rules" "alphabet" "I") (List.mem_of_getElem? (i := 1) rfl)) rfl dX4_isSign_6 9 rfl ?_
    refine g_icmp_ge (X := (nI m) ≤ p) C dX4_isSign_9 16 (by decide) 12 rfl (Iff.rfl) ?_ ?_
    · intro h9
      refine g_iconst (v := nI 0) C dX4_isSign_16 (by decide) 17 rfl ?_
      have e_2 : (inR p m) = false := by first | exact inR_lt (by assumption) | exact inR_ge (by omega) (by assumption) | exact inR_t (by omega) (by assumption) (by assumption)
      refine go_eq rfl (st' := [.int (bI (inR p m))]) (ws' := [ob h0 4 [.int (nI n), .int (nI m), .int (nI z), .int (nI st), .ref qh, .ref qt, .ref qp, .ref qb]]) (by first | rfl | (simp only [e_2]; first | done | rfl)) (by first | rfl | (simp only [e_2]; first | done | rfl)) ?_
      exact hret _ _ dX4_isSign_17
    · intro h9
      refine g_iconst (v := nI 1) C dX4_isSign_12 (by decide) 13 rfl ?_
      refine g_goto C dX4_isSign_13 17 (by decide) ?_
      have e_3 : (inR p m) = true := by first | exact inR_lt (by assumption) | exact inR_ge (by omega) (by assumption) | exact inR_t (by omega) (by assumption) (by assumption)
      refine go_eq rfl (st' := [.int (bI (inR p m))]) (ws' := [ob h0 4 [.int (nI n), .int (nI m), .int (nI z), .int (nI st), .ref qh, .ref qt, .ref qp, .ref qb]]) (by first | rfl | (simp only [e_3]; first | done | rfl)) (by first | rfl | (simp only [e_3]; first | done | rfl)) ?_
      exact hret _ _ dX4_isSign_17
set_option maxHeartbeats 4000000 in
set_option maxRecDepth 100000 in
theorem c_X4_restart (l : Launch) (D : va_G) (cy : Nat → ClassId) (h0 : Nat) (n : Nat) (m : Nat) (z : Nat) (st : Nat) (qh : Nat) (qt : Nat) (qp : Nat) (qb : Nat) (a : Nat) (b : Nat)  : CoV l yX4_restart wsX4_restart 0 0 D cy [ob h0 4 [.int (nI n), .int (nI m), .int (nI z), .int (nI st), .ref qh, .ref qt, .ref qp, .ref qb]] [.ref h0, .int (nI a), .int (nI b)] [ob h0 4 [.int (nI a), .int (nI b), .int (nI 0), .int (nI (st + 1)), .ref qh, .ref qt, .ref qp, .ref qb]] := by
  refine met_v (cc := cX4_restart) (maxL := 3) (own := RX4) (lv := [(0, .ref h0), (1, .int (nI a)), (2, .int (nI b))]) (by decide) rfl rfl rfl (Nat.le_of_ble_eq_true rfl) (fun E e1 e2 e3 C hret => ?_)
  subst e1; subst e2; subst e3
  have iX4 : ∀ w ∈ wsX40, w ∈ wsX4_restart := fun _ h => List.mem_cons_of_mem _ (List.mem_append_right _ h)
  refine g_aload_n C dX4_restart_0 rfl 1 rfl 0 rfl ?_
  refine g_iload_n C dX4_restart_1 rfl 2 rfl 1 rfl ?_
  refine g_put (ws' := [ob h0 4 [.int (nI a), .int (nI m), .int (nI z), .int (nI st), .ref qh, .ref qt, .ref qp, .ref qb]]) (ty := .int) C iX4 tyX4_ok nmX4 0 rfl rfl 0 (by decide) (C.1.2.2.2.2 (.fieldLink RX4 9 "StackRuns$Rules" "controls" "I") (List.mem_of_getElem? (i := 1) rfl)) rfl (by decide +kernel) rfl rfl (Nat.le_of_ble_eq_true rfl) dX4_restart_2 5 rfl rfl ?_
  refine g_aload_n C dX4_restart_5 rfl 6 rfl 0 rfl ?_
  refine g_iload_n C dX4_restart_6 rfl 7 rfl 2 rfl ?_
  refine g_put (ws' := [ob h0 4 [.int (nI a), .int (nI b), .int (nI z), .int (nI st), .ref qh, .ref qt, .ref qp, .ref qb]]) (ty := .int) C iX4 tyX4_ok nmX4 0 rfl rfl 1 (by decide) (C.1.2.2.2.2 (.fieldLink RX4 15 "StackRuns$Rules" "alphabet" "I") (List.mem_of_getElem? (i := 2) rfl)) rfl (by decide +kernel) rfl rfl (Nat.le_of_ble_eq_true rfl) dX4_restart_7 10 rfl rfl ?_
  refine g_aload_n C dX4_restart_10 rfl 11 rfl 0 rfl ?_
  refine g_iconst (v := nI 0) C dX4_restart_11 (by decide) 12 rfl ?_
  refine g_put (ws' := [ob h0 4 [.int (nI a), .int (nI b), .int (nI 0), .int (nI st), .ref qh, .ref qt, .ref qp, .ref qb]]) (ty := .int) C iX4 tyX4_ok nmX4 0 rfl rfl 2 (by decide) (C.1.2.2.2.2 (.fieldLink RX4 18 "StackRuns$Rules" "size" "I") (List.mem_of_getElem? (i := 3) rfl)) rfl (by decide +kernel) rfl rfl (Nat.le_of_ble_eq_true rfl) dX4_restart_12 15 rfl rfl ?_
  refine g_aload_n C dX4_restart_15 rfl 16 rfl 0 rfl ?_
  refine g_dup C dX4_restart_16 rfl 17 rfl ?_
  refine g_get C iX4 0 rfl rfl 3 (by decide) (C.1.2.2.2.2 (.fieldLink RX4 21 "StackRuns$Rules" "stamp" "I") (List.mem_of_getElem? (i := 4) rfl)) rfl dX4_restart_17 20 rfl ?_
  refine g_iconst (v := nI 1) C dX4_restart_20 (by decide) 21 rfl ?_
  refine g_iadd (z := nI (st + 1)) C dX4_restart_21 22 rfl (nI_add _ _) ?_
  refine g_put (ws' := [ob h0 4 [.int (nI a), .int (nI b), .int (nI 0), .int (nI (st + 1)), .ref qh, .ref qt, .ref qp, .ref qb]]) (ty := .int) C iX4 tyX4_ok nmX4 0 rfl rfl 3 (by decide) (C.1.2.2.2.2 (.fieldLink RX4 21 "StackRuns$Rules" "stamp" "I") (List.mem_of_getElem? (i := 4) rfl)) rfl (by decide +kernel) rfl rfl (Nat.le_of_ble_eq_true rfl) dX4_restart_22 25 rfl rfl ?_
  exact hret _ _ dX4_restart_25
set_option maxHeartbeats 4000000 in
set_option maxRecDepth 100000 in
theorem c_X4_add (l : Launch) (D : va_G) (cy : Nat → ClassId) (h0 : Nat) (n : Nat) (m : Nat) (z : Nat) (st : Nat) (qh : Nat) (qt : Nat) (qp : Nat) (qb : Nat) (Hd : Nat → Nat) (To : Nat → Nat) (Tp : Nat → Nat) (Bl : Nat → Nat) (f : Nat) (q : Nat) (a : Nat) (b : Nat) (hz : z < 30) : CoI l yX4_add wsX4_add 0 0 D cy [ob h0 4 [.int (nI n), .int (nI m), .int (nI z), .int (nI st), .ref qh, .ref qt, .ref qp, .ref qb], aN cy qh 30 Hd, aN cy qt 30 To, aO cy qp 30 Tp, aO cy qb 30 Bl] [.ref h0, .int (nI f), .int (nI q), .int (oI a), .int (oI b)] [ob h0 4 [.int (nI n), .int (nI m), .int (nI (z + 1)), .int (nI (st + 1)), .ref qh, .ref qt, .ref qp, .ref qb], aN cy qh 30 (up Hd z f), aN cy qt 30 (up To z q), aO cy qp 30 (up Tp z a), aO cy qb 30 (up Bl z b)] (nI z) := by
  refine met_i (cc := cX4_add) (maxL := 5) (own := RX4) (lv := [(0, .ref h0), (1, .int (nI f)), (2, .int (nI q)), (3, .int (oI a)), (4, .int (oI b))]) (by decide) rfl rfl rfl (Nat.le_of_ble_eq_true rfl) (fun E e1 e2 e3 C hret => ?_)
  subst e1; subst e2; subst e3
  have iX4 : ∀ w ∈ wsX40, w ∈ wsX4_add := fun _ h => List.mem_cons_of_mem _ (List.mem_append_right _ h)
  refine g_aload_n C dX4_add_0 rfl 1 rfl 0 rfl ?_
  refine g_get C iX4 0 rfl rfl 4 (by decide) (C.1.2.2.2.2 (.fieldLink RX4 24 "StackRuns$Rules" "head" "[I") (List.mem_of_getElem? (i := 1) rfl)) rfl dX4_add_1 4 rfl ?_
  refine g_aload_n C dX4_add_4 rfl 5 rfl 0 rfl ?_
  refine g_get C iX4 0 rfl rfl 2 (by decide) (C.1.2.2.2.2 (.fieldLink RX4 18 "StackRuns$Rules" "size" "I") (List.mem_of_getElem? (i := 2) rfl)) rfl dX4_add_5 8 rfl ?_
  refine g_iload_n C dX4_add_8 rfl 9 rfl 1 rfl ?_
  refine g_iast (ws' := [ob h0 4 [.int (nI n), .int (nI m), .int (nI z), .int (nI st), .ref qh, .ref qt, .ref qp, .ref qb], aN (eY E) qh 30 (up Hd z f), aN (eY E) qt 30 To, aO (eY E) qp 30 Tp, aO (eY E) qb 30 Bl]) (i := z) C 1 rfl (by omega) (by decide) dX4_add_9 10 rfl (upd_N _ _ _) rfl ?_
  refine g_aload_n C dX4_add_10 rfl 11 rfl 0 rfl ?_
  refine g_get C iX4 0 rfl rfl 5 (by decide) (C.1.2.2.2.2 (.fieldLink RX4 28 "StackRuns$Rules" "to" "[I") (List.mem_of_getElem? (i := 3) rfl)) rfl dX4_add_11 14 rfl ?_
  refine g_aload_n C dX4_add_14 rfl 15 rfl 0 rfl ?_
  refine g_get C iX4 0 rfl rfl 2 (by decide) (C.1.2.2.2.2 (.fieldLink RX4 18 "StackRuns$Rules" "size" "I") (List.mem_of_getElem? (i := 2) rfl)) rfl dX4_add_15 18 rfl ?_
  refine g_iload_n C dX4_add_18 rfl 19 rfl 2 rfl ?_
  refine g_iast (ws' := [ob h0 4 [.int (nI n), .int (nI m), .int (nI z), .int (nI st), .ref qh, .ref qt, .ref qp, .ref qb], aN (eY E) qh 30 (up Hd z f), aN (eY E) qt 30 (up To z q), aO (eY E) qp 30 Tp, aO (eY E) qb 30 Bl]) (i := z) C 2 rfl (by omega) (by decide) dX4_add_19 20 rfl (upd_N _ _ _) rfl ?_
  refine g_aload_n C dX4_add_20 rfl 21 rfl 0 rfl ?_
  refine g_get C iX4 0 rfl rfl 6 (by decide) (C.1.2.2.2.2 (.fieldLink RX4 31 "StackRuns$Rules" "top" "[I") (List.mem_of_getElem? (i := 4) rfl)) rfl dX4_add_21 24 rfl ?_
  refine g_aload_n C dX4_add_24 rfl 25 rfl 0 rfl ?_
  refine g_get C iX4 0 rfl rfl 2 (by decide) (C.1.2.2.2.2 (.fieldLink RX4 18 "StackRuns$Rules" "size" "I") (List.mem_of_getElem? (i := 2) rfl)) rfl dX4_add_25 28 rfl ?_
  refine g_iload_n C dX4_add_28 rfl 29 rfl 3 rfl ?_
  refine g_iast (ws' := [ob h0 4 [.int (nI n), .int (nI m), .int (nI z), .int (nI st), .ref qh, .ref qt, .ref qp, .ref qb], aN (eY E) qh 30 (up Hd z f), aN (eY E) qt 30 (up To z q), aO (eY E) qp 30 (up Tp z a), aO (eY E) qb 30 Bl]) (i := z) C 3 rfl (by omega) (by decide) dX4_add_29 30 rfl (upd_O _ _ _) rfl ?_
  refine g_aload_n C dX4_add_30 rfl 31 rfl 0 rfl ?_
  refine g_get C iX4 0 rfl rfl 7 (by decide) (C.1.2.2.2.2 (.fieldLink RX4 34 "StackRuns$Rules" "below" "[I") (List.mem_of_getElem? (i := 5) rfl)) rfl dX4_add_31 34 rfl ?_
  refine g_aload_n C dX4_add_34 rfl 35 rfl 0 rfl ?_
  refine g_get C iX4 0 rfl rfl 2 (by decide) (C.1.2.2.2.2 (.fieldLink RX4 18 "StackRuns$Rules" "size" "I") (List.mem_of_getElem? (i := 2) rfl)) rfl dX4_add_35 38 rfl ?_
  refine g_iload C dX4_add_38 40 rfl 4 rfl ?_
  refine g_iast (ws' := [ob h0 4 [.int (nI n), .int (nI m), .int (nI z), .int (nI st), .ref qh, .ref qt, .ref qp, .ref qb], aN (eY E) qh 30 (up Hd z f), aN (eY E) qt 30 (up To z q), aO (eY E) qp 30 (up Tp z a), aO (eY E) qb 30 (up Bl z b)]) (i := z) C 4 rfl (by omega) (by decide) dX4_add_40 41 rfl (upd_O _ _ _) rfl ?_
  refine g_aload_n C dX4_add_41 rfl 42 rfl 0 rfl ?_
  refine g_dup C dX4_add_42 rfl 43 rfl ?_
  refine g_get C iX4 0 rfl rfl 2 (by decide) (C.1.2.2.2.2 (.fieldLink RX4 18 "StackRuns$Rules" "size" "I") (List.mem_of_getElem? (i := 2) rfl)) rfl dX4_add_43 46 rfl ?_
  refine g_iconst (v := nI 1) C dX4_add_46 (by decide) 47 rfl ?_
  refine g_iadd (z := nI (z + 1)) C dX4_add_47 48 rfl (nI_add _ _) ?_
  refine g_put (ws' := [ob h0 4 [.int (nI n), .int (nI m), .int (nI (z + 1)), .int (nI st), .ref qh, .ref qt, .ref qp, .ref qb], aN (eY E) qh 30 (up Hd z f), aN (eY E) qt 30 (up To z q), aO (eY E) qp 30 (up Tp z a), aO (eY E) qb 30 (up Bl z b)]) (ty := .int) C iX4 tyX4_ok nmX4 0 rfl rfl 2 (by decide) (C.1.2.2.2.2 (.fieldLink RX4 18 "StackRuns$Rules" "size" "I") (List.mem_of_getElem? (i := 2) rfl)) rfl (by decide +kernel) rfl rfl (Nat.le_of_ble_eq_true rfl) dX4_add_48 51 rfl rfl ?_
  refine g_aload_n C dX4_add_51 rfl 52 rfl 0 rfl ?_
  refine g_dup C dX4_add_52 rfl 53 rfl ?_
  refine g_get C iX4 0 rfl rfl 3 (by decide) (C.1.2.2.2.2 (.fieldLink RX4 21 "StackRuns$Rules" "stamp" "I") (List.mem_of_getElem? (i := 6) rfl)) rfl dX4_add_53 56 rfl ?_
  refine g_iconst (v := nI 1) C dX4_add_56 (by decide) 57 rfl ?_
  refine g_iadd (z := nI (st + 1)) C dX4_add_57 58 rfl (nI_add _ _) ?_
  refine g_put (ws' := [ob h0 4 [.int (nI n), .int (nI m), .int (nI (z + 1)), .int (nI (st + 1)), .ref qh, .ref qt, .ref qp, .ref qb], aN (eY E) qh 30 (up Hd z f), aN (eY E) qt 30 (up To z q), aO (eY E) qp 30 (up Tp z a), aO (eY E) qb 30 (up Bl z b)]) (ty := .int) C iX4 tyX4_ok nmX4 0 rfl rfl 3 (by decide) (C.1.2.2.2.2 (.fieldLink RX4 21 "StackRuns$Rules" "stamp" "I") (List.mem_of_getElem? (i := 6) rfl)) rfl (by decide +kernel) rfl rfl (Nat.le_of_ble_eq_true rfl) dX4_add_58 61 rfl rfl ?_
  refine g_aload_n C dX4_add_61 rfl 62 rfl 0 rfl ?_
  refine g_get C iX4 0 rfl rfl 2 (by decide) (C.1.2.2.2.2 (.fieldLink RX4 18 "StackRuns$Rules" "size" "I") (List.mem_of_getElem? (i := 2) rfl)) rfl dX4_add_62 65 rfl ?_
  refine g_iconst (v := nI 1) C dX4_add_65 (by decide) 66 rfl ?_
  refine g_isub (z := nI ((z + 1) - 1)) C dX4_add_66 67 rfl (pk_sub (by omega)) ?_
  have e_1 : z = ((z + 1) - 1) := by omega
  refine go_eq rfl (st' := [.int (nI z)]) (ws' := [ob h0 4 [.int (nI n), .int (nI m), .int (nI (z + 1)), .int (nI (st + 1)), .ref qh, .ref qt, .ref qp, .ref qb], aN (eY E) qh 30 (up Hd z f), aN (eY E) qt 30 (up To z q), aO (eY E) qp 30 (up Tp z a), aO (eY E) qb 30 (up Bl z b)]) (by first | rfl | (simp only [e_1]; first | done | rfl)) (by first | rfl | (simp only [e_1]; first | done | rfl)) ?_
  exact hret _ _ dX4_add_67
set_option maxHeartbeats 4000000 in
set_option maxRecDepth 100000 in
theorem c_X4_dropNewest (l : Launch) (D : va_G) (cy : Nat → ClassId) (h0 : Nat) (n : Nat) (m : Nat) (z : Nat) (st : Nat) (qh : Nat) (qt : Nat) (qp : Nat) (qb : Nat) (hz : 0 < z) : CoI l yX4_dropNewest wsX4_dropNewest 0 0 D cy [ob h0 4 [.int (nI n), .int (nI m), .int (nI z), .int (nI st), .ref qh, .ref qt, .ref qp, .ref qb]] [.ref h0] [ob h0 4 [.int (nI n), .int (nI m), .int (nI (z - 1)), .int (nI (st + 1)), .ref qh, .ref qt, .ref qp, .ref qb]] (nI (z - 1)) := by
  refine met_i (cc := cX4_dropNewest) (maxL := 1) (own := RX4) (lv := [(0, .ref h0)]) (by decide) rfl rfl rfl (Nat.le_of_ble_eq_true rfl) (fun E e1 e2 e3 C hret => ?_)
  subst e1; subst e2; subst e3
  have iX4 : ∀ w ∈ wsX40, w ∈ wsX4_dropNewest := fun _ h => List.mem_cons_of_mem _ (List.mem_append_right _ h)
  refine g_aload_n C dX4_dropNewest_0 rfl 1 rfl 0 rfl ?_
  refine g_dup C dX4_dropNewest_1 rfl 2 rfl ?_
  refine g_get C iX4 0 rfl rfl 2 (by decide) (C.1.2.2.2.2 (.fieldLink RX4 18 "StackRuns$Rules" "size" "I") (List.mem_of_getElem? (i := 1) rfl)) rfl dX4_dropNewest_2 5 rfl ?_
  refine g_iconst (v := nI 1) C dX4_dropNewest_5 (by decide) 6 rfl ?_
  refine g_isub (z := nI (z - 1)) C dX4_dropNewest_6 7 rfl (pk_sub (by omega)) ?_
  refine g_put (ws' := [ob h0 4 [.int (nI n), .int (nI m), .int (nI (z - 1)), .int (nI st), .ref qh, .ref qt, .ref qp, .ref qb]]) (ty := .int) C iX4 tyX4_ok nmX4 0 rfl rfl 2 (by decide) (C.1.2.2.2.2 (.fieldLink RX4 18 "StackRuns$Rules" "size" "I") (List.mem_of_getElem? (i := 1) rfl)) rfl (by decide +kernel) rfl rfl (Nat.le_of_ble_eq_true rfl) dX4_dropNewest_7 10 rfl rfl ?_
  refine g_aload_n C dX4_dropNewest_10 rfl 11 rfl 0 rfl ?_
  refine g_dup C dX4_dropNewest_11 rfl 12 rfl ?_
  refine g_get C iX4 0 rfl rfl 3 (by decide) (C.1.2.2.2.2 (.fieldLink RX4 21 "StackRuns$Rules" "stamp" "I") (List.mem_of_getElem? (i := 2) rfl)) rfl dX4_dropNewest_12 15 rfl ?_
  refine g_iconst (v := nI 1) C dX4_dropNewest_15 (by decide) 16 rfl ?_
  refine g_iadd (z := nI (st + 1)) C dX4_dropNewest_16 17 rfl (nI_add _ _) ?_
  refine g_put (ws' := [ob h0 4 [.int (nI n), .int (nI m), .int (nI (z - 1)), .int (nI (st + 1)), .ref qh, .ref qt, .ref qp, .ref qb]]) (ty := .int) C iX4 tyX4_ok nmX4 0 rfl rfl 3 (by decide) (C.1.2.2.2.2 (.fieldLink RX4 21 "StackRuns$Rules" "stamp" "I") (List.mem_of_getElem? (i := 2) rfl)) rfl (by decide +kernel) rfl rfl (Nat.le_of_ble_eq_true rfl) dX4_dropNewest_17 20 rfl rfl ?_
  refine g_aload_n C dX4_dropNewest_20 rfl 21 rfl 0 rfl ?_
  refine g_get C iX4 0 rfl rfl 2 (by decide) (C.1.2.2.2.2 (.fieldLink RX4 18 "StackRuns$Rules" "size" "I") (List.mem_of_getElem? (i := 1) rfl)) rfl dX4_dropNewest_21 24 rfl ?_
  exact hret _ _ dX4_dropNewest_24
set_option maxHeartbeats 4000000 in
set_option maxRecDepth 100000 in
theorem c_X4_matching (l : Launch) (D : va_G) (cy : Nat → ClassId) (h0 : Nat) (n : Nat) (m : Nat) (z : Nat) (st : Nat) (qh : Nat) (qt : Nat) (qp : Nat) (qb : Nat) (Hd : Nat → Nat) (w : Int32) (u : Nat) (hz : z ≤ 30) (hw : ∀ r, (nI (Hd r) = w ↔ Hd r = u)) : CoI l yX4_matching wsX4_matching 0 0 D cy [ob h0 4 [.int (nI n), .int (nI m), .int (nI z), .int (nI st), .ref qh, .ref qt, .ref qp, .ref qb], aN cy qh 30 Hd] [.ref h0, .int w] [ob h0 4 [.int (nI n), .int (nI m), .int (nI z), .int (nI st), .ref qh, .ref qt, .ref qp, .ref qb], aN cy qh 30 Hd] (nI (matchF Hd u z)) := by
  refine met_i (cc := cX4_matching) (maxL := 4) (own := RX4) (lv := [(0, .ref h0), (1, .int w)]) (by decide) rfl rfl rfl (Nat.le_of_ble_eq_true rfl) (fun E e1 e2 e3 C hret => ?_)
  subst e1; subst e2; subst e3
  have iX4 : ∀ w ∈ wsX40, w ∈ wsX4_matching := fun _ h => List.mem_cons_of_mem _ (List.mem_append_right _ h)
  refine g_iconst (v := nI 0) C dX4_matching_0 (by decide) 1 rfl ?_
  refine g_istore_n (lv' := [(2, .int (nI 0)), (0, .ref h0), (1, .int w)]) C dX4_matching_1 rfl 2 rfl (by decide) rfl ?_
  refine g_iconst (v := nI 0) C dX4_matching_2 (by decide) 3 rfl ?_
  refine g_istore_n (lv' := [(3, .int (nI 0)), (2, .int (nI 0)), (0, .ref h0), (1, .int w)]) C dX4_matching_3 rfl 4 rfl (by decide) rfl ?_
  have L4 : ∀ i, i ≤ z → Go E 0 0 4 [(3, .int (nI i)), (2, .int (nI (matchF Hd u i))), (0, .ref h0), (1, .int w)] [] [ob h0 4 [.int (nI n), .int (nI m), .int (nI z), .int (nI st), .ref qh, .ref qt, .ref qp, .ref qb], aN (eY E) qh 30 Hd] := by
    refine go_for z (fun i => Go E 0 0 4 [(3, .int (nI i)), (2, .int (nI (matchF Hd u i))), (0, .ref h0), (1, .int w)] [] [ob h0 4 [.int (nI n), .int (nI m), .int (nI z), .int (nI st), .ref qh, .ref qt, .ref qp, .ref qb], aN (eY E) qh 30 Hd]) (fun i hi_i ih_i => ?_)
    refine g_iload_n C dX4_matching_4 rfl 5 rfl 0 rfl ?_
    refine g_aload_n C dX4_matching_5 rfl 6 rfl 2 rfl ?_
    refine g_get C iX4 0 rfl rfl 2 (by decide) (C.1.2.2.2.2 (.fieldLink RX4 18 "StackRuns$Rules" "size" "I") (List.mem_of_getElem? (i := 1) rfl)) rfl dX4_matching_6 9 rfl ?_
    refine g_icmp_ge (X := z ≤ i) C dX4_matching_9 31 (by decide) 12 rfl (nI_leI (by have := matchF_le Hd u i; omega) (by have := matchF_le Hd u i; omega)) ?_ ?_
    · intro h9
      refine g_iload_n C dX4_matching_31 rfl 32 rfl 1 rfl ?_
      have e_1 : (matchF Hd u z) = (matchF Hd u i) := by (first | rfl | (have e : i = z := by omega); rw [e])
      refine go_eq rfl (st' := [.int (nI (matchF Hd u z))]) (ws' := [ob h0 4 [.int (nI n), .int (nI m), .int (nI z), .int (nI st), .ref qh, .ref qt, .ref qp, .ref qb], aN (eY E) qh 30 Hd]) (by first | rfl | (simp only [e_1]; first | done | rfl)) (by first | rfl | (simp only [e_1]; first | done | rfl)) ?_
      exact hret _ _ dX4_matching_32
    · intro h9
      refine g_aload_n C dX4_matching_12 rfl 13 rfl 2 rfl ?_
      refine g_get C iX4 0 rfl rfl 4 (by decide) (C.1.2.2.2.2 (.fieldLink RX4 24 "StackRuns$Rules" "head" "[I") (List.mem_of_getElem? (i := 2) rfl)) rfl dX4_matching_13 16 rfl ?_
      refine g_iload_n C dX4_matching_16 rfl 17 rfl 0 rfl ?_
      refine g_iald (i := i) C 1 rfl (by omega) (by decide) dX4_matching_17 18 rfl ?_
      refine g_iload_n C dX4_matching_18 rfl 19 rfl 3 rfl ?_
      refine g_icmp_ne (X := ¬ Hd i = u) C dX4_matching_19 25 (by decide) 22 rfl (not_congr (hw i)) ?_ ?_
      · intro h19
        refine g_iinc (lv' := [(3, .int (nI (i + 1))), (2, .int (nI (matchF Hd u i))), (0, .ref h0), (1, .int w)]) C dX4_matching_25 28 rfl 0 rfl (by decide) rfl ?_
        refine g_goto C dX4_matching_28 4 (by decide) ?_
        have e_2 : (matchF Hd u (i + 1)) = (matchF Hd u i) := by simp [matchF, *]
        refine go_eq (lv' := [(3, .int (nI (i + 1))), (2, .int (nI (matchF Hd u (i + 1)))), (0, .ref h0), (1, .int w)]) (ws' := [ob h0 4 [.int (nI n), .int (nI m), .int (nI z), .int (nI st), .ref qh, .ref qt, .ref qp, .ref qb], aN (eY E) qh 30 Hd]) (by first | rfl | (simp only [e_2]; first | done | rfl)) rfl (by first | rfl | (simp only [e_2]; first | done | rfl)) ?_
        exact ih_i (by omega)
      · intro h19
        have h19 : Hd i = u := Decidable.not_not.mp h19
        refine g_iinc (lv' := [(2, .int (nI ((matchF Hd u i) + 1))), (3, .int (nI i)), (0, .ref h0), (1, .int w)]) C dX4_matching_22 25 rfl 1 rfl (by decide) rfl ?_
        refine g_iinc (lv' := [(3, .int (nI (i + 1))), (2, .int (nI ((matchF Hd u i) + 1))), (0, .ref h0), (1, .int w)]) C dX4_matching_25 28 rfl 1 rfl (by decide) rfl ?_
        refine g_goto C dX4_matching_28 4 (by decide) ?_
        have e_3 : (matchF Hd u (i + 1)) = ((matchF Hd u i) + 1) := by simp [matchF, *]
        refine go_eq (lv' := [(3, .int (nI (i + 1))), (2, .int (nI (matchF Hd u (i + 1)))), (0, .ref h0), (1, .int w)]) (ws' := [ob h0 4 [.int (nI n), .int (nI m), .int (nI z), .int (nI st), .ref qh, .ref qt, .ref qp, .ref qb], aN (eY E) qh 30 Hd]) (by first | rfl | (simp only [e_3]; first | done | rfl)) rfl (by first | rfl | (simp only [e_3]; first | done | rfl)) ?_
        exact ih_i (by omega)
  have e_4 : (matchF Hd u 0) = 0 := by rfl
  refine go_eq (lv' := [(3, .int (nI 0)), (2, .int (nI (matchF Hd u 0))), (0, .ref h0), (1, .int w)]) (ws' := [ob h0 4 [.int (nI n), .int (nI m), .int (nI z), .int (nI st), .ref qh, .ref qt, .ref qp, .ref qb], aN (eY E) qh 30 Hd]) (by first | rfl | (simp only [e_4]; first | done | rfl)) rfl (by first | rfl | (simp only [e_4]; first | done | rfl)) ?_
  exact L4 0 (by omega)
