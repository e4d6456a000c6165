set_option maxHeartbeats 4000000 in
set_option maxRecDepth 100000 in
theorem c_X7_isIn (l : Launch) (D : va_G) (cy : Nat → ClassId) (v : Int64) (lo : Int64) (hi : Int64)  : CoI l yX7_isIn wsX7_isIn 0 0 D cy [] [.long v, .long lo, .long hi] [] (bI (decide (lo ≤ v ∧ v ≤ hi))) := by
  refine met_z (cc := cX7_isIn) (maxL := 6) (own := RX7) (lv := [(0, .long v), (2, .long lo), (4, .long hi)]) (by decide) rfl rfl rfl (Nat.le_of_ble_eq_true rfl) (fun E e1 e2 e3 C hret => ?_)
  subst e1; subst e2; subst e3
  refine g_lload_n C dX7_isIn_0 rfl 1 rfl 0 rfl ?_
  refine g_lload_n C dX7_isIn_1 rfl 2 rfl 1 rfl ?_
  refine g_lcmp_lt (X := v < lo) C dX7_isIn_2 rfl dX7_isIn_3 17 (by decide) 6 rfl (Iff.rfl) ?_ ?_
  · intro h2
    refine g_iconst (v := nI 0) C dX7_isIn_17 (by decide) 18 rfl ?_
    have e_1 : (decide (lo ≤ v ∧ v ≤ hi)) = false := by first | with_reducible rfl | (first | (simp only [decide_eq_false_iff_not]; exact isin_1 h2) | (simp only [decide_eq_false_iff_not]; exact isin_2 h9) | (simp only [decide_eq_true_eq]; exact isin_3 h2 h9))
    refine go_eq rfl (st' := [.int (bI (decide (lo ≤ v ∧ v ≤ hi)))]) (ws' := []) (by first | with_reducible rfl | (simp only [e_1, oI_s, oI_0, bI_1, bI_0, and_self, reduceIte]; done)) (by first | with_reducible rfl | (simp only [e_1, oI_s, oI_0, bI_1, bI_0, and_self, reduceIte]; done)) ?_
    exact hret _ _ dX7_isIn_18
  · intro h2
    refine g_lload_n C dX7_isIn_6 rfl 7 rfl 0 rfl ?_
    refine g_lload C dX7_isIn_7 9 rfl 2 rfl ?_
    refine g_lcmp_gt (X := hi < v) C dX7_isIn_9 rfl dX7_isIn_10 17 (by decide) 13 rfl (Iff.rfl) ?_ ?_
    · intro h9
      refine g_iconst (v := nI 0) C dX7_isIn_17 (by decide) 18 rfl ?_
      have e_2 : (decide (lo ≤ v ∧ v ≤ hi)) = false := by first | with_reducible rfl | (first | (simp only [decide_eq_false_iff_not]; exact isin_1 h2) | (simp only [decide_eq_false_iff_not]; exact isin_2 h9) | (simp only [decide_eq_true_eq]; exact isin_3 h2 h9))
      refine go_eq rfl (st' := [.int (bI (decide (lo ≤ v ∧ v ≤ hi)))]) (ws' := []) (by first | with_reducible rfl | (simp only [e_2, oI_s, oI_0, bI_1, bI_0, and_self, reduceIte]; done)) (by first | with_reducible rfl | (simp only [e_2, oI_s, oI_0, bI_1, bI_0, and_self, reduceIte]; done)) ?_
      exact hret _ _ dX7_isIn_18
    · intro h9
      refine g_iconst (v := nI 1) C dX7_isIn_13 (by decide) 14 rfl ?_
      refine g_goto C dX7_isIn_14 18 (by decide) ?_
      have e_3 : (decide (lo ≤ v ∧ v ≤ hi)) = true := by first | with_reducible rfl | (first | (simp only [decide_eq_false_iff_not]; exact isin_1 h2) | (simp only [decide_eq_false_iff_not]; exact isin_2 h9) | (simp only [decide_eq_true_eq]; exact isin_3 h2 h9))
      refine go_eq rfl (st' := [.int (bI (decide (lo ≤ v ∧ v ≤ hi)))]) (ws' := []) (by first | with_reducible rfl | (simp only [e_3, oI_s, oI_0, bI_1, bI_0, and_self, reduceIte]; done)) (by first | with_reducible rfl | (simp only [e_3, oI_s, oI_0, bI_1, bI_0, and_self, reduceIte]; done)) ?_
      exact hret _ _ dX7_isIn_18
set_option maxHeartbeats 4000000 in
set_option maxRecDepth 100000 in
theorem c_X7_isControl (l : Launch) (D : va_G) (cy : Nat → ClassId) (o7 : Nat) (n : Nat) (m : Nat) (z : Nat) (uP : Nat) (uS : Nat) (uQ : Nat) (uA : Nat) (uB : Nat) (c : Nat) (uK : Nat) (h : Nat) (ns : Nat) (uM : Nat) (uF : Nat) (uY : Nat) (uT : Nat) (uL : Nat) (uC : Nat) (uX : Nat) (nf : Nat) (uI : Nat) (uR : Nat) (uW : Nat) (uH : Nat) (uG : Nat) (x : Int32) (hv : n ≤ 100) : CoI l yX7_isControl wsX7_isControl 1 25 D cy [ob o7 7 [.int (nI n), .int (nI m), .int (nI z), .ref uP, .ref uS, .ref uQ, .ref uA, .ref uB, .int (nI c), .ref uK, .int (nI h), .int (nI ns), .ref uM, .ref uF, .ref uY, .ref uT, .ref uL, .ref uC, .ref uX, .int (oI nf), .ref uI, .ref uR, .ref uW, .ref uH, .ref uG]] [.ref o7, .int x] [ob o7 7 [.int (nI n), .int (nI m), .int (nI z), .ref uP, .ref uS, .ref uQ, .ref uA, .ref uB, .int (nI c), .ref uK, .int (nI h), .int (nI ns), .ref uM, .ref uF, .ref uY, .ref uT, .ref uL, .ref uC, .ref uX, .int (oI nf), .ref uI, .ref uR, .ref uW, .ref uH, .ref uG]] (bI (inR x n)) := by
  refine met_z (cc := cX7_isControl) (maxL := 2) (own := RX7) (lv := [(0, .ref o7), (1, .int x)]) (by decide) rfl rfl rfl (Nat.le_of_ble_eq_true rfl) (fun E e1 e2 e3 C hret => ?_)
  subst e1; subst e2; subst e3
  have iX7 : ∀ w ∈ wsX70, w ∈ wsX7_isControl := fun _ h => List.mem_cons_of_mem _ (List.mem_append_right _ h)
  refine g_iload_n C dX7_isControl_0 rfl 1 rfl 1 rfl ?_
  refine g_i2l (v := (x).toInt64) C dX7_isControl_1 rfl 2 rfl ?_
  refine g_lconst (v := lN 0) C dX7_isControl_2 (by decide) 3 rfl ?_
  refine g_aload_n C dX7_isControl_3 rfl 4 rfl 0 rfl ?_
  refine g_get C iX7 0 rfl rfl 0 (by decide) (C.1.2.2.2.2 (.fieldLink RX7 7 "StackRunsModel" "controls" "I") (List.mem_of_getElem? (i := 1) rfl)) rfl dX7_isControl_4 7 rfl ?_
  refine g_iconst (v := nI 1) C dX7_isControl_7 (by decide) 8 rfl ?_
  refine g_isub (z := (oI n)) C dX7_isControl_8 9 rfl (by exact oI_sub n) ?_
  refine g_i2l (v := ((oI n)).toInt64) C dX7_isControl_9 rfl 10 rfl ?_
  refine g_cSi (ws2 := [ob o7 7 [.int (nI n), .int (nI m), .int (nI z), .ref uP, .ref uS, .ref uQ, .ref uA, .ref uB, .int (nI c), .ref uK, .int (nI h), .int (nI ns), .ref uM, .ref uF, .ref uY, .ref uT, .ref uL, .ref uC, .ref uX, .int (oI nf), .ref uI, .ref uR, .ref uW, .ref uH, .ref uG]]) (As := [.long ((x).toInt64), .long (lN 0), .long (((oI n)).toInt64)]) (st := []) (wsc := []) (wr := [ob o7 7 [.int (nI n), .int (nI m), .int (nI z), .ref uP, .ref uS, .ref uQ, .ref uA, .ref uB, .int (nI c), .ref uK, .int (nI h), .int (nI ns), .ref uM, .ref uF, .ref uY, .ref uT, .ref uL, .ref uC, .ref uX, .int (oI nf), .ref uI, .ref uR, .ref uW, .ref uH, .ref uG]]) C (c_X7_isIn (eL E) (eD E) (eY E) ((x).toInt64) (lN 0) (((oI n)).toInt64) ) 3 gX7_isControl_X7_isIn rfl (by decide +kernel) (by decide) ⟨Nat.zero_le _, Nat.zero_le _⟩ rfl rfl (Nat.le_of_ble_eq_true rfl) [] [0] [0] rfl rfl (by decide) (by decide) rfl (by decide) dX7_isControl_10 13 rfl ?_
  have e_1 : (inR x n) = (decide ((lN 0) ≤ ((x).toInt64) ∧ ((x).toInt64) ≤ (((oI n)).toInt64))) := by first | with_reducible rfl | (exact isin_R (by omega))
  refine go_eq rfl (st' := [.int (bI (inR x n))]) (ws' := [ob o7 7 [.int (nI n), .int (nI m), .int (nI z), .ref uP, .ref uS, .ref uQ, .ref uA, .ref uB, .int (nI c), .ref uK, .int (nI h), .int (nI ns), .ref uM, .ref uF, .ref uY, .ref uT, .ref uL, .ref uC, .ref uX, .int (oI nf), .ref uI, .ref uR, .ref uW, .ref uH, .ref uG]]) (by first | with_reducible rfl | (simp only [e_1, oI_s, oI_0, bI_1, bI_0, and_self, reduceIte]; done)) (by first | with_reducible rfl | (simp only [e_1, oI_s, oI_0, bI_1, bI_0, and_self, reduceIte]; done)) ?_
  exact hret _ _ dX7_isControl_13
set_option maxHeartbeats 4000000 in
set_option maxRecDepth 100000 in
theorem c_X7_isSign (l : Launch) (D : va_G) (cy : Nat → ClassId) (o7 : Nat) (n : Nat) (m : Nat) (z : Nat) (uP : Nat) (uS : Nat) (uQ : Nat) (uA : Nat) (uB : Nat) (c : Nat) (uK : Nat) (h : Nat) (ns : Nat) (uM : Nat) (uF : Nat) (uY : Nat) (uT : Nat) (uL : Nat) (uC : Nat) (uX : Nat) (nf : Nat) (uI : Nat) (uR : Nat) (uW : Nat) (uH : Nat) (uG : Nat) (x : Int32) (hv : m ≤ 100) : CoI l yX7_isSign wsX7_isSign 1 25 D cy [ob o7 7 [.int (nI n), .int (nI m), .int (nI z), .ref uP, .ref uS, .ref uQ, .ref uA, .ref uB, .int (nI c), .ref uK, .int (nI h), .int (nI ns), .ref uM, .ref uF, .ref uY, .ref uT, .ref uL, .ref uC, .ref uX, .int (oI nf), .ref uI, .ref uR, .ref uW, .ref uH, .ref uG]] [.ref o7, .int x] [ob o7 7 [.int (nI n), .int (nI m), .int (nI z), .ref uP, .ref uS, .ref uQ, .ref uA, .ref uB, .int (nI c), .ref uK, .int (nI h), .int (nI ns), .ref uM, .ref uF, .ref uY, .ref uT, .ref uL, .ref uC, .ref uX, .int (oI nf), .ref uI, .ref uR, .ref uW, .ref uH, .ref uG]] (bI (inR x m)) := by
  refine met_z (cc := cX7_isSign) (maxL := 2) (own := RX7) (lv := [(0, .ref o7), (1, .int x)]) (by decide) rfl rfl rfl (Nat.le_of_ble_eq_true rfl) (fun E e1 e2 e3 C hret => ?_)
  subst e1; subst e2; subst e3
  have iX7 : ∀ w ∈ wsX70, w ∈ wsX7_isSign := fun _ h => List.mem_cons_of_mem _ (List.mem_append_right _ h)
  refine g_iload_n C dX7_isSign_0 rfl 1 rfl 1 rfl ?_
  refine g_i2l (v := (x).toInt64) C dX7_isSign_1 rfl 2 rfl ?_
  refine g_lconst (v := lN 0) C dX7_isSign_2 (by decide) 3 rfl ?_
  refine g_aload_n C dX7_isSign_3 rfl 4 rfl 0 rfl ?_
  refine g_get C iX7 0 rfl rfl 1 (by decide) (C.1.2.2.2.2 (.fieldLink RX7 13 "StackRunsModel" "signs" "I") (List.mem_of_getElem? (i := 1) rfl)) rfl dX7_isSign_4 7 rfl ?_
  refine g_iconst (v := nI 1) C dX7_isSign_7 (by decide) 8 rfl ?_
  refine g_isub (z := (oI m)) C dX7_isSign_8 9 rfl (by exact oI_sub m) ?_
  refine g_i2l (v := ((oI m)).toInt64) C dX7_isSign_9 rfl 10 rfl ?_
  refine g_cSi (ws2 := [ob o7 7 [.int (nI n), .int (nI m), .int (nI z), .ref uP, .ref uS, .ref uQ, .ref uA, .ref uB, .int (nI c), .ref uK, .int (nI h), .int (nI ns), .ref uM, .ref uF, .ref uY, .ref uT, .ref uL, .ref uC, .ref uX, .int (oI nf), .ref uI, .ref uR, .ref uW, .ref uH, .ref uG]]) (As := [.long ((x).toInt64), .long (lN 0), .long (((oI m)).toInt64)]) (st := []) (wsc := []) (wr := [ob o7 7 [.int (nI n), .int (nI m), .int (nI z), .ref uP, .ref uS, .ref uQ, .ref uA, .ref uB, .int (nI c), .ref uK, .int (nI h), .int (nI ns), .ref uM, .ref uF, .ref uY, .ref uT, .ref uL, .ref uC, .ref uX, .int (oI nf), .ref uI, .ref uR, .ref uW, .ref uH, .ref uG]]) C (c_X7_isIn (eL E) (eD E) (eY E) ((x).toInt64) (lN 0) (((oI m)).toInt64) ) 3 gX7_isSign_X7_isIn rfl (by decide +kernel) (by decide) ⟨Nat.zero_le _, Nat.zero_le _⟩ rfl rfl (Nat.le_of_ble_eq_true rfl) [] [0] [0] rfl rfl (by decide) (by decide) rfl (by decide) dX7_isSign_10 13 rfl ?_
  have e_1 : (inR x m) = (decide ((lN 0) ≤ ((x).toInt64) ∧ ((x).toInt64) ≤ (((oI m)).toInt64))) := by first | with_reducible rfl | (exact isin_R (by omega))
  refine go_eq rfl (st' := [.int (bI (inR x m))]) (ws' := [ob o7 7 [.int (nI n), .int (nI m), .int (nI z), .ref uP, .ref uS, .ref uQ, .ref uA, .ref uB, .int (nI c), .ref uK, .int (nI h), .int (nI ns), .ref uM, .ref uF, .ref uY, .ref uT, .ref uL, .ref uC, .ref uX, .int (oI nf), .ref uI, .ref uR, .ref uW, .ref uH, .ref uG]]) (by first | with_reducible rfl | (simp only [e_1, oI_s, oI_0, bI_1, bI_0, and_self, reduceIte]; done)) (by first | with_reducible rfl | (simp only [e_1, oI_s, oI_0, bI_1, bI_0, and_self, reduceIte]; done)) ?_
  exact hret _ _ dX7_isSign_13
set_option maxHeartbeats 4000000 in
set_option maxRecDepth 100000 in
theorem c_X7_isSet (l : Launch) (D : va_G) (cy : Nat → ClassId) (o7 : Nat) (n : Nat) (m : Nat) (z : Nat) (uP : Nat) (uS : Nat) (uQ : Nat) (uA : Nat) (uB : Nat) (c : Nat) (uK : Nat) (h : Nat) (ns : Nat) (uM : Nat) (uF : Nat) (uY : Nat) (uT : Nat) (uL : Nat) (uC : Nat) (uX : Nat) (nf : Nat) (uI : Nat) (uR : Nat) (uW : Nat) (uH : Nat) (uG : Nat) (x : Int32) (hv : ns ≤ 100) : CoI l yX7_isSet wsX7_isSet 1 25 D cy [ob o7 7 [.int (nI n), .int (nI m), .int (nI z), .ref uP, .ref uS, .ref uQ, .ref uA, .ref uB, .int (nI c), .ref uK, .int (nI h), .int (nI ns), .ref uM, .ref uF, .ref uY, .ref uT, .ref uL, .ref uC, .ref uX, .int (oI nf), .ref uI, .ref uR, .ref uW, .ref uH, .ref uG]] [.ref o7, .int x] [ob o7 7 [.int (nI n), .int (nI m), .int (nI z), .ref uP, .ref uS, .ref uQ, .ref uA, .ref uB, .int (nI c), .ref uK, .int (nI h), .int (nI ns), .ref uM, .ref uF, .ref uY, .ref uT, .ref uL, .ref uC, .ref uX, .int (oI nf), .ref uI, .ref uR, .ref uW, .ref uH, .ref uG]] (bI (inR x ns)) := by
  refine met_z (cc := cX7_isSet) (maxL := 2) (own := RX7) (lv := [(0, .ref o7), (1, .int x)]) (by decide) rfl rfl rfl (Nat.le_of_ble_eq_true rfl) (fun E e1 e2 e3 C hret => ?_)
  subst e1; subst e2; subst e3
  have iX7 : ∀ w ∈ wsX70, w ∈ wsX7_isSet := fun _ h => List.mem_cons_of_mem _ (List.mem_append_right _ h)
  refine g_iload_n C dX7_isSet_0 rfl 1 rfl 1 rfl ?_
  refine g_i2l (v := (x).toInt64) C dX7_isSet_1 rfl 2 rfl ?_
  refine g_lconst (v := lN 0) C dX7_isSet_2 (by decide) 3 rfl ?_
  refine g_aload_n C dX7_isSet_3 rfl 4 rfl 0 rfl ?_
  refine g_get C iX7 0 rfl rfl 11 (by decide) (C.1.2.2.2.2 (.fieldLink RX7 88 "StackRunsModel" "sets" "I") (List.mem_of_getElem? (i := 1) rfl)) rfl dX7_isSet_4 7 rfl ?_
  refine g_iconst (v := nI 1) C dX7_isSet_7 (by decide) 8 rfl ?_
  refine g_isub (z := (oI ns)) C dX7_isSet_8 9 rfl (by exact oI_sub ns) ?_
  refine g_i2l (v := ((oI ns)).toInt64) C dX7_isSet_9 rfl 10 rfl ?_
  refine g_cSi (ws2 := [ob o7 7 [.int (nI n), .int (nI m), .int (nI z), .ref uP, .ref uS, .ref uQ, .ref uA, .ref uB, .int (nI c), .ref uK, .int (nI h), .int (nI ns), .ref uM, .ref uF, .ref uY, .ref uT, .ref uL, .ref uC, .ref uX, .int (oI nf), .ref uI, .ref uR, .ref uW, .ref uH, .ref uG]]) (As := [.long ((x).toInt64), .long (lN 0), .long (((oI ns)).toInt64)]) (st := []) (wsc := []) (wr := [ob o7 7 [.int (nI n), .int (nI m), .int (nI z), .ref uP, .ref uS, .ref uQ, .ref uA, .ref uB, .int (nI c), .ref uK, .int (nI h), .int (nI ns), .ref uM, .ref uF, .ref uY, .ref uT, .ref uL, .ref uC, .ref uX, .int (oI nf), .ref uI, .ref uR, .ref uW, .ref uH, .ref uG]]) C (c_X7_isIn (eL E) (eD E) (eY E) ((x).toInt64) (lN 0) (((oI ns)).toInt64) ) 3 gX7_isSet_X7_isIn rfl (by decide +kernel) (by decide) ⟨Nat.zero_le _, Nat.zero_le _⟩ rfl rfl (Nat.le_of_ble_eq_true rfl) [] [0] [0] rfl rfl (by decide) (by decide) rfl (by decide) dX7_isSet_10 13 rfl ?_
  have e_1 : (inR x ns) = (decide ((lN 0) ≤ ((x).toInt64) ∧ ((x).toInt64) ≤ (((oI ns)).toInt64))) := by first | with_reducible rfl | (exact isin_R (by omega))
  refine go_eq rfl (st' := [.int (bI (inR x ns))]) (ws' := [ob o7 7 [.int (nI n), .int (nI m), .int (nI z), .ref uP, .ref uS, .ref uQ, .ref uA, .ref uB, .int (nI c), .ref uK, .int (nI h), .int (nI ns), .ref uM, .ref uF, .ref uY, .ref uT, .ref uL, .ref uC, .ref uX, .int (oI nf), .ref uI, .ref uR, .ref uW, .ref uH, .ref uG]]) (by first | with_reducible rfl | (simp only [e_1, oI_s, oI_0, bI_1, bI_0, and_self, reduceIte]; done)) (by first | with_reducible rfl | (simp only [e_1, oI_s, oI_0, bI_1, bI_0, and_self, reduceIte]; done)) ?_
  exact hret _ _ dX7_isSet_13
set_option maxHeartbeats 4000000 in
set_option maxRecDepth 100000 in
theorem c_X7_isPlace (l : Launch) (D : va_G) (cy : Nat → ClassId) (o7 : Nat) (n : Nat) (m : Nat) (z : Nat) (uP : Nat) (uS : Nat) (uQ : Nat) (uA : Nat) (uB : Nat) (c : Nat) (uK : Nat) (h : Nat) (ns : Nat) (uM : Nat) (uF : Nat) (uY : Nat) (uT : Nat) (uL : Nat) (uC : Nat) (uX : Nat) (nf : Nat) (uI : Nat) (uR : Nat) (uW : Nat) (uH : Nat) (uG : Nat) (w : Int32) (x : Int32) (hn : n ≤ 5) : CoI l yX7_isPlace wsX7_isPlace 2 46 D cy [ob o7 7 [.int (nI n), .int (nI m), .int (nI z), .ref uP, .ref uS, .ref uQ, .ref uA, .ref uB, .int (nI c), .ref uK, .int (nI h), .int (nI ns), .ref uM, .ref uF, .ref uY, .ref uT, .ref uL, .ref uC, .ref uX, .int (oI nf), .ref uI, .ref uR, .ref uW, .ref uH, .ref uG]] [.ref o7, .int w, .int x] [ob o7 7 [.int (nI n), .int (nI m), .int (nI z), .ref uP, .ref uS, .ref uQ, .ref uA, .ref uB, .int (nI c), .ref uK, .int (nI h), .int (nI ns), .ref uM, .ref uF, .ref uY, .ref uT, .ref uL, .ref uC, .ref uX, .int (oI nf), .ref uI, .ref uR, .ref uW, .ref uH, .ref uG]] (bI (plR w x n)) := by
  refine met_z (cc := cX7_isPlace) (maxL := 3) (own := RX7) (lv := [(0, .ref o7), (1, .int w), (2, .int x)]) (by decide) rfl rfl rfl (Nat.le_of_ble_eq_true rfl) (fun E e1 e2 e3 C hret => ?_)
  subst e1; subst e2; subst e3
  refine g_iload_n C dX7_isPlace_0 rfl 1 rfl 1 rfl ?_
  refine g_if_ne (X := ¬ w = 0) C dX7_isPlace_1 12 (by decide) 4 rfl (Iff.rfl) ?_ ?_
  · intro h1
    refine g_iload_n C dX7_isPlace_12 rfl 13 rfl 1 rfl ?_
    refine g_iconst (v := nI 1) C dX7_isPlace_13 (by decide) 14 rfl ?_
    refine g_icmp_ne (X := ¬ w = (nI 1)) C dX7_isPlace_14 33 (by decide) 17 rfl (Iff.rfl) ?_ ?_
    · intro h14
      refine g_iconst (v := nI 0) C dX7_isPlace_33 (by decide) 34 rfl ?_
      have e_1 : (plR w x n) = false := by first | with_reducible rfl | (first | exact plR_0 (by assumption) | exact plR_2 (by assumption) (by assumption) | exact (plR_1 (by assumption) (by assumption)).trans ((isin_R5 (n := 6) (by decide) rfl).trans h26))
      refine go_eq rfl (st' := [.int (bI (plR w x n))]) (ws' := [ob o7 7 [.int (nI n), .int (nI m), .int (nI z), .ref uP, .ref uS, .ref uQ, .ref uA, .ref uB, .int (nI c), .ref uK, .int (nI h), .int (nI ns), .ref uM, .ref uF, .ref uY, .ref uT, .ref uL, .ref uC, .ref uX, .int (oI nf), .ref uI, .ref uR, .ref uW, .ref uH, .ref uG]]) (by first | with_reducible rfl | (simp only [e_1, oI_s, oI_0, bI_1, bI_0, and_self, reduceIte]; done)) (by first | with_reducible rfl | (simp only [e_1, oI_s, oI_0, bI_1, bI_0, and_self, reduceIte]; done)) ?_
      exact hret _ _ dX7_isPlace_34
    · intro h14
      have h14 : w = (nI 1) := Decidable.not_not.mp h14
      refine g_iload_n C dX7_isPlace_17 rfl 18 rfl 2 rfl ?_
      refine g_i2l (v := (x).toInt64) C dX7_isPlace_18 rfl 19 rfl ?_
      refine g_lconst (v := lN 0) C dX7_isPlace_19 (by decide) 20 rfl ?_
      refine g_ldc2 (v' := (lN 5)) C (C.1.2.2.2.2 (.constantLong RX7 77 (5)) (List.mem_of_getElem? (i := 1) rfl)) (by decide) dX7_isPlace_20 23 rfl ?_
      refine g_cSi (ws2 := [ob o7 7 [.int (nI n), .int (nI m), .int (nI z), .ref uP, .ref uS, .ref uQ, .ref uA, .ref uB, .int (nI c), .ref uK, .int (nI h), .int (nI ns), .ref uM, .ref uF, .ref uY, .ref uT, .ref uL, .ref uC, .ref uX, .int (oI nf), .ref uI, .ref uR, .ref uW, .ref uH, .ref uG]]) (As := [.long ((x).toInt64), .long (lN 0), .long (lN 5)]) (st := []) (wsc := []) (wr := [ob o7 7 [.int (nI n), .int (nI m), .int (nI z), .ref uP, .ref uS, .ref uQ, .ref uA, .ref uB, .int (nI c), .ref uK, .int (nI h), .int (nI ns), .ref uM, .ref uF, .ref uY, .ref uT, .ref uL, .ref uC, .ref uX, .int (oI nf), .ref uI, .ref uR, .ref uW, .ref uH, .ref uG]]) C (c_X7_isIn (eL E) (eD E) (eY E) ((x).toInt64) (lN 0) (lN 5) ) 3 gX7_isPlace_X7_isIn rfl (by decide +kernel) (by decide) ⟨Nat.zero_le _, Nat.zero_le _⟩ rfl rfl (Nat.le_of_ble_eq_true rfl) [] [0] [0] rfl rfl (by decide) (by decide) rfl (by decide) dX7_isPlace_23 26 rfl ?_
      refine g_if_eq (X := decide ((lN 0) ≤ ((x).toInt64) ∧ ((x).toInt64) ≤ (lN 5)) = false) C dX7_isPlace_26 33 (by decide) 29 rfl (bI_eq0 _) ?_ ?_
      · intro h26
        refine g_iconst (v := nI 0) C dX7_isPlace_33 (by decide) 34 rfl ?_
        have e_2 : (plR w x n) = false := by first | with_reducible rfl | (first | exact plR_0 (by assumption) | exact plR_2 (by assumption) (by assumption) | exact (plR_1 (by assumption) (by assumption)).trans ((isin_R5 (n := 6) (by decide) rfl).trans h26))
        refine go_eq rfl (st' := [.int (bI (plR w x n))]) (ws' := [ob o7 7 [.int (nI n), .int (nI m), .int (nI z), .ref uP, .ref uS, .ref uQ, .ref uA, .ref uB, .int (nI c), .ref uK, .int (nI h), .int (nI ns), .ref uM, .ref uF, .ref uY, .ref uT, .ref uL, .ref uC, .ref uX, .int (oI nf), .ref uI, .ref uR, .ref uW, .ref uH, .ref uG]]) (by first | with_reducible rfl | (simp only [e_2, oI_s, oI_0, bI_1, bI_0, and_self, reduceIte]; done)) (by first | with_reducible rfl | (simp only [e_2, oI_s, oI_0, bI_1, bI_0, and_self, reduceIte]; done)) ?_
        exact hret _ _ dX7_isPlace_34
      · intro h26
        have h26 : decide ((lN 0) ≤ ((x).toInt64) ∧ ((x).toInt64) ≤ (lN 5)) = true := by simpa using h26
        refine g_iconst (v := nI 1) C dX7_isPlace_29 (by decide) 30 rfl ?_
        refine g_goto C dX7_isPlace_30 34 (by decide) ?_
        have e_3 : (plR w x n) = true := by first | with_reducible rfl | (first | exact plR_0 (by assumption) | exact plR_2 (by assumption) (by assumption) | exact (plR_1 (by assumption) (by assumption)).trans ((isin_R5 (n := 6) (by decide) rfl).trans h26))
        refine go_eq rfl (st' := [.int (bI (plR w x n))]) (ws' := [ob o7 7 [.int (nI n), .int (nI m), .int (nI z), .ref uP, .ref uS, .ref uQ, .ref uA, .ref uB, .int (nI c), .ref uK, .int (nI h), .int (nI ns), .ref uM, .ref uF, .ref uY, .ref uT, .ref uL, .ref uC, .ref uX, .int (oI nf), .ref uI, .ref uR, .ref uW, .ref uH, .ref uG]]) (by first | with_reducible rfl | (simp only [e_3, oI_s, oI_0, bI_1, bI_0, and_self, reduceIte]; done)) (by first | with_reducible rfl | (simp only [e_3, oI_s, oI_0, bI_1, bI_0, and_self, reduceIte]; done)) ?_
        exact hret _ _ dX7_isPlace_34
  · intro h1
    have h1 : w = 0 := Decidable.not_not.mp h1
    refine g_aload_n C dX7_isPlace_4 rfl 5 rfl 0 rfl ?_
    refine g_iload_n C dX7_isPlace_5 rfl 6 rfl 2 rfl ?_
    refine g_cVi (ws2 := [ob o7 7 [.int (nI n), .int (nI m), .int (nI z), .ref uP, .ref uS, .ref uQ, .ref uA, .ref uB, .int (nI c), .ref uK, .int (nI h), .int (nI ns), .ref uM, .ref uF, .ref uY, .ref uT, .ref uL, .ref uC, .ref uX, .int (oI nf), .ref uI, .ref uR, .ref uW, .ref uH, .ref uG]]) (As := [.int x]) (st := []) (wsc := [ob o7 7 [.int (nI n), .int (nI m), .int (nI z), .ref uP, .ref uS, .ref uQ, .ref uA, .ref uB, .int (nI c), .ref uK, .int (nI h), .int (nI ns), .ref uM, .ref uF, .ref uY, .ref uT, .ref uL, .ref uC, .ref uX, .int (oI nf), .ref uI, .ref uR, .ref uW, .ref uH, .ref uG]]) (wr := []) C (c_X7_isControl (eL E) (eD E) (eY E) o7 n m z uP uS uQ uA uB c uK h ns uM uF uY uT uL uC uX nf uI uR uW uH uG x (by omega)) 1 gX7_isPlace_X7_isControl rfl (by decide +kernel) (by decide) ⟨Nat.zero_le _, Nat.zero_le _⟩ rfl 0 rfl rfl rfl (Nat.le_of_ble_eq_true rfl) [0] [] [0] rfl rfl (by decide) (by decide) rfl (by decide) dX7_isPlace_6 9 rfl ?_
    refine g_goto C dX7_isPlace_9 34 (by decide) ?_
    have e_4 : (plR w x n) = (inR x n) := by first | with_reducible rfl | (first | exact plR_0 (by assumption) | exact plR_2 (by assumption) (by assumption) | exact (plR_1 (by assumption) (by assumption)).trans ((isin_R5 (n := 6) (by decide) rfl).trans h26))
    refine go_eq rfl (st' := [.int (bI (plR w x n))]) (ws' := [ob o7 7 [.int (nI n), .int (nI m), .int (nI z), .ref uP, .ref uS, .ref uQ, .ref uA, .ref uB, .int (nI c), .ref uK, .int (nI h), .int (nI ns), .ref uM, .ref uF, .ref uY, .ref uT, .ref uL, .ref uC, .ref uX, .int (oI nf), .ref uI, .ref uR, .ref uW, .ref uH, .ref uG]]) (by first | with_reducible rfl | (simp only [e_4, oI_s, oI_0, bI_1, bI_0, and_self, reduceIte]; done)) (by first | with_reducible rfl | (simp only [e_4, oI_s, oI_0, bI_1, bI_0, and_self, reduceIte]; done)) ?_
    exact hret _ _ dX7_isPlace_34
set_option maxHeartbeats 4000000 in
set_option maxRecDepth 100000 in
theorem c_X7_costAt (l : Launch) (D : va_G) (cy : Nat → ClassId) (p : Nat) (s : Nat) (x : Nat)  : CoI l yX7_costAt wsX7_costAt 0 0 D cy [] [.int (nI p), .int (nI s), .int (nI x)] [] (nI ((5 * p + s) * 11 + x)) := by
  refine met_i (cc := cX7_costAt) (maxL := 3) (own := RX7) (lv := [(0, .int (nI p)), (1, .int (nI s)), (2, .int (nI x))]) (by decide) rfl rfl rfl (Nat.le_of_ble_eq_true rfl) (fun E e1 e2 e3 C hret => ?_)
  subst e1; subst e2; subst e3
  refine g_iconst (v := nI 5) C dX7_costAt_0 (by decide) 1 rfl ?_
  refine g_iload_n C dX7_costAt_1 rfl 2 rfl 0 rfl ?_
  refine g_imul (z := nI (5 * p)) C dX7_costAt_2 3 rfl (pk_mul _ _) ?_
  refine g_iload_n C dX7_costAt_3 rfl 4 rfl 1 rfl ?_
  refine g_iadd (z := nI ((5 * p) + s)) C dX7_costAt_4 5 rfl (nI_add _ _) ?_
  refine g_bipush (v := nI 11) C dX7_costAt_5 (by decide) 7 rfl ?_
  refine g_imul (z := nI (((5 * p) + s) * 11)) C dX7_costAt_7 8 rfl (pk_mul _ _) ?_
  refine g_iload_n C dX7_costAt_8 rfl 9 rfl 2 rfl ?_
  refine g_iadd (z := nI ((((5 * p) + s) * 11) + x)) C dX7_costAt_9 10 rfl (nI_add _ _) ?_
  have e_1 : ((5 * p + s) * 11 + x) = ((((5 * p) + s) * 11) + x) := by first | with_reducible rfl | (simp [*])
  refine go_eq rfl (st' := [.int (nI ((5 * p + s) * 11 + x))]) (ws' := []) (by first | with_reducible rfl | (simp only [e_1, oI_s, oI_0, bI_1, bI_0, and_self, reduceIte]; done)) (by first | with_reducible rfl | (simp only [e_1, oI_s, oI_0, bI_1, bI_0, and_self, reduceIte]; done)) ?_
  exact hret _ _ dX7_costAt_10
set_option maxHeartbeats 4000000 in
set_option maxRecDepth 100000 in
theorem c_X7_plus (l : Launch) (D : va_G) (cy : Nat → ClassId) (a : Nat) (b : Nat) (ha : a ≤ 1000000000000000 ∨ a = 9000000000000000000) (hb : b ≤ 1000000000000000 ∨ b = 9000000000000000000) : CoL l yX7_plus wsX7_plus 0 0 D cy [] [.long (rv a), .long (rv b)] [] (rv (sm a b)) := by
  refine met_l (cc := cX7_plus) (maxL := 4) (own := RX7) (lv := [(0, .long (rv a)), (2, .long (rv b))]) (by decide) rfl rfl rfl (Nat.le_of_ble_eq_true rfl) (fun E e1 e2 e3 C hret => ?_)
  subst e1; subst e2; subst e3
  refine g_lload_n C dX7_plus_0 rfl 1 rfl 0 rfl ?_
  refine g_lconst (v := lN 0) C dX7_plus_1 (by decide) 2 rfl ?_
  refine g_lcmp_lt (X := a = 9000000000000000000) C dX7_plus_2 rfl dX7_plus_3 12 (by decide) 6 rfl (rv_lt0 (by omega)) ?_ ?_
  · intro h2
    refine g_ldc2 (v' := (rv 9000000000000000000)) C (C.1.2.2.2.2 (.constantLong RX7 123 (-1)) (List.mem_of_getElem? (i := 1) rfl)) (by decide) dX7_plus_12 15 rfl ?_
    refine g_goto C dX7_plus_15 37 (by decide) ?_
    have e_1 : (sm a b) = 9000000000000000000 := by first | with_reducible rfl | (simp only [sm]; first | rw [if_pos (Or.inl (by assumption))] | rw [if_pos (Or.inr (by assumption))] | (rw [if_neg (by omega)]; omega))
    refine go_eq rfl (st' := [.long (rv (sm a b))]) (ws' := []) (by first | with_reducible rfl | (simp only [e_1, oI_s, oI_0, bI_1, bI_0, and_self, reduceIte]; done)) (by first | with_reducible rfl | (simp only [e_1, oI_s, oI_0, bI_1, bI_0, and_self, reduceIte]; done)) ?_
    exact hret _ _ dX7_plus_37
  · intro h2
    refine g_lload_n C dX7_plus_6 rfl 7 rfl 1 rfl ?_
    refine g_lconst (v := lN 0) C dX7_plus_7 (by decide) 8 rfl ?_
    refine g_lcmp_ge (X := ¬ b = 9000000000000000000) C dX7_plus_8 rfl dX7_plus_9 18 (by decide) 12 rfl (rv_ge0 (by omega)) ?_ ?_
    · intro h8
      refine g_lload_n C dX7_plus_18 rfl 19 rfl 0 rfl ?_
      refine g_lload_n C dX7_plus_19 rfl 20 rfl 1 rfl ?_
      refine g_ladd (z := (lN (a + b))) C dX7_plus_20 21 rfl (by exact rv_add (by assumption) (by assumption)) ?_
      refine g_ldc2 (v' := (lN 1000000000000000)) C (C.1.2.2.2.2 (.constantLong RX7 125 (1000000000000000)) (List.mem_of_getElem? (i := 2) rfl)) (by decide) dX7_plus_21 24 rfl ?_
      refine g_lcmp_le (X := a + b ≤ 1000000000000000) C dX7_plus_24 rfl dX7_plus_25 34 (by decide) 28 rfl (pk_lLE (by omega) (by omega)) ?_ ?_
      · intro h24
        refine g_lload_n C dX7_plus_34 rfl 35 rfl 0 rfl ?_
        refine g_lload_n C dX7_plus_35 rfl 36 rfl 1 rfl ?_
        refine g_ladd (z := (lN (a + b))) C dX7_plus_36 37 rfl (by exact rv_add (by assumption) (by assumption)) ?_
        refine go_st (show Value.long (lN (a + b)) = .long (rv (a + b)) from by rw [rv_of (by omega)]) ?_
        have e_2 : (sm a b) = (a + b) := by first | with_reducible rfl | (simp only [sm]; first | rw [if_pos (Or.inl (by assumption))] | rw [if_pos (Or.inr (by assumption))] | (rw [if_neg (by omega)]; omega))
        refine go_eq rfl (st' := [.long (rv (sm a b))]) (ws' := []) (by first | with_reducible rfl | (simp only [e_2, oI_s, oI_0, bI_1, bI_0, and_self, reduceIte]; done)) (by first | with_reducible rfl | (simp only [e_2, oI_s, oI_0, bI_1, bI_0, and_self, reduceIte]; done)) ?_
        exact hret _ _ dX7_plus_37
      · intro h24
        refine g_ldc2 (v' := (lN 1000000000000000)) C (C.1.2.2.2.2 (.constantLong RX7 125 (1000000000000000)) (List.mem_of_getElem? (i := 2) rfl)) (by decide) dX7_plus_28 31 rfl ?_
        refine g_goto C dX7_plus_31 37 (by decide) ?_
        refine go_st (show Value.long (lN 1000000000000000) = .long (rv 1000000000000000) from by rw [rv_of (by omega)]) ?_
        have e_3 : (sm a b) = 1000000000000000 := by first | with_reducible rfl | (simp only [sm]; first | rw [if_pos (Or.inl (by assumption))] | rw [if_pos (Or.inr (by assumption))] | (rw [if_neg (by omega)]; omega))
        refine go_eq rfl (st' := [.long (rv (sm a b))]) (ws' := []) (by first | with_reducible rfl | (simp only [e_3, oI_s, oI_0, bI_1, bI_0, and_self, reduceIte]; done)) (by first | with_reducible rfl | (simp only [e_3, oI_s, oI_0, bI_1, bI_0, and_self, reduceIte]; done)) ?_
        exact hret _ _ dX7_plus_37
    · intro h8
      have h8 : b = 9000000000000000000 := Decidable.not_not.mp h8
      refine g_ldc2 (v' := (rv 9000000000000000000)) C (C.1.2.2.2.2 (.constantLong RX7 123 (-1)) (List.mem_of_getElem? (i := 1) rfl)) (by decide) dX7_plus_12 15 rfl ?_
      refine g_goto C dX7_plus_15 37 (by decide) ?_
      have e_4 : (sm a b) = 9000000000000000000 := by first | with_reducible rfl | (simp only [sm]; first | rw [if_pos (Or.inl (by assumption))] | rw [if_pos (Or.inr (by assumption))] | (rw [if_neg (by omega)]; omega))
      refine go_eq rfl (st' := [.long (rv (sm a b))]) (ws' := []) (by first | with_reducible rfl | (simp only [e_4, oI_s, oI_0, bI_1, bI_0, and_self, reduceIte]; done)) (by first | with_reducible rfl | (simp only [e_4, oI_s, oI_0, bI_1, bI_0, and_self, reduceIte]; done)) ?_
      exact hret _ _ dX7_plus_37
set_option maxHeartbeats 4000000 in
set_option maxRecDepth 100000 in
theorem c_X7_lesser (l : Launch) (D : va_G) (cy : Nat → ClassId) (a : Nat) (b : Nat) (ha : a ≤ 1000000000000000 ∨ a = 9000000000000000000) (hb : b ≤ 1000000000000000 ∨ b = 9000000000000000000) : CoL l yX7_lesser wsX7_lesser 0 0 D cy [] [.long (rv a), .long (rv b)] [] (rv (min a b)) := by
  refine met_l (cc := cX7_lesser) (maxL := 4) (own := RX7) (lv := [(0, .long (rv a)), (2, .long (rv b))]) (by decide) rfl rfl rfl (Nat.le_of_ble_eq_true rfl) (fun E e1 e2 e3 C hret => ?_)
  subst e1; subst e2; subst e3
  refine g_lload_n C dX7_lesser_0 rfl 1 rfl 0 rfl ?_
  refine g_lconst (v := lN 0) C dX7_lesser_1 (by decide) 2 rfl ?_
  refine g_lcmp_ge (X := ¬ a = 9000000000000000000) C dX7_lesser_2 rfl dX7_lesser_3 10 (by decide) 6 rfl (rv_ge0 (by omega)) ?_ ?_
  · intro h2
    refine g_lload_n C dX7_lesser_10 rfl 11 rfl 1 rfl ?_
    refine g_lconst (v := lN 0) C dX7_lesser_11 (by decide) 12 rfl ?_
    refine g_lcmp_lt (X := b = 9000000000000000000) C dX7_lesser_12 rfl dX7_lesser_13 22 (by decide) 16 rfl (rv_lt0 (by omega)) ?_ ?_
    · intro h12
      refine g_lload_n C dX7_lesser_22 rfl 23 rfl 0 rfl ?_
      refine g_goto C dX7_lesser_23 27 (by decide) ?_
      have e_1 : (min a b) = a := by first | with_reducible rfl | (omega)
      refine go_eq rfl (st' := [.long (rv (min a b))]) (ws' := []) (by first | with_reducible rfl | (simp only [e_1, oI_s, oI_0, bI_1, bI_0, and_self, reduceIte]; done)) (by first | with_reducible rfl | (simp only [e_1, oI_s, oI_0, bI_1, bI_0, and_self, reduceIte]; done)) ?_
      exact hret _ _ dX7_lesser_27
    · intro h12
      refine g_lload_n C dX7_lesser_16 rfl 17 rfl 0 rfl ?_
      refine g_lload_n C dX7_lesser_17 rfl 18 rfl 1 rfl ?_
      refine g_lcmp_ge (X := b ≤ a) C dX7_lesser_18 rfl dX7_lesser_19 26 (by decide) 22 rfl (rv_le (by omega) (by omega) (by assumption) (by assumption)) ?_ ?_
      · intro h18
        refine g_lload_n C dX7_lesser_26 rfl 27 rfl 1 rfl ?_
        have e_2 : (min a b) = b := by first | with_reducible rfl | (omega)
        refine go_eq rfl (st' := [.long (rv (min a b))]) (ws' := []) (by first | with_reducible rfl | (simp only [e_2, oI_s, oI_0, bI_1, bI_0, and_self, reduceIte]; done)) (by first | with_reducible rfl | (simp only [e_2, oI_s, oI_0, bI_1, bI_0, and_self, reduceIte]; done)) ?_
        exact hret _ _ dX7_lesser_27
      · intro h18
        refine g_lload_n C dX7_lesser_22 rfl 23 rfl 0 rfl ?_
        refine g_goto C dX7_lesser_23 27 (by decide) ?_
        have e_3 : (min a b) = a := by first | with_reducible rfl | (omega)
        refine go_eq rfl (st' := [.long (rv (min a b))]) (ws' := []) (by first | with_reducible rfl | (simp only [e_3, oI_s, oI_0, bI_1, bI_0, and_self, reduceIte]; done)) (by first | with_reducible rfl | (simp only [e_3, oI_s, oI_0, bI_1, bI_0, and_self, reduceIte]; done)) ?_
        exact hret _ _ dX7_lesser_27
  · intro h2
    have h2 : a = 9000000000000000000 := Decidable.not_not.mp h2
    refine g_lload_n C dX7_lesser_6 rfl 7 rfl 1 rfl ?_
    refine g_goto C dX7_lesser_7 27 (by decide) ?_
    have e_4 : (min a b) = b := by first | with_reducible rfl | (omega)
    refine go_eq rfl (st' := [.long (rv (min a b))]) (ws' := []) (by first | with_reducible rfl | (simp only [e_4, oI_s, oI_0, bI_1, bI_0, and_self, reduceIte]; done)) (by first | with_reducible rfl | (simp only [e_4, oI_s, oI_0, bI_1, bI_0, and_self, reduceIte]; done)) ?_
    exact hret _ _ dX7_lesser_27
set_option maxHeartbeats 4000000 in
set_option maxRecDepth 100000 in
theorem c_X7_puts (l : Launch) (D : va_G) (cy : Nat → ClassId) (o7 : Nat) (n : Nat) (m : Nat) (z : Nat) (uP : Nat) (uS : Nat) (uQ : Nat) (uA : Nat) (uB : Nat) (c : Nat) (uK : Nat) (h : Nat) (ns : Nat) (uM : Nat) (uF : Nat) (uY : Nat) (uT : Nat) (uL : Nat) (uC : Nat) (uX : Nat) (nf : Nat) (uI : Nat) (uR : Nat) (uW : Nat) (uH : Nat) (uG : Nat) (Pa : Nat → Nat) (Pb : Nat → Nat) (r : Nat) (hR : ∀ r, Pa r ≤ 5 ∧ Pb r ≤ 5) (hr : r < 30) : CoI l yX7_puts wsX7_puts 0 0 D cy [ob o7 7 [.int (nI n), .int (nI m), .int (nI z), .ref uP, .ref uS, .ref uQ, .ref uA, .ref uB, .int (nI c), .ref uK, .int (nI h), .int (nI ns), .ref uM, .ref uF, .ref uY, .ref uT, .ref uL, .ref uC, .ref uX, .int (oI nf), .ref uI, .ref uR, .ref uW, .ref uH, .ref uG], aO cy uA 30 Pa, aO cy uB 30 Pb] [.ref o7, .int (nI r)] [ob o7 7 [.int (nI n), .int (nI m), .int (nI z), .ref uP, .ref uS, .ref uQ, .ref uA, .ref uB, .int (nI c), .ref uK, .int (nI h), .int (nI ns), .ref uM, .ref uF, .ref uY, .ref uT, .ref uL, .ref uC, .ref uX, .int (oI nf), .ref uI, .ref uR, .ref uW, .ref uH, .ref uG], aO cy uA 30 Pa, aO cy uB 30 Pb] (nI (puF Pa Pb r)) := by
  refine met_i (cc := cX7_puts) (maxL := 2) (own := RX7) (lv := [(0, .ref o7), (1, .int (nI r))]) (by decide) rfl rfl rfl (Nat.le_of_ble_eq_true rfl) (fun E e1 e2 e3 C hret => ?_)
  subst e1; subst e2; subst e3
  have iX7 : ∀ w ∈ wsX70, w ∈ wsX7_puts := fun _ h => List.mem_cons_of_mem _ (List.mem_append_right _ h)
  have hR1 := hR r
  refine g_aload_n C dX7_puts_0 rfl 1 rfl 0 rfl ?_
  refine g_get C iX7 0 rfl rfl 6 (by decide) (C.1.2.2.2.2 (.fieldLink RX7 26 "StackRunsModel" "ruleA" "[I") (List.mem_of_getElem? (i := 1) rfl)) rfl dX7_puts_1 4 rfl ?_
  refine g_iload_n C dX7_puts_4 rfl 5 rfl 1 rfl ?_
  refine g_iald (i := r) C 1 rfl (by omega) (by decide) dX7_puts_5 6 rfl ?_
  refine g_iconst (v := (-1)) C dX7_puts_6 (by decide) 7 rfl ?_
  refine g_icmp_ne (X := ¬ Pa r = 0) C dX7_puts_7 14 (by decide) 10 rfl (not_congr (oI_eq (by omega))) ?_ ?_
  · intro h7
    refine g_aload_n C dX7_puts_14 rfl 15 rfl 0 rfl ?_
    refine g_get C iX7 0 rfl rfl 7 (by decide) (C.1.2.2.2.2 (.fieldLink RX7 29 "StackRunsModel" "ruleB" "[I") (List.mem_of_getElem? (i := 2) rfl)) rfl dX7_puts_15 18 rfl ?_
    refine g_iload_n C dX7_puts_18 rfl 19 rfl 1 rfl ?_
    refine g_iald (i := r) C 2 rfl (by omega) (by decide) dX7_puts_19 20 rfl ?_
    refine g_iconst (v := (-1)) C dX7_puts_20 (by decide) 21 rfl ?_
    refine g_icmp_ne (X := ¬ Pb r = 0) C dX7_puts_21 28 (by decide) 24 rfl (not_congr (oI_eq (by omega))) ?_ ?_
    · intro h21
      refine g_iconst (v := nI 2) C dX7_puts_28 (by decide) 29 rfl ?_
      have e_1 : (puF Pa Pb r) = 2 := by first | with_reducible rfl | (simp only [puF]; repeat (first | rw [if_pos (by assumption)] | rw [if_neg (by assumption)]))
      refine go_eq rfl (st' := [.int (nI (puF Pa Pb r))]) (ws' := [ob o7 7 [.int (nI n), .int (nI m), .int (nI z), .ref uP, .ref uS, .ref uQ, .ref uA, .ref uB, .int (nI c), .ref uK, .int (nI h), .int (nI ns), .ref uM, .ref uF, .ref uY, .ref uT, .ref uL, .ref uC, .ref uX, .int (oI nf), .ref uI, .ref uR, .ref uW, .ref uH, .ref uG], aO (eY E) uA 30 Pa, aO (eY E) uB 30 Pb]) (by first | with_reducible rfl | (simp only [e_1, oI_s, oI_0, bI_1, bI_0, and_self, reduceIte]; done)) (by first | with_reducible rfl | (simp only [e_1, oI_s, oI_0, bI_1, bI_0, and_self, reduceIte]; done)) ?_
      exact hret _ _ dX7_puts_29
    · intro h21
      have h21 : Pb r = 0 := Decidable.not_not.mp h21
      refine g_iconst (v := nI 1) C dX7_puts_24 (by decide) 25 rfl ?_
      refine g_goto C dX7_puts_25 29 (by decide) ?_
      have e_2 : (puF Pa Pb r) = 1 := by first | with_reducible rfl | (simp only [puF]; repeat (first | rw [if_pos (by assumption)] | rw [if_neg (by assumption)]))
      refine go_eq rfl (st' := [.int (nI (puF Pa Pb r))]) (ws' := [ob o7 7 [.int (nI n), .int (nI m), .int (nI z), .ref uP, .ref uS, .ref uQ, .ref uA, .ref uB, .int (nI c), .ref uK, .int (nI h), .int (nI ns), .ref uM, .ref uF, .ref uY, .ref uT, .ref uL, .ref uC, .ref uX, .int (oI nf), .ref uI, .ref uR, .ref uW, .ref uH, .ref uG], aO (eY E) uA 30 Pa, aO (eY E) uB 30 Pb]) (by first | with_reducible rfl | (simp only [e_2, oI_s, oI_0, bI_1, bI_0, and_self, reduceIte]; done)) (by first | with_reducible rfl | (simp only [e_2, oI_s, oI_0, bI_1, bI_0, and_self, reduceIte]; done)) ?_
      exact hret _ _ dX7_puts_29
  · intro h7
    have h7 : Pa r = 0 := Decidable.not_not.mp h7
    refine g_iconst (v := nI 0) C dX7_puts_10 (by decide) 11 rfl ?_
    refine g_goto C dX7_puts_11 29 (by decide) ?_
    have e_3 : (puF Pa Pb r) = 0 := by first | with_reducible rfl | (simp only [puF]; repeat (first | rw [if_pos (by assumption)] | rw [if_neg (by assumption)]))
    refine go_eq rfl (st' := [.int (nI (puF Pa Pb r))]) (ws' := [ob o7 7 [.int (nI n), .int (nI m), .int (nI z), .ref uP, .ref uS, .ref uQ, .ref uA, .ref uB, .int (nI c), .ref uK, .int (nI h), .int (nI ns), .ref uM, .ref uF, .ref uY, .ref uT, .ref uL, .ref uC, .ref uX, .int (oI nf), .ref uI, .ref uR, .ref uW, .ref uH, .ref uG], aO (eY E) uA 30 Pa, aO (eY E) uB 30 Pb]) (by first | with_reducible rfl | (simp only [e_3, oI_s, oI_0, bI_1, bI_0, and_self, reduceIte]; done)) (by first | with_reducible rfl | (simp only [e_3, oI_s, oI_0, bI_1, bI_0, and_self, reduceIte]; done)) ?_
    exact hret _ _ dX7_puts_29
set_option maxHeartbeats 4000000 in
set_option maxRecDepth 100000 in
theorem c_X7_goes (l : Launch) (D : va_G) (cy : Nat → ClassId) (o7 : Nat) (n : Nat) (m : Nat) (z : Nat) (uP : Nat) (uS : Nat) (uQ : Nat) (uA : Nat) (uB : Nat) (c : Nat) (uK : Nat) (h : Nat) (ns : Nat) (uM : Nat) (uF : Nat) (uY : Nat) (uT : Nat) (uL : Nat) (uC : Nat) (uX : Nat) (nf : Nat) (uI : Nat) (uR : Nat) (uW : Nat) (uH : Nat) (uG : Nat) (Pp : Nat → Nat) (Ps : Nat → Nat) (Sg : Nat → Nat) (r : Nat) (hR : ∀ r, Pp r < 5 ∧ Ps r < 5) (hS : ∀ i, Sg i < 5) (hc : c < 5) (hh : h ≤ 60) (hr : r < 30) : CoI l yX7_goes wsX7_goes 0 0 D cy [ob o7 7 [.int (nI n), .int (nI m), .int (nI z), .ref uP, .ref uS, .ref uQ, .ref uA, .ref uB, .int (nI c), .ref uK, .int (nI h), .int (nI ns), .ref uM, .ref uF, .ref uY, .ref uT, .ref uL, .ref uC, .ref uX, .int (oI nf), .ref uI, .ref uR, .ref uW, .ref uH, .ref uG], aN cy uP 30 Pp, aN cy uS 30 Ps, aN cy uK 60 Sg] [.ref o7, .int (nI r)] [ob o7 7 [.int (nI n), .int (nI m), .int (nI z), .ref uP, .ref uS, .ref uQ, .ref uA, .ref uB, .int (nI c), .ref uK, .int (nI h), .int (nI ns), .ref uM, .ref uF, .ref uY, .ref uT, .ref uL, .ref uC, .ref uX, .int (oI nf), .ref uI, .ref uR, .ref uW, .ref uH, .ref uG], aN cy uP 30 Pp, aN cy uS 30 Ps, aN cy uK 60 Sg] (bI (gsF c h Pp Ps Sg r)) := by
  refine met_z (cc := cX7_goes) (maxL := 2) (own := RX7) (lv := [(0, .ref o7), (1, .int (nI r))]) (by decide) rfl rfl rfl (Nat.le_of_ble_eq_true rfl) (fun E e1 e2 e3 C hret => ?_)
  subst e1; subst e2; subst e3
  have iX7 : ∀ w ∈ wsX70, w ∈ wsX7_goes := fun _ h => List.mem_cons_of_mem _ (List.mem_append_right _ h)
  have hR1 := hR r
  have hS1 := hS (h - 1)
  refine g_aload_n C dX7_goes_0 rfl 1 rfl 0 rfl ?_
  refine g_get C iX7 0 rfl rfl 10 (by decide) (C.1.2.2.2.2 (.fieldLink RX7 85 "StackRunsModel" "height" "I") (List.mem_of_getElem? (i := 1) rfl)) rfl dX7_goes_1 4 rfl ?_
  refine g_if_le (X := h = 0) C dX7_goes_4 44 (by decide) 7 rfl (nI_le0 (by omega)) ?_ ?_
  · intro h4
    refine g_iconst (v := nI 0) C dX7_goes_44 (by decide) 45 rfl ?_
    have e_1 : (gsF c h Pp Ps Sg r) = false := by first | with_reducible rfl | (simp [gsF, *]; try omega)
    refine go_eq rfl (st' := [.int (bI (gsF c h Pp Ps Sg r))]) (ws' := [ob o7 7 [.int (nI n), .int (nI m), .int (nI z), .ref uP, .ref uS, .ref uQ, .ref uA, .ref uB, .int (nI c), .ref uK, .int (nI h), .int (nI ns), .ref uM, .ref uF, .ref uY, .ref uT, .ref uL, .ref uC, .ref uX, .int (oI nf), .ref uI, .ref uR, .ref uW, .ref uH, .ref uG], aN (eY E) uP 30 Pp, aN (eY E) uS 30 Ps, aN (eY E) uK 60 Sg]) (by first | with_reducible rfl | (simp only [e_1, oI_s, oI_0, bI_1, bI_0, and_self, reduceIte]; done)) (by first | with_reducible rfl | (simp only [e_1, oI_s, oI_0, bI_1, bI_0, and_self, reduceIte]; done)) ?_
    exact hret _ _ dX7_goes_45
  · intro h4
    refine g_aload_n C dX7_goes_7 rfl 8 rfl 0 rfl ?_
    refine g_get C iX7 0 rfl rfl 3 (by decide) (C.1.2.2.2.2 (.fieldLink RX7 16 "StackRunsModel" "ruleP" "[I") (List.mem_of_getElem? (i := 2) rfl)) rfl dX7_goes_8 11 rfl ?_
    refine g_iload_n C dX7_goes_11 rfl 12 rfl 1 rfl ?_
    refine g_iald (i := r) C 1 rfl (by omega) (by decide) dX7_goes_12 13 rfl ?_
    refine g_aload_n C dX7_goes_13 rfl 14 rfl 0 rfl ?_
    refine g_get C iX7 0 rfl rfl 8 (by decide) (C.1.2.2.2.2 (.fieldLink RX7 82 "StackRunsModel" "control" "I") (List.mem_of_getElem? (i := 3) rfl)) rfl dX7_goes_14 17 rfl ?_
    refine g_icmp_ne (X := ¬ Pp r = c) C dX7_goes_17 44 (by decide) 20 rfl (not_congr (nI_eq (by omega) (by omega))) ?_ ?_
    · intro h17
      refine g_iconst (v := nI 0) C dX7_goes_44 (by decide) 45 rfl ?_
      have e_2 : (gsF c h Pp Ps Sg r) = false := by first | with_reducible rfl | (simp [gsF, *]; try omega)
      refine go_eq rfl (st' := [.int (bI (gsF c h Pp Ps Sg r))]) (ws' := [ob o7 7 [.int (nI n), .int (nI m), .int (nI z), .ref uP, .ref uS, .ref uQ, .ref uA, .ref uB, .int (nI c), .ref uK, .int (nI h), .int (nI ns), .ref uM, .ref uF, .ref uY, .ref uT, .ref uL, .ref uC, .ref uX, .int (oI nf), .ref uI, .ref uR, .ref uW, .ref uH, .ref uG], aN (eY E) uP 30 Pp, aN (eY E) uS 30 Ps, aN (eY E) uK 60 Sg]) (by first | with_reducible rfl | (simp only [e_2, oI_s, oI_0, bI_1, bI_0, and_self, reduceIte]; done)) (by first | with_reducible rfl | (simp only [e_2, oI_s, oI_0, bI_1, bI_0, and_self, reduceIte]; done)) ?_
      exact hret _ _ dX7_goes_45
    · intro h17
      have h17 : Pp r = c := Decidable.not_not.mp h17
      refine g_aload_n C dX7_goes_20 rfl 21 rfl 0 rfl ?_
      refine g_get C iX7 0 rfl rfl 4 (by decide) (C.1.2.2.2.2 (.fieldLink RX7 20 "StackRunsModel" "ruleS" "[I") (List.mem_of_getElem? (i := 4) rfl)) rfl dX7_goes_21 24 rfl ?_
      refine g_iload_n C dX7_goes_24 rfl 25 rfl 1 rfl ?_
      refine g_iald (i := r) C 2 rfl (by omega) (by decide) dX7_goes_25 26 rfl ?_
      refine g_aload_n C dX7_goes_26 rfl 27 rfl 0 rfl ?_
      refine g_get C iX7 0 rfl rfl 9 (by decide) (C.1.2.2.2.2 (.fieldLink RX7 32 "StackRunsModel" "stack" "[I") (List.mem_of_getElem? (i := 5) rfl)) rfl dX7_goes_27 30 rfl ?_
      refine g_aload_n C dX7_goes_30 rfl 31 rfl 0 rfl ?_
      refine g_get C iX7 0 rfl rfl 10 (by decide) (C.1.2.2.2.2 (.fieldLink RX7 85 "StackRunsModel" "height" "I") (List.mem_of_getElem? (i := 1) rfl)) rfl dX7_goes_31 34 rfl ?_
      refine g_iconst (v := nI 1) C dX7_goes_34 (by decide) 35 rfl ?_
      refine g_isub (z := nI (h - 1)) C dX7_goes_35 36 rfl (pk_sub (by omega)) ?_
      refine g_iald (i := (h - 1)) C 3 rfl (by omega) (by decide) dX7_goes_36 37 rfl ?_
      refine g_icmp_ne (X := ¬ Ps r = Sg (h - 1)) C dX7_goes_37 44 (by decide) 40 rfl (not_congr (nI_eq (by omega) (by omega))) ?_ ?_
      · intro h37
        refine g_iconst (v := nI 0) C dX7_goes_44 (by decide) 45 rfl ?_
        have e_3 : (gsF c h Pp Ps Sg r) = false := by first | with_reducible rfl | (simp [gsF, *]; try omega)
        refine go_eq rfl (st' := [.int (bI (gsF c h Pp Ps Sg r))]) (ws' := [ob o7 7 [.int (nI n), .int (nI m), .int (nI z), .ref uP, .ref uS, .ref uQ, .ref uA, .ref uB, .int (nI c), .ref uK, .int (nI h), .int (nI ns), .ref uM, .ref uF, .ref uY, .ref uT, .ref uL, .ref uC, .ref uX, .int (oI nf), .ref uI, .ref uR, .ref uW, .ref uH, .ref uG], aN (eY E) uP 30 Pp, aN (eY E) uS 30 Ps, aN (eY E) uK 60 Sg]) (by first | with_reducible rfl | (simp only [e_3, oI_s, oI_0, bI_1, bI_0, and_self, reduceIte]; done)) (by first | with_reducible rfl | (simp only [e_3, oI_s, oI_0, bI_1, bI_0, and_self, reduceIte]; done)) ?_
        exact hret _ _ dX7_goes_45
      · intro h37
        have h37 : Ps r = Sg (h - 1) := Decidable.not_not.mp h37
        refine g_iconst (v := nI 1) C dX7_goes_40 (by decide) 41 rfl ?_
        refine g_goto C dX7_goes_41 45 (by decide) ?_
        have e_4 : (gsF c h Pp Ps Sg r) = true := by first | with_reducible rfl | (simp [gsF, *]; try omega)
        refine go_eq rfl (st' := [.int (bI (gsF c h Pp Ps Sg r))]) (ws' := [ob o7 7 [.int (nI n), .int (nI m), .int (nI z), .ref uP, .ref uS, .ref uQ, .ref uA, .ref uB, .int (nI c), .ref uK, .int (nI h), .int (nI ns), .ref uM, .ref uF, .ref uY, .ref uT, .ref uL, .ref uC, .ref uX, .int (oI nf), .ref uI, .ref uR, .ref uW, .ref uH, .ref uG], aN (eY E) uP 30 Pp, aN (eY E) uS 30 Ps, aN (eY E) uK 60 Sg]) (by first | with_reducible rfl | (simp only [e_4, oI_s, oI_0, bI_1, bI_0, and_self, reduceIte]; done)) (by first | with_reducible rfl | (simp only [e_4, oI_s, oI_0, bI_1, bI_0, and_self, reduceIte]; done)) ?_
        exact hret _ _ dX7_goes_45
set_option maxHeartbeats 4000000 in
set_option maxRecDepth 100000 in
theorem c_X7_does (l : Launch) (D : va_G) (cy : Nat → ClassId) (o7 : Nat) (n : Nat) (m : Nat) (z : Nat) (uP : Nat) (uS : Nat) (uQ : Nat) (uA : Nat) (uB : Nat) (c : Nat) (uK : Nat) (h : Nat) (ns : Nat) (uM : Nat) (uF : Nat) (uY : Nat) (uT : Nat) (uL : Nat) (uC : Nat) (uX : Nat) (nf : Nat) (uI : Nat) (uR : Nat) (uW : Nat) (uH : Nat) (uG : Nat) (Pq : Nat → Nat) (Pa : Nat → Nat) (Pb : Nat → Nat) (Sg : Nat → Nat) (r : Nat) (hR : ∀ r, Pa r ≤ 5 ∧ Pb r ≤ 5) (hab : ∀ r, Pa r = 0 → Pb r = 0) (hh : h ≤ 60) (h0h : 0 < h) (hr : r < 30) (hroom : Pb r = 0 ∨ h < 60) : CoV l yX7_does wsX7_does 1 21 D cy [ob o7 7 [.int (nI n), .int (nI m), .int (nI z), .ref uP, .ref uS, .ref uQ, .ref uA, .ref uB, .int (nI c), .ref uK, .int (nI h), .int (nI ns), .ref uM, .ref uF, .ref uY, .ref uT, .ref uL, .ref uC, .ref uX, .int (oI nf), .ref uI, .ref uR, .ref uW, .ref uH, .ref uG], aN cy uQ 30 Pq, aO cy uA 30 Pa, aO cy uB 30 Pb, aN cy uK 60 Sg] [.ref o7, .int (nI r)] [ob o7 7 [.int (nI n), .int (nI m), .int (nI z), .ref uP, .ref uS, .ref uQ, .ref uA, .ref uB, .int (nI (Pq r)), .ref uK, .int (nI (chH h (Pa r) (Pb r))), .int (nI ns), .ref uM, .ref uF, .ref uY, .ref uT, .ref uL, .ref uC, .ref uX, .int (oI nf), .ref uI, .ref uR, .ref uW, .ref uH, .ref uG], aN cy uQ 30 Pq, aO cy uA 30 Pa, aO cy uB 30 Pb, aN cy uK 60 (chS Sg h (Pa r) (Pb r))] := by
  refine met_v (cc := cX7_does) (maxL := 2) (own := RX7) (lv := [(0, .ref o7), (1, .int (nI r))]) (by decide) rfl rfl rfl (Nat.le_of_ble_eq_true rfl) (fun E e1 e2 e3 C hret => ?_)
  subst e1; subst e2; subst e3
  have iX7 : ∀ w ∈ wsX70, w ∈ wsX7_does := fun _ h => List.mem_cons_of_mem _ (List.mem_append_right _ h)
  have hR1 := hR r
  have hA1 := hab r
  have hU := puF_le Pa Pb r
  refine g_aload_n C dX7_does_0 rfl 1 rfl 0 rfl ?_
  refine g_dup C dX7_does_1 rfl 2 rfl ?_
  refine g_get C iX7 0 rfl rfl 10 (by decide) (C.1.2.2.2.2 (.fieldLink RX7 85 "StackRunsModel" "height" "I") (List.mem_of_getElem? (i := 1) rfl)) rfl dX7_does_2 5 rfl ?_
  refine g_iconst (v := nI 1) C dX7_does_5 (by decide) 6 rfl ?_
  refine g_isub (z := nI (h - 1)) C dX7_does_6 7 rfl (pk_sub (by omega)) ?_
  refine g_put (ws' := [ob o7 7 [.int (nI n), .int (nI m), .int (nI z), .ref uP, .ref uS, .ref uQ, .ref uA, .ref uB, .int (nI c), .ref uK, .int (nI (h - 1)), .int (nI ns), .ref uM, .ref uF, .ref uY, .ref uT, .ref uL, .ref uC, .ref uX, .int (oI nf), .ref uI, .ref uR, .ref uW, .ref uH, .ref uG], aN (eY E) uQ 30 Pq, aO (eY E) uA 30 Pa, aO (eY E) uB 30 Pb, aN (eY E) uK 60 Sg]) (ty := .int) C iX7 tyX7_ok nmX7 0 rfl rfl 10 (by decide) (C.1.2.2.2.2 (.fieldLink RX7 85 "StackRunsModel" "height" "I") (List.mem_of_getElem? (i := 1) rfl)) rfl (by decide +kernel) rfl rfl (Nat.le_of_ble_eq_true rfl) dX7_does_7 10 rfl rfl ?_
  refine g_aload_n C dX7_does_10 rfl 11 rfl 0 rfl ?_
  refine g_iload_n C dX7_does_11 rfl 12 rfl 1 rfl ?_
  refine g_cVi (ws2 := [ob o7 7 [.int (nI n), .int (nI m), .int (nI z), .ref uP, .ref uS, .ref uQ, .ref uA, .ref uB, .int (nI c), .ref uK, .int (nI (h - 1)), .int (nI ns), .ref uM, .ref uF, .ref uY, .ref uT, .ref uL, .ref uC, .ref uX, .int (oI nf), .ref uI, .ref uR, .ref uW, .ref uH, .ref uG], aN (eY E) uQ 30 Pq, aO (eY E) uA 30 Pa, aO (eY E) uB 30 Pb, aN (eY E) uK 60 Sg]) (As := [.int (nI r)]) (st := []) (wsc := [ob o7 7 [.int (nI n), .int (nI m), .int (nI z), .ref uP, .ref uS, .ref uQ, .ref uA, .ref uB, .int (nI c), .ref uK, .int (nI (h - 1)), .int (nI ns), .ref uM, .ref uF, .ref uY, .ref uT, .ref uL, .ref uC, .ref uX, .int (oI nf), .ref uI, .ref uR, .ref uW, .ref uH, .ref uG], aO (eY E) uA 30 Pa, aO (eY E) uB 30 Pb]) (wr := [aN (eY E) uQ 30 Pq, aN (eY E) uK 60 Sg]) C (c_X7_puts (eL E) (eD E) (eY E) o7 n m z uP uS uQ uA uB c uK (h - 1) ns uM uF uY uT uL uC uX nf uI uR uW uH uG Pa Pb r (by assumption) (by omega)) 1 gX7_does_X7_puts rfl (by decide +kernel) (by decide) ⟨Nat.zero_le _, Nat.zero_le _⟩ rfl 0 rfl rfl rfl (Nat.le_of_ble_eq_true rfl) [0, 2, 3] [1, 4] [2, 0, 3, 4, 1] rfl rfl (by decide) (by decide) rfl (by decide) dX7_does_12 15 rfl ?_
  refine g_iconst (v := nI 2) C dX7_does_15 (by decide) 16 rfl ?_
  refine g_icmp_ne (X := ¬ puF Pa Pb r = 2) C dX7_does_16 44 (by decide) 19 rfl (not_congr (nI_eq (by omega) (by omega))) ?_ ?_
  · intro h16
    refine g_aload_n C dX7_does_44 rfl 45 rfl 0 rfl ?_
    refine g_iload_n C dX7_does_45 rfl 46 rfl 1 rfl ?_
    refine g_cVi (ws2 := [ob o7 7 [.int (nI n), .int (nI m), .int (nI z), .ref uP, .ref uS, .ref uQ, .ref uA, .ref uB, .int (nI c), .ref uK, .int (nI (h - 1)), .int (nI ns), .ref uM, .ref uF, .ref uY, .ref uT, .ref uL, .ref uC, .ref uX, .int (oI nf), .ref uI, .ref uR, .ref uW, .ref uH, .ref uG], aN (eY E) uQ 30 Pq, aO (eY E) uA 30 Pa, aO (eY E) uB 30 Pb, aN (eY E) uK 60 Sg]) (As := [.int (nI r)]) (st := []) (wsc := [ob o7 7 [.int (nI n), .int (nI m), .int (nI z), .ref uP, .ref uS, .ref uQ, .ref uA, .ref uB, .int (nI c), .ref uK, .int (nI (h - 1)), .int (nI ns), .ref uM, .ref uF, .ref uY, .ref uT, .ref uL, .ref uC, .ref uX, .int (oI nf), .ref uI, .ref uR, .ref uW, .ref uH, .ref uG], aO (eY E) uA 30 Pa, aO (eY E) uB 30 Pb]) (wr := [aN (eY E) uQ 30 Pq, aN (eY E) uK 60 Sg]) C (c_X7_puts (eL E) (eD E) (eY E) o7 n m z uP uS uQ uA uB c uK (h - 1) ns uM uF uY uT uL uC uX nf uI uR uW uH uG Pa Pb r (by assumption) (by omega)) 1 gX7_does_X7_puts rfl (by decide +kernel) (by decide) ⟨Nat.zero_le _, Nat.zero_le _⟩ rfl 0 rfl rfl rfl (Nat.le_of_ble_eq_true rfl) [0, 2, 3] [1, 4] [2, 0, 3, 4, 1] rfl rfl (by decide) (by decide) rfl (by decide) dX7_does_46 49 rfl ?_
    refine g_if_le (X := puF Pa Pb r = 0) C dX7_does_49 77 (by decide) 52 rfl (nI_le0 (by omega)) ?_ ?_
    · intro h49
      refine g_aload_n C dX7_does_77 rfl 78 rfl 0 rfl ?_
      refine g_aload_n C dX7_does_78 rfl 79 rfl 0 rfl ?_
      refine g_get C iX7 0 rfl rfl 5 (by decide) (C.1.2.2.2.2 (.fieldLink RX7 23 "StackRunsModel" "ruleQ" "[I") (List.mem_of_getElem? (i := 5) rfl)) rfl dX7_does_79 82 rfl ?_
      refine g_iload_n C dX7_does_82 rfl 83 rfl 1 rfl ?_
      refine g_iald (i := r) C 1 rfl (by omega) (by decide) dX7_does_83 84 rfl ?_
      refine g_put (ws' := [ob o7 7 [.int (nI n), .int (nI m), .int (nI z), .ref uP, .ref uS, .ref uQ, .ref uA, .ref uB, .int (nI (Pq r)), .ref uK, .int (nI (h - 1)), .int (nI ns), .ref uM, .ref uF, .ref uY, .ref uT, .ref uL, .ref uC, .ref uX, .int (oI nf), .ref uI, .ref uR, .ref uW, .ref uH, .ref uG], aN (eY E) uQ 30 Pq, aO (eY E) uA 30 Pa, aO (eY E) uB 30 Pb, aN (eY E) uK 60 Sg]) (ty := .int) C iX7 tyX7_ok nmX7 0 rfl rfl 8 (by decide) (C.1.2.2.2.2 (.fieldLink RX7 82 "StackRunsModel" "control" "I") (List.mem_of_getElem? (i := 6) rfl)) rfl (by decide +kernel) rfl rfl (Nat.le_of_ble_eq_true rfl) dX7_does_84 87 rfl rfl ?_
      have e_1 : (chH h (Pa r) (Pb r)) = (h - 1) := by first | with_reducible rfl | (first | exact does_22 hA2 hB2 | exact does_22h h0h hA2 hB2 | exact does_1 hA3 (puF_1 h16 hA3) | exact does_1h h0h hA3 (puF_1 h16 hA3) | exact does_0 (puF_0 h49) (hA1 (puF_0 h49)) | exact does_0h h0h (puF_0 h49) (hA1 (puF_0 h49)) | (exfalso; rw [h16] at h49; omega))
      have e_2 : (chS Sg h (Pa r) (Pb r)) = Sg := by first | with_reducible rfl | (first | exact does_22 hA2 hB2 | exact does_22h h0h hA2 hB2 | exact does_1 hA3 (puF_1 h16 hA3) | exact does_1h h0h hA3 (puF_1 h16 hA3) | exact does_0 (puF_0 h49) (hA1 (puF_0 h49)) | exact does_0h h0h (puF_0 h49) (hA1 (puF_0 h49)) | (exfalso; rw [h16] at h49; omega))
      refine go_eq rfl (st' := []) (ws' := [ob o7 7 [.int (nI n), .int (nI m), .int (nI z), .ref uP, .ref uS, .ref uQ, .ref uA, .ref uB, .int (nI (Pq r)), .ref uK, .int (nI (chH h (Pa r) (Pb r))), .int (nI ns), .ref uM, .ref uF, .ref uY, .ref uT, .ref uL, .ref uC, .ref uX, .int (oI nf), .ref uI, .ref uR, .ref uW, .ref uH, .ref uG], aN (eY E) uQ 30 Pq, aO (eY E) uA 30 Pa, aO (eY E) uB 30 Pb, aN (eY E) uK 60 (chS Sg h (Pa r) (Pb r))]) (by first | with_reducible rfl | (simp only [e_1, e_2, oI_s, oI_0, bI_1, bI_0, and_self, reduceIte]; done)) (by first | with_reducible rfl | (simp only [e_1, e_2, oI_s, oI_0, bI_1, bI_0, and_self, reduceIte]; done)) ?_
      exact hret _ _ dX7_does_87
    · intro h49
      have hA3 := puF_p h49
      refine g_aload_n C dX7_does_52 rfl 53 rfl 0 rfl ?_
      refine g_get C iX7 0 rfl rfl 9 (by decide) (C.1.2.2.2.2 (.fieldLink RX7 32 "StackRunsModel" "stack" "[I") (List.mem_of_getElem? (i := 2) rfl)) rfl dX7_does_53 56 rfl ?_
      refine g_aload_n C dX7_does_56 rfl 57 rfl 0 rfl ?_
      refine g_get C iX7 0 rfl rfl 10 (by decide) (C.1.2.2.2.2 (.fieldLink RX7 85 "StackRunsModel" "height" "I") (List.mem_of_getElem? (i := 1) rfl)) rfl dX7_does_57 60 rfl ?_
      refine g_aload_n C dX7_does_60 rfl 61 rfl 0 rfl ?_
      refine g_get C iX7 0 rfl rfl 6 (by decide) (C.1.2.2.2.2 (.fieldLink RX7 26 "StackRunsModel" "ruleA" "[I") (List.mem_of_getElem? (i := 4) rfl)) rfl dX7_does_61 64 rfl ?_
      refine g_iload_n C dX7_does_64 rfl 65 rfl 1 rfl ?_
      refine g_iald (i := r) C 2 rfl (by omega) (by decide) dX7_does_65 66 rfl ?_
      refine go_st (show Value.int (oI (Pa r)) = .int (nI ((Pa r) - 1)) from by rw [oI_pos (by omega)]) ?_
      refine g_iast (ws' := [ob o7 7 [.int (nI n), .int (nI m), .int (nI z), .ref uP, .ref uS, .ref uQ, .ref uA, .ref uB, .int (nI c), .ref uK, .int (nI (h - 1)), .int (nI ns), .ref uM, .ref uF, .ref uY, .ref uT, .ref uL, .ref uC, .ref uX, .int (oI nf), .ref uI, .ref uR, .ref uW, .ref uH, .ref uG], aN (eY E) uQ 30 Pq, aO (eY E) uA 30 Pa, aO (eY E) uB 30 Pb, aN (eY E) uK 60 (up Sg (h - 1) ((Pa r) - 1))]) (i := (h - 1)) C 4 rfl (by omega) (by decide) dX7_does_66 67 rfl (upd_N _ _ _) rfl ?_
      refine g_aload_n C dX7_does_67 rfl 68 rfl 0 rfl ?_
      refine g_dup C dX7_does_68 rfl 69 rfl ?_
      refine g_get C iX7 0 rfl rfl 10 (by decide) (C.1.2.2.2.2 (.fieldLink RX7 85 "StackRunsModel" "height" "I") (List.mem_of_getElem? (i := 1) rfl)) rfl dX7_does_69 72 rfl ?_
      refine g_iconst (v := nI 1) C dX7_does_72 (by decide) 73 rfl ?_
      refine g_iadd (z := nI ((h - 1) + 1)) C dX7_does_73 74 rfl (nI_add _ _) ?_
      refine g_put (ws' := [ob o7 7 [.int (nI n), .int (nI m), .int (nI z), .ref uP, .ref uS, .ref uQ, .ref uA, .ref uB, .int (nI c), .ref uK, .int (nI ((h - 1) + 1)), .int (nI ns), .ref uM, .ref uF, .ref uY, .ref uT, .ref uL, .ref uC, .ref uX, .int (oI nf), .ref uI, .ref uR, .ref uW, .ref uH, .ref uG], aN (eY E) uQ 30 Pq, aO (eY E) uA 30 Pa, aO (eY E) uB 30 Pb, aN (eY E) uK 60 (up Sg (h - 1) ((Pa r) - 1))]) (ty := .int) C iX7 tyX7_ok nmX7 0 rfl rfl 10 (by decide) (C.1.2.2.2.2 (.fieldLink RX7 85 "StackRunsModel" "height" "I") (List.mem_of_getElem? (i := 1) rfl)) rfl (by decide +kernel) rfl rfl (Nat.le_of_ble_eq_true rfl) dX7_does_74 77 rfl rfl ?_
      refine g_aload_n C dX7_does_77 rfl 78 rfl 0 rfl ?_
      refine g_aload_n C dX7_does_78 rfl 79 rfl 0 rfl ?_
      refine g_get C iX7 0 rfl rfl 5 (by decide) (C.1.2.2.2.2 (.fieldLink RX7 23 "StackRunsModel" "ruleQ" "[I") (List.mem_of_getElem? (i := 5) rfl)) rfl dX7_does_79 82 rfl ?_
      refine g_iload_n C dX7_does_82 rfl 83 rfl 1 rfl ?_
      refine g_iald (i := r) C 1 rfl (by omega) (by decide) dX7_does_83 84 rfl ?_
      refine g_put (ws' := [ob o7 7 [.int (nI n), .int (nI m), .int (nI z), .ref uP, .ref uS, .ref uQ, .ref uA, .ref uB, .int (nI (Pq r)), .ref uK, .int (nI ((h - 1) + 1)), .int (nI ns), .ref uM, .ref uF, .ref uY, .ref uT, .ref uL, .ref uC, .ref uX, .int (oI nf), .ref uI, .ref uR, .ref uW, .ref uH, .ref uG], aN (eY E) uQ 30 Pq, aO (eY E) uA 30 Pa, aO (eY E) uB 30 Pb, aN (eY E) uK 60 (up Sg (h - 1) ((Pa r) - 1))]) (ty := .int) C iX7 tyX7_ok nmX7 0 rfl rfl 8 (by decide) (C.1.2.2.2.2 (.fieldLink RX7 82 "StackRunsModel" "control" "I") (List.mem_of_getElem? (i := 6) rfl)) rfl (by decide +kernel) rfl rfl (Nat.le_of_ble_eq_true rfl) dX7_does_84 87 rfl rfl ?_
      have e_3 : (chH h (Pa r) (Pb r)) = ((h - 1) + 1) := by first | with_reducible rfl | (first | exact does_22 hA2 hB2 | exact does_22h h0h hA2 hB2 | exact does_1 hA3 (puF_1 h16 hA3) | exact does_1h h0h hA3 (puF_1 h16 hA3) | exact does_0 (puF_0 h49) (hA1 (puF_0 h49)) | exact does_0h h0h (puF_0 h49) (hA1 (puF_0 h49)) | (exfalso; rw [h16] at h49; omega))
      have e_4 : (chS Sg h (Pa r) (Pb r)) = (up Sg (h - 1) ((Pa r) - 1)) := by first | with_reducible rfl | (first | exact does_22 hA2 hB2 | exact does_22h h0h hA2 hB2 | exact does_1 hA3 (puF_1 h16 hA3) | exact does_1h h0h hA3 (puF_1 h16 hA3) | exact does_0 (puF_0 h49) (hA1 (puF_0 h49)) | exact does_0h h0h (puF_0 h49) (hA1 (puF_0 h49)) | (exfalso; rw [h16] at h49; omega))
      refine go_eq rfl (st' := []) (ws' := [ob o7 7 [.int (nI n), .int (nI m), .int (nI z), .ref uP, .ref uS, .ref uQ, .ref uA, .ref uB, .int (nI (Pq r)), .ref uK, .int (nI (chH h (Pa r) (Pb r))), .int (nI ns), .ref uM, .ref uF, .ref uY, .ref uT, .ref uL, .ref uC, .ref uX, .int (oI nf), .ref uI, .ref uR, .ref uW, .ref uH, .ref uG], aN (eY E) uQ 30 Pq, aO (eY E) uA 30 Pa, aO (eY E) uB 30 Pb, aN (eY E) uK 60 (chS Sg h (Pa r) (Pb r))]) (by first | with_reducible rfl | (simp only [e_3, e_4, oI_s, oI_0, bI_1, bI_0, and_self, reduceIte]; done)) (by first | with_reducible rfl | (simp only [e_3, e_4, oI_s, oI_0, bI_1, bI_0, and_self, reduceIte]; done)) ?_
      exact hret _ _ dX7_does_87
  · intro h16
    have h16 : puF Pa Pb r = 2 := Decidable.not_not.mp h16
    have ⟨hA2, hB2⟩ := puF_2 h16
    refine g_aload_n C dX7_does_19 rfl 20 rfl 0 rfl ?_
    refine g_get C iX7 0 rfl rfl 9 (by decide) (C.1.2.2.2.2 (.fieldLink RX7 32 "StackRunsModel" "stack" "[I") (List.mem_of_getElem? (i := 2) rfl)) rfl dX7_does_20 23 rfl ?_
    refine g_aload_n C dX7_does_23 rfl 24 rfl 0 rfl ?_
    refine g_get C iX7 0 rfl rfl 10 (by decide) (C.1.2.2.2.2 (.fieldLink RX7 85 "StackRunsModel" "height" "I") (List.mem_of_getElem? (i := 1) rfl)) rfl dX7_does_24 27 rfl ?_
    refine g_aload_n C dX7_does_27 rfl 28 rfl 0 rfl ?_
    refine g_get C iX7 0 rfl rfl 7 (by decide) (C.1.2.2.2.2 (.fieldLink RX7 29 "StackRunsModel" "ruleB" "[I") (List.mem_of_getElem? (i := 3) rfl)) rfl dX7_does_28 31 rfl ?_
    refine g_iload_n C dX7_does_31 rfl 32 rfl 1 rfl ?_
    refine g_iald (i := r) C 3 rfl (by omega) (by decide) dX7_does_32 33 rfl ?_
    refine go_st (show Value.int (oI (Pb r)) = .int (nI ((Pb r) - 1)) from by rw [oI_pos (by omega)]) ?_
    refine g_iast (ws' := [ob o7 7 [.int (nI n), .int (nI m), .int (nI z), .ref uP, .ref uS, .ref uQ, .ref uA, .ref uB, .int (nI c), .ref uK, .int (nI (h - 1)), .int (nI ns), .ref uM, .ref uF, .ref uY, .ref uT, .ref uL, .ref uC, .ref uX, .int (oI nf), .ref uI, .ref uR, .ref uW, .ref uH, .ref uG], aN (eY E) uQ 30 Pq, aO (eY E) uA 30 Pa, aO (eY E) uB 30 Pb, aN (eY E) uK 60 (up Sg (h - 1) ((Pb r) - 1))]) (i := (h - 1)) C 4 rfl (by omega) (by decide) dX7_does_33 34 rfl (upd_N _ _ _) rfl ?_
    refine g_aload_n C dX7_does_34 rfl 35 rfl 0 rfl ?_
    refine g_dup C dX7_does_35 rfl 36 rfl ?_
    refine g_get C iX7 0 rfl rfl 10 (by decide) (C.1.2.2.2.2 (.fieldLink RX7 85 "StackRunsModel" "height" "I") (List.mem_of_getElem? (i := 1) rfl)) rfl dX7_does_36 39 rfl ?_
    refine g_iconst (v := nI 1) C dX7_does_39 (by decide) 40 rfl ?_
    refine g_iadd (z := nI ((h - 1) + 1)) C dX7_does_40 41 rfl (nI_add _ _) ?_
    refine g_put (ws' := [ob o7 7 [.int (nI n), .int (nI m), .int (nI z), .ref uP, .ref uS, .ref uQ, .ref uA, .ref uB, .int (nI c), .ref uK, .int (nI ((h - 1) + 1)), .int (nI ns), .ref uM, .ref uF, .ref uY, .ref uT, .ref uL, .ref uC, .ref uX, .int (oI nf), .ref uI, .ref uR, .ref uW, .ref uH, .ref uG], aN (eY E) uQ 30 Pq, aO (eY E) uA 30 Pa, aO (eY E) uB 30 Pb, aN (eY E) uK 60 (up Sg (h - 1) ((Pb r) - 1))]) (ty := .int) C iX7 tyX7_ok nmX7 0 rfl rfl 10 (by decide) (C.1.2.2.2.2 (.fieldLink RX7 85 "StackRunsModel" "height" "I") (List.mem_of_getElem? (i := 1) rfl)) rfl (by decide +kernel) rfl rfl (Nat.le_of_ble_eq_true rfl) dX7_does_41 44 rfl rfl ?_
    refine g_aload_n C dX7_does_44 rfl 45 rfl 0 rfl ?_
    refine g_iload_n C dX7_does_45 rfl 46 rfl 1 rfl ?_
    refine g_cVi (ws2 := [ob o7 7 [.int (nI n), .int (nI m), .int (nI z), .ref uP, .ref uS, .ref uQ, .ref uA, .ref uB, .int (nI c), .ref uK, .int (nI ((h - 1) + 1)), .int (nI ns), .ref uM, .ref uF, .ref uY, .ref uT, .ref uL, .ref uC, .ref uX, .int (oI nf), .ref uI, .ref uR, .ref uW, .ref uH, .ref uG], aN (eY E) uQ 30 Pq, aO (eY E) uA 30 Pa, aO (eY E) uB 30 Pb, aN (eY E) uK 60 (up Sg (h - 1) ((Pb r) - 1))]) (As := [.int (nI r)]) (st := []) (wsc := [ob o7 7 [.int (nI n), .int (nI m), .int (nI z), .ref uP, .ref uS, .ref uQ, .ref uA, .ref uB, .int (nI c), .ref uK, .int (nI ((h - 1) + 1)), .int (nI ns), .ref uM, .ref uF, .ref uY, .ref uT, .ref uL, .ref uC, .ref uX, .int (oI nf), .ref uI, .ref uR, .ref uW, .ref uH, .ref uG], aO (eY E) uA 30 Pa, aO (eY E) uB 30 Pb]) (wr := [aN (eY E) uQ 30 Pq, aN (eY E) uK 60 (up Sg (h - 1) ((Pb r) - 1))]) C (c_X7_puts (eL E) (eD E) (eY E) o7 n m z uP uS uQ uA uB c uK ((h - 1) + 1) ns uM uF uY uT uL uC uX nf uI uR uW uH uG Pa Pb r (by assumption) (by omega)) 1 gX7_does_X7_puts rfl (by decide +kernel) (by decide) ⟨Nat.zero_le _, Nat.zero_le _⟩ rfl 0 rfl rfl rfl (Nat.le_of_ble_eq_true rfl) [0, 2, 3] [1, 4] [2, 0, 3, 4, 1] rfl rfl (by decide) (by decide) rfl (by decide) dX7_does_46 49 rfl ?_
    refine g_if_le (X := puF Pa Pb r = 0) C dX7_does_49 77 (by decide) 52 rfl (nI_le0 (by omega)) ?_ ?_
    · intro h49
      refine g_aload_n C dX7_does_77 rfl 78 rfl 0 rfl ?_
      refine g_aload_n C dX7_does_78 rfl 79 rfl 0 rfl ?_
      refine g_get C iX7 0 rfl rfl 5 (by decide) (C.1.2.2.2.2 (.fieldLink RX7 23 "StackRunsModel" "ruleQ" "[I") (List.mem_of_getElem? (i := 5) rfl)) rfl dX7_does_79 82 rfl ?_
      refine g_iload_n C dX7_does_82 rfl 83 rfl 1 rfl ?_
      refine g_iald (i := r) C 1 rfl (by omega) (by decide) dX7_does_83 84 rfl ?_
      refine g_put (ws' := [ob o7 7 [.int (nI n), .int (nI m), .int (nI z), .ref uP, .ref uS, .ref uQ, .ref uA, .ref uB, .int (nI (Pq r)), .ref uK, .int (nI ((h - 1) + 1)), .int (nI ns), .ref uM, .ref uF, .ref uY, .ref uT, .ref uL, .ref uC, .ref uX, .int (oI nf), .ref uI, .ref uR, .ref uW, .ref uH, .ref uG], aN (eY E) uQ 30 Pq, aO (eY E) uA 30 Pa, aO (eY E) uB 30 Pb, aN (eY E) uK 60 (up Sg (h - 1) ((Pb r) - 1))]) (ty := .int) C iX7 tyX7_ok nmX7 0 rfl rfl 8 (by decide) (C.1.2.2.2.2 (.fieldLink RX7 82 "StackRunsModel" "control" "I") (List.mem_of_getElem? (i := 6) rfl)) rfl (by decide +kernel) rfl rfl (Nat.le_of_ble_eq_true rfl) dX7_does_84 87 rfl rfl ?_
      have e_5 : (chH h (Pa r) (Pb r)) = ((h - 1) + 1) := by first | with_reducible rfl | (first | exact does_22 hA2 hB2 | exact does_22h h0h hA2 hB2 | exact does_1 hA3 (puF_1 h16 hA3) | exact does_1h h0h hA3 (puF_1 h16 hA3) | exact does_0 (puF_0 h49) (hA1 (puF_0 h49)) | exact does_0h h0h (puF_0 h49) (hA1 (puF_0 h49)) | (exfalso; rw [h16] at h49; omega))
      have e_6 : (chS Sg h (Pa r) (Pb r)) = (up Sg (h - 1) ((Pb r) - 1)) := by first | with_reducible rfl | (first | exact does_22 hA2 hB2 | exact does_22h h0h hA2 hB2 | exact does_1 hA3 (puF_1 h16 hA3) | exact does_1h h0h hA3 (puF_1 h16 hA3) | exact does_0 (puF_0 h49) (hA1 (puF_0 h49)) | exact does_0h h0h (puF_0 h49) (hA1 (puF_0 h49)) | (exfalso; rw [h16] at h49; omega))
      refine go_eq rfl (st' := []) (ws' := [ob o7 7 [.int (nI n), .int (nI m), .int (nI z), .ref uP, .ref uS, .ref uQ, .ref uA, .ref uB, .int (nI (Pq r)), .ref uK, .int (nI (chH h (Pa r) (Pb r))), .int (nI ns), .ref uM, .ref uF, .ref uY, .ref uT, .ref uL, .ref uC, .ref uX, .int (oI nf), .ref uI, .ref uR, .ref uW, .ref uH, .ref uG], aN (eY E) uQ 30 Pq, aO (eY E) uA 30 Pa, aO (eY E) uB 30 Pb, aN (eY E) uK 60 (chS Sg h (Pa r) (Pb r))]) (by first | with_reducible rfl | (simp only [e_5, e_6, oI_s, oI_0, bI_1, bI_0, and_self, reduceIte]; done)) (by first | with_reducible rfl | (simp only [e_5, e_6, oI_s, oI_0, bI_1, bI_0, and_self, reduceIte]; done)) ?_
      exact hret _ _ dX7_does_87
    · intro h49
      have hA3 := puF_p h49
      refine g_aload_n C dX7_does_52 rfl 53 rfl 0 rfl ?_
      refine g_get C iX7 0 rfl rfl 9 (by decide) (C.1.2.2.2.2 (.fieldLink RX7 32 "StackRunsModel" "stack" "[I") (List.mem_of_getElem? (i := 2) rfl)) rfl dX7_does_53 56 rfl ?_
      refine g_aload_n C dX7_does_56 rfl 57 rfl 0 rfl ?_
      refine g_get C iX7 0 rfl rfl 10 (by decide) (C.1.2.2.2.2 (.fieldLink RX7 85 "StackRunsModel" "height" "I") (List.mem_of_getElem? (i := 1) rfl)) rfl dX7_does_57 60 rfl ?_
      refine g_aload_n C dX7_does_60 rfl 61 rfl 0 rfl ?_
      refine g_get C iX7 0 rfl rfl 6 (by decide) (C.1.2.2.2.2 (.fieldLink RX7 26 "StackRunsModel" "ruleA" "[I") (List.mem_of_getElem? (i := 4) rfl)) rfl dX7_does_61 64 rfl ?_
      refine g_iload_n C dX7_does_64 rfl 65 rfl 1 rfl ?_
      refine g_iald (i := r) C 2 rfl (by omega) (by decide) dX7_does_65 66 rfl ?_
      refine go_st (show Value.int (oI (Pa r)) = .int (nI ((Pa r) - 1)) from by rw [oI_pos (by omega)]) ?_
      refine g_iast (ws' := [ob o7 7 [.int (nI n), .int (nI m), .int (nI z), .ref uP, .ref uS, .ref uQ, .ref uA, .ref uB, .int (nI c), .ref uK, .int (nI ((h - 1) + 1)), .int (nI ns), .ref uM, .ref uF, .ref uY, .ref uT, .ref uL, .ref uC, .ref uX, .int (oI nf), .ref uI, .ref uR, .ref uW, .ref uH, .ref uG], aN (eY E) uQ 30 Pq, aO (eY E) uA 30 Pa, aO (eY E) uB 30 Pb, aN (eY E) uK 60 (up (up Sg (h - 1) ((Pb r) - 1)) ((h - 1) + 1) ((Pa r) - 1))]) (i := ((h - 1) + 1)) C 4 rfl (by omega) (by decide) dX7_does_66 67 rfl (upd_N _ _ _) rfl ?_
      refine g_aload_n C dX7_does_67 rfl 68 rfl 0 rfl ?_
      refine g_dup C dX7_does_68 rfl 69 rfl ?_
      refine g_get C iX7 0 rfl rfl 10 (by decide) (C.1.2.2.2.2 (.fieldLink RX7 85 "StackRunsModel" "height" "I") (List.mem_of_getElem? (i := 1) rfl)) rfl dX7_does_69 72 rfl ?_
      refine g_iconst (v := nI 1) C dX7_does_72 (by decide) 73 rfl ?_
      refine g_iadd (z := nI (((h - 1) + 1) + 1)) C dX7_does_73 74 rfl (nI_add _ _) ?_
      refine g_put (ws' := [ob o7 7 [.int (nI n), .int (nI m), .int (nI z), .ref uP, .ref uS, .ref uQ, .ref uA, .ref uB, .int (nI c), .ref uK, .int (nI (((h - 1) + 1) + 1)), .int (nI ns), .ref uM, .ref uF, .ref uY, .ref uT, .ref uL, .ref uC, .ref uX, .int (oI nf), .ref uI, .ref uR, .ref uW, .ref uH, .ref uG], aN (eY E) uQ 30 Pq, aO (eY E) uA 30 Pa, aO (eY E) uB 30 Pb, aN (eY E) uK 60 (up (up Sg (h - 1) ((Pb r) - 1)) ((h - 1) + 1) ((Pa r) - 1))]) (ty := .int) C iX7 tyX7_ok nmX7 0 rfl rfl 10 (by decide) (C.1.2.2.2.2 (.fieldLink RX7 85 "StackRunsModel" "height" "I") (List.mem_of_getElem? (i := 1) rfl)) rfl (by decide +kernel) rfl rfl (Nat.le_of_ble_eq_true rfl) dX7_does_74 77 rfl rfl ?_
      refine g_aload_n C dX7_does_77 rfl 78 rfl 0 rfl ?_
      refine g_aload_n C dX7_does_78 rfl 79 rfl 0 rfl ?_
      refine g_get C iX7 0 rfl rfl 5 (by decide) (C.1.2.2.2.2 (.fieldLink RX7 23 "StackRunsModel" "ruleQ" "[I") (List.mem_of_getElem? (i := 5) rfl)) rfl dX7_does_79 82 rfl ?_
      refine g_iload_n C dX7_does_82 rfl 83 rfl 1 rfl ?_
      refine g_iald (i := r) C 1 rfl (by omega) (by decide) dX7_does_83 84 rfl ?_
      refine g_put (ws' := [ob o7 7 [.int (nI n), .int (nI m), .int (nI z), .ref uP, .ref uS, .ref uQ, .ref uA, .ref uB, .int (nI (Pq r)), .ref uK, .int (nI (((h - 1) + 1) + 1)), .int (nI ns), .ref uM, .ref uF, .ref uY, .ref uT, .ref uL, .ref uC, .ref uX, .int (oI nf), .ref uI, .ref uR, .ref uW, .ref uH, .ref uG], aN (eY E) uQ 30 Pq, aO (eY E) uA 30 Pa, aO (eY E) uB 30 Pb, aN (eY E) uK 60 (up (up Sg (h - 1) ((Pb r) - 1)) ((h - 1) + 1) ((Pa r) - 1))]) (ty := .int) C iX7 tyX7_ok nmX7 0 rfl rfl 8 (by decide) (C.1.2.2.2.2 (.fieldLink RX7 82 "StackRunsModel" "control" "I") (List.mem_of_getElem? (i := 6) rfl)) rfl (by decide +kernel) rfl rfl (Nat.le_of_ble_eq_true rfl) dX7_does_84 87 rfl rfl ?_
      have e_7 : (chH h (Pa r) (Pb r)) = (((h - 1) + 1) + 1) := by first | with_reducible rfl | (first | exact does_22 hA2 hB2 | exact does_22h h0h hA2 hB2 | exact does_1 hA3 (puF_1 h16 hA3) | exact does_1h h0h hA3 (puF_1 h16 hA3) | exact does_0 (puF_0 h49) (hA1 (puF_0 h49)) | exact does_0h h0h (puF_0 h49) (hA1 (puF_0 h49)) | (exfalso; rw [h16] at h49; omega))
      have e_8 : (chS Sg h (Pa r) (Pb r)) = (up (up Sg (h - 1) ((Pb r) - 1)) ((h - 1) + 1) ((Pa r) - 1)) := by first | with_reducible rfl | (first | exact does_22 hA2 hB2 | exact does_22h h0h hA2 hB2 | exact does_1 hA3 (puF_1 h16 hA3) | exact does_1h h0h hA3 (puF_1 h16 hA3) | exact does_0 (puF_0 h49) (hA1 (puF_0 h49)) | exact does_0h h0h (puF_0 h49) (hA1 (puF_0 h49)) | (exfalso; rw [h16] at h49; omega))
      refine go_eq rfl (st' := []) (ws' := [ob o7 7 [.int (nI n), .int (nI m), .int (nI z), .ref uP, .ref uS, .ref uQ, .ref uA, .ref uB, .int (nI (Pq r)), .ref uK, .int (nI (chH h (Pa r) (Pb r))), .int (nI ns), .ref uM, .ref uF, .ref uY, .ref uT, .ref uL, .ref uC, .ref uX, .int (oI nf), .ref uI, .ref uR, .ref uW, .ref uH, .ref uG], aN (eY E) uQ 30 Pq, aO (eY E) uA 30 Pa, aO (eY E) uB 30 Pb, aN (eY E) uK 60 (chS Sg h (Pa r) (Pb r))]) (by first | with_reducible rfl | (simp only [e_7, e_8, oI_s, oI_0, bI_1, bI_0, and_self, reduceIte]; done)) (by first | with_reducible rfl | (simp only [e_7, e_8, oI_s, oI_0, bI_1, bI_0, and_self, reduceIte]; done)) ?_
      exact hret _ _ dX7_does_87
set_option maxHeartbeats 4000000 in
set_option maxRecDepth 100000 in
theorem c_X7_isLinked (l : Launch) (D : va_G) (cy : Nat → ClassId) (o7 : Nat) (n : Nat) (m : Nat) (z : Nat) (uP : Nat) (uS : Nat) (uQ : Nat) (uA : Nat) (uB : Nat) (c : Nat) (uK : Nat) (h : Nat) (ns : Nat) (uM : Nat) (uF : Nat) (uY : Nat) (uT : Nat) (uL : Nat) (uC : Nat) (uX : Nat) (nf : Nat) (uI : Nat) (uR : Nat) (uW : Nat) (uH : Nat) (uG : Nat) (Lm : Nat → Nat) (Lf : Nat → Nat) (Ly : Nat → Nat) (Lt : Nat → Nat) (j : Nat) (f : Nat) (s : Nat) (t : Nat) (hL : ∀ k, Lf k < 11 ∧ Ly k < 5 ∧ Lt k < 11) (hLm : ∀ k, Lm k ≤ 24) (hj : j < 6) (hf : f < 100) (hs : s < 100) (ht : t < 100) : CoI l yX7_isLinked wsX7_isLinked 0 0 D cy [ob o7 7 [.int (nI n), .int (nI m), .int (nI z), .ref uP, .ref uS, .ref uQ, .ref uA, .ref uB, .int (nI c), .ref uK, .int (nI h), .int (nI ns), .ref uM, .ref uF, .ref uY, .ref uT, .ref uL, .ref uC, .ref uX, .int (oI nf), .ref uI, .ref uR, .ref uW, .ref uH, .ref uG], aN cy uM 6 Lm, aN cy uF 144 Lf, aN cy uY 144 Ly, aN cy uT 144 Lt] [.ref o7, .int (nI j), .int (nI f), .int (nI s), .int (nI t)] [ob o7 7 [.int (nI n), .int (nI m), .int (nI z), .ref uP, .ref uS, .ref uQ, .ref uA, .ref uB, .int (nI c), .ref uK, .int (nI h), .int (nI ns), .ref uM, .ref uF, .ref uY, .ref uT, .ref uL, .ref uC, .ref uX, .int (oI nf), .ref uI, .ref uR, .ref uW, .ref uH, .ref uG], aN cy uM 6 Lm, aN cy uF 144 Lf, aN cy uY 144 Ly, aN cy uT 144 Lt] (bI (lkG Lf Ly Lt Lm j f s t)) := by
  refine met_z (cc := cX7_isLinked) (maxL := 7) (own := RX7) (lv := [(0, .ref o7), (1, .int (nI j)), (2, .int (nI f)), (3, .int (nI s)), (4, .int (nI t))]) (by decide) rfl rfl rfl (Nat.le_of_ble_eq_true rfl) (fun E e1 e2 e3 C hret => ?_)
  subst e1; subst e2; subst e3
  have iX7 : ∀ w ∈ wsX70, w ∈ wsX7_isLinked := fun _ h => List.mem_cons_of_mem _ (List.mem_append_right _ h)
  have hM := hLm j
  refine g_iconst (v := nI 0) C dX7_isLinked_0 (by decide) 1 rfl ?_
  refine g_istore (lv' := [(5, .int (nI 0)), (0, .ref o7), (1, .int (nI j)), (2, .int (nI f)), (3, .int (nI s)), (4, .int (nI t))]) C dX7_isLinked_1 3 rfl (by decide) rfl ?_
  refine g_bipush (v := nI 24) C dX7_isLinked_3 (by decide) 5 rfl ?_
  refine g_iload_n C dX7_isLinked_5 rfl 6 rfl 2 rfl ?_
  refine g_imul (z := nI (24 * j)) C dX7_isLinked_6 7 rfl (pk_mul _ _) ?_
  refine g_istore (lv' := [(6, .int (nI (24 * j))), (5, .int (nI 0)), (0, .ref o7), (1, .int (nI j)), (2, .int (nI f)), (3, .int (nI s)), (4, .int (nI t))]) C dX7_isLinked_7 9 rfl (by decide) rfl ?_
  have L9 : ∀ i, i ≤ Lm j → Go E 0 0 9 [(6, .int (nI (24 * j + i))), (5, .int (bI (lkF Lf Ly Lt (24 * j) f s t i))), (0, .ref o7), (1, .int (nI j)), (2, .int (nI f)), (3, .int (nI s)), (4, .int (nI t))] [] [ob o7 7 [.int (nI n), .int (nI m), .int (nI z), .ref uP, .ref uS, .ref uQ, .ref uA, .ref uB, .int (nI c), .ref uK, .int (nI h), .int (nI ns), .ref uM, .ref uF, .ref uY, .ref uT, .ref uL, .ref uC, .ref uX, .int (oI nf), .ref uI, .ref uR, .ref uW, .ref uH, .ref uG], aN (eY E) uM 6 Lm, aN (eY E) uF 144 Lf, aN (eY E) uY 144 Ly, aN (eY E) uT 144 Lt] := by
    refine go_for (Lm j) (fun i => Go E 0 0 9 [(6, .int (nI (24 * j + i))), (5, .int (bI (lkF Lf Ly Lt (24 * j) f s t i))), (0, .ref o7), (1, .int (nI j)), (2, .int (nI f)), (3, .int (nI s)), (4, .int (nI t))] [] [ob o7 7 [.int (nI n), .int (nI m), .int (nI z), .ref uP, .ref uS, .ref uQ, .ref uA, .ref uB, .int (nI c), .ref uK, .int (nI h), .int (nI ns), .ref uM, .ref uF, .ref uY, .ref uT, .ref uL, .ref uC, .ref uX, .int (oI nf), .ref uI, .ref uR, .ref uW, .ref uH, .ref uG], aN (eY E) uM 6 Lm, aN (eY E) uF 144 Lf, aN (eY E) uY 144 Ly, aN (eY E) uT 144 Lt]) (fun i hi_i ih_i => ?_)
    have hL1 := hL (24 * j + i)
    refine g_iload C dX7_isLinked_9 11 rfl 0 rfl ?_
    refine g_bipush (v := nI 24) C dX7_isLinked_11 (by decide) 13 rfl ?_
    refine g_iload_n C dX7_isLinked_13 rfl 14 rfl 3 rfl ?_
    refine g_imul (z := nI (24 * j)) C dX7_isLinked_14 15 rfl (pk_mul _ _) ?_
    refine g_aload_n C dX7_isLinked_15 rfl 16 rfl 2 rfl ?_
    refine g_get C iX7 0 rfl rfl 12 (by decide) (C.1.2.2.2.2 (.fieldLink RX7 35 "StackRunsModel" "linkMany" "[I") (List.mem_of_getElem? (i := 1) rfl)) rfl dX7_isLinked_16 19 rfl ?_
    refine g_iload_n C dX7_isLinked_19 rfl 20 rfl 3 rfl ?_
    refine g_iald (i := j) C 1 rfl (by omega) (by decide) dX7_isLinked_20 21 rfl ?_
    refine g_iadd (z := nI ((24 * j) + (Lm j))) C dX7_isLinked_21 22 rfl (nI_add _ _) ?_
    refine g_icmp_ge (X := (24 * j) + (Lm j) ≤ 24 * j + i) C dX7_isLinked_22 77 (by decide) 25 rfl (nI_leI (by omega) (by omega)) ?_ ?_
    · intro h22
      have x_i : i = Lm j := by omega
      try rw [x_i]
      refine g_iload C dX7_isLinked_77 79 rfl 1 rfl ?_
      have e_1 : (lkG Lf Ly Lt Lm j f s t) = (lkF Lf Ly Lt (24 * j) f s t (Lm j)) := by first | with_reducible rfl | (rfl)
      refine go_eq rfl (st' := [.int (bI (lkG Lf Ly Lt Lm j f s t))]) (ws' := [ob o7 7 [.int (nI n), .int (nI m), .int (nI z), .ref uP, .ref uS, .ref uQ, .ref uA, .ref uB, .int (nI c), .ref uK, .int (nI h), .int (nI ns), .ref uM, .ref uF, .ref uY, .ref uT, .ref uL, .ref uC, .ref uX, .int (oI nf), .ref uI, .ref uR, .ref uW, .ref uH, .ref uG], aN (eY E) uM 6 Lm, aN (eY E) uF 144 Lf, aN (eY E) uY 144 Ly, aN (eY E) uT 144 Lt]) (by first | with_reducible rfl | (simp only [e_1, oI_s, oI_0, bI_1, bI_0, and_self, reduceIte]; done)) (by first | with_reducible rfl | (simp only [e_1, oI_s, oI_0, bI_1, bI_0, and_self, reduceIte]; done)) ?_
      exact hret _ _ dX7_isLinked_79
    · intro h22
      refine g_iload C dX7_isLinked_25 27 rfl 1 rfl ?_
      refine g_if_ne (X := lkF Lf Ly Lt (24 * j) f s t i = true) C dX7_isLinked_27 64 (by decide) 30 rfl (bI_ne0 _) ?_ ?_
      · intro h27
        refine g_iconst (v := nI 1) C dX7_isLinked_64 (by decide) 65 rfl ?_
        refine g_goto C dX7_isLinked_65 69 (by decide) ?_
        refine g_istore (lv' := [(5, .int (nI 1)), (6, .int (nI (24 * j + i))), (0, .ref o7), (1, .int (nI j)), (2, .int (nI f)), (3, .int (nI s)), (4, .int (nI t))]) C dX7_isLinked_69 71 rfl (by decide) rfl ?_
        refine g_iinc (lv' := [(6, .int (nI ((24 * j + i) + 1))), (5, .int (nI 1)), (0, .ref o7), (1, .int (nI j)), (2, .int (nI f)), (3, .int (nI s)), (4, .int (nI t))]) C dX7_isLinked_71 74 rfl 1 rfl (by decide) rfl ?_
        refine g_goto C dX7_isLinked_74 9 (by decide) ?_
        have e_2 : (24 * j + (i + 1)) = ((24 * j + i) + 1) := by first | with_reducible rfl | (first | rfl | (simp [lkF, *]; done))
        have e_3 : (lkF Lf Ly Lt (24 * j) f s t (i + 1)) = true := by first | with_reducible rfl | (first | rfl | (simp [lkF, *]; done))
        refine go_eq (lv' := [(6, .int (nI (24 * j + (i + 1)))), (5, .int (bI (lkF Lf Ly Lt (24 * j) f s t (i + 1)))), (0, .ref o7), (1, .int (nI j)), (2, .int (nI f)), (3, .int (nI s)), (4, .int (nI t))]) (ws' := [ob o7 7 [.int (nI n), .int (nI m), .int (nI z), .ref uP, .ref uS, .ref uQ, .ref uA, .ref uB, .int (nI c), .ref uK, .int (nI h), .int (nI ns), .ref uM, .ref uF, .ref uY, .ref uT, .ref uL, .ref uC, .ref uX, .int (oI nf), .ref uI, .ref uR, .ref uW, .ref uH, .ref uG], aN (eY E) uM 6 Lm, aN (eY E) uF 144 Lf, aN (eY E) uY 144 Ly, aN (eY E) uT 144 Lt]) (by first | with_reducible rfl | (simp only [e_2, e_3, oI_s, oI_0, bI_1, bI_0, and_self, reduceIte]; done)) rfl (by first | with_reducible rfl | (simp only [oI_s, oI_0, bI_1, bI_0, and_self, reduceIte]; done) | rfl) ?_
        exact ih_i (by omega)
      · intro h27
        have h27 : lkF Lf Ly Lt (24 * j) f s t i = false := by simpa using h27
        refine g_aload_n C dX7_isLinked_30 rfl 31 rfl 2 rfl ?_
        refine g_get C iX7 0 rfl rfl 13 (by decide) (C.1.2.2.2.2 (.fieldLink RX7 38 "StackRunsModel" "linkFrom" "[I") (List.mem_of_getElem? (i := 2) rfl)) rfl dX7_isLinked_31 34 rfl ?_
        refine g_iload C dX7_isLinked_34 36 rfl 0 rfl ?_
        refine g_iald (i := (24 * j + i)) C 2 rfl (by omega) (by decide) dX7_isLinked_36 37 rfl ?_
        refine g_iload_n C dX7_isLinked_37 rfl 38 rfl 4 rfl ?_
        refine g_icmp_ne (X := ¬ Lf (24 * j + i) = f) C dX7_isLinked_38 68 (by decide) 41 rfl (not_congr (nI_eq (by omega) (by omega))) ?_ ?_
        · intro h38
          refine g_iconst (v := nI 0) C dX7_isLinked_68 (by decide) 69 rfl ?_
          refine g_istore (lv' := [(5, .int (nI 0)), (6, .int (nI (24 * j + i))), (0, .ref o7), (1, .int (nI j)), (2, .int (nI f)), (3, .int (nI s)), (4, .int (nI t))]) C dX7_isLinked_69 71 rfl (by decide) rfl ?_
          refine g_iinc (lv' := [(6, .int (nI ((24 * j + i) + 1))), (5, .int (nI 0)), (0, .ref o7), (1, .int (nI j)), (2, .int (nI f)), (3, .int (nI s)), (4, .int (nI t))]) C dX7_isLinked_71 74 rfl 1 rfl (by decide) rfl ?_
          refine g_goto C dX7_isLinked_74 9 (by decide) ?_
          have e_4 : (24 * j + (i + 1)) = ((24 * j + i) + 1) := by first | with_reducible rfl | (first | rfl | (simp [lkF, *]; done))
          have e_5 : (lkF Lf Ly Lt (24 * j) f s t (i + 1)) = false := by first | with_reducible rfl | (first | rfl | (simp [lkF, *]; done))
          refine go_eq (lv' := [(6, .int (nI (24 * j + (i + 1)))), (5, .int (bI (lkF Lf Ly Lt (24 * j) f s t (i + 1)))), (0, .ref o7), (1, .int (nI j)), (2, .int (nI f)), (3, .int (nI s)), (4, .int (nI t))]) (ws' := [ob o7 7 [.int (nI n), .int (nI m), .int (nI z), .ref uP, .ref uS, .ref uQ, .ref uA, .ref uB, .int (nI c), .ref uK, .int (nI h), .int (nI ns), .ref uM, .ref uF, .ref uY, .ref uT, .ref uL, .ref uC, .ref uX, .int (oI nf), .ref uI, .ref uR, .ref uW, .ref uH, .ref uG], aN (eY E) uM 6 Lm, aN (eY E) uF 144 Lf, aN (eY E) uY 144 Ly, aN (eY E) uT 144 Lt]) (by first | with_reducible rfl | (simp only [e_4, e_5, oI_s, oI_0, bI_1, bI_0, and_self, reduceIte]; done)) rfl (by first | with_reducible rfl | (simp only [oI_s, oI_0, bI_1, bI_0, and_self, reduceIte]; done) | rfl) ?_
          exact ih_i (by omega)
        · intro h38
          have h38 : Lf (24 * j + i) = f := Decidable.not_not.mp h38
          refine g_aload_n C dX7_isLinked_41 rfl 42 rfl 2 rfl ?_
          refine g_get C iX7 0 rfl rfl 14 (by decide) (C.1.2.2.2.2 (.fieldLink RX7 41 "StackRunsModel" "linkBy" "[I") (List.mem_of_getElem? (i := 3) rfl)) rfl dX7_isLinked_42 45 rfl ?_
          refine g_iload C dX7_isLinked_45 47 rfl 0 rfl ?_
          refine g_iald (i := (24 * j + i)) C 3 rfl (by omega) (by decide) dX7_isLinked_47 48 rfl ?_
          refine g_iload_n C dX7_isLinked_48 rfl 49 rfl 5 rfl ?_
          refine g_icmp_ne (X := ¬ Ly (24 * j + i) = s) C dX7_isLinked_49 68 (by decide) 52 rfl (not_congr (nI_eq (by omega) (by omega))) ?_ ?_
          · intro h49
            refine g_iconst (v := nI 0) C dX7_isLinked_68 (by decide) 69 rfl ?_
            refine g_istore (lv' := [(5, .int (nI 0)), (6, .int (nI (24 * j + i))), (0, .ref o7), (1, .int (nI j)), (2, .int (nI f)), (3, .int (nI s)), (4, .int (nI t))]) C dX7_isLinked_69 71 rfl (by decide) rfl ?_
            refine g_iinc (lv' := [(6, .int (nI ((24 * j + i) + 1))), (5, .int (nI 0)), (0, .ref o7), (1, .int (nI j)), (2, .int (nI f)), (3, .int (nI s)), (4, .int (nI t))]) C dX7_isLinked_71 74 rfl 1 rfl (by decide) rfl ?_
            refine g_goto C dX7_isLinked_74 9 (by decide) ?_
            have e_6 : (24 * j + (i + 1)) = ((24 * j + i) + 1) := by first | with_reducible rfl | (first | rfl | (simp [lkF, *]; done))
            have e_7 : (lkF Lf Ly Lt (24 * j) f s t (i + 1)) = false := by first | with_reducible rfl | (first | rfl | (simp [lkF, *]; done))
            refine go_eq (lv' := [(6, .int (nI (24 * j + (i + 1)))), (5, .int (bI (lkF Lf Ly Lt (24 * j) f s t (i + 1)))), (0, .ref o7), (1, .int (nI j)), (2, .int (nI f)), (3, .int (nI s)), (4, .int (nI t))]) (ws' := [ob o7 7 [.int (nI n), .int (nI m), .int (nI z), .ref uP, .ref uS, .ref uQ, .ref uA, .ref uB, .int (nI c), .ref uK, .int (nI h), .int (nI ns), .ref uM, .ref uF, .ref uY, .ref uT, .ref uL, .ref uC, .ref uX, .int (oI nf), .ref uI, .ref uR, .ref uW, .ref uH, .ref uG], aN (eY E) uM 6 Lm, aN (eY E) uF 144 Lf, aN (eY E) uY 144 Ly, aN (eY E) uT 144 Lt]) (by first | with_reducible rfl | (simp only [e_6, e_7, oI_s, oI_0, bI_1, bI_0, and_self, reduceIte]; done)) rfl (by first | with_reducible rfl | (simp only [oI_s, oI_0, bI_1, bI_0, and_self, reduceIte]; done) | rfl) ?_
            exact ih_i (by omega)
          · intro h49
            have h49 : Ly (24 * j + i) = s := Decidable.not_not.mp h49
            refine g_aload_n C dX7_isLinked_52 rfl 53 rfl 2 rfl ?_
            refine g_get C iX7 0 rfl rfl 15 (by decide) (C.1.2.2.2.2 (.fieldLink RX7 44 "StackRunsModel" "linkTo" "[I") (List.mem_of_getElem? (i := 4) rfl)) rfl dX7_isLinked_53 56 rfl ?_
            refine g_iload C dX7_isLinked_56 58 rfl 0 rfl ?_
            refine g_iald (i := (24 * j + i)) C 4 rfl (by omega) (by decide) dX7_isLinked_58 59 rfl ?_
            refine g_iload C dX7_isLinked_59 61 rfl 6 rfl ?_
            refine g_icmp_ne (X := ¬ Lt (24 * j + i) = t) C dX7_isLinked_61 68 (by decide) 64 rfl (not_congr (nI_eq (by omega) (by omega))) ?_ ?_
            · intro h61
              refine g_iconst (v := nI 0) C dX7_isLinked_68 (by decide) 69 rfl ?_
              refine g_istore (lv' := [(5, .int (nI 0)), (6, .int (nI (24 * j + i))), (0, .ref o7), (1, .int (nI j)), (2, .int (nI f)), (3, .int (nI s)), (4, .int (nI t))]) C dX7_isLinked_69 71 rfl (by decide) rfl ?_
              refine g_iinc (lv' := [(6, .int (nI ((24 * j + i) + 1))), (5, .int (nI 0)), (0, .ref o7), (1, .int (nI j)), (2, .int (nI f)), (3, .int (nI s)), (4, .int (nI t))]) C dX7_isLinked_71 74 rfl 1 rfl (by decide) rfl ?_
              refine g_goto C dX7_isLinked_74 9 (by decide) ?_
              have e_8 : (24 * j + (i + 1)) = ((24 * j + i) + 1) := by first | with_reducible rfl | (first | rfl | (simp [lkF, *]; done))
              have e_9 : (lkF Lf Ly Lt (24 * j) f s t (i + 1)) = false := by first | with_reducible rfl | (first | rfl | (simp [lkF, *]; done))
              refine go_eq (lv' := [(6, .int (nI (24 * j + (i + 1)))), (5, .int (bI (lkF Lf Ly Lt (24 * j) f s t (i + 1)))), (0, .ref o7), (1, .int (nI j)), (2, .int (nI f)), (3, .int (nI s)), (4, .int (nI t))]) (ws' := [ob o7 7 [.int (nI n), .int (nI m), .int (nI z), .ref uP, .ref uS, .ref uQ, .ref uA, .ref uB, .int (nI c), .ref uK, .int (nI h), .int (nI ns), .ref uM, .ref uF, .ref uY, .ref uT, .ref uL, .ref uC, .ref uX, .int (oI nf), .ref uI, .ref uR, .ref uW, .ref uH, .ref uG], aN (eY E) uM 6 Lm, aN (eY E) uF 144 Lf, aN (eY E) uY 144 Ly, aN (eY E) uT 144 Lt]) (by first | with_reducible rfl | (simp only [e_8, e_9, oI_s, oI_0, bI_1, bI_0, and_self, reduceIte]; done)) rfl (by first | with_reducible rfl | (simp only [oI_s, oI_0, bI_1, bI_0, and_self, reduceIte]; done) | rfl) ?_
              exact ih_i (by omega)
            · intro h61
              have h61 : Lt (24 * j + i) = t := Decidable.not_not.mp h61
              refine g_iconst (v := nI 1) C dX7_isLinked_64 (by decide) 65 rfl ?_
              refine g_goto C dX7_isLinked_65 69 (by decide) ?_
              refine g_istore (lv' := [(5, .int (nI 1)), (6, .int (nI (24 * j + i))), (0, .ref o7), (1, .int (nI j)), (2, .int (nI f)), (3, .int (nI s)), (4, .int (nI t))]) C dX7_isLinked_69 71 rfl (by decide) rfl ?_
              refine g_iinc (lv' := [(6, .int (nI ((24 * j + i) + 1))), (5, .int (nI 1)), (0, .ref o7), (1, .int (nI j)), (2, .int (nI f)), (3, .int (nI s)), (4, .int (nI t))]) C dX7_isLinked_71 74 rfl 1 rfl (by decide) rfl ?_
              refine g_goto C dX7_isLinked_74 9 (by decide) ?_
              have e_10 : (24 * j + (i + 1)) = ((24 * j + i) + 1) := by first | with_reducible rfl | (first | rfl | (simp [lkF, *]; done))
              have e_11 : (lkF Lf Ly Lt (24 * j) f s t (i + 1)) = true := by first | with_reducible rfl | (first | rfl | (simp [lkF, *]; done))
              refine go_eq (lv' := [(6, .int (nI (24 * j + (i + 1)))), (5, .int (bI (lkF Lf Ly Lt (24 * j) f s t (i + 1)))), (0, .ref o7), (1, .int (nI j)), (2, .int (nI f)), (3, .int (nI s)), (4, .int (nI t))]) (ws' := [ob o7 7 [.int (nI n), .int (nI m), .int (nI z), .ref uP, .ref uS, .ref uQ, .ref uA, .ref uB, .int (nI c), .ref uK, .int (nI h), .int (nI ns), .ref uM, .ref uF, .ref uY, .ref uT, .ref uL, .ref uC, .ref uX, .int (oI nf), .ref uI, .ref uR, .ref uW, .ref uH, .ref uG], aN (eY E) uM 6 Lm, aN (eY E) uF 144 Lf, aN (eY E) uY 144 Ly, aN (eY E) uT 144 Lt]) (by first | with_reducible rfl | (simp only [e_10, e_11, oI_s, oI_0, bI_1, bI_0, and_self, reduceIte]; done)) rfl (by first | with_reducible rfl | (simp only [oI_s, oI_0, bI_1, bI_0, and_self, reduceIte]; done) | rfl) ?_
              exact ih_i (by omega)
  have e_12 : (24 * j + 0) = (24 * j) := by first | with_reducible rfl | (rfl)
  have e_13 : (lkF Lf Ly Lt (24 * j) f s t 0) = false := by first | with_reducible rfl | (rfl)
  refine go_eq (lv' := [(6, .int (nI (24 * j + 0))), (5, .int (bI (lkF Lf Ly Lt (24 * j) f s t 0))), (0, .ref o7), (1, .int (nI j)), (2, .int (nI f)), (3, .int (nI s)), (4, .int (nI t))]) (ws' := [ob o7 7 [.int (nI n), .int (nI m), .int (nI z), .ref uP, .ref uS, .ref uQ, .ref uA, .ref uB, .int (nI c), .ref uK, .int (nI h), .int (nI ns), .ref uM, .ref uF, .ref uY, .ref uT, .ref uL, .ref uC, .ref uX, .int (oI nf), .ref uI, .ref uR, .ref uW, .ref uH, .ref uG], aN (eY E) uM 6 Lm, aN (eY E) uF 144 Lf, aN (eY E) uY 144 Ly, aN (eY E) uT 144 Lt]) (by first | with_reducible rfl | (simp only [e_12, e_13, oI_s, oI_0, bI_1, bI_0, and_self, reduceIte]; done)) rfl (by first | with_reducible rfl | (simp only [oI_s, oI_0, bI_1, bI_0, and_self, reduceIte]; done) | rfl) ?_
  exact L9 0 (by omega)
set_option maxHeartbeats 4000000 in
set_option maxRecDepth 100000 in
theorem c_X7_holds (l : Launch) (D : va_G) (cy : Nat → ClassId) (o7 : Nat) (n : Nat) (m : Nat) (z : Nat) (uP : Nat) (uS : Nat) (uQ : Nat) (uA : Nat) (uB : Nat) (c : Nat) (uK : Nat) (h : Nat) (ns : Nat) (uM : Nat) (uF : Nat) (uY : Nat) (uT : Nat) (uL : Nat) (uC : Nat) (uX : Nat) (nf : Nat) (uI : Nat) (uR : Nat) (uW : Nat) (uH : Nat) (uG : Nat) (Lm : Nat → Nat) (Lf : Nat → Nat) (Ly : Nat → Nat) (Lt : Nat → Nat) (La : Nat → Bool) (Sg : Nat → Nat) (j : Nat) (hL : ∀ k, Lf k < 11 ∧ Ly k < 5 ∧ Lt k < 11) (hLm : ∀ k, Lm k ≤ 24) (hj : j < 6) (hc : c < 5) (hh : h ≤ 60) (hS : ∀ i, Sg i < 5) : CoI l yX7_holds wsX7_holds 1 26 D cy [ob o7 7 [.int (nI n), .int (nI m), .int (nI z), .ref uP, .ref uS, .ref uQ, .ref uA, .ref uB, .int (nI c), .ref uK, .int (nI h), .int (nI ns), .ref uM, .ref uF, .ref uY, .ref uT, .ref uL, .ref uC, .ref uX, .int (oI nf), .ref uI, .ref uR, .ref uW, .ref uH, .ref uG], aN cy uM 6 Lm, aN cy uF 144 Lf, aN cy uY 144 Ly, aN cy uT 144 Lt, aZ cy uL 66 La, aN cy uK 60 Sg] [.ref o7, .int (nI j)] [ob o7 7 [.int (nI n), .int (nI m), .int (nI z), .ref uP, .ref uS, .ref uQ, .ref uA, .ref uB, .int (nI c), .ref uK, .int (nI h), .int (nI ns), .ref uM, .ref uF, .ref uY, .ref uT, .ref uL, .ref uC, .ref uX, .int (oI nf), .ref uI, .ref uR, .ref uW, .ref uH, .ref uG], aN cy uM 6 Lm, aN cy uF 144 Lf, aN cy uY 144 Ly, aN cy uT 144 Lt, aZ cy uL 66 La, aN cy uK 60 Sg] (bI (mlF La (11 * j) (mhF (lkG Lf Ly Lt Lm j) Sg h (1 * 2 ^ c)) 11)) := by
  refine met_z (cc := cX7_holds) (maxL := 7) (own := RX7) (lv := [(0, .ref o7), (1, .int (nI j))]) (by decide) rfl rfl rfl (Nat.le_of_ble_eq_true rfl) (fun E e1 e2 e3 C hret => ?_)
  subst e1; subst e2; subst e3
  have iX7 : ∀ w ∈ wsX70, w ∈ wsX7_holds := fun _ h => List.mem_cons_of_mem _ (List.mem_append_right _ h)
  refine g_iconst (v := nI 1) C dX7_holds_0 (by decide) 1 rfl ?_
  refine g_aload_n C dX7_holds_1 rfl 2 rfl 0 rfl ?_
  refine g_get C iX7 0 rfl rfl 8 (by decide) (C.1.2.2.2.2 (.fieldLink RX7 82 "StackRunsModel" "control" "I") (List.mem_of_getElem? (i := 1) rfl)) rfl dX7_holds_2 5 rfl ?_
  refine g_ishl (z := nI (1 * 2 ^ c)) C dX7_holds_5 6 rfl (z_shl (by omega) (by have := pow_lt_32 hc; omega)) ?_
  refine g_istore_n (lv' := [(2, .int (nI (1 * 2 ^ c))), (0, .ref o7), (1, .int (nI j))]) C dX7_holds_6 rfl 7 rfl (by decide) rfl ?_
  refine g_aload_n C dX7_holds_7 rfl 8 rfl 1 rfl ?_
  refine g_get C iX7 0 rfl rfl 10 (by decide) (C.1.2.2.2.2 (.fieldLink RX7 85 "StackRunsModel" "height" "I") (List.mem_of_getElem? (i := 2) rfl)) rfl dX7_holds_8 11 rfl ?_
  refine g_iconst (v := nI 1) C dX7_holds_11 (by decide) 12 rfl ?_
  refine g_isub (z := (oI h)) C dX7_holds_12 13 rfl (by exact oI_sub h) ?_
  refine g_istore_n (lv' := [(3, .int (oI h)), (2, .int (nI (1 * 2 ^ c))), (0, .ref o7), (1, .int (nI j))]) C dX7_holds_13 rfl 14 rfl (by decide) rfl ?_
  have L14 : ∀ a, ∀ (P : Nat), (a ≤ 60) → (P < 2 ^ 11) → (mhF (lkG Lf Ly Lt Lm j) Sg a P = mhF (lkG Lf Ly Lt Lm j) Sg h (1 * 2 ^ c)) → Go E 0 0 14 [(3, .int (oI a)), (2, .int (nI P)), (0, .ref o7), (1, .int (nI j))] [] [ob o7 7 [.int (nI n), .int (nI m), .int (nI z), .ref uP, .ref uS, .ref uQ, .ref uA, .ref uB, .int (nI c), .ref uK, .int (nI h), .int (nI ns), .ref uM, .ref uF, .ref uY, .ref uT, .ref uL, .ref uC, .ref uX, .int (oI nf), .ref uI, .ref uR, .ref uW, .ref uH, .ref uG], aN (eY E) uM 6 Lm, aN (eY E) uF 144 Lf, aN (eY E) uY 144 Ly, aN (eY E) uT 144 Lt, aZ (eY E) uL 66 La, aN (eY E) uK 60 Sg] := by
    refine go_down (fun a => ∀ (P : Nat), (a ≤ 60) → (P < 2 ^ 11) → (mhF (lkG Lf Ly Lt Lm j) Sg a P = mhF (lkG Lf Ly Lt Lm j) Sg h (1 * 2 ^ c)) → Go E 0 0 14 [(3, .int (oI a)), (2, .int (nI P)), (0, .ref o7), (1, .int (nI j))] [] [ob o7 7 [.int (nI n), .int (nI m), .int (nI z), .ref uP, .ref uS, .ref uQ, .ref uA, .ref uB, .int (nI c), .ref uK, .int (nI h), .int (nI ns), .ref uM, .ref uF, .ref uY, .ref uT, .ref uL, .ref uC, .ref uX, .int (oI nf), .ref uI, .ref uR, .ref uW, .ref uH, .ref uG], aN (eY E) uM 6 Lm, aN (eY E) uF 144 Lf, aN (eY E) uY 144 Ly, aN (eY E) uT 144 Lt, aZ (eY E) uL 66 La, aN (eY E) uK 60 Sg]) (fun a ih_a => ?_)
    intro P ha hP hF
    refine g_iload_n C dX7_holds_14 rfl 15 rfl 0 rfl ?_
    refine g_if_lt (X := a = 0) C dX7_holds_15 103 (by decide) 18 rfl (oI_lt0 (by omega)) ?_ ?_
    · intro h15
      have ea : a = 0 := by omega
      rw [ea] at hF
      have hF2 : P = mhF (lkG Lf Ly Lt Lm j) Sg h (1 * 2 ^ c) := hF
      refine g_iconst (v := nI 0) C dX7_holds_103 (by decide) 104 rfl ?_
      refine g_istore_n (lv' := [(3, .int (nI 0)), (2, .int (nI P)), (0, .ref o7), (1, .int (nI j))]) C dX7_holds_104 rfl 105 rfl (by decide) rfl ?_
      refine g_iconst (v := nI 0) C dX7_holds_105 (by decide) 106 rfl ?_
      refine g_istore (lv' := [(4, .int (nI 0)), (3, .int (nI 0)), (2, .int (nI P)), (0, .ref o7), (1, .int (nI j))]) C dX7_holds_106 108 rfl (by decide) rfl ?_
      have L108 : ∀ x, x ≤ 11 → Go E 0 0 108 [(4, .int (nI x)), (3, .int (bI (mlF La (11 * j) P x))), (2, .int (nI P)), (0, .ref o7), (1, .int (nI j))] [] [ob o7 7 [.int (nI n), .int (nI m), .int (nI z), .ref uP, .ref uS, .ref uQ, .ref uA, .ref uB, .int (nI c), .ref uK, .int (nI h), .int (nI ns), .ref uM, .ref uF, .ref uY, .ref uT, .ref uL, .ref uC, .ref uX, .int (oI nf), .ref uI, .ref uR, .ref uW, .ref uH, .ref uG], aN (eY E) uM 6 Lm, aN (eY E) uF 144 Lf, aN (eY E) uY 144 Ly, aN (eY E) uT 144 Lt, aZ (eY E) uL 66 La, aN (eY E) uK 60 Sg] := by
        refine go_for 11 (fun x => Go E 0 0 108 [(4, .int (nI x)), (3, .int (bI (mlF La (11 * j) P x))), (2, .int (nI P)), (0, .ref o7), (1, .int (nI j))] [] [ob o7 7 [.int (nI n), .int (nI m), .int (nI z), .ref uP, .ref uS, .ref uQ, .ref uA, .ref uB, .int (nI c), .ref uK, .int (nI h), .int (nI ns), .ref uM, .ref uF, .ref uY, .ref uT, .ref uL, .ref uC, .ref uX, .int (oI nf), .ref uI, .ref uR, .ref uW, .ref uH, .ref uG], aN (eY E) uM 6 Lm, aN (eY E) uF 144 Lf, aN (eY E) uY 144 Ly, aN (eY E) uT 144 Lt, aZ (eY E) uL 66 La, aN (eY E) uK 60 Sg]) (fun x hi_x ih_x => ?_)
        refine g_iload C dX7_holds_108 110 rfl 0 rfl ?_
        refine g_bipush (v := nI 11) C dX7_holds_110 (by decide) 112 rfl ?_
        refine g_icmp_ge (X := 11 ≤ x) C dX7_holds_112 156 (by decide) 115 rfl (nI_leI (by omega) (by omega)) ?_ ?_
        · intro h112
          have x_x : x = 11 := by omega
          try rw [x_x]
          refine g_iload_n C dX7_holds_156 rfl 157 rfl 1 rfl ?_
          have e_1 : (mlF La (11 * j) (mhF (lkG Lf Ly Lt Lm j) Sg h (1 * 2 ^ c)) 11) = (mlF La (11 * j) P 11) := by first | with_reducible rfl | (rw [← hF2])
          refine go_eq rfl (st' := [.int (bI (mlF La (11 * j) (mhF (lkG Lf Ly Lt Lm j) Sg h (1 * 2 ^ c)) 11))]) (ws' := [ob o7 7 [.int (nI n), .int (nI m), .int (nI z), .ref uP, .ref uS, .ref uQ, .ref uA, .ref uB, .int (nI c), .ref uK, .int (nI h), .int (nI ns), .ref uM, .ref uF, .ref uY, .ref uT, .ref uL, .ref uC, .ref uX, .int (oI nf), .ref uI, .ref uR, .ref uW, .ref uH, .ref uG], aN (eY E) uM 6 Lm, aN (eY E) uF 144 Lf, aN (eY E) uY 144 Ly, aN (eY E) uT 144 Lt, aZ (eY E) uL 66 La, aN (eY E) uK 60 Sg]) (by first | with_reducible rfl | (simp only [e_1, oI_s, oI_0, bI_1, bI_0, and_self, reduceIte]; done)) (by first | with_reducible rfl | (simp only [e_1, oI_s, oI_0, bI_1, bI_0, and_self, reduceIte]; done)) ?_
          exact hret _ _ dX7_holds_157
        · intro h112
          refine g_iload_n C dX7_holds_115 rfl 116 rfl 1 rfl ?_
          refine g_if_ne (X := mlF La (11 * j) P x = true) C dX7_holds_116 144 (by decide) 119 rfl (bI_ne0 _) ?_ ?_
          · intro h116
            refine g_iconst (v := nI 1) C dX7_holds_144 (by decide) 145 rfl ?_
            refine g_goto C dX7_holds_145 149 (by decide) ?_
            refine g_istore_n (lv' := [(3, .int (nI 1)), (4, .int (nI x)), (2, .int (nI P)), (0, .ref o7), (1, .int (nI j))]) C dX7_holds_149 rfl 150 rfl (by decide) rfl ?_
            refine g_iinc (lv' := [(4, .int (nI (x + 1))), (3, .int (nI 1)), (2, .int (nI P)), (0, .ref o7), (1, .int (nI j))]) C dX7_holds_150 153 rfl 1 rfl (by decide) rfl ?_
            refine g_goto C dX7_holds_153 108 (by decide) ?_
            have e_2 : (mlF La (11 * j) P (x + 1)) = true := by first | with_reducible rfl | (simp only [mlF]; first | (simp only [h116, Bool.true_or]; done) | (simp only [h116, h126, Bool.false_and, Bool.or_self]; done) | (simp only [h116, h126, h141, Bool.true_and, Bool.or_self, Bool.false_or, Bool.and_false]; done))
            refine go_eq (lv' := [(4, .int (nI (x + 1))), (3, .int (bI (mlF La (11 * j) P (x + 1)))), (2, .int (nI P)), (0, .ref o7), (1, .int (nI j))]) (ws' := [ob o7 7 [.int (nI n), .int (nI m), .int (nI z), .ref uP, .ref uS, .ref uQ, .ref uA, .ref uB, .int (nI c), .ref uK, .int (nI h), .int (nI ns), .ref uM, .ref uF, .ref uY, .ref uT, .ref uL, .ref uC, .ref uX, .int (oI nf), .ref uI, .ref uR, .ref uW, .ref uH, .ref uG], aN (eY E) uM 6 Lm, aN (eY E) uF 144 Lf, aN (eY E) uY 144 Ly, aN (eY E) uT 144 Lt, aZ (eY E) uL 66 La, aN (eY E) uK 60 Sg]) (by first | with_reducible rfl | (simp only [e_2, oI_s, oI_0, bI_1, bI_0, and_self, reduceIte]; done)) rfl (by first | with_reducible rfl | (simp only [oI_s, oI_0, bI_1, bI_0, and_self, reduceIte]; done) | rfl) ?_
            exact ih_x (by omega)
          · intro h116
            have h116 : mlF La (11 * j) P x = false := by simpa using h116
            refine g_iload_n C dX7_holds_119 rfl 120 rfl 2 rfl ?_
            refine g_iload C dX7_holds_120 122 rfl 0 rfl ?_
            refine g_ishr (z := nI (P / 2 ^ x)) C dX7_holds_122 123 rfl (z_shr (by omega) (by omega)) ?_
            refine g_iconst (v := nI 1) C dX7_holds_123 (by decide) 124 rfl ?_
            refine g_iand (z := nI ((P / 2 ^ x) &&& 1)) C dX7_holds_124 125 rfl (z_and _ _) ?_
            refine g_iconst (v := nI 1) C dX7_holds_125 (by decide) 126 rfl ?_
            refine g_icmp_ne (X := P.testBit x = false) C dX7_holds_126 148 (by decide) 129 rfl (tb_ne (by omega)) ?_ ?_
            · intro h126
              refine g_iconst (v := nI 0) C dX7_holds_148 (by decide) 149 rfl ?_
              refine g_istore_n (lv' := [(3, .int (nI 0)), (4, .int (nI x)), (2, .int (nI P)), (0, .ref o7), (1, .int (nI j))]) C dX7_holds_149 rfl 150 rfl (by decide) rfl ?_
              refine g_iinc (lv' := [(4, .int (nI (x + 1))), (3, .int (nI 0)), (2, .int (nI P)), (0, .ref o7), (1, .int (nI j))]) C dX7_holds_150 153 rfl 1 rfl (by decide) rfl ?_
              refine g_goto C dX7_holds_153 108 (by decide) ?_
              have e_3 : (mlF La (11 * j) P (x + 1)) = false := by first | with_reducible rfl | (simp only [mlF]; first | (simp only [h116, Bool.true_or]; done) | (simp only [h116, h126, Bool.false_and, Bool.or_self]; done) | (simp only [h116, h126, h141, Bool.true_and, Bool.or_self, Bool.false_or, Bool.and_false]; done))
              refine go_eq (lv' := [(4, .int (nI (x + 1))), (3, .int (bI (mlF La (11 * j) P (x + 1)))), (2, .int (nI P)), (0, .ref o7), (1, .int (nI j))]) (ws' := [ob o7 7 [.int (nI n), .int (nI m), .int (nI z), .ref uP, .ref uS, .ref uQ, .ref uA, .ref uB, .int (nI c), .ref uK, .int (nI h), .int (nI ns), .ref uM, .ref uF, .ref uY, .ref uT, .ref uL, .ref uC, .ref uX, .int (oI nf), .ref uI, .ref uR, .ref uW, .ref uH, .ref uG], aN (eY E) uM 6 Lm, aN (eY E) uF 144 Lf, aN (eY E) uY 144 Ly, aN (eY E) uT 144 Lt, aZ (eY E) uL 66 La, aN (eY E) uK 60 Sg]) (by first | with_reducible rfl | (simp only [e_3, oI_s, oI_0, bI_1, bI_0, and_self, reduceIte]; done)) rfl (by first | with_reducible rfl | (simp only [oI_s, oI_0, bI_1, bI_0, and_self, reduceIte]; done) | rfl) ?_
              exact ih_x (by omega)
            · intro h126
              have h126 : P.testBit x = true := by simpa using h126
              refine g_aload_n C dX7_holds_129 rfl 130 rfl 3 rfl ?_
              refine g_get C iX7 0 rfl rfl 16 (by decide) (C.1.2.2.2.2 (.fieldLink RX7 47 "StackRunsModel" "isLast" "[Z") (List.mem_of_getElem? (i := 4) rfl)) rfl dX7_holds_130 133 rfl ?_
              refine g_bipush (v := nI 11) C dX7_holds_133 (by decide) 135 rfl ?_
              refine g_iload_n C dX7_holds_135 rfl 136 rfl 4 rfl ?_
              refine g_imul (z := nI (11 * j)) C dX7_holds_136 137 rfl (pk_mul _ _) ?_
              refine g_iload C dX7_holds_137 139 rfl 0 rfl ?_
              refine g_iadd (z := nI ((11 * j) + x)) C dX7_holds_139 140 rfl (nI_add _ _) ?_
              refine g_zald (i := ((11 * j) + x)) C 5 rfl (by omega) (by decide) dX7_holds_140 141 rfl ?_
              refine g_if_eq (X := La ((11 * j) + x) = false) C dX7_holds_141 148 (by decide) 144 rfl (bI_eq0 _) ?_ ?_
              · intro h141
                refine g_iconst (v := nI 0) C dX7_holds_148 (by decide) 149 rfl ?_
                refine g_istore_n (lv' := [(3, .int (nI 0)), (4, .int (nI x)), (2, .int (nI P)), (0, .ref o7), (1, .int (nI j))]) C dX7_holds_149 rfl 150 rfl (by decide) rfl ?_
                refine g_iinc (lv' := [(4, .int (nI (x + 1))), (3, .int (nI 0)), (2, .int (nI P)), (0, .ref o7), (1, .int (nI j))]) C dX7_holds_150 153 rfl 1 rfl (by decide) rfl ?_
                refine g_goto C dX7_holds_153 108 (by decide) ?_
                have e_4 : (mlF La (11 * j) P (x + 1)) = false := by first | with_reducible rfl | (simp only [mlF]; first | (simp only [h116, Bool.true_or]; done) | (simp only [h116, h126, Bool.false_and, Bool.or_self]; done) | (simp only [h116, h126, h141, Bool.true_and, Bool.or_self, Bool.false_or, Bool.and_false]; done))
                refine go_eq (lv' := [(4, .int (nI (x + 1))), (3, .int (bI (mlF La (11 * j) P (x + 1)))), (2, .int (nI P)), (0, .ref o7), (1, .int (nI j))]) (ws' := [ob o7 7 [.int (nI n), .int (nI m), .int (nI z), .ref uP, .ref uS, .ref uQ, .ref uA, .ref uB, .int (nI c), .ref uK, .int (nI h), .int (nI ns), .ref uM, .ref uF, .ref uY, .ref uT, .ref uL, .ref uC, .ref uX, .int (oI nf), .ref uI, .ref uR, .ref uW, .ref uH, .ref uG], aN (eY E) uM 6 Lm, aN (eY E) uF 144 Lf, aN (eY E) uY 144 Ly, aN (eY E) uT 144 Lt, aZ (eY E) uL 66 La, aN (eY E) uK 60 Sg]) (by first | with_reducible rfl | (simp only [e_4, oI_s, oI_0, bI_1, bI_0, and_self, reduceIte]; done)) rfl (by first | with_reducible rfl | (simp only [oI_s, oI_0, bI_1, bI_0, and_self, reduceIte]; done) | rfl) ?_
                exact ih_x (by omega)
              · intro h141
                have h141 : La ((11 * j) + x) = true := by simpa using h141
                refine g_iconst (v := nI 1) C dX7_holds_144 (by decide) 145 rfl ?_
                refine g_goto C dX7_holds_145 149 (by decide) ?_
                refine g_istore_n (lv' := [(3, .int (nI 1)), (4, .int (nI x)), (2, .int (nI P)), (0, .ref o7), (1, .int (nI j))]) C dX7_holds_149 rfl 150 rfl (by decide) rfl ?_
                refine g_iinc (lv' := [(4, .int (nI (x + 1))), (3, .int (nI 1)), (2, .int (nI P)), (0, .ref o7), (1, .int (nI j))]) C dX7_holds_150 153 rfl 1 rfl (by decide) rfl ?_
                refine g_goto C dX7_holds_153 108 (by decide) ?_
                have e_5 : (mlF La (11 * j) P (x + 1)) = true := by first | with_reducible rfl | (simp only [mlF]; first | (simp only [h116, Bool.true_or]; done) | (simp only [h116, h126, Bool.false_and, Bool.or_self]; done) | (simp only [h116, h126, h141, Bool.true_and, Bool.or_self, Bool.false_or, Bool.and_false]; done))
                refine go_eq (lv' := [(4, .int (nI (x + 1))), (3, .int (bI (mlF La (11 * j) P (x + 1)))), (2, .int (nI P)), (0, .ref o7), (1, .int (nI j))]) (ws' := [ob o7 7 [.int (nI n), .int (nI m), .int (nI z), .ref uP, .ref uS, .ref uQ, .ref uA, .ref uB, .int (nI c), .ref uK, .int (nI h), .int (nI ns), .ref uM, .ref uF, .ref uY, .ref uT, .ref uL, .ref uC, .ref uX, .int (oI nf), .ref uI, .ref uR, .ref uW, .ref uH, .ref uG], aN (eY E) uM 6 Lm, aN (eY E) uF 144 Lf, aN (eY E) uY 144 Ly, aN (eY E) uT 144 Lt, aZ (eY E) uL 66 La, aN (eY E) uK 60 Sg]) (by first | with_reducible rfl | (simp only [e_5, oI_s, oI_0, bI_1, bI_0, and_self, reduceIte]; done)) rfl (by first | with_reducible rfl | (simp only [oI_s, oI_0, bI_1, bI_0, and_self, reduceIte]; done) | rfl) ?_
                exact ih_x (by omega)
      have e_6 : (mlF La (11 * j) P 0) = false := by first | with_reducible rfl | (rfl)
      refine go_eq (lv' := [(4, .int (nI 0)), (3, .int (bI (mlF La (11 * j) P 0))), (2, .int (nI P)), (0, .ref o7), (1, .int (nI j))]) (ws' := [ob o7 7 [.int (nI n), .int (nI m), .int (nI z), .ref uP, .ref uS, .ref uQ, .ref uA, .ref uB, .int (nI c), .ref uK, .int (nI h), .int (nI ns), .ref uM, .ref uF, .ref uY, .ref uT, .ref uL, .ref uC, .ref uX, .int (oI nf), .ref uI, .ref uR, .ref uW, .ref uH, .ref uG], aN (eY E) uM 6 Lm, aN (eY E) uF 144 Lf, aN (eY E) uY 144 Ly, aN (eY E) uT 144 Lt, aZ (eY E) uL 66 La, aN (eY E) uK 60 Sg]) (by first | with_reducible rfl | (simp only [e_6, oI_s, oI_0, bI_1, bI_0, and_self, reduceIte]; done)) rfl (by first | with_reducible rfl | (simp only [oI_s, oI_0, bI_1, bI_0, and_self, reduceIte]; done) | rfl) ?_
      exact L108 0 (by omega)
    · intro h15
      have hS1 := hS (a - 1)
      refine g_iconst (v := nI 0) C dX7_holds_18 (by decide) 19 rfl ?_
      refine g_istore (lv' := [(4, .int (nI 0)), (3, .int (oI a)), (2, .int (nI P)), (0, .ref o7), (1, .int (nI j))]) C dX7_holds_19 21 rfl (by decide) rfl ?_
      refine g_iconst (v := nI 0) C dX7_holds_21 (by decide) 22 rfl ?_
      refine g_istore (lv' := [(5, .int (nI 0)), (4, .int (nI 0)), (3, .int (oI a)), (2, .int (nI P)), (0, .ref o7), (1, .int (nI j))]) C dX7_holds_22 24 rfl (by decide) rfl ?_
      have L24 : ∀ x, x ≤ 11 → Go E 0 0 24 [(5, .int (nI x)), (4, .int (nI (mhX (lkG Lf Ly Lt Lm j) P (Sg (a - 1)) x))), (3, .int (oI a)), (2, .int (nI P)), (0, .ref o7), (1, .int (nI j))] [] [ob o7 7 [.int (nI n), .int (nI m), .int (nI z), .ref uP, .ref uS, .ref uQ, .ref uA, .ref uB, .int (nI c), .ref uK, .int (nI h), .int (nI ns), .ref uM, .ref uF, .ref uY, .ref uT, .ref uL, .ref uC, .ref uX, .int (oI nf), .ref uI, .ref uR, .ref uW, .ref uH, .ref uG], aN (eY E) uM 6 Lm, aN (eY E) uF 144 Lf, aN (eY E) uY 144 Ly, aN (eY E) uT 144 Lt, aZ (eY E) uL 66 La, aN (eY E) uK 60 Sg] := by
        refine go_for 11 (fun x => Go E 0 0 24 [(5, .int (nI x)), (4, .int (nI (mhX (lkG Lf Ly Lt Lm j) P (Sg (a - 1)) x))), (3, .int (oI a)), (2, .int (nI P)), (0, .ref o7), (1, .int (nI j))] [] [ob o7 7 [.int (nI n), .int (nI m), .int (nI z), .ref uP, .ref uS, .ref uQ, .ref uA, .ref uB, .int (nI c), .ref uK, .int (nI h), .int (nI ns), .ref uM, .ref uF, .ref uY, .ref uT, .ref uL, .ref uC, .ref uX, .int (oI nf), .ref uI, .ref uR, .ref uW, .ref uH, .ref uG], aN (eY E) uM 6 Lm, aN (eY E) uF 144 Lf, aN (eY E) uY 144 Ly, aN (eY E) uT 144 Lt, aZ (eY E) uL 66 La, aN (eY E) uK 60 Sg]) (fun x hi_x ih_x => ?_)
        have hX := mhX_lt (lkG Lf Ly Lt Lm j) P (Sg (a - 1)) x
        refine g_iload C dX7_holds_24 26 rfl 0 rfl ?_
        refine g_bipush (v := nI 11) C dX7_holds_26 (by decide) 28 rfl ?_
        refine g_icmp_ge (X := 11 ≤ x) C dX7_holds_28 94 (by decide) 31 rfl (nI_leI (by omega) (by omega)) ?_ ?_
        · intro h28
          have x_x : x = 11 := by omega
          try rw [x_x]
          refine g_iload C dX7_holds_94 96 rfl 1 rfl ?_
          refine g_istore_n (lv' := [(2, .int (nI (mhX (lkG Lf Ly Lt Lm j) P (Sg (a - 1)) 11))), (5, .int (nI 11)), (4, .int (nI (mhX (lkG Lf Ly Lt Lm j) P (Sg (a - 1)) 11))), (3, .int (oI a)), (0, .ref o7), (1, .int (nI j))]) C dX7_holds_96 rfl 97 rfl (by decide) rfl ?_
          rw [show oI a = oI ((a - 1) + 1) from by rw [show a - 1 + 1 = a from by omega]]
          refine g_idec (lv' := [(3, .int (oI (a - 1))), (2, .int (nI (mhX (lkG Lf Ly Lt Lm j) P (Sg (a - 1)) 11))), (5, .int (nI 11)), (4, .int (nI (mhX (lkG Lf Ly Lt Lm j) P (Sg (a - 1)) 11))), (0, .ref o7), (1, .int (nI j))]) C dX7_holds_97 100 rfl 3 rfl (by decide) rfl ?_
          refine g_goto C dX7_holds_100 14 (by decide) ?_
          refine go_lv (lv' := [(3, .int (oI (a - 1))), (2, .int (nI (mhX (lkG Lf Ly Lt Lm j) P (Sg (a - 1)) 11))), (0, .ref o7), (1, .int (nI j))]) [0, 1, 4, 5] rfl ?_
          exact ih_a (a - 1) (by omega) (mhX (lkG Lf Ly Lt Lm j) P (Sg (a - 1)) 11) (by omega) (by exact mhX_lt _ _ _ _) (by rw [← hF, mhF_pos (a := a) (by omega)])
        · intro h28
          refine g_iconst (v := nI 5) C dX7_holds_31 (by decide) 32 rfl ?_
          refine g_istore (lv' := [(6, .int (nI 5)), (5, .int (nI x)), (4, .int (nI (mhX (lkG Lf Ly Lt Lm j) P (Sg (a - 1)) x))), (3, .int (oI a)), (2, .int (nI P)), (0, .ref o7), (1, .int (nI j))]) C dX7_holds_32 34 rfl (by decide) rfl ?_
          have L34 : ∀ i, i ≤ 6 → (0 < i → P.testBit x = true) → Go E 0 0 34 [(6, .int (nI (5 + i))), (5, .int (nI x)), (4, .int (nI (mhY (lkG Lf Ly Lt Lm j) x (Sg (a - 1)) (mhX (lkG Lf Ly Lt Lm j) P (Sg (a - 1)) x) i))), (3, .int (oI a)), (2, .int (nI P)), (0, .ref o7), (1, .int (nI j))] [] [ob o7 7 [.int (nI n), .int (nI m), .int (nI z), .ref uP, .ref uS, .ref uQ, .ref uA, .ref uB, .int (nI c), .ref uK, .int (nI h), .int (nI ns), .ref uM, .ref uF, .ref uY, .ref uT, .ref uL, .ref uC, .ref uX, .int (oI nf), .ref uI, .ref uR, .ref uW, .ref uH, .ref uG], aN (eY E) uM 6 Lm, aN (eY E) uF 144 Lf, aN (eY E) uY 144 Ly, aN (eY E) uT 144 Lt, aZ (eY E) uL 66 La, aN (eY E) uK 60 Sg] := by
            refine go_for 6 (fun i => (0 < i → P.testBit x = true) → Go E 0 0 34 [(6, .int (nI (5 + i))), (5, .int (nI x)), (4, .int (nI (mhY (lkG Lf Ly Lt Lm j) x (Sg (a - 1)) (mhX (lkG Lf Ly Lt Lm j) P (Sg (a - 1)) x) i))), (3, .int (oI a)), (2, .int (nI P)), (0, .ref o7), (1, .int (nI j))] [] [ob o7 7 [.int (nI n), .int (nI m), .int (nI z), .ref uP, .ref uS, .ref uQ, .ref uA, .ref uB, .int (nI c), .ref uK, .int (nI h), .int (nI ns), .ref uM, .ref uF, .ref uY, .ref uT, .ref uL, .ref uC, .ref uX, .int (oI nf), .ref uI, .ref uR, .ref uW, .ref uH, .ref uG], aN (eY E) uM 6 Lm, aN (eY E) uF 144 Lf, aN (eY E) uY 144 Ly, aN (eY E) uT 144 Lt, aZ (eY E) uL 66 La, aN (eY E) uK 60 Sg]) (fun i hi_i ih_i => ?_)
            intro hbt
            have hY := mhY_lt (L := (lkG Lf Ly Lt Lm j)) (x := x) (s := Sg (a - 1)) hX i hi_i
            refine g_iload C dX7_holds_34 36 rfl 0 rfl ?_
            refine g_bipush (v := nI 11) C dX7_holds_36 (by decide) 38 rfl ?_
            refine g_icmp_ge (X := 11 ≤ 5 + i) C dX7_holds_38 88 (by decide) 41 rfl (nI_leI (by omega) (by omega)) ?_ ?_
            · intro h38
              refine g_iinc (lv' := [(5, .int (nI (x + 1))), (6, .int (nI (5 + i))), (4, .int (nI (mhY (lkG Lf Ly Lt Lm j) x (Sg (a - 1)) (mhX (lkG Lf Ly Lt Lm j) P (Sg (a - 1)) x) i))), (3, .int (oI a)), (2, .int (nI P)), (0, .ref o7), (1, .int (nI j))]) C dX7_holds_88 91 rfl 1 rfl (by decide) rfl ?_
              refine g_goto C dX7_holds_91 24 (by decide) ?_
              refine go_lv (lv' := [(5, .int (nI (x + 1))), (4, .int (nI (mhY (lkG Lf Ly Lt Lm j) x (Sg (a - 1)) (mhX (lkG Lf Ly Lt Lm j) P (Sg (a - 1)) x) i))), (3, .int (oI a)), (2, .int (nI P)), (0, .ref o7), (1, .int (nI j))]) [0, 2, 3, 4, 5, 6] rfl ?_
              have e_7 : (mhX (lkG Lf Ly Lt Lm j) P (Sg (a - 1)) (x + 1)) = (mhY (lkG Lf Ly Lt Lm j) x (Sg (a - 1)) (mhX (lkG Lf Ly Lt Lm j) P (Sg (a - 1)) x) i) := by first | with_reducible rfl | (first | (exact mhX_t (hbt (by omega)) (by omega)) | (exact mhX_f h48 hbt))
              refine go_eq (lv' := [(5, .int (nI (x + 1))), (4, .int (nI (mhX (lkG Lf Ly Lt Lm j) P (Sg (a - 1)) (x + 1)))), (3, .int (oI a)), (2, .int (nI P)), (0, .ref o7), (1, .int (nI j))]) (ws' := [ob o7 7 [.int (nI n), .int (nI m), .int (nI z), .ref uP, .ref uS, .ref uQ, .ref uA, .ref uB, .int (nI c), .ref uK, .int (nI h), .int (nI ns), .ref uM, .ref uF, .ref uY, .ref uT, .ref uL, .ref uC, .ref uX, .int (oI nf), .ref uI, .ref uR, .ref uW, .ref uH, .ref uG], aN (eY E) uM 6 Lm, aN (eY E) uF 144 Lf, aN (eY E) uY 144 Ly, aN (eY E) uT 144 Lt, aZ (eY E) uL 66 La, aN (eY E) uK 60 Sg]) (by first | with_reducible rfl | (simp only [e_7, oI_s, oI_0, bI_1, bI_0, and_self, reduceIte]; done)) rfl (by first | with_reducible rfl | (simp only [oI_s, oI_0, bI_1, bI_0, and_self, reduceIte]; done) | rfl) ?_
              exact ih_x (by omega)
            · intro h38
              refine g_iload_n C dX7_holds_41 rfl 42 rfl 4 rfl ?_
              refine g_iload C dX7_holds_42 44 rfl 1 rfl ?_
              refine g_ishr (z := nI (P / 2 ^ x)) C dX7_holds_44 45 rfl (z_shr (by omega) (by omega)) ?_
              refine g_iconst (v := nI 1) C dX7_holds_45 (by decide) 46 rfl ?_
              refine g_iand (z := nI ((P / 2 ^ x) &&& 1)) C dX7_holds_46 47 rfl (z_and _ _) ?_
              refine g_iconst (v := nI 1) C dX7_holds_47 (by decide) 48 rfl ?_
              refine g_icmp_ne (X := P.testBit x = false) C dX7_holds_48 88 (by decide) 51 rfl (tb_ne (by omega)) ?_ ?_
              · intro h48
                refine g_iinc (lv' := [(5, .int (nI (x + 1))), (6, .int (nI (5 + i))), (4, .int (nI (mhY (lkG Lf Ly Lt Lm j) x (Sg (a - 1)) (mhX (lkG Lf Ly Lt Lm j) P (Sg (a - 1)) x) i))), (3, .int (oI a)), (2, .int (nI P)), (0, .ref o7), (1, .int (nI j))]) C dX7_holds_88 91 rfl 1 rfl (by decide) rfl ?_
                refine g_goto C dX7_holds_91 24 (by decide) ?_
                refine go_lv (lv' := [(5, .int (nI (x + 1))), (4, .int (nI (mhY (lkG Lf Ly Lt Lm j) x (Sg (a - 1)) (mhX (lkG Lf Ly Lt Lm j) P (Sg (a - 1)) x) i))), (3, .int (oI a)), (2, .int (nI P)), (0, .ref o7), (1, .int (nI j))]) [0, 2, 3, 4, 5, 6] rfl ?_
                have e_8 : (mhX (lkG Lf Ly Lt Lm j) P (Sg (a - 1)) (x + 1)) = (mhY (lkG Lf Ly Lt Lm j) x (Sg (a - 1)) (mhX (lkG Lf Ly Lt Lm j) P (Sg (a - 1)) x) i) := by first | with_reducible rfl | (first | (exact mhX_t (hbt (by omega)) (by omega)) | (exact mhX_f h48 hbt))
                refine go_eq (lv' := [(5, .int (nI (x + 1))), (4, .int (nI (mhX (lkG Lf Ly Lt Lm j) P (Sg (a - 1)) (x + 1)))), (3, .int (oI a)), (2, .int (nI P)), (0, .ref o7), (1, .int (nI j))]) (ws' := [ob o7 7 [.int (nI n), .int (nI m), .int (nI z), .ref uP, .ref uS, .ref uQ, .ref uA, .ref uB, .int (nI c), .ref uK, .int (nI h), .int (nI ns), .ref uM, .ref uF, .ref uY, .ref uT, .ref uL, .ref uC, .ref uX, .int (oI nf), .ref uI, .ref uR, .ref uW, .ref uH, .ref uG], aN (eY E) uM 6 Lm, aN (eY E) uF 144 Lf, aN (eY E) uY 144 Ly, aN (eY E) uT 144 Lt, aZ (eY E) uL 66 La, aN (eY E) uK 60 Sg]) (by first | with_reducible rfl | (simp only [e_8, oI_s, oI_0, bI_1, bI_0, and_self, reduceIte]; done)) rfl (by first | with_reducible rfl | (simp only [oI_s, oI_0, bI_1, bI_0, and_self, reduceIte]; done) | rfl) ?_
                exact ih_x (by omega)
              · intro h48
                have h48 : P.testBit x = true := by simpa using h48
                refine g_iload C dX7_holds_51 53 rfl 2 rfl ?_
                refine g_aload_n C dX7_holds_53 rfl 54 rfl 5 rfl ?_
                refine g_iload_n C dX7_holds_54 rfl 55 rfl 6 rfl ?_
                refine g_iload C dX7_holds_55 57 rfl 1 rfl ?_
                refine g_aload_n C dX7_holds_57 rfl 58 rfl 5 rfl ?_
                refine g_get C iX7 0 rfl rfl 9 (by decide) (C.1.2.2.2.2 (.fieldLink RX7 32 "StackRunsModel" "stack" "[I") (List.mem_of_getElem? (i := 3) rfl)) rfl dX7_holds_58 61 rfl ?_
                refine g_iload_n C dX7_holds_61 rfl 62 rfl 3 rfl ?_
                refine go_st (show Value.int (oI a) = .int (nI (a - 1)) from by rw [oI_pos (by omega)]) ?_
                refine g_iald (i := (a - 1)) C 6 rfl (by omega) (by decide) dX7_holds_62 63 rfl ?_
                refine g_iload C dX7_holds_63 65 rfl 0 rfl ?_
                refine g_cVi (ws2 := [ob o7 7 [.int (nI n), .int (nI m), .int (nI z), .ref uP, .ref uS, .ref uQ, .ref uA, .ref uB, .int (nI c), .ref uK, .int (nI h), .int (nI ns), .ref uM, .ref uF, .ref uY, .ref uT, .ref uL, .ref uC, .ref uX, .int (oI nf), .ref uI, .ref uR, .ref uW, .ref uH, .ref uG], aN (eY E) uM 6 Lm, aN (eY E) uF 144 Lf, aN (eY E) uY 144 Ly, aN (eY E) uT 144 Lt, aZ (eY E) uL 66 La, aN (eY E) uK 60 Sg]) (As := [.int (nI j), .int (nI x), .int (nI (Sg (a - 1))), .int (nI (5 + i))]) (st := [.int (nI (mhY (lkG Lf Ly Lt Lm j) x (Sg (a - 1)) (mhX (lkG Lf Ly Lt Lm j) P (Sg (a - 1)) x) i))]) (wsc := [ob o7 7 [.int (nI n), .int (nI m), .int (nI z), .ref uP, .ref uS, .ref uQ, .ref uA, .ref uB, .int (nI c), .ref uK, .int (nI h), .int (nI ns), .ref uM, .ref uF, .ref uY, .ref uT, .ref uL, .ref uC, .ref uX, .int (oI nf), .ref uI, .ref uR, .ref uW, .ref uH, .ref uG], aN (eY E) uM 6 Lm, aN (eY E) uF 144 Lf, aN (eY E) uY 144 Ly, aN (eY E) uT 144 Lt]) (wr := [aZ (eY E) uL 66 La, aN (eY E) uK 60 Sg]) C (c_X7_isLinked (eL E) (eD E) (eY E) o7 n m z uP uS uQ uA uB c uK h ns uM uF uY uT uL uC uX nf uI uR uW uH uG Lm Lf Ly Lt j x (Sg (a - 1)) (5 + i) (by assumption) (by assumption) (by omega) (by omega) (by omega) (by omega)) 4 gX7_holds_X7_isLinked rfl (by decide +kernel) (by decide) ⟨Nat.zero_le _, Nat.zero_le _⟩ rfl 0 rfl rfl rfl (Nat.le_of_ble_eq_true rfl) [0, 1, 2, 3, 4] [5, 6] [2, 3, 4, 5, 6, 0, 1] rfl rfl (by decide) (by decide) rfl (by decide) dX7_holds_65 68 rfl ?_
                refine g_if_eq (X := lkG Lf Ly Lt Lm j x (Sg (a - 1)) (5 + i) = false) C dX7_holds_68 78 (by decide) 71 rfl (bI_eq0 _) ?_ ?_
                · intro h68
                  refine g_iconst (v := nI 0) C dX7_holds_78 (by decide) 79 rfl ?_
                  refine g_ior (z := nI ((mhY (lkG Lf Ly Lt Lm j) x (Sg (a - 1)) (mhX (lkG Lf Ly Lt Lm j) P (Sg (a - 1)) x) i) ||| 0)) C dX7_holds_79 80 rfl (z_or _ _) ?_
                  refine g_istore (lv' := [(4, .int (nI ((mhY (lkG Lf Ly Lt Lm j) x (Sg (a - 1)) (mhX (lkG Lf Ly Lt Lm j) P (Sg (a - 1)) x) i) ||| 0))), (6, .int (nI (5 + i))), (5, .int (nI x)), (3, .int (oI a)), (2, .int (nI P)), (0, .ref o7), (1, .int (nI j))]) C dX7_holds_80 82 rfl (by decide) rfl ?_
                  refine g_iinc (lv' := [(6, .int (nI ((5 + i) + 1))), (4, .int (nI ((mhY (lkG Lf Ly Lt Lm j) x (Sg (a - 1)) (mhX (lkG Lf Ly Lt Lm j) P (Sg (a - 1)) x) i) ||| 0))), (5, .int (nI x)), (3, .int (oI a)), (2, .int (nI P)), (0, .ref o7), (1, .int (nI j))]) C dX7_holds_82 85 rfl 1 rfl (by decide) rfl ?_
                  refine g_goto C dX7_holds_85 34 (by decide) ?_
                  refine go_lv (lv' := [(6, .int (nI ((5 + i) + 1))), (5, .int (nI x)), (4, .int (nI ((mhY (lkG Lf Ly Lt Lm j) x (Sg (a - 1)) (mhX (lkG Lf Ly Lt Lm j) P (Sg (a - 1)) x) i) ||| 0))), (3, .int (oI a)), (2, .int (nI P)), (0, .ref o7), (1, .int (nI j))]) [0, 2, 1, 3, 4, 5, 6] rfl ?_
                  have e_9 : (5 + (i + 1)) = ((5 + i) + 1) := by first | with_reducible rfl | (first | rfl | (simp only [mhY, h68, Bool.false_eq_true, reduceIte]; done))
                  have e_10 : (mhY (lkG Lf Ly Lt Lm j) x (Sg (a - 1)) (mhX (lkG Lf Ly Lt Lm j) P (Sg (a - 1)) x) (i + 1)) = ((mhY (lkG Lf Ly Lt Lm j) x (Sg (a - 1)) (mhX (lkG Lf Ly Lt Lm j) P (Sg (a - 1)) x) i) ||| 0) := by first | with_reducible rfl | (first | rfl | (simp only [mhY, h68, Bool.false_eq_true, reduceIte]; done))
                  refine go_eq (lv' := [(6, .int (nI (5 + (i + 1)))), (5, .int (nI x)), (4, .int (nI (mhY (lkG Lf Ly Lt Lm j) x (Sg (a - 1)) (mhX (lkG Lf Ly Lt Lm j) P (Sg (a - 1)) x) (i + 1)))), (3, .int (oI a)), (2, .int (nI P)), (0, .ref o7), (1, .int (nI j))]) (ws' := [ob o7 7 [.int (nI n), .int (nI m), .int (nI z), .ref uP, .ref uS, .ref uQ, .ref uA, .ref uB, .int (nI c), .ref uK, .int (nI h), .int (nI ns), .ref uM, .ref uF, .ref uY, .ref uT, .ref uL, .ref uC, .ref uX, .int (oI nf), .ref uI, .ref uR, .ref uW, .ref uH, .ref uG], aN (eY E) uM 6 Lm, aN (eY E) uF 144 Lf, aN (eY E) uY 144 Ly, aN (eY E) uT 144 Lt, aZ (eY E) uL 66 La, aN (eY E) uK 60 Sg]) (by first | with_reducible rfl | (simp only [e_9, e_10, oI_s, oI_0, bI_1, bI_0, and_self, reduceIte]; done)) rfl (by first | with_reducible rfl | (simp only [oI_s, oI_0, bI_1, bI_0, and_self, reduceIte]; done) | rfl) ?_
                  exact ih_i (by omega) (by intro _; assumption)
                · intro h68
                  have h68 : lkG Lf Ly Lt Lm j x (Sg (a - 1)) (5 + i) = true := by simpa using h68
                  refine g_iconst (v := nI 1) C dX7_holds_71 (by decide) 72 rfl ?_
                  refine g_iload C dX7_holds_72 74 rfl 0 rfl ?_
                  refine g_ishl (z := nI (1 * 2 ^ (5 + i))) C dX7_holds_74 75 rfl (z_shl (by omega) (by have := pow_lt_2048 (p := 5 + i) (by omega); omega)) ?_
                  refine g_goto C dX7_holds_75 79 (by decide) ?_
                  refine g_ior (z := nI ((mhY (lkG Lf Ly Lt Lm j) x (Sg (a - 1)) (mhX (lkG Lf Ly Lt Lm j) P (Sg (a - 1)) x) i) ||| (1 * 2 ^ (5 + i)))) C dX7_holds_79 80 rfl (z_or _ _) ?_
                  refine g_istore (lv' := [(4, .int (nI ((mhY (lkG Lf Ly Lt Lm j) x (Sg (a - 1)) (mhX (lkG Lf Ly Lt Lm j) P (Sg (a - 1)) x) i) ||| (1 * 2 ^ (5 + i))))), (6, .int (nI (5 + i))), (5, .int (nI x)), (3, .int (oI a)), (2, .int (nI P)), (0, .ref o7), (1, .int (nI j))]) C dX7_holds_80 82 rfl (by decide) rfl ?_
                  refine g_iinc (lv' := [(6, .int (nI ((5 + i) + 1))), (4, .int (nI ((mhY (lkG Lf Ly Lt Lm j) x (Sg (a - 1)) (mhX (lkG Lf Ly Lt Lm j) P (Sg (a - 1)) x) i) ||| (1 * 2 ^ (5 + i))))), (5, .int (nI x)), (3, .int (oI a)), (2, .int (nI P)), (0, .ref o7), (1, .int (nI j))]) C dX7_holds_82 85 rfl 1 rfl (by decide) rfl ?_
                  refine g_goto C dX7_holds_85 34 (by decide) ?_
                  refine go_lv (lv' := [(6, .int (nI ((5 + i) + 1))), (5, .int (nI x)), (4, .int (nI ((mhY (lkG Lf Ly Lt Lm j) x (Sg (a - 1)) (mhX (lkG Lf Ly Lt Lm j) P (Sg (a - 1)) x) i) ||| (1 * 2 ^ (5 + i))))), (3, .int (oI a)), (2, .int (nI P)), (0, .ref o7), (1, .int (nI j))]) [0, 2, 1, 3, 4, 5, 6] rfl ?_
                  have e_11 : (5 + (i + 1)) = ((5 + i) + 1) := by first | with_reducible rfl | (first | rfl | (simp only [mhY, h68, Bool.false_eq_true, reduceIte]; done))
                  have e_12 : (mhY (lkG Lf Ly Lt Lm j) x (Sg (a - 1)) (mhX (lkG Lf Ly Lt Lm j) P (Sg (a - 1)) x) (i + 1)) = ((mhY (lkG Lf Ly Lt Lm j) x (Sg (a - 1)) (mhX (lkG Lf Ly Lt Lm j) P (Sg (a - 1)) x) i) ||| (1 * 2 ^ (5 + i))) := by first | with_reducible rfl | (first | rfl | (simp only [mhY, h68, Bool.false_eq_true, reduceIte]; done))
                  refine go_eq (lv' := [(6, .int (nI (5 + (i + 1)))), (5, .int (nI x)), (4, .int (nI (mhY (lkG Lf Ly Lt Lm j) x (Sg (a - 1)) (mhX (lkG Lf Ly Lt Lm j) P (Sg (a - 1)) x) (i + 1)))), (3, .int (oI a)), (2, .int (nI P)), (0, .ref o7), (1, .int (nI j))]) (ws' := [ob o7 7 [.int (nI n), .int (nI m), .int (nI z), .ref uP, .ref uS, .ref uQ, .ref uA, .ref uB, .int (nI c), .ref uK, .int (nI h), .int (nI ns), .ref uM, .ref uF, .ref uY, .ref uT, .ref uL, .ref uC, .ref uX, .int (oI nf), .ref uI, .ref uR, .ref uW, .ref uH, .ref uG], aN (eY E) uM 6 Lm, aN (eY E) uF 144 Lf, aN (eY E) uY 144 Ly, aN (eY E) uT 144 Lt, aZ (eY E) uL 66 La, aN (eY E) uK 60 Sg]) (by first | with_reducible rfl | (simp only [e_11, e_12, oI_s, oI_0, bI_1, bI_0, and_self, reduceIte]; done)) rfl (by first | with_reducible rfl | (simp only [oI_s, oI_0, bI_1, bI_0, and_self, reduceIte]; done) | rfl) ?_
                  exact ih_i (by omega) (by intro _; assumption)
          have e_13 : (5 + 0) = 5 := by first | with_reducible rfl | (rfl)
          have e_14 : (mhY (lkG Lf Ly Lt Lm j) x (Sg (a - 1)) (mhX (lkG Lf Ly Lt Lm j) P (Sg (a - 1)) x) 0) = (mhX (lkG Lf Ly Lt Lm j) P (Sg (a - 1)) x) := by first | with_reducible rfl | (rfl)
          refine go_eq (lv' := [(6, .int (nI (5 + 0))), (5, .int (nI x)), (4, .int (nI (mhY (lkG Lf Ly Lt Lm j) x (Sg (a - 1)) (mhX (lkG Lf Ly Lt Lm j) P (Sg (a - 1)) x) 0))), (3, .int (oI a)), (2, .int (nI P)), (0, .ref o7), (1, .int (nI j))]) (ws' := [ob o7 7 [.int (nI n), .int (nI m), .int (nI z), .ref uP, .ref uS, .ref uQ, .ref uA, .ref uB, .int (nI c), .ref uK, .int (nI h), .int (nI ns), .ref uM, .ref uF, .ref uY, .ref uT, .ref uL, .ref uC, .ref uX, .int (oI nf), .ref uI, .ref uR, .ref uW, .ref uH, .ref uG], aN (eY E) uM 6 Lm, aN (eY E) uF 144 Lf, aN (eY E) uY 144 Ly, aN (eY E) uT 144 Lt, aZ (eY E) uL 66 La, aN (eY E) uK 60 Sg]) (by first | with_reducible rfl | (simp only [e_13, e_14, oI_s, oI_0, bI_1, bI_0, and_self, reduceIte]; done)) rfl (by first | with_reducible rfl | (simp only [oI_s, oI_0, bI_1, bI_0, and_self, reduceIte]; done) | rfl) ?_
          exact L34 0 (by omega) (by intro q; omega)
      have e_15 : (mhX (lkG Lf Ly Lt Lm j) P (Sg (a - 1)) 0) = 0 := by first | with_reducible rfl | (rfl)
      refine go_eq (lv' := [(5, .int (nI 0)), (4, .int (nI (mhX (lkG Lf Ly Lt Lm j) P (Sg (a - 1)) 0))), (3, .int (oI a)), (2, .int (nI P)), (0, .ref o7), (1, .int (nI j))]) (ws' := [ob o7 7 [.int (nI n), .int (nI m), .int (nI z), .ref uP, .ref uS, .ref uQ, .ref uA, .ref uB, .int (nI c), .ref uK, .int (nI h), .int (nI ns), .ref uM, .ref uF, .ref uY, .ref uT, .ref uL, .ref uC, .ref uX, .int (oI nf), .ref uI, .ref uR, .ref uW, .ref uH, .ref uG], aN (eY E) uM 6 Lm, aN (eY E) uF 144 Lf, aN (eY E) uY 144 Ly, aN (eY E) uT 144 Lt, aZ (eY E) uL 66 La, aN (eY E) uK 60 Sg]) (by first | with_reducible rfl | (simp only [e_15, oI_s, oI_0, bI_1, bI_0, and_self, reduceIte]; done)) rfl (by first | with_reducible rfl | (simp only [oI_s, oI_0, bI_1, bI_0, and_self, reduceIte]; done) | rfl) ?_
      exact L24 0 (by omega)
  exact L14 h (1 * 2 ^ c) (by omega) (by have := pow_lt_32 hc; omega) (by rfl)
set_option maxHeartbeats 4000000 in
set_option maxRecDepth 100000 in
theorem c_X7_reading (l : Launch) (D : va_G) (cy : Nat → ClassId) (o7 : Nat) (n : Nat) (m : Nat) (z : Nat) (uP : Nat) (uS : Nat) (uQ : Nat) (uA : Nat) (uB : Nat) (c : Nat) (uK : Nat) (h : Nat) (ns : Nat) (uM : Nat) (uF : Nat) (uY : Nat) (uT : Nat) (uL : Nat) (uC : Nat) (uX : Nat) (nf : Nat) (uI : Nat) (uR : Nat) (uW : Nat) (uH : Nat) (uG : Nat) (Co : Nat → Nat) (Lx : Nat → Bool) (x : Nat) (s : Nat) (y : Nat) (hx : x < 11) (hs : s < 5) (hy : y < 11) : CoL l yX7_reading wsX7_reading 1 22 D cy [ob o7 7 [.int (nI n), .int (nI m), .int (nI z), .ref uP, .ref uS, .ref uQ, .ref uA, .ref uB, .int (nI c), .ref uK, .int (nI h), .int (nI ns), .ref uM, .ref uF, .ref uY, .ref uT, .ref uL, .ref uC, .ref uX, .int (oI nf), .ref uI, .ref uR, .ref uW, .ref uH, .ref uG], aR cy uC 275 Co, aZ cy uX 330 Lx] [.ref o7, .int (nI x), .int (nI s), .int (nI y)] [ob o7 7 [.int (nI n), .int (nI m), .int (nI z), .ref uP, .ref uS, .ref uQ, .ref uA, .ref uB, .int (nI c), .ref uK, .int (nI h), .int (nI ns), .ref uM, .ref uF, .ref uY, .ref uT, .ref uL, .ref uC, .ref uX, .int (oI nf), .ref uI, .ref uR, .ref uW, .ref uH, .ref uG], aR cy uC 275 Co, aZ cy uX 330 Lx] (rv (rdF Lx Co x s y)) := by
  refine met_l (cc := cX7_reading) (maxL := 4) (own := RX7) (lv := [(0, .ref o7), (1, .int (nI x)), (2, .int (nI s)), (3, .int (nI y))]) (by decide) rfl rfl rfl (Nat.le_of_ble_eq_true rfl) (fun E e1 e2 e3 C hret => ?_)
  subst e1; subst e2; subst e3
  have iX7 : ∀ w ∈ wsX70, w ∈ wsX7_reading := fun _ h => List.mem_cons_of_mem _ (List.mem_append_right _ h)
  refine g_iload_n C dX7_reading_0 rfl 1 rfl 1 rfl ?_
  refine g_iconst (v := nI 5) C dX7_reading_1 (by decide) 2 rfl ?_
  refine g_icmp_ge (X := 5 ≤ x) C dX7_reading_2 17 (by decide) 5 rfl (nI_leI (by omega) (by omega)) ?_ ?_
  · intro h2
    refine g_iload_n C dX7_reading_17 rfl 18 rfl 3 rfl ?_
    refine g_iconst (v := nI 4) C dX7_reading_18 (by decide) 19 rfl ?_
    refine g_icmp_le (X := y ≤ 4) C dX7_reading_19 46 (by decide) 22 rfl (nI_leI (by omega) (by omega)) ?_ ?_
    · intro h19
      refine g_ldc2 (v' := (rv 9000000000000000000)) C (C.1.2.2.2.2 (.constantLong RX7 123 (-1)) (List.mem_of_getElem? (i := 3) rfl)) (by decide) dX7_reading_46 49 rfl ?_
      have e_1 : (rdF Lx Co x s y) = 9000000000000000000 := by first | with_reducible rfl | (first | (simp only [rdF]; rw [if_pos (by omega)]; done) | (simp only [rdF]; rw [if_neg (by omega), if_pos ⟨by omega, by assumption⟩]; done) | (simp only [rdF]; rw [if_neg (by omega), if_neg (fun q => Bool.noConfusion (h39.symm.trans q.2))]; done) | (simp only [rdF]; rw [if_neg (by omega), if_neg (fun q => by omega)]))
      refine go_eq rfl (st' := [.long (rv (rdF Lx Co x s y))]) (ws' := [ob o7 7 [.int (nI n), .int (nI m), .int (nI z), .ref uP, .ref uS, .ref uQ, .ref uA, .ref uB, .int (nI c), .ref uK, .int (nI h), .int (nI ns), .ref uM, .ref uF, .ref uY, .ref uT, .ref uL, .ref uC, .ref uX, .int (oI nf), .ref uI, .ref uR, .ref uW, .ref uH, .ref uG], aR (eY E) uC 275 Co, aZ (eY E) uX 330 Lx]) (by first | with_reducible rfl | (simp only [e_1, oI_s, oI_0, bI_1, bI_0, and_self, reduceIte]; done)) (by first | with_reducible rfl | (simp only [e_1, oI_s, oI_0, bI_1, bI_0, and_self, reduceIte]; done)) ?_
      exact hret _ _ dX7_reading_49
    · intro h19
      refine g_aload_n C dX7_reading_22 rfl 23 rfl 0 rfl ?_
      refine g_get C iX7 0 rfl rfl 18 (by decide) (C.1.2.2.2.2 (.fieldLink RX7 55 "StackRunsModel" "links" "[Z") (List.mem_of_getElem? (i := 2) rfl)) rfl dX7_reading_23 26 rfl ?_
      refine g_iconst (v := nI 5) C dX7_reading_26 (by decide) 27 rfl ?_
      refine g_iload_n C dX7_reading_27 rfl 28 rfl 1 rfl ?_
      refine g_imul (z := nI (5 * x)) C dX7_reading_28 29 rfl (pk_mul _ _) ?_
      refine g_iload_n C dX7_reading_29 rfl 30 rfl 2 rfl ?_
      refine g_iadd (z := nI ((5 * x) + s)) C dX7_reading_30 31 rfl (nI_add _ _) ?_
      refine g_bipush (v := nI 6) C dX7_reading_31 (by decide) 33 rfl ?_
      refine g_imul (z := nI (((5 * x) + s) * 6)) C dX7_reading_33 34 rfl (pk_mul _ _) ?_
      refine g_iload_n C dX7_reading_34 rfl 35 rfl 3 rfl ?_
      refine g_iadd (z := nI ((((5 * x) + s) * 6) + y)) C dX7_reading_35 36 rfl (nI_add _ _) ?_
      refine g_iconst (v := nI 5) C dX7_reading_36 (by decide) 37 rfl ?_
      refine g_isub (z := nI (((((5 * x) + s) * 6) + y) - 5)) C dX7_reading_37 38 rfl (pk_sub (by omega)) ?_
      refine g_zald (i := (((((5 * x) + s) * 6) + y) - 5)) C 2 rfl (by omega) (by decide) dX7_reading_38 39 rfl ?_
      refine g_if_eq (X := Lx (((((5 * x) + s) * 6) + y) - 5) = false) C dX7_reading_39 46 (by decide) 42 rfl (bI_eq0 _) ?_ ?_
      · intro h39
        refine g_ldc2 (v' := (rv 9000000000000000000)) C (C.1.2.2.2.2 (.constantLong RX7 123 (-1)) (List.mem_of_getElem? (i := 3) rfl)) (by decide) dX7_reading_46 49 rfl ?_
        have e_2 : (rdF Lx Co x s y) = 9000000000000000000 := by first | with_reducible rfl | (first | (simp only [rdF]; rw [if_pos (by omega)]; done) | (simp only [rdF]; rw [if_neg (by omega), if_pos ⟨by omega, by assumption⟩]; done) | (simp only [rdF]; rw [if_neg (by omega), if_neg (fun q => Bool.noConfusion (h39.symm.trans q.2))]; done) | (simp only [rdF]; rw [if_neg (by omega), if_neg (fun q => by omega)]))
        refine go_eq rfl (st' := [.long (rv (rdF Lx Co x s y))]) (ws' := [ob o7 7 [.int (nI n), .int (nI m), .int (nI z), .ref uP, .ref uS, .ref uQ, .ref uA, .ref uB, .int (nI c), .ref uK, .int (nI h), .int (nI ns), .ref uM, .ref uF, .ref uY, .ref uT, .ref uL, .ref uC, .ref uX, .int (oI nf), .ref uI, .ref uR, .ref uW, .ref uH, .ref uG], aR (eY E) uC 275 Co, aZ (eY E) uX 330 Lx]) (by first | with_reducible rfl | (simp only [e_2, oI_s, oI_0, bI_1, bI_0, and_self, reduceIte]; done)) (by first | with_reducible rfl | (simp only [e_2, oI_s, oI_0, bI_1, bI_0, and_self, reduceIte]; done)) ?_
        exact hret _ _ dX7_reading_49
      · intro h39
        have h39 : Lx (((((5 * x) + s) * 6) + y) - 5) = true := by simpa using h39
        refine g_lconst (v := lN 0) C dX7_reading_42 (by decide) 43 rfl ?_
        refine g_goto C dX7_reading_43 49 (by decide) ?_
        refine go_st (show Value.long (lN 0) = .long (rv 0) from by rw [rv_of (by decide)]) ?_
        have e_3 : (rdF Lx Co x s y) = 0 := by first | with_reducible rfl | (first | (simp only [rdF]; rw [if_pos (by omega)]; done) | (simp only [rdF]; rw [if_neg (by omega), if_pos ⟨by omega, by assumption⟩]; done) | (simp only [rdF]; rw [if_neg (by omega), if_neg (fun q => Bool.noConfusion (h39.symm.trans q.2))]; done) | (simp only [rdF]; rw [if_neg (by omega), if_neg (fun q => by omega)]))
        refine go_eq rfl (st' := [.long (rv (rdF Lx Co x s y))]) (ws' := [ob o7 7 [.int (nI n), .int (nI m), .int (nI z), .ref uP, .ref uS, .ref uQ, .ref uA, .ref uB, .int (nI c), .ref uK, .int (nI h), .int (nI ns), .ref uM, .ref uF, .ref uY, .ref uT, .ref uL, .ref uC, .ref uX, .int (oI nf), .ref uI, .ref uR, .ref uW, .ref uH, .ref uG], aR (eY E) uC 275 Co, aZ (eY E) uX 330 Lx]) (by first | with_reducible rfl | (simp only [e_3, oI_s, oI_0, bI_1, bI_0, and_self, reduceIte]; done)) (by first | with_reducible rfl | (simp only [e_3, oI_s, oI_0, bI_1, bI_0, and_self, reduceIte]; done)) ?_
        exact hret _ _ dX7_reading_49
  · intro h2
    refine g_aload_n C dX7_reading_5 rfl 6 rfl 0 rfl ?_
    refine g_get C iX7 0 rfl rfl 17 (by decide) (C.1.2.2.2.2 (.fieldLink RX7 51 "StackRunsModel" "costs" "[J") (List.mem_of_getElem? (i := 1) rfl)) rfl dX7_reading_6 9 rfl ?_
    refine g_iload_n C dX7_reading_9 rfl 10 rfl 1 rfl ?_
    refine g_iload_n C dX7_reading_10 rfl 11 rfl 2 rfl ?_
    refine g_iload_n C dX7_reading_11 rfl 12 rfl 3 rfl ?_
    refine g_cSi (ws2 := [ob o7 7 [.int (nI n), .int (nI m), .int (nI z), .ref uP, .ref uS, .ref uQ, .ref uA, .ref uB, .int (nI c), .ref uK, .int (nI h), .int (nI ns), .ref uM, .ref uF, .ref uY, .ref uT, .ref uL, .ref uC, .ref uX, .int (oI nf), .ref uI, .ref uR, .ref uW, .ref uH, .ref uG], aR (eY E) uC 275 Co, aZ (eY E) uX 330 Lx]) (As := [.int (nI x), .int (nI s), .int (nI y)]) (st := [.ref uC]) (wsc := []) (wr := [ob o7 7 [.int (nI n), .int (nI m), .int (nI z), .ref uP, .ref uS, .ref uQ, .ref uA, .ref uB, .int (nI c), .ref uK, .int (nI h), .int (nI ns), .ref uM, .ref uF, .ref uY, .ref uT, .ref uL, .ref uC, .ref uX, .int (oI nf), .ref uI, .ref uR, .ref uW, .ref uH, .ref uG], aR (eY E) uC 275 Co, aZ (eY E) uX 330 Lx]) C (c_X7_costAt (eL E) (eD E) (eY E) x s y ) 3 gX7_reading_X7_costAt rfl (by decide +kernel) (by decide) ⟨Nat.zero_le _, Nat.zero_le _⟩ rfl rfl (Nat.le_of_ble_eq_true rfl) [] [0, 1, 2] [0, 1, 2] rfl rfl (by decide) (by decide) rfl (by decide) dX7_reading_12 15 rfl ?_
    refine g_lald (i := ((5 * x + s) * 11 + y)) C 1 rfl (by omega) (by decide) dX7_reading_15 16 rfl ?_
    have e_4 : (rdF Lx Co x s y) = (Co ((5 * x + s) * 11 + y)) := by first | with_reducible rfl | (first | (simp only [rdF]; rw [if_pos (by omega)]; done) | (simp only [rdF]; rw [if_neg (by omega), if_pos ⟨by omega, by assumption⟩]; done) | (simp only [rdF]; rw [if_neg (by omega), if_neg (fun q => Bool.noConfusion (h39.symm.trans q.2))]; done) | (simp only [rdF]; rw [if_neg (by omega), if_neg (fun q => by omega)]))
    refine go_eq rfl (st' := [.long (rv (rdF Lx Co x s y))]) (ws' := [ob o7 7 [.int (nI n), .int (nI m), .int (nI z), .ref uP, .ref uS, .ref uQ, .ref uA, .ref uB, .int (nI c), .ref uK, .int (nI h), .int (nI ns), .ref uM, .ref uF, .ref uY, .ref uT, .ref uL, .ref uC, .ref uX, .int (oI nf), .ref uI, .ref uR, .ref uW, .ref uH, .ref uG], aR (eY E) uC 275 Co, aZ (eY E) uX 330 Lx]) (by first | with_reducible rfl | (simp only [e_4, oI_s, oI_0, bI_1, bI_0, and_self, reduceIte]; done)) (by first | with_reducible rfl | (simp only [e_4, oI_s, oI_0, bI_1, bI_0, and_self, reduceIte]; done)) ?_
    exact hret _ _ dX7_reading_16
