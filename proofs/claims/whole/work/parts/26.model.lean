set_option maxHeartbeats 4000000 in
set_option maxRecDepth 100000 in
theorem c_X7_machine_bad (l : Launch) (D : va_G) (cy : Nat → ClassId) (o7 : Nat) (n : Nat) (m : Nat) (z : Nat) (uP : Nat) (uS : Nat) (uQ : Nat) (uA : Nat) (uB : Nat) (c : Nat) (uK : Nat) (h : Nat) (ns : Nat) (uM : Nat) (uF : Nat) (uY : Nat) (uT : Nat) (uL : Nat) (uC : Nat) (uX : Nat) (nf : Nat) (uI : Nat) (uR : Nat) (uW : Nat) (uH : Nat) (uG : Nat) (a : Int32) (b : Int32) (hb : (rg a 1 5 && rg b 1 5) = false) : CoI l yX7_machine wsX7_machine 1 25 D cy [ob o7 7 [.int (nI n), .int (nI m), .int (nI z), .ref uP, .ref uS, .ref uQ, .ref uA, .ref uB, .int (nI c), .ref uK, .int (nI h), .int (nI ns), .ref uM, .ref uF, .ref uY, .ref uT, .ref uL, .ref uC, .ref uX, .int (oI nf), .ref uI, .ref uR, .ref uW, .ref uH, .ref uG]] [.ref o7, .int a, .int b] [ob o7 7 [.int (nI n), .int (nI m), .int (nI z), .ref uP, .ref uS, .ref uQ, .ref uA, .ref uB, .int (nI c), .ref uK, .int (nI h), .int (nI ns), .ref uM, .ref uF, .ref uY, .ref uT, .ref uL, .ref uC, .ref uX, .int (oI nf), .ref uI, .ref uR, .ref uW, .ref uH, .ref uG]] (-2) := by
  refine met_i (cc := cX7_machine) (maxL := 4) (own := RX7) (lv := [(0, .ref o7), (1, .int a), (2, .int b)]) (by decide) rfl rfl rfl (Nat.le_of_ble_eq_true rfl) (fun E e1 e2 e3 C hret => ?_)
  subst e1; subst e2; subst e3
  refine g_iload_n C dX7_machine_0 rfl 1 rfl 1 rfl ?_
  refine g_i2l (v := (a).toInt64) C dX7_machine_1 rfl 2 rfl ?_
  refine g_lconst (v := lN 1) C dX7_machine_2 (by decide) 3 rfl ?_
  refine g_ldc2 (v' := (lN 5)) C (C.1.2.2.2.2 (.constantLong RX7 77 (5)) (List.mem_of_getElem? (i := 1) rfl)) (by decide) dX7_machine_3 6 rfl ?_
  refine g_cSi (ws2 := [ob o7 7 [.int (nI n), .int (nI m), .int (nI z), .ref uP, .ref uS, .ref uQ, .ref uA, .ref uB, .int (nI c), .ref uK, .int (nI h), .int (nI ns), .ref uM, .ref uF, .ref uY, .ref uT, .ref uL, .ref uC, .ref uX, .int (oI nf), .ref uI, .ref uR, .ref uW, .ref uH, .ref uG]]) (As := [.long ((a).toInt64), .long (lN 1), .long (lN 5)]) (st := []) (wsc := []) (wr := [ob o7 7 [.int (nI n), .int (nI m), .int (nI z), .ref uP, .ref uS, .ref uQ, .ref uA, .ref uB, .int (nI c), .ref uK, .int (nI h), .int (nI ns), .ref uM, .ref uF, .ref uY, .ref uT, .ref uL, .ref uC, .ref uX, .int (oI nf), .ref uI, .ref uR, .ref uW, .ref uH, .ref uG]]) C (c_X7_isIn (eL E) (eD E) (eY E) ((a).toInt64) (lN 1) (lN 5) ) 3 gX7_machine_X7_isIn rfl (by decide +kernel) (by decide) ⟨Nat.zero_le _, Nat.zero_le _⟩ rfl rfl (Nat.le_of_ble_eq_true rfl) [] [0] [0] rfl rfl (by decide) (by decide) rfl (by decide) dX7_machine_6 9 rfl ?_
  refine g_if_eq (X := decide ((lN 1) ≤ ((a).toInt64) ∧ ((a).toInt64) ≤ (lN 5)) = false) C dX7_machine_9 24 (by decide) 12 rfl (bI_eq0 _) ?_ ?_
  · intro h9
    refine g_bipush (v := (-2)) C dX7_machine_24 (by decide) 26 rfl ?_
    exact hret _ _ dX7_machine_26
  · intro h9
    have h9 : decide ((lN 1) ≤ ((a).toInt64) ∧ ((a).toInt64) ≤ (lN 5)) = true := by simpa using h9
    refine g_iload_n C dX7_machine_12 rfl 13 rfl 2 rfl ?_
    refine g_i2l (v := (b).toInt64) C dX7_machine_13 rfl 14 rfl ?_
    refine g_lconst (v := lN 1) C dX7_machine_14 (by decide) 15 rfl ?_
    refine g_ldc2 (v' := (lN 5)) C (C.1.2.2.2.2 (.constantLong RX7 77 (5)) (List.mem_of_getElem? (i := 1) rfl)) (by decide) dX7_machine_15 18 rfl ?_
    refine g_cSi (ws2 := [ob o7 7 [.int (nI n), .int (nI m), .int (nI z), .ref uP, .ref uS, .ref uQ, .ref uA, .ref uB, .int (nI c), .ref uK, .int (nI h), .int (nI ns), .ref uM, .ref uF, .ref uY, .ref uT, .ref uL, .ref uC, .ref uX, .int (oI nf), .ref uI, .ref uR, .ref uW, .ref uH, .ref uG]]) (As := [.long ((b).toInt64), .long (lN 1), .long (lN 5)]) (st := []) (wsc := []) (wr := [ob o7 7 [.int (nI n), .int (nI m), .int (nI z), .ref uP, .ref uS, .ref uQ, .ref uA, .ref uB, .int (nI c), .ref uK, .int (nI h), .int (nI ns), .ref uM, .ref uF, .ref uY, .ref uT, .ref uL, .ref uC, .ref uX, .int (oI nf), .ref uI, .ref uR, .ref uW, .ref uH, .ref uG]]) C (c_X7_isIn (eL E) (eD E) (eY E) ((b).toInt64) (lN 1) (lN 5) ) 3 gX7_machine_X7_isIn rfl (by decide +kernel) (by decide) ⟨Nat.zero_le _, Nat.zero_le _⟩ rfl rfl (Nat.le_of_ble_eq_true rfl) [] [0] [0] rfl rfl (by decide) (by decide) rfl (by decide) dX7_machine_18 21 rfl ?_
    refine g_if_ne (X := decide ((lN 1) ≤ ((b).toInt64) ∧ ((b).toInt64) ≤ (lN 5)) = true) C dX7_machine_21 27 (by decide) 24 rfl (bI_ne0 _) ?_ ?_
    · intro h21
      exact (show False from by rw [isin_rg (lo := 1) (hi := 5) (by decide) (by decide) h9, isin_rg (x := b) (lo := 1) (hi := 5) (by decide) (by decide) h21] at hb; cases hb).elim
    · intro h21
      have h21 : decide ((lN 1) ≤ ((b).toInt64) ∧ ((b).toInt64) ≤ (lN 5)) = false := by simpa using h21
      refine g_bipush (v := (-2)) C dX7_machine_24 (by decide) 26 rfl ?_
      exact hret _ _ dX7_machine_26
set_option maxHeartbeats 4000000 in
set_option maxRecDepth 100000 in
theorem c_X7_machine_ok (l : Launch) (D : va_G) (cy : Nat → ClassId) (o7 : Nat) (n : Nat) (m : Nat) (z : Nat) (uP : Nat) (uS : Nat) (uQ : Nat) (uA : Nat) (uB : Nat) (c : Nat) (uK : Nat) (h : Nat) (ns : Nat) (uM : Nat) (uF : Nat) (uY : Nat) (uT : Nat) (uL : Nat) (uC : Nat) (uX : Nat) (nf : Nat) (uI : Nat) (uR : Nat) (uW : Nat) (uH : Nat) (uG : Nat) (a : Nat) (b : Nat) (ha : 1 ≤ a ∧ a ≤ 5) (hb : 1 ≤ b ∧ b ≤ 5) : CoI l yX7_machine wsX7_machine 1 25 D cy [ob o7 7 [.int (nI n), .int (nI m), .int (nI z), .ref uP, .ref uS, .ref uQ, .ref uA, .ref uB, .int (nI c), .ref uK, .int (nI h), .int (nI ns), .ref uM, .ref uF, .ref uY, .ref uT, .ref uL, .ref uC, .ref uX, .int (oI nf), .ref uI, .ref uR, .ref uW, .ref uH, .ref uG]] [.ref o7, .int (nI a), .int (nI b)] [ob o7 7 [.int (nI a), .int (nI b), .int (nI 0), .ref uP, .ref uS, .ref uQ, .ref uA, .ref uB, .int (nI 0), .ref uK, .int (nI 0), .int (nI 0), .ref uM, .ref uF, .ref uY, .ref uT, .ref uL, .ref uC, .ref uX, .int (oI nf), .ref uI, .ref uR, .ref uW, .ref uH, .ref uG]] (nI z) := by
  refine met_i (cc := cX7_machine) (maxL := 4) (own := RX7) (lv := [(0, .ref o7), (1, .int (nI a)), (2, .int (nI b))]) (by decide) rfl rfl rfl (Nat.le_of_ble_eq_true rfl) (fun E e1 e2 e3 C hret => ?_)
  subst e1; subst e2; subst e3
  have iX7 : ∀ w ∈ wsX70, w ∈ wsX7_machine := fun _ h => List.mem_cons_of_mem _ (List.mem_append_right _ h)
  refine g_iload_n C dX7_machine_0 rfl 1 rfl 1 rfl ?_
  refine g_i2l (v := lN a) C dX7_machine_1 (nI_l (by omega)) 2 rfl ?_
  refine g_lconst (v := lN 1) C dX7_machine_2 (by decide) 3 rfl ?_
  refine g_ldc2 (v' := (lN 5)) C (C.1.2.2.2.2 (.constantLong RX7 77 (5)) (List.mem_of_getElem? (i := 1) rfl)) (by decide) dX7_machine_3 6 rfl ?_
  refine g_cSi (ws2 := [ob o7 7 [.int (nI n), .int (nI m), .int (nI z), .ref uP, .ref uS, .ref uQ, .ref uA, .ref uB, .int (nI c), .ref uK, .int (nI h), .int (nI ns), .ref uM, .ref uF, .ref uY, .ref uT, .ref uL, .ref uC, .ref uX, .int (oI nf), .ref uI, .ref uR, .ref uW, .ref uH, .ref uG]]) (As := [.long (lN a), .long (lN 1), .long (lN 5)]) (st := []) (wsc := []) (wr := [ob o7 7 [.int (nI n), .int (nI m), .int (nI z), .ref uP, .ref uS, .ref uQ, .ref uA, .ref uB, .int (nI c), .ref uK, .int (nI h), .int (nI ns), .ref uM, .ref uF, .ref uY, .ref uT, .ref uL, .ref uC, .ref uX, .int (oI nf), .ref uI, .ref uR, .ref uW, .ref uH, .ref uG]]) C (c_X7_isIn (eL E) (eD E) (eY E) (lN a) (lN 1) (lN 5) ) 3 gX7_machine_X7_isIn rfl (by decide +kernel) (by decide) ⟨Nat.zero_le _, Nat.zero_le _⟩ rfl rfl (Nat.le_of_ble_eq_true rfl) [] [0] [0] rfl rfl (by decide) (by decide) rfl (by decide) dX7_machine_6 9 rfl ?_
  refine g_if_eq (X := decide ((lN 1) ≤ (lN a) ∧ (lN a) ≤ (lN 5)) = false) C dX7_machine_9 24 (by decide) 12 rfl (bI_eq0 _) ?_ ?_
  · intro h9
    exact (show False from by first | exact isin_no (by omega) (by omega) (by omega) ha h9 | exact isin_no (by omega) (by omega) (by omega) hb h21).elim
  · intro h9
    have h9 : decide ((lN 1) ≤ (lN a) ∧ (lN a) ≤ (lN 5)) = true := by simpa using h9
    refine g_iload_n C dX7_machine_12 rfl 13 rfl 2 rfl ?_
    refine g_i2l (v := lN b) C dX7_machine_13 (nI_l (by omega)) 14 rfl ?_
    refine g_lconst (v := lN 1) C dX7_machine_14 (by decide) 15 rfl ?_
    refine g_ldc2 (v' := (lN 5)) C (C.1.2.2.2.2 (.constantLong RX7 77 (5)) (List.mem_of_getElem? (i := 1) rfl)) (by decide) dX7_machine_15 18 rfl ?_
    refine g_cSi (ws2 := [ob o7 7 [.int (nI n), .int (nI m), .int (nI z), .ref uP, .ref uS, .ref uQ, .ref uA, .ref uB, .int (nI c), .ref uK, .int (nI h), .int (nI ns), .ref uM, .ref uF, .ref uY, .ref uT, .ref uL, .ref uC, .ref uX, .int (oI nf), .ref uI, .ref uR, .ref uW, .ref uH, .ref uG]]) (As := [.long (lN b), .long (lN 1), .long (lN 5)]) (st := []) (wsc := []) (wr := [ob o7 7 [.int (nI n), .int (nI m), .int (nI z), .ref uP, .ref uS, .ref uQ, .ref uA, .ref uB, .int (nI c), .ref uK, .int (nI h), .int (nI ns), .ref uM, .ref uF, .ref uY, .ref uT, .ref uL, .ref uC, .ref uX, .int (oI nf), .ref uI, .ref uR, .ref uW, .ref uH, .ref uG]]) C (c_X7_isIn (eL E) (eD E) (eY E) (lN b) (lN 1) (lN 5) ) 3 gX7_machine_X7_isIn rfl (by decide +kernel) (by decide) ⟨Nat.zero_le _, Nat.zero_le _⟩ rfl rfl (Nat.le_of_ble_eq_true rfl) [] [0] [0] rfl rfl (by decide) (by decide) rfl (by decide) dX7_machine_18 21 rfl ?_
    refine g_if_ne (X := decide ((lN 1) ≤ (lN b) ∧ (lN b) ≤ (lN 5)) = true) C dX7_machine_21 27 (by decide) 24 rfl (bI_ne0 _) ?_ ?_
    · intro h21
      refine g_aload_n C dX7_machine_27 rfl 28 rfl 0 rfl ?_
      refine g_get C iX7 0 rfl rfl 2 (by decide) (C.1.2.2.2.2 (.fieldLink RX7 79 "StackRunsModel" "rules" "I") (List.mem_of_getElem? (i := 2) rfl)) rfl dX7_machine_28 31 rfl ?_
      refine g_istore_n (lv' := [(3, .int (nI z)), (0, .ref o7), (1, .int (nI a)), (2, .int (nI b))]) C dX7_machine_31 rfl 32 rfl (by decide) rfl ?_
      refine g_aload_n C dX7_machine_32 rfl 33 rfl 1 rfl ?_
      refine g_iload_n C dX7_machine_33 rfl 34 rfl 2 rfl ?_
      refine g_put (ws' := [ob o7 7 [.int (nI a), .int (nI m), .int (nI z), .ref uP, .ref uS, .ref uQ, .ref uA, .ref uB, .int (nI c), .ref uK, .int (nI h), .int (nI ns), .ref uM, .ref uF, .ref uY, .ref uT, .ref uL, .ref uC, .ref uX, .int (oI nf), .ref uI, .ref uR, .ref uW, .ref uH, .ref uG]]) (ty := .int) C iX7 tyX7_ok nmX7 0 rfl rfl 0 (by decide) (C.1.2.2.2.2 (.fieldLink RX7 7 "StackRunsModel" "controls" "I") (List.mem_of_getElem? (i := 3) rfl)) rfl (by decide +kernel) rfl rfl (Nat.le_of_ble_eq_true rfl) dX7_machine_34 37 rfl rfl ?_
      refine g_aload_n C dX7_machine_37 rfl 38 rfl 1 rfl ?_
      refine g_iload_n C dX7_machine_38 rfl 39 rfl 3 rfl ?_
      refine g_put (ws' := [ob o7 7 [.int (nI a), .int (nI b), .int (nI z), .ref uP, .ref uS, .ref uQ, .ref uA, .ref uB, .int (nI c), .ref uK, .int (nI h), .int (nI ns), .ref uM, .ref uF, .ref uY, .ref uT, .ref uL, .ref uC, .ref uX, .int (oI nf), .ref uI, .ref uR, .ref uW, .ref uH, .ref uG]]) (ty := .int) C iX7 tyX7_ok nmX7 0 rfl rfl 1 (by decide) (C.1.2.2.2.2 (.fieldLink RX7 13 "StackRunsModel" "signs" "I") (List.mem_of_getElem? (i := 4) rfl)) rfl (by decide +kernel) rfl rfl (Nat.le_of_ble_eq_true rfl) dX7_machine_39 42 rfl rfl ?_
      refine g_aload_n C dX7_machine_42 rfl 43 rfl 1 rfl ?_
      refine g_iconst (v := nI 0) C dX7_machine_43 (by decide) 44 rfl ?_
      refine g_put (ws' := [ob o7 7 [.int (nI a), .int (nI b), .int (nI 0), .ref uP, .ref uS, .ref uQ, .ref uA, .ref uB, .int (nI c), .ref uK, .int (nI h), .int (nI ns), .ref uM, .ref uF, .ref uY, .ref uT, .ref uL, .ref uC, .ref uX, .int (oI nf), .ref uI, .ref uR, .ref uW, .ref uH, .ref uG]]) (ty := .int) C iX7 tyX7_ok nmX7 0 rfl rfl 2 (by decide) (C.1.2.2.2.2 (.fieldLink RX7 79 "StackRunsModel" "rules" "I") (List.mem_of_getElem? (i := 2) rfl)) rfl (by decide +kernel) rfl rfl (Nat.le_of_ble_eq_true rfl) dX7_machine_44 47 rfl rfl ?_
      refine g_aload_n C dX7_machine_47 rfl 48 rfl 1 rfl ?_
      refine g_iconst (v := nI 0) C dX7_machine_48 (by decide) 49 rfl ?_
      refine g_put (ws' := [ob o7 7 [.int (nI a), .int (nI b), .int (nI 0), .ref uP, .ref uS, .ref uQ, .ref uA, .ref uB, .int (nI 0), .ref uK, .int (nI h), .int (nI ns), .ref uM, .ref uF, .ref uY, .ref uT, .ref uL, .ref uC, .ref uX, .int (oI nf), .ref uI, .ref uR, .ref uW, .ref uH, .ref uG]]) (ty := .int) C iX7 tyX7_ok nmX7 0 rfl rfl 8 (by decide) (C.1.2.2.2.2 (.fieldLink RX7 82 "StackRunsModel" "control" "I") (List.mem_of_getElem? (i := 5) rfl)) rfl (by decide +kernel) rfl rfl (Nat.le_of_ble_eq_true rfl) dX7_machine_49 52 rfl rfl ?_
      refine g_aload_n C dX7_machine_52 rfl 53 rfl 1 rfl ?_
      refine g_iconst (v := nI 0) C dX7_machine_53 (by decide) 54 rfl ?_
      refine g_put (ws' := [ob o7 7 [.int (nI a), .int (nI b), .int (nI 0), .ref uP, .ref uS, .ref uQ, .ref uA, .ref uB, .int (nI 0), .ref uK, .int (nI 0), .int (nI ns), .ref uM, .ref uF, .ref uY, .ref uT, .ref uL, .ref uC, .ref uX, .int (oI nf), .ref uI, .ref uR, .ref uW, .ref uH, .ref uG]]) (ty := .int) C iX7 tyX7_ok nmX7 0 rfl rfl 10 (by decide) (C.1.2.2.2.2 (.fieldLink RX7 85 "StackRunsModel" "height" "I") (List.mem_of_getElem? (i := 6) rfl)) rfl (by decide +kernel) rfl rfl (Nat.le_of_ble_eq_true rfl) dX7_machine_54 57 rfl rfl ?_
      refine g_aload_n C dX7_machine_57 rfl 58 rfl 1 rfl ?_
      refine g_iconst (v := nI 0) C dX7_machine_58 (by decide) 59 rfl ?_
      refine g_put (ws' := [ob o7 7 [.int (nI a), .int (nI b), .int (nI 0), .ref uP, .ref uS, .ref uQ, .ref uA, .ref uB, .int (nI 0), .ref uK, .int (nI 0), .int (nI 0), .ref uM, .ref uF, .ref uY, .ref uT, .ref uL, .ref uC, .ref uX, .int (oI nf), .ref uI, .ref uR, .ref uW, .ref uH, .ref uG]]) (ty := .int) C iX7 tyX7_ok nmX7 0 rfl rfl 11 (by decide) (C.1.2.2.2.2 (.fieldLink RX7 88 "StackRunsModel" "sets" "I") (List.mem_of_getElem? (i := 7) rfl)) rfl (by decide +kernel) rfl rfl (Nat.le_of_ble_eq_true rfl) dX7_machine_59 62 rfl rfl ?_
      refine g_iload_n C dX7_machine_62 rfl 63 rfl 0 rfl ?_
      exact hret _ _ dX7_machine_63
    · intro h21
      have h21 : decide ((lN 1) ≤ (lN b) ∧ (lN b) ≤ (lN 5)) = false := by simpa using h21
      exact (show False from by first | exact isin_no (by omega) (by omega) (by omega) ha h9 | exact isin_no (by omega) (by omega) (by omega) hb h21).elim
set_option maxHeartbeats 4000000 in
set_option maxRecDepth 100000 in
theorem c_X7_rule_bad (l : Launch) (D : va_G) (cy : Nat → ClassId) (o7 : Nat) (n : Nat) (m : Nat) (z : Nat) (uP : Nat) (uS : Nat) (uQ : Nat) (uA : Nat) (uB : Nat) (c : Nat) (uK : Nat) (h : Nat) (ns : Nat) (uM : Nat) (uF : Nat) (uY : Nat) (uT : Nat) (uL : Nat) (uC : Nat) (uX : Nat) (nf : Nat) (uI : Nat) (uR : Nat) (uW : Nat) (uH : Nat) (uG : Nat) (Pp : Nat → Nat) (Ps : Nat → Nat) (Pq : Nat → Nat) (Pa : Nat → Nat) (Pb : Nat → Nat) (p : Int32) (s : Int32) (q : Int32) (a : Int32) (b : Int32) (hn : n ≤ 5) (hm : m ≤ 5) (hb : (inR p n && inR s m && inR q n && fitB a b m) = false) : CoI l yX7_rule wsX7_rule 2 46 D cy [ob o7 7 [.int (nI n), .int (nI m), .int (nI z), .ref uP, .ref uS, .ref uQ, .ref uA, .ref uB, .int (nI c), .ref uK, .int (nI h), .int (nI ns), .ref uM, .ref uF, .ref uY, .ref uT, .ref uL, .ref uC, .ref uX, .int (oI nf), .ref uI, .ref uR, .ref uW, .ref uH, .ref uG], aN cy uP 30 Pp, aN cy uS 30 Ps, aN cy uQ 30 Pq, aO cy uA 30 Pa, aO cy uB 30 Pb] [.ref o7, .int p, .int s, .int q, .int a, .int b] [ob o7 7 [.int (nI n), .int (nI m), .int (nI z), .ref uP, .ref uS, .ref uQ, .ref uA, .ref uB, .int (nI c), .ref uK, .int (nI h), .int (nI ns), .ref uM, .ref uF, .ref uY, .ref uT, .ref uL, .ref uC, .ref uX, .int (oI nf), .ref uI, .ref uR, .ref uW, .ref uH, .ref uG], aN cy uP 30 Pp, aN cy uS 30 Ps, aN cy uQ 30 Pq, aO cy uA 30 Pa, aO cy uB 30 Pb] (-2) := by
  refine met_i (cc := cX7_rule) (maxL := 7) (own := RX7) (lv := [(0, .ref o7), (1, .int p), (2, .int s), (3, .int q), (4, .int a), (5, .int b)]) (by decide) rfl rfl rfl (Nat.le_of_ble_eq_true rfl) (fun E e1 e2 e3 C hret => ?_)
  subst e1; subst e2; subst e3
  refine g_aload_n C dX7_rule_0 rfl 1 rfl 0 rfl ?_
  refine g_iload_n C dX7_rule_1 rfl 2 rfl 1 rfl ?_
  refine g_cVi (ws2 := [ob o7 7 [.int (nI n), .int (nI m), .int (nI z), .ref uP, .ref uS, .ref uQ, .ref uA, .ref uB, .int (nI c), .ref uK, .int (nI h), .int (nI ns), .ref uM, .ref uF, .ref uY, .ref uT, .ref uL, .ref uC, .ref uX, .int (oI nf), .ref uI, .ref uR, .ref uW, .ref uH, .ref uG], aN (eY E) uP 30 Pp, aN (eY E) uS 30 Ps, aN (eY E) uQ 30 Pq, aO (eY E) uA 30 Pa, aO (eY E) uB 30 Pb]) (As := [.int p]) (st := []) (wsc := [ob o7 7 [.int (nI n), .int (nI m), .int (nI z), .ref uP, .ref uS, .ref uQ, .ref uA, .ref uB, .int (nI c), .ref uK, .int (nI h), .int (nI ns), .ref uM, .ref uF, .ref uY, .ref uT, .ref uL, .ref uC, .ref uX, .int (oI nf), .ref uI, .ref uR, .ref uW, .ref uH, .ref uG]]) (wr := [aN (eY E) uP 30 Pp, aN (eY E) uS 30 Ps, aN (eY E) uQ 30 Pq, aO (eY E) uA 30 Pa, aO (eY E) uB 30 Pb]) C (c_X7_isControl (eL E) (eD E) (eY E) o7 n m z uP uS uQ uA uB c uK h ns uM uF uY uT uL uC uX nf uI uR uW uH uG p (by omega)) 1 gX7_rule_X7_isControl rfl (by decide +kernel) (by decide) ⟨Nat.zero_le _, Nat.zero_le _⟩ rfl 0 rfl rfl rfl (Nat.le_of_ble_eq_true rfl) [0] [1, 2, 3, 4, 5] [5, 0, 1, 2, 3, 4] rfl rfl (by decide) (by decide) rfl (by decide) dX7_rule_2 5 rfl ?_
  refine g_if_eq (X := inR p n = false) C dX7_rule_5 64 (by decide) 8 rfl (bI_eq0 _) ?_ ?_
  · intro h5
    refine g_iconst (v := nI 0) C dX7_rule_64 (by decide) 65 rfl ?_
    refine g_istore (lv' := [(6, .int (nI 0)), (0, .ref o7), (1, .int p), (2, .int s), (3, .int q), (4, .int a), (5, .int b)]) C dX7_rule_65 67 rfl (by decide) rfl ?_
    refine g_iload C dX7_rule_67 69 rfl 0 rfl ?_
    refine g_if_ne (X := ¬ 0 = 0) C dX7_rule_69 75 (by decide) 72 rfl (not_congr (nI_eq0 (by omega))) ?_ ?_
    · intro h69
      exact absurd h69 (by decide)
    · intro h69
      have h69 : 0 = 0 := Decidable.not_not.mp h69
      refine g_bipush (v := (-2)) C dX7_rule_72 (by decide) 74 rfl ?_
      exact hret _ _ dX7_rule_74
  · intro h5
    have h5 : inR p n = true := by simpa using h5
    refine g_aload_n C dX7_rule_8 rfl 9 rfl 0 rfl ?_
    refine g_iload_n C dX7_rule_9 rfl 10 rfl 2 rfl ?_
    refine g_cVi (ws2 := [ob o7 7 [.int (nI n), .int (nI m), .int (nI z), .ref uP, .ref uS, .ref uQ, .ref uA, .ref uB, .int (nI c), .ref uK, .int (nI h), .int (nI ns), .ref uM, .ref uF, .ref uY, .ref uT, .ref uL, .ref uC, .ref uX, .int (oI nf), .ref uI, .ref uR, .ref uW, .ref uH, .ref uG], aN (eY E) uP 30 Pp, aN (eY E) uS 30 Ps, aN (eY E) uQ 30 Pq, aO (eY E) uA 30 Pa, aO (eY E) uB 30 Pb]) (As := [.int s]) (st := []) (wsc := [ob o7 7 [.int (nI n), .int (nI m), .int (nI z), .ref uP, .ref uS, .ref uQ, .ref uA, .ref uB, .int (nI c), .ref uK, .int (nI h), .int (nI ns), .ref uM, .ref uF, .ref uY, .ref uT, .ref uL, .ref uC, .ref uX, .int (oI nf), .ref uI, .ref uR, .ref uW, .ref uH, .ref uG]]) (wr := [aN (eY E) uP 30 Pp, aN (eY E) uS 30 Ps, aN (eY E) uQ 30 Pq, aO (eY E) uA 30 Pa, aO (eY E) uB 30 Pb]) C (c_X7_isSign (eL E) (eD E) (eY E) o7 n m z uP uS uQ uA uB c uK h ns uM uF uY uT uL uC uX nf uI uR uW uH uG s (by omega)) 1 gX7_rule_X7_isSign rfl (by decide +kernel) (by decide) ⟨Nat.zero_le _, Nat.zero_le _⟩ rfl 0 rfl rfl rfl (Nat.le_of_ble_eq_true rfl) [0] [1, 2, 3, 4, 5] [5, 0, 1, 2, 3, 4] rfl rfl (by decide) (by decide) rfl (by decide) dX7_rule_10 13 rfl ?_
    refine g_if_eq (X := inR s m = false) C dX7_rule_13 64 (by decide) 16 rfl (bI_eq0 _) ?_ ?_
    · intro h13
      refine g_iconst (v := nI 0) C dX7_rule_64 (by decide) 65 rfl ?_
      refine g_istore (lv' := [(6, .int (nI 0)), (0, .ref o7), (1, .int p), (2, .int s), (3, .int q), (4, .int a), (5, .int b)]) C dX7_rule_65 67 rfl (by decide) rfl ?_
      refine g_iload C dX7_rule_67 69 rfl 0 rfl ?_
      refine g_if_ne (X := ¬ 0 = 0) C dX7_rule_69 75 (by decide) 72 rfl (not_congr (nI_eq0 (by omega))) ?_ ?_
      · intro h69
        exact absurd h69 (by decide)
      · intro h69
        have h69 : 0 = 0 := Decidable.not_not.mp h69
        refine g_bipush (v := (-2)) C dX7_rule_72 (by decide) 74 rfl ?_
        exact hret _ _ dX7_rule_74
    · intro h13
      have h13 : inR s m = true := by simpa using h13
      refine g_aload_n C dX7_rule_16 rfl 17 rfl 0 rfl ?_
      refine g_iload_n C dX7_rule_17 rfl 18 rfl 3 rfl ?_
      refine g_cVi (ws2 := [ob o7 7 [.int (nI n), .int (nI m), .int (nI z), .ref uP, .ref uS, .ref uQ, .ref uA, .ref uB, .int (nI c), .ref uK, .int (nI h), .int (nI ns), .ref uM, .ref uF, .ref uY, .ref uT, .ref uL, .ref uC, .ref uX, .int (oI nf), .ref uI, .ref uR, .ref uW, .ref uH, .ref uG], aN (eY E) uP 30 Pp, aN (eY E) uS 30 Ps, aN (eY E) uQ 30 Pq, aO (eY E) uA 30 Pa, aO (eY E) uB 30 Pb]) (As := [.int q]) (st := []) (wsc := [ob o7 7 [.int (nI n), .int (nI m), .int (nI z), .ref uP, .ref uS, .ref uQ, .ref uA, .ref uB, .int (nI c), .ref uK, .int (nI h), .int (nI ns), .ref uM, .ref uF, .ref uY, .ref uT, .ref uL, .ref uC, .ref uX, .int (oI nf), .ref uI, .ref uR, .ref uW, .ref uH, .ref uG]]) (wr := [aN (eY E) uP 30 Pp, aN (eY E) uS 30 Ps, aN (eY E) uQ 30 Pq, aO (eY E) uA 30 Pa, aO (eY E) uB 30 Pb]) C (c_X7_isControl (eL E) (eD E) (eY E) o7 n m z uP uS uQ uA uB c uK h ns uM uF uY uT uL uC uX nf uI uR uW uH uG q (by omega)) 1 gX7_rule_X7_isControl rfl (by decide +kernel) (by decide) ⟨Nat.zero_le _, Nat.zero_le _⟩ rfl 0 rfl rfl rfl (Nat.le_of_ble_eq_true rfl) [0] [1, 2, 3, 4, 5] [5, 0, 1, 2, 3, 4] rfl rfl (by decide) (by decide) rfl (by decide) dX7_rule_18 21 rfl ?_
      refine g_if_eq (X := inR q n = false) C dX7_rule_21 64 (by decide) 24 rfl (bI_eq0 _) ?_ ?_
      · intro h21
        refine g_iconst (v := nI 0) C dX7_rule_64 (by decide) 65 rfl ?_
        refine g_istore (lv' := [(6, .int (nI 0)), (0, .ref o7), (1, .int p), (2, .int s), (3, .int q), (4, .int a), (5, .int b)]) C dX7_rule_65 67 rfl (by decide) rfl ?_
        refine g_iload C dX7_rule_67 69 rfl 0 rfl ?_
        refine g_if_ne (X := ¬ 0 = 0) C dX7_rule_69 75 (by decide) 72 rfl (not_congr (nI_eq0 (by omega))) ?_ ?_
        · intro h69
          exact absurd h69 (by decide)
        · intro h69
          have h69 : 0 = 0 := Decidable.not_not.mp h69
          refine g_bipush (v := (-2)) C dX7_rule_72 (by decide) 74 rfl ?_
          exact hret _ _ dX7_rule_74
      · intro h21
        have h21 : inR q n = true := by simpa using h21
        refine g_iload C dX7_rule_24 26 rfl 4 rfl ?_
        refine g_iconst (v := (-1)) C dX7_rule_26 (by decide) 27 rfl ?_
        refine g_icmp_eq (X := a = (-1)) C dX7_rule_27 39 (by decide) 30 rfl (Iff.rfl) ?_ ?_
        · intro h27
          refine g_iload C dX7_rule_39 41 rfl 5 rfl ?_
          refine g_iconst (v := (-1)) C dX7_rule_41 (by decide) 42 rfl ?_
          refine g_icmp_eq (X := b = (-1)) C dX7_rule_42 60 (by decide) 45 rfl (Iff.rfl) ?_ ?_
          · intro h42
            refine g_iconst (v := nI 1) C dX7_rule_60 (by decide) 61 rfl ?_
            refine g_goto C dX7_rule_61 65 (by decide) ?_
            refine g_istore (lv' := [(6, .int (nI 1)), (0, .ref o7), (1, .int p), (2, .int s), (3, .int q), (4, .int a), (5, .int b)]) C dX7_rule_65 67 rfl (by decide) rfl ?_
            refine g_iload C dX7_rule_67 69 rfl 0 rfl ?_
            refine g_if_ne (X := ¬ 1 = 0) C dX7_rule_69 75 (by decide) 72 rfl (not_congr (nI_eq0 (by omega))) ?_ ?_
            · intro h69
              exact (show False from by first | exact absurd h27 h48 | (rw [h5, h13, h21] at hb; (have hf : fitB a b m = true := by unfold fitB; simp [*]); rw [hf] at hb; cases hb)).elim
            · intro h69
              have h69 : 1 = 0 := Decidable.not_not.mp h69
              exact absurd h69 (by decide)
          · intro h42
            refine g_iload C dX7_rule_45 47 rfl 4 rfl ?_
            refine g_iconst (v := (-1)) C dX7_rule_47 (by decide) 48 rfl ?_
            refine g_icmp_eq (X := a = (-1)) C dX7_rule_48 64 (by decide) 51 rfl (Iff.rfl) ?_ ?_
            · intro h48
              refine g_iconst (v := nI 0) C dX7_rule_64 (by decide) 65 rfl ?_
              refine g_istore (lv' := [(6, .int (nI 0)), (0, .ref o7), (1, .int p), (2, .int s), (3, .int q), (4, .int a), (5, .int b)]) C dX7_rule_65 67 rfl (by decide) rfl ?_
              refine g_iload C dX7_rule_67 69 rfl 0 rfl ?_
              refine g_if_ne (X := ¬ 0 = 0) C dX7_rule_69 75 (by decide) 72 rfl (not_congr (nI_eq0 (by omega))) ?_ ?_
              · intro h69
                exact absurd h69 (by decide)
              · intro h69
                have h69 : 0 = 0 := Decidable.not_not.mp h69
                refine g_bipush (v := (-2)) C dX7_rule_72 (by decide) 74 rfl ?_
                exact hret _ _ dX7_rule_74
            · intro h48
              refine g_aload_n C dX7_rule_51 rfl 52 rfl 0 rfl ?_
              refine g_iload C dX7_rule_52 54 rfl 5 rfl ?_
              refine g_cVi (ws2 := [ob o7 7 [.int (nI n), .int (nI m), .int (nI z), .ref uP, .ref uS, .ref uQ, .ref uA, .ref uB, .int (nI c), .ref uK, .int (nI h), .int (nI ns), .ref uM, .ref uF, .ref uY, .ref uT, .ref uL, .ref uC, .ref uX, .int (oI nf), .ref uI, .ref uR, .ref uW, .ref uH, .ref uG], aN (eY E) uP 30 Pp, aN (eY E) uS 30 Ps, aN (eY E) uQ 30 Pq, aO (eY E) uA 30 Pa, aO (eY E) uB 30 Pb]) (As := [.int b]) (st := []) (wsc := [ob o7 7 [.int (nI n), .int (nI m), .int (nI z), .ref uP, .ref uS, .ref uQ, .ref uA, .ref uB, .int (nI c), .ref uK, .int (nI h), .int (nI ns), .ref uM, .ref uF, .ref uY, .ref uT, .ref uL, .ref uC, .ref uX, .int (oI nf), .ref uI, .ref uR, .ref uW, .ref uH, .ref uG]]) (wr := [aN (eY E) uP 30 Pp, aN (eY E) uS 30 Ps, aN (eY E) uQ 30 Pq, aO (eY E) uA 30 Pa, aO (eY E) uB 30 Pb]) C (c_X7_isSign (eL E) (eD E) (eY E) o7 n m z uP uS uQ uA uB c uK h ns uM uF uY uT uL uC uX nf uI uR uW uH uG b (by omega)) 1 gX7_rule_X7_isSign rfl (by decide +kernel) (by decide) ⟨Nat.zero_le _, Nat.zero_le _⟩ rfl 0 rfl rfl rfl (Nat.le_of_ble_eq_true rfl) [0] [1, 2, 3, 4, 5] [5, 0, 1, 2, 3, 4] rfl rfl (by decide) (by decide) rfl (by decide) dX7_rule_54 57 rfl ?_
              refine g_if_eq (X := inR b m = false) C dX7_rule_57 64 (by decide) 60 rfl (bI_eq0 _) ?_ ?_
              · intro h57
                refine g_iconst (v := nI 0) C dX7_rule_64 (by decide) 65 rfl ?_
                refine g_istore (lv' := [(6, .int (nI 0)), (0, .ref o7), (1, .int p), (2, .int s), (3, .int q), (4, .int a), (5, .int b)]) C dX7_rule_65 67 rfl (by decide) rfl ?_
                refine g_iload C dX7_rule_67 69 rfl 0 rfl ?_
                refine g_if_ne (X := ¬ 0 = 0) C dX7_rule_69 75 (by decide) 72 rfl (not_congr (nI_eq0 (by omega))) ?_ ?_
                · intro h69
                  exact absurd h69 (by decide)
                · intro h69
                  have h69 : 0 = 0 := Decidable.not_not.mp h69
                  refine g_bipush (v := (-2)) C dX7_rule_72 (by decide) 74 rfl ?_
                  exact hret _ _ dX7_rule_74
              · intro h57
                have h57 : inR b m = true := by simpa using h57
                refine g_iconst (v := nI 1) C dX7_rule_60 (by decide) 61 rfl ?_
                refine g_goto C dX7_rule_61 65 (by decide) ?_
                refine g_istore (lv' := [(6, .int (nI 1)), (0, .ref o7), (1, .int p), (2, .int s), (3, .int q), (4, .int a), (5, .int b)]) C dX7_rule_65 67 rfl (by decide) rfl ?_
                refine g_iload C dX7_rule_67 69 rfl 0 rfl ?_
                refine g_if_ne (X := ¬ 1 = 0) C dX7_rule_69 75 (by decide) 72 rfl (not_congr (nI_eq0 (by omega))) ?_ ?_
                · intro h69
                  exact (show False from by first | exact absurd h27 h48 | (rw [h5, h13, h21] at hb; (have hf : fitB a b m = true := by unfold fitB; simp [*]); rw [hf] at hb; cases hb)).elim
                · intro h69
                  have h69 : 1 = 0 := Decidable.not_not.mp h69
                  exact absurd h69 (by decide)
        · intro h27
          refine g_aload_n C dX7_rule_30 rfl 31 rfl 0 rfl ?_
          refine g_iload C dX7_rule_31 33 rfl 4 rfl ?_
          refine g_cVi (ws2 := [ob o7 7 [.int (nI n), .int (nI m), .int (nI z), .ref uP, .ref uS, .ref uQ, .ref uA, .ref uB, .int (nI c), .ref uK, .int (nI h), .int (nI ns), .ref uM, .ref uF, .ref uY, .ref uT, .ref uL, .ref uC, .ref uX, .int (oI nf), .ref uI, .ref uR, .ref uW, .ref uH, .ref uG], aN (eY E) uP 30 Pp, aN (eY E) uS 30 Ps, aN (eY E) uQ 30 Pq, aO (eY E) uA 30 Pa, aO (eY E) uB 30 Pb]) (As := [.int a]) (st := []) (wsc := [ob o7 7 [.int (nI n), .int (nI m), .int (nI z), .ref uP, .ref uS, .ref uQ, .ref uA, .ref uB, .int (nI c), .ref uK, .int (nI h), .int (nI ns), .ref uM, .ref uF, .ref uY, .ref uT, .ref uL, .ref uC, .ref uX, .int (oI nf), .ref uI, .ref uR, .ref uW, .ref uH, .ref uG]]) (wr := [aN (eY E) uP 30 Pp, aN (eY E) uS 30 Ps, aN (eY E) uQ 30 Pq, aO (eY E) uA 30 Pa, aO (eY E) uB 30 Pb]) C (c_X7_isSign (eL E) (eD E) (eY E) o7 n m z uP uS uQ uA uB c uK h ns uM uF uY uT uL uC uX nf uI uR uW uH uG a (by omega)) 1 gX7_rule_X7_isSign rfl (by decide +kernel) (by decide) ⟨Nat.zero_le _, Nat.zero_le _⟩ rfl 0 rfl rfl rfl (Nat.le_of_ble_eq_true rfl) [0] [1, 2, 3, 4, 5] [5, 0, 1, 2, 3, 4] rfl rfl (by decide) (by decide) rfl (by decide) dX7_rule_33 36 rfl ?_
          refine g_if_eq (X := inR a m = false) C dX7_rule_36 64 (by decide) 39 rfl (bI_eq0 _) ?_ ?_
          · intro h36
            refine g_iconst (v := nI 0) C dX7_rule_64 (by decide) 65 rfl ?_
            refine g_istore (lv' := [(6, .int (nI 0)), (0, .ref o7), (1, .int p), (2, .int s), (3, .int q), (4, .int a), (5, .int b)]) C dX7_rule_65 67 rfl (by decide) rfl ?_
            refine g_iload C dX7_rule_67 69 rfl 0 rfl ?_
            refine g_if_ne (X := ¬ 0 = 0) C dX7_rule_69 75 (by decide) 72 rfl (not_congr (nI_eq0 (by omega))) ?_ ?_
            · intro h69
              exact absurd h69 (by decide)
            · intro h69
              have h69 : 0 = 0 := Decidable.not_not.mp h69
              refine g_bipush (v := (-2)) C dX7_rule_72 (by decide) 74 rfl ?_
              exact hret _ _ dX7_rule_74
          · intro h36
            have h36 : inR a m = true := by simpa using h36
            refine g_iload C dX7_rule_39 41 rfl 5 rfl ?_
            refine g_iconst (v := (-1)) C dX7_rule_41 (by decide) 42 rfl ?_
            refine g_icmp_eq (X := b = (-1)) C dX7_rule_42 60 (by decide) 45 rfl (Iff.rfl) ?_ ?_
            · intro h42
              refine g_iconst (v := nI 1) C dX7_rule_60 (by decide) 61 rfl ?_
              refine g_goto C dX7_rule_61 65 (by decide) ?_
              refine g_istore (lv' := [(6, .int (nI 1)), (0, .ref o7), (1, .int p), (2, .int s), (3, .int q), (4, .int a), (5, .int b)]) C dX7_rule_65 67 rfl (by decide) rfl ?_
              refine g_iload C dX7_rule_67 69 rfl 0 rfl ?_
              refine g_if_ne (X := ¬ 1 = 0) C dX7_rule_69 75 (by decide) 72 rfl (not_congr (nI_eq0 (by omega))) ?_ ?_
              · intro h69
                exact (show False from by first | exact absurd h27 h48 | (rw [h5, h13, h21] at hb; (have hf : fitB a b m = true := by unfold fitB; simp [*]); rw [hf] at hb; cases hb)).elim
              · intro h69
                have h69 : 1 = 0 := Decidable.not_not.mp h69
                exact absurd h69 (by decide)
            · intro h42
              refine g_iload C dX7_rule_45 47 rfl 4 rfl ?_
              refine g_iconst (v := (-1)) C dX7_rule_47 (by decide) 48 rfl ?_
              refine g_icmp_eq (X := a = (-1)) C dX7_rule_48 64 (by decide) 51 rfl (Iff.rfl) ?_ ?_
              · intro h48
                refine g_iconst (v := nI 0) C dX7_rule_64 (by decide) 65 rfl ?_
                refine g_istore (lv' := [(6, .int (nI 0)), (0, .ref o7), (1, .int p), (2, .int s), (3, .int q), (4, .int a), (5, .int b)]) C dX7_rule_65 67 rfl (by decide) rfl ?_
                refine g_iload C dX7_rule_67 69 rfl 0 rfl ?_
                refine g_if_ne (X := ¬ 0 = 0) C dX7_rule_69 75 (by decide) 72 rfl (not_congr (nI_eq0 (by omega))) ?_ ?_
                · intro h69
                  exact absurd h69 (by decide)
                · intro h69
                  have h69 : 0 = 0 := Decidable.not_not.mp h69
                  refine g_bipush (v := (-2)) C dX7_rule_72 (by decide) 74 rfl ?_
                  exact hret _ _ dX7_rule_74
              · intro h48
                refine g_aload_n C dX7_rule_51 rfl 52 rfl 0 rfl ?_
                refine g_iload C dX7_rule_52 54 rfl 5 rfl ?_
                refine g_cVi (ws2 := [ob o7 7 [.int (nI n), .int (nI m), .int (nI z), .ref uP, .ref uS, .ref uQ, .ref uA, .ref uB, .int (nI c), .ref uK, .int (nI h), .int (nI ns), .ref uM, .ref uF, .ref uY, .ref uT, .ref uL, .ref uC, .ref uX, .int (oI nf), .ref uI, .ref uR, .ref uW, .ref uH, .ref uG], aN (eY E) uP 30 Pp, aN (eY E) uS 30 Ps, aN (eY E) uQ 30 Pq, aO (eY E) uA 30 Pa, aO (eY E) uB 30 Pb]) (As := [.int b]) (st := []) (wsc := [ob o7 7 [.int (nI n), .int (nI m), .int (nI z), .ref uP, .ref uS, .ref uQ, .ref uA, .ref uB, .int (nI c), .ref uK, .int (nI h), .int (nI ns), .ref uM, .ref uF, .ref uY, .ref uT, .ref uL, .ref uC, .ref uX, .int (oI nf), .ref uI, .ref uR, .ref uW, .ref uH, .ref uG]]) (wr := [aN (eY E) uP 30 Pp, aN (eY E) uS 30 Ps, aN (eY E) uQ 30 Pq, aO (eY E) uA 30 Pa, aO (eY E) uB 30 Pb]) C (c_X7_isSign (eL E) (eD E) (eY E) o7 n m z uP uS uQ uA uB c uK h ns uM uF uY uT uL uC uX nf uI uR uW uH uG b (by omega)) 1 gX7_rule_X7_isSign rfl (by decide +kernel) (by decide) ⟨Nat.zero_le _, Nat.zero_le _⟩ rfl 0 rfl rfl rfl (Nat.le_of_ble_eq_true rfl) [0] [1, 2, 3, 4, 5] [5, 0, 1, 2, 3, 4] rfl rfl (by decide) (by decide) rfl (by decide) dX7_rule_54 57 rfl ?_
                refine g_if_eq (X := inR b m = false) C dX7_rule_57 64 (by decide) 60 rfl (bI_eq0 _) ?_ ?_
                · intro h57
                  refine g_iconst (v := nI 0) C dX7_rule_64 (by decide) 65 rfl ?_
                  refine g_istore (lv' := [(6, .int (nI 0)), (0, .ref o7), (1, .int p), (2, .int s), (3, .int q), (4, .int a), (5, .int b)]) C dX7_rule_65 67 rfl (by decide) rfl ?_
                  refine g_iload C dX7_rule_67 69 rfl 0 rfl ?_
                  refine g_if_ne (X := ¬ 0 = 0) C dX7_rule_69 75 (by decide) 72 rfl (not_congr (nI_eq0 (by omega))) ?_ ?_
                  · intro h69
                    exact absurd h69 (by decide)
                  · intro h69
                    have h69 : 0 = 0 := Decidable.not_not.mp h69
                    refine g_bipush (v := (-2)) C dX7_rule_72 (by decide) 74 rfl ?_
                    exact hret _ _ dX7_rule_74
                · intro h57
                  have h57 : inR b m = true := by simpa using h57
                  refine g_iconst (v := nI 1) C dX7_rule_60 (by decide) 61 rfl ?_
                  refine g_goto C dX7_rule_61 65 (by decide) ?_
                  refine g_istore (lv' := [(6, .int (nI 1)), (0, .ref o7), (1, .int p), (2, .int s), (3, .int q), (4, .int a), (5, .int b)]) C dX7_rule_65 67 rfl (by decide) rfl ?_
                  refine g_iload C dX7_rule_67 69 rfl 0 rfl ?_
                  refine g_if_ne (X := ¬ 1 = 0) C dX7_rule_69 75 (by decide) 72 rfl (not_congr (nI_eq0 (by omega))) ?_ ?_
                  · intro h69
                    exact (show False from by first | exact absurd h27 h48 | (rw [h5, h13, h21] at hb; (have hf : fitB a b m = true := by unfold fitB; simp [*]); rw [hf] at hb; cases hb)).elim
                  · intro h69
                    have h69 : 1 = 0 := Decidable.not_not.mp h69
                    exact absurd h69 (by decide)
set_option maxHeartbeats 4000000 in
set_option maxRecDepth 100000 in
theorem c_X7_rule_full (l : Launch) (D : va_G) (cy : Nat → ClassId) (o7 : Nat) (n : Nat) (m : Nat) (z : Nat) (uP : Nat) (uS : Nat) (uQ : Nat) (uA : Nat) (uB : Nat) (c : Nat) (uK : Nat) (h : Nat) (ns : Nat) (uM : Nat) (uF : Nat) (uY : Nat) (uT : Nat) (uL : Nat) (uC : Nat) (uX : Nat) (nf : Nat) (uI : Nat) (uR : Nat) (uW : Nat) (uH : Nat) (uG : Nat) (Pp : Nat → Nat) (Ps : Nat → Nat) (Pq : Nat → Nat) (Pa : Nat → Nat) (Pb : Nat → Nat) (p : Nat) (s : Nat) (q : Nat) (a : Nat) (b : Nat) (hn : n ≤ 5) (hm : m ≤ 5) (hz : z = 30) (hp : p < n) (hs : s < m) (hq : q < n) (ha : a ≤ m) (hb : b ≤ m) (hab : a = 0 → b = 0) : CoI l yX7_rule wsX7_rule 2 46 D cy [ob o7 7 [.int (nI n), .int (nI m), .int (nI z), .ref uP, .ref uS, .ref uQ, .ref uA, .ref uB, .int (nI c), .ref uK, .int (nI h), .int (nI ns), .ref uM, .ref uF, .ref uY, .ref uT, .ref uL, .ref uC, .ref uX, .int (oI nf), .ref uI, .ref uR, .ref uW, .ref uH, .ref uG], aN cy uP 30 Pp, aN cy uS 30 Ps, aN cy uQ 30 Pq, aO cy uA 30 Pa, aO cy uB 30 Pb] [.ref o7, .int (nI p), .int (nI s), .int (nI q), .int (oI a), .int (oI b)] [ob o7 7 [.int (nI n), .int (nI m), .int (nI z), .ref uP, .ref uS, .ref uQ, .ref uA, .ref uB, .int (nI c), .ref uK, .int (nI h), .int (nI ns), .ref uM, .ref uF, .ref uY, .ref uT, .ref uL, .ref uC, .ref uX, .int (oI nf), .ref uI, .ref uR, .ref uW, .ref uH, .ref uG], aN cy uP 30 Pp, aN cy uS 30 Ps, aN cy uQ 30 Pq, aO cy uA 30 Pa, aO cy uB 30 Pb] (-4) := by
  refine met_i (cc := cX7_rule) (maxL := 7) (own := RX7) (lv := [(0, .ref o7), (1, .int (nI p)), (2, .int (nI s)), (3, .int (nI q)), (4, .int (oI a)), (5, .int (oI b))]) (by decide) rfl rfl rfl (Nat.le_of_ble_eq_true rfl) (fun E e1 e2 e3 C hret => ?_)
  subst e1; subst e2; subst e3
  have iX7 : ∀ w ∈ wsX70, w ∈ wsX7_rule := fun _ h => List.mem_cons_of_mem _ (List.mem_append_right _ h)
  have v1 : inR (nI p) n = true := inR_yes hp (by omega)
  have v2 : inR (nI s) m = true := inR_yes hs (by omega)
  have v3 : inR (nI q) n = true := inR_yes hq (by omega)
  have v4 : 0 < a → inR (oI a) m = true := fun h => by rw [oI_pos h]; exact inR_yes (by omega) (by omega)
  have v5 : 0 < b → inR (oI b) m = true := fun h => by rw [oI_pos h]; exact inR_yes (by omega) (by omega)
  refine g_aload_n C dX7_rule_0 rfl 1 rfl 0 rfl ?_
  refine g_iload_n C dX7_rule_1 rfl 2 rfl 1 rfl ?_
  refine g_cVi (ws2 := [ob o7 7 [.int (nI n), .int (nI m), .int (nI z), .ref uP, .ref uS, .ref uQ, .ref uA, .ref uB, .int (nI c), .ref uK, .int (nI h), .int (nI ns), .ref uM, .ref uF, .ref uY, .ref uT, .ref uL, .ref uC, .ref uX, .int (oI nf), .ref uI, .ref uR, .ref uW, .ref uH, .ref uG], aN (eY E) uP 30 Pp, aN (eY E) uS 30 Ps, aN (eY E) uQ 30 Pq, aO (eY E) uA 30 Pa, aO (eY E) uB 30 Pb]) (As := [.int (nI p)]) (st := []) (wsc := [ob o7 7 [.int (nI n), .int (nI m), .int (nI z), .ref uP, .ref uS, .ref uQ, .ref uA, .ref uB, .int (nI c), .ref uK, .int (nI h), .int (nI ns), .ref uM, .ref uF, .ref uY, .ref uT, .ref uL, .ref uC, .ref uX, .int (oI nf), .ref uI, .ref uR, .ref uW, .ref uH, .ref uG]]) (wr := [aN (eY E) uP 30 Pp, aN (eY E) uS 30 Ps, aN (eY E) uQ 30 Pq, aO (eY E) uA 30 Pa, aO (eY E) uB 30 Pb]) C (c_X7_isControl (eL E) (eD E) (eY E) o7 n m z uP uS uQ uA uB c uK h ns uM uF uY uT uL uC uX nf uI uR uW uH uG (nI p) (by omega)) 1 gX7_rule_X7_isControl rfl (by decide +kernel) (by decide) ⟨Nat.zero_le _, Nat.zero_le _⟩ rfl 0 rfl rfl rfl (Nat.le_of_ble_eq_true rfl) [0] [1, 2, 3, 4, 5] [5, 0, 1, 2, 3, 4] rfl rfl (by decide) (by decide) rfl (by decide) dX7_rule_2 5 rfl ?_
  refine g_if_eq (X := inR (nI p) n = false) C dX7_rule_5 64 (by decide) 8 rfl (bI_eq0 _) ?_ ?_
  · intro h5
    refine g_iconst (v := nI 0) C dX7_rule_64 (by decide) 65 rfl ?_
    refine g_istore (lv' := [(6, .int (nI 0)), (0, .ref o7), (1, .int (nI p)), (2, .int (nI s)), (3, .int (nI q)), (4, .int (oI a)), (5, .int (oI b))]) C dX7_rule_65 67 rfl (by decide) rfl ?_
    refine g_iload C dX7_rule_67 69 rfl 0 rfl ?_
    refine g_if_ne (X := ¬ 0 = 0) C dX7_rule_69 75 (by decide) 72 rfl (not_congr (nI_eq0 (by omega))) ?_ ?_
    · intro h69
      exact absurd h69 (by decide)
    · intro h69
      have h69 : 0 = 0 := Decidable.not_not.mp h69
      exact (show False from by first | exact Bool.noConfusion (h5.symm.trans v1) | exact Bool.noConfusion (h13.symm.trans v2) | exact Bool.noConfusion (h21.symm.trans v3) | exact Bool.noConfusion (h36.symm.trans (v4 (by omega))) | exact Bool.noConfusion (h57.symm.trans (v5 (by omega))) | (have := hab (by assumption); omega)).elim
  · intro h5
    have h5 : inR (nI p) n = true := by simpa using h5
    refine g_aload_n C dX7_rule_8 rfl 9 rfl 0 rfl ?_
    refine g_iload_n C dX7_rule_9 rfl 10 rfl 2 rfl ?_
    refine g_cVi (ws2 := [ob o7 7 [.int (nI n), .int (nI m), .int (nI z), .ref uP, .ref uS, .ref uQ, .ref uA, .ref uB, .int (nI c), .ref uK, .int (nI h), .int (nI ns), .ref uM, .ref uF, .ref uY, .ref uT, .ref uL, .ref uC, .ref uX, .int (oI nf), .ref uI, .ref uR, .ref uW, .ref uH, .ref uG], aN (eY E) uP 30 Pp, aN (eY E) uS 30 Ps, aN (eY E) uQ 30 Pq, aO (eY E) uA 30 Pa, aO (eY E) uB 30 Pb]) (As := [.int (nI s)]) (st := []) (wsc := [ob o7 7 [.int (nI n), .int (nI m), .int (nI z), .ref uP, .ref uS, .ref uQ, .ref uA, .ref uB, .int (nI c), .ref uK, .int (nI h), .int (nI ns), .ref uM, .ref uF, .ref uY, .ref uT, .ref uL, .ref uC, .ref uX, .int (oI nf), .ref uI, .ref uR, .ref uW, .ref uH, .ref uG]]) (wr := [aN (eY E) uP 30 Pp, aN (eY E) uS 30 Ps, aN (eY E) uQ 30 Pq, aO (eY E) uA 30 Pa, aO (eY E) uB 30 Pb]) C (c_X7_isSign (eL E) (eD E) (eY E) o7 n m z uP uS uQ uA uB c uK h ns uM uF uY uT uL uC uX nf uI uR uW uH uG (nI s) (by omega)) 1 gX7_rule_X7_isSign rfl (by decide +kernel) (by decide) ⟨Nat.zero_le _, Nat.zero_le _⟩ rfl 0 rfl rfl rfl (Nat.le_of_ble_eq_true rfl) [0] [1, 2, 3, 4, 5] [5, 0, 1, 2, 3, 4] rfl rfl (by decide) (by decide) rfl (by decide) dX7_rule_10 13 rfl ?_
    refine g_if_eq (X := inR (nI s) m = false) C dX7_rule_13 64 (by decide) 16 rfl (bI_eq0 _) ?_ ?_
    · intro h13
      refine g_iconst (v := nI 0) C dX7_rule_64 (by decide) 65 rfl ?_
      refine g_istore (lv' := [(6, .int (nI 0)), (0, .ref o7), (1, .int (nI p)), (2, .int (nI s)), (3, .int (nI q)), (4, .int (oI a)), (5, .int (oI b))]) C dX7_rule_65 67 rfl (by decide) rfl ?_
      refine g_iload C dX7_rule_67 69 rfl 0 rfl ?_
      refine g_if_ne (X := ¬ 0 = 0) C dX7_rule_69 75 (by decide) 72 rfl (not_congr (nI_eq0 (by omega))) ?_ ?_
      · intro h69
        exact absurd h69 (by decide)
      · intro h69
        have h69 : 0 = 0 := Decidable.not_not.mp h69
        exact (show False from by first | exact Bool.noConfusion (h5.symm.trans v1) | exact Bool.noConfusion (h13.symm.trans v2) | exact Bool.noConfusion (h21.symm.trans v3) | exact Bool.noConfusion (h36.symm.trans (v4 (by omega))) | exact Bool.noConfusion (h57.symm.trans (v5 (by omega))) | (have := hab (by assumption); omega)).elim
    · intro h13
      have h13 : inR (nI s) m = true := by simpa using h13
      refine g_aload_n C dX7_rule_16 rfl 17 rfl 0 rfl ?_
      refine g_iload_n C dX7_rule_17 rfl 18 rfl 3 rfl ?_
      refine g_cVi (ws2 := [ob o7 7 [.int (nI n), .int (nI m), .int (nI z), .ref uP, .ref uS, .ref uQ, .ref uA, .ref uB, .int (nI c), .ref uK, .int (nI h), .int (nI ns), .ref uM, .ref uF, .ref uY, .ref uT, .ref uL, .ref uC, .ref uX, .int (oI nf), .ref uI, .ref uR, .ref uW, .ref uH, .ref uG], aN (eY E) uP 30 Pp, aN (eY E) uS 30 Ps, aN (eY E) uQ 30 Pq, aO (eY E) uA 30 Pa, aO (eY E) uB 30 Pb]) (As := [.int (nI q)]) (st := []) (wsc := [ob o7 7 [.int (nI n), .int (nI m), .int (nI z), .ref uP, .ref uS, .ref uQ, .ref uA, .ref uB, .int (nI c), .ref uK, .int (nI h), .int (nI ns), .ref uM, .ref uF, .ref uY, .ref uT, .ref uL, .ref uC, .ref uX, .int (oI nf), .ref uI, .ref uR, .ref uW, .ref uH, .ref uG]]) (wr := [aN (eY E) uP 30 Pp, aN (eY E) uS 30 Ps, aN (eY E) uQ 30 Pq, aO (eY E) uA 30 Pa, aO (eY E) uB 30 Pb]) C (c_X7_isControl (eL E) (eD E) (eY E) o7 n m z uP uS uQ uA uB c uK h ns uM uF uY uT uL uC uX nf uI uR uW uH uG (nI q) (by omega)) 1 gX7_rule_X7_isControl rfl (by decide +kernel) (by decide) ⟨Nat.zero_le _, Nat.zero_le _⟩ rfl 0 rfl rfl rfl (Nat.le_of_ble_eq_true rfl) [0] [1, 2, 3, 4, 5] [5, 0, 1, 2, 3, 4] rfl rfl (by decide) (by decide) rfl (by decide) dX7_rule_18 21 rfl ?_
      refine g_if_eq (X := inR (nI q) n = false) C dX7_rule_21 64 (by decide) 24 rfl (bI_eq0 _) ?_ ?_
      · intro h21
        refine g_iconst (v := nI 0) C dX7_rule_64 (by decide) 65 rfl ?_
        refine g_istore (lv' := [(6, .int (nI 0)), (0, .ref o7), (1, .int (nI p)), (2, .int (nI s)), (3, .int (nI q)), (4, .int (oI a)), (5, .int (oI b))]) C dX7_rule_65 67 rfl (by decide) rfl ?_
        refine g_iload C dX7_rule_67 69 rfl 0 rfl ?_
        refine g_if_ne (X := ¬ 0 = 0) C dX7_rule_69 75 (by decide) 72 rfl (not_congr (nI_eq0 (by omega))) ?_ ?_
        · intro h69
          exact absurd h69 (by decide)
        · intro h69
          have h69 : 0 = 0 := Decidable.not_not.mp h69
          exact (show False from by first | exact Bool.noConfusion (h5.symm.trans v1) | exact Bool.noConfusion (h13.symm.trans v2) | exact Bool.noConfusion (h21.symm.trans v3) | exact Bool.noConfusion (h36.symm.trans (v4 (by omega))) | exact Bool.noConfusion (h57.symm.trans (v5 (by omega))) | (have := hab (by assumption); omega)).elim
      · intro h21
        have h21 : inR (nI q) n = true := by simpa using h21
        refine g_iload C dX7_rule_24 26 rfl 4 rfl ?_
        refine g_iconst (v := (-1)) C dX7_rule_26 (by decide) 27 rfl ?_
        refine g_icmp_eq (X := a = 0) C dX7_rule_27 39 (by decide) 30 rfl (oI_eq (by omega)) ?_ ?_
        · intro h27
          refine g_iload C dX7_rule_39 41 rfl 5 rfl ?_
          refine g_iconst (v := (-1)) C dX7_rule_41 (by decide) 42 rfl ?_
          refine g_icmp_eq (X := b = 0) C dX7_rule_42 60 (by decide) 45 rfl (oI_eq (by omega)) ?_ ?_
          · intro h42
            refine g_iconst (v := nI 1) C dX7_rule_60 (by decide) 61 rfl ?_
            refine g_goto C dX7_rule_61 65 (by decide) ?_
            refine g_istore (lv' := [(6, .int (nI 1)), (0, .ref o7), (1, .int (nI p)), (2, .int (nI s)), (3, .int (nI q)), (4, .int (oI a)), (5, .int (oI b))]) C dX7_rule_65 67 rfl (by decide) rfl ?_
            refine g_iload C dX7_rule_67 69 rfl 0 rfl ?_
            refine g_if_ne (X := ¬ 1 = 0) C dX7_rule_69 75 (by decide) 72 rfl (not_congr (nI_eq0 (by omega))) ?_ ?_
            · intro h69
              refine g_aload_n C dX7_rule_75 rfl 76 rfl 1 rfl ?_
              refine g_get C iX7 0 rfl rfl 2 (by decide) (C.1.2.2.2.2 (.fieldLink RX7 79 "StackRunsModel" "rules" "I") (List.mem_of_getElem? (i := 1) rfl)) rfl dX7_rule_76 79 rfl ?_
              refine g_bipush (v := nI 30) C dX7_rule_79 (by decide) 81 rfl ?_
              refine g_icmp_ne (X := ¬ z = 30) C dX7_rule_81 87 (by decide) 84 rfl (not_congr (nI_eq (by omega) (by omega))) ?_ ?_
              · intro h81
                exact (show False from by omega).elim
              · intro h81
                have h81 : z = 30 := Decidable.not_not.mp h81
                refine g_bipush (v := (-4)) C dX7_rule_84 (by decide) 86 rfl ?_
                exact hret _ _ dX7_rule_86
            · intro h69
              have h69 : 1 = 0 := Decidable.not_not.mp h69
              exact absurd h69 (by decide)
          · intro h42
            refine g_iload C dX7_rule_45 47 rfl 4 rfl ?_
            refine g_iconst (v := (-1)) C dX7_rule_47 (by decide) 48 rfl ?_
            refine g_icmp_eq (X := a = 0) C dX7_rule_48 64 (by decide) 51 rfl (oI_eq (by omega)) ?_ ?_
            · intro h48
              refine g_iconst (v := nI 0) C dX7_rule_64 (by decide) 65 rfl ?_
              refine g_istore (lv' := [(6, .int (nI 0)), (0, .ref o7), (1, .int (nI p)), (2, .int (nI s)), (3, .int (nI q)), (4, .int (oI a)), (5, .int (oI b))]) C dX7_rule_65 67 rfl (by decide) rfl ?_
              refine g_iload C dX7_rule_67 69 rfl 0 rfl ?_
              refine g_if_ne (X := ¬ 0 = 0) C dX7_rule_69 75 (by decide) 72 rfl (not_congr (nI_eq0 (by omega))) ?_ ?_
              · intro h69
                exact absurd h69 (by decide)
              · intro h69
                have h69 : 0 = 0 := Decidable.not_not.mp h69
                exact (show False from by first | exact Bool.noConfusion (h5.symm.trans v1) | exact Bool.noConfusion (h13.symm.trans v2) | exact Bool.noConfusion (h21.symm.trans v3) | exact Bool.noConfusion (h36.symm.trans (v4 (by omega))) | exact Bool.noConfusion (h57.symm.trans (v5 (by omega))) | (have := hab (by assumption); omega)).elim
            · intro h48
              refine g_aload_n C dX7_rule_51 rfl 52 rfl 0 rfl ?_
              refine g_iload C dX7_rule_52 54 rfl 5 rfl ?_
              refine g_cVi (ws2 := [ob o7 7 [.int (nI n), .int (nI m), .int (nI z), .ref uP, .ref uS, .ref uQ, .ref uA, .ref uB, .int (nI c), .ref uK, .int (nI h), .int (nI ns), .ref uM, .ref uF, .ref uY, .ref uT, .ref uL, .ref uC, .ref uX, .int (oI nf), .ref uI, .ref uR, .ref uW, .ref uH, .ref uG], aN (eY E) uP 30 Pp, aN (eY E) uS 30 Ps, aN (eY E) uQ 30 Pq, aO (eY E) uA 30 Pa, aO (eY E) uB 30 Pb]) (As := [.int (oI b)]) (st := []) (wsc := [ob o7 7 [.int (nI n), .int (nI m), .int (nI z), .ref uP, .ref uS, .ref uQ, .ref uA, .ref uB, .int (nI c), .ref uK, .int (nI h), .int (nI ns), .ref uM, .ref uF, .ref uY, .ref uT, .ref uL, .ref uC, .ref uX, .int (oI nf), .ref uI, .ref uR, .ref uW, .ref uH, .ref uG]]) (wr := [aN (eY E) uP 30 Pp, aN (eY E) uS 30 Ps, aN (eY E) uQ 30 Pq, aO (eY E) uA 30 Pa, aO (eY E) uB 30 Pb]) C (c_X7_isSign (eL E) (eD E) (eY E) o7 n m z uP uS uQ uA uB c uK h ns uM uF uY uT uL uC uX nf uI uR uW uH uG (oI b) (by omega)) 1 gX7_rule_X7_isSign rfl (by decide +kernel) (by decide) ⟨Nat.zero_le _, Nat.zero_le _⟩ rfl 0 rfl rfl rfl (Nat.le_of_ble_eq_true rfl) [0] [1, 2, 3, 4, 5] [5, 0, 1, 2, 3, 4] rfl rfl (by decide) (by decide) rfl (by decide) dX7_rule_54 57 rfl ?_
              refine g_if_eq (X := inR (oI b) m = false) C dX7_rule_57 64 (by decide) 60 rfl (bI_eq0 _) ?_ ?_
              · intro h57
                refine g_iconst (v := nI 0) C dX7_rule_64 (by decide) 65 rfl ?_
                refine g_istore (lv' := [(6, .int (nI 0)), (0, .ref o7), (1, .int (nI p)), (2, .int (nI s)), (3, .int (nI q)), (4, .int (oI a)), (5, .int (oI b))]) C dX7_rule_65 67 rfl (by decide) rfl ?_
                refine g_iload C dX7_rule_67 69 rfl 0 rfl ?_
                refine g_if_ne (X := ¬ 0 = 0) C dX7_rule_69 75 (by decide) 72 rfl (not_congr (nI_eq0 (by omega))) ?_ ?_
                · intro h69
                  exact absurd h69 (by decide)
                · intro h69
                  have h69 : 0 = 0 := Decidable.not_not.mp h69
                  exact (show False from by first | exact Bool.noConfusion (h5.symm.trans v1) | exact Bool.noConfusion (h13.symm.trans v2) | exact Bool.noConfusion (h21.symm.trans v3) | exact Bool.noConfusion (h36.symm.trans (v4 (by omega))) | exact Bool.noConfusion (h57.symm.trans (v5 (by omega))) | (have := hab (by assumption); omega)).elim
              · intro h57
                have h57 : inR (oI b) m = true := by simpa using h57
                refine g_iconst (v := nI 1) C dX7_rule_60 (by decide) 61 rfl ?_
                refine g_goto C dX7_rule_61 65 (by decide) ?_
                refine g_istore (lv' := [(6, .int (nI 1)), (0, .ref o7), (1, .int (nI p)), (2, .int (nI s)), (3, .int (nI q)), (4, .int (oI a)), (5, .int (oI b))]) C dX7_rule_65 67 rfl (by decide) rfl ?_
                refine g_iload C dX7_rule_67 69 rfl 0 rfl ?_
                refine g_if_ne (X := ¬ 1 = 0) C dX7_rule_69 75 (by decide) 72 rfl (not_congr (nI_eq0 (by omega))) ?_ ?_
                · intro h69
                  refine g_aload_n C dX7_rule_75 rfl 76 rfl 1 rfl ?_
                  refine g_get C iX7 0 rfl rfl 2 (by decide) (C.1.2.2.2.2 (.fieldLink RX7 79 "StackRunsModel" "rules" "I") (List.mem_of_getElem? (i := 1) rfl)) rfl dX7_rule_76 79 rfl ?_
                  refine g_bipush (v := nI 30) C dX7_rule_79 (by decide) 81 rfl ?_
                  refine g_icmp_ne (X := ¬ z = 30) C dX7_rule_81 87 (by decide) 84 rfl (not_congr (nI_eq (by omega) (by omega))) ?_ ?_
                  · intro h81
                    exact (show False from by omega).elim
                  · intro h81
                    have h81 : z = 30 := Decidable.not_not.mp h81
                    refine g_bipush (v := (-4)) C dX7_rule_84 (by decide) 86 rfl ?_
                    exact hret _ _ dX7_rule_86
                · intro h69
                  have h69 : 1 = 0 := Decidable.not_not.mp h69
                  exact absurd h69 (by decide)
        · intro h27
          refine g_aload_n C dX7_rule_30 rfl 31 rfl 0 rfl ?_
          refine g_iload C dX7_rule_31 33 rfl 4 rfl ?_
          refine g_cVi (ws2 := [ob o7 7 [.int (nI n), .int (nI m), .int (nI z), .ref uP, .ref uS, .ref uQ, .ref uA, .ref uB, .int (nI c), .ref uK, .int (nI h), .int (nI ns), .ref uM, .ref uF, .ref uY, .ref uT, .ref uL, .ref uC, .ref uX, .int (oI nf), .ref uI, .ref uR, .ref uW, .ref uH, .ref uG], aN (eY E) uP 30 Pp, aN (eY E) uS 30 Ps, aN (eY E) uQ 30 Pq, aO (eY E) uA 30 Pa, aO (eY E) uB 30 Pb]) (As := [.int (oI a)]) (st := []) (wsc := [ob o7 7 [.int (nI n), .int (nI m), .int (nI z), .ref uP, .ref uS, .ref uQ, .ref uA, .ref uB, .int (nI c), .ref uK, .int (nI h), .int (nI ns), .ref uM, .ref uF, .ref uY, .ref uT, .ref uL, .ref uC, .ref uX, .int (oI nf), .ref uI, .ref uR, .ref uW, .ref uH, .ref uG]]) (wr := [aN (eY E) uP 30 Pp, aN (eY E) uS 30 Ps, aN (eY E) uQ 30 Pq, aO (eY E) uA 30 Pa, aO (eY E) uB 30 Pb]) C (c_X7_isSign (eL E) (eD E) (eY E) o7 n m z uP uS uQ uA uB c uK h ns uM uF uY uT uL uC uX nf uI uR uW uH uG (oI a) (by omega)) 1 gX7_rule_X7_isSign rfl (by decide +kernel) (by decide) ⟨Nat.zero_le _, Nat.zero_le _⟩ rfl 0 rfl rfl rfl (Nat.le_of_ble_eq_true rfl) [0] [1, 2, 3, 4, 5] [5, 0, 1, 2, 3, 4] rfl rfl (by decide) (by decide) rfl (by decide) dX7_rule_33 36 rfl ?_
          refine g_if_eq (X := inR (oI a) m = false) C dX7_rule_36 64 (by decide) 39 rfl (bI_eq0 _) ?_ ?_
          · intro h36
            refine g_iconst (v := nI 0) C dX7_rule_64 (by decide) 65 rfl ?_
            refine g_istore (lv' := [(6, .int (nI 0)), (0, .ref o7), (1, .int (nI p)), (2, .int (nI s)), (3, .int (nI q)), (4, .int (oI a)), (5, .int (oI b))]) C dX7_rule_65 67 rfl (by decide) rfl ?_
            refine g_iload C dX7_rule_67 69 rfl 0 rfl ?_
            refine g_if_ne (X := ¬ 0 = 0) C dX7_rule_69 75 (by decide) 72 rfl (not_congr (nI_eq0 (by omega))) ?_ ?_
            · intro h69
              exact absurd h69 (by decide)
            · intro h69
              have h69 : 0 = 0 := Decidable.not_not.mp h69
              exact (show False from by first | exact Bool.noConfusion (h5.symm.trans v1) | exact Bool.noConfusion (h13.symm.trans v2) | exact Bool.noConfusion (h21.symm.trans v3) | exact Bool.noConfusion (h36.symm.trans (v4 (by omega))) | exact Bool.noConfusion (h57.symm.trans (v5 (by omega))) | (have := hab (by assumption); omega)).elim
          · intro h36
            have h36 : inR (oI a) m = true := by simpa using h36
            refine g_iload C dX7_rule_39 41 rfl 5 rfl ?_
            refine g_iconst (v := (-1)) C dX7_rule_41 (by decide) 42 rfl ?_
            refine g_icmp_eq (X := b = 0) C dX7_rule_42 60 (by decide) 45 rfl (oI_eq (by omega)) ?_ ?_
            · intro h42
              refine g_iconst (v := nI 1) C dX7_rule_60 (by decide) 61 rfl ?_
              refine g_goto C dX7_rule_61 65 (by decide) ?_
              refine g_istore (lv' := [(6, .int (nI 1)), (0, .ref o7), (1, .int (nI p)), (2, .int (nI s)), (3, .int (nI q)), (4, .int (oI a)), (5, .int (oI b))]) C dX7_rule_65 67 rfl (by decide) rfl ?_
              refine g_iload C dX7_rule_67 69 rfl 0 rfl ?_
              refine g_if_ne (X := ¬ 1 = 0) C dX7_rule_69 75 (by decide) 72 rfl (not_congr (nI_eq0 (by omega))) ?_ ?_
              · intro h69
                refine g_aload_n C dX7_rule_75 rfl 76 rfl 1 rfl ?_
                refine g_get C iX7 0 rfl rfl 2 (by decide) (C.1.2.2.2.2 (.fieldLink RX7 79 "StackRunsModel" "rules" "I") (List.mem_of_getElem? (i := 1) rfl)) rfl dX7_rule_76 79 rfl ?_
                refine g_bipush (v := nI 30) C dX7_rule_79 (by decide) 81 rfl ?_
                refine g_icmp_ne (X := ¬ z = 30) C dX7_rule_81 87 (by decide) 84 rfl (not_congr (nI_eq (by omega) (by omega))) ?_ ?_
                · intro h81
                  exact (show False from by omega).elim
                · intro h81
                  have h81 : z = 30 := Decidable.not_not.mp h81
                  refine g_bipush (v := (-4)) C dX7_rule_84 (by decide) 86 rfl ?_
                  exact hret _ _ dX7_rule_86
              · intro h69
                have h69 : 1 = 0 := Decidable.not_not.mp h69
                exact absurd h69 (by decide)
            · intro h42
              refine g_iload C dX7_rule_45 47 rfl 4 rfl ?_
              refine g_iconst (v := (-1)) C dX7_rule_47 (by decide) 48 rfl ?_
              refine g_icmp_eq (X := a = 0) C dX7_rule_48 64 (by decide) 51 rfl (oI_eq (by omega)) ?_ ?_
              · intro h48
                refine g_iconst (v := nI 0) C dX7_rule_64 (by decide) 65 rfl ?_
                refine g_istore (lv' := [(6, .int (nI 0)), (0, .ref o7), (1, .int (nI p)), (2, .int (nI s)), (3, .int (nI q)), (4, .int (oI a)), (5, .int (oI b))]) C dX7_rule_65 67 rfl (by decide) rfl ?_
                refine g_iload C dX7_rule_67 69 rfl 0 rfl ?_
                refine g_if_ne (X := ¬ 0 = 0) C dX7_rule_69 75 (by decide) 72 rfl (not_congr (nI_eq0 (by omega))) ?_ ?_
                · intro h69
                  exact absurd h69 (by decide)
                · intro h69
                  have h69 : 0 = 0 := Decidable.not_not.mp h69
                  exact (show False from by first | exact Bool.noConfusion (h5.symm.trans v1) | exact Bool.noConfusion (h13.symm.trans v2) | exact Bool.noConfusion (h21.symm.trans v3) | exact Bool.noConfusion (h36.symm.trans (v4 (by omega))) | exact Bool.noConfusion (h57.symm.trans (v5 (by omega))) | (have := hab (by assumption); omega)).elim
              · intro h48
                refine g_aload_n C dX7_rule_51 rfl 52 rfl 0 rfl ?_
                refine g_iload C dX7_rule_52 54 rfl 5 rfl ?_
                refine g_cVi (ws2 := [ob o7 7 [.int (nI n), .int (nI m), .int (nI z), .ref uP, .ref uS, .ref uQ, .ref uA, .ref uB, .int (nI c), .ref uK, .int (nI h), .int (nI ns), .ref uM, .ref uF, .ref uY, .ref uT, .ref uL, .ref uC, .ref uX, .int (oI nf), .ref uI, .ref uR, .ref uW, .ref uH, .ref uG], aN (eY E) uP 30 Pp, aN (eY E) uS 30 Ps, aN (eY E) uQ 30 Pq, aO (eY E) uA 30 Pa, aO (eY E) uB 30 Pb]) (As := [.int (oI b)]) (st := []) (wsc := [ob o7 7 [.int (nI n), .int (nI m), .int (nI z), .ref uP, .ref uS, .ref uQ, .ref uA, .ref uB, .int (nI c), .ref uK, .int (nI h), .int (nI ns), .ref uM, .ref uF, .ref uY, .ref uT, .ref uL, .ref uC, .ref uX, .int (oI nf), .ref uI, .ref uR, .ref uW, .ref uH, .ref uG]]) (wr := [aN (eY E) uP 30 Pp, aN (eY E) uS 30 Ps, aN (eY E) uQ 30 Pq, aO (eY E) uA 30 Pa, aO (eY E) uB 30 Pb]) C (c_X7_isSign (eL E) (eD E) (eY E) o7 n m z uP uS uQ uA uB c uK h ns uM uF uY uT uL uC uX nf uI uR uW uH uG (oI b) (by omega)) 1 gX7_rule_X7_isSign rfl (by decide +kernel) (by decide) ⟨Nat.zero_le _, Nat.zero_le _⟩ rfl 0 rfl rfl rfl (Nat.le_of_ble_eq_true rfl) [0] [1, 2, 3, 4, 5] [5, 0, 1, 2, 3, 4] rfl rfl (by decide) (by decide) rfl (by decide) dX7_rule_54 57 rfl ?_
                refine g_if_eq (X := inR (oI b) m = false) C dX7_rule_57 64 (by decide) 60 rfl (bI_eq0 _) ?_ ?_
                · intro h57
                  refine g_iconst (v := nI 0) C dX7_rule_64 (by decide) 65 rfl ?_
                  refine g_istore (lv' := [(6, .int (nI 0)), (0, .ref o7), (1, .int (nI p)), (2, .int (nI s)), (3, .int (nI q)), (4, .int (oI a)), (5, .int (oI b))]) C dX7_rule_65 67 rfl (by decide) rfl ?_
                  refine g_iload C dX7_rule_67 69 rfl 0 rfl ?_
                  refine g_if_ne (X := ¬ 0 = 0) C dX7_rule_69 75 (by decide) 72 rfl (not_congr (nI_eq0 (by omega))) ?_ ?_
                  · intro h69
                    exact absurd h69 (by decide)
                  · intro h69
                    have h69 : 0 = 0 := Decidable.not_not.mp h69
                    exact (show False from by first | exact Bool.noConfusion (h5.symm.trans v1) | exact Bool.noConfusion (h13.symm.trans v2) | exact Bool.noConfusion (h21.symm.trans v3) | exact Bool.noConfusion (h36.symm.trans (v4 (by omega))) | exact Bool.noConfusion (h57.symm.trans (v5 (by omega))) | (have := hab (by assumption); omega)).elim
                · intro h57
                  have h57 : inR (oI b) m = true := by simpa using h57
                  refine g_iconst (v := nI 1) C dX7_rule_60 (by decide) 61 rfl ?_
                  refine g_goto C dX7_rule_61 65 (by decide) ?_
                  refine g_istore (lv' := [(6, .int (nI 1)), (0, .ref o7), (1, .int (nI p)), (2, .int (nI s)), (3, .int (nI q)), (4, .int (oI a)), (5, .int (oI b))]) C dX7_rule_65 67 rfl (by decide) rfl ?_
                  refine g_iload C dX7_rule_67 69 rfl 0 rfl ?_
                  refine g_if_ne (X := ¬ 1 = 0) C dX7_rule_69 75 (by decide) 72 rfl (not_congr (nI_eq0 (by omega))) ?_ ?_
                  · intro h69
                    refine g_aload_n C dX7_rule_75 rfl 76 rfl 1 rfl ?_
                    refine g_get C iX7 0 rfl rfl 2 (by decide) (C.1.2.2.2.2 (.fieldLink RX7 79 "StackRunsModel" "rules" "I") (List.mem_of_getElem? (i := 1) rfl)) rfl dX7_rule_76 79 rfl ?_
                    refine g_bipush (v := nI 30) C dX7_rule_79 (by decide) 81 rfl ?_
                    refine g_icmp_ne (X := ¬ z = 30) C dX7_rule_81 87 (by decide) 84 rfl (not_congr (nI_eq (by omega) (by omega))) ?_ ?_
                    · intro h81
                      exact (show False from by omega).elim
                    · intro h81
                      have h81 : z = 30 := Decidable.not_not.mp h81
                      refine g_bipush (v := (-4)) C dX7_rule_84 (by decide) 86 rfl ?_
                      exact hret _ _ dX7_rule_86
                  · intro h69
                    have h69 : 1 = 0 := Decidable.not_not.mp h69
                    exact absurd h69 (by decide)
set_option maxHeartbeats 4000000 in
set_option maxRecDepth 100000 in
theorem c_X7_rule_ok (l : Launch) (D : va_G) (cy : Nat → ClassId) (o7 : Nat) (n : Nat) (m : Nat) (z : Nat) (uP : Nat) (uS : Nat) (uQ : Nat) (uA : Nat) (uB : Nat) (c : Nat) (uK : Nat) (h : Nat) (ns : Nat) (uM : Nat) (uF : Nat) (uY : Nat) (uT : Nat) (uL : Nat) (uC : Nat) (uX : Nat) (nf : Nat) (uI : Nat) (uR : Nat) (uW : Nat) (uH : Nat) (uG : Nat) (Pp : Nat → Nat) (Ps : Nat → Nat) (Pq : Nat → Nat) (Pa : Nat → Nat) (Pb : Nat → Nat) (p : Nat) (s : Nat) (q : Nat) (a : Nat) (b : Nat) (hn : n ≤ 5) (hm : m ≤ 5) (hz : z < 30) (hp : p < n) (hs : s < m) (hq : q < n) (ha : a ≤ m) (hb : b ≤ m) (hab : a = 0 → b = 0) : CoI l yX7_rule wsX7_rule 2 46 D cy [ob o7 7 [.int (nI n), .int (nI m), .int (nI z), .ref uP, .ref uS, .ref uQ, .ref uA, .ref uB, .int (nI c), .ref uK, .int (nI h), .int (nI ns), .ref uM, .ref uF, .ref uY, .ref uT, .ref uL, .ref uC, .ref uX, .int (oI nf), .ref uI, .ref uR, .ref uW, .ref uH, .ref uG], aN cy uP 30 Pp, aN cy uS 30 Ps, aN cy uQ 30 Pq, aO cy uA 30 Pa, aO cy uB 30 Pb] [.ref o7, .int (nI p), .int (nI s), .int (nI q), .int (oI a), .int (oI b)] [ob o7 7 [.int (nI n), .int (nI m), .int (nI (z + 1)), .ref uP, .ref uS, .ref uQ, .ref uA, .ref uB, .int (nI c), .ref uK, .int (nI h), .int (nI ns), .ref uM, .ref uF, .ref uY, .ref uT, .ref uL, .ref uC, .ref uX, .int (oI nf), .ref uI, .ref uR, .ref uW, .ref uH, .ref uG], aN cy uP 30 (up Pp z p), aN cy uS 30 (up Ps z s), aN cy uQ 30 (up Pq z q), aO cy uA 30 (up Pa z a), aO cy uB 30 (up Pb z b)] (nI z) := by
  refine met_i (cc := cX7_rule) (maxL := 7) (own := RX7) (lv := [(0, .ref o7), (1, .int (nI p)), (2, .int (nI s)), (3, .int (nI q)), (4, .int (oI a)), (5, .int (oI b))]) (by decide) rfl rfl rfl (Nat.le_of_ble_eq_true rfl) (fun E e1 e2 e3 C hret => ?_)
  subst e1; subst e2; subst e3
  have iX7 : ∀ w ∈ wsX70, w ∈ wsX7_rule := fun _ h => List.mem_cons_of_mem _ (List.mem_append_right _ h)
  have v1 : inR (nI p) n = true := inR_yes hp (by omega)
  have v2 : inR (nI s) m = true := inR_yes hs (by omega)
  have v3 : inR (nI q) n = true := inR_yes hq (by omega)
  have v4 : 0 < a → inR (oI a) m = true := fun h => by rw [oI_pos h]; exact inR_yes (by omega) (by omega)
  have v5 : 0 < b → inR (oI b) m = true := fun h => by rw [oI_pos h]; exact inR_yes (by omega) (by omega)
  refine g_aload_n C dX7_rule_0 rfl 1 rfl 0 rfl ?_
  refine g_iload_n C dX7_rule_1 rfl 2 rfl 1 rfl ?_
  refine g_cVi (ws2 := [ob o7 7 [.int (nI n), .int (nI m), .int (nI z), .ref uP, .ref uS, .ref uQ, .ref uA, .ref uB, .int (nI c), .ref uK, .int (nI h), .int (nI ns), .ref uM, .ref uF, .ref uY, .ref uT, .ref uL, .ref uC, .ref uX, .int (oI nf), .ref uI, .ref uR, .ref uW, .ref uH, .ref uG], aN (eY E) uP 30 Pp, aN (eY E) uS 30 Ps, aN (eY E) uQ 30 Pq, aO (eY E) uA 30 Pa, aO (eY E) uB 30 Pb]) (As := [.int (nI p)]) (st := []) (wsc := [ob o7 7 [.int (nI n), .int (nI m), .int (nI z), .ref uP, .ref uS, .ref uQ, .ref uA, .ref uB, .int (nI c), .ref uK, .int (nI h), .int (nI ns), .ref uM, .ref uF, .ref uY, .ref uT, .ref uL, .ref uC, .ref uX, .int (oI nf), .ref uI, .ref uR, .ref uW, .ref uH, .ref uG]]) (wr := [aN (eY E) uP 30 Pp, aN (eY E) uS 30 Ps, aN (eY E) uQ 30 Pq, aO (eY E) uA 30 Pa, aO (eY E) uB 30 Pb]) C (c_X7_isControl (eL E) (eD E) (eY E) o7 n m z uP uS uQ uA uB c uK h ns uM uF uY uT uL uC uX nf uI uR uW uH uG (nI p) (by omega)) 1 gX7_rule_X7_isControl rfl (by decide +kernel) (by decide) ⟨Nat.zero_le _, Nat.zero_le _⟩ rfl 0 rfl rfl rfl (Nat.le_of_ble_eq_true rfl) [0] [1, 2, 3, 4, 5] [5, 0, 1, 2, 3, 4] rfl rfl (by decide) (by decide) rfl (by decide) dX7_rule_2 5 rfl ?_
  refine g_if_eq (X := inR (nI p) n = false) C dX7_rule_5 64 (by decide) 8 rfl (bI_eq0 _) ?_ ?_
  · intro h5
    refine g_iconst (v := nI 0) C dX7_rule_64 (by decide) 65 rfl ?_
    refine g_istore (lv' := [(6, .int (nI 0)), (0, .ref o7), (1, .int (nI p)), (2, .int (nI s)), (3, .int (nI q)), (4, .int (oI a)), (5, .int (oI b))]) C dX7_rule_65 67 rfl (by decide) rfl ?_
    refine g_iload C dX7_rule_67 69 rfl 0 rfl ?_
    refine g_if_ne (X := ¬ 0 = 0) C dX7_rule_69 75 (by decide) 72 rfl (not_congr (nI_eq0 (by omega))) ?_ ?_
    · intro h69
      exact absurd h69 (by decide)
    · intro h69
      have h69 : 0 = 0 := Decidable.not_not.mp h69
      exact (show False from by first | exact Bool.noConfusion (h5.symm.trans v1) | exact Bool.noConfusion (h13.symm.trans v2) | exact Bool.noConfusion (h21.symm.trans v3) | exact Bool.noConfusion (h36.symm.trans (v4 (by omega))) | exact Bool.noConfusion (h57.symm.trans (v5 (by omega))) | (have := hab (by assumption); omega)).elim
  · intro h5
    have h5 : inR (nI p) n = true := by simpa using h5
    refine g_aload_n C dX7_rule_8 rfl 9 rfl 0 rfl ?_
    refine g_iload_n C dX7_rule_9 rfl 10 rfl 2 rfl ?_
    refine g_cVi (ws2 := [ob o7 7 [.int (nI n), .int (nI m), .int (nI z), .ref uP, .ref uS, .ref uQ, .ref uA, .ref uB, .int (nI c), .ref uK, .int (nI h), .int (nI ns), .ref uM, .ref uF, .ref uY, .ref uT, .ref uL, .ref uC, .ref uX, .int (oI nf), .ref uI, .ref uR, .ref uW, .ref uH, .ref uG], aN (eY E) uP 30 Pp, aN (eY E) uS 30 Ps, aN (eY E) uQ 30 Pq, aO (eY E) uA 30 Pa, aO (eY E) uB 30 Pb]) (As := [.int (nI s)]) (st := []) (wsc := [ob o7 7 [.int (nI n), .int (nI m), .int (nI z), .ref uP, .ref uS, .ref uQ, .ref uA, .ref uB, .int (nI c), .ref uK, .int (nI h), .int (nI ns), .ref uM, .ref uF, .ref uY, .ref uT, .ref uL, .ref uC, .ref uX, .int (oI nf), .ref uI, .ref uR, .ref uW, .ref uH, .ref uG]]) (wr := [aN (eY E) uP 30 Pp, aN (eY E) uS 30 Ps, aN (eY E) uQ 30 Pq, aO (eY E) uA 30 Pa, aO (eY E) uB 30 Pb]) C (c_X7_isSign (eL E) (eD E) (eY E) o7 n m z uP uS uQ uA uB c uK h ns uM uF uY uT uL uC uX nf uI uR uW uH uG (nI s) (by omega)) 1 gX7_rule_X7_isSign rfl (by decide +kernel) (by decide) ⟨Nat.zero_le _, Nat.zero_le _⟩ rfl 0 rfl rfl rfl (Nat.le_of_ble_eq_true rfl) [0] [1, 2, 3, 4, 5] [5, 0, 1, 2, 3, 4] rfl rfl (by decide) (by decide) rfl (by decide) dX7_rule_10 13 rfl ?_
    refine g_if_eq (X := inR (nI s) m = false) C dX7_rule_13 64 (by decide) 16 rfl (bI_eq0 _) ?_ ?_
    · intro h13
      refine g_iconst (v := nI 0) C dX7_rule_64 (by decide) 65 rfl ?_
      refine g_istore (lv' := [(6, .int (nI 0)), (0, .ref o7), (1, .int (nI p)), (2, .int (nI s)), (3, .int (nI q)), (4, .int (oI a)), (5, .int (oI b))]) C dX7_rule_65 67 rfl (by decide) rfl ?_
      refine g_iload C dX7_rule_67 69 rfl 0 rfl ?_
      refine g_if_ne (X := ¬ 0 = 0) C dX7_rule_69 75 (by decide) 72 rfl (not_congr (nI_eq0 (by omega))) ?_ ?_
      · intro h69
        exact absurd h69 (by decide)
      · intro h69
        have h69 : 0 = 0 := Decidable.not_not.mp h69
        exact (show False from by first | exact Bool.noConfusion (h5.symm.trans v1) | exact Bool.noConfusion (h13.symm.trans v2) | exact Bool.noConfusion (h21.symm.trans v3) | exact Bool.noConfusion (h36.symm.trans (v4 (by omega))) | exact Bool.noConfusion (h57.symm.trans (v5 (by omega))) | (have := hab (by assumption); omega)).elim
    · intro h13
      have h13 : inR (nI s) m = true := by simpa using h13
      refine g_aload_n C dX7_rule_16 rfl 17 rfl 0 rfl ?_
      refine g_iload_n C dX7_rule_17 rfl 18 rfl 3 rfl ?_
      refine g_cVi (ws2 := [ob o7 7 [.int (nI n), .int (nI m), .int (nI z), .ref uP, .ref uS, .ref uQ, .ref uA, .ref uB, .int (nI c), .ref uK, .int (nI h), .int (nI ns), .ref uM, .ref uF, .ref uY, .ref uT, .ref uL, .ref uC, .ref uX, .int (oI nf), .ref uI, .ref uR, .ref uW, .ref uH, .ref uG], aN (eY E) uP 30 Pp, aN (eY E) uS 30 Ps, aN (eY E) uQ 30 Pq, aO (eY E) uA 30 Pa, aO (eY E) uB 30 Pb]) (As := [.int (nI q)]) (st := []) (wsc := [ob o7 7 [.int (nI n), .int (nI m), .int (nI z), .ref uP, .ref uS, .ref uQ, .ref uA, .ref uB, .int (nI c), .ref uK, .int (nI h), .int (nI ns), .ref uM, .ref uF, .ref uY, .ref uT, .ref uL, .ref uC, .ref uX, .int (oI nf), .ref uI, .ref uR, .ref uW, .ref uH, .ref uG]]) (wr := [aN (eY E) uP 30 Pp, aN (eY E) uS 30 Ps, aN (eY E) uQ 30 Pq, aO (eY E) uA 30 Pa, aO (eY E) uB 30 Pb]) C (c_X7_isControl (eL E) (eD E) (eY E) o7 n m z uP uS uQ uA uB c uK h ns uM uF uY uT uL uC uX nf uI uR uW uH uG (nI q) (by omega)) 1 gX7_rule_X7_isControl rfl (by decide +kernel) (by decide) ⟨Nat.zero_le _, Nat.zero_le _⟩ rfl 0 rfl rfl rfl (Nat.le_of_ble_eq_true rfl) [0] [1, 2, 3, 4, 5] [5, 0, 1, 2, 3, 4] rfl rfl (by decide) (by decide) rfl (by decide) dX7_rule_18 21 rfl ?_
      refine g_if_eq (X := inR (nI q) n = false) C dX7_rule_21 64 (by decide) 24 rfl (bI_eq0 _) ?_ ?_
      · intro h21
        refine g_iconst (v := nI 0) C dX7_rule_64 (by decide) 65 rfl ?_
        refine g_istore (lv' := [(6, .int (nI 0)), (0, .ref o7), (1, .int (nI p)), (2, .int (nI s)), (3, .int (nI q)), (4, .int (oI a)), (5, .int (oI b))]) C dX7_rule_65 67 rfl (by decide) rfl ?_
        refine g_iload C dX7_rule_67 69 rfl 0 rfl ?_
        refine g_if_ne (X := ¬ 0 = 0) C dX7_rule_69 75 (by decide) 72 rfl (not_congr (nI_eq0 (by omega))) ?_ ?_
        · intro h69
          exact absurd h69 (by decide)
        · intro h69
          have h69 : 0 = 0 := Decidable.not_not.mp h69
          exact (show False from by first | exact Bool.noConfusion (h5.symm.trans v1) | exact Bool.noConfusion (h13.symm.trans v2) | exact Bool.noConfusion (h21.symm.trans v3) | exact Bool.noConfusion (h36.symm.trans (v4 (by omega))) | exact Bool.noConfusion (h57.symm.trans (v5 (by omega))) | (have := hab (by assumption); omega)).elim
      · intro h21
        have h21 : inR (nI q) n = true := by simpa using h21
        refine g_iload C dX7_rule_24 26 rfl 4 rfl ?_
        refine g_iconst (v := (-1)) C dX7_rule_26 (by decide) 27 rfl ?_
        refine g_icmp_eq (X := a = 0) C dX7_rule_27 39 (by decide) 30 rfl (oI_eq (by omega)) ?_ ?_
        · intro h27
          refine g_iload C dX7_rule_39 41 rfl 5 rfl ?_
          refine g_iconst (v := (-1)) C dX7_rule_41 (by decide) 42 rfl ?_
          refine g_icmp_eq (X := b = 0) C dX7_rule_42 60 (by decide) 45 rfl (oI_eq (by omega)) ?_ ?_
          · intro h42
            refine g_iconst (v := nI 1) C dX7_rule_60 (by decide) 61 rfl ?_
            refine g_goto C dX7_rule_61 65 (by decide) ?_
            refine g_istore (lv' := [(6, .int (nI 1)), (0, .ref o7), (1, .int (nI p)), (2, .int (nI s)), (3, .int (nI q)), (4, .int (oI a)), (5, .int (oI b))]) C dX7_rule_65 67 rfl (by decide) rfl ?_
            refine g_iload C dX7_rule_67 69 rfl 0 rfl ?_
            refine g_if_ne (X := ¬ 1 = 0) C dX7_rule_69 75 (by decide) 72 rfl (not_congr (nI_eq0 (by omega))) ?_ ?_
            · intro h69
              refine g_aload_n C dX7_rule_75 rfl 76 rfl 1 rfl ?_
              refine g_get C iX7 0 rfl rfl 2 (by decide) (C.1.2.2.2.2 (.fieldLink RX7 79 "StackRunsModel" "rules" "I") (List.mem_of_getElem? (i := 1) rfl)) rfl dX7_rule_76 79 rfl ?_
              refine g_bipush (v := nI 30) C dX7_rule_79 (by decide) 81 rfl ?_
              refine g_icmp_ne (X := ¬ z = 30) C dX7_rule_81 87 (by decide) 84 rfl (not_congr (nI_eq (by omega) (by omega))) ?_ ?_
              · intro h81
                refine g_aload_n C dX7_rule_87 rfl 88 rfl 1 rfl ?_
                refine g_get C iX7 0 rfl rfl 3 (by decide) (C.1.2.2.2.2 (.fieldLink RX7 16 "StackRunsModel" "ruleP" "[I") (List.mem_of_getElem? (i := 2) rfl)) rfl dX7_rule_88 91 rfl ?_
                refine g_aload_n C dX7_rule_91 rfl 92 rfl 1 rfl ?_
                refine g_get C iX7 0 rfl rfl 2 (by decide) (C.1.2.2.2.2 (.fieldLink RX7 79 "StackRunsModel" "rules" "I") (List.mem_of_getElem? (i := 1) rfl)) rfl dX7_rule_92 95 rfl ?_
                refine g_iload_n C dX7_rule_95 rfl 96 rfl 2 rfl ?_
                refine g_iast (ws' := [ob o7 7 [.int (nI n), .int (nI m), .int (nI z), .ref uP, .ref uS, .ref uQ, .ref uA, .ref uB, .int (nI c), .ref uK, .int (nI h), .int (nI ns), .ref uM, .ref uF, .ref uY, .ref uT, .ref uL, .ref uC, .ref uX, .int (oI nf), .ref uI, .ref uR, .ref uW, .ref uH, .ref uG], aN (eY E) uP 30 (up Pp z p), aN (eY E) uS 30 Ps, aN (eY E) uQ 30 Pq, aO (eY E) uA 30 Pa, aO (eY E) uB 30 Pb]) (i := z) C 1 rfl (by omega) (by decide) dX7_rule_96 97 rfl (upd_N _ _ _) rfl ?_
                refine g_aload_n C dX7_rule_97 rfl 98 rfl 1 rfl ?_
                refine g_get C iX7 0 rfl rfl 4 (by decide) (C.1.2.2.2.2 (.fieldLink RX7 20 "StackRunsModel" "ruleS" "[I") (List.mem_of_getElem? (i := 3) rfl)) rfl dX7_rule_98 101 rfl ?_
                refine g_aload_n C dX7_rule_101 rfl 102 rfl 1 rfl ?_
                refine g_get C iX7 0 rfl rfl 2 (by decide) (C.1.2.2.2.2 (.fieldLink RX7 79 "StackRunsModel" "rules" "I") (List.mem_of_getElem? (i := 1) rfl)) rfl dX7_rule_102 105 rfl ?_
                refine g_iload_n C dX7_rule_105 rfl 106 rfl 3 rfl ?_
                refine g_iast (ws' := [ob o7 7 [.int (nI n), .int (nI m), .int (nI z), .ref uP, .ref uS, .ref uQ, .ref uA, .ref uB, .int (nI c), .ref uK, .int (nI h), .int (nI ns), .ref uM, .ref uF, .ref uY, .ref uT, .ref uL, .ref uC, .ref uX, .int (oI nf), .ref uI, .ref uR, .ref uW, .ref uH, .ref uG], aN (eY E) uP 30 (up Pp z p), aN (eY E) uS 30 (up Ps z s), aN (eY E) uQ 30 Pq, aO (eY E) uA 30 Pa, aO (eY E) uB 30 Pb]) (i := z) C 2 rfl (by omega) (by decide) dX7_rule_106 107 rfl (upd_N _ _ _) rfl ?_
                refine g_aload_n C dX7_rule_107 rfl 108 rfl 1 rfl ?_
                refine g_get C iX7 0 rfl rfl 5 (by decide) (C.1.2.2.2.2 (.fieldLink RX7 23 "StackRunsModel" "ruleQ" "[I") (List.mem_of_getElem? (i := 4) rfl)) rfl dX7_rule_108 111 rfl ?_
                refine g_aload_n C dX7_rule_111 rfl 112 rfl 1 rfl ?_
                refine g_get C iX7 0 rfl rfl 2 (by decide) (C.1.2.2.2.2 (.fieldLink RX7 79 "StackRunsModel" "rules" "I") (List.mem_of_getElem? (i := 1) rfl)) rfl dX7_rule_112 115 rfl ?_
                refine g_iload_n C dX7_rule_115 rfl 116 rfl 4 rfl ?_
                refine g_iast (ws' := [ob o7 7 [.int (nI n), .int (nI m), .int (nI z), .ref uP, .ref uS, .ref uQ, .ref uA, .ref uB, .int (nI c), .ref uK, .int (nI h), .int (nI ns), .ref uM, .ref uF, .ref uY, .ref uT, .ref uL, .ref uC, .ref uX, .int (oI nf), .ref uI, .ref uR, .ref uW, .ref uH, .ref uG], aN (eY E) uP 30 (up Pp z p), aN (eY E) uS 30 (up Ps z s), aN (eY E) uQ 30 (up Pq z q), aO (eY E) uA 30 Pa, aO (eY E) uB 30 Pb]) (i := z) C 3 rfl (by omega) (by decide) dX7_rule_116 117 rfl (upd_N _ _ _) rfl ?_
                refine g_aload_n C dX7_rule_117 rfl 118 rfl 1 rfl ?_
                refine g_get C iX7 0 rfl rfl 6 (by decide) (C.1.2.2.2.2 (.fieldLink RX7 26 "StackRunsModel" "ruleA" "[I") (List.mem_of_getElem? (i := 5) rfl)) rfl dX7_rule_118 121 rfl ?_
                refine g_aload_n C dX7_rule_121 rfl 122 rfl 1 rfl ?_
                refine g_get C iX7 0 rfl rfl 2 (by decide) (C.1.2.2.2.2 (.fieldLink RX7 79 "StackRunsModel" "rules" "I") (List.mem_of_getElem? (i := 1) rfl)) rfl dX7_rule_122 125 rfl ?_
                refine g_iload C dX7_rule_125 127 rfl 5 rfl ?_
                refine g_iast (ws' := [ob o7 7 [.int (nI n), .int (nI m), .int (nI z), .ref uP, .ref uS, .ref uQ, .ref uA, .ref uB, .int (nI c), .ref uK, .int (nI h), .int (nI ns), .ref uM, .ref uF, .ref uY, .ref uT, .ref uL, .ref uC, .ref uX, .int (oI nf), .ref uI, .ref uR, .ref uW, .ref uH, .ref uG], aN (eY E) uP 30 (up Pp z p), aN (eY E) uS 30 (up Ps z s), aN (eY E) uQ 30 (up Pq z q), aO (eY E) uA 30 (up Pa z a), aO (eY E) uB 30 Pb]) (i := z) C 4 rfl (by omega) (by decide) dX7_rule_127 128 rfl (upd_O _ _ _) rfl ?_
                refine g_aload_n C dX7_rule_128 rfl 129 rfl 1 rfl ?_
                refine g_get C iX7 0 rfl rfl 7 (by decide) (C.1.2.2.2.2 (.fieldLink RX7 29 "StackRunsModel" "ruleB" "[I") (List.mem_of_getElem? (i := 6) rfl)) rfl dX7_rule_129 132 rfl ?_
                refine g_aload_n C dX7_rule_132 rfl 133 rfl 1 rfl ?_
                refine g_get C iX7 0 rfl rfl 2 (by decide) (C.1.2.2.2.2 (.fieldLink RX7 79 "StackRunsModel" "rules" "I") (List.mem_of_getElem? (i := 1) rfl)) rfl dX7_rule_133 136 rfl ?_
                refine g_iload C dX7_rule_136 138 rfl 6 rfl ?_
                refine g_iast (ws' := [ob o7 7 [.int (nI n), .int (nI m), .int (nI z), .ref uP, .ref uS, .ref uQ, .ref uA, .ref uB, .int (nI c), .ref uK, .int (nI h), .int (nI ns), .ref uM, .ref uF, .ref uY, .ref uT, .ref uL, .ref uC, .ref uX, .int (oI nf), .ref uI, .ref uR, .ref uW, .ref uH, .ref uG], aN (eY E) uP 30 (up Pp z p), aN (eY E) uS 30 (up Ps z s), aN (eY E) uQ 30 (up Pq z q), aO (eY E) uA 30 (up Pa z a), aO (eY E) uB 30 (up Pb z b)]) (i := z) C 5 rfl (by omega) (by decide) dX7_rule_138 139 rfl (upd_O _ _ _) rfl ?_
                refine g_aload_n C dX7_rule_139 rfl 140 rfl 1 rfl ?_
                refine g_dup C dX7_rule_140 rfl 141 rfl ?_
                refine g_get C iX7 0 rfl rfl 2 (by decide) (C.1.2.2.2.2 (.fieldLink RX7 79 "StackRunsModel" "rules" "I") (List.mem_of_getElem? (i := 1) rfl)) rfl dX7_rule_141 144 rfl ?_
                refine g_iconst (v := nI 1) C dX7_rule_144 (by decide) 145 rfl ?_
                refine g_iadd (z := nI (z + 1)) C dX7_rule_145 146 rfl (nI_add _ _) ?_
                refine g_put (ws' := [ob o7 7 [.int (nI n), .int (nI m), .int (nI (z + 1)), .ref uP, .ref uS, .ref uQ, .ref uA, .ref uB, .int (nI c), .ref uK, .int (nI h), .int (nI ns), .ref uM, .ref uF, .ref uY, .ref uT, .ref uL, .ref uC, .ref uX, .int (oI nf), .ref uI, .ref uR, .ref uW, .ref uH, .ref uG], aN (eY E) uP 30 (up Pp z p), aN (eY E) uS 30 (up Ps z s), aN (eY E) uQ 30 (up Pq z q), aO (eY E) uA 30 (up Pa z a), aO (eY E) uB 30 (up Pb z b)]) (ty := .int) C iX7 tyX7_ok nmX7 0 rfl rfl 2 (by decide) (C.1.2.2.2.2 (.fieldLink RX7 79 "StackRunsModel" "rules" "I") (List.mem_of_getElem? (i := 1) rfl)) rfl (by decide +kernel) rfl rfl (Nat.le_of_ble_eq_true rfl) dX7_rule_146 149 rfl rfl ?_
                refine g_aload_n C dX7_rule_149 rfl 150 rfl 1 rfl ?_
                refine g_get C iX7 0 rfl rfl 2 (by decide) (C.1.2.2.2.2 (.fieldLink RX7 79 "StackRunsModel" "rules" "I") (List.mem_of_getElem? (i := 1) rfl)) rfl dX7_rule_150 153 rfl ?_
                refine g_iconst (v := nI 1) C dX7_rule_153 (by decide) 154 rfl ?_
                refine g_isub (z := nI ((z + 1) - 1)) C dX7_rule_154 155 rfl (pk_sub (by omega)) ?_
                have e_1 : ((z + 1) - 1) = z := by first | with_reducible rfl | (omega)
                refine go_eq rfl (st' := [.int (nI z)]) (ws' := [ob o7 7 [.int (nI n), .int (nI m), .int (nI (z + 1)), .ref uP, .ref uS, .ref uQ, .ref uA, .ref uB, .int (nI c), .ref uK, .int (nI h), .int (nI ns), .ref uM, .ref uF, .ref uY, .ref uT, .ref uL, .ref uC, .ref uX, .int (oI nf), .ref uI, .ref uR, .ref uW, .ref uH, .ref uG], aN (eY E) uP 30 (up Pp z p), aN (eY E) uS 30 (up Ps z s), aN (eY E) uQ 30 (up Pq z q), aO (eY E) uA 30 (up Pa z a), aO (eY E) uB 30 (up Pb z b)]) (by first | with_reducible rfl | (simp only [e_1, oI_s, oI_0, bI_1, bI_0, and_self, reduceIte]; done)) (by first | with_reducible rfl | (simp only [e_1, oI_s, oI_0, bI_1, bI_0, and_self, reduceIte]; done)) ?_
                exact hret _ _ dX7_rule_155
              · intro h81
                have h81 : z = 30 := Decidable.not_not.mp h81
                exact (show False from by omega).elim
            · intro h69
              have h69 : 1 = 0 := Decidable.not_not.mp h69
              exact absurd h69 (by decide)
          · intro h42
            refine g_iload C dX7_rule_45 47 rfl 4 rfl ?_
            refine g_iconst (v := (-1)) C dX7_rule_47 (by decide) 48 rfl ?_
            refine g_icmp_eq (X := a = 0) C dX7_rule_48 64 (by decide) 51 rfl (oI_eq (by omega)) ?_ ?_
            · intro h48
              refine g_iconst (v := nI 0) C dX7_rule_64 (by decide) 65 rfl ?_
              refine g_istore (lv' := [(6, .int (nI 0)), (0, .ref o7), (1, .int (nI p)), (2, .int (nI s)), (3, .int (nI q)), (4, .int (oI a)), (5, .int (oI b))]) C dX7_rule_65 67 rfl (by decide) rfl ?_
              refine g_iload C dX7_rule_67 69 rfl 0 rfl ?_
              refine g_if_ne (X := ¬ 0 = 0) C dX7_rule_69 75 (by decide) 72 rfl (not_congr (nI_eq0 (by omega))) ?_ ?_
              · intro h69
                exact absurd h69 (by decide)
              · intro h69
                have h69 : 0 = 0 := Decidable.not_not.mp h69
                exact (show False from by first | exact Bool.noConfusion (h5.symm.trans v1) | exact Bool.noConfusion (h13.symm.trans v2) | exact Bool.noConfusion (h21.symm.trans v3) | exact Bool.noConfusion (h36.symm.trans (v4 (by omega))) | exact Bool.noConfusion (h57.symm.trans (v5 (by omega))) | (have := hab (by assumption); omega)).elim
            · intro h48
              refine g_aload_n C dX7_rule_51 rfl 52 rfl 0 rfl ?_
              refine g_iload C dX7_rule_52 54 rfl 5 rfl ?_
              refine g_cVi (ws2 := [ob o7 7 [.int (nI n), .int (nI m), .int (nI z), .ref uP, .ref uS, .ref uQ, .ref uA, .ref uB, .int (nI c), .ref uK, .int (nI h), .int (nI ns), .ref uM, .ref uF, .ref uY, .ref uT, .ref uL, .ref uC, .ref uX, .int (oI nf), .ref uI, .ref uR, .ref uW, .ref uH, .ref uG], aN (eY E) uP 30 Pp, aN (eY E) uS 30 Ps, aN (eY E) uQ 30 Pq, aO (eY E) uA 30 Pa, aO (eY E) uB 30 Pb]) (As := [.int (oI b)]) (st := []) (wsc := [ob o7 7 [.int (nI n), .int (nI m), .int (nI z), .ref uP, .ref uS, .ref uQ, .ref uA, .ref uB, .int (nI c), .ref uK, .int (nI h), .int (nI ns), .ref uM, .ref uF, .ref uY, .ref uT, .ref uL, .ref uC, .ref uX, .int (oI nf), .ref uI, .ref uR, .ref uW, .ref uH, .ref uG]]) (wr := [aN (eY E) uP 30 Pp, aN (eY E) uS 30 Ps, aN (eY E) uQ 30 Pq, aO (eY E) uA 30 Pa, aO (eY E) uB 30 Pb]) C (c_X7_isSign (eL E) (eD E) (eY E) o7 n m z uP uS uQ uA uB c uK h ns uM uF uY uT uL uC uX nf uI uR uW uH uG (oI b) (by omega)) 1 gX7_rule_X7_isSign rfl (by decide +kernel) (by decide) ⟨Nat.zero_le _, Nat.zero_le _⟩ rfl 0 rfl rfl rfl (Nat.le_of_ble_eq_true rfl) [0] [1, 2, 3, 4, 5] [5, 0, 1, 2, 3, 4] rfl rfl (by decide) (by decide) rfl (by decide) dX7_rule_54 57 rfl ?_
              refine g_if_eq (X := inR (oI b) m = false) C dX7_rule_57 64 (by decide) 60 rfl (bI_eq0 _) ?_ ?_
              · intro h57
                refine g_iconst (v := nI 0) C dX7_rule_64 (by decide) 65 rfl ?_
                refine g_istore (lv' := [(6, .int (nI 0)), (0, .ref o7), (1, .int (nI p)), (2, .int (nI s)), (3, .int (nI q)), (4, .int (oI a)), (5, .int (oI b))]) C dX7_rule_65 67 rfl (by decide) rfl ?_
                refine g_iload C dX7_rule_67 69 rfl 0 rfl ?_
                refine g_if_ne (X := ¬ 0 = 0) C dX7_rule_69 75 (by decide) 72 rfl (not_congr (nI_eq0 (by omega))) ?_ ?_
                · intro h69
                  exact absurd h69 (by decide)
                · intro h69
                  have h69 : 0 = 0 := Decidable.not_not.mp h69
                  exact (show False from by first | exact Bool.noConfusion (h5.symm.trans v1) | exact Bool.noConfusion (h13.symm.trans v2) | exact Bool.noConfusion (h21.symm.trans v3) | exact Bool.noConfusion (h36.symm.trans (v4 (by omega))) | exact Bool.noConfusion (h57.symm.trans (v5 (by omega))) | (have := hab (by assumption); omega)).elim
              · intro h57
                have h57 : inR (oI b) m = true := by simpa using h57
                refine g_iconst (v := nI 1) C dX7_rule_60 (by decide) 61 rfl ?_
                refine g_goto C dX7_rule_61 65 (by decide) ?_
                refine g_istore (lv' := [(6, .int (nI 1)), (0, .ref o7), (1, .int (nI p)), (2, .int (nI s)), (3, .int (nI q)), (4, .int (oI a)), (5, .int (oI b))]) C dX7_rule_65 67 rfl (by decide) rfl ?_
                refine g_iload C dX7_rule_67 69 rfl 0 rfl ?_
                refine g_if_ne (X := ¬ 1 = 0) C dX7_rule_69 75 (by decide) 72 rfl (not_congr (nI_eq0 (by omega))) ?_ ?_
                · intro h69
                  refine g_aload_n C dX7_rule_75 rfl 76 rfl 1 rfl ?_
                  refine g_get C iX7 0 rfl rfl 2 (by decide) (C.1.2.2.2.2 (.fieldLink RX7 79 "StackRunsModel" "rules" "I") (List.mem_of_getElem? (i := 1) rfl)) rfl dX7_rule_76 79 rfl ?_
                  refine g_bipush (v := nI 30) C dX7_rule_79 (by decide) 81 rfl ?_
                  refine g_icmp_ne (X := ¬ z = 30) C dX7_rule_81 87 (by decide) 84 rfl (not_congr (nI_eq (by omega) (by omega))) ?_ ?_
                  · intro h81
                    refine g_aload_n C dX7_rule_87 rfl 88 rfl 1 rfl ?_
                    refine g_get C iX7 0 rfl rfl 3 (by decide) (C.1.2.2.2.2 (.fieldLink RX7 16 "StackRunsModel" "ruleP" "[I") (List.mem_of_getElem? (i := 2) rfl)) rfl dX7_rule_88 91 rfl ?_
                    refine g_aload_n C dX7_rule_91 rfl 92 rfl 1 rfl ?_
                    refine g_get C iX7 0 rfl rfl 2 (by decide) (C.1.2.2.2.2 (.fieldLink RX7 79 "StackRunsModel" "rules" "I") (List.mem_of_getElem? (i := 1) rfl)) rfl dX7_rule_92 95 rfl ?_
                    refine g_iload_n C dX7_rule_95 rfl 96 rfl 2 rfl ?_
                    refine g_iast (ws' := [ob o7 7 [.int (nI n), .int (nI m), .int (nI z), .ref uP, .ref uS, .ref uQ, .ref uA, .ref uB, .int (nI c), .ref uK, .int (nI h), .int (nI ns), .ref uM, .ref uF, .ref uY, .ref uT, .ref uL, .ref uC, .ref uX, .int (oI nf), .ref uI, .ref uR, .ref uW, .ref uH, .ref uG], aN (eY E) uP 30 (up Pp z p), aN (eY E) uS 30 Ps, aN (eY E) uQ 30 Pq, aO (eY E) uA 30 Pa, aO (eY E) uB 30 Pb]) (i := z) C 1 rfl (by omega) (by decide) dX7_rule_96 97 rfl (upd_N _ _ _) rfl ?_
                    refine g_aload_n C dX7_rule_97 rfl 98 rfl 1 rfl ?_
                    refine g_get C iX7 0 rfl rfl 4 (by decide) (C.1.2.2.2.2 (.fieldLink RX7 20 "StackRunsModel" "ruleS" "[I") (List.mem_of_getElem? (i := 3) rfl)) rfl dX7_rule_98 101 rfl ?_
                    refine g_aload_n C dX7_rule_101 rfl 102 rfl 1 rfl ?_
                    refine g_get C iX7 0 rfl rfl 2 (by decide) (C.1.2.2.2.2 (.fieldLink RX7 79 "StackRunsModel" "rules" "I") (List.mem_of_getElem? (i := 1) rfl)) rfl dX7_rule_102 105 rfl ?_
                    refine g_iload_n C dX7_rule_105 rfl 106 rfl 3 rfl ?_
                    refine g_iast (ws' := [ob o7 7 [.int (nI n), .int (nI m), .int (nI z), .ref uP, .ref uS, .ref uQ, .ref uA, .ref uB, .int (nI c), .ref uK, .int (nI h), .int (nI ns), .ref uM, .ref uF, .ref uY, .ref uT, .ref uL, .ref uC, .ref uX, .int (oI nf), .ref uI, .ref uR, .ref uW, .ref uH, .ref uG], aN (eY E) uP 30 (up Pp z p), aN (eY E) uS 30 (up Ps z s), aN (eY E) uQ 30 Pq, aO (eY E) uA 30 Pa, aO (eY E) uB 30 Pb]) (i := z) C 2 rfl (by omega) (by decide) dX7_rule_106 107 rfl (upd_N _ _ _) rfl ?_
                    refine g_aload_n C dX7_rule_107 rfl 108 rfl 1 rfl ?_
                    refine g_get C iX7 0 rfl rfl 5 (by decide) (C.1.2.2.2.2 (.fieldLink RX7 23 "StackRunsModel" "ruleQ" "[I") (List.mem_of_getElem? (i := 4) rfl)) rfl dX7_rule_108 111 rfl ?_
                    refine g_aload_n C dX7_rule_111 rfl 112 rfl 1 rfl ?_
                    refine g_get C iX7 0 rfl rfl 2 (by decide) (C.1.2.2.2.2 (.fieldLink RX7 79 "StackRunsModel" "rules" "I") (List.mem_of_getElem? (i := 1) rfl)) rfl dX7_rule_112 115 rfl ?_
                    refine g_iload_n C dX7_rule_115 rfl 116 rfl 4 rfl ?_
                    refine g_iast (ws' := [ob o7 7 [.int (nI n), .int (nI m), .int (nI z), .ref uP, .ref uS, .ref uQ, .ref uA, .ref uB, .int (nI c), .ref uK, .int (nI h), .int (nI ns), .ref uM, .ref uF, .ref uY, .ref uT, .ref uL, .ref uC, .ref uX, .int (oI nf), .ref uI, .ref uR, .ref uW, .ref uH, .ref uG], aN (eY E) uP 30 (up Pp z p), aN (eY E) uS 30 (up Ps z s), aN (eY E) uQ 30 (up Pq z q), aO (eY E) uA 30 Pa, aO (eY E) uB 30 Pb]) (i := z) C 3 rfl (by omega) (by decide) dX7_rule_116 117 rfl (upd_N _ _ _) rfl ?_
                    refine g_aload_n C dX7_rule_117 rfl 118 rfl 1 rfl ?_
                    refine g_get C iX7 0 rfl rfl 6 (by decide) (C.1.2.2.2.2 (.fieldLink RX7 26 "StackRunsModel" "ruleA" "[I") (List.mem_of_getElem? (i := 5) rfl)) rfl dX7_rule_118 121 rfl ?_
                    refine g_aload_n C dX7_rule_121 rfl 122 rfl 1 rfl ?_
                    refine g_get C iX7 0 rfl rfl 2 (by decide) (C.1.2.2.2.2 (.fieldLink RX7 79 "StackRunsModel" "rules" "I") (List.mem_of_getElem? (i := 1) rfl)) rfl dX7_rule_122 125 rfl ?_
                    refine g_iload C dX7_rule_125 127 rfl 5 rfl ?_
                    refine g_iast (ws' := [ob o7 7 [.int (nI n), .int (nI m), .int (nI z), .ref uP, .ref uS, .ref uQ, .ref uA, .ref uB, .int (nI c), .ref uK, .int (nI h), .int (nI ns), .ref uM, .ref uF, .ref uY, .ref uT, .ref uL, .ref uC, .ref uX, .int (oI nf), .ref uI, .ref uR, .ref uW, .ref uH, .ref uG], aN (eY E) uP 30 (up Pp z p), aN (eY E) uS 30 (up Ps z s), aN (eY E) uQ 30 (up Pq z q), aO (eY E) uA 30 (up Pa z a), aO (eY E) uB 30 Pb]) (i := z) C 4 rfl (by omega) (by decide) dX7_rule_127 128 rfl (upd_O _ _ _) rfl ?_
                    refine g_aload_n C dX7_rule_128 rfl 129 rfl 1 rfl ?_
                    refine g_get C iX7 0 rfl rfl 7 (by decide) (C.1.2.2.2.2 (.fieldLink RX7 29 "StackRunsModel" "ruleB" "[I") (List.mem_of_getElem? (i := 6) rfl)) rfl dX7_rule_129 132 rfl ?_
                    refine g_aload_n C dX7_rule_132 rfl 133 rfl 1 rfl ?_
                    refine g_get C iX7 0 rfl rfl 2 (by decide) (C.1.2.2.2.2 (.fieldLink RX7 79 "StackRunsModel" "rules" "I") (List.mem_of_getElem? (i := 1) rfl)) rfl dX7_rule_133 136 rfl ?_
                    refine g_iload C dX7_rule_136 138 rfl 6 rfl ?_
                    refine g_iast (ws' := [ob o7 7 [.int (nI n), .int (nI m), .int (nI z), .ref uP, .ref uS, .ref uQ, .ref uA, .ref uB, .int (nI c), .ref uK, .int (nI h), .int (nI ns), .ref uM, .ref uF, .ref uY, .ref uT, .ref uL, .ref uC, .ref uX, .int (oI nf), .ref uI, .ref uR, .ref uW, .ref uH, .ref uG], aN (eY E) uP 30 (up Pp z p), aN (eY E) uS 30 (up Ps z s), aN (eY E) uQ 30 (up Pq z q), aO (eY E) uA 30 (up Pa z a), aO (eY E) uB 30 (up Pb z b)]) (i := z) C 5 rfl (by omega) (by decide) dX7_rule_138 139 rfl (upd_O _ _ _) rfl ?_
                    refine g_aload_n C dX7_rule_139 rfl 140 rfl 1 rfl ?_
                    refine g_dup C dX7_rule_140 rfl 141 rfl ?_
                    refine g_get C iX7 0 rfl rfl 2 (by decide) (C.1.2.2.2.2 (.fieldLink RX7 79 "StackRunsModel" "rules" "I") (List.mem_of_getElem? (i := 1) rfl)) rfl dX7_rule_141 144 rfl ?_
                    refine g_iconst (v := nI 1) C dX7_rule_144 (by decide) 145 rfl ?_
                    refine g_iadd (z := nI (z + 1)) C dX7_rule_145 146 rfl (nI_add _ _) ?_
                    refine g_put (ws' := [ob o7 7 [.int (nI n), .int (nI m), .int (nI (z + 1)), .ref uP, .ref uS, .ref uQ, .ref uA, .ref uB, .int (nI c), .ref uK, .int (nI h), .int (nI ns), .ref uM, .ref uF, .ref uY, .ref uT, .ref uL, .ref uC, .ref uX, .int (oI nf), .ref uI, .ref uR, .ref uW, .ref uH, .ref uG], aN (eY E) uP 30 (up Pp z p), aN (eY E) uS 30 (up Ps z s), aN (eY E) uQ 30 (up Pq z q), aO (eY E) uA 30 (up Pa z a), aO (eY E) uB 30 (up Pb z b)]) (ty := .int) C iX7 tyX7_ok nmX7 0 rfl rfl 2 (by decide) (C.1.2.2.2.2 (.fieldLink RX7 79 "StackRunsModel" "rules" "I") (List.mem_of_getElem? (i := 1) rfl)) rfl (by decide +kernel) rfl rfl (Nat.le_of_ble_eq_true rfl) dX7_rule_146 149 rfl rfl ?_
                    refine g_aload_n C dX7_rule_149 rfl 150 rfl 1 rfl ?_
                    refine g_get C iX7 0 rfl rfl 2 (by decide) (C.1.2.2.2.2 (.fieldLink RX7 79 "StackRunsModel" "rules" "I") (List.mem_of_getElem? (i := 1) rfl)) rfl dX7_rule_150 153 rfl ?_
                    refine g_iconst (v := nI 1) C dX7_rule_153 (by decide) 154 rfl ?_
                    refine g_isub (z := nI ((z + 1) - 1)) C dX7_rule_154 155 rfl (pk_sub (by omega)) ?_
                    have e_2 : ((z + 1) - 1) = z := by first | with_reducible rfl | (omega)
                    refine go_eq rfl (st' := [.int (nI z)]) (ws' := [ob o7 7 [.int (nI n), .int (nI m), .int (nI (z + 1)), .ref uP, .ref uS, .ref uQ, .ref uA, .ref uB, .int (nI c), .ref uK, .int (nI h), .int (nI ns), .ref uM, .ref uF, .ref uY, .ref uT, .ref uL, .ref uC, .ref uX, .int (oI nf), .ref uI, .ref uR, .ref uW, .ref uH, .ref uG], aN (eY E) uP 30 (up Pp z p), aN (eY E) uS 30 (up Ps z s), aN (eY E) uQ 30 (up Pq z q), aO (eY E) uA 30 (up Pa z a), aO (eY E) uB 30 (up Pb z b)]) (by first | with_reducible rfl | (simp only [e_2, oI_s, oI_0, bI_1, bI_0, and_self, reduceIte]; done)) (by first | with_reducible rfl | (simp only [e_2, oI_s, oI_0, bI_1, bI_0, and_self, reduceIte]; done)) ?_
                    exact hret _ _ dX7_rule_155
                  · intro h81
                    have h81 : z = 30 := Decidable.not_not.mp h81
                    exact (show False from by omega).elim
                · intro h69
                  have h69 : 1 = 0 := Decidable.not_not.mp h69
                  exact absurd h69 (by decide)
        · intro h27
          refine g_aload_n C dX7_rule_30 rfl 31 rfl 0 rfl ?_
          refine g_iload C dX7_rule_31 33 rfl 4 rfl ?_
          refine g_cVi (ws2 := [ob o7 7 [.int (nI n), .int (nI m), .int (nI z), .ref uP, .ref uS, .ref uQ, .ref uA, .ref uB, .int (nI c), .ref uK, .int (nI h), .int (nI ns), .ref uM, .ref uF, .ref uY, .ref uT, .ref uL, .ref uC, .ref uX, .int (oI nf), .ref uI, .ref uR, .ref uW, .ref uH, .ref uG], aN (eY E) uP 30 Pp, aN (eY E) uS 30 Ps, aN (eY E) uQ 30 Pq, aO (eY E) uA 30 Pa, aO (eY E) uB 30 Pb]) (As := [.int (oI a)]) (st := []) (wsc := [ob o7 7 [.int (nI n), .int (nI m), .int (nI z), .ref uP, .ref uS, .ref uQ, .ref uA, .ref uB, .int (nI c), .ref uK, .int (nI h), .int (nI ns), .ref uM, .ref uF, .ref uY, .ref uT, .ref uL, .ref uC, .ref uX, .int (oI nf), .ref uI, .ref uR, .ref uW, .ref uH, .ref uG]]) (wr := [aN (eY E) uP 30 Pp, aN (eY E) uS 30 Ps, aN (eY E) uQ 30 Pq, aO (eY E) uA 30 Pa, aO (eY E) uB 30 Pb]) C (c_X7_isSign (eL E) (eD E) (eY E) o7 n m z uP uS uQ uA uB c uK h ns uM uF uY uT uL uC uX nf uI uR uW uH uG (oI a) (by omega)) 1 gX7_rule_X7_isSign rfl (by decide +kernel) (by decide) ⟨Nat.zero_le _, Nat.zero_le _⟩ rfl 0 rfl rfl rfl (Nat.le_of_ble_eq_true rfl) [0] [1, 2, 3, 4, 5] [5, 0, 1, 2, 3, 4] rfl rfl (by decide) (by decide) rfl (by decide) dX7_rule_33 36 rfl ?_
          refine g_if_eq (X := inR (oI a) m = false) C dX7_rule_36 64 (by decide) 39 rfl (bI_eq0 _) ?_ ?_
          · intro h36
            refine g_iconst (v := nI 0) C dX7_rule_64 (by decide) 65 rfl ?_
            refine g_istore (lv' := [(6, .int (nI 0)), (0, .ref o7), (1, .int (nI p)), (2, .int (nI s)), (3, .int (nI q)), (4, .int (oI a)), (5, .int (oI b))]) C dX7_rule_65 67 rfl (by decide) rfl ?_
            refine g_iload C dX7_rule_67 69 rfl 0 rfl ?_
            refine g_if_ne (X := ¬ 0 = 0) C dX7_rule_69 75 (by decide) 72 rfl (not_congr (nI_eq0 (by omega))) ?_ ?_
            · intro h69
              exact absurd h69 (by decide)
            · intro h69
              have h69 : 0 = 0 := Decidable.not_not.mp h69
              exact (show False from by first | exact Bool.noConfusion (h5.symm.trans v1) | exact Bool.noConfusion (h13.symm.trans v2) | exact Bool.noConfusion (h21.symm.trans v3) | exact Bool.noConfusion (h36.symm.trans (v4 (by omega))) | exact Bool.noConfusion (h57.symm.trans (v5 (by omega))) | (have := hab (by assumption); omega)).elim
          · intro h36
            have h36 : inR (oI a) m = true := by simpa using h36
            refine g_iload C dX7_rule_39 41 rfl 5 rfl ?_
            refine g_iconst (v := (-1)) C dX7_rule_41 (by decide) 42 rfl ?_
            refine g_icmp_eq (X := b = 0) C dX7_rule_42 60 (by decide) 45 rfl (oI_eq (by omega)) ?_ ?_
            · intro h42
              refine g_iconst (v := nI 1) C dX7_rule_60 (by decide) 61 rfl ?_
              refine g_goto C dX7_rule_61 65 (by decide) ?_
              refine g_istore (lv' := [(6, .int (nI 1)), (0, .ref o7), (1, .int (nI p)), (2, .int (nI s)), (3, .int (nI q)), (4, .int (oI a)), (5, .int (oI b))]) C dX7_rule_65 67 rfl (by decide) rfl ?_
              refine g_iload C dX7_rule_67 69 rfl 0 rfl ?_
              refine g_if_ne (X := ¬ 1 = 0) C dX7_rule_69 75 (by decide) 72 rfl (not_congr (nI_eq0 (by omega))) ?_ ?_
              · intro h69
                refine g_aload_n C dX7_rule_75 rfl 76 rfl 1 rfl ?_
                refine g_get C iX7 0 rfl rfl 2 (by decide) (C.1.2.2.2.2 (.fieldLink RX7 79 "StackRunsModel" "rules" "I") (List.mem_of_getElem? (i := 1) rfl)) rfl dX7_rule_76 79 rfl ?_
                refine g_bipush (v := nI 30) C dX7_rule_79 (by decide) 81 rfl ?_
                refine g_icmp_ne (X := ¬ z = 30) C dX7_rule_81 87 (by decide) 84 rfl (not_congr (nI_eq (by omega) (by omega))) ?_ ?_
                · intro h81
                  refine g_aload_n C dX7_rule_87 rfl 88 rfl 1 rfl ?_
                  refine g_get C iX7 0 rfl rfl 3 (by decide) (C.1.2.2.2.2 (.fieldLink RX7 16 "StackRunsModel" "ruleP" "[I") (List.mem_of_getElem? (i := 2) rfl)) rfl dX7_rule_88 91 rfl ?_
                  refine g_aload_n C dX7_rule_91 rfl 92 rfl 1 rfl ?_
                  refine g_get C iX7 0 rfl rfl 2 (by decide) (C.1.2.2.2.2 (.fieldLink RX7 79 "StackRunsModel" "rules" "I") (List.mem_of_getElem? (i := 1) rfl)) rfl dX7_rule_92 95 rfl ?_
                  refine g_iload_n C dX7_rule_95 rfl 96 rfl 2 rfl ?_
                  refine g_iast (ws' := [ob o7 7 [.int (nI n), .int (nI m), .int (nI z), .ref uP, .ref uS, .ref uQ, .ref uA, .ref uB, .int (nI c), .ref uK, .int (nI h), .int (nI ns), .ref uM, .ref uF, .ref uY, .ref uT, .ref uL, .ref uC, .ref uX, .int (oI nf), .ref uI, .ref uR, .ref uW, .ref uH, .ref uG], aN (eY E) uP 30 (up Pp z p), aN (eY E) uS 30 Ps, aN (eY E) uQ 30 Pq, aO (eY E) uA 30 Pa, aO (eY E) uB 30 Pb]) (i := z) C 1 rfl (by omega) (by decide) dX7_rule_96 97 rfl (upd_N _ _ _) rfl ?_
                  refine g_aload_n C dX7_rule_97 rfl 98 rfl 1 rfl ?_
                  refine g_get C iX7 0 rfl rfl 4 (by decide) (C.1.2.2.2.2 (.fieldLink RX7 20 "StackRunsModel" "ruleS" "[I") (List.mem_of_getElem? (i := 3) rfl)) rfl dX7_rule_98 101 rfl ?_
                  refine g_aload_n C dX7_rule_101 rfl 102 rfl 1 rfl ?_
                  refine g_get C iX7 0 rfl rfl 2 (by decide) (C.1.2.2.2.2 (.fieldLink RX7 79 "StackRunsModel" "rules" "I") (List.mem_of_getElem? (i := 1) rfl)) rfl dX7_rule_102 105 rfl ?_
                  refine g_iload_n C dX7_rule_105 rfl 106 rfl 3 rfl ?_
                  refine g_iast (ws' := [ob o7 7 [.int (nI n), .int (nI m), .int (nI z), .ref uP, .ref uS, .ref uQ, .ref uA, .ref uB, .int (nI c), .ref uK, .int (nI h), .int (nI ns), .ref uM, .ref uF, .ref uY, .ref uT, .ref uL, .ref uC, .ref uX, .int (oI nf), .ref uI, .ref uR, .ref uW, .ref uH, .ref uG], aN (eY E) uP 30 (up Pp z p), aN (eY E) uS 30 (up Ps z s), aN (eY E) uQ 30 Pq, aO (eY E) uA 30 Pa, aO (eY E) uB 30 Pb]) (i := z) C 2 rfl (by omega) (by decide) dX7_rule_106 107 rfl (upd_N _ _ _) rfl ?_
                  refine g_aload_n C dX7_rule_107 rfl 108 rfl 1 rfl ?_
                  refine g_get C iX7 0 rfl rfl 5 (by decide) (C.1.2.2.2.2 (.fieldLink RX7 23 "StackRunsModel" "ruleQ" "[I") (List.mem_of_getElem? (i := 4) rfl)) rfl dX7_rule_108 111 rfl ?_
                  refine g_aload_n C dX7_rule_111 rfl 112 rfl 1 rfl ?_
                  refine g_get C iX7 0 rfl rfl 2 (by decide) (C.1.2.2.2.2 (.fieldLink RX7 79 "StackRunsModel" "rules" "I") (List.mem_of_getElem? (i := 1) rfl)) rfl dX7_rule_112 115 rfl ?_
                  refine g_iload_n C dX7_rule_115 rfl 116 rfl 4 rfl ?_
                  refine g_iast (ws' := [ob o7 7 [.int (nI n), .int (nI m), .int (nI z), .ref uP, .ref uS, .ref uQ, .ref uA, .ref uB, .int (nI c), .ref uK, .int (nI h), .int (nI ns), .ref uM, .ref uF, .ref uY, .ref uT, .ref uL, .ref uC, .ref uX, .int (oI nf), .ref uI, .ref uR, .ref uW, .ref uH, .ref uG], aN (eY E) uP 30 (up Pp z p), aN (eY E) uS 30 (up Ps z s), aN (eY E) uQ 30 (up Pq z q), aO (eY E) uA 30 Pa, aO (eY E) uB 30 Pb]) (i := z) C 3 rfl (by omega) (by decide) dX7_rule_116 117 rfl (upd_N _ _ _) rfl ?_
                  refine g_aload_n C dX7_rule_117 rfl 118 rfl 1 rfl ?_
                  refine g_get C iX7 0 rfl rfl 6 (by decide) (C.1.2.2.2.2 (.fieldLink RX7 26 "StackRunsModel" "ruleA" "[I") (List.mem_of_getElem? (i := 5) rfl)) rfl dX7_rule_118 121 rfl ?_
                  refine g_aload_n C dX7_rule_121 rfl 122 rfl 1 rfl ?_
                  refine g_get C iX7 0 rfl rfl 2 (by decide) (C.1.2.2.2.2 (.fieldLink RX7 79 "StackRunsModel" "rules" "I") (List.mem_of_getElem? (i := 1) rfl)) rfl dX7_rule_122 125 rfl ?_
                  refine g_iload C dX7_rule_125 127 rfl 5 rfl ?_
                  refine g_iast (ws' := [ob o7 7 [.int (nI n), .int (nI m), .int (nI z), .ref uP, .ref uS, .ref uQ, .ref uA, .ref uB, .int (nI c), .ref uK, .int (nI h), .int (nI ns), .ref uM, .ref uF, .ref uY, .ref uT, .ref uL, .ref uC, .ref uX, .int (oI nf), .ref uI, .ref uR, .ref uW, .ref uH, .ref uG], aN (eY E) uP 30 (up Pp z p), aN (eY E) uS 30 (up Ps z s), aN (eY E) uQ 30 (up Pq z q), aO (eY E) uA 30 (up Pa z a), aO (eY E) uB 30 Pb]) (i := z) C 4 rfl (by omega) (by decide) dX7_rule_127 128 rfl (upd_O _ _ _) rfl ?_
                  refine g_aload_n C dX7_rule_128 rfl 129 rfl 1 rfl ?_
                  refine g_get C iX7 0 rfl rfl 7 (by decide) (C.1.2.2.2.2 (.fieldLink RX7 29 "StackRunsModel" "ruleB" "[I") (List.mem_of_getElem? (i := 6) rfl)) rfl dX7_rule_129 132 rfl ?_
                  refine g_aload_n C dX7_rule_132 rfl 133 rfl 1 rfl ?_
                  refine g_get C iX7 0 rfl rfl 2 (by decide) (C.1.2.2.2.2 (.fieldLink RX7 79 "StackRunsModel" "rules" "I") (List.mem_of_getElem? (i := 1) rfl)) rfl dX7_rule_133 136 rfl ?_
                  refine g_iload C dX7_rule_136 138 rfl 6 rfl ?_
                  refine g_iast (ws' := [ob o7 7 [.int (nI n), .int (nI m), .int (nI z), .ref uP, .ref uS, .ref uQ, .ref uA, .ref uB, .int (nI c), .ref uK, .int (nI h), .int (nI ns), .ref uM, .ref uF, .ref uY, .ref uT, .ref uL, .ref uC, .ref uX, .int (oI nf), .ref uI, .ref uR, .ref uW, .ref uH, .ref uG], aN (eY E) uP 30 (up Pp z p), aN (eY E) uS 30 (up Ps z s), aN (eY E) uQ 30 (up Pq z q), aO (eY E) uA 30 (up Pa z a), aO (eY E) uB 30 (up Pb z b)]) (i := z) C 5 rfl (by omega) (by decide) dX7_rule_138 139 rfl (upd_O _ _ _) rfl ?_
                  refine g_aload_n C dX7_rule_139 rfl 140 rfl 1 rfl ?_
                  refine g_dup C dX7_rule_140 rfl 141 rfl ?_
                  refine g_get C iX7 0 rfl rfl 2 (by decide) (C.1.2.2.2.2 (.fieldLink RX7 79 "StackRunsModel" "rules" "I") (List.mem_of_getElem? (i := 1) rfl)) rfl dX7_rule_141 144 rfl ?_
                  refine g_iconst (v := nI 1) C dX7_rule_144 (by decide) 145 rfl ?_
                  refine g_iadd (z := nI (z + 1)) C dX7_rule_145 146 rfl (nI_add _ _) ?_
                  refine g_put (ws' := [ob o7 7 [.int (nI n), .int (nI m), .int (nI (z + 1)), .ref uP, .ref uS, .ref uQ, .ref uA, .ref uB, .int (nI c), .ref uK, .int (nI h), .int (nI ns), .ref uM, .ref uF, .ref uY, .ref uT, .ref uL, .ref uC, .ref uX, .int (oI nf), .ref uI, .ref uR, .ref uW, .ref uH, .ref uG], aN (eY E) uP 30 (up Pp z p), aN (eY E) uS 30 (up Ps z s), aN (eY E) uQ 30 (up Pq z q), aO (eY E) uA 30 (up Pa z a), aO (eY E) uB 30 (up Pb z b)]) (ty := .int) C iX7 tyX7_ok nmX7 0 rfl rfl 2 (by decide) (C.1.2.2.2.2 (.fieldLink RX7 79 "StackRunsModel" "rules" "I") (List.mem_of_getElem? (i := 1) rfl)) rfl (by decide +kernel) rfl rfl (Nat.le_of_ble_eq_true rfl) dX7_rule_146 149 rfl rfl ?_
                  refine g_aload_n C dX7_rule_149 rfl 150 rfl 1 rfl ?_
                  refine g_get C iX7 0 rfl rfl 2 (by decide) (C.1.2.2.2.2 (.fieldLink RX7 79 "StackRunsModel" "rules" "I") (List.mem_of_getElem? (i := 1) rfl)) rfl dX7_rule_150 153 rfl ?_
                  refine g_iconst (v := nI 1) C dX7_rule_153 (by decide) 154 rfl ?_
                  refine g_isub (z := nI ((z + 1) - 1)) C dX7_rule_154 155 rfl (pk_sub (by omega)) ?_
                  have e_3 : ((z + 1) - 1) = z := by first | with_reducible rfl | (omega)
                  refine go_eq rfl (st' := [.int (nI z)]) (ws' := [ob o7 7 [.int (nI n), .int (nI m), .int (nI (z + 1)), .ref uP, .ref uS, .ref uQ, .ref uA, .ref uB, .int (nI c), .ref uK, .int (nI h), .int (nI ns), .ref uM, .ref uF, .ref uY, .ref uT, .ref uL, .ref uC, .ref uX, .int (oI nf), .ref uI, .ref uR, .ref uW, .ref uH, .ref uG], aN (eY E) uP 30 (up Pp z p), aN (eY E) uS 30 (up Ps z s), aN (eY E) uQ 30 (up Pq z q), aO (eY E) uA 30 (up Pa z a), aO (eY E) uB 30 (up Pb z b)]) (by first | with_reducible rfl | (simp only [e_3, oI_s, oI_0, bI_1, bI_0, and_self, reduceIte]; done)) (by first | with_reducible rfl | (simp only [e_3, oI_s, oI_0, bI_1, bI_0, and_self, reduceIte]; done)) ?_
                  exact hret _ _ dX7_rule_155
                · intro h81
                  have h81 : z = 30 := Decidable.not_not.mp h81
                  exact (show False from by omega).elim
              · intro h69
                have h69 : 1 = 0 := Decidable.not_not.mp h69
                exact absurd h69 (by decide)
            · intro h42
              refine g_iload C dX7_rule_45 47 rfl 4 rfl ?_
              refine g_iconst (v := (-1)) C dX7_rule_47 (by decide) 48 rfl ?_
              refine g_icmp_eq (X := a = 0) C dX7_rule_48 64 (by decide) 51 rfl (oI_eq (by omega)) ?_ ?_
              · intro h48
                refine g_iconst (v := nI 0) C dX7_rule_64 (by decide) 65 rfl ?_
                refine g_istore (lv' := [(6, .int (nI 0)), (0, .ref o7), (1, .int (nI p)), (2, .int (nI s)), (3, .int (nI q)), (4, .int (oI a)), (5, .int (oI b))]) C dX7_rule_65 67 rfl (by decide) rfl ?_
                refine g_iload C dX7_rule_67 69 rfl 0 rfl ?_
                refine g_if_ne (X := ¬ 0 = 0) C dX7_rule_69 75 (by decide) 72 rfl (not_congr (nI_eq0 (by omega))) ?_ ?_
                · intro h69
                  exact absurd h69 (by decide)
                · intro h69
                  have h69 : 0 = 0 := Decidable.not_not.mp h69
                  exact (show False from by first | exact Bool.noConfusion (h5.symm.trans v1) | exact Bool.noConfusion (h13.symm.trans v2) | exact Bool.noConfusion (h21.symm.trans v3) | exact Bool.noConfusion (h36.symm.trans (v4 (by omega))) | exact Bool.noConfusion (h57.symm.trans (v5 (by omega))) | (have := hab (by assumption); omega)).elim
              · intro h48
                refine g_aload_n C dX7_rule_51 rfl 52 rfl 0 rfl ?_
                refine g_iload C dX7_rule_52 54 rfl 5 rfl ?_
                refine g_cVi (ws2 := [ob o7 7 [.int (nI n), .int (nI m), .int (nI z), .ref uP, .ref uS, .ref uQ, .ref uA, .ref uB, .int (nI c), .ref uK, .int (nI h), .int (nI ns), .ref uM, .ref uF, .ref uY, .ref uT, .ref uL, .ref uC, .ref uX, .int (oI nf), .ref uI, .ref uR, .ref uW, .ref uH, .ref uG], aN (eY E) uP 30 Pp, aN (eY E) uS 30 Ps, aN (eY E) uQ 30 Pq, aO (eY E) uA 30 Pa, aO (eY E) uB 30 Pb]) (As := [.int (oI b)]) (st := []) (wsc := [ob o7 7 [.int (nI n), .int (nI m), .int (nI z), .ref uP, .ref uS, .ref uQ, .ref uA, .ref uB, .int (nI c), .ref uK, .int (nI h), .int (nI ns), .ref uM, .ref uF, .ref uY, .ref uT, .ref uL, .ref uC, .ref uX, .int (oI nf), .ref uI, .ref uR, .ref uW, .ref uH, .ref uG]]) (wr := [aN (eY E) uP 30 Pp, aN (eY E) uS 30 Ps, aN (eY E) uQ 30 Pq, aO (eY E) uA 30 Pa, aO (eY E) uB 30 Pb]) C (c_X7_isSign (eL E) (eD E) (eY E) o7 n m z uP uS uQ uA uB c uK h ns uM uF uY uT uL uC uX nf uI uR uW uH uG (oI b) (by omega)) 1 gX7_rule_X7_isSign rfl (by decide +kernel) (by decide) ⟨Nat.zero_le _, Nat.zero_le _⟩ rfl 0 rfl rfl rfl (Nat.le_of_ble_eq_true rfl) [0] [1, 2, 3, 4, 5] [5, 0, 1, 2, 3, 4] rfl rfl (by decide) (by decide) rfl (by decide) dX7_rule_54 57 rfl ?_
                refine g_if_eq (X := inR (oI b) m = false) C dX7_rule_57 64 (by decide) 60 rfl (bI_eq0 _) ?_ ?_
                · intro h57
                  refine g_iconst (v := nI 0) C dX7_rule_64 (by decide) 65 rfl ?_
                  refine g_istore (lv' := [(6, .int (nI 0)), (0, .ref o7), (1, .int (nI p)), (2, .int (nI s)), (3, .int (nI q)), (4, .int (oI a)), (5, .int (oI b))]) C dX7_rule_65 67 rfl (by decide) rfl ?_
                  refine g_iload C dX7_rule_67 69 rfl 0 rfl ?_
                  refine g_if_ne (X := ¬ 0 = 0) C dX7_rule_69 75 (by decide) 72 rfl (not_congr (nI_eq0 (by omega))) ?_ ?_
                  · intro h69
                    exact absurd h69 (by decide)
                  · intro h69
                    have h69 : 0 = 0 := Decidable.not_not.mp h69
                    exact (show False from by first | exact Bool.noConfusion (h5.symm.trans v1) | exact Bool.noConfusion (h13.symm.trans v2) | exact Bool.noConfusion (h21.symm.trans v3) | exact Bool.noConfusion (h36.symm.trans (v4 (by omega))) | exact Bool.noConfusion (h57.symm.trans (v5 (by omega))) | (have := hab (by assumption); omega)).elim
                · intro h57
                  have h57 : inR (oI b) m = true := by simpa using h57
                  refine g_iconst (v := nI 1) C dX7_rule_60 (by decide) 61 rfl ?_
                  refine g_goto C dX7_rule_61 65 (by decide) ?_
                  refine g_istore (lv' := [(6, .int (nI 1)), (0, .ref o7), (1, .int (nI p)), (2, .int (nI s)), (3, .int (nI q)), (4, .int (oI a)), (5, .int (oI b))]) C dX7_rule_65 67 rfl (by decide) rfl ?_
                  refine g_iload C dX7_rule_67 69 rfl 0 rfl ?_
                  refine g_if_ne (X := ¬ 1 = 0) C dX7_rule_69 75 (by decide) 72 rfl (not_congr (nI_eq0 (by omega))) ?_ ?_
                  · intro h69
                    refine g_aload_n C dX7_rule_75 rfl 76 rfl 1 rfl ?_
                    refine g_get C iX7 0 rfl rfl 2 (by decide) (C.1.2.2.2.2 (.fieldLink RX7 79 "StackRunsModel" "rules" "I") (List.mem_of_getElem? (i := 1) rfl)) rfl dX7_rule_76 79 rfl ?_
                    refine g_bipush (v := nI 30) C dX7_rule_79 (by decide) 81 rfl ?_
                    refine g_icmp_ne (X := ¬ z = 30) C dX7_rule_81 87 (by decide) 84 rfl (not_congr (nI_eq (by omega) (by omega))) ?_ ?_
                    · intro h81
                      refine g_aload_n C dX7_rule_87 rfl 88 rfl 1 rfl ?_
                      refine g_get C iX7 0 rfl rfl 3 (by decide) (C.1.2.2.2.2 (.fieldLink RX7 16 "StackRunsModel" "ruleP" "[I") (List.mem_of_getElem? (i := 2) rfl)) rfl dX7_rule_88 91 rfl ?_
                      refine g_aload_n C dX7_rule_91 rfl 92 rfl 1 rfl ?_
                      refine g_get C iX7 0 rfl rfl 2 (by decide) (C.1.2.2.2.2 (.fieldLink RX7 79 "StackRunsModel" "rules" "I") (List.mem_of_getElem? (i := 1) rfl)) rfl dX7_rule_92 95 rfl ?_
                      refine g_iload_n C dX7_rule_95 rfl 96 rfl 2 rfl ?_
                      refine g_iast (ws' := [ob o7 7 [.int (nI n), .int (nI m), .int (nI z), .ref uP, .ref uS, .ref uQ, .ref uA, .ref uB, .int (nI c), .ref uK, .int (nI h), .int (nI ns), .ref uM, .ref uF, .ref uY, .ref uT, .ref uL, .ref uC, .ref uX, .int (oI nf), .ref uI, .ref uR, .ref uW, .ref uH, .ref uG], aN (eY E) uP 30 (up Pp z p), aN (eY E) uS 30 Ps, aN (eY E) uQ 30 Pq, aO (eY E) uA 30 Pa, aO (eY E) uB 30 Pb]) (i := z) C 1 rfl (by omega) (by decide) dX7_rule_96 97 rfl (upd_N _ _ _) rfl ?_
                      refine g_aload_n C dX7_rule_97 rfl 98 rfl 1 rfl ?_
                      refine g_get C iX7 0 rfl rfl 4 (by decide) (C.1.2.2.2.2 (.fieldLink RX7 20 "StackRunsModel" "ruleS" "[I") (List.mem_of_getElem? (i := 3) rfl)) rfl dX7_rule_98 101 rfl ?_
                      refine g_aload_n C dX7_rule_101 rfl 102 rfl 1 rfl ?_
                      refine g_get C iX7 0 rfl rfl 2 (by decide) (C.1.2.2.2.2 (.fieldLink RX7 79 "StackRunsModel" "rules" "I") (List.mem_of_getElem? (i := 1) rfl)) rfl dX7_rule_102 105 rfl ?_
                      refine g_iload_n C dX7_rule_105 rfl 106 rfl 3 rfl ?_
                      refine g_iast (ws' := [ob o7 7 [.int (nI n), .int (nI m), .int (nI z), .ref uP, .ref uS, .ref uQ, .ref uA, .ref uB, .int (nI c), .ref uK, .int (nI h), .int (nI ns), .ref uM, .ref uF, .ref uY, .ref uT, .ref uL, .ref uC, .ref uX, .int (oI nf), .ref uI, .ref uR, .ref uW, .ref uH, .ref uG], aN (eY E) uP 30 (up Pp z p), aN (eY E) uS 30 (up Ps z s), aN (eY E) uQ 30 Pq, aO (eY E) uA 30 Pa, aO (eY E) uB 30 Pb]) (i := z) C 2 rfl (by omega) (by decide) dX7_rule_106 107 rfl (upd_N _ _ _) rfl ?_
                      refine g_aload_n C dX7_rule_107 rfl 108 rfl 1 rfl ?_
                      refine g_get C iX7 0 rfl rfl 5 (by decide) (C.1.2.2.2.2 (.fieldLink RX7 23 "StackRunsModel" "ruleQ" "[I") (List.mem_of_getElem? (i := 4) rfl)) rfl dX7_rule_108 111 rfl ?_
                      refine g_aload_n C dX7_rule_111 rfl 112 rfl 1 rfl ?_
                      refine g_get C iX7 0 rfl rfl 2 (by decide) (C.1.2.2.2.2 (.fieldLink RX7 79 "StackRunsModel" "rules" "I") (List.mem_of_getElem? (i := 1) rfl)) rfl dX7_rule_112 115 rfl ?_
                      refine g_iload_n C dX7_rule_115 rfl 116 rfl 4 rfl ?_
                      refine g_iast (ws' := [ob o7 7 [.int (nI n), .int (nI m), .int (nI z), .ref uP, .ref uS, .ref uQ, .ref uA, .ref uB, .int (nI c), .ref uK, .int (nI h), .int (nI ns), .ref uM, .ref uF, .ref uY, .ref uT, .ref uL, .ref uC, .ref uX, .int (oI nf), .ref uI, .ref uR, .ref uW, .ref uH, .ref uG], aN (eY E) uP 30 (up Pp z p), aN (eY E) uS 30 (up Ps z s), aN (eY E) uQ 30 (up Pq z q), aO (eY E) uA 30 Pa, aO (eY E) uB 30 Pb]) (i := z) C 3 rfl (by omega) (by decide) dX7_rule_116 117 rfl (upd_N _ _ _) rfl ?_
                      refine g_aload_n C dX7_rule_117 rfl 118 rfl 1 rfl ?_
                      refine g_get C iX7 0 rfl rfl 6 (by decide) (C.1.2.2.2.2 (.fieldLink RX7 26 "StackRunsModel" "ruleA" "[I") (List.mem_of_getElem? (i := 5) rfl)) rfl dX7_rule_118 121 rfl ?_
                      refine g_aload_n C dX7_rule_121 rfl 122 rfl 1 rfl ?_
                      refine g_get C iX7 0 rfl rfl 2 (by decide) (C.1.2.2.2.2 (.fieldLink RX7 79 "StackRunsModel" "rules" "I") (List.mem_of_getElem? (i := 1) rfl)) rfl dX7_rule_122 125 rfl ?_
                      refine g_iload C dX7_rule_125 127 rfl 5 rfl ?_
                      refine g_iast (ws' := [ob o7 7 [.int (nI n), .int (nI m), .int (nI z), .ref uP, .ref uS, .ref uQ, .ref uA, .ref uB, .int (nI c), .ref uK, .int (nI h), .int (nI ns), .ref uM, .ref uF, .ref uY, .ref uT, .ref uL, .ref uC, .ref uX, .int (oI nf), .ref uI, .ref uR, .ref uW, .ref uH, .ref uG], aN (eY E) uP 30 (up Pp z p), aN (eY E) uS 30 (up Ps z s), aN (eY E) uQ 30 (up Pq z q), aO (eY E) uA 30 (up Pa z a), aO (eY E) uB 30 Pb]) (i := z) C 4 rfl (by omega) (by decide) dX7_rule_127 128 rfl (upd_O _ _ _) rfl ?_
                      refine g_aload_n C dX7_rule_128 rfl 129 rfl 1 rfl ?_
                      refine g_get C iX7 0 rfl rfl 7 (by decide) (C.1.2.2.2.2 (.fieldLink RX7 29 "StackRunsModel" "ruleB" "[I") (List.mem_of_getElem? (i := 6) rfl)) rfl dX7_rule_129 132 rfl ?_
                      refine g_aload_n C dX7_rule_132 rfl 133 rfl 1 rfl ?_
                      refine g_get C iX7 0 rfl rfl 2 (by decide) (C.1.2.2.2.2 (.fieldLink RX7 79 "StackRunsModel" "rules" "I") (List.mem_of_getElem? (i := 1) rfl)) rfl dX7_rule_133 136 rfl ?_
                      refine g_iload C dX7_rule_136 138 rfl 6 rfl ?_
                      refine g_iast (ws' := [ob o7 7 [.int (nI n), .int (nI m), .int (nI z), .ref uP, .ref uS, .ref uQ, .ref uA, .ref uB, .int (nI c), .ref uK, .int (nI h), .int (nI ns), .ref uM, .ref uF, .ref uY, .ref uT, .ref uL, .ref uC, .ref uX, .int (oI nf), .ref uI, .ref uR, .ref uW, .ref uH, .ref uG], aN (eY E) uP 30 (up Pp z p), aN (eY E) uS 30 (up Ps z s), aN (eY E) uQ 30 (up Pq z q), aO (eY E) uA 30 (up Pa z a), aO (eY E) uB 30 (up Pb z b)]) (i := z) C 5 rfl (by omega) (by decide) dX7_rule_138 139 rfl (upd_O _ _ _) rfl ?_
                      refine g_aload_n C dX7_rule_139 rfl 140 rfl 1 rfl ?_
                      refine g_dup C dX7_rule_140 rfl 141 rfl ?_
                      refine g_get C iX7 0 rfl rfl 2 (by decide) (C.1.2.2.2.2 (.fieldLink RX7 79 "StackRunsModel" "rules" "I") (List.mem_of_getElem? (i := 1) rfl)) rfl dX7_rule_141 144 rfl ?_
                      refine g_iconst (v := nI 1) C dX7_rule_144 (by decide) 145 rfl ?_
                      refine g_iadd (z := nI (z + 1)) C dX7_rule_145 146 rfl (nI_add _ _) ?_
                      refine g_put (ws' := [ob o7 7 [.int (nI n), .int (nI m), .int (nI (z + 1)), .ref uP, .ref uS, .ref uQ, .ref uA, .ref uB, .int (nI c), .ref uK, .int (nI h), .int (nI ns), .ref uM, .ref uF, .ref uY, .ref uT, .ref uL, .ref uC, .ref uX, .int (oI nf), .ref uI, .ref uR, .ref uW, .ref uH, .ref uG], aN (eY E) uP 30 (up Pp z p), aN (eY E) uS 30 (up Ps z s), aN (eY E) uQ 30 (up Pq z q), aO (eY E) uA 30 (up Pa z a), aO (eY E) uB 30 (up Pb z b)]) (ty := .int) C iX7 tyX7_ok nmX7 0 rfl rfl 2 (by decide) (C.1.2.2.2.2 (.fieldLink RX7 79 "StackRunsModel" "rules" "I") (List.mem_of_getElem? (i := 1) rfl)) rfl (by decide +kernel) rfl rfl (Nat.le_of_ble_eq_true rfl) dX7_rule_146 149 rfl rfl ?_
                      refine g_aload_n C dX7_rule_149 rfl 150 rfl 1 rfl ?_
                      refine g_get C iX7 0 rfl rfl 2 (by decide) (C.1.2.2.2.2 (.fieldLink RX7 79 "StackRunsModel" "rules" "I") (List.mem_of_getElem? (i := 1) rfl)) rfl dX7_rule_150 153 rfl ?_
                      refine g_iconst (v := nI 1) C dX7_rule_153 (by decide) 154 rfl ?_
                      refine g_isub (z := nI ((z + 1) - 1)) C dX7_rule_154 155 rfl (pk_sub (by omega)) ?_
                      have e_4 : ((z + 1) - 1) = z := by first | with_reducible rfl | (omega)
                      refine go_eq rfl (st' := [.int (nI z)]) (ws' := [ob o7 7 [.int (nI n), .int (nI m), .int (nI (z + 1)), .ref uP, .ref uS, .ref uQ, .ref uA, .ref uB, .int (nI c), .ref uK, .int (nI h), .int (nI ns), .ref uM, .ref uF, .ref uY, .ref uT, .ref uL, .ref uC, .ref uX, .int (oI nf), .ref uI, .ref uR, .ref uW, .ref uH, .ref uG], aN (eY E) uP 30 (up Pp z p), aN (eY E) uS 30 (up Ps z s), aN (eY E) uQ 30 (up Pq z q), aO (eY E) uA 30 (up Pa z a), aO (eY E) uB 30 (up Pb z b)]) (by first | with_reducible rfl | (simp only [e_4, oI_s, oI_0, bI_1, bI_0, and_self, reduceIte]; done)) (by first | with_reducible rfl | (simp only [e_4, oI_s, oI_0, bI_1, bI_0, and_self, reduceIte]; done)) ?_
                      exact hret _ _ dX7_rule_155
                    · intro h81
                      have h81 : z = 30 := Decidable.not_not.mp h81
                      exact (show False from by omega).elim
                  · intro h69
                    have h69 : 1 = 0 := Decidable.not_not.mp h69
                    exact absurd h69 (by decide)
set_option maxHeartbeats 4000000 in
set_option maxRecDepth 100000 in
theorem c_X7_unrule_not (l : Launch) (D : va_G) (cy : Nat → ClassId) (o7 : Nat) (n : Nat) (m : Nat) (z : Nat) (uP : Nat) (uS : Nat) (uQ : Nat) (uA : Nat) (uB : Nat) (c : Nat) (uK : Nat) (h : Nat) (ns : Nat) (uM : Nat) (uF : Nat) (uY : Nat) (uT : Nat) (uL : Nat) (uC : Nat) (uX : Nat) (nf : Nat) (uI : Nat) (uR : Nat) (uW : Nat) (uH : Nat) (uG : Nat) (hz : z = 0) : CoI l yX7_unrule wsX7_unrule 0 0 D cy [ob o7 7 [.int (nI n), .int (nI m), .int (nI z), .ref uP, .ref uS, .ref uQ, .ref uA, .ref uB, .int (nI c), .ref uK, .int (nI h), .int (nI ns), .ref uM, .ref uF, .ref uY, .ref uT, .ref uL, .ref uC, .ref uX, .int (oI nf), .ref uI, .ref uR, .ref uW, .ref uH, .ref uG]] [.ref o7] [ob o7 7 [.int (nI n), .int (nI m), .int (nI z), .ref uP, .ref uS, .ref uQ, .ref uA, .ref uB, .int (nI c), .ref uK, .int (nI h), .int (nI ns), .ref uM, .ref uF, .ref uY, .ref uT, .ref uL, .ref uC, .ref uX, .int (oI nf), .ref uI, .ref uR, .ref uW, .ref uH, .ref uG]] (-3) := by
  refine met_i (cc := cX7_unrule) (maxL := 1) (own := RX7) (lv := [(0, .ref o7)]) (by decide) rfl rfl rfl (Nat.le_of_ble_eq_true rfl) (fun E e1 e2 e3 C hret => ?_)
  subst e1; subst e2; subst e3
  have iX7 : ∀ w ∈ wsX70, w ∈ wsX7_unrule := fun _ h => List.mem_cons_of_mem _ (List.mem_append_right _ h)
  refine g_aload_n C dX7_unrule_0 rfl 1 rfl 0 rfl ?_
  refine g_get C iX7 0 rfl rfl 2 (by decide) (C.1.2.2.2.2 (.fieldLink RX7 79 "StackRunsModel" "rules" "I") (List.mem_of_getElem? (i := 1) rfl)) rfl dX7_unrule_1 4 rfl ?_
  refine g_if_ne (X := ¬ z = 0) C dX7_unrule_4 10 (by decide) 7 rfl (not_congr (nI_eq0 (by omega))) ?_ ?_
  · intro h4
    exact (show False from by omega).elim
  · intro h4
    have h4 : z = 0 := Decidable.not_not.mp h4
    refine g_bipush (v := (-3)) C dX7_unrule_7 (by decide) 9 rfl ?_
    exact hret _ _ dX7_unrule_9
set_option maxHeartbeats 4000000 in
set_option maxRecDepth 100000 in
theorem c_X7_unrule_ok (l : Launch) (D : va_G) (cy : Nat → ClassId) (o7 : Nat) (n : Nat) (m : Nat) (z : Nat) (uP : Nat) (uS : Nat) (uQ : Nat) (uA : Nat) (uB : Nat) (c : Nat) (uK : Nat) (h : Nat) (ns : Nat) (uM : Nat) (uF : Nat) (uY : Nat) (uT : Nat) (uL : Nat) (uC : Nat) (uX : Nat) (nf : Nat) (uI : Nat) (uR : Nat) (uW : Nat) (uH : Nat) (uG : Nat) (hz : 0 < z ∧ z ≤ 30) : CoI l yX7_unrule wsX7_unrule 0 0 D cy [ob o7 7 [.int (nI n), .int (nI m), .int (nI z), .ref uP, .ref uS, .ref uQ, .ref uA, .ref uB, .int (nI c), .ref uK, .int (nI h), .int (nI ns), .ref uM, .ref uF, .ref uY, .ref uT, .ref uL, .ref uC, .ref uX, .int (oI nf), .ref uI, .ref uR, .ref uW, .ref uH, .ref uG]] [.ref o7] [ob o7 7 [.int (nI n), .int (nI m), .int (nI (z - 1)), .ref uP, .ref uS, .ref uQ, .ref uA, .ref uB, .int (nI c), .ref uK, .int (nI h), .int (nI ns), .ref uM, .ref uF, .ref uY, .ref uT, .ref uL, .ref uC, .ref uX, .int (oI nf), .ref uI, .ref uR, .ref uW, .ref uH, .ref uG]] (nI (z - 1)) := by
  refine met_i (cc := cX7_unrule) (maxL := 1) (own := RX7) (lv := [(0, .ref o7)]) (by decide) rfl rfl rfl (Nat.le_of_ble_eq_true rfl) (fun E e1 e2 e3 C hret => ?_)
  subst e1; subst e2; subst e3
  have iX7 : ∀ w ∈ wsX70, w ∈ wsX7_unrule := fun _ h => List.mem_cons_of_mem _ (List.mem_append_right _ h)
  refine g_aload_n C dX7_unrule_0 rfl 1 rfl 0 rfl ?_
  refine g_get C iX7 0 rfl rfl 2 (by decide) (C.1.2.2.2.2 (.fieldLink RX7 79 "StackRunsModel" "rules" "I") (List.mem_of_getElem? (i := 1) rfl)) rfl dX7_unrule_1 4 rfl ?_
  refine g_if_ne (X := ¬ z = 0) C dX7_unrule_4 10 (by decide) 7 rfl (not_congr (nI_eq0 (by omega))) ?_ ?_
  · intro h4
    refine g_aload_n C dX7_unrule_10 rfl 11 rfl 0 rfl ?_
    refine g_dup C dX7_unrule_11 rfl 12 rfl ?_
    refine g_get C iX7 0 rfl rfl 2 (by decide) (C.1.2.2.2.2 (.fieldLink RX7 79 "StackRunsModel" "rules" "I") (List.mem_of_getElem? (i := 1) rfl)) rfl dX7_unrule_12 15 rfl ?_
    refine g_iconst (v := nI 1) C dX7_unrule_15 (by decide) 16 rfl ?_
    refine g_isub (z := nI (z - 1)) C dX7_unrule_16 17 rfl (pk_sub (by omega)) ?_
    refine g_put (ws' := [ob o7 7 [.int (nI n), .int (nI m), .int (nI (z - 1)), .ref uP, .ref uS, .ref uQ, .ref uA, .ref uB, .int (nI c), .ref uK, .int (nI h), .int (nI ns), .ref uM, .ref uF, .ref uY, .ref uT, .ref uL, .ref uC, .ref uX, .int (oI nf), .ref uI, .ref uR, .ref uW, .ref uH, .ref uG]]) (ty := .int) C iX7 tyX7_ok nmX7 0 rfl rfl 2 (by decide) (C.1.2.2.2.2 (.fieldLink RX7 79 "StackRunsModel" "rules" "I") (List.mem_of_getElem? (i := 1) rfl)) rfl (by decide +kernel) rfl rfl (Nat.le_of_ble_eq_true rfl) dX7_unrule_17 20 rfl rfl ?_
    refine g_aload_n C dX7_unrule_20 rfl 21 rfl 0 rfl ?_
    refine g_get C iX7 0 rfl rfl 2 (by decide) (C.1.2.2.2.2 (.fieldLink RX7 79 "StackRunsModel" "rules" "I") (List.mem_of_getElem? (i := 1) rfl)) rfl dX7_unrule_21 24 rfl ?_
    exact hret _ _ dX7_unrule_24
  · intro h4
    have h4 : z = 0 := Decidable.not_not.mp h4
    exact (show False from by omega).elim
set_option maxHeartbeats 4000000 in
set_option maxRecDepth 100000 in
theorem c_X7_stand_bad (l : Launch) (D : va_G) (cy : Nat → ClassId) (o7 : Nat) (n : Nat) (m : Nat) (z : Nat) (uP : Nat) (uS : Nat) (uQ : Nat) (uA : Nat) (uB : Nat) (c : Nat) (uK : Nat) (h : Nat) (ns : Nat) (uM : Nat) (uF : Nat) (uY : Nat) (uT : Nat) (uL : Nat) (uC : Nat) (uX : Nat) (nf : Nat) (uI : Nat) (uR : Nat) (uW : Nat) (uH : Nat) (uG : Nat) (p : Int32) (hn : n ≤ 5) (hb : inR p n = false) : CoI l yX7_stand wsX7_stand 2 46 D cy [ob o7 7 [.int (nI n), .int (nI m), .int (nI z), .ref uP, .ref uS, .ref uQ, .ref uA, .ref uB, .int (nI c), .ref uK, .int (nI h), .int (nI ns), .ref uM, .ref uF, .ref uY, .ref uT, .ref uL, .ref uC, .ref uX, .int (oI nf), .ref uI, .ref uR, .ref uW, .ref uH, .ref uG]] [.ref o7, .int p] [ob o7 7 [.int (nI n), .int (nI m), .int (nI z), .ref uP, .ref uS, .ref uQ, .ref uA, .ref uB, .int (nI c), .ref uK, .int (nI h), .int (nI ns), .ref uM, .ref uF, .ref uY, .ref uT, .ref uL, .ref uC, .ref uX, .int (oI nf), .ref uI, .ref uR, .ref uW, .ref uH, .ref uG]] (-2) := by
  refine met_i (cc := cX7_stand) (maxL := 3) (own := RX7) (lv := [(0, .ref o7), (1, .int p)]) (by decide) rfl rfl rfl (Nat.le_of_ble_eq_true rfl) (fun E e1 e2 e3 C hret => ?_)
  subst e1; subst e2; subst e3
  refine g_aload_n C dX7_stand_0 rfl 1 rfl 0 rfl ?_
  refine g_iload_n C dX7_stand_1 rfl 2 rfl 1 rfl ?_
  refine g_cVi (ws2 := [ob o7 7 [.int (nI n), .int (nI m), .int (nI z), .ref uP, .ref uS, .ref uQ, .ref uA, .ref uB, .int (nI c), .ref uK, .int (nI h), .int (nI ns), .ref uM, .ref uF, .ref uY, .ref uT, .ref uL, .ref uC, .ref uX, .int (oI nf), .ref uI, .ref uR, .ref uW, .ref uH, .ref uG]]) (As := [.int p]) (st := []) (wsc := [ob o7 7 [.int (nI n), .int (nI m), .int (nI z), .ref uP, .ref uS, .ref uQ, .ref uA, .ref uB, .int (nI c), .ref uK, .int (nI h), .int (nI ns), .ref uM, .ref uF, .ref uY, .ref uT, .ref uL, .ref uC, .ref uX, .int (oI nf), .ref uI, .ref uR, .ref uW, .ref uH, .ref uG]]) (wr := []) C (c_X7_isControl (eL E) (eD E) (eY E) o7 n m z uP uS uQ uA uB c uK h ns uM uF uY uT uL uC uX nf uI uR uW uH uG p (by omega)) 1 gX7_stand_X7_isControl rfl (by decide +kernel) (by decide) ⟨Nat.zero_le _, Nat.zero_le _⟩ rfl 0 rfl rfl rfl (Nat.le_of_ble_eq_true rfl) [0] [] [0] rfl rfl (by decide) (by decide) rfl (by decide) dX7_stand_2 5 rfl ?_
  refine g_if_ne (X := inR p n = true) C dX7_stand_5 11 (by decide) 8 rfl (bI_ne0 _) ?_ ?_
  · intro h5
    exact (show False from by exact Bool.noConfusion (hb.symm.trans h5)).elim
  · intro h5
    have h5 : inR p n = false := by simpa using h5
    refine g_bipush (v := (-2)) C dX7_stand_8 (by decide) 10 rfl ?_
    exact hret _ _ dX7_stand_10
set_option maxHeartbeats 4000000 in
set_option maxRecDepth 100000 in
theorem c_X7_stand_ok (l : Launch) (D : va_G) (cy : Nat → ClassId) (o7 : Nat) (n : Nat) (m : Nat) (z : Nat) (uP : Nat) (uS : Nat) (uQ : Nat) (uA : Nat) (uB : Nat) (c : Nat) (uK : Nat) (h : Nat) (ns : Nat) (uM : Nat) (uF : Nat) (uY : Nat) (uT : Nat) (uL : Nat) (uC : Nat) (uX : Nat) (nf : Nat) (uI : Nat) (uR : Nat) (uW : Nat) (uH : Nat) (uG : Nat) (p : Nat) (hn : n ≤ 5) (hp : p < n) : CoI l yX7_stand wsX7_stand 2 46 D cy [ob o7 7 [.int (nI n), .int (nI m), .int (nI z), .ref uP, .ref uS, .ref uQ, .ref uA, .ref uB, .int (nI c), .ref uK, .int (nI h), .int (nI ns), .ref uM, .ref uF, .ref uY, .ref uT, .ref uL, .ref uC, .ref uX, .int (oI nf), .ref uI, .ref uR, .ref uW, .ref uH, .ref uG]] [.ref o7, .int (nI p)] [ob o7 7 [.int (nI n), .int (nI m), .int (nI z), .ref uP, .ref uS, .ref uQ, .ref uA, .ref uB, .int (nI p), .ref uK, .int (nI 0), .int (nI ns), .ref uM, .ref uF, .ref uY, .ref uT, .ref uL, .ref uC, .ref uX, .int (oI nf), .ref uI, .ref uR, .ref uW, .ref uH, .ref uG]] (nI h) := by
  refine met_i (cc := cX7_stand) (maxL := 3) (own := RX7) (lv := [(0, .ref o7), (1, .int (nI p))]) (by decide) rfl rfl rfl (Nat.le_of_ble_eq_true rfl) (fun E e1 e2 e3 C hret => ?_)
  subst e1; subst e2; subst e3
  have iX7 : ∀ w ∈ wsX70, w ∈ wsX7_stand := fun _ h => List.mem_cons_of_mem _ (List.mem_append_right _ h)
  have v1 : inR (nI p) n = true := inR_yes hp (by omega)
  refine g_aload_n C dX7_stand_0 rfl 1 rfl 0 rfl ?_
  refine g_iload_n C dX7_stand_1 rfl 2 rfl 1 rfl ?_
  refine g_cVi (ws2 := [ob o7 7 [.int (nI n), .int (nI m), .int (nI z), .ref uP, .ref uS, .ref uQ, .ref uA, .ref uB, .int (nI c), .ref uK, .int (nI h), .int (nI ns), .ref uM, .ref uF, .ref uY, .ref uT, .ref uL, .ref uC, .ref uX, .int (oI nf), .ref uI, .ref uR, .ref uW, .ref uH, .ref uG]]) (As := [.int (nI p)]) (st := []) (wsc := [ob o7 7 [.int (nI n), .int (nI m), .int (nI z), .ref uP, .ref uS, .ref uQ, .ref uA, .ref uB, .int (nI c), .ref uK, .int (nI h), .int (nI ns), .ref uM, .ref uF, .ref uY, .ref uT, .ref uL, .ref uC, .ref uX, .int (oI nf), .ref uI, .ref uR, .ref uW, .ref uH, .ref uG]]) (wr := []) C (c_X7_isControl (eL E) (eD E) (eY E) o7 n m z uP uS uQ uA uB c uK h ns uM uF uY uT uL uC uX nf uI uR uW uH uG (nI p) (by omega)) 1 gX7_stand_X7_isControl rfl (by decide +kernel) (by decide) ⟨Nat.zero_le _, Nat.zero_le _⟩ rfl 0 rfl rfl rfl (Nat.le_of_ble_eq_true rfl) [0] [] [0] rfl rfl (by decide) (by decide) rfl (by decide) dX7_stand_2 5 rfl ?_
  refine g_if_ne (X := inR (nI p) n = true) C dX7_stand_5 11 (by decide) 8 rfl (bI_ne0 _) ?_ ?_
  · intro h5
    refine g_aload_n C dX7_stand_11 rfl 12 rfl 0 rfl ?_
    refine g_get C iX7 0 rfl rfl 10 (by decide) (C.1.2.2.2.2 (.fieldLink RX7 85 "StackRunsModel" "height" "I") (List.mem_of_getElem? (i := 1) rfl)) rfl dX7_stand_12 15 rfl ?_
    refine g_istore_n (lv' := [(2, .int (nI h)), (0, .ref o7), (1, .int (nI p))]) C dX7_stand_15 rfl 16 rfl (by decide) rfl ?_
    refine g_aload_n C dX7_stand_16 rfl 17 rfl 1 rfl ?_
    refine g_iload_n C dX7_stand_17 rfl 18 rfl 2 rfl ?_
    refine g_put (ws' := [ob o7 7 [.int (nI n), .int (nI m), .int (nI z), .ref uP, .ref uS, .ref uQ, .ref uA, .ref uB, .int (nI p), .ref uK, .int (nI h), .int (nI ns), .ref uM, .ref uF, .ref uY, .ref uT, .ref uL, .ref uC, .ref uX, .int (oI nf), .ref uI, .ref uR, .ref uW, .ref uH, .ref uG]]) (ty := .int) C iX7 tyX7_ok nmX7 0 rfl rfl 8 (by decide) (C.1.2.2.2.2 (.fieldLink RX7 82 "StackRunsModel" "control" "I") (List.mem_of_getElem? (i := 2) rfl)) rfl (by decide +kernel) rfl rfl (Nat.le_of_ble_eq_true rfl) dX7_stand_18 21 rfl rfl ?_
    refine g_aload_n C dX7_stand_21 rfl 22 rfl 1 rfl ?_
    refine g_iconst (v := nI 0) C dX7_stand_22 (by decide) 23 rfl ?_
    refine g_put (ws' := [ob o7 7 [.int (nI n), .int (nI m), .int (nI z), .ref uP, .ref uS, .ref uQ, .ref uA, .ref uB, .int (nI p), .ref uK, .int (nI 0), .int (nI ns), .ref uM, .ref uF, .ref uY, .ref uT, .ref uL, .ref uC, .ref uX, .int (oI nf), .ref uI, .ref uR, .ref uW, .ref uH, .ref uG]]) (ty := .int) C iX7 tyX7_ok nmX7 0 rfl rfl 10 (by decide) (C.1.2.2.2.2 (.fieldLink RX7 85 "StackRunsModel" "height" "I") (List.mem_of_getElem? (i := 1) rfl)) rfl (by decide +kernel) rfl rfl (Nat.le_of_ble_eq_true rfl) dX7_stand_23 26 rfl rfl ?_
    refine g_iload_n C dX7_stand_26 rfl 27 rfl 0 rfl ?_
    exact hret _ _ dX7_stand_27
  · intro h5
    have h5 : inR (nI p) n = false := by simpa using h5
    exact (show False from by exact Bool.noConfusion (h5.symm.trans v1)).elim
set_option maxHeartbeats 4000000 in
set_option maxRecDepth 100000 in
theorem c_X7_push_bad (l : Launch) (D : va_G) (cy : Nat → ClassId) (o7 : Nat) (n : Nat) (m : Nat) (z : Nat) (uP : Nat) (uS : Nat) (uQ : Nat) (uA : Nat) (uB : Nat) (c : Nat) (uK : Nat) (h : Nat) (ns : Nat) (uM : Nat) (uF : Nat) (uY : Nat) (uT : Nat) (uL : Nat) (uC : Nat) (uX : Nat) (nf : Nat) (uI : Nat) (uR : Nat) (uW : Nat) (uH : Nat) (uG : Nat) (Sg : Nat → Nat) (s : Int32) (hm : m ≤ 5) (hb : inR s m = false) : CoI l yX7_push wsX7_push 2 46 D cy [ob o7 7 [.int (nI n), .int (nI m), .int (nI z), .ref uP, .ref uS, .ref uQ, .ref uA, .ref uB, .int (nI c), .ref uK, .int (nI h), .int (nI ns), .ref uM, .ref uF, .ref uY, .ref uT, .ref uL, .ref uC, .ref uX, .int (oI nf), .ref uI, .ref uR, .ref uW, .ref uH, .ref uG], aN cy uK 60 Sg] [.ref o7, .int s] [ob o7 7 [.int (nI n), .int (nI m), .int (nI z), .ref uP, .ref uS, .ref uQ, .ref uA, .ref uB, .int (nI c), .ref uK, .int (nI h), .int (nI ns), .ref uM, .ref uF, .ref uY, .ref uT, .ref uL, .ref uC, .ref uX, .int (oI nf), .ref uI, .ref uR, .ref uW, .ref uH, .ref uG], aN cy uK 60 Sg] (-2) := by
  refine met_i (cc := cX7_push) (maxL := 2) (own := RX7) (lv := [(0, .ref o7), (1, .int s)]) (by decide) rfl rfl rfl (Nat.le_of_ble_eq_true rfl) (fun E e1 e2 e3 C hret => ?_)
  subst e1; subst e2; subst e3
  refine g_aload_n C dX7_push_0 rfl 1 rfl 0 rfl ?_
  refine g_iload_n C dX7_push_1 rfl 2 rfl 1 rfl ?_
  refine g_cVi (ws2 := [ob o7 7 [.int (nI n), .int (nI m), .int (nI z), .ref uP, .ref uS, .ref uQ, .ref uA, .ref uB, .int (nI c), .ref uK, .int (nI h), .int (nI ns), .ref uM, .ref uF, .ref uY, .ref uT, .ref uL, .ref uC, .ref uX, .int (oI nf), .ref uI, .ref uR, .ref uW, .ref uH, .ref uG], aN (eY E) uK 60 Sg]) (As := [.int s]) (st := []) (wsc := [ob o7 7 [.int (nI n), .int (nI m), .int (nI z), .ref uP, .ref uS, .ref uQ, .ref uA, .ref uB, .int (nI c), .ref uK, .int (nI h), .int (nI ns), .ref uM, .ref uF, .ref uY, .ref uT, .ref uL, .ref uC, .ref uX, .int (oI nf), .ref uI, .ref uR, .ref uW, .ref uH, .ref uG]]) (wr := [aN (eY E) uK 60 Sg]) C (c_X7_isSign (eL E) (eD E) (eY E) o7 n m z uP uS uQ uA uB c uK h ns uM uF uY uT uL uC uX nf uI uR uW uH uG s (by omega)) 1 gX7_push_X7_isSign rfl (by decide +kernel) (by decide) ⟨Nat.zero_le _, Nat.zero_le _⟩ rfl 0 rfl rfl rfl (Nat.le_of_ble_eq_true rfl) [0] [1] [1, 0] rfl rfl (by decide) (by decide) rfl (by decide) dX7_push_2 5 rfl ?_
  refine g_if_ne (X := inR s m = true) C dX7_push_5 11 (by decide) 8 rfl (bI_ne0 _) ?_ ?_
  · intro h5
    exact (show False from by exact Bool.noConfusion (hb.symm.trans h5)).elim
  · intro h5
    have h5 : inR s m = false := by simpa using h5
    refine g_bipush (v := (-2)) C dX7_push_8 (by decide) 10 rfl ?_
    exact hret _ _ dX7_push_10
set_option maxHeartbeats 4000000 in
set_option maxRecDepth 100000 in
theorem c_X7_push_full (l : Launch) (D : va_G) (cy : Nat → ClassId) (o7 : Nat) (n : Nat) (m : Nat) (z : Nat) (uP : Nat) (uS : Nat) (uQ : Nat) (uA : Nat) (uB : Nat) (c : Nat) (uK : Nat) (h : Nat) (ns : Nat) (uM : Nat) (uF : Nat) (uY : Nat) (uT : Nat) (uL : Nat) (uC : Nat) (uX : Nat) (nf : Nat) (uI : Nat) (uR : Nat) (uW : Nat) (uH : Nat) (uG : Nat) (Sg : Nat → Nat) (s : Nat) (hm : m ≤ 5) (hs : s < m) (hh : h = 60) : CoI l yX7_push wsX7_push 2 46 D cy [ob o7 7 [.int (nI n), .int (nI m), .int (nI z), .ref uP, .ref uS, .ref uQ, .ref uA, .ref uB, .int (nI c), .ref uK, .int (nI h), .int (nI ns), .ref uM, .ref uF, .ref uY, .ref uT, .ref uL, .ref uC, .ref uX, .int (oI nf), .ref uI, .ref uR, .ref uW, .ref uH, .ref uG], aN cy uK 60 Sg] [.ref o7, .int (nI s)] [ob o7 7 [.int (nI n), .int (nI m), .int (nI z), .ref uP, .ref uS, .ref uQ, .ref uA, .ref uB, .int (nI c), .ref uK, .int (nI h), .int (nI ns), .ref uM, .ref uF, .ref uY, .ref uT, .ref uL, .ref uC, .ref uX, .int (oI nf), .ref uI, .ref uR, .ref uW, .ref uH, .ref uG], aN cy uK 60 Sg] (-4) := by
  refine met_i (cc := cX7_push) (maxL := 2) (own := RX7) (lv := [(0, .ref o7), (1, .int (nI s))]) (by decide) rfl rfl rfl (Nat.le_of_ble_eq_true rfl) (fun E e1 e2 e3 C hret => ?_)
  subst e1; subst e2; subst e3
  have iX7 : ∀ w ∈ wsX70, w ∈ wsX7_push := fun _ h => List.mem_cons_of_mem _ (List.mem_append_right _ h)
  have v1 : inR (nI s) m = true := inR_yes hs (by omega)
  refine g_aload_n C dX7_push_0 rfl 1 rfl 0 rfl ?_
  refine g_iload_n C dX7_push_1 rfl 2 rfl 1 rfl ?_
  refine g_cVi (ws2 := [ob o7 7 [.int (nI n), .int (nI m), .int (nI z), .ref uP, .ref uS, .ref uQ, .ref uA, .ref uB, .int (nI c), .ref uK, .int (nI h), .int (nI ns), .ref uM, .ref uF, .ref uY, .ref uT, .ref uL, .ref uC, .ref uX, .int (oI nf), .ref uI, .ref uR, .ref uW, .ref uH, .ref uG], aN (eY E) uK 60 Sg]) (As := [.int (nI s)]) (st := []) (wsc := [ob o7 7 [.int (nI n), .int (nI m), .int (nI z), .ref uP, .ref uS, .ref uQ, .ref uA, .ref uB, .int (nI c), .ref uK, .int (nI h), .int (nI ns), .ref uM, .ref uF, .ref uY, .ref uT, .ref uL, .ref uC, .ref uX, .int (oI nf), .ref uI, .ref uR, .ref uW, .ref uH, .ref uG]]) (wr := [aN (eY E) uK 60 Sg]) C (c_X7_isSign (eL E) (eD E) (eY E) o7 n m z uP uS uQ uA uB c uK h ns uM uF uY uT uL uC uX nf uI uR uW uH uG (nI s) (by omega)) 1 gX7_push_X7_isSign rfl (by decide +kernel) (by decide) ⟨Nat.zero_le _, Nat.zero_le _⟩ rfl 0 rfl rfl rfl (Nat.le_of_ble_eq_true rfl) [0] [1] [1, 0] rfl rfl (by decide) (by decide) rfl (by decide) dX7_push_2 5 rfl ?_
  refine g_if_ne (X := inR (nI s) m = true) C dX7_push_5 11 (by decide) 8 rfl (bI_ne0 _) ?_ ?_
  · intro h5
    refine g_aload_n C dX7_push_11 rfl 12 rfl 0 rfl ?_
    refine g_get C iX7 0 rfl rfl 10 (by decide) (C.1.2.2.2.2 (.fieldLink RX7 85 "StackRunsModel" "height" "I") (List.mem_of_getElem? (i := 1) rfl)) rfl dX7_push_12 15 rfl ?_
    refine g_bipush (v := nI 60) C dX7_push_15 (by decide) 17 rfl ?_
    refine g_icmp_ne (X := ¬ h = 60) C dX7_push_17 23 (by decide) 20 rfl (not_congr (nI_eq (by omega) (by omega))) ?_ ?_
    · intro h17
      exact (show False from by omega).elim
    · intro h17
      have h17 : h = 60 := Decidable.not_not.mp h17
      refine g_bipush (v := (-4)) C dX7_push_20 (by decide) 22 rfl ?_
      exact hret _ _ dX7_push_22
  · intro h5
    have h5 : inR (nI s) m = false := by simpa using h5
    exact (show False from by exact Bool.noConfusion (h5.symm.trans v1)).elim
set_option maxHeartbeats 4000000 in
set_option maxRecDepth 100000 in
theorem c_X7_push_ok (l : Launch) (D : va_G) (cy : Nat → ClassId) (o7 : Nat) (n : Nat) (m : Nat) (z : Nat) (uP : Nat) (uS : Nat) (uQ : Nat) (uA : Nat) (uB : Nat) (c : Nat) (uK : Nat) (h : Nat) (ns : Nat) (uM : Nat) (uF : Nat) (uY : Nat) (uT : Nat) (uL : Nat) (uC : Nat) (uX : Nat) (nf : Nat) (uI : Nat) (uR : Nat) (uW : Nat) (uH : Nat) (uG : Nat) (Sg : Nat → Nat) (s : Nat) (hm : m ≤ 5) (hs : s < m) (hh : h < 60) : CoI l yX7_push wsX7_push 2 46 D cy [ob o7 7 [.int (nI n), .int (nI m), .int (nI z), .ref uP, .ref uS, .ref uQ, .ref uA, .ref uB, .int (nI c), .ref uK, .int (nI h), .int (nI ns), .ref uM, .ref uF, .ref uY, .ref uT, .ref uL, .ref uC, .ref uX, .int (oI nf), .ref uI, .ref uR, .ref uW, .ref uH, .ref uG], aN cy uK 60 Sg] [.ref o7, .int (nI s)] [ob o7 7 [.int (nI n), .int (nI m), .int (nI z), .ref uP, .ref uS, .ref uQ, .ref uA, .ref uB, .int (nI c), .ref uK, .int (nI (h + 1)), .int (nI ns), .ref uM, .ref uF, .ref uY, .ref uT, .ref uL, .ref uC, .ref uX, .int (oI nf), .ref uI, .ref uR, .ref uW, .ref uH, .ref uG], aN cy uK 60 (up Sg h s)] (nI (h + 1)) := by
  refine met_i (cc := cX7_push) (maxL := 2) (own := RX7) (lv := [(0, .ref o7), (1, .int (nI s))]) (by decide) rfl rfl rfl (Nat.le_of_ble_eq_true rfl) (fun E e1 e2 e3 C hret => ?_)
  subst e1; subst e2; subst e3
  have iX7 : ∀ w ∈ wsX70, w ∈ wsX7_push := fun _ h => List.mem_cons_of_mem _ (List.mem_append_right _ h)
  have v1 : inR (nI s) m = true := inR_yes hs (by omega)
  refine g_aload_n C dX7_push_0 rfl 1 rfl 0 rfl ?_
  refine g_iload_n C dX7_push_1 rfl 2 rfl 1 rfl ?_
  refine g_cVi (ws2 := [ob o7 7 [.int (nI n), .int (nI m), .int (nI z), .ref uP, .ref uS, .ref uQ, .ref uA, .ref uB, .int (nI c), .ref uK, .int (nI h), .int (nI ns), .ref uM, .ref uF, .ref uY, .ref uT, .ref uL, .ref uC, .ref uX, .int (oI nf), .ref uI, .ref uR, .ref uW, .ref uH, .ref uG], aN (eY E) uK 60 Sg]) (As := [.int (nI s)]) (st := []) (wsc := [ob o7 7 [.int (nI n), .int (nI m), .int (nI z), .ref uP, .ref uS, .ref uQ, .ref uA, .ref uB, .int (nI c), .ref uK, .int (nI h), .int (nI ns), .ref uM, .ref uF, .ref uY, .ref uT, .ref uL, .ref uC, .ref uX, .int (oI nf), .ref uI, .ref uR, .ref uW, .ref uH, .ref uG]]) (wr := [aN (eY E) uK 60 Sg]) C (c_X7_isSign (eL E) (eD E) (eY E) o7 n m z uP uS uQ uA uB c uK h ns uM uF uY uT uL uC uX nf uI uR uW uH uG (nI s) (by omega)) 1 gX7_push_X7_isSign rfl (by decide +kernel) (by decide) ⟨Nat.zero_le _, Nat.zero_le _⟩ rfl 0 rfl rfl rfl (Nat.le_of_ble_eq_true rfl) [0] [1] [1, 0] rfl rfl (by decide) (by decide) rfl (by decide) dX7_push_2 5 rfl ?_
  refine g_if_ne (X := inR (nI s) m = true) C dX7_push_5 11 (by decide) 8 rfl (bI_ne0 _) ?_ ?_
  · intro h5
    refine g_aload_n C dX7_push_11 rfl 12 rfl 0 rfl ?_
    refine g_get C iX7 0 rfl rfl 10 (by decide) (C.1.2.2.2.2 (.fieldLink RX7 85 "StackRunsModel" "height" "I") (List.mem_of_getElem? (i := 1) rfl)) rfl dX7_push_12 15 rfl ?_
    refine g_bipush (v := nI 60) C dX7_push_15 (by decide) 17 rfl ?_
    refine g_icmp_ne (X := ¬ h = 60) C dX7_push_17 23 (by decide) 20 rfl (not_congr (nI_eq (by omega) (by omega))) ?_ ?_
    · intro h17
      refine g_aload_n C dX7_push_23 rfl 24 rfl 0 rfl ?_
      refine g_get C iX7 0 rfl rfl 9 (by decide) (C.1.2.2.2.2 (.fieldLink RX7 32 "StackRunsModel" "stack" "[I") (List.mem_of_getElem? (i := 2) rfl)) rfl dX7_push_24 27 rfl ?_
      refine g_aload_n C dX7_push_27 rfl 28 rfl 0 rfl ?_
      refine g_get C iX7 0 rfl rfl 10 (by decide) (C.1.2.2.2.2 (.fieldLink RX7 85 "StackRunsModel" "height" "I") (List.mem_of_getElem? (i := 1) rfl)) rfl dX7_push_28 31 rfl ?_
      refine g_iload_n C dX7_push_31 rfl 32 rfl 1 rfl ?_
      refine g_iast (ws' := [ob o7 7 [.int (nI n), .int (nI m), .int (nI z), .ref uP, .ref uS, .ref uQ, .ref uA, .ref uB, .int (nI c), .ref uK, .int (nI h), .int (nI ns), .ref uM, .ref uF, .ref uY, .ref uT, .ref uL, .ref uC, .ref uX, .int (oI nf), .ref uI, .ref uR, .ref uW, .ref uH, .ref uG], aN (eY E) uK 60 (up Sg h s)]) (i := h) C 1 rfl (by omega) (by decide) dX7_push_32 33 rfl (upd_N _ _ _) rfl ?_
      refine g_aload_n C dX7_push_33 rfl 34 rfl 0 rfl ?_
      refine g_dup C dX7_push_34 rfl 35 rfl ?_
      refine g_get C iX7 0 rfl rfl 10 (by decide) (C.1.2.2.2.2 (.fieldLink RX7 85 "StackRunsModel" "height" "I") (List.mem_of_getElem? (i := 1) rfl)) rfl dX7_push_35 38 rfl ?_
      refine g_iconst (v := nI 1) C dX7_push_38 (by decide) 39 rfl ?_
      refine g_iadd (z := nI (h + 1)) C dX7_push_39 40 rfl (nI_add _ _) ?_
      refine g_put (ws' := [ob o7 7 [.int (nI n), .int (nI m), .int (nI z), .ref uP, .ref uS, .ref uQ, .ref uA, .ref uB, .int (nI c), .ref uK, .int (nI (h + 1)), .int (nI ns), .ref uM, .ref uF, .ref uY, .ref uT, .ref uL, .ref uC, .ref uX, .int (oI nf), .ref uI, .ref uR, .ref uW, .ref uH, .ref uG], aN (eY E) uK 60 (up Sg h s)]) (ty := .int) C iX7 tyX7_ok nmX7 0 rfl rfl 10 (by decide) (C.1.2.2.2.2 (.fieldLink RX7 85 "StackRunsModel" "height" "I") (List.mem_of_getElem? (i := 1) rfl)) rfl (by decide +kernel) rfl rfl (Nat.le_of_ble_eq_true rfl) dX7_push_40 43 rfl rfl ?_
      refine g_aload_n C dX7_push_43 rfl 44 rfl 0 rfl ?_
      refine g_get C iX7 0 rfl rfl 10 (by decide) (C.1.2.2.2.2 (.fieldLink RX7 85 "StackRunsModel" "height" "I") (List.mem_of_getElem? (i := 1) rfl)) rfl dX7_push_44 47 rfl ?_
      exact hret _ _ dX7_push_47
    · intro h17
      have h17 : h = 60 := Decidable.not_not.mp h17
      exact (show False from by omega).elim
  · intro h5
    have h5 : inR (nI s) m = false := by simpa using h5
    exact (show False from by exact Bool.noConfusion (h5.symm.trans v1)).elim
set_option maxHeartbeats 4000000 in
set_option maxRecDepth 100000 in
theorem c_X7_at_bad (l : Launch) (D : va_G) (cy : Nat → ClassId) (o7 : Nat) (n : Nat) (m : Nat) (z : Nat) (uP : Nat) (uS : Nat) (uQ : Nat) (uA : Nat) (uB : Nat) (c : Nat) (uK : Nat) (h : Nat) (ns : Nat) (uM : Nat) (uF : Nat) (uY : Nat) (uT : Nat) (uL : Nat) (uC : Nat) (uX : Nat) (nf : Nat) (uI : Nat) (uR : Nat) (uW : Nat) (uH : Nat) (uG : Nat) (Sg : Nat → Nat) (i : Int32) (hh : h ≤ 60) (h1 : ¬ i = -1) (hb : inR i h = false) : CoI l yX7_at wsX7_at 1 25 D cy [ob o7 7 [.int (nI n), .int (nI m), .int (nI z), .ref uP, .ref uS, .ref uQ, .ref uA, .ref uB, .int (nI c), .ref uK, .int (nI h), .int (nI ns), .ref uM, .ref uF, .ref uY, .ref uT, .ref uL, .ref uC, .ref uX, .int (oI nf), .ref uI, .ref uR, .ref uW, .ref uH, .ref uG], aN cy uK 60 Sg] [.ref o7, .int i] [ob o7 7 [.int (nI n), .int (nI m), .int (nI z), .ref uP, .ref uS, .ref uQ, .ref uA, .ref uB, .int (nI c), .ref uK, .int (nI h), .int (nI ns), .ref uM, .ref uF, .ref uY, .ref uT, .ref uL, .ref uC, .ref uX, .int (oI nf), .ref uI, .ref uR, .ref uW, .ref uH, .ref uG], aN cy uK 60 Sg] (-2) := by
  refine met_i (cc := cX7_at) (maxL := 2) (own := RX7) (lv := [(0, .ref o7), (1, .int i)]) (by decide) rfl rfl rfl (Nat.le_of_ble_eq_true rfl) (fun E e1 e2 e3 C hret => ?_)
  subst e1; subst e2; subst e3
  have iX7 : ∀ w ∈ wsX70, w ∈ wsX7_at := fun _ h => List.mem_cons_of_mem _ (List.mem_append_right _ h)
  refine g_iload_n C dX7_at_0 rfl 1 rfl 1 rfl ?_
  refine g_iconst (v := (-1)) C dX7_at_1 (by decide) 2 rfl ?_
  refine g_icmp_ne (X := ¬ i = (-1)) C dX7_at_2 12 (by decide) 5 rfl (Iff.rfl) ?_ ?_
  · intro h2
    refine g_iload_n C dX7_at_12 rfl 13 rfl 1 rfl ?_
    refine g_i2l (v := (i).toInt64) C dX7_at_13 rfl 14 rfl ?_
    refine g_lconst (v := lN 0) C dX7_at_14 (by decide) 15 rfl ?_
    refine g_aload_n C dX7_at_15 rfl 16 rfl 0 rfl ?_
    refine g_get C iX7 0 rfl rfl 10 (by decide) (C.1.2.2.2.2 (.fieldLink RX7 85 "StackRunsModel" "height" "I") (List.mem_of_getElem? (i := 2) rfl)) rfl dX7_at_16 19 rfl ?_
    refine g_iconst (v := nI 1) C dX7_at_19 (by decide) 20 rfl ?_
    refine g_isub (z := (oI h)) C dX7_at_20 21 rfl (by exact oI_sub h) ?_
    refine g_i2l (v := ((oI h)).toInt64) C dX7_at_21 rfl 22 rfl ?_
    refine g_cSi (ws2 := [ob o7 7 [.int (nI n), .int (nI m), .int (nI z), .ref uP, .ref uS, .ref uQ, .ref uA, .ref uB, .int (nI c), .ref uK, .int (nI h), .int (nI ns), .ref uM, .ref uF, .ref uY, .ref uT, .ref uL, .ref uC, .ref uX, .int (oI nf), .ref uI, .ref uR, .ref uW, .ref uH, .ref uG], aN (eY E) uK 60 Sg]) (As := [.long ((i).toInt64), .long (lN 0), .long (((oI h)).toInt64)]) (st := []) (wsc := []) (wr := [ob o7 7 [.int (nI n), .int (nI m), .int (nI z), .ref uP, .ref uS, .ref uQ, .ref uA, .ref uB, .int (nI c), .ref uK, .int (nI h), .int (nI ns), .ref uM, .ref uF, .ref uY, .ref uT, .ref uL, .ref uC, .ref uX, .int (oI nf), .ref uI, .ref uR, .ref uW, .ref uH, .ref uG], aN (eY E) uK 60 Sg]) C (c_X7_isIn (eL E) (eD E) (eY E) ((i).toInt64) (lN 0) (((oI h)).toInt64) ) 3 gX7_at_X7_isIn rfl (by decide +kernel) (by decide) ⟨Nat.zero_le _, Nat.zero_le _⟩ rfl rfl (Nat.le_of_ble_eq_true rfl) [] [0, 1] [0, 1] rfl rfl (by decide) (by decide) rfl (by decide) dX7_at_22 25 rfl ?_
    refine g_if_eq (X := decide ((lN 0) ≤ ((i).toInt64) ∧ ((i).toInt64) ≤ (((oI h)).toInt64)) = false) C dX7_at_25 44 (by decide) 28 rfl (bI_eq0 _) ?_ ?_
    · intro h25
      refine g_bipush (v := (-2)) C dX7_at_44 (by decide) 46 rfl ?_
      exact hret _ _ dX7_at_46
    · intro h25
      have h25 : decide ((lN 0) ≤ ((i).toInt64) ∧ ((i).toInt64) ≤ (((oI h)).toInt64)) = true := by simpa using h25
      exact (show False from by rw [isin_R (by omega), h25] at hb; cases hb).elim
  · intro h2
    have h2 : i = (-1) := Decidable.not_not.mp h2
    exact (show False from by exact h1 h2).elim
set_option maxHeartbeats 4000000 in
set_option maxRecDepth 100000 in
theorem c_X7_at_c (l : Launch) (D : va_G) (cy : Nat → ClassId) (o7 : Nat) (n : Nat) (m : Nat) (z : Nat) (uP : Nat) (uS : Nat) (uQ : Nat) (uA : Nat) (uB : Nat) (c : Nat) (uK : Nat) (h : Nat) (ns : Nat) (uM : Nat) (uF : Nat) (uY : Nat) (uT : Nat) (uL : Nat) (uC : Nat) (uX : Nat) (nf : Nat) (uI : Nat) (uR : Nat) (uW : Nat) (uH : Nat) (uG : Nat) (Sg : Nat → Nat) (hh : h ≤ 60) : CoI l yX7_at wsX7_at 0 0 D cy [ob o7 7 [.int (nI n), .int (nI m), .int (nI z), .ref uP, .ref uS, .ref uQ, .ref uA, .ref uB, .int (nI c), .ref uK, .int (nI h), .int (nI ns), .ref uM, .ref uF, .ref uY, .ref uT, .ref uL, .ref uC, .ref uX, .int (oI nf), .ref uI, .ref uR, .ref uW, .ref uH, .ref uG], aN cy uK 60 Sg] [.ref o7, .int (oI 0)] [ob o7 7 [.int (nI n), .int (nI m), .int (nI z), .ref uP, .ref uS, .ref uQ, .ref uA, .ref uB, .int (nI c), .ref uK, .int (nI h), .int (nI ns), .ref uM, .ref uF, .ref uY, .ref uT, .ref uL, .ref uC, .ref uX, .int (oI nf), .ref uI, .ref uR, .ref uW, .ref uH, .ref uG], aN cy uK 60 Sg] (nI c) := by
  refine met_i (cc := cX7_at) (maxL := 2) (own := RX7) (lv := [(0, .ref o7), (1, .int (oI 0))]) (by decide) rfl rfl rfl (Nat.le_of_ble_eq_true rfl) (fun E e1 e2 e3 C hret => ?_)
  subst e1; subst e2; subst e3
  have iX7 : ∀ w ∈ wsX70, w ∈ wsX7_at := fun _ h => List.mem_cons_of_mem _ (List.mem_append_right _ h)
  refine g_iload_n C dX7_at_0 rfl 1 rfl 1 rfl ?_
  refine g_iconst (v := (-1)) C dX7_at_1 (by decide) 2 rfl ?_
  refine g_icmp_ne (X := ¬ 0 = 0) C dX7_at_2 12 (by decide) 5 rfl (not_congr (oI_eq (a := 0) (by decide))) ?_ ?_
  · intro h2
    exact absurd h2 (by decide)
  · intro h2
    have h2 : 0 = 0 := Decidable.not_not.mp h2
    refine g_aload_n C dX7_at_5 rfl 6 rfl 0 rfl ?_
    refine g_get C iX7 0 rfl rfl 8 (by decide) (C.1.2.2.2.2 (.fieldLink RX7 82 "StackRunsModel" "control" "I") (List.mem_of_getElem? (i := 1) rfl)) rfl dX7_at_6 9 rfl ?_
    refine g_goto C dX7_at_9 46 (by decide) ?_
    exact hret _ _ dX7_at_46
set_option maxHeartbeats 4000000 in
set_option maxRecDepth 100000 in
theorem c_X7_at_s (l : Launch) (D : va_G) (cy : Nat → ClassId) (o7 : Nat) (n : Nat) (m : Nat) (z : Nat) (uP : Nat) (uS : Nat) (uQ : Nat) (uA : Nat) (uB : Nat) (c : Nat) (uK : Nat) (h : Nat) (ns : Nat) (uM : Nat) (uF : Nat) (uY : Nat) (uT : Nat) (uL : Nat) (uC : Nat) (uX : Nat) (nf : Nat) (uI : Nat) (uR : Nat) (uW : Nat) (uH : Nat) (uG : Nat) (Sg : Nat → Nat) (i : Nat) (hh : h ≤ 60) (hi : i < h) : CoI l yX7_at wsX7_at 1 25 D cy [ob o7 7 [.int (nI n), .int (nI m), .int (nI z), .ref uP, .ref uS, .ref uQ, .ref uA, .ref uB, .int (nI c), .ref uK, .int (nI h), .int (nI ns), .ref uM, .ref uF, .ref uY, .ref uT, .ref uL, .ref uC, .ref uX, .int (oI nf), .ref uI, .ref uR, .ref uW, .ref uH, .ref uG], aN cy uK 60 Sg] [.ref o7, .int (nI i)] [ob o7 7 [.int (nI n), .int (nI m), .int (nI z), .ref uP, .ref uS, .ref uQ, .ref uA, .ref uB, .int (nI c), .ref uK, .int (nI h), .int (nI ns), .ref uM, .ref uF, .ref uY, .ref uT, .ref uL, .ref uC, .ref uX, .int (oI nf), .ref uI, .ref uR, .ref uW, .ref uH, .ref uG], aN cy uK 60 Sg] (nI (Sg (h - 1 - i))) := by
  refine met_i (cc := cX7_at) (maxL := 2) (own := RX7) (lv := [(0, .ref o7), (1, .int (nI i))]) (by decide) rfl rfl rfl (Nat.le_of_ble_eq_true rfl) (fun E e1 e2 e3 C hret => ?_)
  subst e1; subst e2; subst e3
  have iX7 : ∀ w ∈ wsX70, w ∈ wsX7_at := fun _ h => List.mem_cons_of_mem _ (List.mem_append_right _ h)
  have v1 : inR (nI i) h = true := inR_yes hi (by omega)
  rw [isin_R (by omega)] at v1
  refine g_iload_n C dX7_at_0 rfl 1 rfl 1 rfl ?_
  refine g_iconst (v := (-1)) C dX7_at_1 (by decide) 2 rfl ?_
  refine g_icmp_ne (X := True) C dX7_at_2 12 (by decide) 5 rfl (nI_ne_m1 (by omega)) ?_ ?_
  · intro h2
    refine g_iload_n C dX7_at_12 rfl 13 rfl 1 rfl ?_
    refine g_i2l (v := lN i) C dX7_at_13 (nI_l (by omega)) 14 rfl ?_
    refine g_lconst (v := lN 0) C dX7_at_14 (by decide) 15 rfl ?_
    refine g_aload_n C dX7_at_15 rfl 16 rfl 0 rfl ?_
    refine g_get C iX7 0 rfl rfl 10 (by decide) (C.1.2.2.2.2 (.fieldLink RX7 85 "StackRunsModel" "height" "I") (List.mem_of_getElem? (i := 2) rfl)) rfl dX7_at_16 19 rfl ?_
    refine g_iconst (v := nI 1) C dX7_at_19 (by decide) 20 rfl ?_
    refine g_isub (z := (oI h)) C dX7_at_20 21 rfl (by exact oI_sub h) ?_
    refine g_i2l (v := ((oI h)).toInt64) C dX7_at_21 rfl 22 rfl ?_
    refine g_cSi (ws2 := [ob o7 7 [.int (nI n), .int (nI m), .int (nI z), .ref uP, .ref uS, .ref uQ, .ref uA, .ref uB, .int (nI c), .ref uK, .int (nI h), .int (nI ns), .ref uM, .ref uF, .ref uY, .ref uT, .ref uL, .ref uC, .ref uX, .int (oI nf), .ref uI, .ref uR, .ref uW, .ref uH, .ref uG], aN (eY E) uK 60 Sg]) (As := [.long (lN i), .long (lN 0), .long (((oI h)).toInt64)]) (st := []) (wsc := []) (wr := [ob o7 7 [.int (nI n), .int (nI m), .int (nI z), .ref uP, .ref uS, .ref uQ, .ref uA, .ref uB, .int (nI c), .ref uK, .int (nI h), .int (nI ns), .ref uM, .ref uF, .ref uY, .ref uT, .ref uL, .ref uC, .ref uX, .int (oI nf), .ref uI, .ref uR, .ref uW, .ref uH, .ref uG], aN (eY E) uK 60 Sg]) C (c_X7_isIn (eL E) (eD E) (eY E) (lN i) (lN 0) (((oI h)).toInt64) ) 3 gX7_at_X7_isIn rfl (by decide +kernel) (by decide) ⟨Nat.zero_le _, Nat.zero_le _⟩ rfl rfl (Nat.le_of_ble_eq_true rfl) [] [0, 1] [0, 1] rfl rfl (by decide) (by decide) rfl (by decide) dX7_at_22 25 rfl ?_
    refine g_if_eq (X := decide ((lN 0) ≤ (lN i) ∧ (lN i) ≤ (((oI h)).toInt64)) = false) C dX7_at_25 44 (by decide) 28 rfl (bI_eq0 _) ?_ ?_
    · intro h25
      exact (show False from by rw [nI_l (by omega)] at v1; exact Bool.noConfusion (h25.symm.trans v1)).elim
    · intro h25
      have h25 : decide ((lN 0) ≤ (lN i) ∧ (lN i) ≤ (((oI h)).toInt64)) = true := by simpa using h25
      refine g_aload_n C dX7_at_28 rfl 29 rfl 0 rfl ?_
      refine g_get C iX7 0 rfl rfl 9 (by decide) (C.1.2.2.2.2 (.fieldLink RX7 32 "StackRunsModel" "stack" "[I") (List.mem_of_getElem? (i := 3) rfl)) rfl dX7_at_29 32 rfl ?_
      refine g_aload_n C dX7_at_32 rfl 33 rfl 0 rfl ?_
      refine g_get C iX7 0 rfl rfl 10 (by decide) (C.1.2.2.2.2 (.fieldLink RX7 85 "StackRunsModel" "height" "I") (List.mem_of_getElem? (i := 2) rfl)) rfl dX7_at_33 36 rfl ?_
      refine g_iconst (v := nI 1) C dX7_at_36 (by decide) 37 rfl ?_
      refine g_isub (z := nI (h - 1)) C dX7_at_37 38 rfl (pk_sub (by omega)) ?_
      refine g_iload_n C dX7_at_38 rfl 39 rfl 1 rfl ?_
      refine g_isub (z := nI ((h - 1) - i)) C dX7_at_39 40 rfl (pk_sub (by omega)) ?_
      refine g_iald (i := ((h - 1) - i)) C 1 rfl (by omega) (by decide) dX7_at_40 41 rfl ?_
      refine g_goto C dX7_at_41 46 (by decide) ?_
      have e_1 : (Sg (h - 1 - i)) = (Sg ((h - 1) - i)) := by first | with_reducible rfl | (rfl)
      refine go_eq rfl (st' := [.int (nI (Sg (h - 1 - i)))]) (ws' := [ob o7 7 [.int (nI n), .int (nI m), .int (nI z), .ref uP, .ref uS, .ref uQ, .ref uA, .ref uB, .int (nI c), .ref uK, .int (nI h), .int (nI ns), .ref uM, .ref uF, .ref uY, .ref uT, .ref uL, .ref uC, .ref uX, .int (oI nf), .ref uI, .ref uR, .ref uW, .ref uH, .ref uG], aN (eY E) uK 60 Sg]) (by first | with_reducible rfl | (simp only [e_1, oI_s, oI_0, bI_1, bI_0, and_self, reduceIte]; done)) (by first | with_reducible rfl | (simp only [e_1, oI_s, oI_0, bI_1, bI_0, and_self, reduceIte]; done)) ?_
      exact hret _ _ dX7_at_46
  · intro h2
    exact absurd trivial h2
set_option maxHeartbeats 4000000 in
set_option maxRecDepth 100000 in
theorem c_X7_go_bad (l : Launch) (D : va_G) (cy : Nat → ClassId) (o7 : Nat) (n : Nat) (m : Nat) (z : Nat) (uP : Nat) (uS : Nat) (uQ : Nat) (uA : Nat) (uB : Nat) (c : Nat) (uK : Nat) (h : Nat) (ns : Nat) (uM : Nat) (uF : Nat) (uY : Nat) (uT : Nat) (uL : Nat) (uC : Nat) (uX : Nat) (nf : Nat) (uI : Nat) (uR : Nat) (uW : Nat) (uH : Nat) (uG : Nat) (Pp : Nat → Nat) (Ps : Nat → Nat) (Pq : Nat → Nat) (Pa : Nat → Nat) (Pb : Nat → Nat) (Sg : Nat → Nat) (r : Int32) (hz : z ≤ 30) (hb : inR r z = false) : CoI l yX7_go wsX7_go 1 25 D cy [ob o7 7 [.int (nI n), .int (nI m), .int (nI z), .ref uP, .ref uS, .ref uQ, .ref uA, .ref uB, .int (nI c), .ref uK, .int (nI h), .int (nI ns), .ref uM, .ref uF, .ref uY, .ref uT, .ref uL, .ref uC, .ref uX, .int (oI nf), .ref uI, .ref uR, .ref uW, .ref uH, .ref uG], aN cy uP 30 Pp, aN cy uS 30 Ps, aN cy uQ 30 Pq, aO cy uA 30 Pa, aO cy uB 30 Pb, aN cy uK 60 Sg] [.ref o7, .int r] [ob o7 7 [.int (nI n), .int (nI m), .int (nI z), .ref uP, .ref uS, .ref uQ, .ref uA, .ref uB, .int (nI c), .ref uK, .int (nI h), .int (nI ns), .ref uM, .ref uF, .ref uY, .ref uT, .ref uL, .ref uC, .ref uX, .int (oI nf), .ref uI, .ref uR, .ref uW, .ref uH, .ref uG], aN cy uP 30 Pp, aN cy uS 30 Ps, aN cy uQ 30 Pq, aO cy uA 30 Pa, aO cy uB 30 Pb, aN cy uK 60 Sg] (-2) := by
  refine met_i (cc := cX7_go) (maxL := 2) (own := RX7) (lv := [(0, .ref o7), (1, .int r)]) (by decide) rfl rfl rfl (Nat.le_of_ble_eq_true rfl) (fun E e1 e2 e3 C hret => ?_)
  subst e1; subst e2; subst e3
  have iX7 : ∀ w ∈ wsX70, w ∈ wsX7_go := fun _ h => List.mem_cons_of_mem _ (List.mem_append_right _ h)
  refine g_iload_n C dX7_go_0 rfl 1 rfl 1 rfl ?_
  refine g_i2l (v := (r).toInt64) C dX7_go_1 rfl 2 rfl ?_
  refine g_lconst (v := lN 0) C dX7_go_2 (by decide) 3 rfl ?_
  refine g_aload_n C dX7_go_3 rfl 4 rfl 0 rfl ?_
  refine g_get C iX7 0 rfl rfl 2 (by decide) (C.1.2.2.2.2 (.fieldLink RX7 79 "StackRunsModel" "rules" "I") (List.mem_of_getElem? (i := 1) rfl)) rfl dX7_go_4 7 rfl ?_
  refine g_iconst (v := nI 1) C dX7_go_7 (by decide) 8 rfl ?_
  refine g_isub (z := (oI z)) C dX7_go_8 9 rfl (by exact oI_sub z) ?_
  refine g_i2l (v := ((oI z)).toInt64) C dX7_go_9 rfl 10 rfl ?_
  refine g_cSi (ws2 := [ob o7 7 [.int (nI n), .int (nI m), .int (nI z), .ref uP, .ref uS, .ref uQ, .ref uA, .ref uB, .int (nI c), .ref uK, .int (nI h), .int (nI ns), .ref uM, .ref uF, .ref uY, .ref uT, .ref uL, .ref uC, .ref uX, .int (oI nf), .ref uI, .ref uR, .ref uW, .ref uH, .ref uG], aN (eY E) uP 30 Pp, aN (eY E) uS 30 Ps, aN (eY E) uQ 30 Pq, aO (eY E) uA 30 Pa, aO (eY E) uB 30 Pb, aN (eY E) uK 60 Sg]) (As := [.long ((r).toInt64), .long (lN 0), .long (((oI z)).toInt64)]) (st := []) (wsc := []) (wr := [ob o7 7 [.int (nI n), .int (nI m), .int (nI z), .ref uP, .ref uS, .ref uQ, .ref uA, .ref uB, .int (nI c), .ref uK, .int (nI h), .int (nI ns), .ref uM, .ref uF, .ref uY, .ref uT, .ref uL, .ref uC, .ref uX, .int (oI nf), .ref uI, .ref uR, .ref uW, .ref uH, .ref uG], aN (eY E) uP 30 Pp, aN (eY E) uS 30 Ps, aN (eY E) uQ 30 Pq, aO (eY E) uA 30 Pa, aO (eY E) uB 30 Pb, aN (eY E) uK 60 Sg]) C (c_X7_isIn (eL E) (eD E) (eY E) ((r).toInt64) (lN 0) (((oI z)).toInt64) ) 3 gX7_go_X7_isIn rfl (by decide +kernel) (by decide) ⟨Nat.zero_le _, Nat.zero_le _⟩ rfl rfl (Nat.le_of_ble_eq_true rfl) [] [0, 1, 2, 3, 4, 5, 6] [0, 1, 2, 3, 4, 5, 6] rfl rfl (by decide) (by decide) rfl (by decide) dX7_go_10 13 rfl ?_
  refine g_if_ne (X := decide ((lN 0) ≤ ((r).toInt64) ∧ ((r).toInt64) ≤ (((oI z)).toInt64)) = true) C dX7_go_13 19 (by decide) 16 rfl (bI_ne0 _) ?_ ?_
  · intro h13
    exact (show False from by rw [isin_R (by omega), h13] at hb; cases hb).elim
  · intro h13
    have h13 : decide ((lN 0) ≤ ((r).toInt64) ∧ ((r).toInt64) ≤ (((oI z)).toInt64)) = false := by simpa using h13
    refine g_bipush (v := (-2)) C dX7_go_16 (by decide) 18 rfl ?_
    exact hret _ _ dX7_go_18
set_option maxHeartbeats 4000000 in
set_option maxRecDepth 100000 in
theorem c_X7_go_not (l : Launch) (D : va_G) (cy : Nat → ClassId) (o7 : Nat) (n : Nat) (m : Nat) (z : Nat) (uP : Nat) (uS : Nat) (uQ : Nat) (uA : Nat) (uB : Nat) (c : Nat) (uK : Nat) (h : Nat) (ns : Nat) (uM : Nat) (uF : Nat) (uY : Nat) (uT : Nat) (uL : Nat) (uC : Nat) (uX : Nat) (nf : Nat) (uI : Nat) (uR : Nat) (uW : Nat) (uH : Nat) (uG : Nat) (Pp : Nat → Nat) (Ps : Nat → Nat) (Pq : Nat → Nat) (Pa : Nat → Nat) (Pb : Nat → Nat) (Sg : Nat → Nat) (r : Nat) (hR5 : ∀ r, Pp r < 5 ∧ Ps r < 5 ∧ Pq r < 5 ∧ Pa r ≤ 5 ∧ Pb r ≤ 5) (hab : ∀ r, Pa r = 0 → Pb r = 0) (hz : z ≤ 30) (hc : c < 5) (hh : h ≤ 60) (hS : ∀ i, Sg i < 5) (hr : r < z) (hg : gsF c h Pp Ps Sg r = false) : CoI l yX7_go wsX7_go 1 25 D cy [ob o7 7 [.int (nI n), .int (nI m), .int (nI z), .ref uP, .ref uS, .ref uQ, .ref uA, .ref uB, .int (nI c), .ref uK, .int (nI h), .int (nI ns), .ref uM, .ref uF, .ref uY, .ref uT, .ref uL, .ref uC, .ref uX, .int (oI nf), .ref uI, .ref uR, .ref uW, .ref uH, .ref uG], aN cy uP 30 Pp, aN cy uS 30 Ps, aN cy uQ 30 Pq, aO cy uA 30 Pa, aO cy uB 30 Pb, aN cy uK 60 Sg] [.ref o7, .int (nI r)] [ob o7 7 [.int (nI n), .int (nI m), .int (nI z), .ref uP, .ref uS, .ref uQ, .ref uA, .ref uB, .int (nI c), .ref uK, .int (nI h), .int (nI ns), .ref uM, .ref uF, .ref uY, .ref uT, .ref uL, .ref uC, .ref uX, .int (oI nf), .ref uI, .ref uR, .ref uW, .ref uH, .ref uG], aN cy uP 30 Pp, aN cy uS 30 Ps, aN cy uQ 30 Pq, aO cy uA 30 Pa, aO cy uB 30 Pb, aN cy uK 60 Sg] (-3) := by
  refine met_i (cc := cX7_go) (maxL := 2) (own := RX7) (lv := [(0, .ref o7), (1, .int (nI r))]) (by decide) rfl rfl rfl (Nat.le_of_ble_eq_true rfl) (fun E e1 e2 e3 C hret => ?_)
  subst e1; subst e2; subst e3
  have iX7 : ∀ w ∈ wsX70, w ∈ wsX7_go := fun _ h => List.mem_cons_of_mem _ (List.mem_append_right _ h)
  have v1 : inR (nI r) z = true := inR_yes hr (by omega)
  rw [isin_R (by omega), nI_l (by omega)] at v1
  have hU := puF_le Pa Pb r
  refine g_iload_n C dX7_go_0 rfl 1 rfl 1 rfl ?_
  refine g_i2l (v := lN r) C dX7_go_1 (nI_l (by omega)) 2 rfl ?_
  refine g_lconst (v := lN 0) C dX7_go_2 (by decide) 3 rfl ?_
  refine g_aload_n C dX7_go_3 rfl 4 rfl 0 rfl ?_
  refine g_get C iX7 0 rfl rfl 2 (by decide) (C.1.2.2.2.2 (.fieldLink RX7 79 "StackRunsModel" "rules" "I") (List.mem_of_getElem? (i := 1) rfl)) rfl dX7_go_4 7 rfl ?_
  refine g_iconst (v := nI 1) C dX7_go_7 (by decide) 8 rfl ?_
  refine g_isub (z := (oI z)) C dX7_go_8 9 rfl (by exact oI_sub z) ?_
  refine g_i2l (v := ((oI z)).toInt64) C dX7_go_9 rfl 10 rfl ?_
  refine g_cSi (ws2 := [ob o7 7 [.int (nI n), .int (nI m), .int (nI z), .ref uP, .ref uS, .ref uQ, .ref uA, .ref uB, .int (nI c), .ref uK, .int (nI h), .int (nI ns), .ref uM, .ref uF, .ref uY, .ref uT, .ref uL, .ref uC, .ref uX, .int (oI nf), .ref uI, .ref uR, .ref uW, .ref uH, .ref uG], aN (eY E) uP 30 Pp, aN (eY E) uS 30 Ps, aN (eY E) uQ 30 Pq, aO (eY E) uA 30 Pa, aO (eY E) uB 30 Pb, aN (eY E) uK 60 Sg]) (As := [.long (lN r), .long (lN 0), .long (((oI z)).toInt64)]) (st := []) (wsc := []) (wr := [ob o7 7 [.int (nI n), .int (nI m), .int (nI z), .ref uP, .ref uS, .ref uQ, .ref uA, .ref uB, .int (nI c), .ref uK, .int (nI h), .int (nI ns), .ref uM, .ref uF, .ref uY, .ref uT, .ref uL, .ref uC, .ref uX, .int (oI nf), .ref uI, .ref uR, .ref uW, .ref uH, .ref uG], aN (eY E) uP 30 Pp, aN (eY E) uS 30 Ps, aN (eY E) uQ 30 Pq, aO (eY E) uA 30 Pa, aO (eY E) uB 30 Pb, aN (eY E) uK 60 Sg]) C (c_X7_isIn (eL E) (eD E) (eY E) (lN r) (lN 0) (((oI z)).toInt64) ) 3 gX7_go_X7_isIn rfl (by decide +kernel) (by decide) ⟨Nat.zero_le _, Nat.zero_le _⟩ rfl rfl (Nat.le_of_ble_eq_true rfl) [] [0, 1, 2, 3, 4, 5, 6] [0, 1, 2, 3, 4, 5, 6] rfl rfl (by decide) (by decide) rfl (by decide) dX7_go_10 13 rfl ?_
  refine g_if_ne (X := decide ((lN 0) ≤ (lN r) ∧ (lN r) ≤ (((oI z)).toInt64)) = true) C dX7_go_13 19 (by decide) 16 rfl (bI_ne0 _) ?_ ?_
  · intro h13
    refine g_aload_n C dX7_go_19 rfl 20 rfl 0 rfl ?_
    refine g_iload_n C dX7_go_20 rfl 21 rfl 1 rfl ?_
    refine g_cVi (ws2 := [ob o7 7 [.int (nI n), .int (nI m), .int (nI z), .ref uP, .ref uS, .ref uQ, .ref uA, .ref uB, .int (nI c), .ref uK, .int (nI h), .int (nI ns), .ref uM, .ref uF, .ref uY, .ref uT, .ref uL, .ref uC, .ref uX, .int (oI nf), .ref uI, .ref uR, .ref uW, .ref uH, .ref uG], aN (eY E) uP 30 Pp, aN (eY E) uS 30 Ps, aN (eY E) uQ 30 Pq, aO (eY E) uA 30 Pa, aO (eY E) uB 30 Pb, aN (eY E) uK 60 Sg]) (As := [.int (nI r)]) (st := []) (wsc := [ob o7 7 [.int (nI n), .int (nI m), .int (nI z), .ref uP, .ref uS, .ref uQ, .ref uA, .ref uB, .int (nI c), .ref uK, .int (nI h), .int (nI ns), .ref uM, .ref uF, .ref uY, .ref uT, .ref uL, .ref uC, .ref uX, .int (oI nf), .ref uI, .ref uR, .ref uW, .ref uH, .ref uG], aN (eY E) uP 30 Pp, aN (eY E) uS 30 Ps, aN (eY E) uK 60 Sg]) (wr := [aN (eY E) uQ 30 Pq, aO (eY E) uA 30 Pa, aO (eY E) uB 30 Pb]) C (c_X7_goes (eL E) (eD E) (eY E) o7 n m z uP uS uQ uA uB c uK h ns uM uF uY uT uL uC uX nf uI uR uW uH uG Pp Ps Sg r (by exact fun r => ⟨(hR5 r).1, (hR5 r).2.1⟩) (by assumption) (by omega) (by omega) (by omega)) 1 gX7_go_X7_goes rfl (by decide +kernel) (by decide) ⟨Nat.zero_le _, Nat.zero_le _⟩ rfl 0 rfl rfl rfl (Nat.le_of_ble_eq_true rfl) [0, 1, 2, 6] [3, 4, 5] [3, 4, 5, 0, 1, 2, 6] rfl rfl (by decide) (by decide) rfl (by decide) dX7_go_21 24 rfl ?_
    refine g_if_ne (X := gsF c h Pp Ps Sg r = true) C dX7_go_24 30 (by decide) 27 rfl (bI_ne0 _) ?_ ?_
    · intro h24
      exact (show False from by exact Bool.noConfusion (hg.symm.trans h24)).elim
    · intro h24
      have h24 : gsF c h Pp Ps Sg r = false := by simpa using h24
      refine g_bipush (v := (-3)) C dX7_go_27 (by decide) 29 rfl ?_
      exact hret _ _ dX7_go_29
  · intro h13
    have h13 : decide ((lN 0) ≤ (lN r) ∧ (lN r) ≤ (((oI z)).toInt64)) = false := by simpa using h13
    exact (show False from by exact Bool.noConfusion (h13.symm.trans v1)).elim
set_option maxHeartbeats 4000000 in
set_option maxRecDepth 100000 in
theorem c_X7_go_full (l : Launch) (D : va_G) (cy : Nat → ClassId) (o7 : Nat) (n : Nat) (m : Nat) (z : Nat) (uP : Nat) (uS : Nat) (uQ : Nat) (uA : Nat) (uB : Nat) (c : Nat) (uK : Nat) (h : Nat) (ns : Nat) (uM : Nat) (uF : Nat) (uY : Nat) (uT : Nat) (uL : Nat) (uC : Nat) (uX : Nat) (nf : Nat) (uI : Nat) (uR : Nat) (uW : Nat) (uH : Nat) (uG : Nat) (Pp : Nat → Nat) (Ps : Nat → Nat) (Pq : Nat → Nat) (Pa : Nat → Nat) (Pb : Nat → Nat) (Sg : Nat → Nat) (r : Nat) (hR5 : ∀ r, Pp r < 5 ∧ Ps r < 5 ∧ Pq r < 5 ∧ Pa r ≤ 5 ∧ Pb r ≤ 5) (hab : ∀ r, Pa r = 0 → Pb r = 0) (hz : z ≤ 30) (hc : c < 5) (hh : h ≤ 60) (hS : ∀ i, Sg i < 5) (hr : r < z) (hg : gsF c h Pp Ps Sg r = true) (hro : ¬ (Pb r = 0 ∨ h < 60)) : CoI l yX7_go wsX7_go 1 25 D cy [ob o7 7 [.int (nI n), .int (nI m), .int (nI z), .ref uP, .ref uS, .ref uQ, .ref uA, .ref uB, .int (nI c), .ref uK, .int (nI h), .int (nI ns), .ref uM, .ref uF, .ref uY, .ref uT, .ref uL, .ref uC, .ref uX, .int (oI nf), .ref uI, .ref uR, .ref uW, .ref uH, .ref uG], aN cy uP 30 Pp, aN cy uS 30 Ps, aN cy uQ 30 Pq, aO cy uA 30 Pa, aO cy uB 30 Pb, aN cy uK 60 Sg] [.ref o7, .int (nI r)] [ob o7 7 [.int (nI n), .int (nI m), .int (nI z), .ref uP, .ref uS, .ref uQ, .ref uA, .ref uB, .int (nI c), .ref uK, .int (nI h), .int (nI ns), .ref uM, .ref uF, .ref uY, .ref uT, .ref uL, .ref uC, .ref uX, .int (oI nf), .ref uI, .ref uR, .ref uW, .ref uH, .ref uG], aN cy uP 30 Pp, aN cy uS 30 Ps, aN cy uQ 30 Pq, aO cy uA 30 Pa, aO cy uB 30 Pb, aN cy uK 60 Sg] (-4) := by
  refine met_i (cc := cX7_go) (maxL := 2) (own := RX7) (lv := [(0, .ref o7), (1, .int (nI r))]) (by decide) rfl rfl rfl (Nat.le_of_ble_eq_true rfl) (fun E e1 e2 e3 C hret => ?_)
  subst e1; subst e2; subst e3
  have iX7 : ∀ w ∈ wsX70, w ∈ wsX7_go := fun _ h => List.mem_cons_of_mem _ (List.mem_append_right _ h)
  have v1 : inR (nI r) z = true := inR_yes hr (by omega)
  rw [isin_R (by omega), nI_l (by omega)] at v1
  have hU := puF_le Pa Pb r
  have hpos := gsF_pos hg
  refine g_iload_n C dX7_go_0 rfl 1 rfl 1 rfl ?_
  refine g_i2l (v := lN r) C dX7_go_1 (nI_l (by omega)) 2 rfl ?_
  refine g_lconst (v := lN 0) C dX7_go_2 (by decide) 3 rfl ?_
  refine g_aload_n C dX7_go_3 rfl 4 rfl 0 rfl ?_
  refine g_get C iX7 0 rfl rfl 2 (by decide) (C.1.2.2.2.2 (.fieldLink RX7 79 "StackRunsModel" "rules" "I") (List.mem_of_getElem? (i := 1) rfl)) rfl dX7_go_4 7 rfl ?_
  refine g_iconst (v := nI 1) C dX7_go_7 (by decide) 8 rfl ?_
  refine g_isub (z := (oI z)) C dX7_go_8 9 rfl (by exact oI_sub z) ?_
  refine g_i2l (v := ((oI z)).toInt64) C dX7_go_9 rfl 10 rfl ?_
  refine g_cSi (ws2 := [ob o7 7 [.int (nI n), .int (nI m), .int (nI z), .ref uP, .ref uS, .ref uQ, .ref uA, .ref uB, .int (nI c), .ref uK, .int (nI h), .int (nI ns), .ref uM, .ref uF, .ref uY, .ref uT, .ref uL, .ref uC, .ref uX, .int (oI nf), .ref uI, .ref uR, .ref uW, .ref uH, .ref uG], aN (eY E) uP 30 Pp, aN (eY E) uS 30 Ps, aN (eY E) uQ 30 Pq, aO (eY E) uA 30 Pa, aO (eY E) uB 30 Pb, aN (eY E) uK 60 Sg]) (As := [.long (lN r), .long (lN 0), .long (((oI z)).toInt64)]) (st := []) (wsc := []) (wr := [ob o7 7 [.int (nI n), .int (nI m), .int (nI z), .ref uP, .ref uS, .ref uQ, .ref uA, .ref uB, .int (nI c), .ref uK, .int (nI h), .int (nI ns), .ref uM, .ref uF, .ref uY, .ref uT, .ref uL, .ref uC, .ref uX, .int (oI nf), .ref uI, .ref uR, .ref uW, .ref uH, .ref uG], aN (eY E) uP 30 Pp, aN (eY E) uS 30 Ps, aN (eY E) uQ 30 Pq, aO (eY E) uA 30 Pa, aO (eY E) uB 30 Pb, aN (eY E) uK 60 Sg]) C (c_X7_isIn (eL E) (eD E) (eY E) (lN r) (lN 0) (((oI z)).toInt64) ) 3 gX7_go_X7_isIn rfl (by decide +kernel) (by decide) ⟨Nat.zero_le _, Nat.zero_le _⟩ rfl rfl (Nat.le_of_ble_eq_true rfl) [] [0, 1, 2, 3, 4, 5, 6] [0, 1, 2, 3, 4, 5, 6] rfl rfl (by decide) (by decide) rfl (by decide) dX7_go_10 13 rfl ?_
  refine g_if_ne (X := decide ((lN 0) ≤ (lN r) ∧ (lN r) ≤ (((oI z)).toInt64)) = true) C dX7_go_13 19 (by decide) 16 rfl (bI_ne0 _) ?_ ?_
  · intro h13
    refine g_aload_n C dX7_go_19 rfl 20 rfl 0 rfl ?_
    refine g_iload_n C dX7_go_20 rfl 21 rfl 1 rfl ?_
    refine g_cVi (ws2 := [ob o7 7 [.int (nI n), .int (nI m), .int (nI z), .ref uP, .ref uS, .ref uQ, .ref uA, .ref uB, .int (nI c), .ref uK, .int (nI h), .int (nI ns), .ref uM, .ref uF, .ref uY, .ref uT, .ref uL, .ref uC, .ref uX, .int (oI nf), .ref uI, .ref uR, .ref uW, .ref uH, .ref uG], aN (eY E) uP 30 Pp, aN (eY E) uS 30 Ps, aN (eY E) uQ 30 Pq, aO (eY E) uA 30 Pa, aO (eY E) uB 30 Pb, aN (eY E) uK 60 Sg]) (As := [.int (nI r)]) (st := []) (wsc := [ob o7 7 [.int (nI n), .int (nI m), .int (nI z), .ref uP, .ref uS, .ref uQ, .ref uA, .ref uB, .int (nI c), .ref uK, .int (nI h), .int (nI ns), .ref uM, .ref uF, .ref uY, .ref uT, .ref uL, .ref uC, .ref uX, .int (oI nf), .ref uI, .ref uR, .ref uW, .ref uH, .ref uG], aN (eY E) uP 30 Pp, aN (eY E) uS 30 Ps, aN (eY E) uK 60 Sg]) (wr := [aN (eY E) uQ 30 Pq, aO (eY E) uA 30 Pa, aO (eY E) uB 30 Pb]) C (c_X7_goes (eL E) (eD E) (eY E) o7 n m z uP uS uQ uA uB c uK h ns uM uF uY uT uL uC uX nf uI uR uW uH uG Pp Ps Sg r (by exact fun r => ⟨(hR5 r).1, (hR5 r).2.1⟩) (by assumption) (by omega) (by omega) (by omega)) 1 gX7_go_X7_goes rfl (by decide +kernel) (by decide) ⟨Nat.zero_le _, Nat.zero_le _⟩ rfl 0 rfl rfl rfl (Nat.le_of_ble_eq_true rfl) [0, 1, 2, 6] [3, 4, 5] [3, 4, 5, 0, 1, 2, 6] rfl rfl (by decide) (by decide) rfl (by decide) dX7_go_21 24 rfl ?_
    refine g_if_ne (X := gsF c h Pp Ps Sg r = true) C dX7_go_24 30 (by decide) 27 rfl (bI_ne0 _) ?_ ?_
    · intro h24
      refine g_aload_n C dX7_go_30 rfl 31 rfl 0 rfl ?_
      refine g_get C iX7 0 rfl rfl 10 (by decide) (C.1.2.2.2.2 (.fieldLink RX7 85 "StackRunsModel" "height" "I") (List.mem_of_getElem? (i := 2) rfl)) rfl dX7_go_31 34 rfl ?_
      refine g_iconst (v := nI 1) C dX7_go_34 (by decide) 35 rfl ?_
      refine g_isub (z := nI (h - 1)) C dX7_go_35 36 rfl (pk_sub (by omega)) ?_
      refine g_aload_n C dX7_go_36 rfl 37 rfl 0 rfl ?_
      refine g_iload_n C dX7_go_37 rfl 38 rfl 1 rfl ?_
      refine g_cVi (ws2 := [ob o7 7 [.int (nI n), .int (nI m), .int (nI z), .ref uP, .ref uS, .ref uQ, .ref uA, .ref uB, .int (nI c), .ref uK, .int (nI h), .int (nI ns), .ref uM, .ref uF, .ref uY, .ref uT, .ref uL, .ref uC, .ref uX, .int (oI nf), .ref uI, .ref uR, .ref uW, .ref uH, .ref uG], aN (eY E) uP 30 Pp, aN (eY E) uS 30 Ps, aN (eY E) uQ 30 Pq, aO (eY E) uA 30 Pa, aO (eY E) uB 30 Pb, aN (eY E) uK 60 Sg]) (As := [.int (nI r)]) (st := [.int (nI (h - 1))]) (wsc := [ob o7 7 [.int (nI n), .int (nI m), .int (nI z), .ref uP, .ref uS, .ref uQ, .ref uA, .ref uB, .int (nI c), .ref uK, .int (nI h), .int (nI ns), .ref uM, .ref uF, .ref uY, .ref uT, .ref uL, .ref uC, .ref uX, .int (oI nf), .ref uI, .ref uR, .ref uW, .ref uH, .ref uG], aO (eY E) uA 30 Pa, aO (eY E) uB 30 Pb]) (wr := [aN (eY E) uP 30 Pp, aN (eY E) uS 30 Ps, aN (eY E) uQ 30 Pq, aN (eY E) uK 60 Sg]) C (c_X7_puts (eL E) (eD E) (eY E) o7 n m z uP uS uQ uA uB c uK h ns uM uF uY uT uL uC uX nf uI uR uW uH uG Pa Pb r (by exact fun r => (hR5 r).2.2.2) (by omega)) 1 gX7_go_X7_puts rfl (by decide +kernel) (by decide) ⟨Nat.zero_le _, Nat.zero_le _⟩ rfl 0 rfl rfl rfl (Nat.le_of_ble_eq_true rfl) [0, 4, 5] [1, 2, 3, 6] [4, 0, 1, 2, 5, 6, 3] rfl rfl (by decide) (by decide) rfl (by decide) dX7_go_38 41 rfl ?_
      refine g_iadd (z := nI ((h - 1) + (puF Pa Pb r))) C dX7_go_41 42 rfl (nI_add _ _) ?_
      refine g_bipush (v := nI 60) C dX7_go_42 (by decide) 44 rfl ?_
      refine g_icmp_le (X := (h - 1) + (puF Pa Pb r) ≤ 60) C dX7_go_44 50 (by decide) 47 rfl (nI_leI (by omega) (by omega)) ?_ ?_
      · intro h44
        exact (show False from by exact hro ((room_iff hpos hh (hab r)).mp h44)).elim
      · intro h44
        refine g_bipush (v := (-4)) C dX7_go_47 (by decide) 49 rfl ?_
        exact hret _ _ dX7_go_49
    · intro h24
      have h24 : gsF c h Pp Ps Sg r = false := by simpa using h24
      exact (show False from by exact Bool.noConfusion (h24.symm.trans hg)).elim
  · intro h13
    have h13 : decide ((lN 0) ≤ (lN r) ∧ (lN r) ≤ (((oI z)).toInt64)) = false := by simpa using h13
    exact (show False from by exact Bool.noConfusion (h13.symm.trans v1)).elim
set_option maxHeartbeats 4000000 in
set_option maxRecDepth 100000 in
theorem c_X7_go_ok (l : Launch) (D : va_G) (cy : Nat → ClassId) (o7 : Nat) (n : Nat) (m : Nat) (z : Nat) (uP : Nat) (uS : Nat) (uQ : Nat) (uA : Nat) (uB : Nat) (c : Nat) (uK : Nat) (h : Nat) (ns : Nat) (uM : Nat) (uF : Nat) (uY : Nat) (uT : Nat) (uL : Nat) (uC : Nat) (uX : Nat) (nf : Nat) (uI : Nat) (uR : Nat) (uW : Nat) (uH : Nat) (uG : Nat) (Pp : Nat → Nat) (Ps : Nat → Nat) (Pq : Nat → Nat) (Pa : Nat → Nat) (Pb : Nat → Nat) (Sg : Nat → Nat) (r : Nat) (hR5 : ∀ r, Pp r < 5 ∧ Ps r < 5 ∧ Pq r < 5 ∧ Pa r ≤ 5 ∧ Pb r ≤ 5) (hab : ∀ r, Pa r = 0 → Pb r = 0) (hz : z ≤ 30) (hc : c < 5) (hh : h ≤ 60) (hS : ∀ i, Sg i < 5) (hr : r < z) (hg : gsF c h Pp Ps Sg r = true) (hro : Pb r = 0 ∨ h < 60) : CoI l yX7_go wsX7_go 2 42 D cy [ob o7 7 [.int (nI n), .int (nI m), .int (nI z), .ref uP, .ref uS, .ref uQ, .ref uA, .ref uB, .int (nI c), .ref uK, .int (nI h), .int (nI ns), .ref uM, .ref uF, .ref uY, .ref uT, .ref uL, .ref uC, .ref uX, .int (oI nf), .ref uI, .ref uR, .ref uW, .ref uH, .ref uG], aN cy uP 30 Pp, aN cy uS 30 Ps, aN cy uQ 30 Pq, aO cy uA 30 Pa, aO cy uB 30 Pb, aN cy uK 60 Sg] [.ref o7, .int (nI r)] [ob o7 7 [.int (nI n), .int (nI m), .int (nI z), .ref uP, .ref uS, .ref uQ, .ref uA, .ref uB, .int (nI (Pq r)), .ref uK, .int (nI (chH h (Pa r) (Pb r))), .int (nI ns), .ref uM, .ref uF, .ref uY, .ref uT, .ref uL, .ref uC, .ref uX, .int (oI nf), .ref uI, .ref uR, .ref uW, .ref uH, .ref uG], aN cy uP 30 Pp, aN cy uS 30 Ps, aN cy uQ 30 Pq, aO cy uA 30 Pa, aO cy uB 30 Pb, aN cy uK 60 (chS Sg h (Pa r) (Pb r))] (nI (chH h (Pa r) (Pb r))) := by
  refine met_i (cc := cX7_go) (maxL := 2) (own := RX7) (lv := [(0, .ref o7), (1, .int (nI r))]) (by decide) rfl rfl rfl (Nat.le_of_ble_eq_true rfl) (fun E e1 e2 e3 C hret => ?_)
  subst e1; subst e2; subst e3
  have iX7 : ∀ w ∈ wsX70, w ∈ wsX7_go := fun _ h => List.mem_cons_of_mem _ (List.mem_append_right _ h)
  have v1 : inR (nI r) z = true := inR_yes hr (by omega)
  rw [isin_R (by omega), nI_l (by omega)] at v1
  have hU := puF_le Pa Pb r
  have hpos := gsF_pos hg
  refine g_iload_n C dX7_go_0 rfl 1 rfl 1 rfl ?_
  refine g_i2l (v := lN r) C dX7_go_1 (nI_l (by omega)) 2 rfl ?_
  refine g_lconst (v := lN 0) C dX7_go_2 (by decide) 3 rfl ?_
  refine g_aload_n C dX7_go_3 rfl 4 rfl 0 rfl ?_
  refine g_get C iX7 0 rfl rfl 2 (by decide) (C.1.2.2.2.2 (.fieldLink RX7 79 "StackRunsModel" "rules" "I") (List.mem_of_getElem? (i := 1) rfl)) rfl dX7_go_4 7 rfl ?_
  refine g_iconst (v := nI 1) C dX7_go_7 (by decide) 8 rfl ?_
  refine g_isub (z := (oI z)) C dX7_go_8 9 rfl (by exact oI_sub z) ?_
  refine g_i2l (v := ((oI z)).toInt64) C dX7_go_9 rfl 10 rfl ?_
  refine g_cSi (ws2 := [ob o7 7 [.int (nI n), .int (nI m), .int (nI z), .ref uP, .ref uS, .ref uQ, .ref uA, .ref uB, .int (nI c), .ref uK, .int (nI h), .int (nI ns), .ref uM, .ref uF, .ref uY, .ref uT, .ref uL, .ref uC, .ref uX, .int (oI nf), .ref uI, .ref uR, .ref uW, .ref uH, .ref uG], aN (eY E) uP 30 Pp, aN (eY E) uS 30 Ps, aN (eY E) uQ 30 Pq, aO (eY E) uA 30 Pa, aO (eY E) uB 30 Pb, aN (eY E) uK 60 Sg]) (As := [.long (lN r), .long (lN 0), .long (((oI z)).toInt64)]) (st := []) (wsc := []) (wr := [ob o7 7 [.int (nI n), .int (nI m), .int (nI z), .ref uP, .ref uS, .ref uQ, .ref uA, .ref uB, .int (nI c), .ref uK, .int (nI h), .int (nI ns), .ref uM, .ref uF, .ref uY, .ref uT, .ref uL, .ref uC, .ref uX, .int (oI nf), .ref uI, .ref uR, .ref uW, .ref uH, .ref uG], aN (eY E) uP 30 Pp, aN (eY E) uS 30 Ps, aN (eY E) uQ 30 Pq, aO (eY E) uA 30 Pa, aO (eY E) uB 30 Pb, aN (eY E) uK 60 Sg]) C (c_X7_isIn (eL E) (eD E) (eY E) (lN r) (lN 0) (((oI z)).toInt64) ) 3 gX7_go_X7_isIn rfl (by decide +kernel) (by decide) ⟨Nat.zero_le _, Nat.zero_le _⟩ rfl rfl (Nat.le_of_ble_eq_true rfl) [] [0, 1, 2, 3, 4, 5, 6] [0, 1, 2, 3, 4, 5, 6] rfl rfl (by decide) (by decide) rfl (by decide) dX7_go_10 13 rfl ?_
  refine g_if_ne (X := decide ((lN 0) ≤ (lN r) ∧ (lN r) ≤ (((oI z)).toInt64)) = true) C dX7_go_13 19 (by decide) 16 rfl (bI_ne0 _) ?_ ?_
  · intro h13
    refine g_aload_n C dX7_go_19 rfl 20 rfl 0 rfl ?_
    refine g_iload_n C dX7_go_20 rfl 21 rfl 1 rfl ?_
    refine g_cVi (ws2 := [ob o7 7 [.int (nI n), .int (nI m), .int (nI z), .ref uP, .ref uS, .ref uQ, .ref uA, .ref uB, .int (nI c), .ref uK, .int (nI h), .int (nI ns), .ref uM, .ref uF, .ref uY, .ref uT, .ref uL, .ref uC, .ref uX, .int (oI nf), .ref uI, .ref uR, .ref uW, .ref uH, .ref uG], aN (eY E) uP 30 Pp, aN (eY E) uS 30 Ps, aN (eY E) uQ 30 Pq, aO (eY E) uA 30 Pa, aO (eY E) uB 30 Pb, aN (eY E) uK 60 Sg]) (As := [.int (nI r)]) (st := []) (wsc := [ob o7 7 [.int (nI n), .int (nI m), .int (nI z), .ref uP, .ref uS, .ref uQ, .ref uA, .ref uB, .int (nI c), .ref uK, .int (nI h), .int (nI ns), .ref uM, .ref uF, .ref uY, .ref uT, .ref uL, .ref uC, .ref uX, .int (oI nf), .ref uI, .ref uR, .ref uW, .ref uH, .ref uG], aN (eY E) uP 30 Pp, aN (eY E) uS 30 Ps, aN (eY E) uK 60 Sg]) (wr := [aN (eY E) uQ 30 Pq, aO (eY E) uA 30 Pa, aO (eY E) uB 30 Pb]) C (c_X7_goes (eL E) (eD E) (eY E) o7 n m z uP uS uQ uA uB c uK h ns uM uF uY uT uL uC uX nf uI uR uW uH uG Pp Ps Sg r (by exact fun r => ⟨(hR5 r).1, (hR5 r).2.1⟩) (by assumption) (by omega) (by omega) (by omega)) 1 gX7_go_X7_goes rfl (by decide +kernel) (by decide) ⟨Nat.zero_le _, Nat.zero_le _⟩ rfl 0 rfl rfl rfl (Nat.le_of_ble_eq_true rfl) [0, 1, 2, 6] [3, 4, 5] [3, 4, 5, 0, 1, 2, 6] rfl rfl (by decide) (by decide) rfl (by decide) dX7_go_21 24 rfl ?_
    refine g_if_ne (X := gsF c h Pp Ps Sg r = true) C dX7_go_24 30 (by decide) 27 rfl (bI_ne0 _) ?_ ?_
    · intro h24
      refine g_aload_n C dX7_go_30 rfl 31 rfl 0 rfl ?_
      refine g_get C iX7 0 rfl rfl 10 (by decide) (C.1.2.2.2.2 (.fieldLink RX7 85 "StackRunsModel" "height" "I") (List.mem_of_getElem? (i := 2) rfl)) rfl dX7_go_31 34 rfl ?_
      refine g_iconst (v := nI 1) C dX7_go_34 (by decide) 35 rfl ?_
      refine g_isub (z := nI (h - 1)) C dX7_go_35 36 rfl (pk_sub (by omega)) ?_
      refine g_aload_n C dX7_go_36 rfl 37 rfl 0 rfl ?_
      refine g_iload_n C dX7_go_37 rfl 38 rfl 1 rfl ?_
      refine g_cVi (ws2 := [ob o7 7 [.int (nI n), .int (nI m), .int (nI z), .ref uP, .ref uS, .ref uQ, .ref uA, .ref uB, .int (nI c), .ref uK, .int (nI h), .int (nI ns), .ref uM, .ref uF, .ref uY, .ref uT, .ref uL, .ref uC, .ref uX, .int (oI nf), .ref uI, .ref uR, .ref uW, .ref uH, .ref uG], aN (eY E) uP 30 Pp, aN (eY E) uS 30 Ps, aN (eY E) uQ 30 Pq, aO (eY E) uA 30 Pa, aO (eY E) uB 30 Pb, aN (eY E) uK 60 Sg]) (As := [.int (nI r)]) (st := [.int (nI (h - 1))]) (wsc := [ob o7 7 [.int (nI n), .int (nI m), .int (nI z), .ref uP, .ref uS, .ref uQ, .ref uA, .ref uB, .int (nI c), .ref uK, .int (nI h), .int (nI ns), .ref uM, .ref uF, .ref uY, .ref uT, .ref uL, .ref uC, .ref uX, .int (oI nf), .ref uI, .ref uR, .ref uW, .ref uH, .ref uG], aO (eY E) uA 30 Pa, aO (eY E) uB 30 Pb]) (wr := [aN (eY E) uP 30 Pp, aN (eY E) uS 30 Ps, aN (eY E) uQ 30 Pq, aN (eY E) uK 60 Sg]) C (c_X7_puts (eL E) (eD E) (eY E) o7 n m z uP uS uQ uA uB c uK h ns uM uF uY uT uL uC uX nf uI uR uW uH uG Pa Pb r (by exact fun r => (hR5 r).2.2.2) (by omega)) 1 gX7_go_X7_puts rfl (by decide +kernel) (by decide) ⟨Nat.zero_le _, Nat.zero_le _⟩ rfl 0 rfl rfl rfl (Nat.le_of_ble_eq_true rfl) [0, 4, 5] [1, 2, 3, 6] [4, 0, 1, 2, 5, 6, 3] rfl rfl (by decide) (by decide) rfl (by decide) dX7_go_38 41 rfl ?_
      refine g_iadd (z := nI ((h - 1) + (puF Pa Pb r))) C dX7_go_41 42 rfl (nI_add _ _) ?_
      refine g_bipush (v := nI 60) C dX7_go_42 (by decide) 44 rfl ?_
      refine g_icmp_le (X := (h - 1) + (puF Pa Pb r) ≤ 60) C dX7_go_44 50 (by decide) 47 rfl (nI_leI (by omega) (by omega)) ?_ ?_
      · intro h44
        refine g_aload_n C dX7_go_50 rfl 51 rfl 0 rfl ?_
        refine g_iload_n C dX7_go_51 rfl 52 rfl 1 rfl ?_
        refine g_cVv (ws2 := [ob o7 7 [.int (nI n), .int (nI m), .int (nI z), .ref uP, .ref uS, .ref uQ, .ref uA, .ref uB, .int (nI (Pq r)), .ref uK, .int (nI (chH h (Pa r) (Pb r))), .int (nI ns), .ref uM, .ref uF, .ref uY, .ref uT, .ref uL, .ref uC, .ref uX, .int (oI nf), .ref uI, .ref uR, .ref uW, .ref uH, .ref uG], aN (eY E) uP 30 Pp, aN (eY E) uS 30 Ps, aN (eY E) uQ 30 Pq, aO (eY E) uA 30 Pa, aO (eY E) uB 30 Pb, aN (eY E) uK 60 (chS Sg h (Pa r) (Pb r))]) (As := [.int (nI r)]) (st := []) (wsc := [ob o7 7 [.int (nI n), .int (nI m), .int (nI z), .ref uP, .ref uS, .ref uQ, .ref uA, .ref uB, .int (nI c), .ref uK, .int (nI h), .int (nI ns), .ref uM, .ref uF, .ref uY, .ref uT, .ref uL, .ref uC, .ref uX, .int (oI nf), .ref uI, .ref uR, .ref uW, .ref uH, .ref uG], aN (eY E) uQ 30 Pq, aO (eY E) uA 30 Pa, aO (eY E) uB 30 Pb, aN (eY E) uK 60 Sg]) (wr := [aN (eY E) uP 30 Pp, aN (eY E) uS 30 Ps]) C (c_X7_does (eL E) (eD E) (eY E) o7 n m z uP uS uQ uA uB c uK h ns uM uF uY uT uL uC uX nf uI uR uW uH uG Pq Pa Pb Sg r (by exact fun r => (hR5 r).2.2.2) (by assumption) (by omega) (by exact gsF_pos h24) (by omega) (by assumption)) 1 gX7_go_X7_does rfl (by decide +kernel) (by decide) ⟨Nat.zero_le _, Nat.zero_le _⟩ rfl 0 rfl rfl rfl (Nat.le_of_ble_eq_true rfl) [0, 3, 4, 5, 6] [1, 2] [2, 0, 1, 3, 4, 5, 6] rfl rfl (by decide) (by decide) rfl (by decide) dX7_go_52 55 rfl ?_
        refine g_aload_n C dX7_go_55 rfl 56 rfl 0 rfl ?_
        refine g_get C iX7 0 rfl rfl 10 (by decide) (C.1.2.2.2.2 (.fieldLink RX7 85 "StackRunsModel" "height" "I") (List.mem_of_getElem? (i := 2) rfl)) rfl dX7_go_56 59 rfl ?_
        exact hret _ _ dX7_go_59
      · intro h44
        exact (show False from by exact h44 ((room_iff hpos hh (hab r)).mpr hro)).elim
    · intro h24
      have h24 : gsF c h Pp Ps Sg r = false := by simpa using h24
      exact (show False from by exact Bool.noConfusion (h24.symm.trans hg)).elim
  · intro h13
    have h13 : decide ((lN 0) ≤ (lN r) ∧ (lN r) ≤ (((oI z)).toInt64)) = false := by simpa using h13
    exact (show False from by exact Bool.noConfusion (h13.symm.trans v1)).elim
set_option maxHeartbeats 4000000 in
set_option maxRecDepth 100000 in
theorem c_X7_set_full (l : Launch) (D : va_G) (cy : Nat → ClassId) (o7 : Nat) (n : Nat) (m : Nat) (z : Nat) (uP : Nat) (uS : Nat) (uQ : Nat) (uA : Nat) (uB : Nat) (c : Nat) (uK : Nat) (h : Nat) (ns : Nat) (uM : Nat) (uF : Nat) (uY : Nat) (uT : Nat) (uL : Nat) (uC : Nat) (uX : Nat) (nf : Nat) (uI : Nat) (uR : Nat) (uW : Nat) (uH : Nat) (uG : Nat) (Lm : Nat → Nat) (La : Nat → Bool) (hns : ns = 6) : CoI l yX7_set wsX7_set 0 0 D cy [ob o7 7 [.int (nI n), .int (nI m), .int (nI z), .ref uP, .ref uS, .ref uQ, .ref uA, .ref uB, .int (nI c), .ref uK, .int (nI h), .int (nI ns), .ref uM, .ref uF, .ref uY, .ref uT, .ref uL, .ref uC, .ref uX, .int (oI nf), .ref uI, .ref uR, .ref uW, .ref uH, .ref uG], aN cy uM 6 Lm, aZ cy uL 66 La] [.ref o7] [ob o7 7 [.int (nI n), .int (nI m), .int (nI z), .ref uP, .ref uS, .ref uQ, .ref uA, .ref uB, .int (nI c), .ref uK, .int (nI h), .int (nI ns), .ref uM, .ref uF, .ref uY, .ref uT, .ref uL, .ref uC, .ref uX, .int (oI nf), .ref uI, .ref uR, .ref uW, .ref uH, .ref uG], aN cy uM 6 Lm, aZ cy uL 66 La] (-4) := by
  refine met_i (cc := cX7_set) (maxL := 2) (own := RX7) (lv := [(0, .ref o7)]) (by decide) rfl rfl rfl (Nat.le_of_ble_eq_true rfl) (fun E e1 e2 e3 C hret => ?_)
  subst e1; subst e2; subst e3
  have iX7 : ∀ w ∈ wsX70, w ∈ wsX7_set := fun _ h => List.mem_cons_of_mem _ (List.mem_append_right _ h)
  refine g_aload_n C dX7_set_0 rfl 1 rfl 0 rfl ?_
  refine g_get C iX7 0 rfl rfl 11 (by decide) (C.1.2.2.2.2 (.fieldLink RX7 88 "StackRunsModel" "sets" "I") (List.mem_of_getElem? (i := 1) rfl)) rfl dX7_set_1 4 rfl ?_
  refine g_bipush (v := nI 6) C dX7_set_4 (by decide) 6 rfl ?_
  refine g_icmp_ne (X := ¬ ns = 6) C dX7_set_6 12 (by decide) 9 rfl (not_congr (nI_eq (by omega) (by omega))) ?_ ?_
  · intro h6
    exact (show False from by omega).elim
  · intro h6
    have h6 : ns = 6 := Decidable.not_not.mp h6
    refine g_bipush (v := (-4)) C dX7_set_9 (by decide) 11 rfl ?_
    exact hret _ _ dX7_set_11
set_option maxHeartbeats 4000000 in
set_option maxRecDepth 100000 in
theorem c_X7_set_ok (l : Launch) (D : va_G) (cy : Nat → ClassId) (o7 : Nat) (n : Nat) (m : Nat) (z : Nat) (uP : Nat) (uS : Nat) (uQ : Nat) (uA : Nat) (uB : Nat) (c : Nat) (uK : Nat) (h : Nat) (ns : Nat) (uM : Nat) (uF : Nat) (uY : Nat) (uT : Nat) (uL : Nat) (uC : Nat) (uX : Nat) (nf : Nat) (uI : Nat) (uR : Nat) (uW : Nat) (uH : Nat) (uG : Nat) (Lm : Nat → Nat) (La : Nat → Bool) (hns : ns < 6) : CoI l yX7_set wsX7_set 0 0 D cy [ob o7 7 [.int (nI n), .int (nI m), .int (nI z), .ref uP, .ref uS, .ref uQ, .ref uA, .ref uB, .int (nI c), .ref uK, .int (nI h), .int (nI ns), .ref uM, .ref uF, .ref uY, .ref uT, .ref uL, .ref uC, .ref uX, .int (oI nf), .ref uI, .ref uR, .ref uW, .ref uH, .ref uG], aN cy uM 6 Lm, aZ cy uL 66 La] [.ref o7] [ob o7 7 [.int (nI n), .int (nI m), .int (nI z), .ref uP, .ref uS, .ref uQ, .ref uA, .ref uB, .int (nI c), .ref uK, .int (nI h), .int (nI (ns + 1)), .ref uM, .ref uF, .ref uY, .ref uT, .ref uL, .ref uC, .ref uX, .int (oI nf), .ref uI, .ref uR, .ref uW, .ref uH, .ref uG], aN cy uM 6 (up Lm ns 0), aZ cy uL 66 (clL La (11 * ns) 11)] (nI ns) := by
  refine met_i (cc := cX7_set) (maxL := 2) (own := RX7) (lv := [(0, .ref o7)]) (by decide) rfl rfl rfl (Nat.le_of_ble_eq_true rfl) (fun E e1 e2 e3 C hret => ?_)
  subst e1; subst e2; subst e3
  have iX7 : ∀ w ∈ wsX70, w ∈ wsX7_set := fun _ h => List.mem_cons_of_mem _ (List.mem_append_right _ h)
  refine g_aload_n C dX7_set_0 rfl 1 rfl 0 rfl ?_
  refine g_get C iX7 0 rfl rfl 11 (by decide) (C.1.2.2.2.2 (.fieldLink RX7 88 "StackRunsModel" "sets" "I") (List.mem_of_getElem? (i := 1) rfl)) rfl dX7_set_1 4 rfl ?_
  refine g_bipush (v := nI 6) C dX7_set_4 (by decide) 6 rfl ?_
  refine g_icmp_ne (X := ¬ ns = 6) C dX7_set_6 12 (by decide) 9 rfl (not_congr (nI_eq (by omega) (by omega))) ?_ ?_
  · intro h6
    refine g_aload_n C dX7_set_12 rfl 13 rfl 0 rfl ?_
    refine g_get C iX7 0 rfl rfl 12 (by decide) (C.1.2.2.2.2 (.fieldLink RX7 35 "StackRunsModel" "linkMany" "[I") (List.mem_of_getElem? (i := 2) rfl)) rfl dX7_set_13 16 rfl ?_
    refine g_aload_n C dX7_set_16 rfl 17 rfl 0 rfl ?_
    refine g_get C iX7 0 rfl rfl 11 (by decide) (C.1.2.2.2.2 (.fieldLink RX7 88 "StackRunsModel" "sets" "I") (List.mem_of_getElem? (i := 1) rfl)) rfl dX7_set_17 20 rfl ?_
    refine g_iconst (v := nI 0) C dX7_set_20 (by decide) 21 rfl ?_
    refine g_iast (ws' := [ob o7 7 [.int (nI n), .int (nI m), .int (nI z), .ref uP, .ref uS, .ref uQ, .ref uA, .ref uB, .int (nI c), .ref uK, .int (nI h), .int (nI ns), .ref uM, .ref uF, .ref uY, .ref uT, .ref uL, .ref uC, .ref uX, .int (oI nf), .ref uI, .ref uR, .ref uW, .ref uH, .ref uG], aN (eY E) uM 6 (up Lm ns 0), aZ (eY E) uL 66 La]) (i := ns) C 1 rfl (by omega) (by decide) dX7_set_21 22 rfl (upd_N _ _ _) rfl ?_
    refine g_iconst (v := nI 0) C dX7_set_22 (by decide) 23 rfl ?_
    refine g_istore_n (lv' := [(1, .int (nI 0)), (0, .ref o7)]) C dX7_set_23 rfl 24 rfl (by decide) rfl ?_
    have L24 : ∀ x, x ≤ 11 → Go E 0 0 24 [(1, .int (nI x)), (0, .ref o7)] [] [ob o7 7 [.int (nI n), .int (nI m), .int (nI z), .ref uP, .ref uS, .ref uQ, .ref uA, .ref uB, .int (nI c), .ref uK, .int (nI h), .int (nI ns), .ref uM, .ref uF, .ref uY, .ref uT, .ref uL, .ref uC, .ref uX, .int (oI nf), .ref uI, .ref uR, .ref uW, .ref uH, .ref uG], aN (eY E) uM 6 (up Lm ns 0), aZ (eY E) uL 66 (clL La (11 * ns) x)] := by
      refine go_for 11 (fun x => Go E 0 0 24 [(1, .int (nI x)), (0, .ref o7)] [] [ob o7 7 [.int (nI n), .int (nI m), .int (nI z), .ref uP, .ref uS, .ref uQ, .ref uA, .ref uB, .int (nI c), .ref uK, .int (nI h), .int (nI ns), .ref uM, .ref uF, .ref uY, .ref uT, .ref uL, .ref uC, .ref uX, .int (oI nf), .ref uI, .ref uR, .ref uW, .ref uH, .ref uG], aN (eY E) uM 6 (up Lm ns 0), aZ (eY E) uL 66 (clL La (11 * ns) x)]) (fun x hi_x ih_x => ?_)
      refine g_iload_n C dX7_set_24 rfl 25 rfl 0 rfl ?_
      refine g_bipush (v := nI 11) C dX7_set_25 (by decide) 27 rfl ?_
      refine g_icmp_ge (X := 11 ≤ x) C dX7_set_27 51 (by decide) 30 rfl (nI_leI (by omega) (by omega)) ?_ ?_
      · intro h27
        have x_x : x = 11 := by omega
        try rw [x_x]
        refine g_aload_n C dX7_set_51 rfl 52 rfl 1 rfl ?_
        refine g_dup C dX7_set_52 rfl 53 rfl ?_
        refine g_get C iX7 0 rfl rfl 11 (by decide) (C.1.2.2.2.2 (.fieldLink RX7 88 "StackRunsModel" "sets" "I") (List.mem_of_getElem? (i := 1) rfl)) rfl dX7_set_53 56 rfl ?_
        refine g_iconst (v := nI 1) C dX7_set_56 (by decide) 57 rfl ?_
        refine g_iadd (z := nI (ns + 1)) C dX7_set_57 58 rfl (nI_add _ _) ?_
        refine g_put (ws' := [ob o7 7 [.int (nI n), .int (nI m), .int (nI z), .ref uP, .ref uS, .ref uQ, .ref uA, .ref uB, .int (nI c), .ref uK, .int (nI h), .int (nI (ns + 1)), .ref uM, .ref uF, .ref uY, .ref uT, .ref uL, .ref uC, .ref uX, .int (oI nf), .ref uI, .ref uR, .ref uW, .ref uH, .ref uG], aN (eY E) uM 6 (up Lm ns 0), aZ (eY E) uL 66 (clL La (11 * ns) 11)]) (ty := .int) C iX7 tyX7_ok nmX7 0 rfl rfl 11 (by decide) (C.1.2.2.2.2 (.fieldLink RX7 88 "StackRunsModel" "sets" "I") (List.mem_of_getElem? (i := 1) rfl)) rfl (by decide +kernel) rfl rfl (Nat.le_of_ble_eq_true rfl) dX7_set_58 61 rfl rfl ?_
        refine g_aload_n C dX7_set_61 rfl 62 rfl 1 rfl ?_
        refine g_get C iX7 0 rfl rfl 11 (by decide) (C.1.2.2.2.2 (.fieldLink RX7 88 "StackRunsModel" "sets" "I") (List.mem_of_getElem? (i := 1) rfl)) rfl dX7_set_62 65 rfl ?_
        refine g_iconst (v := nI 1) C dX7_set_65 (by decide) 66 rfl ?_
        refine g_isub (z := nI ((ns + 1) - 1)) C dX7_set_66 67 rfl (pk_sub (by omega)) ?_
        have e_1 : ((ns + 1) - 1) = ns := by first | with_reducible rfl | (omega)
        refine go_eq rfl (st' := [.int (nI ns)]) (ws' := [ob o7 7 [.int (nI n), .int (nI m), .int (nI z), .ref uP, .ref uS, .ref uQ, .ref uA, .ref uB, .int (nI c), .ref uK, .int (nI h), .int (nI (ns + 1)), .ref uM, .ref uF, .ref uY, .ref uT, .ref uL, .ref uC, .ref uX, .int (oI nf), .ref uI, .ref uR, .ref uW, .ref uH, .ref uG], aN (eY E) uM 6 (up Lm ns 0), aZ (eY E) uL 66 (clL La (11 * ns) 11)]) (by first | with_reducible rfl | (simp only [e_1, oI_s, oI_0, bI_1, bI_0, and_self, reduceIte]; done)) (by first | with_reducible rfl | (simp only [e_1, oI_s, oI_0, bI_1, bI_0, and_self, reduceIte]; done)) ?_
        exact hret _ _ dX7_set_67
      · intro h27
        refine g_aload_n C dX7_set_30 rfl 31 rfl 1 rfl ?_
        refine g_get C iX7 0 rfl rfl 16 (by decide) (C.1.2.2.2.2 (.fieldLink RX7 47 "StackRunsModel" "isLast" "[Z") (List.mem_of_getElem? (i := 3) rfl)) rfl dX7_set_31 34 rfl ?_
        refine g_bipush (v := nI 11) C dX7_set_34 (by decide) 36 rfl ?_
        refine g_aload_n C dX7_set_36 rfl 37 rfl 1 rfl ?_
        refine g_get C iX7 0 rfl rfl 11 (by decide) (C.1.2.2.2.2 (.fieldLink RX7 88 "StackRunsModel" "sets" "I") (List.mem_of_getElem? (i := 1) rfl)) rfl dX7_set_37 40 rfl ?_
        refine g_imul (z := nI (11 * ns)) C dX7_set_40 41 rfl (pk_mul _ _) ?_
        refine g_iload_n C dX7_set_41 rfl 42 rfl 0 rfl ?_
        refine g_iadd (z := nI ((11 * ns) + x)) C dX7_set_42 43 rfl (nI_add _ _) ?_
        refine g_iconst (v := nI 0) C dX7_set_43 (by decide) 44 rfl ?_
        refine go_st (show Value.int (nI 0) = .int (bI false) from rfl) ?_
        refine g_zast (ws' := [ob o7 7 [.int (nI n), .int (nI m), .int (nI z), .ref uP, .ref uS, .ref uQ, .ref uA, .ref uB, .int (nI c), .ref uK, .int (nI h), .int (nI ns), .ref uM, .ref uF, .ref uY, .ref uT, .ref uL, .ref uC, .ref uX, .int (oI nf), .ref uI, .ref uR, .ref uW, .ref uH, .ref uG], aN (eY E) uM 6 (up Lm ns 0), aZ (eY E) uL 66 (up (clL La (11 * ns) x) ((11 * ns) + x) false)]) (i := ((11 * ns) + x)) C 2 rfl (by omega) (by decide) dX7_set_44 45 rfl (upd_Z _ _ _) rfl ?_
        refine g_iinc (lv' := [(1, .int (nI (x + 1))), (0, .ref o7)]) C dX7_set_45 48 rfl 0 rfl (by decide) rfl ?_
        refine g_goto C dX7_set_48 24 (by decide) ?_
        have e_2 : (clL La (11 * ns) (x + 1)) = (up (clL La (11 * ns) x) ((11 * ns) + x) false) := by first | with_reducible rfl | (rfl)
        refine go_eq (lv' := [(1, .int (nI (x + 1))), (0, .ref o7)]) (ws' := [ob o7 7 [.int (nI n), .int (nI m), .int (nI z), .ref uP, .ref uS, .ref uQ, .ref uA, .ref uB, .int (nI c), .ref uK, .int (nI h), .int (nI ns), .ref uM, .ref uF, .ref uY, .ref uT, .ref uL, .ref uC, .ref uX, .int (oI nf), .ref uI, .ref uR, .ref uW, .ref uH, .ref uG], aN (eY E) uM 6 (up Lm ns 0), aZ (eY E) uL 66 (clL La (11 * ns) (x + 1))]) (by first | with_reducible rfl | (simp only [oI_s, oI_0, bI_1, bI_0, and_self, reduceIte]; done) | rfl) rfl (by first | with_reducible rfl | (simp only [e_2, oI_s, oI_0, bI_1, bI_0, and_self, reduceIte]; done)) ?_
        exact ih_x (by omega)
    have e_3 : (clL La (11 * ns) 0) = La := by first | with_reducible rfl | (rfl)
    refine go_eq (lv' := [(1, .int (nI 0)), (0, .ref o7)]) (ws' := [ob o7 7 [.int (nI n), .int (nI m), .int (nI z), .ref uP, .ref uS, .ref uQ, .ref uA, .ref uB, .int (nI c), .ref uK, .int (nI h), .int (nI ns), .ref uM, .ref uF, .ref uY, .ref uT, .ref uL, .ref uC, .ref uX, .int (oI nf), .ref uI, .ref uR, .ref uW, .ref uH, .ref uG], aN (eY E) uM 6 (up Lm ns 0), aZ (eY E) uL 66 (clL La (11 * ns) 0)]) (by first | with_reducible rfl | (simp only [oI_s, oI_0, bI_1, bI_0, and_self, reduceIte]; done) | rfl) rfl (by first | with_reducible rfl | (simp only [e_3, oI_s, oI_0, bI_1, bI_0, and_self, reduceIte]; done)) ?_
    exact L24 0 (by omega)
  · intro h6
    have h6 : ns = 6 := Decidable.not_not.mp h6
    exact (show False from by omega).elim
set_option maxHeartbeats 4000000 in
set_option maxRecDepth 100000 in
theorem c_X7_link_bad (l : Launch) (D : va_G) (cy : Nat → ClassId) (o7 : Nat) (n : Nat) (m : Nat) (z : Nat) (uP : Nat) (uS : Nat) (uQ : Nat) (uA : Nat) (uB : Nat) (c : Nat) (uK : Nat) (h : Nat) (ns : Nat) (uM : Nat) (uF : Nat) (uY : Nat) (uT : Nat) (uL : Nat) (uC : Nat) (uX : Nat) (nf : Nat) (uI : Nat) (uR : Nat) (uW : Nat) (uH : Nat) (uG : Nat) (Lm : Nat → Nat) (Lf : Nat → Nat) (Ly : Nat → Nat) (Lt : Nat → Nat) (x : Int32) (w : Int32) (y : Int32) (s : Int32) (t : Int32) (hn : n ≤ 5) (hm : m ≤ 5) (hns : ns ≤ 6) (hb : (inR x ns && plR w y n && inR s m && inR t 6) = false) : CoI l yX7_link wsX7_link 3 68 D cy [ob o7 7 [.int (nI n), .int (nI m), .int (nI z), .ref uP, .ref uS, .ref uQ, .ref uA, .ref uB, .int (nI c), .ref uK, .int (nI h), .int (nI ns), .ref uM, .ref uF, .ref uY, .ref uT, .ref uL, .ref uC, .ref uX, .int (oI nf), .ref uI, .ref uR, .ref uW, .ref uH, .ref uG], aN cy uM 6 Lm, aN cy uF 144 Lf, aN cy uY 144 Ly, aN cy uT 144 Lt] [.ref o7, .int x, .int w, .int y, .int s, .int t] [ob o7 7 [.int (nI n), .int (nI m), .int (nI z), .ref uP, .ref uS, .ref uQ, .ref uA, .ref uB, .int (nI c), .ref uK, .int (nI h), .int (nI ns), .ref uM, .ref uF, .ref uY, .ref uT, .ref uL, .ref uC, .ref uX, .int (oI nf), .ref uI, .ref uR, .ref uW, .ref uH, .ref uG], aN cy uM 6 Lm, aN cy uF 144 Lf, aN cy uY 144 Ly, aN cy uT 144 Lt] (-2) := by
  refine met_i (cc := cX7_link) (maxL := 7) (own := RX7) (lv := [(0, .ref o7), (1, .int x), (2, .int w), (3, .int y), (4, .int s), (5, .int t)]) (by decide) rfl rfl rfl (Nat.le_of_ble_eq_true rfl) (fun E e1 e2 e3 C hret => ?_)
  subst e1; subst e2; subst e3
  refine g_aload_n C dX7_link_0 rfl 1 rfl 0 rfl ?_
  refine g_iload_n C dX7_link_1 rfl 2 rfl 1 rfl ?_
  refine g_cVi (ws2 := [ob o7 7 [.int (nI n), .int (nI m), .int (nI z), .ref uP, .ref uS, .ref uQ, .ref uA, .ref uB, .int (nI c), .ref uK, .int (nI h), .int (nI ns), .ref uM, .ref uF, .ref uY, .ref uT, .ref uL, .ref uC, .ref uX, .int (oI nf), .ref uI, .ref uR, .ref uW, .ref uH, .ref uG], aN (eY E) uM 6 Lm, aN (eY E) uF 144 Lf, aN (eY E) uY 144 Ly, aN (eY E) uT 144 Lt]) (As := [.int x]) (st := []) (wsc := [ob o7 7 [.int (nI n), .int (nI m), .int (nI z), .ref uP, .ref uS, .ref uQ, .ref uA, .ref uB, .int (nI c), .ref uK, .int (nI h), .int (nI ns), .ref uM, .ref uF, .ref uY, .ref uT, .ref uL, .ref uC, .ref uX, .int (oI nf), .ref uI, .ref uR, .ref uW, .ref uH, .ref uG]]) (wr := [aN (eY E) uM 6 Lm, aN (eY E) uF 144 Lf, aN (eY E) uY 144 Ly, aN (eY E) uT 144 Lt]) C (c_X7_isSet (eL E) (eD E) (eY E) o7 n m z uP uS uQ uA uB c uK h ns uM uF uY uT uL uC uX nf uI uR uW uH uG x (by omega)) 1 gX7_link_X7_isSet rfl (by decide +kernel) (by decide) ⟨Nat.zero_le _, Nat.zero_le _⟩ rfl 0 rfl rfl rfl (Nat.le_of_ble_eq_true rfl) [0] [1, 2, 3, 4] [4, 0, 1, 2, 3] rfl rfl (by decide) (by decide) rfl (by decide) dX7_link_2 5 rfl ?_
  refine g_if_eq (X := inR x ns = false) C dX7_link_5 39 (by decide) 8 rfl (bI_eq0 _) ?_ ?_
  · intro h5
    refine g_bipush (v := (-2)) C dX7_link_39 (by decide) 41 rfl ?_
    exact hret _ _ dX7_link_41
  · intro h5
    have h5 : inR x ns = true := by simpa using h5
    refine g_aload_n C dX7_link_8 rfl 9 rfl 0 rfl ?_
    refine g_iload_n C dX7_link_9 rfl 10 rfl 2 rfl ?_
    refine g_iload_n C dX7_link_10 rfl 11 rfl 3 rfl ?_
    refine g_cVi (ws2 := [ob o7 7 [.int (nI n), .int (nI m), .int (nI z), .ref uP, .ref uS, .ref uQ, .ref uA, .ref uB, .int (nI c), .ref uK, .int (nI h), .int (nI ns), .ref uM, .ref uF, .ref uY, .ref uT, .ref uL, .ref uC, .ref uX, .int (oI nf), .ref uI, .ref uR, .ref uW, .ref uH, .ref uG], aN (eY E) uM 6 Lm, aN (eY E) uF 144 Lf, aN (eY E) uY 144 Ly, aN (eY E) uT 144 Lt]) (As := [.int w, .int y]) (st := []) (wsc := [ob o7 7 [.int (nI n), .int (nI m), .int (nI z), .ref uP, .ref uS, .ref uQ, .ref uA, .ref uB, .int (nI c), .ref uK, .int (nI h), .int (nI ns), .ref uM, .ref uF, .ref uY, .ref uT, .ref uL, .ref uC, .ref uX, .int (oI nf), .ref uI, .ref uR, .ref uW, .ref uH, .ref uG]]) (wr := [aN (eY E) uM 6 Lm, aN (eY E) uF 144 Lf, aN (eY E) uY 144 Ly, aN (eY E) uT 144 Lt]) C (c_X7_isPlace (eL E) (eD E) (eY E) o7 n m z uP uS uQ uA uB c uK h ns uM uF uY uT uL uC uX nf uI uR uW uH uG w y (by omega)) 2 gX7_link_X7_isPlace rfl (by decide +kernel) (by decide) ⟨Nat.zero_le _, Nat.zero_le _⟩ rfl 0 rfl rfl rfl (Nat.le_of_ble_eq_true rfl) [0] [1, 2, 3, 4] [4, 0, 1, 2, 3] rfl rfl (by decide) (by decide) rfl (by decide) dX7_link_11 14 rfl ?_
    refine g_if_eq (X := plR w y n = false) C dX7_link_14 39 (by decide) 17 rfl (bI_eq0 _) ?_ ?_
    · intro h14
      refine g_bipush (v := (-2)) C dX7_link_39 (by decide) 41 rfl ?_
      exact hret _ _ dX7_link_41
    · intro h14
      have h14 : plR w y n = true := by simpa using h14
      refine g_aload_n C dX7_link_17 rfl 18 rfl 0 rfl ?_
      refine g_iload C dX7_link_18 20 rfl 4 rfl ?_
      refine g_cVi (ws2 := [ob o7 7 [.int (nI n), .int (nI m), .int (nI z), .ref uP, .ref uS, .ref uQ, .ref uA, .ref uB, .int (nI c), .ref uK, .int (nI h), .int (nI ns), .ref uM, .ref uF, .ref uY, .ref uT, .ref uL, .ref uC, .ref uX, .int (oI nf), .ref uI, .ref uR, .ref uW, .ref uH, .ref uG], aN (eY E) uM 6 Lm, aN (eY E) uF 144 Lf, aN (eY E) uY 144 Ly, aN (eY E) uT 144 Lt]) (As := [.int s]) (st := []) (wsc := [ob o7 7 [.int (nI n), .int (nI m), .int (nI z), .ref uP, .ref uS, .ref uQ, .ref uA, .ref uB, .int (nI c), .ref uK, .int (nI h), .int (nI ns), .ref uM, .ref uF, .ref uY, .ref uT, .ref uL, .ref uC, .ref uX, .int (oI nf), .ref uI, .ref uR, .ref uW, .ref uH, .ref uG]]) (wr := [aN (eY E) uM 6 Lm, aN (eY E) uF 144 Lf, aN (eY E) uY 144 Ly, aN (eY E) uT 144 Lt]) C (c_X7_isSign (eL E) (eD E) (eY E) o7 n m z uP uS uQ uA uB c uK h ns uM uF uY uT uL uC uX nf uI uR uW uH uG s (by omega)) 1 gX7_link_X7_isSign rfl (by decide +kernel) (by decide) ⟨Nat.zero_le _, Nat.zero_le _⟩ rfl 0 rfl rfl rfl (Nat.le_of_ble_eq_true rfl) [0] [1, 2, 3, 4] [4, 0, 1, 2, 3] rfl rfl (by decide) (by decide) rfl (by decide) dX7_link_20 23 rfl ?_
      refine g_if_eq (X := inR s m = false) C dX7_link_23 39 (by decide) 26 rfl (bI_eq0 _) ?_ ?_
      · intro h23
        refine g_bipush (v := (-2)) C dX7_link_39 (by decide) 41 rfl ?_
        exact hret _ _ dX7_link_41
      · intro h23
        have h23 : inR s m = true := by simpa using h23
        refine g_iload C dX7_link_26 28 rfl 5 rfl ?_
        refine g_i2l (v := (t).toInt64) C dX7_link_28 rfl 29 rfl ?_
        refine g_lconst (v := lN 0) C dX7_link_29 (by decide) 30 rfl ?_
        refine g_ldc2 (v' := (lN 5)) C (C.1.2.2.2.2 (.constantLong RX7 77 (5)) (List.mem_of_getElem? (i := 1) rfl)) (by decide) dX7_link_30 33 rfl ?_
        refine g_cSi (ws2 := [ob o7 7 [.int (nI n), .int (nI m), .int (nI z), .ref uP, .ref uS, .ref uQ, .ref uA, .ref uB, .int (nI c), .ref uK, .int (nI h), .int (nI ns), .ref uM, .ref uF, .ref uY, .ref uT, .ref uL, .ref uC, .ref uX, .int (oI nf), .ref uI, .ref uR, .ref uW, .ref uH, .ref uG], aN (eY E) uM 6 Lm, aN (eY E) uF 144 Lf, aN (eY E) uY 144 Ly, aN (eY E) uT 144 Lt]) (As := [.long ((t).toInt64), .long (lN 0), .long (lN 5)]) (st := []) (wsc := []) (wr := [ob o7 7 [.int (nI n), .int (nI m), .int (nI z), .ref uP, .ref uS, .ref uQ, .ref uA, .ref uB, .int (nI c), .ref uK, .int (nI h), .int (nI ns), .ref uM, .ref uF, .ref uY, .ref uT, .ref uL, .ref uC, .ref uX, .int (oI nf), .ref uI, .ref uR, .ref uW, .ref uH, .ref uG], aN (eY E) uM 6 Lm, aN (eY E) uF 144 Lf, aN (eY E) uY 144 Ly, aN (eY E) uT 144 Lt]) C (c_X7_isIn (eL E) (eD E) (eY E) ((t).toInt64) (lN 0) (lN 5) ) 3 gX7_link_X7_isIn rfl (by decide +kernel) (by decide) ⟨Nat.zero_le _, Nat.zero_le _⟩ rfl rfl (Nat.le_of_ble_eq_true rfl) [] [0, 1, 2, 3, 4] [0, 1, 2, 3, 4] rfl rfl (by decide) (by decide) rfl (by decide) dX7_link_33 36 rfl ?_
        refine g_if_ne (X := decide ((lN 0) ≤ ((t).toInt64) ∧ ((t).toInt64) ≤ (lN 5)) = true) C dX7_link_36 42 (by decide) 39 rfl (bI_ne0 _) ?_ ?_
        · intro h36
          exact (show False from by rw [h5, h14, h23, (isin_R5 (n := 6) (by decide) rfl).trans h36] at hb; cases hb).elim
        · intro h36
          have h36 : decide ((lN 0) ≤ ((t).toInt64) ∧ ((t).toInt64) ≤ (lN 5)) = false := by simpa using h36
          refine g_bipush (v := (-2)) C dX7_link_39 (by decide) 41 rfl ?_
          exact hret _ _ dX7_link_41
set_option maxHeartbeats 4000000 in
set_option maxRecDepth 100000 in
theorem c_X7_link_full (l : Launch) (D : va_G) (cy : Nat → ClassId) (o7 : Nat) (n : Nat) (m : Nat) (z : Nat) (uP : Nat) (uS : Nat) (uQ : Nat) (uA : Nat) (uB : Nat) (c : Nat) (uK : Nat) (h : Nat) (ns : Nat) (uM : Nat) (uF : Nat) (uY : Nat) (uT : Nat) (uL : Nat) (uC : Nat) (uX : Nat) (nf : Nat) (uI : Nat) (uR : Nat) (uW : Nat) (uH : Nat) (uG : Nat) (Lm : Nat → Nat) (Lf : Nat → Nat) (Ly : Nat → Nat) (Lt : Nat → Nat) (j : Nat) (w : Nat) (y : Nat) (s : Nat) (t : Nat) (hn : n ≤ 5) (hm : m ≤ 5) (hns : ns ≤ 6) (hj : j < ns) (hw : w < 2) (hy : if w = 0 then y < n else y < 6) (hs : s < m) (ht : t < 6) (hLm : ∀ k, Lm k ≤ 24) (hlk : Lm j = 24) : CoI l yX7_link wsX7_link 3 68 D cy [ob o7 7 [.int (nI n), .int (nI m), .int (nI z), .ref uP, .ref uS, .ref uQ, .ref uA, .ref uB, .int (nI c), .ref uK, .int (nI h), .int (nI ns), .ref uM, .ref uF, .ref uY, .ref uT, .ref uL, .ref uC, .ref uX, .int (oI nf), .ref uI, .ref uR, .ref uW, .ref uH, .ref uG], aN cy uM 6 Lm, aN cy uF 144 Lf, aN cy uY 144 Ly, aN cy uT 144 Lt] [.ref o7, .int (nI j), .int (nI w), .int (nI y), .int (nI s), .int (nI t)] [ob o7 7 [.int (nI n), .int (nI m), .int (nI z), .ref uP, .ref uS, .ref uQ, .ref uA, .ref uB, .int (nI c), .ref uK, .int (nI h), .int (nI ns), .ref uM, .ref uF, .ref uY, .ref uT, .ref uL, .ref uC, .ref uX, .int (oI nf), .ref uI, .ref uR, .ref uW, .ref uH, .ref uG], aN cy uM 6 Lm, aN cy uF 144 Lf, aN cy uY 144 Ly, aN cy uT 144 Lt] (-4) := by
  refine met_i (cc := cX7_link) (maxL := 7) (own := RX7) (lv := [(0, .ref o7), (1, .int (nI j)), (2, .int (nI w)), (3, .int (nI y)), (4, .int (nI s)), (5, .int (nI t))]) (by decide) rfl rfl rfl (Nat.le_of_ble_eq_true rfl) (fun E e1 e2 e3 C hret => ?_)
  subst e1; subst e2; subst e3
  have iX7 : ∀ w ∈ wsX70, w ∈ wsX7_link := fun _ h => List.mem_cons_of_mem _ (List.mem_append_right _ h)
  have v1 : inR (nI j) ns = true := inR_yes hj (by omega)
  have v2 : plR (nI w) (nI y) n = true := plR_yes hw hy (by omega)
  have v3 : inR (nI s) m = true := inR_yes hs (by omega)
  have v4 : inR (nI t) 6 = true := inR_yes ht (by decide)
  rw [isin_R5 (n := 6) (by decide) rfl, nI_l (by omega)] at v4
  have hM := hLm j
  refine g_aload_n C dX7_link_0 rfl 1 rfl 0 rfl ?_
  refine g_iload_n C dX7_link_1 rfl 2 rfl 1 rfl ?_
  refine g_cVi (ws2 := [ob o7 7 [.int (nI n), .int (nI m), .int (nI z), .ref uP, .ref uS, .ref uQ, .ref uA, .ref uB, .int (nI c), .ref uK, .int (nI h), .int (nI ns), .ref uM, .ref uF, .ref uY, .ref uT, .ref uL, .ref uC, .ref uX, .int (oI nf), .ref uI, .ref uR, .ref uW, .ref uH, .ref uG], aN (eY E) uM 6 Lm, aN (eY E) uF 144 Lf, aN (eY E) uY 144 Ly, aN (eY E) uT 144 Lt]) (As := [.int (nI j)]) (st := []) (wsc := [ob o7 7 [.int (nI n), .int (nI m), .int (nI z), .ref uP, .ref uS, .ref uQ, .ref uA, .ref uB, .int (nI c), .ref uK, .int (nI h), .int (nI ns), .ref uM, .ref uF, .ref uY, .ref uT, .ref uL, .ref uC, .ref uX, .int (oI nf), .ref uI, .ref uR, .ref uW, .ref uH, .ref uG]]) (wr := [aN (eY E) uM 6 Lm, aN (eY E) uF 144 Lf, aN (eY E) uY 144 Ly, aN (eY E) uT 144 Lt]) C (c_X7_isSet (eL E) (eD E) (eY E) o7 n m z uP uS uQ uA uB c uK h ns uM uF uY uT uL uC uX nf uI uR uW uH uG (nI j) (by omega)) 1 gX7_link_X7_isSet rfl (by decide +kernel) (by decide) ⟨Nat.zero_le _, Nat.zero_le _⟩ rfl 0 rfl rfl rfl (Nat.le_of_ble_eq_true rfl) [0] [1, 2, 3, 4] [4, 0, 1, 2, 3] rfl rfl (by decide) (by decide) rfl (by decide) dX7_link_2 5 rfl ?_
  refine g_if_eq (X := inR (nI j) ns = false) C dX7_link_5 39 (by decide) 8 rfl (bI_eq0 _) ?_ ?_
  · intro h5
    exact (show False from by first | exact Bool.noConfusion (h5.symm.trans v1) | exact Bool.noConfusion (h14.symm.trans v2) | exact Bool.noConfusion (h23.symm.trans v3) | exact Bool.noConfusion (h36.symm.trans v4)).elim
  · intro h5
    have h5 : inR (nI j) ns = true := by simpa using h5
    refine g_aload_n C dX7_link_8 rfl 9 rfl 0 rfl ?_
    refine g_iload_n C dX7_link_9 rfl 10 rfl 2 rfl ?_
    refine g_iload_n C dX7_link_10 rfl 11 rfl 3 rfl ?_
    refine g_cVi (ws2 := [ob o7 7 [.int (nI n), .int (nI m), .int (nI z), .ref uP, .ref uS, .ref uQ, .ref uA, .ref uB, .int (nI c), .ref uK, .int (nI h), .int (nI ns), .ref uM, .ref uF, .ref uY, .ref uT, .ref uL, .ref uC, .ref uX, .int (oI nf), .ref uI, .ref uR, .ref uW, .ref uH, .ref uG], aN (eY E) uM 6 Lm, aN (eY E) uF 144 Lf, aN (eY E) uY 144 Ly, aN (eY E) uT 144 Lt]) (As := [.int (nI w), .int (nI y)]) (st := []) (wsc := [ob o7 7 [.int (nI n), .int (nI m), .int (nI z), .ref uP, .ref uS, .ref uQ, .ref uA, .ref uB, .int (nI c), .ref uK, .int (nI h), .int (nI ns), .ref uM, .ref uF, .ref uY, .ref uT, .ref uL, .ref uC, .ref uX, .int (oI nf), .ref uI, .ref uR, .ref uW, .ref uH, .ref uG]]) (wr := [aN (eY E) uM 6 Lm, aN (eY E) uF 144 Lf, aN (eY E) uY 144 Ly, aN (eY E) uT 144 Lt]) C (c_X7_isPlace (eL E) (eD E) (eY E) o7 n m z uP uS uQ uA uB c uK h ns uM uF uY uT uL uC uX nf uI uR uW uH uG (nI w) (nI y) (by omega)) 2 gX7_link_X7_isPlace rfl (by decide +kernel) (by decide) ⟨Nat.zero_le _, Nat.zero_le _⟩ rfl 0 rfl rfl rfl (Nat.le_of_ble_eq_true rfl) [0] [1, 2, 3, 4] [4, 0, 1, 2, 3] rfl rfl (by decide) (by decide) rfl (by decide) dX7_link_11 14 rfl ?_
    refine g_if_eq (X := plR (nI w) (nI y) n = false) C dX7_link_14 39 (by decide) 17 rfl (bI_eq0 _) ?_ ?_
    · intro h14
      exact (show False from by first | exact Bool.noConfusion (h5.symm.trans v1) | exact Bool.noConfusion (h14.symm.trans v2) | exact Bool.noConfusion (h23.symm.trans v3) | exact Bool.noConfusion (h36.symm.trans v4)).elim
    · intro h14
      have h14 : plR (nI w) (nI y) n = true := by simpa using h14
      refine g_aload_n C dX7_link_17 rfl 18 rfl 0 rfl ?_
      refine g_iload C dX7_link_18 20 rfl 4 rfl ?_
      refine g_cVi (ws2 := [ob o7 7 [.int (nI n), .int (nI m), .int (nI z), .ref uP, .ref uS, .ref uQ, .ref uA, .ref uB, .int (nI c), .ref uK, .int (nI h), .int (nI ns), .ref uM, .ref uF, .ref uY, .ref uT, .ref uL, .ref uC, .ref uX, .int (oI nf), .ref uI, .ref uR, .ref uW, .ref uH, .ref uG], aN (eY E) uM 6 Lm, aN (eY E) uF 144 Lf, aN (eY E) uY 144 Ly, aN (eY E) uT 144 Lt]) (As := [.int (nI s)]) (st := []) (wsc := [ob o7 7 [.int (nI n), .int (nI m), .int (nI z), .ref uP, .ref uS, .ref uQ, .ref uA, .ref uB, .int (nI c), .ref uK, .int (nI h), .int (nI ns), .ref uM, .ref uF, .ref uY, .ref uT, .ref uL, .ref uC, .ref uX, .int (oI nf), .ref uI, .ref uR, .ref uW, .ref uH, .ref uG]]) (wr := [aN (eY E) uM 6 Lm, aN (eY E) uF 144 Lf, aN (eY E) uY 144 Ly, aN (eY E) uT 144 Lt]) C (c_X7_isSign (eL E) (eD E) (eY E) o7 n m z uP uS uQ uA uB c uK h ns uM uF uY uT uL uC uX nf uI uR uW uH uG (nI s) (by omega)) 1 gX7_link_X7_isSign rfl (by decide +kernel) (by decide) ⟨Nat.zero_le _, Nat.zero_le _⟩ rfl 0 rfl rfl rfl (Nat.le_of_ble_eq_true rfl) [0] [1, 2, 3, 4] [4, 0, 1, 2, 3] rfl rfl (by decide) (by decide) rfl (by decide) dX7_link_20 23 rfl ?_
      refine g_if_eq (X := inR (nI s) m = false) C dX7_link_23 39 (by decide) 26 rfl (bI_eq0 _) ?_ ?_
      · intro h23
        exact (show False from by first | exact Bool.noConfusion (h5.symm.trans v1) | exact Bool.noConfusion (h14.symm.trans v2) | exact Bool.noConfusion (h23.symm.trans v3) | exact Bool.noConfusion (h36.symm.trans v4)).elim
      · intro h23
        have h23 : inR (nI s) m = true := by simpa using h23
        refine g_iload C dX7_link_26 28 rfl 5 rfl ?_
        refine g_i2l (v := lN t) C dX7_link_28 (nI_l (by omega)) 29 rfl ?_
        refine g_lconst (v := lN 0) C dX7_link_29 (by decide) 30 rfl ?_
        refine g_ldc2 (v' := (lN 5)) C (C.1.2.2.2.2 (.constantLong RX7 77 (5)) (List.mem_of_getElem? (i := 1) rfl)) (by decide) dX7_link_30 33 rfl ?_
        refine g_cSi (ws2 := [ob o7 7 [.int (nI n), .int (nI m), .int (nI z), .ref uP, .ref uS, .ref uQ, .ref uA, .ref uB, .int (nI c), .ref uK, .int (nI h), .int (nI ns), .ref uM, .ref uF, .ref uY, .ref uT, .ref uL, .ref uC, .ref uX, .int (oI nf), .ref uI, .ref uR, .ref uW, .ref uH, .ref uG], aN (eY E) uM 6 Lm, aN (eY E) uF 144 Lf, aN (eY E) uY 144 Ly, aN (eY E) uT 144 Lt]) (As := [.long (lN t), .long (lN 0), .long (lN 5)]) (st := []) (wsc := []) (wr := [ob o7 7 [.int (nI n), .int (nI m), .int (nI z), .ref uP, .ref uS, .ref uQ, .ref uA, .ref uB, .int (nI c), .ref uK, .int (nI h), .int (nI ns), .ref uM, .ref uF, .ref uY, .ref uT, .ref uL, .ref uC, .ref uX, .int (oI nf), .ref uI, .ref uR, .ref uW, .ref uH, .ref uG], aN (eY E) uM 6 Lm, aN (eY E) uF 144 Lf, aN (eY E) uY 144 Ly, aN (eY E) uT 144 Lt]) C (c_X7_isIn (eL E) (eD E) (eY E) (lN t) (lN 0) (lN 5) ) 3 gX7_link_X7_isIn rfl (by decide +kernel) (by decide) ⟨Nat.zero_le _, Nat.zero_le _⟩ rfl rfl (Nat.le_of_ble_eq_true rfl) [] [0, 1, 2, 3, 4] [0, 1, 2, 3, 4] rfl rfl (by decide) (by decide) rfl (by decide) dX7_link_33 36 rfl ?_
        refine g_if_ne (X := decide ((lN 0) ≤ (lN t) ∧ (lN t) ≤ (lN 5)) = true) C dX7_link_36 42 (by decide) 39 rfl (bI_ne0 _) ?_ ?_
        · intro h36
          refine g_aload_n C dX7_link_42 rfl 43 rfl 0 rfl ?_
          refine g_get C iX7 0 rfl rfl 12 (by decide) (C.1.2.2.2.2 (.fieldLink RX7 35 "StackRunsModel" "linkMany" "[I") (List.mem_of_getElem? (i := 2) rfl)) rfl dX7_link_43 46 rfl ?_
          refine g_iload_n C dX7_link_46 rfl 47 rfl 1 rfl ?_
          refine g_iald (i := j) C 1 rfl (by omega) (by decide) dX7_link_47 48 rfl ?_
          refine g_bipush (v := nI 24) C dX7_link_48 (by decide) 50 rfl ?_
          refine g_icmp_ne (X := ¬ Lm j = 24) C dX7_link_50 56 (by decide) 53 rfl (not_congr (nI_eq (by omega) (by omega))) ?_ ?_
          · intro h50
            exact (show False from by omega).elim
          · intro h50
            have h50 : Lm j = 24 := Decidable.not_not.mp h50
            refine g_bipush (v := (-4)) C dX7_link_53 (by decide) 55 rfl ?_
            exact hret _ _ dX7_link_55
        · intro h36
          have h36 : decide ((lN 0) ≤ (lN t) ∧ (lN t) ≤ (lN 5)) = false := by simpa using h36
          exact (show False from by first | exact Bool.noConfusion (h5.symm.trans v1) | exact Bool.noConfusion (h14.symm.trans v2) | exact Bool.noConfusion (h23.symm.trans v3) | exact Bool.noConfusion (h36.symm.trans v4)).elim
set_option maxHeartbeats 4000000 in
set_option maxRecDepth 100000 in
theorem c_X7_link_ok (l : Launch) (D : va_G) (cy : Nat → ClassId) (o7 : Nat) (n : Nat) (m : Nat) (z : Nat) (uP : Nat) (uS : Nat) (uQ : Nat) (uA : Nat) (uB : Nat) (c : Nat) (uK : Nat) (h : Nat) (ns : Nat) (uM : Nat) (uF : Nat) (uY : Nat) (uT : Nat) (uL : Nat) (uC : Nat) (uX : Nat) (nf : Nat) (uI : Nat) (uR : Nat) (uW : Nat) (uH : Nat) (uG : Nat) (Lm : Nat → Nat) (Lf : Nat → Nat) (Ly : Nat → Nat) (Lt : Nat → Nat) (j : Nat) (w : Nat) (y : Nat) (s : Nat) (t : Nat) (hn : n ≤ 5) (hm : m ≤ 5) (hns : ns ≤ 6) (hj : j < ns) (hw : w < 2) (hy : if w = 0 then y < n else y < 6) (hs : s < m) (ht : t < 6) (hLm : ∀ k, Lm k ≤ 24) (hlk : Lm j < 24) : CoI l yX7_link wsX7_link 3 68 D cy [ob o7 7 [.int (nI n), .int (nI m), .int (nI z), .ref uP, .ref uS, .ref uQ, .ref uA, .ref uB, .int (nI c), .ref uK, .int (nI h), .int (nI ns), .ref uM, .ref uF, .ref uY, .ref uT, .ref uL, .ref uC, .ref uX, .int (oI nf), .ref uI, .ref uR, .ref uW, .ref uH, .ref uG], aN cy uM 6 Lm, aN cy uF 144 Lf, aN cy uY 144 Ly, aN cy uT 144 Lt] [.ref o7, .int (nI j), .int (nI w), .int (nI y), .int (nI s), .int (nI t)] [ob o7 7 [.int (nI n), .int (nI m), .int (nI z), .ref uP, .ref uS, .ref uQ, .ref uA, .ref uB, .int (nI c), .ref uK, .int (nI h), .int (nI ns), .ref uM, .ref uF, .ref uY, .ref uT, .ref uL, .ref uC, .ref uX, .int (oI nf), .ref uI, .ref uR, .ref uW, .ref uH, .ref uG], aN cy uM 6 (up Lm j (Lm j + 1)), aN cy uF 144 (up Lf (24 * j + Lm j) (if w = 0 then y else 5 + y)), aN cy uY 144 (up Ly (24 * j + Lm j) s), aN cy uT 144 (up Lt (24 * j + Lm j) (5 + t))] (nI (Lm j + 1)) := by
  refine met_i (cc := cX7_link) (maxL := 7) (own := RX7) (lv := [(0, .ref o7), (1, .int (nI j)), (2, .int (nI w)), (3, .int (nI y)), (4, .int (nI s)), (5, .int (nI t))]) (by decide) rfl rfl rfl (Nat.le_of_ble_eq_true rfl) (fun E e1 e2 e3 C hret => ?_)
  subst e1; subst e2; subst e3
  have iX7 : ∀ w ∈ wsX70, w ∈ wsX7_link := fun _ h => List.mem_cons_of_mem _ (List.mem_append_right _ h)
  have v1 : inR (nI j) ns = true := inR_yes hj (by omega)
  have v2 : plR (nI w) (nI y) n = true := plR_yes hw hy (by omega)
  have v3 : inR (nI s) m = true := inR_yes hs (by omega)
  have v4 : inR (nI t) 6 = true := inR_yes ht (by decide)
  rw [isin_R5 (n := 6) (by decide) rfl, nI_l (by omega)] at v4
  have hM := hLm j
  refine g_aload_n C dX7_link_0 rfl 1 rfl 0 rfl ?_
  refine g_iload_n C dX7_link_1 rfl 2 rfl 1 rfl ?_
  refine g_cVi (ws2 := [ob o7 7 [.int (nI n), .int (nI m), .int (nI z), .ref uP, .ref uS, .ref uQ, .ref uA, .ref uB, .int (nI c), .ref uK, .int (nI h), .int (nI ns), .ref uM, .ref uF, .ref uY, .ref uT, .ref uL, .ref uC, .ref uX, .int (oI nf), .ref uI, .ref uR, .ref uW, .ref uH, .ref uG], aN (eY E) uM 6 Lm, aN (eY E) uF 144 Lf, aN (eY E) uY 144 Ly, aN (eY E) uT 144 Lt]) (As := [.int (nI j)]) (st := []) (wsc := [ob o7 7 [.int (nI n), .int (nI m), .int (nI z), .ref uP, .ref uS, .ref uQ, .ref uA, .ref uB, .int (nI c), .ref uK, .int (nI h), .int (nI ns), .ref uM, .ref uF, .ref uY, .ref uT, .ref uL, .ref uC, .ref uX, .int (oI nf), .ref uI, .ref uR, .ref uW, .ref uH, .ref uG]]) (wr := [aN (eY E) uM 6 Lm, aN (eY E) uF 144 Lf, aN (eY E) uY 144 Ly, aN (eY E) uT 144 Lt]) C (c_X7_isSet (eL E) (eD E) (eY E) o7 n m z uP uS uQ uA uB c uK h ns uM uF uY uT uL uC uX nf uI uR uW uH uG (nI j) (by omega)) 1 gX7_link_X7_isSet rfl (by decide +kernel) (by decide) ⟨Nat.zero_le _, Nat.zero_le _⟩ rfl 0 rfl rfl rfl (Nat.le_of_ble_eq_true rfl) [0] [1, 2, 3, 4] [4, 0, 1, 2, 3] rfl rfl (by decide) (by decide) rfl (by decide) dX7_link_2 5 rfl ?_
  refine g_if_eq (X := inR (nI j) ns = false) C dX7_link_5 39 (by decide) 8 rfl (bI_eq0 _) ?_ ?_
  · intro h5
    exact (show False from by first | exact Bool.noConfusion (h5.symm.trans v1) | exact Bool.noConfusion (h14.symm.trans v2) | exact Bool.noConfusion (h23.symm.trans v3) | exact Bool.noConfusion (h36.symm.trans v4)).elim
  · intro h5
    have h5 : inR (nI j) ns = true := by simpa using h5
    refine g_aload_n C dX7_link_8 rfl 9 rfl 0 rfl ?_
    refine g_iload_n C dX7_link_9 rfl 10 rfl 2 rfl ?_
    refine g_iload_n C dX7_link_10 rfl 11 rfl 3 rfl ?_
    refine g_cVi (ws2 := [ob o7 7 [.int (nI n), .int (nI m), .int (nI z), .ref uP, .ref uS, .ref uQ, .ref uA, .ref uB, .int (nI c), .ref uK, .int (nI h), .int (nI ns), .ref uM, .ref uF, .ref uY, .ref uT, .ref uL, .ref uC, .ref uX, .int (oI nf), .ref uI, .ref uR, .ref uW, .ref uH, .ref uG], aN (eY E) uM 6 Lm, aN (eY E) uF 144 Lf, aN (eY E) uY 144 Ly, aN (eY E) uT 144 Lt]) (As := [.int (nI w), .int (nI y)]) (st := []) (wsc := [ob o7 7 [.int (nI n), .int (nI m), .int (nI z), .ref uP, .ref uS, .ref uQ, .ref uA, .ref uB, .int (nI c), .ref uK, .int (nI h), .int (nI ns), .ref uM, .ref uF, .ref uY, .ref uT, .ref uL, .ref uC, .ref uX, .int (oI nf), .ref uI, .ref uR, .ref uW, .ref uH, .ref uG]]) (wr := [aN (eY E) uM 6 Lm, aN (eY E) uF 144 Lf, aN (eY E) uY 144 Ly, aN (eY E) uT 144 Lt]) C (c_X7_isPlace (eL E) (eD E) (eY E) o7 n m z uP uS uQ uA uB c uK h ns uM uF uY uT uL uC uX nf uI uR uW uH uG (nI w) (nI y) (by omega)) 2 gX7_link_X7_isPlace rfl (by decide +kernel) (by decide) ⟨Nat.zero_le _, Nat.zero_le _⟩ rfl 0 rfl rfl rfl (Nat.le_of_ble_eq_true rfl) [0] [1, 2, 3, 4] [4, 0, 1, 2, 3] rfl rfl (by decide) (by decide) rfl (by decide) dX7_link_11 14 rfl ?_
    refine g_if_eq (X := plR (nI w) (nI y) n = false) C dX7_link_14 39 (by decide) 17 rfl (bI_eq0 _) ?_ ?_
    · intro h14
      exact (show False from by first | exact Bool.noConfusion (h5.symm.trans v1) | exact Bool.noConfusion (h14.symm.trans v2) | exact Bool.noConfusion (h23.symm.trans v3) | exact Bool.noConfusion (h36.symm.trans v4)).elim
    · intro h14
      have h14 : plR (nI w) (nI y) n = true := by simpa using h14
      refine g_aload_n C dX7_link_17 rfl 18 rfl 0 rfl ?_
      refine g_iload C dX7_link_18 20 rfl 4 rfl ?_
      refine g_cVi (ws2 := [ob o7 7 [.int (nI n), .int (nI m), .int (nI z), .ref uP, .ref uS, .ref uQ, .ref uA, .ref uB, .int (nI c), .ref uK, .int (nI h), .int (nI ns), .ref uM, .ref uF, .ref uY, .ref uT, .ref uL, .ref uC, .ref uX, .int (oI nf), .ref uI, .ref uR, .ref uW, .ref uH, .ref uG], aN (eY E) uM 6 Lm, aN (eY E) uF 144 Lf, aN (eY E) uY 144 Ly, aN (eY E) uT 144 Lt]) (As := [.int (nI s)]) (st := []) (wsc := [ob o7 7 [.int (nI n), .int (nI m), .int (nI z), .ref uP, .ref uS, .ref uQ, .ref uA, .ref uB, .int (nI c), .ref uK, .int (nI h), .int (nI ns), .ref uM, .ref uF, .ref uY, .ref uT, .ref uL, .ref uC, .ref uX, .int (oI nf), .ref uI, .ref uR, .ref uW, .ref uH, .ref uG]]) (wr := [aN (eY E) uM 6 Lm, aN (eY E) uF 144 Lf, aN (eY E) uY 144 Ly, aN (eY E) uT 144 Lt]) C (c_X7_isSign (eL E) (eD E) (eY E) o7 n m z uP uS uQ uA uB c uK h ns uM uF uY uT uL uC uX nf uI uR uW uH uG (nI s) (by omega)) 1 gX7_link_X7_isSign rfl (by decide +kernel) (by decide) ⟨Nat.zero_le _, Nat.zero_le _⟩ rfl 0 rfl rfl rfl (Nat.le_of_ble_eq_true rfl) [0] [1, 2, 3, 4] [4, 0, 1, 2, 3] rfl rfl (by decide) (by decide) rfl (by decide) dX7_link_20 23 rfl ?_
      refine g_if_eq (X := inR (nI s) m = false) C dX7_link_23 39 (by decide) 26 rfl (bI_eq0 _) ?_ ?_
      · intro h23
        exact (show False from by first | exact Bool.noConfusion (h5.symm.trans v1) | exact Bool.noConfusion (h14.symm.trans v2) | exact Bool.noConfusion (h23.symm.trans v3) | exact Bool.noConfusion (h36.symm.trans v4)).elim
      · intro h23
        have h23 : inR (nI s) m = true := by simpa using h23
        refine g_iload C dX7_link_26 28 rfl 5 rfl ?_
        refine g_i2l (v := lN t) C dX7_link_28 (nI_l (by omega)) 29 rfl ?_
        refine g_lconst (v := lN 0) C dX7_link_29 (by decide) 30 rfl ?_
        refine g_ldc2 (v' := (lN 5)) C (C.1.2.2.2.2 (.constantLong RX7 77 (5)) (List.mem_of_getElem? (i := 1) rfl)) (by decide) dX7_link_30 33 rfl ?_
        refine g_cSi (ws2 := [ob o7 7 [.int (nI n), .int (nI m), .int (nI z), .ref uP, .ref uS, .ref uQ, .ref uA, .ref uB, .int (nI c), .ref uK, .int (nI h), .int (nI ns), .ref uM, .ref uF, .ref uY, .ref uT, .ref uL, .ref uC, .ref uX, .int (oI nf), .ref uI, .ref uR, .ref uW, .ref uH, .ref uG], aN (eY E) uM 6 Lm, aN (eY E) uF 144 Lf, aN (eY E) uY 144 Ly, aN (eY E) uT 144 Lt]) (As := [.long (lN t), .long (lN 0), .long (lN 5)]) (st := []) (wsc := []) (wr := [ob o7 7 [.int (nI n), .int (nI m), .int (nI z), .ref uP, .ref uS, .ref uQ, .ref uA, .ref uB, .int (nI c), .ref uK, .int (nI h), .int (nI ns), .ref uM, .ref uF, .ref uY, .ref uT, .ref uL, .ref uC, .ref uX, .int (oI nf), .ref uI, .ref uR, .ref uW, .ref uH, .ref uG], aN (eY E) uM 6 Lm, aN (eY E) uF 144 Lf, aN (eY E) uY 144 Ly, aN (eY E) uT 144 Lt]) C (c_X7_isIn (eL E) (eD E) (eY E) (lN t) (lN 0) (lN 5) ) 3 gX7_link_X7_isIn rfl (by decide +kernel) (by decide) ⟨Nat.zero_le _, Nat.zero_le _⟩ rfl rfl (Nat.le_of_ble_eq_true rfl) [] [0, 1, 2, 3, 4] [0, 1, 2, 3, 4] rfl rfl (by decide) (by decide) rfl (by decide) dX7_link_33 36 rfl ?_
        refine g_if_ne (X := decide ((lN 0) ≤ (lN t) ∧ (lN t) ≤ (lN 5)) = true) C dX7_link_36 42 (by decide) 39 rfl (bI_ne0 _) ?_ ?_
        · intro h36
          refine g_aload_n C dX7_link_42 rfl 43 rfl 0 rfl ?_
          refine g_get C iX7 0 rfl rfl 12 (by decide) (C.1.2.2.2.2 (.fieldLink RX7 35 "StackRunsModel" "linkMany" "[I") (List.mem_of_getElem? (i := 2) rfl)) rfl dX7_link_43 46 rfl ?_
          refine g_iload_n C dX7_link_46 rfl 47 rfl 1 rfl ?_
          refine g_iald (i := j) C 1 rfl (by omega) (by decide) dX7_link_47 48 rfl ?_
          refine g_bipush (v := nI 24) C dX7_link_48 (by decide) 50 rfl ?_
          refine g_icmp_ne (X := ¬ Lm j = 24) C dX7_link_50 56 (by decide) 53 rfl (not_congr (nI_eq (by omega) (by omega))) ?_ ?_
          · intro h50
            refine g_bipush (v := nI 24) C dX7_link_56 (by decide) 58 rfl ?_
            refine g_iload_n C dX7_link_58 rfl 59 rfl 1 rfl ?_
            refine g_imul (z := nI (24 * j)) C dX7_link_59 60 rfl (pk_mul _ _) ?_
            refine g_aload_n C dX7_link_60 rfl 61 rfl 0 rfl ?_
            refine g_get C iX7 0 rfl rfl 12 (by decide) (C.1.2.2.2.2 (.fieldLink RX7 35 "StackRunsModel" "linkMany" "[I") (List.mem_of_getElem? (i := 2) rfl)) rfl dX7_link_61 64 rfl ?_
            refine g_iload_n C dX7_link_64 rfl 65 rfl 1 rfl ?_
            refine g_iald (i := j) C 1 rfl (by omega) (by decide) dX7_link_65 66 rfl ?_
            refine g_iadd (z := nI ((24 * j) + (Lm j))) C dX7_link_66 67 rfl (nI_add _ _) ?_
            refine g_istore (lv' := [(6, .int (nI ((24 * j) + (Lm j)))), (0, .ref o7), (1, .int (nI j)), (2, .int (nI w)), (3, .int (nI y)), (4, .int (nI s)), (5, .int (nI t))]) C dX7_link_67 69 rfl (by decide) rfl ?_
            refine g_aload_n C dX7_link_69 rfl 70 rfl 1 rfl ?_
            refine g_get C iX7 0 rfl rfl 13 (by decide) (C.1.2.2.2.2 (.fieldLink RX7 38 "StackRunsModel" "linkFrom" "[I") (List.mem_of_getElem? (i := 3) rfl)) rfl dX7_link_70 73 rfl ?_
            refine g_iload C dX7_link_73 75 rfl 0 rfl ?_
            refine g_iload_n C dX7_link_75 rfl 76 rfl 3 rfl ?_
            refine g_if_ne (X := ¬ w = 0) C dX7_link_76 83 (by decide) 79 rfl (not_congr (nI_eq0 (by omega))) ?_ ?_
            · intro h76
              refine g_iconst (v := nI 5) C dX7_link_83 (by decide) 84 rfl ?_
              refine g_iload_n C dX7_link_84 rfl 85 rfl 4 rfl ?_
              refine g_iadd (z := nI (5 + y)) C dX7_link_85 86 rfl (nI_add _ _) ?_
              refine g_iast (ws' := [ob o7 7 [.int (nI n), .int (nI m), .int (nI z), .ref uP, .ref uS, .ref uQ, .ref uA, .ref uB, .int (nI c), .ref uK, .int (nI h), .int (nI ns), .ref uM, .ref uF, .ref uY, .ref uT, .ref uL, .ref uC, .ref uX, .int (oI nf), .ref uI, .ref uR, .ref uW, .ref uH, .ref uG], aN (eY E) uM 6 Lm, aN (eY E) uF 144 (up Lf ((24 * j) + (Lm j)) (5 + y)), aN (eY E) uY 144 Ly, aN (eY E) uT 144 Lt]) (i := ((24 * j) + (Lm j))) C 2 rfl (by omega) (by decide) dX7_link_86 87 rfl (upd_N _ _ _) rfl ?_
              refine g_aload_n C dX7_link_87 rfl 88 rfl 1 rfl ?_
              refine g_get C iX7 0 rfl rfl 14 (by decide) (C.1.2.2.2.2 (.fieldLink RX7 41 "StackRunsModel" "linkBy" "[I") (List.mem_of_getElem? (i := 4) rfl)) rfl dX7_link_88 91 rfl ?_
              refine g_iload C dX7_link_91 93 rfl 0 rfl ?_
              refine g_iload C dX7_link_93 95 rfl 5 rfl ?_
              refine g_iast (ws' := [ob o7 7 [.int (nI n), .int (nI m), .int (nI z), .ref uP, .ref uS, .ref uQ, .ref uA, .ref uB, .int (nI c), .ref uK, .int (nI h), .int (nI ns), .ref uM, .ref uF, .ref uY, .ref uT, .ref uL, .ref uC, .ref uX, .int (oI nf), .ref uI, .ref uR, .ref uW, .ref uH, .ref uG], aN (eY E) uM 6 Lm, aN (eY E) uF 144 (up Lf ((24 * j) + (Lm j)) (5 + y)), aN (eY E) uY 144 (up Ly ((24 * j) + (Lm j)) s), aN (eY E) uT 144 Lt]) (i := ((24 * j) + (Lm j))) C 3 rfl (by omega) (by decide) dX7_link_95 96 rfl (upd_N _ _ _) rfl ?_
              refine g_aload_n C dX7_link_96 rfl 97 rfl 1 rfl ?_
              refine g_get C iX7 0 rfl rfl 15 (by decide) (C.1.2.2.2.2 (.fieldLink RX7 44 "StackRunsModel" "linkTo" "[I") (List.mem_of_getElem? (i := 5) rfl)) rfl dX7_link_97 100 rfl ?_
              refine g_iload C dX7_link_100 102 rfl 0 rfl ?_
              refine g_iconst (v := nI 5) C dX7_link_102 (by decide) 103 rfl ?_
              refine g_iload C dX7_link_103 105 rfl 6 rfl ?_
              refine g_iadd (z := nI (5 + t)) C dX7_link_105 106 rfl (nI_add _ _) ?_
              refine g_iast (ws' := [ob o7 7 [.int (nI n), .int (nI m), .int (nI z), .ref uP, .ref uS, .ref uQ, .ref uA, .ref uB, .int (nI c), .ref uK, .int (nI h), .int (nI ns), .ref uM, .ref uF, .ref uY, .ref uT, .ref uL, .ref uC, .ref uX, .int (oI nf), .ref uI, .ref uR, .ref uW, .ref uH, .ref uG], aN (eY E) uM 6 Lm, aN (eY E) uF 144 (up Lf ((24 * j) + (Lm j)) (5 + y)), aN (eY E) uY 144 (up Ly ((24 * j) + (Lm j)) s), aN (eY E) uT 144 (up Lt ((24 * j) + (Lm j)) (5 + t))]) (i := ((24 * j) + (Lm j))) C 4 rfl (by omega) (by decide) dX7_link_106 107 rfl (upd_N _ _ _) rfl ?_
              refine g_aload_n C dX7_link_107 rfl 108 rfl 1 rfl ?_
              refine g_get C iX7 0 rfl rfl 12 (by decide) (C.1.2.2.2.2 (.fieldLink RX7 35 "StackRunsModel" "linkMany" "[I") (List.mem_of_getElem? (i := 2) rfl)) rfl dX7_link_108 111 rfl ?_
              refine g_iload_n C dX7_link_111 rfl 112 rfl 2 rfl ?_
              refine g_dup2 C dX7_link_112 rfl rfl 113 rfl ?_
              refine g_iald (i := j) C 1 rfl (by omega) (by decide) dX7_link_113 114 rfl ?_
              refine g_iconst (v := nI 1) C dX7_link_114 (by decide) 115 rfl ?_
              refine g_iadd (z := nI ((Lm j) + 1)) C dX7_link_115 116 rfl (nI_add _ _) ?_
              refine g_iast (ws' := [ob o7 7 [.int (nI n), .int (nI m), .int (nI z), .ref uP, .ref uS, .ref uQ, .ref uA, .ref uB, .int (nI c), .ref uK, .int (nI h), .int (nI ns), .ref uM, .ref uF, .ref uY, .ref uT, .ref uL, .ref uC, .ref uX, .int (oI nf), .ref uI, .ref uR, .ref uW, .ref uH, .ref uG], aN (eY E) uM 6 (up Lm j ((Lm j) + 1)), aN (eY E) uF 144 (up Lf ((24 * j) + (Lm j)) (5 + y)), aN (eY E) uY 144 (up Ly ((24 * j) + (Lm j)) s), aN (eY E) uT 144 (up Lt ((24 * j) + (Lm j)) (5 + t))]) (i := j) C 1 rfl (by omega) (by decide) dX7_link_116 117 rfl (upd_N _ _ _) rfl ?_
              refine g_aload_n C dX7_link_117 rfl 118 rfl 1 rfl ?_
              refine g_get C iX7 0 rfl rfl 12 (by decide) (C.1.2.2.2.2 (.fieldLink RX7 35 "StackRunsModel" "linkMany" "[I") (List.mem_of_getElem? (i := 2) rfl)) rfl dX7_link_118 121 rfl ?_
              refine g_iload_n C dX7_link_121 rfl 122 rfl 2 rfl ?_
              refine g_iald (i := j) C 1 rfl (by omega) (by decide) dX7_link_122 123 rfl ?_
              refine go_st (show Value.int (nI ((up Lm j ((Lm j) + 1)) j)) = .int (nI (Lm j + 1)) from by rw [up_same]) ?_
              have e_1 : (up Lm j (Lm j + 1)) = (up Lm j ((Lm j) + 1)) := by first | with_reducible rfl | (first | rfl | (rw [up_same]; done) | (rw [if_pos (by assumption)]; done) | (rw [if_neg (by assumption)]; done))
              have e_2 : (up Lf (24 * j + Lm j) (if w = 0 then y else 5 + y)) = (up Lf ((24 * j) + (Lm j)) (5 + y)) := by first | with_reducible rfl | (first | rfl | (rw [up_same]; done) | (rw [if_pos (by assumption)]; done) | (rw [if_neg (by assumption)]; done))
              have e_3 : (up Ly (24 * j + Lm j) s) = (up Ly ((24 * j) + (Lm j)) s) := by first | with_reducible rfl | (first | rfl | (rw [up_same]; done) | (rw [if_pos (by assumption)]; done) | (rw [if_neg (by assumption)]; done))
              have e_4 : (up Lt (24 * j + Lm j) (5 + t)) = (up Lt ((24 * j) + (Lm j)) (5 + t)) := by first | with_reducible rfl | (first | rfl | (rw [up_same]; done) | (rw [if_pos (by assumption)]; done) | (rw [if_neg (by assumption)]; done))
              refine go_eq rfl (st' := [.int (nI (Lm j + 1))]) (ws' := [ob o7 7 [.int (nI n), .int (nI m), .int (nI z), .ref uP, .ref uS, .ref uQ, .ref uA, .ref uB, .int (nI c), .ref uK, .int (nI h), .int (nI ns), .ref uM, .ref uF, .ref uY, .ref uT, .ref uL, .ref uC, .ref uX, .int (oI nf), .ref uI, .ref uR, .ref uW, .ref uH, .ref uG], aN (eY E) uM 6 (up Lm j (Lm j + 1)), aN (eY E) uF 144 (up Lf (24 * j + Lm j) (if w = 0 then y else 5 + y)), aN (eY E) uY 144 (up Ly (24 * j + Lm j) s), aN (eY E) uT 144 (up Lt (24 * j + Lm j) (5 + t))]) (by first | with_reducible rfl | (simp only [e_1, e_2, e_3, e_4, oI_s, oI_0, bI_1, bI_0, and_self, reduceIte]; done)) (by first | with_reducible rfl | (simp only [e_1, e_2, e_3, e_4, oI_s, oI_0, bI_1, bI_0, and_self, reduceIte]; done)) ?_
              exact hret _ _ dX7_link_123
            · intro h76
              have h76 : w = 0 := Decidable.not_not.mp h76
              refine g_iload_n C dX7_link_79 rfl 80 rfl 4 rfl ?_
              refine g_goto C dX7_link_80 86 (by decide) ?_
              refine g_iast (ws' := [ob o7 7 [.int (nI n), .int (nI m), .int (nI z), .ref uP, .ref uS, .ref uQ, .ref uA, .ref uB, .int (nI c), .ref uK, .int (nI h), .int (nI ns), .ref uM, .ref uF, .ref uY, .ref uT, .ref uL, .ref uC, .ref uX, .int (oI nf), .ref uI, .ref uR, .ref uW, .ref uH, .ref uG], aN (eY E) uM 6 Lm, aN (eY E) uF 144 (up Lf ((24 * j) + (Lm j)) y), aN (eY E) uY 144 Ly, aN (eY E) uT 144 Lt]) (i := ((24 * j) + (Lm j))) C 2 rfl (by omega) (by decide) dX7_link_86 87 rfl (upd_N _ _ _) rfl ?_
              refine g_aload_n C dX7_link_87 rfl 88 rfl 1 rfl ?_
              refine g_get C iX7 0 rfl rfl 14 (by decide) (C.1.2.2.2.2 (.fieldLink RX7 41 "StackRunsModel" "linkBy" "[I") (List.mem_of_getElem? (i := 4) rfl)) rfl dX7_link_88 91 rfl ?_
              refine g_iload C dX7_link_91 93 rfl 0 rfl ?_
              refine g_iload C dX7_link_93 95 rfl 5 rfl ?_
              refine g_iast (ws' := [ob o7 7 [.int (nI n), .int (nI m), .int (nI z), .ref uP, .ref uS, .ref uQ, .ref uA, .ref uB, .int (nI c), .ref uK, .int (nI h), .int (nI ns), .ref uM, .ref uF, .ref uY, .ref uT, .ref uL, .ref uC, .ref uX, .int (oI nf), .ref uI, .ref uR, .ref uW, .ref uH, .ref uG], aN (eY E) uM 6 Lm, aN (eY E) uF 144 (up Lf ((24 * j) + (Lm j)) y), aN (eY E) uY 144 (up Ly ((24 * j) + (Lm j)) s), aN (eY E) uT 144 Lt]) (i := ((24 * j) + (Lm j))) C 3 rfl (by omega) (by decide) dX7_link_95 96 rfl (upd_N _ _ _) rfl ?_
              refine g_aload_n C dX7_link_96 rfl 97 rfl 1 rfl ?_
              refine g_get C iX7 0 rfl rfl 15 (by decide) (C.1.2.2.2.2 (.fieldLink RX7 44 "StackRunsModel" "linkTo" "[I") (List.mem_of_getElem? (i := 5) rfl)) rfl dX7_link_97 100 rfl ?_
              refine g_iload C dX7_link_100 102 rfl 0 rfl ?_
              refine g_iconst (v := nI 5) C dX7_link_102 (by decide) 103 rfl ?_
              refine g_iload C dX7_link_103 105 rfl 6 rfl ?_
              refine g_iadd (z := nI (5 + t)) C dX7_link_105 106 rfl (nI_add _ _) ?_
              refine g_iast (ws' := [ob o7 7 [.int (nI n), .int (nI m), .int (nI z), .ref uP, .ref uS, .ref uQ, .ref uA, .ref uB, .int (nI c), .ref uK, .int (nI h), .int (nI ns), .ref uM, .ref uF, .ref uY, .ref uT, .ref uL, .ref uC, .ref uX, .int (oI nf), .ref uI, .ref uR, .ref uW, .ref uH, .ref uG], aN (eY E) uM 6 Lm, aN (eY E) uF 144 (up Lf ((24 * j) + (Lm j)) y), aN (eY E) uY 144 (up Ly ((24 * j) + (Lm j)) s), aN (eY E) uT 144 (up Lt ((24 * j) + (Lm j)) (5 + t))]) (i := ((24 * j) + (Lm j))) C 4 rfl (by omega) (by decide) dX7_link_106 107 rfl (upd_N _ _ _) rfl ?_
              refine g_aload_n C dX7_link_107 rfl 108 rfl 1 rfl ?_
              refine g_get C iX7 0 rfl rfl 12 (by decide) (C.1.2.2.2.2 (.fieldLink RX7 35 "StackRunsModel" "linkMany" "[I") (List.mem_of_getElem? (i := 2) rfl)) rfl dX7_link_108 111 rfl ?_
              refine g_iload_n C dX7_link_111 rfl 112 rfl 2 rfl ?_
              refine g_dup2 C dX7_link_112 rfl rfl 113 rfl ?_
              refine g_iald (i := j) C 1 rfl (by omega) (by decide) dX7_link_113 114 rfl ?_
              refine g_iconst (v := nI 1) C dX7_link_114 (by decide) 115 rfl ?_
              refine g_iadd (z := nI ((Lm j) + 1)) C dX7_link_115 116 rfl (nI_add _ _) ?_
              refine g_iast (ws' := [ob o7 7 [.int (nI n), .int (nI m), .int (nI z), .ref uP, .ref uS, .ref uQ, .ref uA, .ref uB, .int (nI c), .ref uK, .int (nI h), .int (nI ns), .ref uM, .ref uF, .ref uY, .ref uT, .ref uL, .ref uC, .ref uX, .int (oI nf), .ref uI, .ref uR, .ref uW, .ref uH, .ref uG], aN (eY E) uM 6 (up Lm j ((Lm j) + 1)), aN (eY E) uF 144 (up Lf ((24 * j) + (Lm j)) y), aN (eY E) uY 144 (up Ly ((24 * j) + (Lm j)) s), aN (eY E) uT 144 (up Lt ((24 * j) + (Lm j)) (5 + t))]) (i := j) C 1 rfl (by omega) (by decide) dX7_link_116 117 rfl (upd_N _ _ _) rfl ?_
              refine g_aload_n C dX7_link_117 rfl 118 rfl 1 rfl ?_
              refine g_get C iX7 0 rfl rfl 12 (by decide) (C.1.2.2.2.2 (.fieldLink RX7 35 "StackRunsModel" "linkMany" "[I") (List.mem_of_getElem? (i := 2) rfl)) rfl dX7_link_118 121 rfl ?_
              refine g_iload_n C dX7_link_121 rfl 122 rfl 2 rfl ?_
              refine g_iald (i := j) C 1 rfl (by omega) (by decide) dX7_link_122 123 rfl ?_
              refine go_st (show Value.int (nI ((up Lm j ((Lm j) + 1)) j)) = .int (nI (Lm j + 1)) from by rw [up_same]) ?_
              have e_5 : (up Lm j (Lm j + 1)) = (up Lm j ((Lm j) + 1)) := by first | with_reducible rfl | (first | rfl | (rw [up_same]; done) | (rw [if_pos (by assumption)]; done) | (rw [if_neg (by assumption)]; done))
              have e_6 : (up Lf (24 * j + Lm j) (if w = 0 then y else 5 + y)) = (up Lf ((24 * j) + (Lm j)) y) := by first | with_reducible rfl | (first | rfl | (rw [up_same]; done) | (rw [if_pos (by assumption)]; done) | (rw [if_neg (by assumption)]; done))
              have e_7 : (up Ly (24 * j + Lm j) s) = (up Ly ((24 * j) + (Lm j)) s) := by first | with_reducible rfl | (first | rfl | (rw [up_same]; done) | (rw [if_pos (by assumption)]; done) | (rw [if_neg (by assumption)]; done))
              have e_8 : (up Lt (24 * j + Lm j) (5 + t)) = (up Lt ((24 * j) + (Lm j)) (5 + t)) := by first | with_reducible rfl | (first | rfl | (rw [up_same]; done) | (rw [if_pos (by assumption)]; done) | (rw [if_neg (by assumption)]; done))
              refine go_eq rfl (st' := [.int (nI (Lm j + 1))]) (ws' := [ob o7 7 [.int (nI n), .int (nI m), .int (nI z), .ref uP, .ref uS, .ref uQ, .ref uA, .ref uB, .int (nI c), .ref uK, .int (nI h), .int (nI ns), .ref uM, .ref uF, .ref uY, .ref uT, .ref uL, .ref uC, .ref uX, .int (oI nf), .ref uI, .ref uR, .ref uW, .ref uH, .ref uG], aN (eY E) uM 6 (up Lm j (Lm j + 1)), aN (eY E) uF 144 (up Lf (24 * j + Lm j) (if w = 0 then y else 5 + y)), aN (eY E) uY 144 (up Ly (24 * j + Lm j) s), aN (eY E) uT 144 (up Lt (24 * j + Lm j) (5 + t))]) (by first | with_reducible rfl | (simp only [e_5, e_6, e_7, e_8, oI_s, oI_0, bI_1, bI_0, and_self, reduceIte]; done)) (by first | with_reducible rfl | (simp only [e_5, e_6, e_7, e_8, oI_s, oI_0, bI_1, bI_0, and_self, reduceIte]; done)) ?_
              exact hret _ _ dX7_link_123
          · intro h50
            have h50 : Lm j = 24 := Decidable.not_not.mp h50
            exact (show False from by omega).elim
        · intro h36
          have h36 : decide ((lN 0) ≤ (lN t) ∧ (lN t) ≤ (lN 5)) = false := by simpa using h36
          exact (show False from by first | exact Bool.noConfusion (h5.symm.trans v1) | exact Bool.noConfusion (h14.symm.trans v2) | exact Bool.noConfusion (h23.symm.trans v3) | exact Bool.noConfusion (h36.symm.trans v4)).elim
set_option maxHeartbeats 4000000 in
set_option maxRecDepth 100000 in
theorem c_X7_last_bad (l : Launch) (D : va_G) (cy : Nat → ClassId) (o7 : Nat) (n : Nat) (m : Nat) (z : Nat) (uP : Nat) (uS : Nat) (uQ : Nat) (uA : Nat) (uB : Nat) (c : Nat) (uK : Nat) (h : Nat) (ns : Nat) (uM : Nat) (uF : Nat) (uY : Nat) (uT : Nat) (uL : Nat) (uC : Nat) (uX : Nat) (nf : Nat) (uI : Nat) (uR : Nat) (uW : Nat) (uH : Nat) (uG : Nat) (La : Nat → Bool) (x : Int32) (w : Int32) (y : Int32) (u : Bool) (hn : n ≤ 5) (hns : ns ≤ 6) (hb : (inR x ns && plR w y n) = false) : CoI l yX7_last wsX7_last 3 68 D cy [ob o7 7 [.int (nI n), .int (nI m), .int (nI z), .ref uP, .ref uS, .ref uQ, .ref uA, .ref uB, .int (nI c), .ref uK, .int (nI h), .int (nI ns), .ref uM, .ref uF, .ref uY, .ref uT, .ref uL, .ref uC, .ref uX, .int (oI nf), .ref uI, .ref uR, .ref uW, .ref uH, .ref uG], aZ cy uL 66 La] [.ref o7, .int x, .int w, .int y, .int (bI u)] [ob o7 7 [.int (nI n), .int (nI m), .int (nI z), .ref uP, .ref uS, .ref uQ, .ref uA, .ref uB, .int (nI c), .ref uK, .int (nI h), .int (nI ns), .ref uM, .ref uF, .ref uY, .ref uT, .ref uL, .ref uC, .ref uX, .int (oI nf), .ref uI, .ref uR, .ref uW, .ref uH, .ref uG], aZ cy uL 66 La] (-2) := by
  refine met_i (cc := cX7_last) (maxL := 7) (own := RX7) (lv := [(0, .ref o7), (1, .int x), (2, .int w), (3, .int y), (4, .int (bI u))]) (by decide) rfl rfl rfl (Nat.le_of_ble_eq_true rfl) (fun E e1 e2 e3 C hret => ?_)
  subst e1; subst e2; subst e3
  refine g_aload_n C dX7_last_0 rfl 1 rfl 0 rfl ?_
  refine g_iload_n C dX7_last_1 rfl 2 rfl 1 rfl ?_
  refine g_cVi (ws2 := [ob o7 7 [.int (nI n), .int (nI m), .int (nI z), .ref uP, .ref uS, .ref uQ, .ref uA, .ref uB, .int (nI c), .ref uK, .int (nI h), .int (nI ns), .ref uM, .ref uF, .ref uY, .ref uT, .ref uL, .ref uC, .ref uX, .int (oI nf), .ref uI, .ref uR, .ref uW, .ref uH, .ref uG], aZ (eY E) uL 66 La]) (As := [.int x]) (st := []) (wsc := [ob o7 7 [.int (nI n), .int (nI m), .int (nI z), .ref uP, .ref uS, .ref uQ, .ref uA, .ref uB, .int (nI c), .ref uK, .int (nI h), .int (nI ns), .ref uM, .ref uF, .ref uY, .ref uT, .ref uL, .ref uC, .ref uX, .int (oI nf), .ref uI, .ref uR, .ref uW, .ref uH, .ref uG]]) (wr := [aZ (eY E) uL 66 La]) C (c_X7_isSet (eL E) (eD E) (eY E) o7 n m z uP uS uQ uA uB c uK h ns uM uF uY uT uL uC uX nf uI uR uW uH uG x (by omega)) 1 gX7_last_X7_isSet rfl (by decide +kernel) (by decide) ⟨Nat.zero_le _, Nat.zero_le _⟩ rfl 0 rfl rfl rfl (Nat.le_of_ble_eq_true rfl) [0] [1] [1, 0] rfl rfl (by decide) (by decide) rfl (by decide) dX7_last_2 5 rfl ?_
  refine g_if_eq (X := inR x ns = false) C dX7_last_5 17 (by decide) 8 rfl (bI_eq0 _) ?_ ?_
  · intro h5
    refine g_bipush (v := (-2)) C dX7_last_17 (by decide) 19 rfl ?_
    exact hret _ _ dX7_last_19
  · intro h5
    have h5 : inR x ns = true := by simpa using h5
    refine g_aload_n C dX7_last_8 rfl 9 rfl 0 rfl ?_
    refine g_iload_n C dX7_last_9 rfl 10 rfl 2 rfl ?_
    refine g_iload_n C dX7_last_10 rfl 11 rfl 3 rfl ?_
    refine g_cVi (ws2 := [ob o7 7 [.int (nI n), .int (nI m), .int (nI z), .ref uP, .ref uS, .ref uQ, .ref uA, .ref uB, .int (nI c), .ref uK, .int (nI h), .int (nI ns), .ref uM, .ref uF, .ref uY, .ref uT, .ref uL, .ref uC, .ref uX, .int (oI nf), .ref uI, .ref uR, .ref uW, .ref uH, .ref uG], aZ (eY E) uL 66 La]) (As := [.int w, .int y]) (st := []) (wsc := [ob o7 7 [.int (nI n), .int (nI m), .int (nI z), .ref uP, .ref uS, .ref uQ, .ref uA, .ref uB, .int (nI c), .ref uK, .int (nI h), .int (nI ns), .ref uM, .ref uF, .ref uY, .ref uT, .ref uL, .ref uC, .ref uX, .int (oI nf), .ref uI, .ref uR, .ref uW, .ref uH, .ref uG]]) (wr := [aZ (eY E) uL 66 La]) C (c_X7_isPlace (eL E) (eD E) (eY E) o7 n m z uP uS uQ uA uB c uK h ns uM uF uY uT uL uC uX nf uI uR uW uH uG w y (by omega)) 2 gX7_last_X7_isPlace rfl (by decide +kernel) (by decide) ⟨Nat.zero_le _, Nat.zero_le _⟩ rfl 0 rfl rfl rfl (Nat.le_of_ble_eq_true rfl) [0] [1] [1, 0] rfl rfl (by decide) (by decide) rfl (by decide) dX7_last_11 14 rfl ?_
    refine g_if_ne (X := plR w y n = true) C dX7_last_14 20 (by decide) 17 rfl (bI_ne0 _) ?_ ?_
    · intro h14
      exact (show False from by rw [h5, h14] at hb; cases hb).elim
    · intro h14
      have h14 : plR w y n = false := by simpa using h14
      refine g_bipush (v := (-2)) C dX7_last_17 (by decide) 19 rfl ?_
      exact hret _ _ dX7_last_19
set_option maxHeartbeats 4000000 in
set_option maxRecDepth 100000 in
theorem c_X7_last_ok (l : Launch) (D : va_G) (cy : Nat → ClassId) (o7 : Nat) (n : Nat) (m : Nat) (z : Nat) (uP : Nat) (uS : Nat) (uQ : Nat) (uA : Nat) (uB : Nat) (c : Nat) (uK : Nat) (h : Nat) (ns : Nat) (uM : Nat) (uF : Nat) (uY : Nat) (uT : Nat) (uL : Nat) (uC : Nat) (uX : Nat) (nf : Nat) (uI : Nat) (uR : Nat) (uW : Nat) (uH : Nat) (uG : Nat) (La : Nat → Bool) (j : Nat) (w : Nat) (y : Nat) (u : Bool) (hn : n ≤ 5) (hns : ns ≤ 6) (hj : j < ns) (hw : w < 2) (hy : if w = 0 then y < n else y < 6) : CoI l yX7_last wsX7_last 3 68 D cy [ob o7 7 [.int (nI n), .int (nI m), .int (nI z), .ref uP, .ref uS, .ref uQ, .ref uA, .ref uB, .int (nI c), .ref uK, .int (nI h), .int (nI ns), .ref uM, .ref uF, .ref uY, .ref uT, .ref uL, .ref uC, .ref uX, .int (oI nf), .ref uI, .ref uR, .ref uW, .ref uH, .ref uG], aZ cy uL 66 La] [.ref o7, .int (nI j), .int (nI w), .int (nI y), .int (bI u)] [ob o7 7 [.int (nI n), .int (nI m), .int (nI z), .ref uP, .ref uS, .ref uQ, .ref uA, .ref uB, .int (nI c), .ref uK, .int (nI h), .int (nI ns), .ref uM, .ref uF, .ref uY, .ref uT, .ref uL, .ref uC, .ref uX, .int (oI nf), .ref uI, .ref uR, .ref uW, .ref uH, .ref uG], aZ cy uL 66 (up La (11 * j + (if w = 0 then y else 5 + y)) u)] (bI (La (11 * j + (if w = 0 then y else 5 + y)))) := by
  refine met_i (cc := cX7_last) (maxL := 7) (own := RX7) (lv := [(0, .ref o7), (1, .int (nI j)), (2, .int (nI w)), (3, .int (nI y)), (4, .int (bI u))]) (by decide) rfl rfl rfl (Nat.le_of_ble_eq_true rfl) (fun E e1 e2 e3 C hret => ?_)
  subst e1; subst e2; subst e3
  have iX7 : ∀ w ∈ wsX70, w ∈ wsX7_last := fun _ h => List.mem_cons_of_mem _ (List.mem_append_right _ h)
  have v1 : inR (nI j) ns = true := inR_yes hj (by omega)
  have v2 : plR (nI w) (nI y) n = true := plR_yes hw hy (by omega)
  have hpl : (if w = 0 then y else 5 + y) < 11 := pl_lt hw hy hn
  refine g_aload_n C dX7_last_0 rfl 1 rfl 0 rfl ?_
  refine g_iload_n C dX7_last_1 rfl 2 rfl 1 rfl ?_
  refine g_cVi (ws2 := [ob o7 7 [.int (nI n), .int (nI m), .int (nI z), .ref uP, .ref uS, .ref uQ, .ref uA, .ref uB, .int (nI c), .ref uK, .int (nI h), .int (nI ns), .ref uM, .ref uF, .ref uY, .ref uT, .ref uL, .ref uC, .ref uX, .int (oI nf), .ref uI, .ref uR, .ref uW, .ref uH, .ref uG], aZ (eY E) uL 66 La]) (As := [.int (nI j)]) (st := []) (wsc := [ob o7 7 [.int (nI n), .int (nI m), .int (nI z), .ref uP, .ref uS, .ref uQ, .ref uA, .ref uB, .int (nI c), .ref uK, .int (nI h), .int (nI ns), .ref uM, .ref uF, .ref uY, .ref uT, .ref uL, .ref uC, .ref uX, .int (oI nf), .ref uI, .ref uR, .ref uW, .ref uH, .ref uG]]) (wr := [aZ (eY E) uL 66 La]) C (c_X7_isSet (eL E) (eD E) (eY E) o7 n m z uP uS uQ uA uB c uK h ns uM uF uY uT uL uC uX nf uI uR uW uH uG (nI j) (by omega)) 1 gX7_last_X7_isSet rfl (by decide +kernel) (by decide) ⟨Nat.zero_le _, Nat.zero_le _⟩ rfl 0 rfl rfl rfl (Nat.le_of_ble_eq_true rfl) [0] [1] [1, 0] rfl rfl (by decide) (by decide) rfl (by decide) dX7_last_2 5 rfl ?_
  refine g_if_eq (X := inR (nI j) ns = false) C dX7_last_5 17 (by decide) 8 rfl (bI_eq0 _) ?_ ?_
  · intro h5
    exact (show False from by first | exact Bool.noConfusion (h5.symm.trans v1) | exact Bool.noConfusion (h14.symm.trans v2)).elim
  · intro h5
    have h5 : inR (nI j) ns = true := by simpa using h5
    refine g_aload_n C dX7_last_8 rfl 9 rfl 0 rfl ?_
    refine g_iload_n C dX7_last_9 rfl 10 rfl 2 rfl ?_
    refine g_iload_n C dX7_last_10 rfl 11 rfl 3 rfl ?_
    refine g_cVi (ws2 := [ob o7 7 [.int (nI n), .int (nI m), .int (nI z), .ref uP, .ref uS, .ref uQ, .ref uA, .ref uB, .int (nI c), .ref uK, .int (nI h), .int (nI ns), .ref uM, .ref uF, .ref uY, .ref uT, .ref uL, .ref uC, .ref uX, .int (oI nf), .ref uI, .ref uR, .ref uW, .ref uH, .ref uG], aZ (eY E) uL 66 La]) (As := [.int (nI w), .int (nI y)]) (st := []) (wsc := [ob o7 7 [.int (nI n), .int (nI m), .int (nI z), .ref uP, .ref uS, .ref uQ, .ref uA, .ref uB, .int (nI c), .ref uK, .int (nI h), .int (nI ns), .ref uM, .ref uF, .ref uY, .ref uT, .ref uL, .ref uC, .ref uX, .int (oI nf), .ref uI, .ref uR, .ref uW, .ref uH, .ref uG]]) (wr := [aZ (eY E) uL 66 La]) C (c_X7_isPlace (eL E) (eD E) (eY E) o7 n m z uP uS uQ uA uB c uK h ns uM uF uY uT uL uC uX nf uI uR uW uH uG (nI w) (nI y) (by omega)) 2 gX7_last_X7_isPlace rfl (by decide +kernel) (by decide) ⟨Nat.zero_le _, Nat.zero_le _⟩ rfl 0 rfl rfl rfl (Nat.le_of_ble_eq_true rfl) [0] [1] [1, 0] rfl rfl (by decide) (by decide) rfl (by decide) dX7_last_11 14 rfl ?_
    refine g_if_ne (X := plR (nI w) (nI y) n = true) C dX7_last_14 20 (by decide) 17 rfl (bI_ne0 _) ?_ ?_
    · intro h14
      refine g_bipush (v := nI 11) C dX7_last_20 (by decide) 22 rfl ?_
      refine g_iload_n C dX7_last_22 rfl 23 rfl 1 rfl ?_
      refine g_imul (z := nI (11 * j)) C dX7_last_23 24 rfl (pk_mul _ _) ?_
      refine g_iload_n C dX7_last_24 rfl 25 rfl 2 rfl ?_
      have J35 : ∀ (q : Nat), (q = (if w = 0 then y else 5 + y)) → Go E 0 0 35 [(0, .ref o7), (1, .int (nI j)), (2, .int (nI w)), (3, .int (nI y)), (4, .int (bI u))] [.int (nI q), .int (nI (11 * j))] [ob o7 7 [.int (nI n), .int (nI m), .int (nI z), .ref uP, .ref uS, .ref uQ, .ref uA, .ref uB, .int (nI c), .ref uK, .int (nI h), .int (nI ns), .ref uM, .ref uF, .ref uY, .ref uT, .ref uL, .ref uC, .ref uX, .int (oI nf), .ref uI, .ref uR, .ref uW, .ref uH, .ref uG], aZ (eY E) uL 66 La] := by
        intro q hq
        refine g_iadd (z := nI ((11 * j) + q)) C dX7_last_35 36 rfl (nI_add _ _) ?_
        refine g_istore (lv' := [(5, .int (nI ((11 * j) + q))), (0, .ref o7), (1, .int (nI j)), (2, .int (nI w)), (3, .int (nI y)), (4, .int (bI u))]) C dX7_last_36 38 rfl (by decide) rfl ?_
        refine g_aload_n C dX7_last_38 rfl 39 rfl 1 rfl ?_
        refine g_get C iX7 0 rfl rfl 16 (by decide) (C.1.2.2.2.2 (.fieldLink RX7 47 "StackRunsModel" "isLast" "[Z") (List.mem_of_getElem? (i := 1) rfl)) rfl dX7_last_39 42 rfl ?_
        refine g_iload C dX7_last_42 44 rfl 0 rfl ?_
        refine g_zald (i := ((11 * j) + q)) C 1 rfl (by omega) (by decide) dX7_last_44 45 rfl ?_
        refine g_if_eq (X := La ((11 * j) + q) = false) C dX7_last_45 52 (by decide) 48 rfl (bI_eq0 _) ?_ ?_
        · intro h45
          refine g_iconst (v := nI 0) C dX7_last_52 (by decide) 53 rfl ?_
          refine g_istore (lv' := [(6, .int (nI 0)), (5, .int (nI ((11 * j) + q))), (0, .ref o7), (1, .int (nI j)), (2, .int (nI w)), (3, .int (nI y)), (4, .int (bI u))]) C dX7_last_53 55 rfl (by decide) rfl ?_
          refine g_aload_n C dX7_last_55 rfl 56 rfl 2 rfl ?_
          refine g_get C iX7 0 rfl rfl 16 (by decide) (C.1.2.2.2.2 (.fieldLink RX7 47 "StackRunsModel" "isLast" "[Z") (List.mem_of_getElem? (i := 1) rfl)) rfl dX7_last_56 59 rfl ?_
          refine g_iload C dX7_last_59 61 rfl 1 rfl ?_
          refine g_iload C dX7_last_61 63 rfl 6 rfl ?_
          refine g_zast (ws' := [ob o7 7 [.int (nI n), .int (nI m), .int (nI z), .ref uP, .ref uS, .ref uQ, .ref uA, .ref uB, .int (nI c), .ref uK, .int (nI h), .int (nI ns), .ref uM, .ref uF, .ref uY, .ref uT, .ref uL, .ref uC, .ref uX, .int (oI nf), .ref uI, .ref uR, .ref uW, .ref uH, .ref uG], aZ (eY E) uL 66 (up La ((11 * j) + q) u)]) (i := ((11 * j) + q)) C 1 rfl (by omega) (by decide) dX7_last_63 64 rfl (upd_Z _ _ _) rfl ?_
          refine g_iload C dX7_last_64 66 rfl 0 rfl ?_
          have e_1 : (La (11 * j + (if w = 0 then y else 5 + y))) = false := by first | with_reducible rfl | (rw [← hq]; first | done | assumption | exact h45)
          have e_2 : (up La (11 * j + (if w = 0 then y else 5 + y)) u) = (up La ((11 * j) + q) u) := by first | with_reducible rfl | (rw [← hq]; first | done | assumption | exact h45)
          refine go_eq rfl (st' := [.int (bI (La (11 * j + (if w = 0 then y else 5 + y))))]) (ws' := [ob o7 7 [.int (nI n), .int (nI m), .int (nI z), .ref uP, .ref uS, .ref uQ, .ref uA, .ref uB, .int (nI c), .ref uK, .int (nI h), .int (nI ns), .ref uM, .ref uF, .ref uY, .ref uT, .ref uL, .ref uC, .ref uX, .int (oI nf), .ref uI, .ref uR, .ref uW, .ref uH, .ref uG], aZ (eY E) uL 66 (up La (11 * j + (if w = 0 then y else 5 + y)) u)]) (by first | with_reducible rfl | (simp only [e_1, e_2, oI_s, oI_0, bI_1, bI_0, and_self, reduceIte]; done)) (by first | with_reducible rfl | (simp only [e_1, e_2, oI_s, oI_0, bI_1, bI_0, and_self, reduceIte]; done)) ?_
          exact hret _ _ dX7_last_66
        · intro h45
          have h45 : La ((11 * j) + q) = true := by simpa using h45
          refine g_iconst (v := nI 1) C dX7_last_48 (by decide) 49 rfl ?_
          refine g_goto C dX7_last_49 53 (by decide) ?_
          refine g_istore (lv' := [(6, .int (nI 1)), (5, .int (nI ((11 * j) + q))), (0, .ref o7), (1, .int (nI j)), (2, .int (nI w)), (3, .int (nI y)), (4, .int (bI u))]) C dX7_last_53 55 rfl (by decide) rfl ?_
          refine g_aload_n C dX7_last_55 rfl 56 rfl 2 rfl ?_
          refine g_get C iX7 0 rfl rfl 16 (by decide) (C.1.2.2.2.2 (.fieldLink RX7 47 "StackRunsModel" "isLast" "[Z") (List.mem_of_getElem? (i := 1) rfl)) rfl dX7_last_56 59 rfl ?_
          refine g_iload C dX7_last_59 61 rfl 1 rfl ?_
          refine g_iload C dX7_last_61 63 rfl 6 rfl ?_
          refine g_zast (ws' := [ob o7 7 [.int (nI n), .int (nI m), .int (nI z), .ref uP, .ref uS, .ref uQ, .ref uA, .ref uB, .int (nI c), .ref uK, .int (nI h), .int (nI ns), .ref uM, .ref uF, .ref uY, .ref uT, .ref uL, .ref uC, .ref uX, .int (oI nf), .ref uI, .ref uR, .ref uW, .ref uH, .ref uG], aZ (eY E) uL 66 (up La ((11 * j) + q) u)]) (i := ((11 * j) + q)) C 1 rfl (by omega) (by decide) dX7_last_63 64 rfl (upd_Z _ _ _) rfl ?_
          refine g_iload C dX7_last_64 66 rfl 0 rfl ?_
          have e_3 : (La (11 * j + (if w = 0 then y else 5 + y))) = true := by first | with_reducible rfl | (rw [← hq]; first | done | assumption | exact h45)
          have e_4 : (up La (11 * j + (if w = 0 then y else 5 + y)) u) = (up La ((11 * j) + q) u) := by first | with_reducible rfl | (rw [← hq]; first | done | assumption | exact h45)
          refine go_eq rfl (st' := [.int (bI (La (11 * j + (if w = 0 then y else 5 + y))))]) (ws' := [ob o7 7 [.int (nI n), .int (nI m), .int (nI z), .ref uP, .ref uS, .ref uQ, .ref uA, .ref uB, .int (nI c), .ref uK, .int (nI h), .int (nI ns), .ref uM, .ref uF, .ref uY, .ref uT, .ref uL, .ref uC, .ref uX, .int (oI nf), .ref uI, .ref uR, .ref uW, .ref uH, .ref uG], aZ (eY E) uL 66 (up La (11 * j + (if w = 0 then y else 5 + y)) u)]) (by first | with_reducible rfl | (simp only [e_3, e_4, oI_s, oI_0, bI_1, bI_0, and_self, reduceIte]; done)) (by first | with_reducible rfl | (simp only [e_3, e_4, oI_s, oI_0, bI_1, bI_0, and_self, reduceIte]; done)) ?_
          exact hret _ _ dX7_last_66
      refine g_if_ne (X := ¬ w = 0) C dX7_last_25 32 (by decide) 28 rfl (not_congr (nI_eq0 (by omega))) ?_ ?_
      · intro h25
        refine g_iconst (v := nI 5) C dX7_last_32 (by decide) 33 rfl ?_
        refine g_iload_n C dX7_last_33 rfl 34 rfl 3 rfl ?_
        refine g_iadd (z := nI (5 + y)) C dX7_last_34 35 rfl (nI_add _ _) ?_
        exact J35 (5 + y) (by first | (rw [if_pos (by assumption)]) | (rw [if_neg (by assumption)]))
      · intro h25
        have h25 : w = 0 := Decidable.not_not.mp h25
        refine g_iload_n C dX7_last_28 rfl 29 rfl 3 rfl ?_
        refine g_goto C dX7_last_29 35 (by decide) ?_
        exact J35 y (by first | (rw [if_pos (by assumption)]) | (rw [if_neg (by assumption)]))
    · intro h14
      have h14 : plR (nI w) (nI y) n = false := by simpa using h14
      exact (show False from by first | exact Bool.noConfusion (h5.symm.trans v1) | exact Bool.noConfusion (h14.symm.trans v2)).elim
set_option maxHeartbeats 4000000 in
set_option maxRecDepth 100000 in
theorem c_X7_unset_not (l : Launch) (D : va_G) (cy : Nat → ClassId) (o7 : Nat) (n : Nat) (m : Nat) (z : Nat) (uP : Nat) (uS : Nat) (uQ : Nat) (uA : Nat) (uB : Nat) (c : Nat) (uK : Nat) (h : Nat) (ns : Nat) (uM : Nat) (uF : Nat) (uY : Nat) (uT : Nat) (uL : Nat) (uC : Nat) (uX : Nat) (nf : Nat) (uI : Nat) (uR : Nat) (uW : Nat) (uH : Nat) (uG : Nat) (hn : ns = 0) : CoI l yX7_unset wsX7_unset 0 0 D cy [ob o7 7 [.int (nI n), .int (nI m), .int (nI z), .ref uP, .ref uS, .ref uQ, .ref uA, .ref uB, .int (nI c), .ref uK, .int (nI h), .int (nI ns), .ref uM, .ref uF, .ref uY, .ref uT, .ref uL, .ref uC, .ref uX, .int (oI nf), .ref uI, .ref uR, .ref uW, .ref uH, .ref uG]] [.ref o7] [ob o7 7 [.int (nI n), .int (nI m), .int (nI z), .ref uP, .ref uS, .ref uQ, .ref uA, .ref uB, .int (nI c), .ref uK, .int (nI h), .int (nI ns), .ref uM, .ref uF, .ref uY, .ref uT, .ref uL, .ref uC, .ref uX, .int (oI nf), .ref uI, .ref uR, .ref uW, .ref uH, .ref uG]] (-3) := by
  refine met_i (cc := cX7_unset) (maxL := 1) (own := RX7) (lv := [(0, .ref o7)]) (by decide) rfl rfl rfl (Nat.le_of_ble_eq_true rfl) (fun E e1 e2 e3 C hret => ?_)
  subst e1; subst e2; subst e3
  have iX7 : ∀ w ∈ wsX70, w ∈ wsX7_unset := fun _ h => List.mem_cons_of_mem _ (List.mem_append_right _ h)
  refine g_aload_n C dX7_unset_0 rfl 1 rfl 0 rfl ?_
  refine g_get C iX7 0 rfl rfl 11 (by decide) (C.1.2.2.2.2 (.fieldLink RX7 88 "StackRunsModel" "sets" "I") (List.mem_of_getElem? (i := 1) rfl)) rfl dX7_unset_1 4 rfl ?_
  refine g_if_ne (X := ¬ ns = 0) C dX7_unset_4 10 (by decide) 7 rfl (not_congr (nI_eq0 (by omega))) ?_ ?_
  · intro h4
    exact (show False from by omega).elim
  · intro h4
    have h4 : ns = 0 := Decidable.not_not.mp h4
    refine g_bipush (v := (-3)) C dX7_unset_7 (by decide) 9 rfl ?_
    exact hret _ _ dX7_unset_9
set_option maxHeartbeats 4000000 in
set_option maxRecDepth 100000 in
theorem c_X7_unset_ok (l : Launch) (D : va_G) (cy : Nat → ClassId) (o7 : Nat) (n : Nat) (m : Nat) (z : Nat) (uP : Nat) (uS : Nat) (uQ : Nat) (uA : Nat) (uB : Nat) (c : Nat) (uK : Nat) (h : Nat) (ns : Nat) (uM : Nat) (uF : Nat) (uY : Nat) (uT : Nat) (uL : Nat) (uC : Nat) (uX : Nat) (nf : Nat) (uI : Nat) (uR : Nat) (uW : Nat) (uH : Nat) (uG : Nat) (hn : 0 < ns ∧ ns ≤ 6) : CoI l yX7_unset wsX7_unset 0 0 D cy [ob o7 7 [.int (nI n), .int (nI m), .int (nI z), .ref uP, .ref uS, .ref uQ, .ref uA, .ref uB, .int (nI c), .ref uK, .int (nI h), .int (nI ns), .ref uM, .ref uF, .ref uY, .ref uT, .ref uL, .ref uC, .ref uX, .int (oI nf), .ref uI, .ref uR, .ref uW, .ref uH, .ref uG]] [.ref o7] [ob o7 7 [.int (nI n), .int (nI m), .int (nI z), .ref uP, .ref uS, .ref uQ, .ref uA, .ref uB, .int (nI c), .ref uK, .int (nI h), .int (nI (ns - 1)), .ref uM, .ref uF, .ref uY, .ref uT, .ref uL, .ref uC, .ref uX, .int (oI nf), .ref uI, .ref uR, .ref uW, .ref uH, .ref uG]] (nI (ns - 1)) := by
  refine met_i (cc := cX7_unset) (maxL := 1) (own := RX7) (lv := [(0, .ref o7)]) (by decide) rfl rfl rfl (Nat.le_of_ble_eq_true rfl) (fun E e1 e2 e3 C hret => ?_)
  subst e1; subst e2; subst e3
  have iX7 : ∀ w ∈ wsX70, w ∈ wsX7_unset := fun _ h => List.mem_cons_of_mem _ (List.mem_append_right _ h)
  refine g_aload_n C dX7_unset_0 rfl 1 rfl 0 rfl ?_
  refine g_get C iX7 0 rfl rfl 11 (by decide) (C.1.2.2.2.2 (.fieldLink RX7 88 "StackRunsModel" "sets" "I") (List.mem_of_getElem? (i := 1) rfl)) rfl dX7_unset_1 4 rfl ?_
  refine g_if_ne (X := ¬ ns = 0) C dX7_unset_4 10 (by decide) 7 rfl (not_congr (nI_eq0 (by omega))) ?_ ?_
  · intro h4
    refine g_aload_n C dX7_unset_10 rfl 11 rfl 0 rfl ?_
    refine g_dup C dX7_unset_11 rfl 12 rfl ?_
    refine g_get C iX7 0 rfl rfl 11 (by decide) (C.1.2.2.2.2 (.fieldLink RX7 88 "StackRunsModel" "sets" "I") (List.mem_of_getElem? (i := 1) rfl)) rfl dX7_unset_12 15 rfl ?_
    refine g_iconst (v := nI 1) C dX7_unset_15 (by decide) 16 rfl ?_
    refine g_isub (z := nI (ns - 1)) C dX7_unset_16 17 rfl (pk_sub (by omega)) ?_
    refine g_put (ws' := [ob o7 7 [.int (nI n), .int (nI m), .int (nI z), .ref uP, .ref uS, .ref uQ, .ref uA, .ref uB, .int (nI c), .ref uK, .int (nI h), .int (nI (ns - 1)), .ref uM, .ref uF, .ref uY, .ref uT, .ref uL, .ref uC, .ref uX, .int (oI nf), .ref uI, .ref uR, .ref uW, .ref uH, .ref uG]]) (ty := .int) C iX7 tyX7_ok nmX7 0 rfl rfl 11 (by decide) (C.1.2.2.2.2 (.fieldLink RX7 88 "StackRunsModel" "sets" "I") (List.mem_of_getElem? (i := 1) rfl)) rfl (by decide +kernel) rfl rfl (Nat.le_of_ble_eq_true rfl) dX7_unset_17 20 rfl rfl ?_
    refine g_aload_n C dX7_unset_20 rfl 21 rfl 0 rfl ?_
    refine g_get C iX7 0 rfl rfl 11 (by decide) (C.1.2.2.2.2 (.fieldLink RX7 88 "StackRunsModel" "sets" "I") (List.mem_of_getElem? (i := 1) rfl)) rfl dX7_unset_21 24 rfl ?_
    exact hret _ _ dX7_unset_24
  · intro h4
    have h4 : ns = 0 := Decidable.not_not.mp h4
    exact (show False from by omega).elim
set_option maxHeartbeats 4000000 in
set_option maxRecDepth 100000 in
theorem c_X7_in_bad (l : Launch) (D : va_G) (cy : Nat → ClassId) (o7 : Nat) (n : Nat) (m : Nat) (z : Nat) (uP : Nat) (uS : Nat) (uQ : Nat) (uA : Nat) (uB : Nat) (c : Nat) (uK : Nat) (h : Nat) (ns : Nat) (uM : Nat) (uF : Nat) (uY : Nat) (uT : Nat) (uL : Nat) (uC : Nat) (uX : Nat) (nf : Nat) (uI : Nat) (uR : Nat) (uW : Nat) (uH : Nat) (uG : Nat) (x : Int32) (hns : ns ≤ 6) (hb : inR x ns = false) : CoI l yX7_in wsX7_in 2 46 D cy [ob o7 7 [.int (nI n), .int (nI m), .int (nI z), .ref uP, .ref uS, .ref uQ, .ref uA, .ref uB, .int (nI c), .ref uK, .int (nI h), .int (nI ns), .ref uM, .ref uF, .ref uY, .ref uT, .ref uL, .ref uC, .ref uX, .int (oI nf), .ref uI, .ref uR, .ref uW, .ref uH, .ref uG]] [.ref o7, .int x] [ob o7 7 [.int (nI n), .int (nI m), .int (nI z), .ref uP, .ref uS, .ref uQ, .ref uA, .ref uB, .int (nI c), .ref uK, .int (nI h), .int (nI ns), .ref uM, .ref uF, .ref uY, .ref uT, .ref uL, .ref uC, .ref uX, .int (oI nf), .ref uI, .ref uR, .ref uW, .ref uH, .ref uG]] (-2) := by
  refine met_i (cc := cX7_in) (maxL := 2) (own := RX7) (lv := [(0, .ref o7), (1, .int x)]) (by decide) rfl rfl rfl (Nat.le_of_ble_eq_true rfl) (fun E e1 e2 e3 C hret => ?_)
  subst e1; subst e2; subst e3
  refine g_aload_n C dX7_in_0 rfl 1 rfl 0 rfl ?_
  refine g_iload_n C dX7_in_1 rfl 2 rfl 1 rfl ?_
  refine g_cVi (ws2 := [ob o7 7 [.int (nI n), .int (nI m), .int (nI z), .ref uP, .ref uS, .ref uQ, .ref uA, .ref uB, .int (nI c), .ref uK, .int (nI h), .int (nI ns), .ref uM, .ref uF, .ref uY, .ref uT, .ref uL, .ref uC, .ref uX, .int (oI nf), .ref uI, .ref uR, .ref uW, .ref uH, .ref uG]]) (As := [.int x]) (st := []) (wsc := [ob o7 7 [.int (nI n), .int (nI m), .int (nI z), .ref uP, .ref uS, .ref uQ, .ref uA, .ref uB, .int (nI c), .ref uK, .int (nI h), .int (nI ns), .ref uM, .ref uF, .ref uY, .ref uT, .ref uL, .ref uC, .ref uX, .int (oI nf), .ref uI, .ref uR, .ref uW, .ref uH, .ref uG]]) (wr := []) C (c_X7_isSet (eL E) (eD E) (eY E) o7 n m z uP uS uQ uA uB c uK h ns uM uF uY uT uL uC uX nf uI uR uW uH uG x (by omega)) 1 gX7_in_X7_isSet rfl (by decide +kernel) (by decide) ⟨Nat.zero_le _, Nat.zero_le _⟩ rfl 0 rfl rfl rfl (Nat.le_of_ble_eq_true rfl) [0] [] [0] rfl rfl (by decide) (by decide) rfl (by decide) dX7_in_2 5 rfl ?_
  refine g_if_ne (X := inR x ns = true) C dX7_in_5 13 (by decide) 8 rfl (bI_ne0 _) ?_ ?_
  · intro h5
    exact (show False from by exact Bool.noConfusion (hb.symm.trans h5)).elim
  · intro h5
    have h5 : inR x ns = false := by simpa using h5
    refine g_bipush (v := (-2)) C dX7_in_8 (by decide) 10 rfl ?_
    refine g_goto C dX7_in_10 26 (by decide) ?_
    exact hret _ _ dX7_in_26
set_option maxHeartbeats 4000000 in
set_option maxRecDepth 100000 in
theorem c_X7_in_ok (l : Launch) (D : va_G) (cy : Nat → ClassId) (o7 : Nat) (n : Nat) (m : Nat) (z : Nat) (uP : Nat) (uS : Nat) (uQ : Nat) (uA : Nat) (uB : Nat) (c : Nat) (uK : Nat) (h : Nat) (ns : Nat) (uM : Nat) (uF : Nat) (uY : Nat) (uT : Nat) (uL : Nat) (uC : Nat) (uX : Nat) (nf : Nat) (uI : Nat) (uR : Nat) (uW : Nat) (uH : Nat) (uG : Nat) (Lm : Nat → Nat) (Lf : Nat → Nat) (Ly : Nat → Nat) (Lt : Nat → Nat) (La : Nat → Bool) (Sg : Nat → Nat) (j : Nat) (hL : ∀ k, Lf k < 11 ∧ Ly k < 5 ∧ Lt k < 11) (hLm : ∀ k, Lm k ≤ 24) (hns : ns ≤ 6) (hj : j < ns) (hc : c < 5) (hh : h ≤ 60) (hS : ∀ i, Sg i < 5) : CoI l yX7_in wsX7_in 2 52 D cy [ob o7 7 [.int (nI n), .int (nI m), .int (nI z), .ref uP, .ref uS, .ref uQ, .ref uA, .ref uB, .int (nI c), .ref uK, .int (nI h), .int (nI ns), .ref uM, .ref uF, .ref uY, .ref uT, .ref uL, .ref uC, .ref uX, .int (oI nf), .ref uI, .ref uR, .ref uW, .ref uH, .ref uG], aN cy uM 6 Lm, aN cy uF 144 Lf, aN cy uY 144 Ly, aN cy uT 144 Lt, aZ cy uL 66 La, aN cy uK 60 Sg] [.ref o7, .int (nI j)] [ob o7 7 [.int (nI n), .int (nI m), .int (nI z), .ref uP, .ref uS, .ref uQ, .ref uA, .ref uB, .int (nI c), .ref uK, .int (nI h), .int (nI ns), .ref uM, .ref uF, .ref uY, .ref uT, .ref uL, .ref uC, .ref uX, .int (oI nf), .ref uI, .ref uR, .ref uW, .ref uH, .ref uG], aN cy uM 6 Lm, aN cy uF 144 Lf, aN cy uY 144 Ly, aN cy uT 144 Lt, aZ cy uL 66 La, aN cy uK 60 Sg] (bI (mlF La (11 * j) (mhF (lkG Lf Ly Lt Lm j) Sg h (1 * 2 ^ c)) 11)) := by
  refine met_i (cc := cX7_in) (maxL := 2) (own := RX7) (lv := [(0, .ref o7), (1, .int (nI j))]) (by decide) rfl rfl rfl (Nat.le_of_ble_eq_true rfl) (fun E e1 e2 e3 C hret => ?_)
  subst e1; subst e2; subst e3
  have v1 : inR (nI j) ns = true := inR_yes hj (by omega)
  refine g_aload_n C dX7_in_0 rfl 1 rfl 0 rfl ?_
  refine g_iload_n C dX7_in_1 rfl 2 rfl 1 rfl ?_
  refine g_cVi (ws2 := [ob o7 7 [.int (nI n), .int (nI m), .int (nI z), .ref uP, .ref uS, .ref uQ, .ref uA, .ref uB, .int (nI c), .ref uK, .int (nI h), .int (nI ns), .ref uM, .ref uF, .ref uY, .ref uT, .ref uL, .ref uC, .ref uX, .int (oI nf), .ref uI, .ref uR, .ref uW, .ref uH, .ref uG], aN (eY E) uM 6 Lm, aN (eY E) uF 144 Lf, aN (eY E) uY 144 Ly, aN (eY E) uT 144 Lt, aZ (eY E) uL 66 La, aN (eY E) uK 60 Sg]) (As := [.int (nI j)]) (st := []) (wsc := [ob o7 7 [.int (nI n), .int (nI m), .int (nI z), .ref uP, .ref uS, .ref uQ, .ref uA, .ref uB, .int (nI c), .ref uK, .int (nI h), .int (nI ns), .ref uM, .ref uF, .ref uY, .ref uT, .ref uL, .ref uC, .ref uX, .int (oI nf), .ref uI, .ref uR, .ref uW, .ref uH, .ref uG]]) (wr := [aN (eY E) uM 6 Lm, aN (eY E) uF 144 Lf, aN (eY E) uY 144 Ly, aN (eY E) uT 144 Lt, aZ (eY E) uL 66 La, aN (eY E) uK 60 Sg]) C (c_X7_isSet (eL E) (eD E) (eY E) o7 n m z uP uS uQ uA uB c uK h ns uM uF uY uT uL uC uX nf uI uR uW uH uG (nI j) (by omega)) 1 gX7_in_X7_isSet rfl (by decide +kernel) (by decide) ⟨Nat.zero_le _, Nat.zero_le _⟩ rfl 0 rfl rfl rfl (Nat.le_of_ble_eq_true rfl) [0] [1, 2, 3, 4, 5, 6] [6, 0, 1, 2, 3, 4, 5] rfl rfl (by decide) (by decide) rfl (by decide) dX7_in_2 5 rfl ?_
  refine g_if_ne (X := inR (nI j) ns = true) C dX7_in_5 13 (by decide) 8 rfl (bI_ne0 _) ?_ ?_
  · intro h5
    refine g_aload_n C dX7_in_13 rfl 14 rfl 0 rfl ?_
    refine g_iload_n C dX7_in_14 rfl 15 rfl 1 rfl ?_
    refine g_cVi (ws2 := [ob o7 7 [.int (nI n), .int (nI m), .int (nI z), .ref uP, .ref uS, .ref uQ, .ref uA, .ref uB, .int (nI c), .ref uK, .int (nI h), .int (nI ns), .ref uM, .ref uF, .ref uY, .ref uT, .ref uL, .ref uC, .ref uX, .int (oI nf), .ref uI, .ref uR, .ref uW, .ref uH, .ref uG], aN (eY E) uM 6 Lm, aN (eY E) uF 144 Lf, aN (eY E) uY 144 Ly, aN (eY E) uT 144 Lt, aZ (eY E) uL 66 La, aN (eY E) uK 60 Sg]) (As := [.int (nI j)]) (st := []) (wsc := [ob o7 7 [.int (nI n), .int (nI m), .int (nI z), .ref uP, .ref uS, .ref uQ, .ref uA, .ref uB, .int (nI c), .ref uK, .int (nI h), .int (nI ns), .ref uM, .ref uF, .ref uY, .ref uT, .ref uL, .ref uC, .ref uX, .int (oI nf), .ref uI, .ref uR, .ref uW, .ref uH, .ref uG], aN (eY E) uM 6 Lm, aN (eY E) uF 144 Lf, aN (eY E) uY 144 Ly, aN (eY E) uT 144 Lt, aZ (eY E) uL 66 La, aN (eY E) uK 60 Sg]) (wr := []) C (c_X7_holds (eL E) (eD E) (eY E) o7 n m z uP uS uQ uA uB c uK h ns uM uF uY uT uL uC uX nf uI uR uW uH uG Lm Lf Ly Lt La Sg j (by assumption) (by assumption) (by omega) (by omega) (by omega) (by assumption)) 1 gX7_in_X7_holds rfl (by decide +kernel) (by decide) ⟨Nat.zero_le _, Nat.zero_le _⟩ rfl 0 rfl rfl rfl (Nat.le_of_ble_eq_true rfl) [0, 1, 2, 3, 4, 5, 6] [] [0, 1, 2, 3, 4, 5, 6] rfl rfl (by decide) (by decide) rfl (by decide) dX7_in_15 18 rfl ?_
    refine g_if_eq (X := mlF La (11 * j) (mhF (lkG Lf Ly Lt Lm j) Sg h (1 * 2 ^ c)) 11 = false) C dX7_in_18 25 (by decide) 21 rfl (bI_eq0 _) ?_ ?_
    · intro h18
      refine g_iconst (v := nI 0) C dX7_in_25 (by decide) 26 rfl ?_
      have e_1 : (mlF La (11 * j) (mhF (lkG Lf Ly Lt Lm j) Sg h (1 * 2 ^ c)) 11) = false := by first | with_reducible rfl | (assumption)
      refine go_eq rfl (st' := [.int (bI (mlF La (11 * j) (mhF (lkG Lf Ly Lt Lm j) Sg h (1 * 2 ^ c)) 11))]) (ws' := [ob o7 7 [.int (nI n), .int (nI m), .int (nI z), .ref uP, .ref uS, .ref uQ, .ref uA, .ref uB, .int (nI c), .ref uK, .int (nI h), .int (nI ns), .ref uM, .ref uF, .ref uY, .ref uT, .ref uL, .ref uC, .ref uX, .int (oI nf), .ref uI, .ref uR, .ref uW, .ref uH, .ref uG], aN (eY E) uM 6 Lm, aN (eY E) uF 144 Lf, aN (eY E) uY 144 Ly, aN (eY E) uT 144 Lt, aZ (eY E) uL 66 La, aN (eY E) uK 60 Sg]) (by first | with_reducible rfl | (simp only [e_1, oI_s, oI_0, bI_1, bI_0, and_self, reduceIte]; done)) (by first | with_reducible rfl | (simp only [e_1, oI_s, oI_0, bI_1, bI_0, and_self, reduceIte]; done)) ?_
      exact hret _ _ dX7_in_26
    · intro h18
      have h18 : mlF La (11 * j) (mhF (lkG Lf Ly Lt Lm j) Sg h (1 * 2 ^ c)) 11 = true := by simpa using h18
      refine g_iconst (v := nI 1) C dX7_in_21 (by decide) 22 rfl ?_
      refine g_goto C dX7_in_22 26 (by decide) ?_
      have e_2 : (mlF La (11 * j) (mhF (lkG Lf Ly Lt Lm j) Sg h (1 * 2 ^ c)) 11) = true := by first | with_reducible rfl | (assumption)
      refine go_eq rfl (st' := [.int (bI (mlF La (11 * j) (mhF (lkG Lf Ly Lt Lm j) Sg h (1 * 2 ^ c)) 11))]) (ws' := [ob o7 7 [.int (nI n), .int (nI m), .int (nI z), .ref uP, .ref uS, .ref uQ, .ref uA, .ref uB, .int (nI c), .ref uK, .int (nI h), .int (nI ns), .ref uM, .ref uF, .ref uY, .ref uT, .ref uL, .ref uC, .ref uX, .int (oI nf), .ref uI, .ref uR, .ref uW, .ref uH, .ref uG], aN (eY E) uM 6 Lm, aN (eY E) uF 144 Lf, aN (eY E) uY 144 Ly, aN (eY E) uT 144 Lt, aZ (eY E) uL 66 La, aN (eY E) uK 60 Sg]) (by first | with_reducible rfl | (simp only [e_2, oI_s, oI_0, bI_1, bI_0, and_self, reduceIte]; done)) (by first | with_reducible rfl | (simp only [e_2, oI_s, oI_0, bI_1, bI_0, and_self, reduceIte]; done)) ?_
      exact hret _ _ dX7_in_26
  · intro h5
    have h5 : inR (nI j) ns = false := by simpa using h5
    exact (show False from by exact Bool.noConfusion (h5.symm.trans v1)).elim
set_option maxHeartbeats 4000000 in
set_option maxRecDepth 100000 in
theorem c_X7_count_0 (l : Launch) (D : va_G) (cy : Nat → ClassId) (o7 : Nat) (n : Nat) (m : Nat) (z : Nat) (uP : Nat) (uS : Nat) (uQ : Nat) (uA : Nat) (uB : Nat) (c : Nat) (uK : Nat) (h : Nat) (ns : Nat) (uM : Nat) (uF : Nat) (uY : Nat) (uT : Nat) (uL : Nat) (uC : Nat) (uX : Nat) (nf : Nat) (uI : Nat) (uR : Nat) (uW : Nat) (uH : Nat) (uG : Nat) (Pp : Nat → Nat) (Ps : Nat → Nat) (Sg : Nat → Nat) (hz : z ≤ 30) (hR : ∀ r, Pp r < 5 ∧ Ps r < 5) (hc : c < 5) (hh : h ≤ 60) (hS : ∀ i, Sg i < 5) : CoI l yX7_count wsX7_count 0 0 D cy [ob o7 7 [.int (nI n), .int (nI m), .int (nI z), .ref uP, .ref uS, .ref uQ, .ref uA, .ref uB, .int (nI c), .ref uK, .int (nI h), .int (nI ns), .ref uM, .ref uF, .ref uY, .ref uT, .ref uL, .ref uC, .ref uX, .int (oI nf), .ref uI, .ref uR, .ref uW, .ref uH, .ref uG], aN cy uP 30 Pp, aN cy uS 30 Ps, aN cy uK 60 Sg] [.ref o7, .int (nI 0)] [ob o7 7 [.int (nI n), .int (nI m), .int (nI z), .ref uP, .ref uS, .ref uQ, .ref uA, .ref uB, .int (nI c), .ref uK, .int (nI h), .int (nI ns), .ref uM, .ref uF, .ref uY, .ref uT, .ref uL, .ref uC, .ref uX, .int (oI nf), .ref uI, .ref uR, .ref uW, .ref uH, .ref uG], aN cy uP 30 Pp, aN cy uS 30 Ps, aN cy uK 60 Sg] (nI n) := by
  refine met_i (cc := cX7_count) (maxL := 4) (own := RX7) (lv := [(0, .ref o7), (1, .int (nI 0))]) (by decide) rfl rfl rfl (Nat.le_of_ble_eq_true rfl) (fun E e1 e2 e3 C hret => ?_)
  subst e1; subst e2; subst e3
  have iX7 : ∀ w ∈ wsX70, w ∈ wsX7_count := fun _ h => List.mem_cons_of_mem _ (List.mem_append_right _ h)
  refine g_iload_n C dX7_count_0 rfl 1 rfl 1 rfl ?_
  refine g_tabIn (off := 39) C dX7_count_1 (by decide) (by decide) (by decide) 40 (by decide) ?_
  refine g_aload_n C dX7_count_40 rfl 41 rfl 0 rfl ?_
  refine g_get C iX7 0 rfl rfl 0 (by decide) (C.1.2.2.2.2 (.fieldLink RX7 7 "StackRunsModel" "controls" "I") (List.mem_of_getElem? (i := 1) rfl)) rfl dX7_count_41 44 rfl ?_
  exact hret _ _ dX7_count_44
set_option maxHeartbeats 4000000 in
set_option maxRecDepth 100000 in
theorem c_X7_count_1 (l : Launch) (D : va_G) (cy : Nat → ClassId) (o7 : Nat) (n : Nat) (m : Nat) (z : Nat) (uP : Nat) (uS : Nat) (uQ : Nat) (uA : Nat) (uB : Nat) (c : Nat) (uK : Nat) (h : Nat) (ns : Nat) (uM : Nat) (uF : Nat) (uY : Nat) (uT : Nat) (uL : Nat) (uC : Nat) (uX : Nat) (nf : Nat) (uI : Nat) (uR : Nat) (uW : Nat) (uH : Nat) (uG : Nat) (Pp : Nat → Nat) (Ps : Nat → Nat) (Sg : Nat → Nat) (hz : z ≤ 30) (hR : ∀ r, Pp r < 5 ∧ Ps r < 5) (hc : c < 5) (hh : h ≤ 60) (hS : ∀ i, Sg i < 5) : CoI l yX7_count wsX7_count 0 0 D cy [ob o7 7 [.int (nI n), .int (nI m), .int (nI z), .ref uP, .ref uS, .ref uQ, .ref uA, .ref uB, .int (nI c), .ref uK, .int (nI h), .int (nI ns), .ref uM, .ref uF, .ref uY, .ref uT, .ref uL, .ref uC, .ref uX, .int (oI nf), .ref uI, .ref uR, .ref uW, .ref uH, .ref uG], aN cy uP 30 Pp, aN cy uS 30 Ps, aN cy uK 60 Sg] [.ref o7, .int (nI 1)] [ob o7 7 [.int (nI n), .int (nI m), .int (nI z), .ref uP, .ref uS, .ref uQ, .ref uA, .ref uB, .int (nI c), .ref uK, .int (nI h), .int (nI ns), .ref uM, .ref uF, .ref uY, .ref uT, .ref uL, .ref uC, .ref uX, .int (oI nf), .ref uI, .ref uR, .ref uW, .ref uH, .ref uG], aN cy uP 30 Pp, aN cy uS 30 Ps, aN cy uK 60 Sg] (nI m) := by
  refine met_i (cc := cX7_count) (maxL := 4) (own := RX7) (lv := [(0, .ref o7), (1, .int (nI 1))]) (by decide) rfl rfl rfl (Nat.le_of_ble_eq_true rfl) (fun E e1 e2 e3 C hret => ?_)
  subst e1; subst e2; subst e3
  have iX7 : ∀ w ∈ wsX70, w ∈ wsX7_count := fun _ h => List.mem_cons_of_mem _ (List.mem_append_right _ h)
  refine g_iload_n C dX7_count_0 rfl 1 rfl 1 rfl ?_
  refine g_tabIn (off := 44) C dX7_count_1 (by decide) (by decide) (by decide) 45 (by decide) ?_
  refine g_aload_n C dX7_count_45 rfl 46 rfl 0 rfl ?_
  refine g_get C iX7 0 rfl rfl 1 (by decide) (C.1.2.2.2.2 (.fieldLink RX7 13 "StackRunsModel" "signs" "I") (List.mem_of_getElem? (i := 2) rfl)) rfl dX7_count_46 49 rfl ?_
  exact hret _ _ dX7_count_49
set_option maxHeartbeats 4000000 in
set_option maxRecDepth 100000 in
theorem c_X7_count_2 (l : Launch) (D : va_G) (cy : Nat → ClassId) (o7 : Nat) (n : Nat) (m : Nat) (z : Nat) (uP : Nat) (uS : Nat) (uQ : Nat) (uA : Nat) (uB : Nat) (c : Nat) (uK : Nat) (h : Nat) (ns : Nat) (uM : Nat) (uF : Nat) (uY : Nat) (uT : Nat) (uL : Nat) (uC : Nat) (uX : Nat) (nf : Nat) (uI : Nat) (uR : Nat) (uW : Nat) (uH : Nat) (uG : Nat) (Pp : Nat → Nat) (Ps : Nat → Nat) (Sg : Nat → Nat) (hz : z ≤ 30) (hR : ∀ r, Pp r < 5 ∧ Ps r < 5) (hc : c < 5) (hh : h ≤ 60) (hS : ∀ i, Sg i < 5) : CoI l yX7_count wsX7_count 0 0 D cy [ob o7 7 [.int (nI n), .int (nI m), .int (nI z), .ref uP, .ref uS, .ref uQ, .ref uA, .ref uB, .int (nI c), .ref uK, .int (nI h), .int (nI ns), .ref uM, .ref uF, .ref uY, .ref uT, .ref uL, .ref uC, .ref uX, .int (oI nf), .ref uI, .ref uR, .ref uW, .ref uH, .ref uG], aN cy uP 30 Pp, aN cy uS 30 Ps, aN cy uK 60 Sg] [.ref o7, .int (nI 2)] [ob o7 7 [.int (nI n), .int (nI m), .int (nI z), .ref uP, .ref uS, .ref uQ, .ref uA, .ref uB, .int (nI c), .ref uK, .int (nI h), .int (nI ns), .ref uM, .ref uF, .ref uY, .ref uT, .ref uL, .ref uC, .ref uX, .int (oI nf), .ref uI, .ref uR, .ref uW, .ref uH, .ref uG], aN cy uP 30 Pp, aN cy uS 30 Ps, aN cy uK 60 Sg] (nI z) := by
  refine met_i (cc := cX7_count) (maxL := 4) (own := RX7) (lv := [(0, .ref o7), (1, .int (nI 2))]) (by decide) rfl rfl rfl (Nat.le_of_ble_eq_true rfl) (fun E e1 e2 e3 C hret => ?_)
  subst e1; subst e2; subst e3
  have iX7 : ∀ w ∈ wsX70, w ∈ wsX7_count := fun _ h => List.mem_cons_of_mem _ (List.mem_append_right _ h)
  refine g_iload_n C dX7_count_0 rfl 1 rfl 1 rfl ?_
  refine g_tabIn (off := 49) C dX7_count_1 (by decide) (by decide) (by decide) 50 (by decide) ?_
  refine g_aload_n C dX7_count_50 rfl 51 rfl 0 rfl ?_
  refine g_get C iX7 0 rfl rfl 2 (by decide) (C.1.2.2.2.2 (.fieldLink RX7 79 "StackRunsModel" "rules" "I") (List.mem_of_getElem? (i := 3) rfl)) rfl dX7_count_51 54 rfl ?_
  exact hret _ _ dX7_count_54
set_option maxHeartbeats 4000000 in
set_option maxRecDepth 100000 in
theorem c_X7_count_3 (l : Launch) (D : va_G) (cy : Nat → ClassId) (o7 : Nat) (n : Nat) (m : Nat) (z : Nat) (uP : Nat) (uS : Nat) (uQ : Nat) (uA : Nat) (uB : Nat) (c : Nat) (uK : Nat) (h : Nat) (ns : Nat) (uM : Nat) (uF : Nat) (uY : Nat) (uT : Nat) (uL : Nat) (uC : Nat) (uX : Nat) (nf : Nat) (uI : Nat) (uR : Nat) (uW : Nat) (uH : Nat) (uG : Nat) (Pp : Nat → Nat) (Ps : Nat → Nat) (Sg : Nat → Nat) (hz : z ≤ 30) (hR : ∀ r, Pp r < 5 ∧ Ps r < 5) (hc : c < 5) (hh : h ≤ 60) (hS : ∀ i, Sg i < 5) : CoI l yX7_count wsX7_count 0 0 D cy [ob o7 7 [.int (nI n), .int (nI m), .int (nI z), .ref uP, .ref uS, .ref uQ, .ref uA, .ref uB, .int (nI c), .ref uK, .int (nI h), .int (nI ns), .ref uM, .ref uF, .ref uY, .ref uT, .ref uL, .ref uC, .ref uX, .int (oI nf), .ref uI, .ref uR, .ref uW, .ref uH, .ref uG], aN cy uP 30 Pp, aN cy uS 30 Ps, aN cy uK 60 Sg] [.ref o7, .int (nI 3)] [ob o7 7 [.int (nI n), .int (nI m), .int (nI z), .ref uP, .ref uS, .ref uQ, .ref uA, .ref uB, .int (nI c), .ref uK, .int (nI h), .int (nI ns), .ref uM, .ref uF, .ref uY, .ref uT, .ref uL, .ref uC, .ref uX, .int (oI nf), .ref uI, .ref uR, .ref uW, .ref uH, .ref uG], aN cy uP 30 Pp, aN cy uS 30 Ps, aN cy uK 60 Sg] (nI ns) := by
  refine met_i (cc := cX7_count) (maxL := 4) (own := RX7) (lv := [(0, .ref o7), (1, .int (nI 3))]) (by decide) rfl rfl rfl (Nat.le_of_ble_eq_true rfl) (fun E e1 e2 e3 C hret => ?_)
  subst e1; subst e2; subst e3
  have iX7 : ∀ w ∈ wsX70, w ∈ wsX7_count := fun _ h => List.mem_cons_of_mem _ (List.mem_append_right _ h)
  refine g_iload_n C dX7_count_0 rfl 1 rfl 1 rfl ?_
  refine g_tabIn (off := 54) C dX7_count_1 (by decide) (by decide) (by decide) 55 (by decide) ?_
  refine g_aload_n C dX7_count_55 rfl 56 rfl 0 rfl ?_
  refine g_get C iX7 0 rfl rfl 11 (by decide) (C.1.2.2.2.2 (.fieldLink RX7 88 "StackRunsModel" "sets" "I") (List.mem_of_getElem? (i := 4) rfl)) rfl dX7_count_56 59 rfl ?_
  exact hret _ _ dX7_count_59
set_option maxHeartbeats 4000000 in
set_option maxRecDepth 100000 in
theorem c_X7_count_4 (l : Launch) (D : va_G) (cy : Nat → ClassId) (o7 : Nat) (n : Nat) (m : Nat) (z : Nat) (uP : Nat) (uS : Nat) (uQ : Nat) (uA : Nat) (uB : Nat) (c : Nat) (uK : Nat) (h : Nat) (ns : Nat) (uM : Nat) (uF : Nat) (uY : Nat) (uT : Nat) (uL : Nat) (uC : Nat) (uX : Nat) (nf : Nat) (uI : Nat) (uR : Nat) (uW : Nat) (uH : Nat) (uG : Nat) (Pp : Nat → Nat) (Ps : Nat → Nat) (Sg : Nat → Nat) (hz : z ≤ 30) (hR : ∀ r, Pp r < 5 ∧ Ps r < 5) (hc : c < 5) (hh : h ≤ 60) (hS : ∀ i, Sg i < 5) : CoI l yX7_count wsX7_count 0 0 D cy [ob o7 7 [.int (nI n), .int (nI m), .int (nI z), .ref uP, .ref uS, .ref uQ, .ref uA, .ref uB, .int (nI c), .ref uK, .int (nI h), .int (nI ns), .ref uM, .ref uF, .ref uY, .ref uT, .ref uL, .ref uC, .ref uX, .int (oI nf), .ref uI, .ref uR, .ref uW, .ref uH, .ref uG], aN cy uP 30 Pp, aN cy uS 30 Ps, aN cy uK 60 Sg] [.ref o7, .int (nI 4)] [ob o7 7 [.int (nI n), .int (nI m), .int (nI z), .ref uP, .ref uS, .ref uQ, .ref uA, .ref uB, .int (nI c), .ref uK, .int (nI h), .int (nI ns), .ref uM, .ref uF, .ref uY, .ref uT, .ref uL, .ref uC, .ref uX, .int (oI nf), .ref uI, .ref uR, .ref uW, .ref uH, .ref uG], aN cy uP 30 Pp, aN cy uS 30 Ps, aN cy uK 60 Sg] (nI h) := by
  refine met_i (cc := cX7_count) (maxL := 4) (own := RX7) (lv := [(0, .ref o7), (1, .int (nI 4))]) (by decide) rfl rfl rfl (Nat.le_of_ble_eq_true rfl) (fun E e1 e2 e3 C hret => ?_)
  subst e1; subst e2; subst e3
  have iX7 : ∀ w ∈ wsX70, w ∈ wsX7_count := fun _ h => List.mem_cons_of_mem _ (List.mem_append_right _ h)
  refine g_iload_n C dX7_count_0 rfl 1 rfl 1 rfl ?_
  refine g_tabIn (off := 59) C dX7_count_1 (by decide) (by decide) (by decide) 60 (by decide) ?_
  refine g_aload_n C dX7_count_60 rfl 61 rfl 0 rfl ?_
  refine g_get C iX7 0 rfl rfl 10 (by decide) (C.1.2.2.2.2 (.fieldLink RX7 85 "StackRunsModel" "height" "I") (List.mem_of_getElem? (i := 5) rfl)) rfl dX7_count_61 64 rfl ?_
  exact hret _ _ dX7_count_64
set_option maxHeartbeats 4000000 in
set_option maxRecDepth 100000 in
theorem c_X7_count_5 (l : Launch) (D : va_G) (cy : Nat → ClassId) (o7 : Nat) (n : Nat) (m : Nat) (z : Nat) (uP : Nat) (uS : Nat) (uQ : Nat) (uA : Nat) (uB : Nat) (c : Nat) (uK : Nat) (h : Nat) (ns : Nat) (uM : Nat) (uF : Nat) (uY : Nat) (uT : Nat) (uL : Nat) (uC : Nat) (uX : Nat) (nf : Nat) (uI : Nat) (uR : Nat) (uW : Nat) (uH : Nat) (uG : Nat) (Pp : Nat → Nat) (Ps : Nat → Nat) (Sg : Nat → Nat) (hz : z ≤ 30) (hR : ∀ r, Pp r < 5 ∧ Ps r < 5) (hc : c < 5) (hh : h ≤ 60) (hS : ∀ i, Sg i < 5) : CoI l yX7_count wsX7_count 1 21 D cy [ob o7 7 [.int (nI n), .int (nI m), .int (nI z), .ref uP, .ref uS, .ref uQ, .ref uA, .ref uB, .int (nI c), .ref uK, .int (nI h), .int (nI ns), .ref uM, .ref uF, .ref uY, .ref uT, .ref uL, .ref uC, .ref uX, .int (oI nf), .ref uI, .ref uR, .ref uW, .ref uH, .ref uG], aN cy uP 30 Pp, aN cy uS 30 Ps, aN cy uK 60 Sg] [.ref o7, .int (nI 5)] [ob o7 7 [.int (nI n), .int (nI m), .int (nI z), .ref uP, .ref uS, .ref uQ, .ref uA, .ref uB, .int (nI c), .ref uK, .int (nI h), .int (nI ns), .ref uM, .ref uF, .ref uY, .ref uT, .ref uL, .ref uC, .ref uX, .int (oI nf), .ref uI, .ref uR, .ref uW, .ref uH, .ref uG], aN cy uP 30 Pp, aN cy uS 30 Ps, aN cy uK 60 Sg] (nI (cgF c h Pp Ps Sg z)) := by
  refine met_i (cc := cX7_count) (maxL := 4) (own := RX7) (lv := [(0, .ref o7), (1, .int (nI 5))]) (by decide) rfl rfl rfl (Nat.le_of_ble_eq_true rfl) (fun E e1 e2 e3 C hret => ?_)
  subst e1; subst e2; subst e3
  have iX7 : ∀ w ∈ wsX70, w ∈ wsX7_count := fun _ h => List.mem_cons_of_mem _ (List.mem_append_right _ h)
  refine g_iload_n C dX7_count_0 rfl 1 rfl 1 rfl ?_
  refine g_tabIn (off := 64) C dX7_count_1 (by decide) (by decide) (by decide) 65 (by decide) ?_
  refine g_iconst (v := nI 0) C dX7_count_65 (by decide) 66 rfl ?_
  refine g_istore_n (lv' := [(2, .int (nI 0)), (0, .ref o7), (1, .int (nI 5))]) C dX7_count_66 rfl 67 rfl (by decide) rfl ?_
  refine g_iconst (v := nI 0) C dX7_count_67 (by decide) 68 rfl ?_
  refine g_istore_n (lv' := [(3, .int (nI 0)), (2, .int (nI 0)), (0, .ref o7), (1, .int (nI 5))]) C dX7_count_68 rfl 69 rfl (by decide) rfl ?_
  have L69 : ∀ i, i ≤ z → Go E 0 0 69 [(3, .int (nI i)), (2, .int (nI (cgF c h Pp Ps Sg i))), (0, .ref o7), (1, .int (nI 5))] [] [ob o7 7 [.int (nI n), .int (nI m), .int (nI z), .ref uP, .ref uS, .ref uQ, .ref uA, .ref uB, .int (nI c), .ref uK, .int (nI h), .int (nI ns), .ref uM, .ref uF, .ref uY, .ref uT, .ref uL, .ref uC, .ref uX, .int (oI nf), .ref uI, .ref uR, .ref uW, .ref uH, .ref uG], aN (eY E) uP 30 Pp, aN (eY E) uS 30 Ps, aN (eY E) uK 60 Sg] := by
    refine go_for z (fun i => Go E 0 0 69 [(3, .int (nI i)), (2, .int (nI (cgF c h Pp Ps Sg i))), (0, .ref o7), (1, .int (nI 5))] [] [ob o7 7 [.int (nI n), .int (nI m), .int (nI z), .ref uP, .ref uS, .ref uQ, .ref uA, .ref uB, .int (nI c), .ref uK, .int (nI h), .int (nI ns), .ref uM, .ref uF, .ref uY, .ref uT, .ref uL, .ref uC, .ref uX, .int (oI nf), .ref uI, .ref uR, .ref uW, .ref uH, .ref uG], aN (eY E) uP 30 Pp, aN (eY E) uS 30 Ps, aN (eY E) uK 60 Sg]) (fun i hi_i ih_i => ?_)
    refine g_iload_n C dX7_count_69 rfl 70 rfl 0 rfl ?_
    refine g_aload_n C dX7_count_70 rfl 71 rfl 2 rfl ?_
    refine g_get C iX7 0 rfl rfl 2 (by decide) (C.1.2.2.2.2 (.fieldLink RX7 79 "StackRunsModel" "rules" "I") (List.mem_of_getElem? (i := 3) rfl)) rfl dX7_count_71 74 rfl ?_
    refine g_icmp_ge (X := z ≤ i) C dX7_count_74 99 (by decide) 77 rfl (nI_leI (by omega) (by omega)) ?_ ?_
    · intro h74
      have x_i : i = z := by omega
      try rw [x_i]
      refine g_iload_n C dX7_count_99 rfl 100 rfl 1 rfl ?_
      exact hret _ _ dX7_count_100
    · intro h74
      refine g_iload_n C dX7_count_77 rfl 78 rfl 1 rfl ?_
      refine g_aload_n C dX7_count_78 rfl 79 rfl 2 rfl ?_
      refine g_iload_n C dX7_count_79 rfl 80 rfl 0 rfl ?_
      refine g_cVi (ws2 := [ob o7 7 [.int (nI n), .int (nI m), .int (nI z), .ref uP, .ref uS, .ref uQ, .ref uA, .ref uB, .int (nI c), .ref uK, .int (nI h), .int (nI ns), .ref uM, .ref uF, .ref uY, .ref uT, .ref uL, .ref uC, .ref uX, .int (oI nf), .ref uI, .ref uR, .ref uW, .ref uH, .ref uG], aN (eY E) uP 30 Pp, aN (eY E) uS 30 Ps, aN (eY E) uK 60 Sg]) (As := [.int (nI i)]) (st := [.int (nI (cgF c h Pp Ps Sg i))]) (wsc := [ob o7 7 [.int (nI n), .int (nI m), .int (nI z), .ref uP, .ref uS, .ref uQ, .ref uA, .ref uB, .int (nI c), .ref uK, .int (nI h), .int (nI ns), .ref uM, .ref uF, .ref uY, .ref uT, .ref uL, .ref uC, .ref uX, .int (oI nf), .ref uI, .ref uR, .ref uW, .ref uH, .ref uG], aN (eY E) uP 30 Pp, aN (eY E) uS 30 Ps, aN (eY E) uK 60 Sg]) (wr := []) C (c_X7_goes (eL E) (eD E) (eY E) o7 n m z uP uS uQ uA uB c uK h ns uM uF uY uT uL uC uX nf uI uR uW uH uG Pp Ps Sg i (by assumption) (by assumption) (by omega) (by omega) (by omega)) 1 gX7_count_X7_goes rfl (by decide +kernel) (by decide) ⟨Nat.zero_le _, Nat.zero_le _⟩ rfl 0 rfl rfl rfl (Nat.le_of_ble_eq_true rfl) [0, 1, 2, 3] [] [0, 1, 2, 3] rfl rfl (by decide) (by decide) rfl (by decide) dX7_count_80 83 rfl ?_
      refine g_if_eq (X := gsF c h Pp Ps Sg i = false) C dX7_count_83 90 (by decide) 86 rfl (bI_eq0 _) ?_ ?_
      · intro h83
        refine g_iconst (v := nI 0) C dX7_count_90 (by decide) 91 rfl ?_
        refine g_iadd (z := nI ((cgF c h Pp Ps Sg i) + 0)) C dX7_count_91 92 rfl (nI_add _ _) ?_
        refine g_istore_n (lv' := [(2, .int (nI ((cgF c h Pp Ps Sg i) + 0))), (3, .int (nI i)), (0, .ref o7), (1, .int (nI 5))]) C dX7_count_92 rfl 93 rfl (by decide) rfl ?_
        refine g_iinc (lv' := [(3, .int (nI (i + 1))), (2, .int (nI ((cgF c h Pp Ps Sg i) + 0))), (0, .ref o7), (1, .int (nI 5))]) C dX7_count_93 96 rfl 1 rfl (by decide) rfl ?_
        refine g_goto C dX7_count_96 69 (by decide) ?_
        have e_1 : (cgF c h Pp Ps Sg (i + 1)) = ((cgF c h Pp Ps Sg i) + 0) := by first | with_reducible rfl | (simp [cgF, *])
        refine go_eq (lv' := [(3, .int (nI (i + 1))), (2, .int (nI (cgF c h Pp Ps Sg (i + 1)))), (0, .ref o7), (1, .int (nI 5))]) (ws' := [ob o7 7 [.int (nI n), .int (nI m), .int (nI z), .ref uP, .ref uS, .ref uQ, .ref uA, .ref uB, .int (nI c), .ref uK, .int (nI h), .int (nI ns), .ref uM, .ref uF, .ref uY, .ref uT, .ref uL, .ref uC, .ref uX, .int (oI nf), .ref uI, .ref uR, .ref uW, .ref uH, .ref uG], aN (eY E) uP 30 Pp, aN (eY E) uS 30 Ps, aN (eY E) uK 60 Sg]) (by first | with_reducible rfl | (simp only [e_1, oI_s, oI_0, bI_1, bI_0, and_self, reduceIte]; done)) rfl (by first | with_reducible rfl | (simp only [oI_s, oI_0, bI_1, bI_0, and_self, reduceIte]; done) | rfl) ?_
        exact ih_i (by omega)
      · intro h83
        have h83 : gsF c h Pp Ps Sg i = true := by simpa using h83
        refine g_iconst (v := nI 1) C dX7_count_86 (by decide) 87 rfl ?_
        refine g_goto C dX7_count_87 91 (by decide) ?_
        refine g_iadd (z := nI ((cgF c h Pp Ps Sg i) + 1)) C dX7_count_91 92 rfl (nI_add _ _) ?_
        refine g_istore_n (lv' := [(2, .int (nI ((cgF c h Pp Ps Sg i) + 1))), (3, .int (nI i)), (0, .ref o7), (1, .int (nI 5))]) C dX7_count_92 rfl 93 rfl (by decide) rfl ?_
        refine g_iinc (lv' := [(3, .int (nI (i + 1))), (2, .int (nI ((cgF c h Pp Ps Sg i) + 1))), (0, .ref o7), (1, .int (nI 5))]) C dX7_count_93 96 rfl 1 rfl (by decide) rfl ?_
        refine g_goto C dX7_count_96 69 (by decide) ?_
        have e_2 : (cgF c h Pp Ps Sg (i + 1)) = ((cgF c h Pp Ps Sg i) + 1) := by first | with_reducible rfl | (simp [cgF, *])
        refine go_eq (lv' := [(3, .int (nI (i + 1))), (2, .int (nI (cgF c h Pp Ps Sg (i + 1)))), (0, .ref o7), (1, .int (nI 5))]) (ws' := [ob o7 7 [.int (nI n), .int (nI m), .int (nI z), .ref uP, .ref uS, .ref uQ, .ref uA, .ref uB, .int (nI c), .ref uK, .int (nI h), .int (nI ns), .ref uM, .ref uF, .ref uY, .ref uT, .ref uL, .ref uC, .ref uX, .int (oI nf), .ref uI, .ref uR, .ref uW, .ref uH, .ref uG], aN (eY E) uP 30 Pp, aN (eY E) uS 30 Ps, aN (eY E) uK 60 Sg]) (by first | with_reducible rfl | (simp only [e_2, oI_s, oI_0, bI_1, bI_0, and_self, reduceIte]; done)) rfl (by first | with_reducible rfl | (simp only [oI_s, oI_0, bI_1, bI_0, and_self, reduceIte]; done) | rfl) ?_
        exact ih_i (by omega)
  have e_3 : (cgF c h Pp Ps Sg 0) = 0 := by first | with_reducible rfl | (rfl)
  refine go_eq (lv' := [(3, .int (nI 0)), (2, .int (nI (cgF c h Pp Ps Sg 0))), (0, .ref o7), (1, .int (nI 5))]) (ws' := [ob o7 7 [.int (nI n), .int (nI m), .int (nI z), .ref uP, .ref uS, .ref uQ, .ref uA, .ref uB, .int (nI c), .ref uK, .int (nI h), .int (nI ns), .ref uM, .ref uF, .ref uY, .ref uT, .ref uL, .ref uC, .ref uX, .int (oI nf), .ref uI, .ref uR, .ref uW, .ref uH, .ref uG], aN (eY E) uP 30 Pp, aN (eY E) uS 30 Ps, aN (eY E) uK 60 Sg]) (by first | with_reducible rfl | (simp only [e_3, oI_s, oI_0, bI_1, bI_0, and_self, reduceIte]; done)) rfl (by first | with_reducible rfl | (simp only [oI_s, oI_0, bI_1, bI_0, and_self, reduceIte]; done) | rfl) ?_
  exact L69 0 (by omega)
set_option maxHeartbeats 4000000 in
set_option maxRecDepth 100000 in
theorem c_X7_count_bad (l : Launch) (D : va_G) (cy : Nat → ClassId) (o7 : Nat) (n : Nat) (m : Nat) (z : Nat) (uP : Nat) (uS : Nat) (uQ : Nat) (uA : Nat) (uB : Nat) (c : Nat) (uK : Nat) (h : Nat) (ns : Nat) (uM : Nat) (uF : Nat) (uY : Nat) (uT : Nat) (uL : Nat) (uC : Nat) (uX : Nat) (nf : Nat) (uI : Nat) (uR : Nat) (uW : Nat) (uH : Nat) (uG : Nat) (x : Int32) (hb : rg x 0 5 = false) : CoI l yX7_count wsX7_count 0 0 D cy [ob o7 7 [.int (nI n), .int (nI m), .int (nI z), .ref uP, .ref uS, .ref uQ, .ref uA, .ref uB, .int (nI c), .ref uK, .int (nI h), .int (nI ns), .ref uM, .ref uF, .ref uY, .ref uT, .ref uL, .ref uC, .ref uX, .int (oI nf), .ref uI, .ref uR, .ref uW, .ref uH, .ref uG]] [.ref o7, .int x] [ob o7 7 [.int (nI n), .int (nI m), .int (nI z), .ref uP, .ref uS, .ref uQ, .ref uA, .ref uB, .int (nI c), .ref uK, .int (nI h), .int (nI ns), .ref uM, .ref uF, .ref uY, .ref uT, .ref uL, .ref uC, .ref uX, .int (oI nf), .ref uI, .ref uR, .ref uW, .ref uH, .ref uG]] (-2) := by
  refine met_i (cc := cX7_count) (maxL := 4) (own := RX7) (lv := [(0, .ref o7), (1, .int x)]) (by decide) rfl rfl rfl (Nat.le_of_ble_eq_true rfl) (fun E e1 e2 e3 C hret => ?_)
  subst e1; subst e2; subst e3
  refine g_iload_n C dX7_count_0 rfl 1 rfl 1 rfl ?_
  refine g_tabOut C dX7_count_1 (by exact rg_out hb) 101 (by decide) ?_
  refine g_bipush (v := (-2)) C dX7_count_101 (by decide) 103 rfl ?_
  exact hret _ _ dX7_count_103
