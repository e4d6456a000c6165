set_option maxHeartbeats 4000000 in
set_option maxRecDepth 100000 in
theorem c_X7_readStack (l : Launch) (D : va_G) (cy : Nat → ClassId) (o7 : Nat) (n : Nat) (m : Nat) (z : Nat) (uP : Nat) (uS : Nat) (uQ : Nat) (uA : Nat) (uB : Nat) (c : Nat) (uK : Nat) (h : Nat) (ns : Nat) (uM : Nat) (uF : Nat) (uY : Nat) (uT : Nat) (uL : Nat) (uC : Nat) (uX : Nat) (uI : Nat) (uR : Nat) (uW : Nat) (uH : Nat) (uG : Nat) (j : Nat) (Sg : Nat → Nat) (La : Nat → Bool) (Co : Nat → Nat) (Lx : Nat → Bool) (Re : Nat → Nat) (hj : j < 6) (hCo : okf Co) (hRe : okf Re) (hh : h ≤ 60) (hS : ∀ i, Sg i < 5) : CoV l yX7_readStack wsX7_readStack 2 45 D cy [ob o7 7 [.int (nI n), .int (nI m), .int (nI z), .ref uP, .ref uS, .ref uQ, .ref uA, .ref uB, .int (nI c), .ref uK, .int (nI h), .int (nI ns), .ref uM, .ref uF, .ref uY, .ref uT, .ref uL, .ref uC, .ref uX, .int (oI (j + 1)), .ref uI, .ref uR, .ref uW, .ref uH, .ref uG], aN cy uK 60 Sg, aZ cy uL 66 La, aR cy uC 275 Co, aZ cy uX 330 Lx, aR cy uW 671 Re] [.ref o7] [ob o7 7 [.int (nI n), .int (nI m), .int (nI z), .ref uP, .ref uS, .ref uQ, .ref uA, .ref uB, .int (nI c), .ref uK, .int (nI h), .int (nI ns), .ref uM, .ref uF, .ref uY, .ref uT, .ref uL, .ref uC, .ref uX, .int (oI (j + 1)), .ref uI, .ref uR, .ref uW, .ref uH, .ref uG], aN cy uK 60 Sg, aZ cy uL 66 La, aR cy uC 275 Co, aZ cy uX 330 Lx, aR cy uW 671 (RSf Lx La Co Sg Re j h)] := by
  refine met_v (cc := cX7_readStack) (maxL := 6) (own := RX7) (lv := [(0, .ref o7)]) (by decide) rfl rfl rfl (Nat.le_of_ble_eq_true rfl) (fun E e1 e2 e3 C hret => ?_)
  subst e1; subst e2; subst e3
  have iX7 : ∀ w ∈ wsX70, w ∈ wsX7_readStack := fun _ h => List.mem_cons_of_mem _ (List.mem_append_right _ h)
  refine g_iconst (v := nI 0) C dX7_readStack_0 (by decide) 1 rfl ?_
  refine g_istore_n (lv' := [(1, .int (nI 0)), (0, .ref o7)]) C dX7_readStack_1 rfl 2 rfl (by decide) rfl ?_
  have L2 : ∀ x, x ≤ 11 → Go E 0 0 2 [(1, .int (nI x)), (0, .ref o7)] [] [ob o7 7 [.int (nI n), .int (nI m), .int (nI z), .ref uP, .ref uS, .ref uQ, .ref uA, .ref uB, .int (nI c), .ref uK, .int (nI h), .int (nI ns), .ref uM, .ref uF, .ref uY, .ref uT, .ref uL, .ref uC, .ref uX, .int (oI (j + 1)), .ref uI, .ref uR, .ref uW, .ref uH, .ref uG], aN (eY E) uK 60 Sg, aZ (eY E) uL 66 La, aR (eY E) uC 275 Co, aZ (eY E) uX 330 Lx, aR (eY E) uW 671 (fillG Re (laF La j) x)] := by
    refine go_for 11 (fun x => Go E 0 0 2 [(1, .int (nI x)), (0, .ref o7)] [] [ob o7 7 [.int (nI n), .int (nI m), .int (nI z), .ref uP, .ref uS, .ref uQ, .ref uA, .ref uB, .int (nI c), .ref uK, .int (nI h), .int (nI ns), .ref uM, .ref uF, .ref uY, .ref uT, .ref uL, .ref uC, .ref uX, .int (oI (j + 1)), .ref uI, .ref uR, .ref uW, .ref uH, .ref uG], aN (eY E) uK 60 Sg, aZ (eY E) uL 66 La, aR (eY E) uC 275 Co, aZ (eY E) uX 330 Lx, aR (eY E) uW 671 (fillG Re (laF La j) x)]) (fun x hi_x ih_x => ?_)
    refine g_iload_n C dX7_readStack_2 rfl 3 rfl 0 rfl ?_
    refine g_bipush (v := nI 11) C dX7_readStack_3 (by decide) 5 rfl ?_
    refine g_icmp_ge (X := 11 ≤ x) C dX7_readStack_5 44 (by decide) 8 rfl (nI_leI (by omega) (by omega)) ?_ ?_
    · intro h5
      have x_x : x = 11 := by omega
      try rw [x_x]
      refine g_iconst (v := nI 0) C dX7_readStack_44 (by decide) 45 rfl ?_
      refine g_istore_n (lv' := [(1, .int (nI 0)), (0, .ref o7)]) C dX7_readStack_45 rfl 46 rfl (by decide) rfl ?_
      have L46 : ∀ i, i ≤ h → Go E 0 0 46 [(1, .int (nI i)), (0, .ref o7)] [] [ob o7 7 [.int (nI n), .int (nI m), .int (nI z), .ref uP, .ref uS, .ref uQ, .ref uA, .ref uB, .int (nI c), .ref uK, .int (nI h), .int (nI ns), .ref uM, .ref uF, .ref uY, .ref uT, .ref uL, .ref uC, .ref uX, .int (oI (j + 1)), .ref uI, .ref uR, .ref uW, .ref uH, .ref uG], aN (eY E) uK 60 Sg, aZ (eY E) uL 66 La, aR (eY E) uC 275 Co, aZ (eY E) uX 330 Lx, aR (eY E) uW 671 (rsI Lx Co Sg (fillG Re (laF La j) 11) i)] := by
        refine go_for h (fun i => Go E 0 0 46 [(1, .int (nI i)), (0, .ref o7)] [] [ob o7 7 [.int (nI n), .int (nI m), .int (nI z), .ref uP, .ref uS, .ref uQ, .ref uA, .ref uB, .int (nI c), .ref uK, .int (nI h), .int (nI ns), .ref uM, .ref uF, .ref uY, .ref uT, .ref uL, .ref uC, .ref uX, .int (oI (j + 1)), .ref uI, .ref uR, .ref uW, .ref uH, .ref uG], aN (eY E) uK 60 Sg, aZ (eY E) uL 66 La, aR (eY E) uC 275 Co, aZ (eY E) uX 330 Lx, aR (eY E) uW 671 (rsI Lx Co Sg (fillG Re (laF La j) 11) i)]) (fun i hi_i ih_i => ?_)
        have hT1 := rsI_ok (Lx := Lx) (Co := Co) (Sg := Sg) (fillG_ok hRe (laF_ok La j) 11) i
        have hS1 := hS i
        refine g_iload_n C dX7_readStack_46 rfl 47 rfl 0 rfl ?_
        refine g_aload_n C dX7_readStack_47 rfl 48 rfl 1 rfl ?_
        refine g_get C iX7 0 rfl rfl 10 (by decide) (C.1.2.2.2.2 (.fieldLink RX7 85 "StackRunsModel" "height" "I") (List.mem_of_getElem? (i := 5) rfl)) rfl dX7_readStack_48 51 rfl ?_
        refine g_icmp_ge (X := h ≤ i) C dX7_readStack_51 141 (by decide) 54 rfl (nI_leI (by omega) (by omega)) ?_ ?_
        · intro h51
          have x_i : i = h := by omega
          try rw [x_i]
          have e_1 : (RSf Lx La Co Sg Re j h) = (rsI Lx Co Sg (fillG Re (laF La j) 11) h) := by first | with_reducible rfl | (rfl)
          refine go_eq rfl (st' := []) (ws' := [ob o7 7 [.int (nI n), .int (nI m), .int (nI z), .ref uP, .ref uS, .ref uQ, .ref uA, .ref uB, .int (nI c), .ref uK, .int (nI h), .int (nI ns), .ref uM, .ref uF, .ref uY, .ref uT, .ref uL, .ref uC, .ref uX, .int (oI (j + 1)), .ref uI, .ref uR, .ref uW, .ref uH, .ref uG], aN (eY E) uK 60 Sg, aZ (eY E) uL 66 La, aR (eY E) uC 275 Co, aZ (eY E) uX 330 Lx, aR (eY E) uW 671 (RSf Lx La Co Sg Re j h)]) (by first | with_reducible rfl | (simp only [e_1, oI_s, oI_0, bI_1, bI_0, and_self, reduceIte]; done)) (by first | with_reducible rfl | (simp only [e_1, oI_s, oI_0, bI_1, bI_0, and_self, reduceIte]; done)) ?_
          exact hret _ _ dX7_readStack_141
        · intro h51
          refine g_iconst (v := nI 0) C dX7_readStack_54 (by decide) 55 rfl ?_
          refine g_istore_n (lv' := [(2, .int (nI 0)), (1, .int (nI i)), (0, .ref o7)]) C dX7_readStack_55 rfl 56 rfl (by decide) rfl ?_
          have L56 : ∀ x, x ≤ 11 → Go E 0 0 56 [(2, .int (nI x)), (1, .int (nI i)), (0, .ref o7)] [] [ob o7 7 [.int (nI n), .int (nI m), .int (nI z), .ref uP, .ref uS, .ref uQ, .ref uA, .ref uB, .int (nI c), .ref uK, .int (nI h), .int (nI ns), .ref uM, .ref uF, .ref uY, .ref uT, .ref uL, .ref uC, .ref uX, .int (oI (j + 1)), .ref uI, .ref uR, .ref uW, .ref uH, .ref uG], aN (eY E) uK 60 Sg, aZ (eY E) uL 66 La, aR (eY E) uC 275 Co, aZ (eY E) uX 330 Lx, aR (eY E) uW 671 (rsX Lx Co Sg (rsI Lx Co Sg (fillG Re (laF La j) 11) i) i x)] := by
            refine go_for 11 (fun x => Go E 0 0 56 [(2, .int (nI x)), (1, .int (nI i)), (0, .ref o7)] [] [ob o7 7 [.int (nI n), .int (nI m), .int (nI z), .ref uP, .ref uS, .ref uQ, .ref uA, .ref uB, .int (nI c), .ref uK, .int (nI h), .int (nI ns), .ref uM, .ref uF, .ref uY, .ref uT, .ref uL, .ref uC, .ref uX, .int (oI (j + 1)), .ref uI, .ref uR, .ref uW, .ref uH, .ref uG], aN (eY E) uK 60 Sg, aZ (eY E) uL 66 La, aR (eY E) uC 275 Co, aZ (eY E) uX 330 Lx, aR (eY E) uW 671 (rsX Lx Co Sg (rsI Lx Co Sg (fillG Re (laF La j) 11) i) i x)]) (fun x hi_x ih_x => ?_)
            have hT2 := rsX_ok (Lx := Lx) (Co := Co) (Sg := Sg) hT1 i x
            refine g_iload_n C dX7_readStack_56 rfl 57 rfl 0 rfl ?_
            refine g_bipush (v := nI 11) C dX7_readStack_57 (by decide) 59 rfl ?_
            refine g_icmp_ge (X := 11 ≤ x) C dX7_readStack_59 135 (by decide) 62 rfl (nI_leI (by omega) (by omega)) ?_ ?_
            · intro h59
              have x_x : x = 11 := by omega
              try rw [x_x]
              refine g_iinc (lv' := [(1, .int (nI (i + 1))), (2, .int (nI 11)), (0, .ref o7)]) C dX7_readStack_135 138 rfl 1 rfl (by decide) rfl ?_
              refine g_goto C dX7_readStack_138 46 (by decide) ?_
              refine go_lv (lv' := [(1, .int (nI (i + 1))), (0, .ref o7)]) [0, 2] rfl ?_
              have e_2 : (rsI Lx Co Sg (fillG Re (laF La j) 11) (i + 1)) = (rsX Lx Co Sg (rsI Lx Co Sg (fillG Re (laF La j) 11) i) i 11) := by first | with_reducible rfl | (rfl)
              refine go_eq (lv' := [(1, .int (nI (i + 1))), (0, .ref o7)]) (ws' := [ob o7 7 [.int (nI n), .int (nI m), .int (nI z), .ref uP, .ref uS, .ref uQ, .ref uA, .ref uB, .int (nI c), .ref uK, .int (nI h), .int (nI ns), .ref uM, .ref uF, .ref uY, .ref uT, .ref uL, .ref uC, .ref uX, .int (oI (j + 1)), .ref uI, .ref uR, .ref uW, .ref uH, .ref uG], aN (eY E) uK 60 Sg, aZ (eY E) uL 66 La, aR (eY E) uC 275 Co, aZ (eY E) uX 330 Lx, aR (eY E) uW 671 (rsI Lx Co Sg (fillG Re (laF La j) 11) (i + 1))]) (by first | with_reducible rfl | (simp only [oI_s, oI_0, bI_1, bI_0, and_self, reduceIte]; done) | rfl) rfl (by first | with_reducible rfl | (simp only [e_2, oI_s, oI_0, bI_1, bI_0, and_self, reduceIte]; done)) ?_
              exact ih_i (by omega)
            · intro h59
              refine g_ldc2 (v' := (rv 9000000000000000000)) C (C.1.2.2.2.2 (.constantLong RX7 123 (-1)) (List.mem_of_getElem? (i := 4) rfl)) (by decide) dX7_readStack_62 65 rfl ?_
              refine g_lstore_n (lv' := [(3, .long (rv 9000000000000000000)), (2, .int (nI x)), (1, .int (nI i)), (0, .ref o7)]) C dX7_readStack_65 rfl 66 rfl (by decide) rfl ?_
              refine g_iconst (v := nI 0) C dX7_readStack_66 (by decide) 67 rfl ?_
              refine g_istore (lv' := [(5, .int (nI 0)), (3, .long (rv 9000000000000000000)), (2, .int (nI x)), (1, .int (nI i)), (0, .ref o7)]) C dX7_readStack_67 69 rfl (by decide) rfl ?_
              have L69 : ∀ y, y ≤ 11 → Go E 0 0 69 [(5, .int (nI y)), (3, .long (rv (rsY Lx Co Sg (rsX Lx Co Sg (rsI Lx Co Sg (fillG Re (laF La j) 11) i) i x) x i y))), (2, .int (nI x)), (1, .int (nI i)), (0, .ref o7)] [] [ob o7 7 [.int (nI n), .int (nI m), .int (nI z), .ref uP, .ref uS, .ref uQ, .ref uA, .ref uB, .int (nI c), .ref uK, .int (nI h), .int (nI ns), .ref uM, .ref uF, .ref uY, .ref uT, .ref uL, .ref uC, .ref uX, .int (oI (j + 1)), .ref uI, .ref uR, .ref uW, .ref uH, .ref uG], aN (eY E) uK 60 Sg, aZ (eY E) uL 66 La, aR (eY E) uC 275 Co, aZ (eY E) uX 330 Lx, aR (eY E) uW 671 (rsX Lx Co Sg (rsI Lx Co Sg (fillG Re (laF La j) 11) i) i x)] := by
                refine go_for 11 (fun y => Go E 0 0 69 [(5, .int (nI y)), (3, .long (rv (rsY Lx Co Sg (rsX Lx Co Sg (rsI Lx Co Sg (fillG Re (laF La j) 11) i) i x) x i y))), (2, .int (nI x)), (1, .int (nI i)), (0, .ref o7)] [] [ob o7 7 [.int (nI n), .int (nI m), .int (nI z), .ref uP, .ref uS, .ref uQ, .ref uA, .ref uB, .int (nI c), .ref uK, .int (nI h), .int (nI ns), .ref uM, .ref uF, .ref uY, .ref uT, .ref uL, .ref uC, .ref uX, .int (oI (j + 1)), .ref uI, .ref uR, .ref uW, .ref uH, .ref uG], aN (eY E) uK 60 Sg, aZ (eY E) uL 66 La, aR (eY E) uC 275 Co, aZ (eY E) uX 330 Lx, aR (eY E) uW 671 (rsX Lx Co Sg (rsI Lx Co Sg (fillG Re (laF La j) 11) i) i x)]) (fun y hi_y ih_y => ?_)
                have hY := rsY_ok Lx Co Sg (rsX Lx Co Sg (rsI Lx Co Sg (fillG Re (laF La j) 11) i) i x) x i y
                have hT3 := hT2 (11 * i + y)
                refine g_iload C dX7_readStack_69 71 rfl 0 rfl ?_
                refine g_bipush (v := nI 11) C dX7_readStack_71 (by decide) 73 rfl ?_
                refine g_icmp_ge (X := 11 ≤ y) C dX7_readStack_73 115 (by decide) 76 rfl (nI_leI (by omega) (by omega)) ?_ ?_
                · intro h73
                  have x_y : y = 11 := by omega
                  try rw [x_y]
                  refine g_aload_n C dX7_readStack_115 rfl 116 rfl 4 rfl ?_
                  refine g_get C iX7 0 rfl rfl 22 (by decide) (C.1.2.2.2.2 (.fieldLink RX7 64 "StackRunsModel" "rest" "[J") (List.mem_of_getElem? (i := 1) rfl)) rfl dX7_readStack_116 119 rfl ?_
                  refine g_bipush (v := nI 11) C dX7_readStack_119 (by decide) 121 rfl ?_
                  refine g_iload_n C dX7_readStack_121 rfl 122 rfl 3 rfl ?_
                  refine g_iconst (v := nI 1) C dX7_readStack_122 (by decide) 123 rfl ?_
                  refine g_iadd (z := nI (i + 1)) C dX7_readStack_123 124 rfl (nI_add _ _) ?_
                  refine g_imul (z := nI (11 * (i + 1))) C dX7_readStack_124 125 rfl (pk_mul _ _) ?_
                  refine g_iload_n C dX7_readStack_125 rfl 126 rfl 2 rfl ?_
                  refine g_iadd (z := nI ((11 * (i + 1)) + x)) C dX7_readStack_126 127 rfl (nI_add _ _) ?_
                  refine g_lload_n C dX7_readStack_127 rfl 128 rfl 1 rfl ?_
                  refine g_last (ws' := [ob o7 7 [.int (nI n), .int (nI m), .int (nI z), .ref uP, .ref uS, .ref uQ, .ref uA, .ref uB, .int (nI c), .ref uK, .int (nI h), .int (nI ns), .ref uM, .ref uF, .ref uY, .ref uT, .ref uL, .ref uC, .ref uX, .int (oI (j + 1)), .ref uI, .ref uR, .ref uW, .ref uH, .ref uG], aN (eY E) uK 60 Sg, aZ (eY E) uL 66 La, aR (eY E) uC 275 Co, aZ (eY E) uX 330 Lx, aR (eY E) uW 671 (up (rsX Lx Co Sg (rsI Lx Co Sg (fillG Re (laF La j) 11) i) i x) ((11 * (i + 1)) + x) (rsY Lx Co Sg (rsX Lx Co Sg (rsI Lx Co Sg (fillG Re (laF La j) 11) i) i x) x i 11))]) (i := ((11 * (i + 1)) + x)) C 5 rfl (by omega) (by decide) dX7_readStack_128 129 rfl (upd_R _ _ _) rfl ?_
                  refine g_iinc (lv' := [(2, .int (nI (x + 1))), (5, .int (nI 11)), (3, .long (rv (rsY Lx Co Sg (rsX Lx Co Sg (rsI Lx Co Sg (fillG Re (laF La j) 11) i) i x) x i 11))), (1, .int (nI i)), (0, .ref o7)]) C dX7_readStack_129 132 rfl 2 rfl (by decide) rfl ?_
                  refine g_goto C dX7_readStack_132 56 (by decide) ?_
                  refine go_lv (lv' := [(2, .int (nI (x + 1))), (1, .int (nI i)), (0, .ref o7)]) [0, 3, 4] rfl ?_
                  have e_3 : (rsX Lx Co Sg (rsI Lx Co Sg (fillG Re (laF La j) 11) i) i (x + 1)) = (up (rsX Lx Co Sg (rsI Lx Co Sg (fillG Re (laF La j) 11) i) i x) ((11 * (i + 1)) + x) (rsY Lx Co Sg (rsX Lx Co Sg (rsI Lx Co Sg (fillG Re (laF La j) 11) i) i x) x i 11)) := by first | with_reducible rfl | (rfl)
                  refine go_eq (lv' := [(2, .int (nI (x + 1))), (1, .int (nI i)), (0, .ref o7)]) (ws' := [ob o7 7 [.int (nI n), .int (nI m), .int (nI z), .ref uP, .ref uS, .ref uQ, .ref uA, .ref uB, .int (nI c), .ref uK, .int (nI h), .int (nI ns), .ref uM, .ref uF, .ref uY, .ref uT, .ref uL, .ref uC, .ref uX, .int (oI (j + 1)), .ref uI, .ref uR, .ref uW, .ref uH, .ref uG], aN (eY E) uK 60 Sg, aZ (eY E) uL 66 La, aR (eY E) uC 275 Co, aZ (eY E) uX 330 Lx, aR (eY E) uW 671 (rsX Lx Co Sg (rsI Lx Co Sg (fillG Re (laF La j) 11) i) i (x + 1))]) (by first | with_reducible rfl | (simp only [oI_s, oI_0, bI_1, bI_0, and_self, reduceIte]; done) | rfl) rfl (by first | with_reducible rfl | (simp only [e_3, oI_s, oI_0, bI_1, bI_0, and_self, reduceIte]; done)) ?_
                  exact ih_x (by omega)
                · intro h73
                  refine g_lload_n C dX7_readStack_76 rfl 77 rfl 1 rfl ?_
                  refine g_aload_n C dX7_readStack_77 rfl 78 rfl 4 rfl ?_
                  refine g_iload_n C dX7_readStack_78 rfl 79 rfl 2 rfl ?_
                  refine g_aload_n C dX7_readStack_79 rfl 80 rfl 4 rfl ?_
                  refine g_get C iX7 0 rfl rfl 9 (by decide) (C.1.2.2.2.2 (.fieldLink RX7 32 "StackRunsModel" "stack" "[I") (List.mem_of_getElem? (i := 6) rfl)) rfl dX7_readStack_80 83 rfl ?_
                  refine g_iload_n C dX7_readStack_83 rfl 84 rfl 3 rfl ?_
                  refine g_iald (i := i) C 1 rfl (by omega) (by decide) dX7_readStack_84 85 rfl ?_
                  refine g_iload C dX7_readStack_85 87 rfl 0 rfl ?_
                  refine g_cVl (ws2 := [ob o7 7 [.int (nI n), .int (nI m), .int (nI z), .ref uP, .ref uS, .ref uQ, .ref uA, .ref uB, .int (nI c), .ref uK, .int (nI h), .int (nI ns), .ref uM, .ref uF, .ref uY, .ref uT, .ref uL, .ref uC, .ref uX, .int (oI (j + 1)), .ref uI, .ref uR, .ref uW, .ref uH, .ref uG], aN (eY E) uK 60 Sg, aZ (eY E) uL 66 La, aR (eY E) uC 275 Co, aZ (eY E) uX 330 Lx, aR (eY E) uW 671 (rsX Lx Co Sg (rsI Lx Co Sg (fillG Re (laF La j) 11) i) i x)]) (As := [.int (nI x), .int (nI (Sg i)), .int (nI y)]) (st := [.long (rv (rsY Lx Co Sg (rsX Lx Co Sg (rsI Lx Co Sg (fillG Re (laF La j) 11) i) i x) x i y))]) (wsc := [ob o7 7 [.int (nI n), .int (nI m), .int (nI z), .ref uP, .ref uS, .ref uQ, .ref uA, .ref uB, .int (nI c), .ref uK, .int (nI h), .int (nI ns), .ref uM, .ref uF, .ref uY, .ref uT, .ref uL, .ref uC, .ref uX, .int (oI (j + 1)), .ref uI, .ref uR, .ref uW, .ref uH, .ref uG], aR (eY E) uC 275 Co, aZ (eY E) uX 330 Lx]) (wr := [aN (eY E) uK 60 Sg, aZ (eY E) uL 66 La, aR (eY E) uW 671 (rsX Lx Co Sg (rsI Lx Co Sg (fillG Re (laF La j) 11) i) i x)]) C (c_X7_reading (eL E) (eD E) (eY E) o7 n m z uP uS uQ uA uB c uK h ns uM uF uY uT uL uC uX (j + 1) uI uR uW uH uG Co Lx x (Sg i) y (by omega) (by omega) (by omega)) 3 gX7_readStack_X7_reading rfl (by decide +kernel) (by decide) ⟨Nat.zero_le _, Nat.zero_le _⟩ rfl 0 rfl rfl rfl (Nat.le_of_ble_eq_true rfl) [0, 3, 4] [1, 2, 5] [3, 0, 1, 4, 5, 2] rfl rfl (by decide) (by decide) rfl (by decide) dX7_readStack_87 90 rfl ?_
                  refine g_aload_n C dX7_readStack_90 rfl 91 rfl 4 rfl ?_
                  refine g_get C iX7 0 rfl rfl 22 (by decide) (C.1.2.2.2.2 (.fieldLink RX7 64 "StackRunsModel" "rest" "[J") (List.mem_of_getElem? (i := 1) rfl)) rfl dX7_readStack_91 94 rfl ?_
                  refine g_bipush (v := nI 11) C dX7_readStack_94 (by decide) 96 rfl ?_
                  refine g_iload_n C dX7_readStack_96 rfl 97 rfl 3 rfl ?_
                  refine g_imul (z := nI (11 * i)) C dX7_readStack_97 98 rfl (pk_mul _ _) ?_
                  refine g_iload C dX7_readStack_98 100 rfl 0 rfl ?_
                  refine g_iadd (z := nI ((11 * i) + y)) C dX7_readStack_100 101 rfl (nI_add _ _) ?_
                  refine g_lald (i := ((11 * i) + y)) C 5 rfl (by omega) (by decide) dX7_readStack_101 102 rfl ?_
                  refine g_cSl (ws2 := [ob o7 7 [.int (nI n), .int (nI m), .int (nI z), .ref uP, .ref uS, .ref uQ, .ref uA, .ref uB, .int (nI c), .ref uK, .int (nI h), .int (nI ns), .ref uM, .ref uF, .ref uY, .ref uT, .ref uL, .ref uC, .ref uX, .int (oI (j + 1)), .ref uI, .ref uR, .ref uW, .ref uH, .ref uG], aN (eY E) uK 60 Sg, aZ (eY E) uL 66 La, aR (eY E) uC 275 Co, aZ (eY E) uX 330 Lx, aR (eY E) uW 671 (rsX Lx Co Sg (rsI Lx Co Sg (fillG Re (laF La j) 11) i) i x)]) (As := [.long (rv (rdF Lx Co x (Sg i) y)), .long (rv ((rsX Lx Co Sg (rsI Lx Co Sg (fillG Re (laF La j) 11) i) i x) ((11 * i) + y)))]) (st := [.long (rv (rsY Lx Co Sg (rsX Lx Co Sg (rsI Lx Co Sg (fillG Re (laF La j) 11) i) i x) x i y))]) (wsc := []) (wr := [ob o7 7 [.int (nI n), .int (nI m), .int (nI z), .ref uP, .ref uS, .ref uQ, .ref uA, .ref uB, .int (nI c), .ref uK, .int (nI h), .int (nI ns), .ref uM, .ref uF, .ref uY, .ref uT, .ref uL, .ref uC, .ref uX, .int (oI (j + 1)), .ref uI, .ref uR, .ref uW, .ref uH, .ref uG], aN (eY E) uK 60 Sg, aZ (eY E) uL 66 La, aR (eY E) uC 275 Co, aZ (eY E) uX 330 Lx, aR (eY E) uW 671 (rsX Lx Co Sg (rsI Lx Co Sg (fillG Re (laF La j) 11) i) i x)]) C (c_X7_plus (eL E) (eD E) (eY E) (rdF Lx Co x (Sg i) y) ((rsX Lx Co Sg (rsI Lx Co Sg (fillG Re (laF La j) 11) i) i x) ((11 * i) + y)) (by exact rdF_ok hCo _ _ _) (by exact hT3)) 2 gX7_readStack_X7_plus rfl (by decide +kernel) (by decide) ⟨Nat.zero_le _, Nat.zero_le _⟩ rfl rfl (Nat.le_of_ble_eq_true rfl) [] [0, 1, 2, 3, 4, 5] [0, 1, 2, 3, 4, 5] rfl rfl (by decide) (by decide) rfl (by decide) dX7_readStack_102 105 rfl ?_
                  refine g_cSl (ws2 := [ob o7 7 [.int (nI n), .int (nI m), .int (nI z), .ref uP, .ref uS, .ref uQ, .ref uA, .ref uB, .int (nI c), .ref uK, .int (nI h), .int (nI ns), .ref uM, .ref uF, .ref uY, .ref uT, .ref uL, .ref uC, .ref uX, .int (oI (j + 1)), .ref uI, .ref uR, .ref uW, .ref uH, .ref uG], aN (eY E) uK 60 Sg, aZ (eY E) uL 66 La, aR (eY E) uC 275 Co, aZ (eY E) uX 330 Lx, aR (eY E) uW 671 (rsX Lx Co Sg (rsI Lx Co Sg (fillG Re (laF La j) 11) i) i x)]) (As := [.long (rv (rsY Lx Co Sg (rsX Lx Co Sg (rsI Lx Co Sg (fillG Re (laF La j) 11) i) i x) x i y)), .long (rv (sm (rdF Lx Co x (Sg i) y) ((rsX Lx Co Sg (rsI Lx Co Sg (fillG Re (laF La j) 11) i) i x) ((11 * i) + y))))]) (st := []) (wsc := []) (wr := [ob o7 7 [.int (nI n), .int (nI m), .int (nI z), .ref uP, .ref uS, .ref uQ, .ref uA, .ref uB, .int (nI c), .ref uK, .int (nI h), .int (nI ns), .ref uM, .ref uF, .ref uY, .ref uT, .ref uL, .ref uC, .ref uX, .int (oI (j + 1)), .ref uI, .ref uR, .ref uW, .ref uH, .ref uG], aN (eY E) uK 60 Sg, aZ (eY E) uL 66 La, aR (eY E) uC 275 Co, aZ (eY E) uX 330 Lx, aR (eY E) uW 671 (rsX Lx Co Sg (rsI Lx Co Sg (fillG Re (laF La j) 11) i) i x)]) C (c_X7_lesser (eL E) (eD E) (eY E) (rsY Lx Co Sg (rsX Lx Co Sg (rsI Lx Co Sg (fillG Re (laF La j) 11) i) i x) x i y) (sm (rdF Lx Co x (Sg i) y) ((rsX Lx Co Sg (rsI Lx Co Sg (fillG Re (laF La j) 11) i) i x) ((11 * i) + y))) (by exact hY) (by exact sm_ok _ _)) 2 gX7_readStack_X7_lesser rfl (by decide +kernel) (by decide) ⟨Nat.zero_le _, Nat.zero_le _⟩ rfl rfl (Nat.le_of_ble_eq_true rfl) [] [0, 1, 2, 3, 4, 5] [0, 1, 2, 3, 4, 5] rfl rfl (by decide) (by decide) rfl (by decide) dX7_readStack_105 108 rfl ?_
                  refine g_lstore_n (lv' := [(3, .long (rv (min (rsY Lx Co Sg (rsX Lx Co Sg (rsI Lx Co Sg (fillG Re (laF La j) 11) i) i x) x i y) (sm (rdF Lx Co x (Sg i) y) ((rsX Lx Co Sg (rsI Lx Co Sg (fillG Re (laF La j) 11) i) i x) ((11 * i) + y)))))), (5, .int (nI y)), (2, .int (nI x)), (1, .int (nI i)), (0, .ref o7)]) C dX7_readStack_108 rfl 109 rfl (by decide) rfl ?_
                  refine g_iinc (lv' := [(5, .int (nI (y + 1))), (3, .long (rv (min (rsY Lx Co Sg (rsX Lx Co Sg (rsI Lx Co Sg (fillG Re (laF La j) 11) i) i x) x i y) (sm (rdF Lx Co x (Sg i) y) ((rsX Lx Co Sg (rsI Lx Co Sg (fillG Re (laF La j) 11) i) i x) ((11 * i) + y)))))), (2, .int (nI x)), (1, .int (nI i)), (0, .ref o7)]) C dX7_readStack_109 112 rfl 1 rfl (by decide) rfl ?_
                  refine g_goto C dX7_readStack_112 69 (by decide) ?_
                  have e_4 : (rsY Lx Co Sg (rsX Lx Co Sg (rsI Lx Co Sg (fillG Re (laF La j) 11) i) i x) x i (y + 1)) = (min (rsY Lx Co Sg (rsX Lx Co Sg (rsI Lx Co Sg (fillG Re (laF La j) 11) i) i x) x i y) (sm (rdF Lx Co x (Sg i) y) ((rsX Lx Co Sg (rsI Lx Co Sg (fillG Re (laF La j) 11) i) i x) ((11 * i) + y)))) := by first | with_reducible rfl | (rfl)
                  refine go_eq (lv' := [(5, .int (nI (y + 1))), (3, .long (rv (rsY Lx Co Sg (rsX Lx Co Sg (rsI Lx Co Sg (fillG Re (laF La j) 11) i) i x) x i (y + 1)))), (2, .int (nI x)), (1, .int (nI i)), (0, .ref o7)]) (ws' := [ob o7 7 [.int (nI n), .int (nI m), .int (nI z), .ref uP, .ref uS, .ref uQ, .ref uA, .ref uB, .int (nI c), .ref uK, .int (nI h), .int (nI ns), .ref uM, .ref uF, .ref uY, .ref uT, .ref uL, .ref uC, .ref uX, .int (oI (j + 1)), .ref uI, .ref uR, .ref uW, .ref uH, .ref uG], aN (eY E) uK 60 Sg, aZ (eY E) uL 66 La, aR (eY E) uC 275 Co, aZ (eY E) uX 330 Lx, aR (eY E) uW 671 (rsX Lx Co Sg (rsI Lx Co Sg (fillG Re (laF La j) 11) i) i x)]) (by first | with_reducible rfl | (simp only [e_4, oI_s, oI_0, bI_1, bI_0, and_self, reduceIte]; done)) rfl (by first | with_reducible rfl | (simp only [oI_s, oI_0, bI_1, bI_0, and_self, reduceIte]; done) | rfl) ?_
                  exact ih_y (by omega)
              have e_5 : (rsY Lx Co Sg (rsX Lx Co Sg (rsI Lx Co Sg (fillG Re (laF La j) 11) i) i x) x i 0) = 9000000000000000000 := by first | with_reducible rfl | (rfl)
              refine go_eq (lv' := [(5, .int (nI 0)), (3, .long (rv (rsY Lx Co Sg (rsX Lx Co Sg (rsI Lx Co Sg (fillG Re (laF La j) 11) i) i x) x i 0))), (2, .int (nI x)), (1, .int (nI i)), (0, .ref o7)]) (ws' := [ob o7 7 [.int (nI n), .int (nI m), .int (nI z), .ref uP, .ref uS, .ref uQ, .ref uA, .ref uB, .int (nI c), .ref uK, .int (nI h), .int (nI ns), .ref uM, .ref uF, .ref uY, .ref uT, .ref uL, .ref uC, .ref uX, .int (oI (j + 1)), .ref uI, .ref uR, .ref uW, .ref uH, .ref uG], aN (eY E) uK 60 Sg, aZ (eY E) uL 66 La, aR (eY E) uC 275 Co, aZ (eY E) uX 330 Lx, aR (eY E) uW 671 (rsX Lx Co Sg (rsI Lx Co Sg (fillG Re (laF La j) 11) i) i x)]) (by first | with_reducible rfl | (simp only [e_5, oI_s, oI_0, bI_1, bI_0, and_self, reduceIte]; done)) rfl (by first | with_reducible rfl | (simp only [oI_s, oI_0, bI_1, bI_0, and_self, reduceIte]; done) | rfl) ?_
              exact L69 0 (by omega)
          have e_6 : (rsX Lx Co Sg (rsI Lx Co Sg (fillG Re (laF La j) 11) i) i 0) = (rsI Lx Co Sg (fillG Re (laF La j) 11) i) := by first | with_reducible rfl | (rfl)
          refine go_eq (lv' := [(2, .int (nI 0)), (1, .int (nI i)), (0, .ref o7)]) (ws' := [ob o7 7 [.int (nI n), .int (nI m), .int (nI z), .ref uP, .ref uS, .ref uQ, .ref uA, .ref uB, .int (nI c), .ref uK, .int (nI h), .int (nI ns), .ref uM, .ref uF, .ref uY, .ref uT, .ref uL, .ref uC, .ref uX, .int (oI (j + 1)), .ref uI, .ref uR, .ref uW, .ref uH, .ref uG], aN (eY E) uK 60 Sg, aZ (eY E) uL 66 La, aR (eY E) uC 275 Co, aZ (eY E) uX 330 Lx, aR (eY E) uW 671 (rsX Lx Co Sg (rsI Lx Co Sg (fillG Re (laF La j) 11) i) i 0)]) (by first | with_reducible rfl | (simp only [oI_s, oI_0, bI_1, bI_0, and_self, reduceIte]; done) | rfl) rfl (by first | with_reducible rfl | (simp only [e_6, oI_s, oI_0, bI_1, bI_0, and_self, reduceIte]; done)) ?_
          exact L56 0 (by omega)
      have e_7 : (rsI Lx Co Sg (fillG Re (laF La j) 11) 0) = (fillG Re (laF La j) 11) := by first | with_reducible rfl | (rfl)
      refine go_eq (lv' := [(1, .int (nI 0)), (0, .ref o7)]) (ws' := [ob o7 7 [.int (nI n), .int (nI m), .int (nI z), .ref uP, .ref uS, .ref uQ, .ref uA, .ref uB, .int (nI c), .ref uK, .int (nI h), .int (nI ns), .ref uM, .ref uF, .ref uY, .ref uT, .ref uL, .ref uC, .ref uX, .int (oI (j + 1)), .ref uI, .ref uR, .ref uW, .ref uH, .ref uG], aN (eY E) uK 60 Sg, aZ (eY E) uL 66 La, aR (eY E) uC 275 Co, aZ (eY E) uX 330 Lx, aR (eY E) uW 671 (rsI Lx Co Sg (fillG Re (laF La j) 11) 0)]) (by first | with_reducible rfl | (simp only [oI_s, oI_0, bI_1, bI_0, and_self, reduceIte]; done) | rfl) rfl (by first | with_reducible rfl | (simp only [e_7, oI_s, oI_0, bI_1, bI_0, and_self, reduceIte]; done)) ?_
      exact L46 0 (by omega)
    · intro h5
      refine g_aload_n C dX7_readStack_8 rfl 9 rfl 1 rfl ?_
      refine g_get C iX7 0 rfl rfl 22 (by decide) (C.1.2.2.2.2 (.fieldLink RX7 64 "StackRunsModel" "rest" "[J") (List.mem_of_getElem? (i := 1) rfl)) rfl dX7_readStack_9 12 rfl ?_
      refine g_iload_n C dX7_readStack_12 rfl 13 rfl 0 rfl ?_
      refine g_aload_n C dX7_readStack_13 rfl 14 rfl 1 rfl ?_
      refine g_get C iX7 0 rfl rfl 16 (by decide) (C.1.2.2.2.2 (.fieldLink RX7 47 "StackRunsModel" "isLast" "[Z") (List.mem_of_getElem? (i := 2) rfl)) rfl dX7_readStack_14 17 rfl ?_
      refine g_bipush (v := nI 11) C dX7_readStack_17 (by decide) 19 rfl ?_
      refine g_aload_n C dX7_readStack_19 rfl 20 rfl 1 rfl ?_
      refine g_get C iX7 0 rfl rfl 19 (by decide) (C.1.2.2.2.2 (.fieldLink RX7 142 "StackRunsModel" "netOf" "I") (List.mem_of_getElem? (i := 3) rfl)) rfl dX7_readStack_20 23 rfl ?_
      refine go_st (show Value.int (oI (j + 1)) = .int (nI j) from by rw [oI_s]) ?_
      refine g_imul (z := nI (11 * j)) C dX7_readStack_23 24 rfl (pk_mul _ _) ?_
      refine g_iload_n C dX7_readStack_24 rfl 25 rfl 0 rfl ?_
      refine g_iadd (z := nI ((11 * j) + x)) C dX7_readStack_25 26 rfl (nI_add _ _) ?_
      refine g_zald (i := ((11 * j) + x)) C 2 rfl (by omega) (by decide) dX7_readStack_26 27 rfl ?_
      refine g_if_eq (X := La ((11 * j) + x) = false) C dX7_readStack_27 34 (by decide) 30 rfl (bI_eq0 _) ?_ ?_
      · intro h27
        refine g_ldc2 (v' := (rv 9000000000000000000)) C (C.1.2.2.2.2 (.constantLong RX7 123 (-1)) (List.mem_of_getElem? (i := 4) rfl)) (by decide) dX7_readStack_34 37 rfl ?_
        refine g_last (ws' := [ob o7 7 [.int (nI n), .int (nI m), .int (nI z), .ref uP, .ref uS, .ref uQ, .ref uA, .ref uB, .int (nI c), .ref uK, .int (nI h), .int (nI ns), .ref uM, .ref uF, .ref uY, .ref uT, .ref uL, .ref uC, .ref uX, .int (oI (j + 1)), .ref uI, .ref uR, .ref uW, .ref uH, .ref uG], aN (eY E) uK 60 Sg, aZ (eY E) uL 66 La, aR (eY E) uC 275 Co, aZ (eY E) uX 330 Lx, aR (eY E) uW 671 (up (fillG Re (laF La j) x) x 9000000000000000000)]) (i := x) C 5 rfl (by omega) (by decide) dX7_readStack_37 38 rfl (upd_R _ _ _) rfl ?_
        refine g_iinc (lv' := [(1, .int (nI (x + 1))), (0, .ref o7)]) C dX7_readStack_38 41 rfl 0 rfl (by decide) rfl ?_
        refine g_goto C dX7_readStack_41 2 (by decide) ?_
        have e_8 : (fillG Re (laF La j) (x + 1)) = (up (fillG Re (laF La j) x) x 9000000000000000000) := by first | with_reducible rfl | (rw [fillG_s]; simp only [laF, h27, Bool.false_eq_true, reduceIte])
        refine go_eq (lv' := [(1, .int (nI (x + 1))), (0, .ref o7)]) (ws' := [ob o7 7 [.int (nI n), .int (nI m), .int (nI z), .ref uP, .ref uS, .ref uQ, .ref uA, .ref uB, .int (nI c), .ref uK, .int (nI h), .int (nI ns), .ref uM, .ref uF, .ref uY, .ref uT, .ref uL, .ref uC, .ref uX, .int (oI (j + 1)), .ref uI, .ref uR, .ref uW, .ref uH, .ref uG], aN (eY E) uK 60 Sg, aZ (eY E) uL 66 La, aR (eY E) uC 275 Co, aZ (eY E) uX 330 Lx, aR (eY E) uW 671 (fillG Re (laF La j) (x + 1))]) (by first | with_reducible rfl | (simp only [oI_s, oI_0, bI_1, bI_0, and_self, reduceIte]; done) | rfl) rfl (by first | with_reducible rfl | (simp only [e_8, oI_s, oI_0, bI_1, bI_0, and_self, reduceIte]; done)) ?_
        exact ih_x (by omega)
      · intro h27
        have h27 : La ((11 * j) + x) = true := by simpa using h27
        refine g_lconst (v := rv 0) C dX7_readStack_30 (by decide) 31 rfl ?_
        refine g_goto C dX7_readStack_31 37 (by decide) ?_
        refine g_last (ws' := [ob o7 7 [.int (nI n), .int (nI m), .int (nI z), .ref uP, .ref uS, .ref uQ, .ref uA, .ref uB, .int (nI c), .ref uK, .int (nI h), .int (nI ns), .ref uM, .ref uF, .ref uY, .ref uT, .ref uL, .ref uC, .ref uX, .int (oI (j + 1)), .ref uI, .ref uR, .ref uW, .ref uH, .ref uG], aN (eY E) uK 60 Sg, aZ (eY E) uL 66 La, aR (eY E) uC 275 Co, aZ (eY E) uX 330 Lx, aR (eY E) uW 671 (up (fillG Re (laF La j) x) x 0)]) (i := x) C 5 rfl (by omega) (by decide) dX7_readStack_37 38 rfl (upd_R _ _ _) rfl ?_
        refine g_iinc (lv' := [(1, .int (nI (x + 1))), (0, .ref o7)]) C dX7_readStack_38 41 rfl 0 rfl (by decide) rfl ?_
        refine g_goto C dX7_readStack_41 2 (by decide) ?_
        have e_9 : (fillG Re (laF La j) (x + 1)) = (up (fillG Re (laF La j) x) x 0) := by first | with_reducible rfl | (rw [fillG_s]; simp only [laF, h27, Bool.false_eq_true, reduceIte])
        refine go_eq (lv' := [(1, .int (nI (x + 1))), (0, .ref o7)]) (ws' := [ob o7 7 [.int (nI n), .int (nI m), .int (nI z), .ref uP, .ref uS, .ref uQ, .ref uA, .ref uB, .int (nI c), .ref uK, .int (nI h), .int (nI ns), .ref uM, .ref uF, .ref uY, .ref uT, .ref uL, .ref uC, .ref uX, .int (oI (j + 1)), .ref uI, .ref uR, .ref uW, .ref uH, .ref uG], aN (eY E) uK 60 Sg, aZ (eY E) uL 66 La, aR (eY E) uC 275 Co, aZ (eY E) uX 330 Lx, aR (eY E) uW 671 (fillG Re (laF La j) (x + 1))]) (by first | with_reducible rfl | (simp only [oI_s, oI_0, bI_1, bI_0, and_self, reduceIte]; done) | rfl) rfl (by first | with_reducible rfl | (simp only [e_9, oI_s, oI_0, bI_1, bI_0, and_self, reduceIte]; done)) ?_
        exact ih_x (by omega)
  have e_10 : (fillG Re (laF La j) 0) = Re := by first | with_reducible rfl | (rw [fillG_0])
  refine go_eq (lv' := [(1, .int (nI 0)), (0, .ref o7)]) (ws' := [ob o7 7 [.int (nI n), .int (nI m), .int (nI z), .ref uP, .ref uS, .ref uQ, .ref uA, .ref uB, .int (nI c), .ref uK, .int (nI h), .int (nI ns), .ref uM, .ref uF, .ref uY, .ref uT, .ref uL, .ref uC, .ref uX, .int (oI (j + 1)), .ref uI, .ref uR, .ref uW, .ref uH, .ref uG], aN (eY E) uK 60 Sg, aZ (eY E) uL 66 La, aR (eY E) uC 275 Co, aZ (eY E) uX 330 Lx, aR (eY E) uW 671 (fillG Re (laF La j) 0)]) (by first | with_reducible rfl | (simp only [oI_s, oI_0, bI_1, bI_0, and_self, reduceIte]; done) | rfl) rfl (by first | with_reducible rfl | (simp only [e_10, oI_s, oI_0, bI_1, bI_0, and_self, reduceIte]; done)) ?_
  exact L2 0 (by omega)
set_option maxHeartbeats 4000000 in
set_option maxRecDepth 100000 in
theorem c_X7_farNow (l : Launch) (D : va_G) (cy : Nat → ClassId) (o7 : Nat) (n : Nat) (m : Nat) (z : Nat) (uP : Nat) (uS : Nat) (uQ : Nat) (uA : Nat) (uB : Nat) (c : Nat) (uK : Nat) (h : Nat) (ns : Nat) (uM : Nat) (uF : Nat) (uY : Nat) (uT : Nat) (uL : Nat) (uC : Nat) (uX : Nat) (uI : Nat) (uR : Nat) (uW : Nat) (uH : Nat) (uG : Nat) (j : Nat) (Sg : Nat → Nat) (La : Nat → Bool) (Co : Nat → Nat) (Lx : Nat → Bool) (Re : Nat → Nat) (hj : j < 6) (hCo : okf Co) (hRe : okf Re) (hh : h ≤ 60) (hS : ∀ i, Sg i < 5) (hc : c < 5) : CoL l yX7_farNow wsX7_farNow 3 70 D cy [ob o7 7 [.int (nI n), .int (nI m), .int (nI z), .ref uP, .ref uS, .ref uQ, .ref uA, .ref uB, .int (nI c), .ref uK, .int (nI h), .int (nI ns), .ref uM, .ref uF, .ref uY, .ref uT, .ref uL, .ref uC, .ref uX, .int (oI (j + 1)), .ref uI, .ref uR, .ref uW, .ref uH, .ref uG], aN cy uK 60 Sg, aZ cy uL 66 La, aR cy uC 275 Co, aZ cy uX 330 Lx, aR cy uW 671 Re] [.ref o7] [ob o7 7 [.int (nI n), .int (nI m), .int (nI z), .ref uP, .ref uS, .ref uQ, .ref uA, .ref uB, .int (nI c), .ref uK, .int (nI h), .int (nI ns), .ref uM, .ref uF, .ref uY, .ref uT, .ref uL, .ref uC, .ref uX, .int (oI (j + 1)), .ref uI, .ref uR, .ref uW, .ref uH, .ref uG], aN cy uK 60 Sg, aZ cy uL 66 La, aR cy uC 275 Co, aZ cy uX 330 Lx, aR cy uW 671 (RSf Lx La Co Sg Re j h)] (rv ((RSf Lx La Co Sg Re j h) (11 * h + c))) := by
  refine met_l (cc := cX7_farNow) (maxL := 1) (own := RX7) (lv := [(0, .ref o7)]) (by decide) rfl rfl rfl (Nat.le_of_ble_eq_true rfl) (fun E e1 e2 e3 C hret => ?_)
  subst e1; subst e2; subst e3
  have iX7 : ∀ w ∈ wsX70, w ∈ wsX7_farNow := fun _ h => List.mem_cons_of_mem _ (List.mem_append_right _ h)
  refine g_aload_n C dX7_farNow_0 rfl 1 rfl 0 rfl ?_
  refine g_cVv (ws2 := [ob o7 7 [.int (nI n), .int (nI m), .int (nI z), .ref uP, .ref uS, .ref uQ, .ref uA, .ref uB, .int (nI c), .ref uK, .int (nI h), .int (nI ns), .ref uM, .ref uF, .ref uY, .ref uT, .ref uL, .ref uC, .ref uX, .int (oI (j + 1)), .ref uI, .ref uR, .ref uW, .ref uH, .ref uG], aN (eY E) uK 60 Sg, aZ (eY E) uL 66 La, aR (eY E) uC 275 Co, aZ (eY E) uX 330 Lx, aR (eY E) uW 671 (RSf Lx La Co Sg Re j h)]) (As := []) (st := []) (wsc := [ob o7 7 [.int (nI n), .int (nI m), .int (nI z), .ref uP, .ref uS, .ref uQ, .ref uA, .ref uB, .int (nI c), .ref uK, .int (nI h), .int (nI ns), .ref uM, .ref uF, .ref uY, .ref uT, .ref uL, .ref uC, .ref uX, .int (oI (j + 1)), .ref uI, .ref uR, .ref uW, .ref uH, .ref uG], aN (eY E) uK 60 Sg, aZ (eY E) uL 66 La, aR (eY E) uC 275 Co, aZ (eY E) uX 330 Lx, aR (eY E) uW 671 Re]) (wr := []) C (c_X7_readStack (eL E) (eD E) (eY E) o7 n m z uP uS uQ uA uB c uK h ns uM uF uY uT uL uC uX uI uR uW uH uG j Sg La Co Lx Re (by omega) (by first | assumption | exact stC_ok (by assumption) | exact scC_ok (by assumption) _) (by first | assumption | exact RSf_ok (by assumption) _ _) (by omega) (by assumption)) 0 gX7_farNow_X7_readStack rfl (by decide +kernel) (by decide) ⟨Nat.zero_le _, Nat.zero_le _⟩ rfl 0 rfl rfl rfl (Nat.le_of_ble_eq_true rfl) [0, 1, 2, 3, 4, 5] [] [0, 1, 2, 3, 4, 5] rfl rfl (by decide) (by decide) rfl (by decide) dX7_farNow_1 4 rfl ?_
  refine g_aload_n C dX7_farNow_4 rfl 5 rfl 0 rfl ?_
  refine g_get C iX7 0 rfl rfl 22 (by decide) (C.1.2.2.2.2 (.fieldLink RX7 64 "StackRunsModel" "rest" "[J") (List.mem_of_getElem? (i := 1) rfl)) rfl dX7_farNow_5 8 rfl ?_
  refine g_bipush (v := nI 11) C dX7_farNow_8 (by decide) 10 rfl ?_
  refine g_aload_n C dX7_farNow_10 rfl 11 rfl 0 rfl ?_
  refine g_get C iX7 0 rfl rfl 10 (by decide) (C.1.2.2.2.2 (.fieldLink RX7 85 "StackRunsModel" "height" "I") (List.mem_of_getElem? (i := 2) rfl)) rfl dX7_farNow_11 14 rfl ?_
  refine g_imul (z := nI (11 * h)) C dX7_farNow_14 15 rfl (pk_mul _ _) ?_
  refine g_aload_n C dX7_farNow_15 rfl 16 rfl 0 rfl ?_
  refine g_get C iX7 0 rfl rfl 8 (by decide) (C.1.2.2.2.2 (.fieldLink RX7 82 "StackRunsModel" "control" "I") (List.mem_of_getElem? (i := 3) rfl)) rfl dX7_farNow_16 19 rfl ?_
  refine g_iadd (z := nI ((11 * h) + c)) C dX7_farNow_19 20 rfl (nI_add _ _) ?_
  refine g_lald (i := ((11 * h) + c)) C 5 rfl (by omega) (by decide) dX7_farNow_20 21 rfl ?_
  have e_1 : ((RSf Lx La Co Sg Re j h) (11 * h + c)) = ((RSf Lx La Co Sg Re j h) ((11 * h) + c)) := by first | with_reducible rfl | (simp [*])
  refine go_eq rfl (st' := [.long (rv ((RSf Lx La Co Sg Re j h) (11 * h + c)))]) (ws' := [ob o7 7 [.int (nI n), .int (nI m), .int (nI z), .ref uP, .ref uS, .ref uQ, .ref uA, .ref uB, .int (nI c), .ref uK, .int (nI h), .int (nI ns), .ref uM, .ref uF, .ref uY, .ref uT, .ref uL, .ref uC, .ref uX, .int (oI (j + 1)), .ref uI, .ref uR, .ref uW, .ref uH, .ref uG], aN (eY E) uK 60 Sg, aZ (eY E) uL 66 La, aR (eY E) uC 275 Co, aZ (eY E) uX 330 Lx, aR (eY E) uW 671 (RSf Lx La Co Sg Re j h)]) (by first | with_reducible rfl | (simp only [e_1, oI_s, oI_0, bI_1, bI_0, and_self, reduceIte]; done)) (by first | with_reducible rfl | (simp only [e_1, oI_s, oI_0, bI_1, bI_0, and_self, reduceIte]; done)) ?_
  exact hret _ _ dX7_farNow_21
set_option maxHeartbeats 4000000 in
set_option maxRecDepth 100000 in
theorem c_X7_nextRule (l : Launch) (D : va_G) (cy : Nat → ClassId) (o7 : Nat) (n : Nat) (m : Nat) (z : Nat) (uP : Nat) (uS : Nat) (uQ : Nat) (uA : Nat) (uB : Nat) (c : Nat) (uK : Nat) (h : Nat) (ns : Nat) (uM : Nat) (uF : Nat) (uY : Nat) (uT : Nat) (uL : Nat) (uC : Nat) (uX : Nat) (nf : Nat) (uI : Nat) (uR : Nat) (uW : Nat) (uH : Nat) (uG : Nat) (Pp : Nat → Nat) (Ps : Nat → Nat) (Pq : Nat → Nat) (Pa : Nat → Nat) (Pb : Nat → Nat) (Sg : Nat → Nat) (Co : Nat → Nat) (Lx : Nat → Bool) (Re : Nat → Nat) (nw : Nat) (r : Nat) (hR5 : ∀ r, Pp r < 5 ∧ Ps r < 5 ∧ Pq r < 5 ∧ Pa r ≤ 5 ∧ Pb r ≤ 5) (hCo : okf Co) (hRe : okf Re) (hz : z ≤ 30) (hc : c < 5) (hh : h ≤ 60) (hS : ∀ i, Sg i < 5) (hnw : nw ≤ 1000000000000000 ∨ nw = 9000000000000000000) (hr : r < z) (hP : nextP Lx Co Pp Ps Pq Pa Pb Sg Re c h nw r) (hNo : ∀ i, i < r → ¬ nextP Lx Co Pp Ps Pq Pa Pb Sg Re c h nw i) : CoI l yX7_nextRule wsX7_nextRule 3 71 D cy [ob o7 7 [.int (nI n), .int (nI m), .int (nI z), .ref uP, .ref uS, .ref uQ, .ref uA, .ref uB, .int (nI c), .ref uK, .int (nI h), .int (nI ns), .ref uM, .ref uF, .ref uY, .ref uT, .ref uL, .ref uC, .ref uX, .int (oI nf), .ref uI, .ref uR, .ref uW, .ref uH, .ref uG], aN cy uP 30 Pp, aN cy uS 30 Ps, aN cy uQ 30 Pq, aO cy uA 30 Pa, aO cy uB 30 Pb, aN cy uK 60 Sg, aR cy uC 275 Co, aZ cy uX 330 Lx, aR cy uW 671 Re] [.ref o7, .long (rv nw)] [ob o7 7 [.int (nI n), .int (nI m), .int (nI z), .ref uP, .ref uS, .ref uQ, .ref uA, .ref uB, .int (nI c), .ref uK, .int (nI h), .int (nI ns), .ref uM, .ref uF, .ref uY, .ref uT, .ref uL, .ref uC, .ref uX, .int (oI nf), .ref uI, .ref uR, .ref uW, .ref uH, .ref uG], aN cy uP 30 Pp, aN cy uS 30 Ps, aN cy uQ 30 Pq, aO cy uA 30 Pa, aO cy uB 30 Pb, aN cy uK 60 Sg, aR cy uC 275 Co, aZ cy uX 330 Lx, aR cy uW 671 Re] (nI r) := by
  refine met_i (cc := cX7_nextRule) (maxL := 7) (own := RX7) (lv := [(0, .ref o7), (1, .long (rv nw))]) (by decide) rfl rfl rfl (Nat.le_of_ble_eq_true rfl) (fun E e1 e2 e3 C hret => ?_)
  subst e1; subst e2; subst e3
  have iX7 : ∀ w ∈ wsX70, w ∈ wsX7_nextRule := fun _ h => List.mem_cons_of_mem _ (List.mem_append_right _ h)
  refine g_iconst (v := nI 0) C dX7_nextRule_0 (by decide) 1 rfl ?_
  refine g_istore_n (lv' := [(3, .int (nI 0)), (0, .ref o7), (1, .long (rv nw))]) C dX7_nextRule_1 rfl 2 rfl (by decide) rfl ?_
  have L2 : ∀ i, i ≤ r → Go E 0 0 2 [(3, .int (nI i)), (0, .ref o7), (1, .long (rv nw))] [] [ob o7 7 [.int (nI n), .int (nI m), .int (nI z), .ref uP, .ref uS, .ref uQ, .ref uA, .ref uB, .int (nI c), .ref uK, .int (nI h), .int (nI ns), .ref uM, .ref uF, .ref uY, .ref uT, .ref uL, .ref uC, .ref uX, .int (oI nf), .ref uI, .ref uR, .ref uW, .ref uH, .ref uG], aN (eY E) uP 30 Pp, aN (eY E) uS 30 Ps, aN (eY E) uQ 30 Pq, aO (eY E) uA 30 Pa, aO (eY E) uB 30 Pb, aN (eY E) uK 60 Sg, aR (eY E) uC 275 Co, aZ (eY E) uX 330 Lx, aR (eY E) uW 671 Re] := by
    refine go_for r (fun i => Go E 0 0 2 [(3, .int (nI i)), (0, .ref o7), (1, .long (rv nw))] [] [ob o7 7 [.int (nI n), .int (nI m), .int (nI z), .ref uP, .ref uS, .ref uQ, .ref uA, .ref uB, .int (nI c), .ref uK, .int (nI h), .int (nI ns), .ref uM, .ref uF, .ref uY, .ref uT, .ref uL, .ref uC, .ref uX, .int (oI nf), .ref uI, .ref uR, .ref uW, .ref uH, .ref uG], aN (eY E) uP 30 Pp, aN (eY E) uS 30 Ps, aN (eY E) uQ 30 Pq, aO (eY E) uA 30 Pa, aO (eY E) uB 30 Pb, aN (eY E) uK 60 Sg, aR (eY E) uC 275 Co, aZ (eY E) uX 330 Lx, aR (eY E) uW 671 Re]) (fun i hi_i ih_i => ?_)
    refine g_iload_n C dX7_nextRule_2 rfl 3 rfl 0 rfl ?_
    refine g_aload_n C dX7_nextRule_3 rfl 4 rfl 1 rfl ?_
    refine g_get C iX7 0 rfl rfl 2 (by decide) (C.1.2.2.2.2 (.fieldLink RX7 79 "StackRunsModel" "rules" "I") (List.mem_of_getElem? (i := 1) rfl)) rfl dX7_nextRule_4 7 rfl ?_
    refine g_icmp_ge (X := z ≤ i) C dX7_nextRule_7 88 (by decide) 10 rfl (nI_leI (by omega) (by omega)) ?_ ?_
    · intro h7
      exact (show False from by omega).elim
    · intro h7
      refine g_aload_n C dX7_nextRule_10 rfl 11 rfl 1 rfl ?_
      refine g_iload_n C dX7_nextRule_11 rfl 12 rfl 0 rfl ?_
      refine g_cVi (ws2 := [ob o7 7 [.int (nI n), .int (nI m), .int (nI z), .ref uP, .ref uS, .ref uQ, .ref uA, .ref uB, .int (nI c), .ref uK, .int (nI h), .int (nI ns), .ref uM, .ref uF, .ref uY, .ref uT, .ref uL, .ref uC, .ref uX, .int (oI nf), .ref uI, .ref uR, .ref uW, .ref uH, .ref uG], aN (eY E) uP 30 Pp, aN (eY E) uS 30 Ps, aN (eY E) uQ 30 Pq, aO (eY E) uA 30 Pa, aO (eY E) uB 30 Pb, aN (eY E) uK 60 Sg, aR (eY E) uC 275 Co, aZ (eY E) uX 330 Lx, aR (eY E) uW 671 Re]) (As := [.int (nI i)]) (st := []) (wsc := [ob o7 7 [.int (nI n), .int (nI m), .int (nI z), .ref uP, .ref uS, .ref uQ, .ref uA, .ref uB, .int (nI c), .ref uK, .int (nI h), .int (nI ns), .ref uM, .ref uF, .ref uY, .ref uT, .ref uL, .ref uC, .ref uX, .int (oI nf), .ref uI, .ref uR, .ref uW, .ref uH, .ref uG], aN (eY E) uP 30 Pp, aN (eY E) uS 30 Ps, aN (eY E) uK 60 Sg]) (wr := [aN (eY E) uQ 30 Pq, aO (eY E) uA 30 Pa, aO (eY E) uB 30 Pb, aR (eY E) uC 275 Co, aZ (eY E) uX 330 Lx, aR (eY E) uW 671 Re]) C (c_X7_goes (eL E) (eD E) (eY E) o7 n m z uP uS uQ uA uB c uK h ns uM uF uY uT uL uC uX nf uI uR uW uH uG Pp Ps Sg i (by exact fun r => ⟨(hR5 r).1, (hR5 r).2.1⟩) (by assumption) (by omega) (by omega) (by omega)) 1 gX7_nextRule_X7_goes rfl (by decide +kernel) (by decide) ⟨Nat.zero_le _, Nat.zero_le _⟩ rfl 0 rfl rfl rfl (Nat.le_of_ble_eq_true rfl) [0, 1, 2, 6] [3, 4, 5, 7, 8, 9] [6, 7, 8, 0, 1, 2, 9, 3, 4, 5] rfl rfl (by decide) (by decide) rfl (by decide) dX7_nextRule_12 15 rfl ?_
      refine g_if_eq (X := gsF c h Pp Ps Sg i = false) C dX7_nextRule_15 82 (by decide) 18 rfl (bI_eq0 _) ?_ ?_
      · intro h15
        refine g_iinc (lv' := [(3, .int (nI (i + 1))), (0, .ref o7), (1, .long (rv nw))]) C dX7_nextRule_82 85 rfl 0 rfl (by decide) rfl ?_
        refine g_goto C dX7_nextRule_85 2 (by decide) ?_
        exact ih_i (by first | exact lt_of_ne_P hi_i (fun e => by rw [e] at h15; exact Bool.noConfusion (h15.symm.trans hP.1)) | exact lt_of_ne_P hi_i (fun e => h76 (by rw [e]; exact hP.2)))
      · intro h15
        have h15 : gsF c h Pp Ps Sg i = true := by simpa using h15
        have hpos : 0 < h := gsF_pos h15
        refine g_ldc2 (v' := (rv 9000000000000000000)) C (C.1.2.2.2.2 (.constantLong RX7 123 (-1)) (List.mem_of_getElem? (i := 2) rfl)) (by decide) dX7_nextRule_18 21 rfl ?_
        refine g_lstore (lv' := [(4, .long (rv 9000000000000000000)), (3, .int (nI i)), (0, .ref o7), (1, .long (rv nw))]) C dX7_nextRule_21 23 rfl (by decide) rfl ?_
        refine g_iconst (v := nI 0) C dX7_nextRule_23 (by decide) 24 rfl ?_
        refine g_istore (lv' := [(6, .int (nI 0)), (4, .long (rv 9000000000000000000)), (3, .int (nI i)), (0, .ref o7), (1, .long (rv nw))]) C dX7_nextRule_24 26 rfl (by decide) rfl ?_
        have L26 : ∀ y, y ≤ 11 → Go E 0 0 26 [(6, .int (nI y)), (4, .long (rv (nxY (scF Lx Pq Pa Pb Co) Re i (11 * (h - 1)) y))), (3, .int (nI i)), (0, .ref o7), (1, .long (rv nw))] [] [ob o7 7 [.int (nI n), .int (nI m), .int (nI z), .ref uP, .ref uS, .ref uQ, .ref uA, .ref uB, .int (nI c), .ref uK, .int (nI h), .int (nI ns), .ref uM, .ref uF, .ref uY, .ref uT, .ref uL, .ref uC, .ref uX, .int (oI nf), .ref uI, .ref uR, .ref uW, .ref uH, .ref uG], aN (eY E) uP 30 Pp, aN (eY E) uS 30 Ps, aN (eY E) uQ 30 Pq, aO (eY E) uA 30 Pa, aO (eY E) uB 30 Pb, aN (eY E) uK 60 Sg, aR (eY E) uC 275 Co, aZ (eY E) uX 330 Lx, aR (eY E) uW 671 Re] := by
          refine go_for 11 (fun y => Go E 0 0 26 [(6, .int (nI y)), (4, .long (rv (nxY (scF Lx Pq Pa Pb Co) Re i (11 * (h - 1)) y))), (3, .int (nI i)), (0, .ref o7), (1, .long (rv nw))] [] [ob o7 7 [.int (nI n), .int (nI m), .int (nI z), .ref uP, .ref uS, .ref uQ, .ref uA, .ref uB, .int (nI c), .ref uK, .int (nI h), .int (nI ns), .ref uM, .ref uF, .ref uY, .ref uT, .ref uL, .ref uC, .ref uX, .int (oI nf), .ref uI, .ref uR, .ref uW, .ref uH, .ref uG], aN (eY E) uP 30 Pp, aN (eY E) uS 30 Ps, aN (eY E) uQ 30 Pq, aO (eY E) uA 30 Pa, aO (eY E) uB 30 Pb, aN (eY E) uK 60 Sg, aR (eY E) uC 275 Co, aZ (eY E) uX 330 Lx, aR (eY E) uW 671 Re]) (fun y hi_y ih_y => ?_)
          have hY := nxY_ok (scF Lx Pq Pa Pb Co) Re i (11 * (h - 1)) y
          have hT3 := hRe (11 * (h - 1) + y)
          refine g_iload C dX7_nextRule_26 28 rfl 0 rfl ?_
          refine g_bipush (v := nI 11) C dX7_nextRule_28 (by decide) 30 rfl ?_
          refine g_icmp_ge (X := 11 ≤ y) C dX7_nextRule_30 73 (by decide) 33 rfl (nI_leI (by omega) (by omega)) ?_ ?_
          · intro h30
            have x_y : y = 11 := by omega
            try rw [x_y]
            have hY2 := nxY_ok (scF Lx Pq Pa Pb Co) Re i (11 * (h - 1)) 11
            refine g_lload C dX7_nextRule_73 75 rfl 1 rfl ?_
            refine g_lload_n C dX7_nextRule_75 rfl 76 rfl 4 rfl ?_
            refine g_lcmp_ne (X := ¬ nxY (scF Lx Pq Pa Pb Co) Re i (11 * (h - 1)) 11 = nw) C dX7_nextRule_76 rfl dX7_nextRule_77 82 (by decide) 80 rfl (not_congr (rv_eq (by omega) (by omega))) ?_ ?_
            · intro h76
              refine g_iinc (lv' := [(3, .int (nI (i + 1))), (6, .int (nI 11)), (4, .long (rv (nxY (scF Lx Pq Pa Pb Co) Re i (11 * (h - 1)) 11))), (0, .ref o7), (1, .long (rv nw))]) C dX7_nextRule_82 85 rfl 2 rfl (by decide) rfl ?_
              refine g_goto C dX7_nextRule_85 2 (by decide) ?_
              refine go_lv (lv' := [(3, .int (nI (i + 1))), (0, .ref o7), (1, .long (rv nw))]) [0, 3, 4] rfl ?_
              exact ih_i (by first | exact lt_of_ne_P hi_i (fun e => by rw [e] at h15; exact Bool.noConfusion (h15.symm.trans hP.1)) | exact lt_of_ne_P hi_i (fun e => h76 (by rw [e]; exact hP.2)))
            · intro h76
              have h76 : nxY (scF Lx Pq Pa Pb Co) Re i (11 * (h - 1)) 11 = nw := Decidable.not_not.mp h76
              refine g_iload_n C dX7_nextRule_80 rfl 81 rfl 2 rfl ?_
              have e_1 : r = i := by first | with_reducible rfl | (first | exact near_eq hi_i ⟨h15, h76⟩ hNo | exact (near_eq hi_i ⟨h15, h76⟩ hNo).symm)
              refine go_eq rfl (st' := [.int (nI r)]) (ws' := [ob o7 7 [.int (nI n), .int (nI m), .int (nI z), .ref uP, .ref uS, .ref uQ, .ref uA, .ref uB, .int (nI c), .ref uK, .int (nI h), .int (nI ns), .ref uM, .ref uF, .ref uY, .ref uT, .ref uL, .ref uC, .ref uX, .int (oI nf), .ref uI, .ref uR, .ref uW, .ref uH, .ref uG], aN (eY E) uP 30 Pp, aN (eY E) uS 30 Ps, aN (eY E) uQ 30 Pq, aO (eY E) uA 30 Pa, aO (eY E) uB 30 Pb, aN (eY E) uK 60 Sg, aR (eY E) uC 275 Co, aZ (eY E) uX 330 Lx, aR (eY E) uW 671 Re]) (by first | with_reducible rfl | (simp only [e_1, oI_s, oI_0, bI_1, bI_0, and_self, reduceIte]; done)) (by first | with_reducible rfl | (simp only [e_1, oI_s, oI_0, bI_1, bI_0, and_self, reduceIte]; done)) ?_
              exact hret _ _ dX7_nextRule_81
          · intro h30
            refine g_lload C dX7_nextRule_33 35 rfl 1 rfl ?_
            refine g_aload_n C dX7_nextRule_35 rfl 36 rfl 3 rfl ?_
            refine g_iload_n C dX7_nextRule_36 rfl 37 rfl 2 rfl ?_
            refine g_iload C dX7_nextRule_37 39 rfl 0 rfl ?_
            refine g_cVl (ws2 := [ob o7 7 [.int (nI n), .int (nI m), .int (nI z), .ref uP, .ref uS, .ref uQ, .ref uA, .ref uB, .int (nI c), .ref uK, .int (nI h), .int (nI ns), .ref uM, .ref uF, .ref uY, .ref uT, .ref uL, .ref uC, .ref uX, .int (oI nf), .ref uI, .ref uR, .ref uW, .ref uH, .ref uG], aN (eY E) uP 30 Pp, aN (eY E) uS 30 Ps, aN (eY E) uQ 30 Pq, aO (eY E) uA 30 Pa, aO (eY E) uB 30 Pb, aN (eY E) uK 60 Sg, aR (eY E) uC 275 Co, aZ (eY E) uX 330 Lx, aR (eY E) uW 671 Re]) (As := [.int (nI i), .int (nI y)]) (st := [.long (rv (nxY (scF Lx Pq Pa Pb Co) Re i (11 * (h - 1)) y))]) (wsc := [ob o7 7 [.int (nI n), .int (nI m), .int (nI z), .ref uP, .ref uS, .ref uQ, .ref uA, .ref uB, .int (nI c), .ref uK, .int (nI h), .int (nI ns), .ref uM, .ref uF, .ref uY, .ref uT, .ref uL, .ref uC, .ref uX, .int (oI nf), .ref uI, .ref uR, .ref uW, .ref uH, .ref uG], aN (eY E) uQ 30 Pq, aO (eY E) uA 30 Pa, aO (eY E) uB 30 Pb, aR (eY E) uC 275 Co, aZ (eY E) uX 330 Lx]) (wr := [aN (eY E) uP 30 Pp, aN (eY E) uS 30 Ps, aN (eY E) uK 60 Sg, aR (eY E) uW 671 Re]) C (c_X7_byRule (eL E) (eD E) (eY E) o7 n m z uP uS uQ uA uB c uK h ns uM uF uY uT uL uC uX nf uI uR uW uH uG Pq Pa Pb Co Lx i y (by exact fun r => (hR5 r).2.2) (by first | assumption | exact stC_ok (by assumption) | exact scC_ok (by assumption) _) (by omega) (by omega)) 2 gX7_nextRule_X7_byRule rfl (by decide +kernel) (by decide) ⟨Nat.zero_le _, Nat.zero_le _⟩ rfl 0 rfl rfl rfl (Nat.le_of_ble_eq_true rfl) [0, 3, 4, 5, 7, 8] [1, 2, 6, 9] [4, 0, 1, 5, 6, 7, 2, 8, 9, 3] rfl rfl (by decide) (by decide) rfl (by decide) dX7_nextRule_39 42 rfl ?_
            refine g_aload_n C dX7_nextRule_42 rfl 43 rfl 3 rfl ?_
            refine g_get C iX7 0 rfl rfl 22 (by decide) (C.1.2.2.2.2 (.fieldLink RX7 64 "StackRunsModel" "rest" "[J") (List.mem_of_getElem? (i := 3) rfl)) rfl dX7_nextRule_43 46 rfl ?_
            refine g_bipush (v := nI 11) C dX7_nextRule_46 (by decide) 48 rfl ?_
            refine g_aload_n C dX7_nextRule_48 rfl 49 rfl 3 rfl ?_
            refine g_get C iX7 0 rfl rfl 10 (by decide) (C.1.2.2.2.2 (.fieldLink RX7 85 "StackRunsModel" "height" "I") (List.mem_of_getElem? (i := 4) rfl)) rfl dX7_nextRule_49 52 rfl ?_
            refine g_iconst (v := nI 1) C dX7_nextRule_52 (by decide) 53 rfl ?_
            refine g_isub (z := nI (h - 1)) C dX7_nextRule_53 54 rfl (pk_sub (by omega)) ?_
            refine g_imul (z := nI (11 * (h - 1))) C dX7_nextRule_54 55 rfl (pk_mul _ _) ?_
            refine g_iload C dX7_nextRule_55 57 rfl 0 rfl ?_
            refine g_iadd (z := nI ((11 * (h - 1)) + y)) C dX7_nextRule_57 58 rfl (nI_add _ _) ?_
            refine g_lald (i := ((11 * (h - 1)) + y)) C 9 rfl (by omega) (by decide) dX7_nextRule_58 59 rfl ?_
            refine g_cSl (ws2 := [ob o7 7 [.int (nI n), .int (nI m), .int (nI z), .ref uP, .ref uS, .ref uQ, .ref uA, .ref uB, .int (nI c), .ref uK, .int (nI h), .int (nI ns), .ref uM, .ref uF, .ref uY, .ref uT, .ref uL, .ref uC, .ref uX, .int (oI nf), .ref uI, .ref uR, .ref uW, .ref uH, .ref uG], aN (eY E) uP 30 Pp, aN (eY E) uS 30 Ps, aN (eY E) uQ 30 Pq, aO (eY E) uA 30 Pa, aO (eY E) uB 30 Pb, aN (eY E) uK 60 Sg, aR (eY E) uC 275 Co, aZ (eY E) uX 330 Lx, aR (eY E) uW 671 Re]) (As := [.long (rv (brF Lx Co Pq Pa Pb i y)), .long (rv (Re ((11 * (h - 1)) + y)))]) (st := [.long (rv (nxY (scF Lx Pq Pa Pb Co) Re i (11 * (h - 1)) y))]) (wsc := []) (wr := [ob o7 7 [.int (nI n), .int (nI m), .int (nI z), .ref uP, .ref uS, .ref uQ, .ref uA, .ref uB, .int (nI c), .ref uK, .int (nI h), .int (nI ns), .ref uM, .ref uF, .ref uY, .ref uT, .ref uL, .ref uC, .ref uX, .int (oI nf), .ref uI, .ref uR, .ref uW, .ref uH, .ref uG], aN (eY E) uP 30 Pp, aN (eY E) uS 30 Ps, aN (eY E) uQ 30 Pq, aO (eY E) uA 30 Pa, aO (eY E) uB 30 Pb, aN (eY E) uK 60 Sg, aR (eY E) uC 275 Co, aZ (eY E) uX 330 Lx, aR (eY E) uW 671 Re]) C (c_X7_plus (eL E) (eD E) (eY E) (brF Lx Co Pq Pa Pb i y) (Re ((11 * (h - 1)) + y)) (by exact brF_ok _ _ _ _ _ _ _) (by exact hT3)) 2 gX7_nextRule_X7_plus rfl (by decide +kernel) (by decide) ⟨Nat.zero_le _, Nat.zero_le _⟩ rfl rfl (Nat.le_of_ble_eq_true rfl) [] [0, 1, 2, 3, 4, 5, 6, 7, 8, 9] [0, 1, 2, 3, 4, 5, 6, 7, 8, 9] rfl rfl (by decide) (by decide) rfl (by decide) dX7_nextRule_59 62 rfl ?_
            refine g_cSl (ws2 := [ob o7 7 [.int (nI n), .int (nI m), .int (nI z), .ref uP, .ref uS, .ref uQ, .ref uA, .ref uB, .int (nI c), .ref uK, .int (nI h), .int (nI ns), .ref uM, .ref uF, .ref uY, .ref uT, .ref uL, .ref uC, .ref uX, .int (oI nf), .ref uI, .ref uR, .ref uW, .ref uH, .ref uG], aN (eY E) uP 30 Pp, aN (eY E) uS 30 Ps, aN (eY E) uQ 30 Pq, aO (eY E) uA 30 Pa, aO (eY E) uB 30 Pb, aN (eY E) uK 60 Sg, aR (eY E) uC 275 Co, aZ (eY E) uX 330 Lx, aR (eY E) uW 671 Re]) (As := [.long (rv (nxY (scF Lx Pq Pa Pb Co) Re i (11 * (h - 1)) y)), .long (rv (sm (brF Lx Co Pq Pa Pb i y) (Re ((11 * (h - 1)) + y))))]) (st := []) (wsc := []) (wr := [ob o7 7 [.int (nI n), .int (nI m), .int (nI z), .ref uP, .ref uS, .ref uQ, .ref uA, .ref uB, .int (nI c), .ref uK, .int (nI h), .int (nI ns), .ref uM, .ref uF, .ref uY, .ref uT, .ref uL, .ref uC, .ref uX, .int (oI nf), .ref uI, .ref uR, .ref uW, .ref uH, .ref uG], aN (eY E) uP 30 Pp, aN (eY E) uS 30 Ps, aN (eY E) uQ 30 Pq, aO (eY E) uA 30 Pa, aO (eY E) uB 30 Pb, aN (eY E) uK 60 Sg, aR (eY E) uC 275 Co, aZ (eY E) uX 330 Lx, aR (eY E) uW 671 Re]) C (c_X7_lesser (eL E) (eD E) (eY E) (nxY (scF Lx Pq Pa Pb Co) Re i (11 * (h - 1)) y) (sm (brF Lx Co Pq Pa Pb i y) (Re ((11 * (h - 1)) + y))) (by exact hY) (by exact sm_ok _ _)) 2 gX7_nextRule_X7_lesser rfl (by decide +kernel) (by decide) ⟨Nat.zero_le _, Nat.zero_le _⟩ rfl rfl (Nat.le_of_ble_eq_true rfl) [] [0, 1, 2, 3, 4, 5, 6, 7, 8, 9] [0, 1, 2, 3, 4, 5, 6, 7, 8, 9] rfl rfl (by decide) (by decide) rfl (by decide) dX7_nextRule_62 65 rfl ?_
            refine g_lstore (lv' := [(4, .long (rv (min (nxY (scF Lx Pq Pa Pb Co) Re i (11 * (h - 1)) y) (sm (brF Lx Co Pq Pa Pb i y) (Re ((11 * (h - 1)) + y)))))), (6, .int (nI y)), (3, .int (nI i)), (0, .ref o7), (1, .long (rv nw))]) C dX7_nextRule_65 67 rfl (by decide) rfl ?_
            refine g_iinc (lv' := [(6, .int (nI (y + 1))), (4, .long (rv (min (nxY (scF Lx Pq Pa Pb Co) Re i (11 * (h - 1)) y) (sm (brF Lx Co Pq Pa Pb i y) (Re ((11 * (h - 1)) + y)))))), (3, .int (nI i)), (0, .ref o7), (1, .long (rv nw))]) C dX7_nextRule_67 70 rfl 1 rfl (by decide) rfl ?_
            refine g_goto C dX7_nextRule_70 26 (by decide) ?_
            have e_2 : (nxY (scF Lx Pq Pa Pb Co) Re i (11 * (h - 1)) (y + 1)) = (min (nxY (scF Lx Pq Pa Pb Co) Re i (11 * (h - 1)) y) (sm (brF Lx Co Pq Pa Pb i y) (Re ((11 * (h - 1)) + y)))) := by first | with_reducible rfl | (rfl)
            refine go_eq (lv' := [(6, .int (nI (y + 1))), (4, .long (rv (nxY (scF Lx Pq Pa Pb Co) Re i (11 * (h - 1)) (y + 1)))), (3, .int (nI i)), (0, .ref o7), (1, .long (rv nw))]) (ws' := [ob o7 7 [.int (nI n), .int (nI m), .int (nI z), .ref uP, .ref uS, .ref uQ, .ref uA, .ref uB, .int (nI c), .ref uK, .int (nI h), .int (nI ns), .ref uM, .ref uF, .ref uY, .ref uT, .ref uL, .ref uC, .ref uX, .int (oI nf), .ref uI, .ref uR, .ref uW, .ref uH, .ref uG], aN (eY E) uP 30 Pp, aN (eY E) uS 30 Ps, aN (eY E) uQ 30 Pq, aO (eY E) uA 30 Pa, aO (eY E) uB 30 Pb, aN (eY E) uK 60 Sg, aR (eY E) uC 275 Co, aZ (eY E) uX 330 Lx, aR (eY E) uW 671 Re]) (by first | with_reducible rfl | (simp only [e_2, oI_s, oI_0, bI_1, bI_0, and_self, reduceIte]; done)) rfl (by first | with_reducible rfl | (simp only [oI_s, oI_0, bI_1, bI_0, and_self, reduceIte]; done) | rfl) ?_
            exact ih_y (by omega)
        have e_3 : (nxY (scF Lx Pq Pa Pb Co) Re i (11 * (h - 1)) 0) = 9000000000000000000 := by first | with_reducible rfl | (rfl)
        refine go_eq (lv' := [(6, .int (nI 0)), (4, .long (rv (nxY (scF Lx Pq Pa Pb Co) Re i (11 * (h - 1)) 0))), (3, .int (nI i)), (0, .ref o7), (1, .long (rv nw))]) (ws' := [ob o7 7 [.int (nI n), .int (nI m), .int (nI z), .ref uP, .ref uS, .ref uQ, .ref uA, .ref uB, .int (nI c), .ref uK, .int (nI h), .int (nI ns), .ref uM, .ref uF, .ref uY, .ref uT, .ref uL, .ref uC, .ref uX, .int (oI nf), .ref uI, .ref uR, .ref uW, .ref uH, .ref uG], aN (eY E) uP 30 Pp, aN (eY E) uS 30 Ps, aN (eY E) uQ 30 Pq, aO (eY E) uA 30 Pa, aO (eY E) uB 30 Pb, aN (eY E) uK 60 Sg, aR (eY E) uC 275 Co, aZ (eY E) uX 330 Lx, aR (eY E) uW 671 Re]) (by first | with_reducible rfl | (simp only [e_3, oI_s, oI_0, bI_1, bI_0, and_self, reduceIte]; done)) rfl (by first | with_reducible rfl | (simp only [oI_s, oI_0, bI_1, bI_0, and_self, reduceIte]; done) | rfl) ?_
        exact L26 0 (by omega)
  exact L2 0 (by omega)
set_option maxHeartbeats 4000000 in
set_option maxRecDepth 100000 in
theorem c_X7_headsBy (l : Launch) (D : va_G) (cy : Nat → ClassId) (o7 : Nat) (n : Nat) (m : Nat) (z : Nat) (uP : Nat) (uS : Nat) (uQ : Nat) (uA : Nat) (uB : Nat) (c : Nat) (uK : Nat) (h : Nat) (ns : Nat) (uM : Nat) (uF : Nat) (uY : Nat) (uT : Nat) (uL : Nat) (uC : Nat) (uX : Nat) (nf : Nat) (uI : Nat) (uR : Nat) (uW : Nat) (uH : Nat) (uG : Nat) (Pq : Nat → Nat) (Pa : Nat → Nat) (Pb : Nat → Nat) (Co : Nat → Nat) (r : Nat) (hQ : ∀ r, Pq r < 5 ∧ Pa r ≤ 5 ∧ Pb r ≤ 5) (hCo : okf Co) (hn : n ≤ 5) (hr : r < 30) : CoI l yX7_headsBy wsX7_headsBy 1 22 D cy [ob o7 7 [.int (nI n), .int (nI m), .int (nI z), .ref uP, .ref uS, .ref uQ, .ref uA, .ref uB, .int (nI c), .ref uK, .int (nI h), .int (nI ns), .ref uM, .ref uF, .ref uY, .ref uT, .ref uL, .ref uC, .ref uX, .int (oI nf), .ref uI, .ref uR, .ref uW, .ref uH, .ref uG], aN cy uQ 30 Pq, aO cy uA 30 Pa, aO cy uB 30 Pb, aR cy uC 275 Co] [.ref o7, .int (nI r)] [ob o7 7 [.int (nI n), .int (nI m), .int (nI z), .ref uP, .ref uS, .ref uQ, .ref uA, .ref uB, .int (nI c), .ref uK, .int (nI h), .int (nI ns), .ref uM, .ref uF, .ref uY, .ref uT, .ref uL, .ref uC, .ref uX, .int (oI nf), .ref uI, .ref uR, .ref uW, .ref uH, .ref uG], aN cy uQ 30 Pq, aO cy uA 30 Pa, aO cy uB 30 Pb, aR cy uC 275 Co] (nI (hbF n Co Pq Pa Pb r)) := by
  refine met_i (cc := cX7_headsBy) (maxL := 4) (own := RX7) (lv := [(0, .ref o7), (1, .int (nI r))]) (by decide) rfl rfl rfl (Nat.le_of_ble_eq_true rfl) (fun E e1 e2 e3 C hret => ?_)
  subst e1; subst e2; subst e3
  have iX7 : ∀ w ∈ wsX70, w ∈ wsX7_headsBy := fun _ h => List.mem_cons_of_mem _ (List.mem_append_right _ h)
  have hQ1 := hQ r
  have hU := puF_le Pa Pb r
  refine g_iconst (v := nI 0) C dX7_headsBy_0 (by decide) 1 rfl ?_
  refine g_istore_n (lv' := [(2, .int (nI 0)), (0, .ref o7), (1, .int (nI r))]) C dX7_headsBy_1 rfl 2 rfl (by decide) rfl ?_
  refine g_aload_n C dX7_headsBy_2 rfl 3 rfl 1 rfl ?_
  refine g_iload_n C dX7_headsBy_3 rfl 4 rfl 2 rfl ?_
  refine g_cVi (ws2 := [ob o7 7 [.int (nI n), .int (nI m), .int (nI z), .ref uP, .ref uS, .ref uQ, .ref uA, .ref uB, .int (nI c), .ref uK, .int (nI h), .int (nI ns), .ref uM, .ref uF, .ref uY, .ref uT, .ref uL, .ref uC, .ref uX, .int (oI nf), .ref uI, .ref uR, .ref uW, .ref uH, .ref uG], aN (eY E) uQ 30 Pq, aO (eY E) uA 30 Pa, aO (eY E) uB 30 Pb, aR (eY E) uC 275 Co]) (As := [.int (nI r)]) (st := []) (wsc := [ob o7 7 [.int (nI n), .int (nI m), .int (nI z), .ref uP, .ref uS, .ref uQ, .ref uA, .ref uB, .int (nI c), .ref uK, .int (nI h), .int (nI ns), .ref uM, .ref uF, .ref uY, .ref uT, .ref uL, .ref uC, .ref uX, .int (oI nf), .ref uI, .ref uR, .ref uW, .ref uH, .ref uG], aO (eY E) uA 30 Pa, aO (eY E) uB 30 Pb]) (wr := [aN (eY E) uQ 30 Pq, aR (eY E) uC 275 Co]) C (c_X7_puts (eL E) (eD E) (eY E) o7 n m z uP uS uQ uA uB c uK h ns uM uF uY uT uL uC uX nf uI uR uW uH uG Pa Pb r (by exact fun r => (hQ r).2) (by omega)) 1 gX7_headsBy_X7_puts rfl (by decide +kernel) (by decide) ⟨Nat.zero_le _, Nat.zero_le _⟩ rfl 0 rfl rfl rfl (Nat.le_of_ble_eq_true rfl) [0, 2, 3] [1, 4] [2, 0, 3, 4, 1] rfl rfl (by decide) (by decide) rfl (by decide) dX7_headsBy_4 7 rfl ?_
  have J30 : ∀ (v : Nat), (v = if Pa r = 0 then 0 else (0 ||| 1 * 2 ^ (5 * Pq r + (Pa r - 1)))) → Go E 0 0 30 [(2, .int (nI v)), (0, .ref o7), (1, .int (nI r))] [] [ob o7 7 [.int (nI n), .int (nI m), .int (nI z), .ref uP, .ref uS, .ref uQ, .ref uA, .ref uB, .int (nI c), .ref uK, .int (nI h), .int (nI ns), .ref uM, .ref uF, .ref uY, .ref uT, .ref uL, .ref uC, .ref uX, .int (oI nf), .ref uI, .ref uR, .ref uW, .ref uH, .ref uG], aN (eY E) uQ 30 Pq, aO (eY E) uA 30 Pa, aO (eY E) uB 30 Pb, aR (eY E) uC 275 Co] := by
    intro v hv
    refine g_iconst (v := nI 0) C dX7_headsBy_30 (by decide) 31 rfl ?_
    refine g_istore_n (lv' := [(3, .int (nI 0)), (2, .int (nI v)), (0, .ref o7), (1, .int (nI r))]) C dX7_headsBy_31 rfl 32 rfl (by decide) rfl ?_
    have L32 : ∀ x, x ≤ n → (0 < x → puF Pa Pb r = 2) → Go E 0 0 32 [(3, .int (nI x)), (2, .int (nI (hbQ Co (Pq r) ((Pa r) - 1) ((Pb r) - 1) v x))), (0, .ref o7), (1, .int (nI r))] [] [ob o7 7 [.int (nI n), .int (nI m), .int (nI z), .ref uP, .ref uS, .ref uQ, .ref uA, .ref uB, .int (nI c), .ref uK, .int (nI h), .int (nI ns), .ref uM, .ref uF, .ref uY, .ref uT, .ref uL, .ref uC, .ref uX, .int (oI nf), .ref uI, .ref uR, .ref uW, .ref uH, .ref uG], aN (eY E) uQ 30 Pq, aO (eY E) uA 30 Pa, aO (eY E) uB 30 Pb, aR (eY E) uC 275 Co] := by
      refine go_for n (fun x => (0 < x → puF Pa Pb r = 2) → Go E 0 0 32 [(3, .int (nI x)), (2, .int (nI (hbQ Co (Pq r) ((Pa r) - 1) ((Pb r) - 1) v x))), (0, .ref o7), (1, .int (nI r))] [] [ob o7 7 [.int (nI n), .int (nI m), .int (nI z), .ref uP, .ref uS, .ref uQ, .ref uA, .ref uB, .int (nI c), .ref uK, .int (nI h), .int (nI ns), .ref uM, .ref uF, .ref uY, .ref uT, .ref uL, .ref uC, .ref uX, .int (oI nf), .ref uI, .ref uR, .ref uW, .ref uH, .ref uG], aN (eY E) uQ 30 Pq, aO (eY E) uA 30 Pa, aO (eY E) uB 30 Pb, aR (eY E) uC 275 Co]) (fun x hi_x ih_x => ?_)
      intro hx0
      have hC1 := hCo ((5 * (Pq r) + ((Pa r) - 1)) * 11 + x)
      refine g_iload_n C dX7_headsBy_32 rfl 33 rfl 0 rfl ?_
      refine g_aload_n C dX7_headsBy_33 rfl 34 rfl 2 rfl ?_
      refine g_get C iX7 0 rfl rfl 0 (by decide) (C.1.2.2.2.2 (.fieldLink RX7 7 "StackRunsModel" "controls" "I") (List.mem_of_getElem? (i := 3) rfl)) rfl dX7_headsBy_34 37 rfl ?_
      refine g_icmp_ge (X := n ≤ x) C dX7_headsBy_37 100 (by decide) 40 rfl (nI_leI (by omega) (by omega)) ?_ ?_
      · intro h37
        refine g_iload_n C dX7_headsBy_100 rfl 101 rfl 1 rfl ?_
        have e_1 : (hbF n Co Pq Pa Pb r) = (hbQ Co (Pq r) ((Pa r) - 1) ((Pb r) - 1) v x) := by first | with_reducible rfl | (first | exact hbF_e hv hx0 hi_x h37 | exact hbF_n hv hx0 h46)
        refine go_eq rfl (st' := [.int (nI (hbF n Co Pq Pa Pb r))]) (ws' := [ob o7 7 [.int (nI n), .int (nI m), .int (nI z), .ref uP, .ref uS, .ref uQ, .ref uA, .ref uB, .int (nI c), .ref uK, .int (nI h), .int (nI ns), .ref uM, .ref uF, .ref uY, .ref uT, .ref uL, .ref uC, .ref uX, .int (oI nf), .ref uI, .ref uR, .ref uW, .ref uH, .ref uG], aN (eY E) uQ 30 Pq, aO (eY E) uA 30 Pa, aO (eY E) uB 30 Pb, aR (eY E) uC 275 Co]) (by first | with_reducible rfl | (simp only [e_1, oI_s, oI_0, bI_1, bI_0, and_self, reduceIte]; done)) (by first | with_reducible rfl | (simp only [e_1, oI_s, oI_0, bI_1, bI_0, and_self, reduceIte]; done)) ?_
        exact hret _ _ dX7_headsBy_101
      · intro h37
        refine g_aload_n C dX7_headsBy_40 rfl 41 rfl 2 rfl ?_
        refine g_iload_n C dX7_headsBy_41 rfl 42 rfl 3 rfl ?_
        refine g_cVi (ws2 := [ob o7 7 [.int (nI n), .int (nI m), .int (nI z), .ref uP, .ref uS, .ref uQ, .ref uA, .ref uB, .int (nI c), .ref uK, .int (nI h), .int (nI ns), .ref uM, .ref uF, .ref uY, .ref uT, .ref uL, .ref uC, .ref uX, .int (oI nf), .ref uI, .ref uR, .ref uW, .ref uH, .ref uG], aN (eY E) uQ 30 Pq, aO (eY E) uA 30 Pa, aO (eY E) uB 30 Pb, aR (eY E) uC 275 Co]) (As := [.int (nI r)]) (st := []) (wsc := [ob o7 7 [.int (nI n), .int (nI m), .int (nI z), .ref uP, .ref uS, .ref uQ, .ref uA, .ref uB, .int (nI c), .ref uK, .int (nI h), .int (nI ns), .ref uM, .ref uF, .ref uY, .ref uT, .ref uL, .ref uC, .ref uX, .int (oI nf), .ref uI, .ref uR, .ref uW, .ref uH, .ref uG], aO (eY E) uA 30 Pa, aO (eY E) uB 30 Pb]) (wr := [aN (eY E) uQ 30 Pq, aR (eY E) uC 275 Co]) C (c_X7_puts (eL E) (eD E) (eY E) o7 n m z uP uS uQ uA uB c uK h ns uM uF uY uT uL uC uX nf uI uR uW uH uG Pa Pb r (by exact fun r => (hQ r).2) (by omega)) 1 gX7_headsBy_X7_puts rfl (by decide +kernel) (by decide) ⟨Nat.zero_le _, Nat.zero_le _⟩ rfl 0 rfl rfl rfl (Nat.le_of_ble_eq_true rfl) [0, 2, 3] [1, 4] [2, 0, 3, 4, 1] rfl rfl (by decide) (by decide) rfl (by decide) dX7_headsBy_42 45 rfl ?_
        refine g_iconst (v := nI 2) C dX7_headsBy_45 (by decide) 46 rfl ?_
        refine g_icmp_ne (X := ¬ puF Pa Pb r = 2) C dX7_headsBy_46 100 (by decide) 49 rfl (not_congr (nI_eq (by omega) (by omega))) ?_ ?_
        · intro h46
          refine g_iload_n C dX7_headsBy_100 rfl 101 rfl 1 rfl ?_
          have e_2 : (hbF n Co Pq Pa Pb r) = (hbQ Co (Pq r) ((Pa r) - 1) ((Pb r) - 1) v x) := by first | with_reducible rfl | (first | exact hbF_e hv hx0 hi_x h37 | exact hbF_n hv hx0 h46)
          refine go_eq rfl (st' := [.int (nI (hbF n Co Pq Pa Pb r))]) (ws' := [ob o7 7 [.int (nI n), .int (nI m), .int (nI z), .ref uP, .ref uS, .ref uQ, .ref uA, .ref uB, .int (nI c), .ref uK, .int (nI h), .int (nI ns), .ref uM, .ref uF, .ref uY, .ref uT, .ref uL, .ref uC, .ref uX, .int (oI nf), .ref uI, .ref uR, .ref uW, .ref uH, .ref uG], aN (eY E) uQ 30 Pq, aO (eY E) uA 30 Pa, aO (eY E) uB 30 Pb, aR (eY E) uC 275 Co]) (by first | with_reducible rfl | (simp only [e_2, oI_s, oI_0, bI_1, bI_0, and_self, reduceIte]; done)) (by first | with_reducible rfl | (simp only [e_2, oI_s, oI_0, bI_1, bI_0, and_self, reduceIte]; done)) ?_
          exact hret _ _ dX7_headsBy_101
        · intro h46
          have h46 : puF Pa Pb r = 2 := Decidable.not_not.mp h46
          have ⟨hA2, hB2⟩ := puF_2 h46
          refine g_iload_n C dX7_headsBy_49 rfl 50 rfl 1 rfl ?_
          refine g_aload_n C dX7_headsBy_50 rfl 51 rfl 2 rfl ?_
          refine g_get C iX7 0 rfl rfl 17 (by decide) (C.1.2.2.2.2 (.fieldLink RX7 51 "StackRunsModel" "costs" "[J") (List.mem_of_getElem? (i := 4) rfl)) rfl dX7_headsBy_51 54 rfl ?_
          refine g_aload_n C dX7_headsBy_54 rfl 55 rfl 2 rfl ?_
          refine g_get C iX7 0 rfl rfl 5 (by decide) (C.1.2.2.2.2 (.fieldLink RX7 23 "StackRunsModel" "ruleQ" "[I") (List.mem_of_getElem? (i := 1) rfl)) rfl dX7_headsBy_55 58 rfl ?_
          refine g_iload_n C dX7_headsBy_58 rfl 59 rfl 3 rfl ?_
          refine g_iald (i := r) C 1 rfl (by omega) (by decide) dX7_headsBy_59 60 rfl ?_
          refine g_aload_n C dX7_headsBy_60 rfl 61 rfl 2 rfl ?_
          refine g_get C iX7 0 rfl rfl 6 (by decide) (C.1.2.2.2.2 (.fieldLink RX7 26 "StackRunsModel" "ruleA" "[I") (List.mem_of_getElem? (i := 2) rfl)) rfl dX7_headsBy_61 64 rfl ?_
          refine g_iload_n C dX7_headsBy_64 rfl 65 rfl 3 rfl ?_
          refine g_iald (i := r) C 2 rfl (by omega) (by decide) dX7_headsBy_65 66 rfl ?_
          refine g_iload_n C dX7_headsBy_66 rfl 67 rfl 0 rfl ?_
          refine go_eq rfl (st' := [.int (nI x), .int (nI ((Pa r) - 1)), .int (nI (Pq r)), .ref uC, .int (nI (hbQ Co (Pq r) ((Pa r) - 1) ((Pb r) - 1) v x))]) (ws' := [ob o7 7 [.int (nI n), .int (nI m), .int (nI z), .ref uP, .ref uS, .ref uQ, .ref uA, .ref uB, .int (nI c), .ref uK, .int (nI h), .int (nI ns), .ref uM, .ref uF, .ref uY, .ref uT, .ref uL, .ref uC, .ref uX, .int (oI nf), .ref uI, .ref uR, .ref uW, .ref uH, .ref uG], aN (eY E) uQ 30 Pq, aO (eY E) uA 30 Pa, aO (eY E) uB 30 Pb, aR (eY E) uC 275 Co]) (by rw [oI_pos (a := (Pa r)) (by omega)]) (by rfl) ?_
          refine g_cSi (ws2 := [ob o7 7 [.int (nI n), .int (nI m), .int (nI z), .ref uP, .ref uS, .ref uQ, .ref uA, .ref uB, .int (nI c), .ref uK, .int (nI h), .int (nI ns), .ref uM, .ref uF, .ref uY, .ref uT, .ref uL, .ref uC, .ref uX, .int (oI nf), .ref uI, .ref uR, .ref uW, .ref uH, .ref uG], aN (eY E) uQ 30 Pq, aO (eY E) uA 30 Pa, aO (eY E) uB 30 Pb, aR (eY E) uC 275 Co]) (As := [.int (nI (Pq r)), .int (nI ((Pa r) - 1)), .int (nI x)]) (st := [.ref uC, .int (nI (hbQ Co (Pq r) ((Pa r) - 1) ((Pb r) - 1) v x))]) (wsc := []) (wr := [ob o7 7 [.int (nI n), .int (nI m), .int (nI z), .ref uP, .ref uS, .ref uQ, .ref uA, .ref uB, .int (nI c), .ref uK, .int (nI h), .int (nI ns), .ref uM, .ref uF, .ref uY, .ref uT, .ref uL, .ref uC, .ref uX, .int (oI nf), .ref uI, .ref uR, .ref uW, .ref uH, .ref uG], aN (eY E) uQ 30 Pq, aO (eY E) uA 30 Pa, aO (eY E) uB 30 Pb, aR (eY E) uC 275 Co]) C (c_X7_costAt (eL E) (eD E) (eY E) (Pq r) ((Pa r) - 1) x ) 3 gX7_headsBy_X7_costAt rfl (by decide +kernel) (by decide) ⟨Nat.zero_le _, Nat.zero_le _⟩ rfl rfl (Nat.le_of_ble_eq_true rfl) [] [0, 1, 2, 3, 4] [0, 1, 2, 3, 4] rfl rfl (by decide) (by decide) rfl (by decide) dX7_headsBy_67 70 rfl ?_
          refine g_lald (i := ((5 * (Pq r) + ((Pa r) - 1)) * 11 + x)) C 4 rfl (by omega) (by decide) dX7_headsBy_70 71 rfl ?_
          refine g_lconst (v := lN 0) C dX7_headsBy_71 (by decide) 72 rfl ?_
          refine g_lcmp_lt (X := Co ((5 * (Pq r) + ((Pa r) - 1)) * 11 + x) = 9000000000000000000) C dX7_headsBy_72 rfl dX7_headsBy_73 91 (by decide) 76 rfl (rv_lt0 (by omega)) ?_ ?_
          · intro h72
            refine g_iconst (v := nI 0) C dX7_headsBy_91 (by decide) 92 rfl ?_
            refine g_ior (z := nI ((hbQ Co (Pq r) ((Pa r) - 1) ((Pb r) - 1) v x) ||| 0)) C dX7_headsBy_92 93 rfl (z_or _ _) ?_
            refine g_istore_n (lv' := [(2, .int (nI ((hbQ Co (Pq r) ((Pa r) - 1) ((Pb r) - 1) v x) ||| 0))), (3, .int (nI x)), (0, .ref o7), (1, .int (nI r))]) C dX7_headsBy_93 rfl 94 rfl (by decide) rfl ?_
            refine g_iinc (lv' := [(3, .int (nI (x + 1))), (2, .int (nI ((hbQ Co (Pq r) ((Pa r) - 1) ((Pb r) - 1) v x) ||| 0))), (0, .ref o7), (1, .int (nI r))]) C dX7_headsBy_94 97 rfl 1 rfl (by decide) rfl ?_
            refine g_goto C dX7_headsBy_97 32 (by decide) ?_
            have e_3 : (hbQ Co (Pq r) ((Pa r) - 1) ((Pb r) - 1) v (x + 1)) = ((hbQ Co (Pq r) ((Pa r) - 1) ((Pb r) - 1) v x) ||| 0) := by first | with_reducible rfl | (simp only [hbQ]; first | (rw [if_pos h72]; done) | (rw [if_neg h72]))
            refine go_eq (lv' := [(3, .int (nI (x + 1))), (2, .int (nI (hbQ Co (Pq r) ((Pa r) - 1) ((Pb r) - 1) v (x + 1)))), (0, .ref o7), (1, .int (nI r))]) (ws' := [ob o7 7 [.int (nI n), .int (nI m), .int (nI z), .ref uP, .ref uS, .ref uQ, .ref uA, .ref uB, .int (nI c), .ref uK, .int (nI h), .int (nI ns), .ref uM, .ref uF, .ref uY, .ref uT, .ref uL, .ref uC, .ref uX, .int (oI nf), .ref uI, .ref uR, .ref uW, .ref uH, .ref uG], aN (eY E) uQ 30 Pq, aO (eY E) uA 30 Pa, aO (eY E) uB 30 Pb, aR (eY E) uC 275 Co]) (by first | with_reducible rfl | (simp only [e_3, oI_s, oI_0, bI_1, bI_0, and_self, reduceIte]; done)) rfl (by first | with_reducible rfl | (simp only [oI_s, oI_0, bI_1, bI_0, and_self, reduceIte]; done) | rfl) ?_
            exact ih_x (by omega) (by intro _; exact h46)
          · intro h72
            refine g_iconst (v := nI 1) C dX7_headsBy_76 (by decide) 77 rfl ?_
            refine g_iconst (v := nI 5) C dX7_headsBy_77 (by decide) 78 rfl ?_
            refine g_iload_n C dX7_headsBy_78 rfl 79 rfl 0 rfl ?_
            refine g_imul (z := nI (5 * x)) C dX7_headsBy_79 80 rfl (pk_mul _ _) ?_
            refine g_aload_n C dX7_headsBy_80 rfl 81 rfl 2 rfl ?_
            refine g_get C iX7 0 rfl rfl 7 (by decide) (C.1.2.2.2.2 (.fieldLink RX7 29 "StackRunsModel" "ruleB" "[I") (List.mem_of_getElem? (i := 5) rfl)) rfl dX7_headsBy_81 84 rfl ?_
            refine g_iload_n C dX7_headsBy_84 rfl 85 rfl 3 rfl ?_
            refine g_iald (i := r) C 3 rfl (by omega) (by decide) dX7_headsBy_85 86 rfl ?_
            refine go_st (show Value.int (oI (Pb r)) = .int (nI ((Pb r) - 1)) from by rw [oI_pos (by omega)]) ?_
            refine g_iadd (z := nI ((5 * x) + ((Pb r) - 1))) C dX7_headsBy_86 87 rfl (nI_add _ _) ?_
            refine g_ishl (z := nI (1 * 2 ^ ((5 * x) + ((Pb r) - 1)))) C dX7_headsBy_87 88 rfl (z_shl (by omega) (by have := one25 (p := 5 * x + ((Pb r) - 1)) (by omega); omega)) ?_
            refine g_goto C dX7_headsBy_88 92 (by decide) ?_
            refine g_ior (z := nI ((hbQ Co (Pq r) ((Pa r) - 1) ((Pb r) - 1) v x) ||| (1 * 2 ^ ((5 * x) + ((Pb r) - 1))))) C dX7_headsBy_92 93 rfl (z_or _ _) ?_
            refine g_istore_n (lv' := [(2, .int (nI ((hbQ Co (Pq r) ((Pa r) - 1) ((Pb r) - 1) v x) ||| (1 * 2 ^ ((5 * x) + ((Pb r) - 1)))))), (3, .int (nI x)), (0, .ref o7), (1, .int (nI r))]) C dX7_headsBy_93 rfl 94 rfl (by decide) rfl ?_
            refine g_iinc (lv' := [(3, .int (nI (x + 1))), (2, .int (nI ((hbQ Co (Pq r) ((Pa r) - 1) ((Pb r) - 1) v x) ||| (1 * 2 ^ ((5 * x) + ((Pb r) - 1)))))), (0, .ref o7), (1, .int (nI r))]) C dX7_headsBy_94 97 rfl 1 rfl (by decide) rfl ?_
            refine g_goto C dX7_headsBy_97 32 (by decide) ?_
            have e_4 : (hbQ Co (Pq r) ((Pa r) - 1) ((Pb r) - 1) v (x + 1)) = ((hbQ Co (Pq r) ((Pa r) - 1) ((Pb r) - 1) v x) ||| (1 * 2 ^ ((5 * x) + ((Pb r) - 1)))) := by first | with_reducible rfl | (simp only [hbQ]; first | (rw [if_pos h72]; done) | (rw [if_neg h72]))
            refine go_eq (lv' := [(3, .int (nI (x + 1))), (2, .int (nI (hbQ Co (Pq r) ((Pa r) - 1) ((Pb r) - 1) v (x + 1)))), (0, .ref o7), (1, .int (nI r))]) (ws' := [ob o7 7 [.int (nI n), .int (nI m), .int (nI z), .ref uP, .ref uS, .ref uQ, .ref uA, .ref uB, .int (nI c), .ref uK, .int (nI h), .int (nI ns), .ref uM, .ref uF, .ref uY, .ref uT, .ref uL, .ref uC, .ref uX, .int (oI nf), .ref uI, .ref uR, .ref uW, .ref uH, .ref uG], aN (eY E) uQ 30 Pq, aO (eY E) uA 30 Pa, aO (eY E) uB 30 Pb, aR (eY E) uC 275 Co]) (by first | with_reducible rfl | (simp only [e_4, oI_s, oI_0, bI_1, bI_0, and_self, reduceIte]; done)) rfl (by first | with_reducible rfl | (simp only [oI_s, oI_0, bI_1, bI_0, and_self, reduceIte]; done) | rfl) ?_
            exact ih_x (by omega) (by intro _; exact h46)
    have e_5 : (hbQ Co (Pq r) ((Pa r) - 1) ((Pb r) - 1) v 0) = v := by first | with_reducible rfl | (rfl)
    refine go_eq (lv' := [(3, .int (nI 0)), (2, .int (nI (hbQ Co (Pq r) ((Pa r) - 1) ((Pb r) - 1) v 0))), (0, .ref o7), (1, .int (nI r))]) (ws' := [ob o7 7 [.int (nI n), .int (nI m), .int (nI z), .ref uP, .ref uS, .ref uQ, .ref uA, .ref uB, .int (nI c), .ref uK, .int (nI h), .int (nI ns), .ref uM, .ref uF, .ref uY, .ref uT, .ref uL, .ref uC, .ref uX, .int (oI nf), .ref uI, .ref uR, .ref uW, .ref uH, .ref uG], aN (eY E) uQ 30 Pq, aO (eY E) uA 30 Pa, aO (eY E) uB 30 Pb, aR (eY E) uC 275 Co]) (by first | with_reducible rfl | (simp only [e_5, oI_s, oI_0, bI_1, bI_0, and_self, reduceIte]; done)) rfl (by first | with_reducible rfl | (simp only [oI_s, oI_0, bI_1, bI_0, and_self, reduceIte]; done) | rfl) ?_
    exact L32 0 (by omega) (by intro q; omega)
  refine g_if_le (X := puF Pa Pb r = 0) C dX7_headsBy_7 30 (by decide) 10 rfl (nI_le0 (by omega)) ?_ ?_
  · intro h7
    exact J30 0 (by first | (rw [if_pos (puF_0 h7)]) | (rw [if_neg hA1]))
  · intro h7
    have hA1 := puF_p h7
    refine g_iload_n C dX7_headsBy_10 rfl 11 rfl 0 rfl ?_
    refine g_iconst (v := nI 1) C dX7_headsBy_11 (by decide) 12 rfl ?_
    refine g_iconst (v := nI 5) C dX7_headsBy_12 (by decide) 13 rfl ?_
    refine g_aload_n C dX7_headsBy_13 rfl 14 rfl 1 rfl ?_
    refine g_get C iX7 0 rfl rfl 5 (by decide) (C.1.2.2.2.2 (.fieldLink RX7 23 "StackRunsModel" "ruleQ" "[I") (List.mem_of_getElem? (i := 1) rfl)) rfl dX7_headsBy_14 17 rfl ?_
    refine g_iload_n C dX7_headsBy_17 rfl 18 rfl 2 rfl ?_
    refine g_iald (i := r) C 1 rfl (by omega) (by decide) dX7_headsBy_18 19 rfl ?_
    refine g_imul (z := nI (5 * (Pq r))) C dX7_headsBy_19 20 rfl (pk_mul _ _) ?_
    refine g_aload_n C dX7_headsBy_20 rfl 21 rfl 1 rfl ?_
    refine g_get C iX7 0 rfl rfl 6 (by decide) (C.1.2.2.2.2 (.fieldLink RX7 26 "StackRunsModel" "ruleA" "[I") (List.mem_of_getElem? (i := 2) rfl)) rfl dX7_headsBy_21 24 rfl ?_
    refine g_iload_n C dX7_headsBy_24 rfl 25 rfl 2 rfl ?_
    refine g_iald (i := r) C 2 rfl (by omega) (by decide) dX7_headsBy_25 26 rfl ?_
    refine go_st (show Value.int (oI (Pa r)) = .int (nI ((Pa r) - 1)) from by rw [oI_pos (by omega)]) ?_
    refine g_iadd (z := nI ((5 * (Pq r)) + ((Pa r) - 1))) C dX7_headsBy_26 27 rfl (nI_add _ _) ?_
    refine g_ishl (z := nI (1 * 2 ^ ((5 * (Pq r)) + ((Pa r) - 1)))) C dX7_headsBy_27 28 rfl (z_shl (by omega) (by have := one25 (p := 5 * (Pq r) + ((Pa r) - 1)) (by omega); omega)) ?_
    refine g_ior (z := nI (0 ||| (1 * 2 ^ ((5 * (Pq r)) + ((Pa r) - 1))))) C dX7_headsBy_28 29 rfl (z_or _ _) ?_
    refine g_istore_n (lv' := [(2, .int (nI (0 ||| (1 * 2 ^ ((5 * (Pq r)) + ((Pa r) - 1)))))), (0, .ref o7), (1, .int (nI r))]) C dX7_headsBy_29 rfl 30 rfl (by decide) rfl ?_
    exact J30 (0 ||| (1 * 2 ^ ((5 * (Pq r)) + ((Pa r) - 1)))) (by first | (rw [if_pos (puF_0 h7)]) | (rw [if_neg hA1]))
set_option maxHeartbeats 4000000 in
set_option maxRecDepth 100000 in
theorem c_X7_findReach (l : Launch) (D : va_G) (cy : Nat → ClassId) (o7 : Nat) (n : Nat) (m : Nat) (z : Nat) (uP : Nat) (uS : Nat) (uQ : Nat) (uA : Nat) (uB : Nat) (c : Nat) (uK : Nat) (h : Nat) (ns : Nat) (uM : Nat) (uF : Nat) (uY : Nat) (uT : Nat) (uL : Nat) (uC : Nat) (uX : Nat) (nf : Nat) (uI : Nat) (uR : Nat) (uW : Nat) (uH : Nat) (uG : Nat) (Pp : Nat → Nat) (Ps : Nat → Nat) (Pq : Nat → Nat) (Pa : Nat → Nat) (Pb : Nat → Nat) (Co : Nat → Nat) (Rc : Nat → Nat) (hR5 : ∀ r, Pp r < 5 ∧ Ps r < 5 ∧ Pq r < 5 ∧ Pa r ≤ 5 ∧ Pb r ≤ 5) (hCo : okf Co) (hn : n ≤ 5) (hz : z ≤ 30) : CoV l yX7_findReach wsX7_findReach 2 45 D cy [ob o7 7 [.int (nI n), .int (nI m), .int (nI z), .ref uP, .ref uS, .ref uQ, .ref uA, .ref uB, .int (nI c), .ref uK, .int (nI h), .int (nI ns), .ref uM, .ref uF, .ref uY, .ref uT, .ref uL, .ref uC, .ref uX, .int (oI nf), .ref uI, .ref uR, .ref uW, .ref uH, .ref uG], aN cy uP 30 Pp, aN cy uS 30 Ps, aN cy uQ 30 Pq, aO cy uA 30 Pa, aO cy uB 30 Pb, aR cy uC 275 Co, aN cy uH 25 Rc] [.ref o7] [ob o7 7 [.int (nI n), .int (nI m), .int (nI z), .ref uP, .ref uS, .ref uQ, .ref uA, .ref uB, .int (nI c), .ref uK, .int (nI h), .int (nI ns), .ref uM, .ref uF, .ref uY, .ref uT, .ref uL, .ref uC, .ref uX, .int (oI nf), .ref uI, .ref uR, .ref uW, .ref uH, .ref uG], aN cy uP 30 Pp, aN cy uS 30 Ps, aN cy uQ 30 Pq, aO cy uA 30 Pa, aO cy uB 30 Pb, aR cy uC 275 Co, aN cy uH 25 (frT z (hbF n Co Pq Pa Pb) Pp Ps 26)] := by
  refine met_v (cc := cX7_findReach) (maxL := 6) (own := RX7) (lv := [(0, .ref o7)]) (by decide) rfl rfl rfl (Nat.le_of_ble_eq_true rfl) (fun E e1 e2 e3 C hret => ?_)
  subst e1; subst e2; subst e3
  have iX7 : ∀ w ∈ wsX70, w ∈ wsX7_findReach := fun _ h => List.mem_cons_of_mem _ (List.mem_append_right _ h)
  have hBL : ∀ r, hbF n Co Pq Pa Pb r < 2 ^ 25 := fun r => hbF_lt hn (hR5 r).2.2.1 (hR5 r).2.2.2.1 (hR5 r).2.2.2.2
  refine g_iconst (v := nI 0) C dX7_findReach_0 (by decide) 1 rfl ?_
  refine g_istore_n (lv' := [(1, .int (nI 0)), (0, .ref o7)]) C dX7_findReach_1 rfl 2 rfl (by decide) rfl ?_
  have L2 : ∀ i, i ≤ 25 → Go E 0 0 2 [(1, .int (nI i)), (0, .ref o7)] [] [ob o7 7 [.int (nI n), .int (nI m), .int (nI z), .ref uP, .ref uS, .ref uQ, .ref uA, .ref uB, .int (nI c), .ref uK, .int (nI h), .int (nI ns), .ref uM, .ref uF, .ref uY, .ref uT, .ref uL, .ref uC, .ref uX, .int (oI nf), .ref uI, .ref uR, .ref uW, .ref uH, .ref uG], aN (eY E) uP 30 Pp, aN (eY E) uS 30 Ps, aN (eY E) uQ 30 Pq, aO (eY E) uA 30 Pa, aO (eY E) uB 30 Pb, aR (eY E) uC 275 Co, aN (eY E) uH 25 (fillF Rc 0 i)] := by
    refine go_for 25 (fun i => Go E 0 0 2 [(1, .int (nI i)), (0, .ref o7)] [] [ob o7 7 [.int (nI n), .int (nI m), .int (nI z), .ref uP, .ref uS, .ref uQ, .ref uA, .ref uB, .int (nI c), .ref uK, .int (nI h), .int (nI ns), .ref uM, .ref uF, .ref uY, .ref uT, .ref uL, .ref uC, .ref uX, .int (oI nf), .ref uI, .ref uR, .ref uW, .ref uH, .ref uG], aN (eY E) uP 30 Pp, aN (eY E) uS 30 Ps, aN (eY E) uQ 30 Pq, aO (eY E) uA 30 Pa, aO (eY E) uB 30 Pb, aR (eY E) uC 275 Co, aN (eY E) uH 25 (fillF Rc 0 i)]) (fun i hi_i ih_i => ?_)
    refine g_iload_n C dX7_findReach_2 rfl 3 rfl 0 rfl ?_
    refine g_bipush (v := nI 25) C dX7_findReach_3 (by decide) 5 rfl ?_
    refine g_icmp_ge (X := 25 ≤ i) C dX7_findReach_5 21 (by decide) 8 rfl (nI_leI (by omega) (by omega)) ?_ ?_
    · intro h5
      have x_i : i = 25 := by omega
      try rw [x_i]
      refine go_swap (ws' := [ob o7 7 [.int (nI n), .int (nI m), .int (nI z), .ref uP, .ref uS, .ref uQ, .ref uA, .ref uB, .int (nI c), .ref uK, .int (nI h), .int (nI ns), .ref uM, .ref uF, .ref uY, .ref uT, .ref uL, .ref uC, .ref uX, .int (oI nf), .ref uI, .ref uR, .ref uW, .ref uH, .ref uG], aN (eY E) uP 30 Pp, aN (eY E) uS 30 Ps, aN (eY E) uQ 30 Pq, aO (eY E) uA 30 Pa, aO (eY E) uB 30 Pb, aR (eY E) uC 275 Co, aN (eY E) uH 25 (fun _ => 0)]) 7 rfl (cell_N _ _ (fillF Rc 0 25) (fun _ => 0) (fun k_ hk_ => by exact fillF_in _ _ (by omega))) rfl ?_
      refine g_iconst (v := nI 0) C dX7_findReach_21 (by decide) 22 rfl ?_
      refine g_istore_n (lv' := [(1, .int (nI 0)), (0, .ref o7)]) C dX7_findReach_22 rfl 23 rfl (by decide) rfl ?_
      have L23 : ∀ t, t ≤ 26 → Go E 0 0 23 [(1, .int (nI t)), (0, .ref o7)] [] [ob o7 7 [.int (nI n), .int (nI m), .int (nI z), .ref uP, .ref uS, .ref uQ, .ref uA, .ref uB, .int (nI c), .ref uK, .int (nI h), .int (nI ns), .ref uM, .ref uF, .ref uY, .ref uT, .ref uL, .ref uC, .ref uX, .int (oI nf), .ref uI, .ref uR, .ref uW, .ref uH, .ref uG], aN (eY E) uP 30 Pp, aN (eY E) uS 30 Ps, aN (eY E) uQ 30 Pq, aO (eY E) uA 30 Pa, aO (eY E) uB 30 Pb, aR (eY E) uC 275 Co, aN (eY E) uH 25 (frT z (hbF n Co Pq Pa Pb) Pp Ps t)] := by
        refine go_for 26 (fun t => Go E 0 0 23 [(1, .int (nI t)), (0, .ref o7)] [] [ob o7 7 [.int (nI n), .int (nI m), .int (nI z), .ref uP, .ref uS, .ref uQ, .ref uA, .ref uB, .int (nI c), .ref uK, .int (nI h), .int (nI ns), .ref uM, .ref uF, .ref uY, .ref uT, .ref uL, .ref uC, .ref uX, .int (oI nf), .ref uI, .ref uR, .ref uW, .ref uH, .ref uG], aN (eY E) uP 30 Pp, aN (eY E) uS 30 Ps, aN (eY E) uQ 30 Pq, aO (eY E) uA 30 Pa, aO (eY E) uB 30 Pb, aR (eY E) uC 275 Co, aN (eY E) uH 25 (frT z (hbF n Co Pq Pa Pb) Pp Ps t)]) (fun t hi_t ih_t => ?_)
        have hA1 := frT_lt (z := z) (Pp := Pp) (Ps := Ps) hBL t
        refine g_iload_n C dX7_findReach_23 rfl 24 rfl 0 rfl ?_
        refine g_bipush (v := nI 26) C dX7_findReach_24 (by decide) 26 rfl ?_
        refine g_icmp_ge (X := 26 ≤ t) C dX7_findReach_26 132 (by decide) 29 rfl (nI_leI (by omega) (by omega)) ?_ ?_
        · intro h26
          have x_t : t = 26 := by omega
          try rw [x_t]
          exact hret _ _ dX7_findReach_132
        · intro h26
          refine g_iconst (v := nI 0) C dX7_findReach_29 (by decide) 30 rfl ?_
          refine g_istore_n (lv' := [(2, .int (nI 0)), (1, .int (nI t)), (0, .ref o7)]) C dX7_findReach_30 rfl 31 rfl (by decide) rfl ?_
          have L31 : ∀ r, r ≤ z → Go E 0 0 31 [(2, .int (nI r)), (1, .int (nI t)), (0, .ref o7)] [] [ob o7 7 [.int (nI n), .int (nI m), .int (nI z), .ref uP, .ref uS, .ref uQ, .ref uA, .ref uB, .int (nI c), .ref uK, .int (nI h), .int (nI ns), .ref uM, .ref uF, .ref uY, .ref uT, .ref uL, .ref uC, .ref uX, .int (oI nf), .ref uI, .ref uR, .ref uW, .ref uH, .ref uG], aN (eY E) uP 30 Pp, aN (eY E) uS 30 Ps, aN (eY E) uQ 30 Pq, aO (eY E) uA 30 Pa, aO (eY E) uB 30 Pb, aR (eY E) uC 275 Co, aN (eY E) uH 25 (frR (hbF n Co Pq Pa Pb) Pp Ps (frT z (hbF n Co Pq Pa Pb) Pp Ps t) r)] := by
            refine go_for z (fun r => Go E 0 0 31 [(2, .int (nI r)), (1, .int (nI t)), (0, .ref o7)] [] [ob o7 7 [.int (nI n), .int (nI m), .int (nI z), .ref uP, .ref uS, .ref uQ, .ref uA, .ref uB, .int (nI c), .ref uK, .int (nI h), .int (nI ns), .ref uM, .ref uF, .ref uY, .ref uT, .ref uL, .ref uC, .ref uX, .int (oI nf), .ref uI, .ref uR, .ref uW, .ref uH, .ref uG], aN (eY E) uP 30 Pp, aN (eY E) uS 30 Ps, aN (eY E) uQ 30 Pq, aO (eY E) uA 30 Pa, aO (eY E) uB 30 Pb, aR (eY E) uC 275 Co, aN (eY E) uH 25 (frR (hbF n Co Pq Pa Pb) Pp Ps (frT z (hbF n Co Pq Pa Pb) Pp Ps t) r)]) (fun r hi_r ih_r => ?_)
            have hR1 := hR5 r
            have hA2 := frR_lt (Pp := Pp) (Ps := Ps) hBL hA1 r
            refine g_iload_n C dX7_findReach_31 rfl 32 rfl 0 rfl ?_
            refine g_aload_n C dX7_findReach_32 rfl 33 rfl 2 rfl ?_
            refine g_get C iX7 0 rfl rfl 2 (by decide) (C.1.2.2.2.2 (.fieldLink RX7 79 "StackRunsModel" "rules" "I") (List.mem_of_getElem? (i := 2) rfl)) rfl dX7_findReach_33 36 rfl ?_
            refine g_icmp_ge (X := z ≤ r) C dX7_findReach_36 126 (by decide) 39 rfl (nI_leI (by omega) (by omega)) ?_ ?_
            · intro h36
              have x_r : r = z := by omega
              try rw [x_r]
              refine g_iinc (lv' := [(1, .int (nI (t + 1))), (2, .int (nI z)), (0, .ref o7)]) C dX7_findReach_126 129 rfl 1 rfl (by decide) rfl ?_
              refine g_goto C dX7_findReach_129 23 (by decide) ?_
              refine go_lv (lv' := [(1, .int (nI (t + 1))), (0, .ref o7)]) [0, 2] rfl ?_
              have e_1 : (frT z (hbF n Co Pq Pa Pb) Pp Ps (t + 1)) = (frR (hbF n Co Pq Pa Pb) Pp Ps (frT z (hbF n Co Pq Pa Pb) Pp Ps t) z) := by first | with_reducible rfl | (rfl)
              refine go_eq (lv' := [(1, .int (nI (t + 1))), (0, .ref o7)]) (ws' := [ob o7 7 [.int (nI n), .int (nI m), .int (nI z), .ref uP, .ref uS, .ref uQ, .ref uA, .ref uB, .int (nI c), .ref uK, .int (nI h), .int (nI ns), .ref uM, .ref uF, .ref uY, .ref uT, .ref uL, .ref uC, .ref uX, .int (oI nf), .ref uI, .ref uR, .ref uW, .ref uH, .ref uG], aN (eY E) uP 30 Pp, aN (eY E) uS 30 Ps, aN (eY E) uQ 30 Pq, aO (eY E) uA 30 Pa, aO (eY E) uB 30 Pb, aR (eY E) uC 275 Co, aN (eY E) uH 25 (frT z (hbF n Co Pq Pa Pb) Pp Ps (t + 1))]) (by first | with_reducible rfl | (simp only [oI_s, oI_0, bI_1, bI_0, and_self, reduceIte]; done) | rfl) rfl (by first | with_reducible rfl | (simp only [e_1, oI_s, oI_0, bI_1, bI_0, and_self, reduceIte]; done)) ?_
              exact ih_t (by omega)
            · intro h36
              refine g_iconst (v := nI 5) C dX7_findReach_39 (by decide) 40 rfl ?_
              refine g_aload_n C dX7_findReach_40 rfl 41 rfl 2 rfl ?_
              refine g_get C iX7 0 rfl rfl 3 (by decide) (C.1.2.2.2.2 (.fieldLink RX7 16 "StackRunsModel" "ruleP" "[I") (List.mem_of_getElem? (i := 3) rfl)) rfl dX7_findReach_41 44 rfl ?_
              refine g_iload_n C dX7_findReach_44 rfl 45 rfl 0 rfl ?_
              refine g_iald (i := r) C 1 rfl (by omega) (by decide) dX7_findReach_45 46 rfl ?_
              refine g_imul (z := nI (5 * (Pp r))) C dX7_findReach_46 47 rfl (pk_mul _ _) ?_
              refine g_aload_n C dX7_findReach_47 rfl 48 rfl 2 rfl ?_
              refine g_get C iX7 0 rfl rfl 4 (by decide) (C.1.2.2.2.2 (.fieldLink RX7 20 "StackRunsModel" "ruleS" "[I") (List.mem_of_getElem? (i := 4) rfl)) rfl dX7_findReach_48 51 rfl ?_
              refine g_iload_n C dX7_findReach_51 rfl 52 rfl 0 rfl ?_
              refine g_iald (i := r) C 2 rfl (by omega) (by decide) dX7_findReach_52 53 rfl ?_
              refine g_iadd (z := nI ((5 * (Pp r)) + (Ps r))) C dX7_findReach_53 54 rfl (nI_add _ _) ?_
              refine g_istore_n (lv' := [(3, .int (nI ((5 * (Pp r)) + (Ps r)))), (2, .int (nI r)), (1, .int (nI t)), (0, .ref o7)]) C dX7_findReach_54 rfl 55 rfl (by decide) rfl ?_
              refine g_aload_n C dX7_findReach_55 rfl 56 rfl 3 rfl ?_
              refine g_iload_n C dX7_findReach_56 rfl 57 rfl 1 rfl ?_
              refine g_cVi (ws2 := [ob o7 7 [.int (nI n), .int (nI m), .int (nI z), .ref uP, .ref uS, .ref uQ, .ref uA, .ref uB, .int (nI c), .ref uK, .int (nI h), .int (nI ns), .ref uM, .ref uF, .ref uY, .ref uT, .ref uL, .ref uC, .ref uX, .int (oI nf), .ref uI, .ref uR, .ref uW, .ref uH, .ref uG], aN (eY E) uP 30 Pp, aN (eY E) uS 30 Ps, aN (eY E) uQ 30 Pq, aO (eY E) uA 30 Pa, aO (eY E) uB 30 Pb, aR (eY E) uC 275 Co, aN (eY E) uH 25 (frR (hbF n Co Pq Pa Pb) Pp Ps (frT z (hbF n Co Pq Pa Pb) Pp Ps t) r)]) (As := [.int (nI r)]) (st := []) (wsc := [ob o7 7 [.int (nI n), .int (nI m), .int (nI z), .ref uP, .ref uS, .ref uQ, .ref uA, .ref uB, .int (nI c), .ref uK, .int (nI h), .int (nI ns), .ref uM, .ref uF, .ref uY, .ref uT, .ref uL, .ref uC, .ref uX, .int (oI nf), .ref uI, .ref uR, .ref uW, .ref uH, .ref uG], aN (eY E) uQ 30 Pq, aO (eY E) uA 30 Pa, aO (eY E) uB 30 Pb, aR (eY E) uC 275 Co]) (wr := [aN (eY E) uP 30 Pp, aN (eY E) uS 30 Ps, aN (eY E) uH 25 (frR (hbF n Co Pq Pa Pb) Pp Ps (frT z (hbF n Co Pq Pa Pb) Pp Ps t) r)]) C (c_X7_headsBy (eL E) (eD E) (eY E) o7 n m z uP uS uQ uA uB c uK h ns uM uF uY uT uL uC uX nf uI uR uW uH uG Pq Pa Pb Co r (by exact fun r => (hR5 r).2.2) (by first | assumption | exact stC_ok (by assumption) | exact scC_ok (by assumption) _) (by omega) (by omega)) 1 gX7_findReach_X7_headsBy rfl (by decide +kernel) (by decide) ⟨Nat.zero_le _, Nat.zero_le _⟩ rfl 0 rfl rfl rfl (Nat.le_of_ble_eq_true rfl) [0, 3, 4, 5, 6] [1, 2, 7] [3, 0, 1, 4, 5, 6, 7, 2] rfl rfl (by decide) (by decide) rfl (by decide) dX7_findReach_57 60 rfl ?_
              refine g_istore (lv' := [(4, .int (nI (hbF n Co Pq Pa Pb r))), (3, .int (nI ((5 * (Pp r)) + (Ps r)))), (2, .int (nI r)), (1, .int (nI t)), (0, .ref o7)]) C dX7_findReach_60 62 rfl (by decide) rfl ?_
              refine g_aload_n C dX7_findReach_62 rfl 63 rfl 4 rfl ?_
              refine g_get C iX7 0 rfl rfl 23 (by decide) (C.1.2.2.2.2 (.fieldLink RX7 67 "StackRunsModel" "reach" "[I") (List.mem_of_getElem? (i := 1) rfl)) rfl dX7_findReach_63 66 rfl ?_
              refine g_iload_n C dX7_findReach_66 rfl 67 rfl 1 rfl ?_
              refine g_dup2 C dX7_findReach_67 rfl rfl 68 rfl ?_
              refine g_iald (i := ((5 * (Pp r)) + (Ps r))) C 7 rfl (by omega) (by decide) dX7_findReach_68 69 rfl ?_
              refine g_iload C dX7_findReach_69 71 rfl 0 rfl ?_
              refine g_ior (z := nI (((frR (hbF n Co Pq Pa Pb) Pp Ps (frT z (hbF n Co Pq Pa Pb) Pp Ps t) r) ((5 * (Pp r)) + (Ps r))) ||| (hbF n Co Pq Pa Pb r))) C dX7_findReach_71 72 rfl (z_or _ _) ?_
              refine g_iast (ws' := [ob o7 7 [.int (nI n), .int (nI m), .int (nI z), .ref uP, .ref uS, .ref uQ, .ref uA, .ref uB, .int (nI c), .ref uK, .int (nI h), .int (nI ns), .ref uM, .ref uF, .ref uY, .ref uT, .ref uL, .ref uC, .ref uX, .int (oI nf), .ref uI, .ref uR, .ref uW, .ref uH, .ref uG], aN (eY E) uP 30 Pp, aN (eY E) uS 30 Ps, aN (eY E) uQ 30 Pq, aO (eY E) uA 30 Pa, aO (eY E) uB 30 Pb, aR (eY E) uC 275 Co, aN (eY E) uH 25 (up (frR (hbF n Co Pq Pa Pb) Pp Ps (frT z (hbF n Co Pq Pa Pb) Pp Ps t) r) ((5 * (Pp r)) + (Ps r)) (((frR (hbF n Co Pq Pa Pb) Pp Ps (frT z (hbF n Co Pq Pa Pb) Pp Ps t) r) ((5 * (Pp r)) + (Ps r))) ||| (hbF n Co Pq Pa Pb r)))]) (i := ((5 * (Pp r)) + (Ps r))) C 7 rfl (by omega) (by decide) dX7_findReach_72 73 rfl (upd_N _ _ _) rfl ?_
              refine g_iconst (v := nI 0) C dX7_findReach_73 (by decide) 74 rfl ?_
              refine g_istore (lv' := [(5, .int (nI 0)), (4, .int (nI (hbF n Co Pq Pa Pb r))), (3, .int (nI ((5 * (Pp r)) + (Ps r)))), (2, .int (nI r)), (1, .int (nI t)), (0, .ref o7)]) C dX7_findReach_74 76 rfl (by decide) rfl ?_
              have L76 : ∀ k, k ≤ 25 → Go E 0 0 76 [(5, .int (nI k)), (4, .int (nI (hbF n Co Pq Pa Pb r))), (3, .int (nI ((5 * (Pp r)) + (Ps r)))), (2, .int (nI r)), (1, .int (nI t)), (0, .ref o7)] [] [ob o7 7 [.int (nI n), .int (nI m), .int (nI z), .ref uP, .ref uS, .ref uQ, .ref uA, .ref uB, .int (nI c), .ref uK, .int (nI h), .int (nI ns), .ref uM, .ref uF, .ref uY, .ref uT, .ref uL, .ref uC, .ref uX, .int (oI nf), .ref uI, .ref uR, .ref uW, .ref uH, .ref uG], aN (eY E) uP 30 Pp, aN (eY E) uS 30 Ps, aN (eY E) uQ 30 Pq, aO (eY E) uA 30 Pa, aO (eY E) uB 30 Pb, aR (eY E) uC 275 Co, aN (eY E) uH 25 (frK (frR (hbF n Co Pq Pa Pb) Pp Ps (frT z (hbF n Co Pq Pa Pb) Pp Ps t) r) (5 * (Pp r) + (Ps r)) (hbF n Co Pq Pa Pb r) k)] := by
                refine go_for 25 (fun k => Go E 0 0 76 [(5, .int (nI k)), (4, .int (nI (hbF n Co Pq Pa Pb r))), (3, .int (nI ((5 * (Pp r)) + (Ps r)))), (2, .int (nI r)), (1, .int (nI t)), (0, .ref o7)] [] [ob o7 7 [.int (nI n), .int (nI m), .int (nI z), .ref uP, .ref uS, .ref uQ, .ref uA, .ref uB, .int (nI c), .ref uK, .int (nI h), .int (nI ns), .ref uM, .ref uF, .ref uY, .ref uT, .ref uL, .ref uC, .ref uX, .int (oI nf), .ref uI, .ref uR, .ref uW, .ref uH, .ref uG], aN (eY E) uP 30 Pp, aN (eY E) uS 30 Ps, aN (eY E) uQ 30 Pq, aO (eY E) uA 30 Pa, aO (eY E) uB 30 Pb, aR (eY E) uC 275 Co, aN (eY E) uH 25 (frK (frR (hbF n Co Pq Pa Pb) Pp Ps (frT z (hbF n Co Pq Pa Pb) Pp Ps t) r) (5 * (Pp r) + (Ps r)) (hbF n Co Pq Pa Pb r) k)]) (fun k hi_k ih_k => ?_)
                have hA3 := frK_lt (h := 5 * (Pp r) + (Ps r)) hA2 (hBL r) k
                have hB1 := hBL r
                refine g_iload C dX7_findReach_76 78 rfl 0 rfl ?_
                refine g_bipush (v := nI 25) C dX7_findReach_78 (by decide) 80 rfl ?_
                refine g_icmp_ge (X := 25 ≤ k) C dX7_findReach_80 120 (by decide) 83 rfl (nI_leI (by omega) (by omega)) ?_ ?_
                · intro h80
                  have x_k : k = 25 := by omega
                  try rw [x_k]
                  refine g_iinc (lv' := [(2, .int (nI (r + 1))), (5, .int (nI 25)), (4, .int (nI (hbF n Co Pq Pa Pb r))), (3, .int (nI ((5 * (Pp r)) + (Ps r)))), (1, .int (nI t)), (0, .ref o7)]) C dX7_findReach_120 123 rfl 3 rfl (by decide) rfl ?_
                  refine g_goto C dX7_findReach_123 31 (by decide) ?_
                  refine go_lv (lv' := [(2, .int (nI (r + 1))), (1, .int (nI t)), (0, .ref o7)]) [0, 4, 5] rfl ?_
                  have e_2 : (frR (hbF n Co Pq Pa Pb) Pp Ps (frT z (hbF n Co Pq Pa Pb) Pp Ps t) (r + 1)) = (frK (frR (hbF n Co Pq Pa Pb) Pp Ps (frT z (hbF n Co Pq Pa Pb) Pp Ps t) r) (5 * (Pp r) + (Ps r)) (hbF n Co Pq Pa Pb r) 25) := by first | with_reducible rfl | (rfl)
                  refine go_eq (lv' := [(2, .int (nI (r + 1))), (1, .int (nI t)), (0, .ref o7)]) (ws' := [ob o7 7 [.int (nI n), .int (nI m), .int (nI z), .ref uP, .ref uS, .ref uQ, .ref uA, .ref uB, .int (nI c), .ref uK, .int (nI h), .int (nI ns), .ref uM, .ref uF, .ref uY, .ref uT, .ref uL, .ref uC, .ref uX, .int (oI nf), .ref uI, .ref uR, .ref uW, .ref uH, .ref uG], aN (eY E) uP 30 Pp, aN (eY E) uS 30 Ps, aN (eY E) uQ 30 Pq, aO (eY E) uA 30 Pa, aO (eY E) uB 30 Pb, aR (eY E) uC 275 Co, aN (eY E) uH 25 (frR (hbF n Co Pq Pa Pb) Pp Ps (frT z (hbF n Co Pq Pa Pb) Pp Ps t) (r + 1))]) (by first | with_reducible rfl | (simp only [oI_s, oI_0, bI_1, bI_0, and_self, reduceIte]; done) | rfl) rfl (by first | with_reducible rfl | (simp only [e_2, oI_s, oI_0, bI_1, bI_0, and_self, reduceIte]; done)) ?_
                  exact ih_r (by omega)
                · intro h80
                  refine g_aload_n C dX7_findReach_83 rfl 84 rfl 5 rfl ?_
                  refine g_get C iX7 0 rfl rfl 23 (by decide) (C.1.2.2.2.2 (.fieldLink RX7 67 "StackRunsModel" "reach" "[I") (List.mem_of_getElem? (i := 1) rfl)) rfl dX7_findReach_84 87 rfl ?_
                  refine g_iload_n C dX7_findReach_87 rfl 88 rfl 2 rfl ?_
                  refine g_dup2 C dX7_findReach_88 rfl rfl 89 rfl ?_
                  refine g_iald (i := ((5 * (Pp r)) + (Ps r))) C 7 rfl (by omega) (by decide) dX7_findReach_89 90 rfl ?_
                  refine g_iload C dX7_findReach_90 92 rfl 1 rfl ?_
                  refine g_iload C dX7_findReach_92 94 rfl 0 rfl ?_
                  refine g_ishr (z := nI ((hbF n Co Pq Pa Pb r) / 2 ^ k)) C dX7_findReach_94 95 rfl (z_shr (by omega) (by omega)) ?_
                  refine g_iconst (v := nI 1) C dX7_findReach_95 (by decide) 96 rfl ?_
                  refine g_iand (z := nI (((hbF n Co Pq Pa Pb r) / 2 ^ k) &&& 1)) C dX7_findReach_96 97 rfl (z_and _ _) ?_
                  refine g_iconst (v := nI 1) C dX7_findReach_97 (by decide) 98 rfl ?_
                  refine g_icmp_ne (X := (hbF n Co Pq Pa Pb r).testBit k = false) C dX7_findReach_98 111 (by decide) 101 rfl (tb_ne (by omega)) ?_ ?_
                  · intro h98
                    refine g_iconst (v := nI 0) C dX7_findReach_111 (by decide) 112 rfl ?_
                    refine g_ior (z := nI (((frK (frR (hbF n Co Pq Pa Pb) Pp Ps (frT z (hbF n Co Pq Pa Pb) Pp Ps t) r) (5 * (Pp r) + (Ps r)) (hbF n Co Pq Pa Pb r) k) ((5 * (Pp r)) + (Ps r))) ||| 0)) C dX7_findReach_112 113 rfl (z_or _ _) ?_
                    refine g_iast (ws' := [ob o7 7 [.int (nI n), .int (nI m), .int (nI z), .ref uP, .ref uS, .ref uQ, .ref uA, .ref uB, .int (nI c), .ref uK, .int (nI h), .int (nI ns), .ref uM, .ref uF, .ref uY, .ref uT, .ref uL, .ref uC, .ref uX, .int (oI nf), .ref uI, .ref uR, .ref uW, .ref uH, .ref uG], aN (eY E) uP 30 Pp, aN (eY E) uS 30 Ps, aN (eY E) uQ 30 Pq, aO (eY E) uA 30 Pa, aO (eY E) uB 30 Pb, aR (eY E) uC 275 Co, aN (eY E) uH 25 (up (frK (frR (hbF n Co Pq Pa Pb) Pp Ps (frT z (hbF n Co Pq Pa Pb) Pp Ps t) r) (5 * (Pp r) + (Ps r)) (hbF n Co Pq Pa Pb r) k) ((5 * (Pp r)) + (Ps r)) (((frK (frR (hbF n Co Pq Pa Pb) Pp Ps (frT z (hbF n Co Pq Pa Pb) Pp Ps t) r) (5 * (Pp r) + (Ps r)) (hbF n Co Pq Pa Pb r) k) ((5 * (Pp r)) + (Ps r))) ||| 0))]) (i := ((5 * (Pp r)) + (Ps r))) C 7 rfl (by omega) (by decide) dX7_findReach_113 114 rfl (upd_N _ _ _) rfl ?_
                    refine g_iinc (lv' := [(5, .int (nI (k + 1))), (4, .int (nI (hbF n Co Pq Pa Pb r))), (3, .int (nI ((5 * (Pp r)) + (Ps r)))), (2, .int (nI r)), (1, .int (nI t)), (0, .ref o7)]) C dX7_findReach_114 117 rfl 0 rfl (by decide) rfl ?_
                    refine g_goto C dX7_findReach_117 76 (by decide) ?_
                    have e_3 : (frK (frR (hbF n Co Pq Pa Pb) Pp Ps (frT z (hbF n Co Pq Pa Pb) Pp Ps t) r) (5 * (Pp r) + (Ps r)) (hbF n Co Pq Pa Pb r) (k + 1)) = (up (frK (frR (hbF n Co Pq Pa Pb) Pp Ps (frT z (hbF n Co Pq Pa Pb) Pp Ps t) r) (5 * (Pp r) + (Ps r)) (hbF n Co Pq Pa Pb r) k) ((5 * (Pp r)) + (Ps r)) (((frK (frR (hbF n Co Pq Pa Pb) Pp Ps (frT z (hbF n Co Pq Pa Pb) Pp Ps t) r) (5 * (Pp r) + (Ps r)) (hbF n Co Pq Pa Pb r) k) ((5 * (Pp r)) + (Ps r))) ||| 0)) := by first | with_reducible rfl | (first | rfl | (simp only [frK, h98, Bool.false_eq_true, reduceIte]; done))
                    refine go_eq (lv' := [(5, .int (nI (k + 1))), (4, .int (nI (hbF n Co Pq Pa Pb r))), (3, .int (nI ((5 * (Pp r)) + (Ps r)))), (2, .int (nI r)), (1, .int (nI t)), (0, .ref o7)]) (ws' := [ob o7 7 [.int (nI n), .int (nI m), .int (nI z), .ref uP, .ref uS, .ref uQ, .ref uA, .ref uB, .int (nI c), .ref uK, .int (nI h), .int (nI ns), .ref uM, .ref uF, .ref uY, .ref uT, .ref uL, .ref uC, .ref uX, .int (oI nf), .ref uI, .ref uR, .ref uW, .ref uH, .ref uG], aN (eY E) uP 30 Pp, aN (eY E) uS 30 Ps, aN (eY E) uQ 30 Pq, aO (eY E) uA 30 Pa, aO (eY E) uB 30 Pb, aR (eY E) uC 275 Co, aN (eY E) uH 25 (frK (frR (hbF n Co Pq Pa Pb) Pp Ps (frT z (hbF n Co Pq Pa Pb) Pp Ps t) r) (5 * (Pp r) + (Ps r)) (hbF n Co Pq Pa Pb r) (k + 1))]) (by first | with_reducible rfl | (simp only [oI_s, oI_0, bI_1, bI_0, and_self, reduceIte]; done) | rfl) rfl (by first | with_reducible rfl | (simp only [e_3, oI_s, oI_0, bI_1, bI_0, and_self, reduceIte]; done)) ?_
                    exact ih_k (by omega)
                  · intro h98
                    have h98 : (hbF n Co Pq Pa Pb r).testBit k = true := by simpa using h98
                    refine g_aload_n C dX7_findReach_101 rfl 102 rfl 5 rfl ?_
                    refine g_get C iX7 0 rfl rfl 23 (by decide) (C.1.2.2.2.2 (.fieldLink RX7 67 "StackRunsModel" "reach" "[I") (List.mem_of_getElem? (i := 1) rfl)) rfl dX7_findReach_102 105 rfl ?_
                    refine g_iload C dX7_findReach_105 107 rfl 0 rfl ?_
                    refine g_iald (i := k) C 7 rfl (by omega) (by decide) dX7_findReach_107 108 rfl ?_
                    refine g_goto C dX7_findReach_108 112 (by decide) ?_
                    refine g_ior (z := nI (((frK (frR (hbF n Co Pq Pa Pb) Pp Ps (frT z (hbF n Co Pq Pa Pb) Pp Ps t) r) (5 * (Pp r) + (Ps r)) (hbF n Co Pq Pa Pb r) k) ((5 * (Pp r)) + (Ps r))) ||| ((frK (frR (hbF n Co Pq Pa Pb) Pp Ps (frT z (hbF n Co Pq Pa Pb) Pp Ps t) r) (5 * (Pp r) + (Ps r)) (hbF n Co Pq Pa Pb r) k) k))) C dX7_findReach_112 113 rfl (z_or _ _) ?_
                    refine g_iast (ws' := [ob o7 7 [.int (nI n), .int (nI m), .int (nI z), .ref uP, .ref uS, .ref uQ, .ref uA, .ref uB, .int (nI c), .ref uK, .int (nI h), .int (nI ns), .ref uM, .ref uF, .ref uY, .ref uT, .ref uL, .ref uC, .ref uX, .int (oI nf), .ref uI, .ref uR, .ref uW, .ref uH, .ref uG], aN (eY E) uP 30 Pp, aN (eY E) uS 30 Ps, aN (eY E) uQ 30 Pq, aO (eY E) uA 30 Pa, aO (eY E) uB 30 Pb, aR (eY E) uC 275 Co, aN (eY E) uH 25 (up (frK (frR (hbF n Co Pq Pa Pb) Pp Ps (frT z (hbF n Co Pq Pa Pb) Pp Ps t) r) (5 * (Pp r) + (Ps r)) (hbF n Co Pq Pa Pb r) k) ((5 * (Pp r)) + (Ps r)) (((frK (frR (hbF n Co Pq Pa Pb) Pp Ps (frT z (hbF n Co Pq Pa Pb) Pp Ps t) r) (5 * (Pp r) + (Ps r)) (hbF n Co Pq Pa Pb r) k) ((5 * (Pp r)) + (Ps r))) ||| ((frK (frR (hbF n Co Pq Pa Pb) Pp Ps (frT z (hbF n Co Pq Pa Pb) Pp Ps t) r) (5 * (Pp r) + (Ps r)) (hbF n Co Pq Pa Pb r) k) k)))]) (i := ((5 * (Pp r)) + (Ps r))) C 7 rfl (by omega) (by decide) dX7_findReach_113 114 rfl (upd_N _ _ _) rfl ?_
                    refine g_iinc (lv' := [(5, .int (nI (k + 1))), (4, .int (nI (hbF n Co Pq Pa Pb r))), (3, .int (nI ((5 * (Pp r)) + (Ps r)))), (2, .int (nI r)), (1, .int (nI t)), (0, .ref o7)]) C dX7_findReach_114 117 rfl 0 rfl (by decide) rfl ?_
                    refine g_goto C dX7_findReach_117 76 (by decide) ?_
                    have e_4 : (frK (frR (hbF n Co Pq Pa Pb) Pp Ps (frT z (hbF n Co Pq Pa Pb) Pp Ps t) r) (5 * (Pp r) + (Ps r)) (hbF n Co Pq Pa Pb r) (k + 1)) = (up (frK (frR (hbF n Co Pq Pa Pb) Pp Ps (frT z (hbF n Co Pq Pa Pb) Pp Ps t) r) (5 * (Pp r) + (Ps r)) (hbF n Co Pq Pa Pb r) k) ((5 * (Pp r)) + (Ps r)) (((frK (frR (hbF n Co Pq Pa Pb) Pp Ps (frT z (hbF n Co Pq Pa Pb) Pp Ps t) r) (5 * (Pp r) + (Ps r)) (hbF n Co Pq Pa Pb r) k) ((5 * (Pp r)) + (Ps r))) ||| ((frK (frR (hbF n Co Pq Pa Pb) Pp Ps (frT z (hbF n Co Pq Pa Pb) Pp Ps t) r) (5 * (Pp r) + (Ps r)) (hbF n Co Pq Pa Pb r) k) k))) := by first | with_reducible rfl | (first | rfl | (simp only [frK, h98, Bool.false_eq_true, reduceIte]; done))
                    refine go_eq (lv' := [(5, .int (nI (k + 1))), (4, .int (nI (hbF n Co Pq Pa Pb r))), (3, .int (nI ((5 * (Pp r)) + (Ps r)))), (2, .int (nI r)), (1, .int (nI t)), (0, .ref o7)]) (ws' := [ob o7 7 [.int (nI n), .int (nI m), .int (nI z), .ref uP, .ref uS, .ref uQ, .ref uA, .ref uB, .int (nI c), .ref uK, .int (nI h), .int (nI ns), .ref uM, .ref uF, .ref uY, .ref uT, .ref uL, .ref uC, .ref uX, .int (oI nf), .ref uI, .ref uR, .ref uW, .ref uH, .ref uG], aN (eY E) uP 30 Pp, aN (eY E) uS 30 Ps, aN (eY E) uQ 30 Pq, aO (eY E) uA 30 Pa, aO (eY E) uB 30 Pb, aR (eY E) uC 275 Co, aN (eY E) uH 25 (frK (frR (hbF n Co Pq Pa Pb) Pp Ps (frT z (hbF n Co Pq Pa Pb) Pp Ps t) r) (5 * (Pp r) + (Ps r)) (hbF n Co Pq Pa Pb r) (k + 1))]) (by first | with_reducible rfl | (simp only [oI_s, oI_0, bI_1, bI_0, and_self, reduceIte]; done) | rfl) rfl (by first | with_reducible rfl | (simp only [e_4, oI_s, oI_0, bI_1, bI_0, and_self, reduceIte]; done)) ?_
                    exact ih_k (by omega)
              have e_5 : (frK (frR (hbF n Co Pq Pa Pb) Pp Ps (frT z (hbF n Co Pq Pa Pb) Pp Ps t) r) (5 * (Pp r) + (Ps r)) (hbF n Co Pq Pa Pb r) 0) = (up (frR (hbF n Co Pq Pa Pb) Pp Ps (frT z (hbF n Co Pq Pa Pb) Pp Ps t) r) ((5 * (Pp r)) + (Ps r)) (((frR (hbF n Co Pq Pa Pb) Pp Ps (frT z (hbF n Co Pq Pa Pb) Pp Ps t) r) ((5 * (Pp r)) + (Ps r))) ||| (hbF n Co Pq Pa Pb r))) := by first | with_reducible rfl | (rfl)
              refine go_eq (lv' := [(5, .int (nI 0)), (4, .int (nI (hbF n Co Pq Pa Pb r))), (3, .int (nI ((5 * (Pp r)) + (Ps r)))), (2, .int (nI r)), (1, .int (nI t)), (0, .ref o7)]) (ws' := [ob o7 7 [.int (nI n), .int (nI m), .int (nI z), .ref uP, .ref uS, .ref uQ, .ref uA, .ref uB, .int (nI c), .ref uK, .int (nI h), .int (nI ns), .ref uM, .ref uF, .ref uY, .ref uT, .ref uL, .ref uC, .ref uX, .int (oI nf), .ref uI, .ref uR, .ref uW, .ref uH, .ref uG], aN (eY E) uP 30 Pp, aN (eY E) uS 30 Ps, aN (eY E) uQ 30 Pq, aO (eY E) uA 30 Pa, aO (eY E) uB 30 Pb, aR (eY E) uC 275 Co, aN (eY E) uH 25 (frK (frR (hbF n Co Pq Pa Pb) Pp Ps (frT z (hbF n Co Pq Pa Pb) Pp Ps t) r) (5 * (Pp r) + (Ps r)) (hbF n Co Pq Pa Pb r) 0)]) (by first | with_reducible rfl | (simp only [oI_s, oI_0, bI_1, bI_0, and_self, reduceIte]; done) | rfl) rfl (by first | with_reducible rfl | (simp only [e_5, oI_s, oI_0, bI_1, bI_0, and_self, reduceIte]; done)) ?_
              exact L76 0 (by omega)
          have e_6 : (frR (hbF n Co Pq Pa Pb) Pp Ps (frT z (hbF n Co Pq Pa Pb) Pp Ps t) 0) = (frT z (hbF n Co Pq Pa Pb) Pp Ps t) := by first | with_reducible rfl | (rfl)
          refine go_eq (lv' := [(2, .int (nI 0)), (1, .int (nI t)), (0, .ref o7)]) (ws' := [ob o7 7 [.int (nI n), .int (nI m), .int (nI z), .ref uP, .ref uS, .ref uQ, .ref uA, .ref uB, .int (nI c), .ref uK, .int (nI h), .int (nI ns), .ref uM, .ref uF, .ref uY, .ref uT, .ref uL, .ref uC, .ref uX, .int (oI nf), .ref uI, .ref uR, .ref uW, .ref uH, .ref uG], aN (eY E) uP 30 Pp, aN (eY E) uS 30 Ps, aN (eY E) uQ 30 Pq, aO (eY E) uA 30 Pa, aO (eY E) uB 30 Pb, aR (eY E) uC 275 Co, aN (eY E) uH 25 (frR (hbF n Co Pq Pa Pb) Pp Ps (frT z (hbF n Co Pq Pa Pb) Pp Ps t) 0)]) (by first | with_reducible rfl | (simp only [oI_s, oI_0, bI_1, bI_0, and_self, reduceIte]; done) | rfl) rfl (by first | with_reducible rfl | (simp only [e_6, oI_s, oI_0, bI_1, bI_0, and_self, reduceIte]; done)) ?_
          exact L31 0 (by omega)
      have e_7 : (frT z (hbF n Co Pq Pa Pb) Pp Ps 0) = (fun _ => 0) := by first | with_reducible rfl | (rfl)
      refine go_eq (lv' := [(1, .int (nI 0)), (0, .ref o7)]) (ws' := [ob o7 7 [.int (nI n), .int (nI m), .int (nI z), .ref uP, .ref uS, .ref uQ, .ref uA, .ref uB, .int (nI c), .ref uK, .int (nI h), .int (nI ns), .ref uM, .ref uF, .ref uY, .ref uT, .ref uL, .ref uC, .ref uX, .int (oI nf), .ref uI, .ref uR, .ref uW, .ref uH, .ref uG], aN (eY E) uP 30 Pp, aN (eY E) uS 30 Ps, aN (eY E) uQ 30 Pq, aO (eY E) uA 30 Pa, aO (eY E) uB 30 Pb, aR (eY E) uC 275 Co, aN (eY E) uH 25 (frT z (hbF n Co Pq Pa Pb) Pp Ps 0)]) (by first | with_reducible rfl | (simp only [oI_s, oI_0, bI_1, bI_0, and_self, reduceIte]; done) | rfl) rfl (by first | with_reducible rfl | (simp only [e_7, oI_s, oI_0, bI_1, bI_0, and_self, reduceIte]; done)) ?_
      exact L23 0 (by omega)
    · intro h5
      refine g_aload_n C dX7_findReach_8 rfl 9 rfl 1 rfl ?_
      refine g_get C iX7 0 rfl rfl 23 (by decide) (C.1.2.2.2.2 (.fieldLink RX7 67 "StackRunsModel" "reach" "[I") (List.mem_of_getElem? (i := 1) rfl)) rfl dX7_findReach_9 12 rfl ?_
      refine g_iload_n C dX7_findReach_12 rfl 13 rfl 0 rfl ?_
      refine g_iconst (v := nI 0) C dX7_findReach_13 (by decide) 14 rfl ?_
      refine g_iast (ws' := [ob o7 7 [.int (nI n), .int (nI m), .int (nI z), .ref uP, .ref uS, .ref uQ, .ref uA, .ref uB, .int (nI c), .ref uK, .int (nI h), .int (nI ns), .ref uM, .ref uF, .ref uY, .ref uT, .ref uL, .ref uC, .ref uX, .int (oI nf), .ref uI, .ref uR, .ref uW, .ref uH, .ref uG], aN (eY E) uP 30 Pp, aN (eY E) uS 30 Ps, aN (eY E) uQ 30 Pq, aO (eY E) uA 30 Pa, aO (eY E) uB 30 Pb, aR (eY E) uC 275 Co, aN (eY E) uH 25 (up (fillF Rc 0 i) i 0)]) (i := i) C 7 rfl (by omega) (by decide) dX7_findReach_14 15 rfl (upd_N _ _ _) rfl ?_
      refine g_iinc (lv' := [(1, .int (nI (i + 1))), (0, .ref o7)]) C dX7_findReach_15 18 rfl 0 rfl (by decide) rfl ?_
      refine g_goto C dX7_findReach_18 2 (by decide) ?_
      have e_8 : (fillF Rc 0 (i + 1)) = (up (fillF Rc 0 i) i 0) := by first | with_reducible rfl | (rw [fillF_s])
      refine go_eq (lv' := [(1, .int (nI (i + 1))), (0, .ref o7)]) (ws' := [ob o7 7 [.int (nI n), .int (nI m), .int (nI z), .ref uP, .ref uS, .ref uQ, .ref uA, .ref uB, .int (nI c), .ref uK, .int (nI h), .int (nI ns), .ref uM, .ref uF, .ref uY, .ref uT, .ref uL, .ref uC, .ref uX, .int (oI nf), .ref uI, .ref uR, .ref uW, .ref uH, .ref uG], aN (eY E) uP 30 Pp, aN (eY E) uS 30 Ps, aN (eY E) uQ 30 Pq, aO (eY E) uA 30 Pa, aO (eY E) uB 30 Pb, aR (eY E) uC 275 Co, aN (eY E) uH 25 (fillF Rc 0 (i + 1))]) (by first | with_reducible rfl | (simp only [oI_s, oI_0, bI_1, bI_0, and_self, reduceIte]; done) | rfl) rfl (by first | with_reducible rfl | (simp only [e_8, oI_s, oI_0, bI_1, bI_0, and_self, reduceIte]; done)) ?_
      exact ih_i (by omega)
  have e_9 : (fillF Rc 0 0) = Rc := by first | with_reducible rfl | (rw [fillF_0])
  refine go_eq (lv' := [(1, .int (nI 0)), (0, .ref o7)]) (ws' := [ob o7 7 [.int (nI n), .int (nI m), .int (nI z), .ref uP, .ref uS, .ref uQ, .ref uA, .ref uB, .int (nI c), .ref uK, .int (nI h), .int (nI ns), .ref uM, .ref uF, .ref uY, .ref uT, .ref uL, .ref uC, .ref uX, .int (oI nf), .ref uI, .ref uR, .ref uW, .ref uH, .ref uG], aN (eY E) uP 30 Pp, aN (eY E) uS 30 Ps, aN (eY E) uQ 30 Pq, aO (eY E) uA 30 Pa, aO (eY E) uB 30 Pb, aR (eY E) uC 275 Co, aN (eY E) uH 25 (fillF Rc 0 0)]) (by first | with_reducible rfl | (simp only [oI_s, oI_0, bI_1, bI_0, and_self, reduceIte]; done) | rfl) rfl (by first | with_reducible rfl | (simp only [e_9, oI_s, oI_0, bI_1, bI_0, and_self, reduceIte]; done)) ?_
  exact L2 0 (by omega)
set_option maxHeartbeats 4000000 in
set_option maxRecDepth 100000 in
theorem c_X7_isForEver (l : Launch) (D : va_G) (cy : Nat → ClassId) (o7 : Nat) (n : Nat) (m : Nat) (z : Nat) (uP : Nat) (uS : Nat) (uQ : Nat) (uA : Nat) (uB : Nat) (c : Nat) (uK : Nat) (h : Nat) (ns : Nat) (uM : Nat) (uF : Nat) (uY : Nat) (uT : Nat) (uL : Nat) (uC : Nat) (uX : Nat) (nf : Nat) (uI : Nat) (uR : Nat) (uW : Nat) (uH : Nat) (uG : Nat) (Rc : Nat → Nat) (hd : Nat) (hA : lt25 Rc) (hh : hd < 25) : CoI l yX7_isForEver wsX7_isForEver 0 0 D cy [ob o7 7 [.int (nI n), .int (nI m), .int (nI z), .ref uP, .ref uS, .ref uQ, .ref uA, .ref uB, .int (nI c), .ref uK, .int (nI h), .int (nI ns), .ref uM, .ref uF, .ref uY, .ref uT, .ref uL, .ref uC, .ref uX, .int (oI nf), .ref uI, .ref uR, .ref uW, .ref uH, .ref uG], aN cy uH 25 Rc] [.ref o7, .int (nI hd)] [ob o7 7 [.int (nI n), .int (nI m), .int (nI z), .ref uP, .ref uS, .ref uQ, .ref uA, .ref uB, .int (nI c), .ref uK, .int (nI h), .int (nI ns), .ref uM, .ref uF, .ref uY, .ref uT, .ref uL, .ref uC, .ref uX, .int (oI nf), .ref uI, .ref uR, .ref uW, .ref uH, .ref uG], aN cy uH 25 Rc] (bI (feK Rc hd 25)) := by
  refine met_z (cc := cX7_isForEver) (maxL := 4) (own := RX7) (lv := [(0, .ref o7), (1, .int (nI hd))]) (by decide) rfl rfl rfl (Nat.le_of_ble_eq_true rfl) (fun E e1 e2 e3 C hret => ?_)
  subst e1; subst e2; subst e3
  have iX7 : ∀ w ∈ wsX70, w ∈ wsX7_isForEver := fun _ h => List.mem_cons_of_mem _ (List.mem_append_right _ h)
  have hA1 := hA hd
  refine g_aload_n C dX7_isForEver_0 rfl 1 rfl 0 rfl ?_
  refine g_get C iX7 0 rfl rfl 23 (by decide) (C.1.2.2.2.2 (.fieldLink RX7 67 "StackRunsModel" "reach" "[I") (List.mem_of_getElem? (i := 1) rfl)) rfl dX7_isForEver_1 4 rfl ?_
  refine g_iload_n C dX7_isForEver_4 rfl 5 rfl 1 rfl ?_
  refine g_iald (i := hd) C 1 rfl (by omega) (by decide) dX7_isForEver_5 6 rfl ?_
  refine g_iload_n C dX7_isForEver_6 rfl 7 rfl 1 rfl ?_
  refine g_ishr (z := nI ((Rc hd) / 2 ^ hd)) C dX7_isForEver_7 8 rfl (z_shr (by omega) (by omega)) ?_
  refine g_iconst (v := nI 1) C dX7_isForEver_8 (by decide) 9 rfl ?_
  refine g_iand (z := nI (((Rc hd) / 2 ^ hd) &&& 1)) C dX7_isForEver_9 10 rfl (z_and _ _) ?_
  refine g_iconst (v := nI 1) C dX7_isForEver_10 (by decide) 11 rfl ?_
  have J19 : ∀ (v : Bool), (v = (Rc hd).testBit hd) → Go E 0 0 19 [(0, .ref o7), (1, .int (nI hd))] [.int (bI v)] [ob o7 7 [.int (nI n), .int (nI m), .int (nI z), .ref uP, .ref uS, .ref uQ, .ref uA, .ref uB, .int (nI c), .ref uK, .int (nI h), .int (nI ns), .ref uM, .ref uF, .ref uY, .ref uT, .ref uL, .ref uC, .ref uX, .int (oI nf), .ref uI, .ref uR, .ref uW, .ref uH, .ref uG], aN (eY E) uH 25 Rc] := by
    intro v hv
    refine g_istore_n (lv' := [(2, .int (bI v)), (0, .ref o7), (1, .int (nI hd))]) C dX7_isForEver_19 rfl 20 rfl (by decide) rfl ?_
    refine g_iconst (v := nI 0) C dX7_isForEver_20 (by decide) 21 rfl ?_
    refine g_istore_n (lv' := [(3, .int (nI 0)), (2, .int (bI v)), (0, .ref o7), (1, .int (nI hd))]) C dX7_isForEver_21 rfl 22 rfl (by decide) rfl ?_
    have L22 : ∀ k, k ≤ 25 → Go E 0 0 22 [(3, .int (nI k)), (2, .int (bI (feK Rc hd k))), (0, .ref o7), (1, .int (nI hd))] [] [ob o7 7 [.int (nI n), .int (nI m), .int (nI z), .ref uP, .ref uS, .ref uQ, .ref uA, .ref uB, .int (nI c), .ref uK, .int (nI h), .int (nI ns), .ref uM, .ref uF, .ref uY, .ref uT, .ref uL, .ref uC, .ref uX, .int (oI nf), .ref uI, .ref uR, .ref uW, .ref uH, .ref uG], aN (eY E) uH 25 Rc] := by
      refine go_for 25 (fun k => Go E 0 0 22 [(3, .int (nI k)), (2, .int (bI (feK Rc hd k))), (0, .ref o7), (1, .int (nI hd))] [] [ob o7 7 [.int (nI n), .int (nI m), .int (nI z), .ref uP, .ref uS, .ref uQ, .ref uA, .ref uB, .int (nI c), .ref uK, .int (nI h), .int (nI ns), .ref uM, .ref uF, .ref uY, .ref uT, .ref uL, .ref uC, .ref uX, .int (oI nf), .ref uI, .ref uR, .ref uW, .ref uH, .ref uG], aN (eY E) uH 25 Rc]) (fun k hi_k ih_k => ?_)
      have hA2 := hA k
      refine g_iload_n C dX7_isForEver_22 rfl 23 rfl 0 rfl ?_
      refine g_bipush (v := nI 25) C dX7_isForEver_23 (by decide) 25 rfl ?_
      refine g_icmp_ge (X := 25 ≤ k) C dX7_isForEver_25 72 (by decide) 28 rfl (nI_leI (by omega) (by omega)) ?_ ?_
      · intro h25
        have x_k : k = 25 := by omega
        try rw [x_k]
        refine g_iload_n C dX7_isForEver_72 rfl 73 rfl 1 rfl ?_
        exact hret _ _ dX7_isForEver_73
      · intro h25
        refine g_iload_n C dX7_isForEver_28 rfl 29 rfl 1 rfl ?_
        refine g_if_ne (X := feK Rc hd k = true) C dX7_isForEver_29 60 (by decide) 32 rfl (bI_ne0 _) ?_ ?_
        · intro h29
          refine g_iconst (v := nI 1) C dX7_isForEver_60 (by decide) 61 rfl ?_
          refine g_goto C dX7_isForEver_61 65 (by decide) ?_
          refine g_istore_n (lv' := [(2, .int (nI 1)), (3, .int (nI k)), (0, .ref o7), (1, .int (nI hd))]) C dX7_isForEver_65 rfl 66 rfl (by decide) rfl ?_
          refine g_iinc (lv' := [(3, .int (nI (k + 1))), (2, .int (nI 1)), (0, .ref o7), (1, .int (nI hd))]) C dX7_isForEver_66 69 rfl 1 rfl (by decide) rfl ?_
          refine g_goto C dX7_isForEver_69 22 (by decide) ?_
          have e_1 : (feK Rc hd (k + 1)) = true := by first | with_reducible rfl | (simp only [feK]; first | (simp only [h29, Bool.true_or]; done) | (simp only [h29, h43, Bool.false_and, Bool.or_self]; done) | (simp only [h29, h43, h57, Bool.true_and, Bool.or_self, Bool.false_or]; done))
          refine go_eq (lv' := [(3, .int (nI (k + 1))), (2, .int (bI (feK Rc hd (k + 1)))), (0, .ref o7), (1, .int (nI hd))]) (ws' := [ob o7 7 [.int (nI n), .int (nI m), .int (nI z), .ref uP, .ref uS, .ref uQ, .ref uA, .ref uB, .int (nI c), .ref uK, .int (nI h), .int (nI ns), .ref uM, .ref uF, .ref uY, .ref uT, .ref uL, .ref uC, .ref uX, .int (oI nf), .ref uI, .ref uR, .ref uW, .ref uH, .ref uG], aN (eY E) uH 25 Rc]) (by first | with_reducible rfl | (simp only [e_1, oI_s, oI_0, bI_1, bI_0, and_self, reduceIte]; done)) rfl (by first | with_reducible rfl | (simp only [oI_s, oI_0, bI_1, bI_0, and_self, reduceIte]; done) | rfl) ?_
          exact ih_k (by omega)
        · intro h29
          have h29 : feK Rc hd k = false := by simpa using h29
          refine g_aload_n C dX7_isForEver_32 rfl 33 rfl 2 rfl ?_
          refine g_get C iX7 0 rfl rfl 23 (by decide) (C.1.2.2.2.2 (.fieldLink RX7 67 "StackRunsModel" "reach" "[I") (List.mem_of_getElem? (i := 1) rfl)) rfl dX7_isForEver_33 36 rfl ?_
          refine g_iload_n C dX7_isForEver_36 rfl 37 rfl 3 rfl ?_
          refine g_iald (i := hd) C 1 rfl (by omega) (by decide) dX7_isForEver_37 38 rfl ?_
          refine g_iload_n C dX7_isForEver_38 rfl 39 rfl 0 rfl ?_
          refine g_ishr (z := nI ((Rc hd) / 2 ^ k)) C dX7_isForEver_39 40 rfl (z_shr (by omega) (by omega)) ?_
          refine g_iconst (v := nI 1) C dX7_isForEver_40 (by decide) 41 rfl ?_
          refine g_iand (z := nI (((Rc hd) / 2 ^ k) &&& 1)) C dX7_isForEver_41 42 rfl (z_and _ _) ?_
          refine g_iconst (v := nI 1) C dX7_isForEver_42 (by decide) 43 rfl ?_
          refine g_icmp_ne (X := (Rc hd).testBit k = false) C dX7_isForEver_43 64 (by decide) 46 rfl (tb_ne (by omega)) ?_ ?_
          · intro h43
            refine g_iconst (v := nI 0) C dX7_isForEver_64 (by decide) 65 rfl ?_
            refine g_istore_n (lv' := [(2, .int (nI 0)), (3, .int (nI k)), (0, .ref o7), (1, .int (nI hd))]) C dX7_isForEver_65 rfl 66 rfl (by decide) rfl ?_
            refine g_iinc (lv' := [(3, .int (nI (k + 1))), (2, .int (nI 0)), (0, .ref o7), (1, .int (nI hd))]) C dX7_isForEver_66 69 rfl 1 rfl (by decide) rfl ?_
            refine g_goto C dX7_isForEver_69 22 (by decide) ?_
            have e_2 : (feK Rc hd (k + 1)) = false := by first | with_reducible rfl | (simp only [feK]; first | (simp only [h29, Bool.true_or]; done) | (simp only [h29, h43, Bool.false_and, Bool.or_self]; done) | (simp only [h29, h43, h57, Bool.true_and, Bool.or_self, Bool.false_or]; done))
            refine go_eq (lv' := [(3, .int (nI (k + 1))), (2, .int (bI (feK Rc hd (k + 1)))), (0, .ref o7), (1, .int (nI hd))]) (ws' := [ob o7 7 [.int (nI n), .int (nI m), .int (nI z), .ref uP, .ref uS, .ref uQ, .ref uA, .ref uB, .int (nI c), .ref uK, .int (nI h), .int (nI ns), .ref uM, .ref uF, .ref uY, .ref uT, .ref uL, .ref uC, .ref uX, .int (oI nf), .ref uI, .ref uR, .ref uW, .ref uH, .ref uG], aN (eY E) uH 25 Rc]) (by first | with_reducible rfl | (simp only [e_2, oI_s, oI_0, bI_1, bI_0, and_self, reduceIte]; done)) rfl (by first | with_reducible rfl | (simp only [oI_s, oI_0, bI_1, bI_0, and_self, reduceIte]; done) | rfl) ?_
            exact ih_k (by omega)
          · intro h43
            have h43 : (Rc hd).testBit k = true := by simpa using h43
            refine g_aload_n C dX7_isForEver_46 rfl 47 rfl 2 rfl ?_
            refine g_get C iX7 0 rfl rfl 23 (by decide) (C.1.2.2.2.2 (.fieldLink RX7 67 "StackRunsModel" "reach" "[I") (List.mem_of_getElem? (i := 1) rfl)) rfl dX7_isForEver_47 50 rfl ?_
            refine g_iload_n C dX7_isForEver_50 rfl 51 rfl 0 rfl ?_
            refine g_iald (i := k) C 1 rfl (by omega) (by decide) dX7_isForEver_51 52 rfl ?_
            refine g_iload_n C dX7_isForEver_52 rfl 53 rfl 0 rfl ?_
            refine g_ishr (z := nI ((Rc k) / 2 ^ k)) C dX7_isForEver_53 54 rfl (z_shr (by omega) (by omega)) ?_
            refine g_iconst (v := nI 1) C dX7_isForEver_54 (by decide) 55 rfl ?_
            refine g_iand (z := nI (((Rc k) / 2 ^ k) &&& 1)) C dX7_isForEver_55 56 rfl (z_and _ _) ?_
            refine g_iconst (v := nI 1) C dX7_isForEver_56 (by decide) 57 rfl ?_
            refine g_icmp_ne (X := (Rc k).testBit k = false) C dX7_isForEver_57 64 (by decide) 60 rfl (tb_ne (by omega)) ?_ ?_
            · intro h57
              refine g_iconst (v := nI 0) C dX7_isForEver_64 (by decide) 65 rfl ?_
              refine g_istore_n (lv' := [(2, .int (nI 0)), (3, .int (nI k)), (0, .ref o7), (1, .int (nI hd))]) C dX7_isForEver_65 rfl 66 rfl (by decide) rfl ?_
              refine g_iinc (lv' := [(3, .int (nI (k + 1))), (2, .int (nI 0)), (0, .ref o7), (1, .int (nI hd))]) C dX7_isForEver_66 69 rfl 1 rfl (by decide) rfl ?_
              refine g_goto C dX7_isForEver_69 22 (by decide) ?_
              have e_3 : (feK Rc hd (k + 1)) = false := by first | with_reducible rfl | (simp only [feK]; first | (simp only [h29, Bool.true_or]; done) | (simp only [h29, h43, Bool.false_and, Bool.or_self]; done) | (simp only [h29, h43, h57, Bool.true_and, Bool.or_self, Bool.false_or]; done))
              refine go_eq (lv' := [(3, .int (nI (k + 1))), (2, .int (bI (feK Rc hd (k + 1)))), (0, .ref o7), (1, .int (nI hd))]) (ws' := [ob o7 7 [.int (nI n), .int (nI m), .int (nI z), .ref uP, .ref uS, .ref uQ, .ref uA, .ref uB, .int (nI c), .ref uK, .int (nI h), .int (nI ns), .ref uM, .ref uF, .ref uY, .ref uT, .ref uL, .ref uC, .ref uX, .int (oI nf), .ref uI, .ref uR, .ref uW, .ref uH, .ref uG], aN (eY E) uH 25 Rc]) (by first | with_reducible rfl | (simp only [e_3, oI_s, oI_0, bI_1, bI_0, and_self, reduceIte]; done)) rfl (by first | with_reducible rfl | (simp only [oI_s, oI_0, bI_1, bI_0, and_self, reduceIte]; done) | rfl) ?_
              exact ih_k (by omega)
            · intro h57
              have h57 : (Rc k).testBit k = true := by simpa using h57
              refine g_iconst (v := nI 1) C dX7_isForEver_60 (by decide) 61 rfl ?_
              refine g_goto C dX7_isForEver_61 65 (by decide) ?_
              refine g_istore_n (lv' := [(2, .int (nI 1)), (3, .int (nI k)), (0, .ref o7), (1, .int (nI hd))]) C dX7_isForEver_65 rfl 66 rfl (by decide) rfl ?_
              refine g_iinc (lv' := [(3, .int (nI (k + 1))), (2, .int (nI 1)), (0, .ref o7), (1, .int (nI hd))]) C dX7_isForEver_66 69 rfl 1 rfl (by decide) rfl ?_
              refine g_goto C dX7_isForEver_69 22 (by decide) ?_
              have e_4 : (feK Rc hd (k + 1)) = true := by first | with_reducible rfl | (simp only [feK]; first | (simp only [h29, Bool.true_or]; done) | (simp only [h29, h43, Bool.false_and, Bool.or_self]; done) | (simp only [h29, h43, h57, Bool.true_and, Bool.or_self, Bool.false_or]; done))
              refine go_eq (lv' := [(3, .int (nI (k + 1))), (2, .int (bI (feK Rc hd (k + 1)))), (0, .ref o7), (1, .int (nI hd))]) (ws' := [ob o7 7 [.int (nI n), .int (nI m), .int (nI z), .ref uP, .ref uS, .ref uQ, .ref uA, .ref uB, .int (nI c), .ref uK, .int (nI h), .int (nI ns), .ref uM, .ref uF, .ref uY, .ref uT, .ref uL, .ref uC, .ref uX, .int (oI nf), .ref uI, .ref uR, .ref uW, .ref uH, .ref uG], aN (eY E) uH 25 Rc]) (by first | with_reducible rfl | (simp only [e_4, oI_s, oI_0, bI_1, bI_0, and_self, reduceIte]; done)) rfl (by first | with_reducible rfl | (simp only [oI_s, oI_0, bI_1, bI_0, and_self, reduceIte]; done) | rfl) ?_
              exact ih_k (by omega)
    have e_5 : (feK Rc hd 0) = v := by first | with_reducible rfl | (simp only [feK, hv])
    refine go_eq (lv' := [(3, .int (nI 0)), (2, .int (bI (feK Rc hd 0))), (0, .ref o7), (1, .int (nI hd))]) (ws' := [ob o7 7 [.int (nI n), .int (nI m), .int (nI z), .ref uP, .ref uS, .ref uQ, .ref uA, .ref uB, .int (nI c), .ref uK, .int (nI h), .int (nI ns), .ref uM, .ref uF, .ref uY, .ref uT, .ref uL, .ref uC, .ref uX, .int (oI nf), .ref uI, .ref uR, .ref uW, .ref uH, .ref uG], aN (eY E) uH 25 Rc]) (by first | with_reducible rfl | (simp only [e_5, oI_s, oI_0, bI_1, bI_0, and_self, reduceIte]; done)) rfl (by first | with_reducible rfl | (simp only [oI_s, oI_0, bI_1, bI_0, and_self, reduceIte]; done) | rfl) ?_
    exact L22 0 (by omega)
  refine g_icmp_ne (X := (Rc hd).testBit hd = false) C dX7_isForEver_11 18 (by decide) 14 rfl (tb_ne (by omega)) ?_ ?_
  · intro h11
    refine g_iconst (v := nI 0) C dX7_isForEver_18 (by decide) 19 rfl ?_
    exact J19 false (by simp only [h11])
  · intro h11
    have h11 : (Rc hd).testBit hd = true := by simpa using h11
    refine g_iconst (v := nI 1) C dX7_isForEver_14 (by decide) 15 rfl ?_
    refine g_goto C dX7_isForEver_15 19 (by decide) ?_
    exact J19 true (by simp only [h11])
set_option maxHeartbeats 4000000 in
set_option maxRecDepth 100000 in
theorem c_X7_popped (l : Launch) (D : va_G) (cy : Nat → ClassId) (o7 : Nat) (n : Nat) (m : Nat) (z : Nat) (uP : Nat) (uS : Nat) (uQ : Nat) (uA : Nat) (uB : Nat) (c : Nat) (uK : Nat) (h : Nat) (ns : Nat) (uM : Nat) (uF : Nat) (uY : Nat) (uT : Nat) (uL : Nat) (uC : Nat) (uX : Nat) (nf : Nat) (uI : Nat) (uR : Nat) (uW : Nat) (uH : Nat) (uG : Nat) (Co : Nat → Nat) (b : Nat) (s : Nat) (hCo : okf Co) (hn : n ≤ 5) (hb : b < 32) (hs : s < 5) : CoI l yX7_popped wsX7_popped 1 22 D cy [ob o7 7 [.int (nI n), .int (nI m), .int (nI z), .ref uP, .ref uS, .ref uQ, .ref uA, .ref uB, .int (nI c), .ref uK, .int (nI h), .int (nI ns), .ref uM, .ref uF, .ref uY, .ref uT, .ref uL, .ref uC, .ref uX, .int (oI nf), .ref uI, .ref uR, .ref uW, .ref uH, .ref uG], aR cy uC 275 Co] [.ref o7, .int (nI b), .int (nI s)] [ob o7 7 [.int (nI n), .int (nI m), .int (nI z), .ref uP, .ref uS, .ref uQ, .ref uA, .ref uB, .int (nI c), .ref uK, .int (nI h), .int (nI ns), .ref uM, .ref uF, .ref uY, .ref uT, .ref uL, .ref uC, .ref uX, .int (oI nf), .ref uI, .ref uR, .ref uW, .ref uH, .ref uG], aR cy uC 275 Co] (nI (poP n Co b s n)) := by
  refine met_i (cc := cX7_popped) (maxL := 6) (own := RX7) (lv := [(0, .ref o7), (1, .int (nI b)), (2, .int (nI s))]) (by decide) rfl rfl rfl (Nat.le_of_ble_eq_true rfl) (fun E e1 e2 e3 C hret => ?_)
  subst e1; subst e2; subst e3
  have iX7 : ∀ w ∈ wsX70, w ∈ wsX7_popped := fun _ h => List.mem_cons_of_mem _ (List.mem_append_right _ h)
  refine g_iconst (v := nI 0) C dX7_popped_0 (by decide) 1 rfl ?_
  refine g_istore_n (lv' := [(3, .int (nI 0)), (0, .ref o7), (1, .int (nI b)), (2, .int (nI s))]) C dX7_popped_1 rfl 2 rfl (by decide) rfl ?_
  refine g_iconst (v := nI 0) C dX7_popped_2 (by decide) 3 rfl ?_
  refine g_istore (lv' := [(4, .int (nI 0)), (3, .int (nI 0)), (0, .ref o7), (1, .int (nI b)), (2, .int (nI s))]) C dX7_popped_3 5 rfl (by decide) rfl ?_
  have L5 : ∀ p, p ≤ n → Go E 0 0 5 [(4, .int (nI p)), (3, .int (nI (poP n Co b s p))), (0, .ref o7), (1, .int (nI b)), (2, .int (nI s))] [] [ob o7 7 [.int (nI n), .int (nI m), .int (nI z), .ref uP, .ref uS, .ref uQ, .ref uA, .ref uB, .int (nI c), .ref uK, .int (nI h), .int (nI ns), .ref uM, .ref uF, .ref uY, .ref uT, .ref uL, .ref uC, .ref uX, .int (oI nf), .ref uI, .ref uR, .ref uW, .ref uH, .ref uG], aR (eY E) uC 275 Co] := by
    refine go_for n (fun p => Go E 0 0 5 [(4, .int (nI p)), (3, .int (nI (poP n Co b s p))), (0, .ref o7), (1, .int (nI b)), (2, .int (nI s))] [] [ob o7 7 [.int (nI n), .int (nI m), .int (nI z), .ref uP, .ref uS, .ref uQ, .ref uA, .ref uB, .int (nI c), .ref uK, .int (nI h), .int (nI ns), .ref uM, .ref uF, .ref uY, .ref uT, .ref uL, .ref uC, .ref uX, .int (oI nf), .ref uI, .ref uR, .ref uW, .ref uH, .ref uG], aR (eY E) uC 275 Co]) (fun p hi_p ih_p => ?_)
    refine g_iload C dX7_popped_5 7 rfl 0 rfl ?_
    refine g_aload_n C dX7_popped_7 rfl 8 rfl 2 rfl ?_
    refine g_get C iX7 0 rfl rfl 0 (by decide) (C.1.2.2.2.2 (.fieldLink RX7 7 "StackRunsModel" "controls" "I") (List.mem_of_getElem? (i := 1) rfl)) rfl dX7_popped_8 11 rfl ?_
    refine g_icmp_ge (X := n ≤ p) C dX7_popped_11 77 (by decide) 14 rfl (nI_leI (by omega) (by omega)) ?_ ?_
    · intro h11
      have x_p : p = n := by omega
      try rw [x_p]
      refine g_iload_n C dX7_popped_77 rfl 78 rfl 1 rfl ?_
      exact hret _ _ dX7_popped_78
    · intro h11
      refine g_iconst (v := nI 0) C dX7_popped_14 (by decide) 15 rfl ?_
      refine g_istore (lv' := [(5, .int (nI 0)), (4, .int (nI p)), (3, .int (nI (poP n Co b s p))), (0, .ref o7), (1, .int (nI b)), (2, .int (nI s))]) C dX7_popped_15 17 rfl (by decide) rfl ?_
      have L17 : ∀ q, q ≤ n → (0 < q → b.testBit p = true) → Go E 0 0 17 [(5, .int (nI q)), (4, .int (nI p)), (3, .int (nI (poQ Co p s (poP n Co b s p) q))), (0, .ref o7), (1, .int (nI b)), (2, .int (nI s))] [] [ob o7 7 [.int (nI n), .int (nI m), .int (nI z), .ref uP, .ref uS, .ref uQ, .ref uA, .ref uB, .int (nI c), .ref uK, .int (nI h), .int (nI ns), .ref uM, .ref uF, .ref uY, .ref uT, .ref uL, .ref uC, .ref uX, .int (oI nf), .ref uI, .ref uR, .ref uW, .ref uH, .ref uG], aR (eY E) uC 275 Co] := by
        refine go_for n (fun q => (0 < q → b.testBit p = true) → Go E 0 0 17 [(5, .int (nI q)), (4, .int (nI p)), (3, .int (nI (poQ Co p s (poP n Co b s p) q))), (0, .ref o7), (1, .int (nI b)), (2, .int (nI s))] [] [ob o7 7 [.int (nI n), .int (nI m), .int (nI z), .ref uP, .ref uS, .ref uQ, .ref uA, .ref uB, .int (nI c), .ref uK, .int (nI h), .int (nI ns), .ref uM, .ref uF, .ref uY, .ref uT, .ref uL, .ref uC, .ref uX, .int (oI nf), .ref uI, .ref uR, .ref uW, .ref uH, .ref uG], aR (eY E) uC 275 Co]) (fun q hi_q ih_q => ?_)
        intro hb1
        have hC1 := hCo ((5 * p + s) * 11 + q)
        refine g_iload C dX7_popped_17 19 rfl 0 rfl ?_
        refine g_aload_n C dX7_popped_19 rfl 20 rfl 3 rfl ?_
        refine g_get C iX7 0 rfl rfl 0 (by decide) (C.1.2.2.2.2 (.fieldLink RX7 7 "StackRunsModel" "controls" "I") (List.mem_of_getElem? (i := 1) rfl)) rfl dX7_popped_20 23 rfl ?_
        refine g_icmp_ge (X := n ≤ q) C dX7_popped_23 71 (by decide) 26 rfl (nI_leI (by omega) (by omega)) ?_ ?_
        · intro h23
          refine g_iinc (lv' := [(4, .int (nI (p + 1))), (5, .int (nI q)), (3, .int (nI (poQ Co p s (poP n Co b s p) q))), (0, .ref o7), (1, .int (nI b)), (2, .int (nI s))]) C dX7_popped_71 74 rfl 1 rfl (by decide) rfl ?_
          refine g_goto C dX7_popped_74 5 (by decide) ?_
          refine go_lv (lv' := [(4, .int (nI (p + 1))), (3, .int (nI (poQ Co p s (poP n Co b s p) q))), (0, .ref o7), (1, .int (nI b)), (2, .int (nI s))]) [0, 2, 3, 4, 5] rfl ?_
          have e_1 : (poP n Co b s (p + 1)) = (poQ Co p s (poP n Co b s p) q) := by first | with_reducible rfl | (first | exact poP_t (hb1 (by omega)) (by omega) | exact poP_f h33 hb1 | exact poP_z (by omega))
          refine go_eq (lv' := [(4, .int (nI (p + 1))), (3, .int (nI (poP n Co b s (p + 1)))), (0, .ref o7), (1, .int (nI b)), (2, .int (nI s))]) (ws' := [ob o7 7 [.int (nI n), .int (nI m), .int (nI z), .ref uP, .ref uS, .ref uQ, .ref uA, .ref uB, .int (nI c), .ref uK, .int (nI h), .int (nI ns), .ref uM, .ref uF, .ref uY, .ref uT, .ref uL, .ref uC, .ref uX, .int (oI nf), .ref uI, .ref uR, .ref uW, .ref uH, .ref uG], aR (eY E) uC 275 Co]) (by first | with_reducible rfl | (simp only [e_1, oI_s, oI_0, bI_1, bI_0, and_self, reduceIte]; done)) rfl (by first | with_reducible rfl | (simp only [oI_s, oI_0, bI_1, bI_0, and_self, reduceIte]; done) | rfl) ?_
          exact ih_p (by omega)
        · intro h23
          refine g_iload_n C dX7_popped_26 rfl 27 rfl 4 rfl ?_
          refine g_iload C dX7_popped_27 29 rfl 1 rfl ?_
          refine g_ishr (z := nI (b / 2 ^ p)) C dX7_popped_29 30 rfl (z_shr (by omega) (by omega)) ?_
          refine g_iconst (v := nI 1) C dX7_popped_30 (by decide) 31 rfl ?_
          refine g_iand (z := nI ((b / 2 ^ p) &&& 1)) C dX7_popped_31 32 rfl (z_and _ _) ?_
          refine g_iconst (v := nI 1) C dX7_popped_32 (by decide) 33 rfl ?_
          refine g_icmp_ne (X := b.testBit p = false) C dX7_popped_33 71 (by decide) 36 rfl (tb_ne (by omega)) ?_ ?_
          · intro h33
            refine g_iinc (lv' := [(4, .int (nI (p + 1))), (5, .int (nI q)), (3, .int (nI (poQ Co p s (poP n Co b s p) q))), (0, .ref o7), (1, .int (nI b)), (2, .int (nI s))]) C dX7_popped_71 74 rfl 1 rfl (by decide) rfl ?_
            refine g_goto C dX7_popped_74 5 (by decide) ?_
            refine go_lv (lv' := [(4, .int (nI (p + 1))), (3, .int (nI (poQ Co p s (poP n Co b s p) q))), (0, .ref o7), (1, .int (nI b)), (2, .int (nI s))]) [0, 2, 3, 4, 5] rfl ?_
            have e_2 : (poP n Co b s (p + 1)) = (poQ Co p s (poP n Co b s p) q) := by first | with_reducible rfl | (first | exact poP_t (hb1 (by omega)) (by omega) | exact poP_f h33 hb1 | exact poP_z (by omega))
            refine go_eq (lv' := [(4, .int (nI (p + 1))), (3, .int (nI (poP n Co b s (p + 1)))), (0, .ref o7), (1, .int (nI b)), (2, .int (nI s))]) (ws' := [ob o7 7 [.int (nI n), .int (nI m), .int (nI z), .ref uP, .ref uS, .ref uQ, .ref uA, .ref uB, .int (nI c), .ref uK, .int (nI h), .int (nI ns), .ref uM, .ref uF, .ref uY, .ref uT, .ref uL, .ref uC, .ref uX, .int (oI nf), .ref uI, .ref uR, .ref uW, .ref uH, .ref uG], aR (eY E) uC 275 Co]) (by first | with_reducible rfl | (simp only [e_2, oI_s, oI_0, bI_1, bI_0, and_self, reduceIte]; done)) rfl (by first | with_reducible rfl | (simp only [oI_s, oI_0, bI_1, bI_0, and_self, reduceIte]; done) | rfl) ?_
            exact ih_p (by omega)
          · intro h33
            have h33 : b.testBit p = true := by simpa using h33
            refine g_iload_n C dX7_popped_36 rfl 37 rfl 2 rfl ?_
            refine g_aload_n C dX7_popped_37 rfl 38 rfl 3 rfl ?_
            refine g_get C iX7 0 rfl rfl 17 (by decide) (C.1.2.2.2.2 (.fieldLink RX7 51 "StackRunsModel" "costs" "[J") (List.mem_of_getElem? (i := 2) rfl)) rfl dX7_popped_38 41 rfl ?_
            refine g_iload C dX7_popped_41 43 rfl 1 rfl ?_
            refine g_iload_n C dX7_popped_43 rfl 44 rfl 5 rfl ?_
            refine g_iload C dX7_popped_44 46 rfl 0 rfl ?_
            refine g_cSi (ws2 := [ob o7 7 [.int (nI n), .int (nI m), .int (nI z), .ref uP, .ref uS, .ref uQ, .ref uA, .ref uB, .int (nI c), .ref uK, .int (nI h), .int (nI ns), .ref uM, .ref uF, .ref uY, .ref uT, .ref uL, .ref uC, .ref uX, .int (oI nf), .ref uI, .ref uR, .ref uW, .ref uH, .ref uG], aR (eY E) uC 275 Co]) (As := [.int (nI p), .int (nI s), .int (nI q)]) (st := [.ref uC, .int (nI (poQ Co p s (poP n Co b s p) q))]) (wsc := []) (wr := [ob o7 7 [.int (nI n), .int (nI m), .int (nI z), .ref uP, .ref uS, .ref uQ, .ref uA, .ref uB, .int (nI c), .ref uK, .int (nI h), .int (nI ns), .ref uM, .ref uF, .ref uY, .ref uT, .ref uL, .ref uC, .ref uX, .int (oI nf), .ref uI, .ref uR, .ref uW, .ref uH, .ref uG], aR (eY E) uC 275 Co]) C (c_X7_costAt (eL E) (eD E) (eY E) p s q ) 3 gX7_popped_X7_costAt rfl (by decide +kernel) (by decide) ⟨Nat.zero_le _, Nat.zero_le _⟩ rfl rfl (Nat.le_of_ble_eq_true rfl) [] [0, 1] [0, 1] rfl rfl (by decide) (by decide) rfl (by decide) dX7_popped_46 49 rfl ?_
            refine g_lald (i := ((5 * p + s) * 11 + q)) C 1 rfl (by omega) (by decide) dX7_popped_49 50 rfl ?_
            refine g_lconst (v := lN 0) C dX7_popped_50 (by decide) 51 rfl ?_
            refine g_lcmp_lt (X := Co ((5 * p + s) * 11 + q) = 9000000000000000000) C dX7_popped_51 rfl dX7_popped_52 62 (by decide) 55 rfl (rv_lt0 (by omega)) ?_ ?_
            · intro h51
              refine g_iconst (v := nI 0) C dX7_popped_62 (by decide) 63 rfl ?_
              refine g_ior (z := nI ((poQ Co p s (poP n Co b s p) q) ||| 0)) C dX7_popped_63 64 rfl (z_or _ _) ?_
              refine g_istore_n (lv' := [(3, .int (nI ((poQ Co p s (poP n Co b s p) q) ||| 0))), (5, .int (nI q)), (4, .int (nI p)), (0, .ref o7), (1, .int (nI b)), (2, .int (nI s))]) C dX7_popped_64 rfl 65 rfl (by decide) rfl ?_
              refine g_iinc (lv' := [(5, .int (nI (q + 1))), (3, .int (nI ((poQ Co p s (poP n Co b s p) q) ||| 0))), (4, .int (nI p)), (0, .ref o7), (1, .int (nI b)), (2, .int (nI s))]) C dX7_popped_65 68 rfl 1 rfl (by decide) rfl ?_
              refine g_goto C dX7_popped_68 17 (by decide) ?_
              refine go_lv (lv' := [(5, .int (nI (q + 1))), (4, .int (nI p)), (3, .int (nI ((poQ Co p s (poP n Co b s p) q) ||| 0))), (0, .ref o7), (1, .int (nI b)), (2, .int (nI s))]) [0, 2, 1, 3, 4, 5] rfl ?_
              have e_3 : (poQ Co p s (poP n Co b s p) (q + 1)) = ((poQ Co p s (poP n Co b s p) q) ||| 0) := by first | with_reducible rfl | (simp only [poQ]; first | (rw [if_pos h51]; done) | (rw [if_neg h51]))
              refine go_eq (lv' := [(5, .int (nI (q + 1))), (4, .int (nI p)), (3, .int (nI (poQ Co p s (poP n Co b s p) (q + 1)))), (0, .ref o7), (1, .int (nI b)), (2, .int (nI s))]) (ws' := [ob o7 7 [.int (nI n), .int (nI m), .int (nI z), .ref uP, .ref uS, .ref uQ, .ref uA, .ref uB, .int (nI c), .ref uK, .int (nI h), .int (nI ns), .ref uM, .ref uF, .ref uY, .ref uT, .ref uL, .ref uC, .ref uX, .int (oI nf), .ref uI, .ref uR, .ref uW, .ref uH, .ref uG], aR (eY E) uC 275 Co]) (by first | with_reducible rfl | (simp only [e_3, oI_s, oI_0, bI_1, bI_0, and_self, reduceIte]; done)) rfl (by first | with_reducible rfl | (simp only [oI_s, oI_0, bI_1, bI_0, and_self, reduceIte]; done) | rfl) ?_
              exact ih_q (by omega) (by intro _; assumption)
            · intro h51
              refine g_iconst (v := nI 1) C dX7_popped_55 (by decide) 56 rfl ?_
              refine g_iload C dX7_popped_56 58 rfl 0 rfl ?_
              refine g_ishl (z := nI (1 * 2 ^ q)) C dX7_popped_58 59 rfl (z_shl (by omega) (by have := pow_lt_32 (p := q) (by omega); omega)) ?_
              refine g_goto C dX7_popped_59 63 (by decide) ?_
              refine g_ior (z := nI ((poQ Co p s (poP n Co b s p) q) ||| (1 * 2 ^ q))) C dX7_popped_63 64 rfl (z_or _ _) ?_
              refine g_istore_n (lv' := [(3, .int (nI ((poQ Co p s (poP n Co b s p) q) ||| (1 * 2 ^ q)))), (5, .int (nI q)), (4, .int (nI p)), (0, .ref o7), (1, .int (nI b)), (2, .int (nI s))]) C dX7_popped_64 rfl 65 rfl (by decide) rfl ?_
              refine g_iinc (lv' := [(5, .int (nI (q + 1))), (3, .int (nI ((poQ Co p s (poP n Co b s p) q) ||| (1 * 2 ^ q)))), (4, .int (nI p)), (0, .ref o7), (1, .int (nI b)), (2, .int (nI s))]) C dX7_popped_65 68 rfl 1 rfl (by decide) rfl ?_
              refine g_goto C dX7_popped_68 17 (by decide) ?_
              refine go_lv (lv' := [(5, .int (nI (q + 1))), (4, .int (nI p)), (3, .int (nI ((poQ Co p s (poP n Co b s p) q) ||| (1 * 2 ^ q)))), (0, .ref o7), (1, .int (nI b)), (2, .int (nI s))]) [0, 2, 1, 3, 4, 5] rfl ?_
              have e_4 : (poQ Co p s (poP n Co b s p) (q + 1)) = ((poQ Co p s (poP n Co b s p) q) ||| (1 * 2 ^ q)) := by first | with_reducible rfl | (simp only [poQ]; first | (rw [if_pos h51]; done) | (rw [if_neg h51]))
              refine go_eq (lv' := [(5, .int (nI (q + 1))), (4, .int (nI p)), (3, .int (nI (poQ Co p s (poP n Co b s p) (q + 1)))), (0, .ref o7), (1, .int (nI b)), (2, .int (nI s))]) (ws' := [ob o7 7 [.int (nI n), .int (nI m), .int (nI z), .ref uP, .ref uS, .ref uQ, .ref uA, .ref uB, .int (nI c), .ref uK, .int (nI h), .int (nI ns), .ref uM, .ref uF, .ref uY, .ref uT, .ref uL, .ref uC, .ref uX, .int (oI nf), .ref uI, .ref uR, .ref uW, .ref uH, .ref uG], aR (eY E) uC 275 Co]) (by first | with_reducible rfl | (simp only [e_4, oI_s, oI_0, bI_1, bI_0, and_self, reduceIte]; done)) rfl (by first | with_reducible rfl | (simp only [oI_s, oI_0, bI_1, bI_0, and_self, reduceIte]; done) | rfl) ?_
              exact ih_q (by omega) (by intro _; assumption)
      have e_5 : (poQ Co p s (poP n Co b s p) 0) = (poP n Co b s p) := by first | with_reducible rfl | (rfl)
      refine go_eq (lv' := [(5, .int (nI 0)), (4, .int (nI p)), (3, .int (nI (poQ Co p s (poP n Co b s p) 0))), (0, .ref o7), (1, .int (nI b)), (2, .int (nI s))]) (ws' := [ob o7 7 [.int (nI n), .int (nI m), .int (nI z), .ref uP, .ref uS, .ref uQ, .ref uA, .ref uB, .int (nI c), .ref uK, .int (nI h), .int (nI ns), .ref uM, .ref uF, .ref uY, .ref uT, .ref uL, .ref uC, .ref uX, .int (oI nf), .ref uI, .ref uR, .ref uW, .ref uH, .ref uG], aR (eY E) uC 275 Co]) (by first | with_reducible rfl | (simp only [e_5, oI_s, oI_0, bI_1, bI_0, and_self, reduceIte]; done)) rfl (by first | with_reducible rfl | (simp only [oI_s, oI_0, bI_1, bI_0, and_self, reduceIte]; done) | rfl) ?_
      exact L17 0 (by omega) (by intro q; omega)
  have e_6 : (poP n Co b s 0) = 0 := by first | with_reducible rfl | (rfl)
  refine go_eq (lv' := [(4, .int (nI 0)), (3, .int (nI (poP n Co b s 0))), (0, .ref o7), (1, .int (nI b)), (2, .int (nI s))]) (ws' := [ob o7 7 [.int (nI n), .int (nI m), .int (nI z), .ref uP, .ref uS, .ref uQ, .ref uA, .ref uB, .int (nI c), .ref uK, .int (nI h), .int (nI ns), .ref uM, .ref uF, .ref uY, .ref uT, .ref uL, .ref uC, .ref uX, .int (oI nf), .ref uI, .ref uR, .ref uW, .ref uH, .ref uG], aR (eY E) uC 275 Co]) (by first | with_reducible rfl | (simp only [e_6, oI_s, oI_0, bI_1, bI_0, and_self, reduceIte]; done)) rfl (by first | with_reducible rfl | (simp only [oI_s, oI_0, bI_1, bI_0, and_self, reduceIte]; done) | rfl) ?_
  exact L5 0 (by omega)
