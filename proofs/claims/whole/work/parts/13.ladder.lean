set_option maxHeartbeats 4000000 in
set_option maxRecDepth 100000 in
theorem c_X1_start (l : Launch) (D : va_G) (cy : Nat → ClassId) (d0 : Nat) (qr : Nat) (Rw : Nat → Nat) (n0 : Nat) (lk : Nat) (lp : Nat) (qo : Nat) (qc : Nat) (sl : Bool) (s2 : Nat) (hlp : lp < 2 ^ 11) : CoV l yX1_start wsX1_start 2 42 D cy [ob d0 1 [.ref qr], aL cy qr 671 Rw, ob n0 2 [.int (nI lk), .int (nI lp), .ref qo, .ref qc, .int (bI sl), .int (oI s2)]] [.ref d0, .ref n0] [ob d0 1 [.ref qr], aL cy qr 671 (fillG Rw (lsF lp) 11), ob n0 2 [.int (nI lk), .int (nI lp), .ref qo, .ref qc, .int (bI sl), .int (oI s2)]] := by
  refine met_v (cc := cX1_start) (maxL := 3) (own := RX1) (lv := [(0, .ref d0), (1, .ref n0)]) (by decide) rfl rfl rfl (Nat.le_of_ble_eq_true rfl) (fun E e1 e2 e3 C hret => ?_)
  subst e1; subst e2; subst e3
  have iX1 : ∀ w ∈ wsX10, w ∈ wsX1_start := fun _ h => List.mem_cons_of_mem _ (List.mem_append_left _ (List.mem_append_right _ h))
  refine g_iconst (v := nI 0) C dX1_start_0 (by decide) 1 rfl ?_
  refine g_istore_n (lv' := [(2, .int (nI 0)), (0, .ref d0), (1, .ref n0)]) C dX1_start_1 rfl 2 rfl (by decide) rfl ?_
  have L2 : ∀ p, p ≤ 11 → Go E 0 0 2 [(2, .int (nI p)), (0, .ref d0), (1, .ref n0)] [] [ob d0 1 [.ref qr], aL (eY E) qr 671 (fillG Rw (lsF lp) p), ob n0 2 [.int (nI lk), .int (nI lp), .ref qo, .ref qc, .int (bI sl), .int (oI s2)]] := by
    refine go_for 11 (fun p => Go E 0 0 2 [(2, .int (nI p)), (0, .ref d0), (1, .ref n0)] [] [ob d0 1 [.ref qr], aL (eY E) qr 671 (fillG Rw (lsF lp) p), ob n0 2 [.int (nI lk), .int (nI lp), .ref qo, .ref qc, .int (bI sl), .int (oI s2)]]) (fun p hi_p ih_p => ?_)
    refine g_iload_n C dX1_start_2 rfl 3 rfl 0 rfl ?_
    refine g_bipush (v := nI 11) C dX1_start_3 (by decide) 5 rfl ?_
    refine g_icmp_ge (X := 11 ≤ p) C dX1_start_5 35 (by decide) 8 rfl (nI_leI (by omega) (by omega)) ?_ ?_
    · intro h5
      have x_p : p = 11 := by omega
      try rw [x_p]
      exact hret _ _ dX1_start_35
    · intro h5
      refine g_aload_n C dX1_start_8 rfl 9 rfl 1 rfl ?_
      refine g_get C iX1 0 rfl rfl 0 (by decide) (C.1.2.2.2.2 (.fieldLink RX1 9 "StackRuns$Ladder" "rows" "[J") (List.mem_of_getElem? (i := 1) rfl)) rfl dX1_start_9 12 rfl ?_
      refine g_iload_n C dX1_start_12 rfl 13 rfl 0 rfl ?_
      refine g_aload_n C dX1_start_13 rfl 14 rfl 2 rfl ?_
      refine g_iload_n C dX1_start_14 rfl 15 rfl 0 rfl ?_
      refine g_cVi (ws2 := [ob d0 1 [.ref qr], aL (eY E) qr 671 (fillG Rw (lsF lp) p), ob n0 2 [.int (nI lk), .int (nI lp), .ref qo, .ref qc, .int (bI sl), .int (oI s2)]]) (As := [.int (nI p)]) (st := [.int (nI p), .ref qr]) (wsc := [ob n0 2 [.int (nI lk), .int (nI lp), .ref qo, .ref qc, .int (bI sl), .int (oI s2)]]) (wr := [ob d0 1 [.ref qr], aL (eY E) qr 671 (fillG Rw (lsF lp) p)]) C (c_X2_isLast (eL E) (eD E) (eY E) n0 lk lp qo qc sl s2 p (by omega) (by omega)) 1 gX1_start_X2_isLast rfl (by decide +kernel) (by decide) ⟨Nat.zero_le _, Nat.zero_le _⟩ rfl 0 rfl rfl rfl (Nat.le_of_ble_eq_true rfl) [2] [0, 1] [0, 1, 2] rfl rfl (by decide) (by decide) rfl (by decide) dX1_start_15 18 rfl ?_
      refine g_if_eq (X := lp.testBit p = false) C dX1_start_18 25 (by decide) 21 rfl (bI_eq0 _) ?_ ?_
      · intro h18
        refine g_ldc2 (v' := (lN 9000000000000000000)) C (C.1.2.2.2.2 (.constantLong RX1 21 (9000000000000000000)) (List.mem_of_getElem? (i := 2) rfl)) (by decide) dX1_start_25 28 rfl ?_
        refine g_last (ws' := [ob d0 1 [.ref qr], aL (eY E) qr 671 (up (fillG Rw (lsF lp) p) p 9000000000000000000), ob n0 2 [.int (nI lk), .int (nI lp), .ref qo, .ref qc, .int (bI sl), .int (oI s2)]]) (i := p) C 1 rfl (by omega) (by decide) dX1_start_28 29 rfl (upd_L _ _ _) rfl ?_
        refine g_iinc (lv' := [(2, .int (nI (p + 1))), (0, .ref d0), (1, .ref n0)]) C dX1_start_29 32 rfl 0 rfl (by decide) rfl ?_
        refine g_goto C dX1_start_32 2 (by decide) ?_
        have e_1 : (fillG Rw (lsF lp) (p + 1)) = (up (fillG Rw (lsF lp) p) p 9000000000000000000) := by first | with_reducible rfl | (rw [fillG_s]; simp [lsF, h18])
        refine go_eq (lv' := [(2, .int (nI (p + 1))), (0, .ref d0), (1, .ref n0)]) (ws' := [ob d0 1 [.ref qr], aL (eY E) qr 671 (fillG Rw (lsF lp) (p + 1)), ob n0 2 [.int (nI lk), .int (nI lp), .ref qo, .ref qc, .int (bI sl), .int (oI s2)]]) (by first | with_reducible rfl | (simp only [oI_s, oI_0, bI_1, bI_0, and_self, reduceIte]; done) | rfl) rfl (by first | with_reducible rfl | (simp only [e_1, oI_s, oI_0, bI_1, bI_0, and_self, reduceIte]; done)) ?_
        exact ih_p (by omega)
      · intro h18
        have h18 : lp.testBit p = true := by simpa using h18
        refine g_lconst (v := lN 0) C dX1_start_21 (by decide) 22 rfl ?_
        refine g_goto C dX1_start_22 28 (by decide) ?_
        refine g_last (ws' := [ob d0 1 [.ref qr], aL (eY E) qr 671 (up (fillG Rw (lsF lp) p) p 0), ob n0 2 [.int (nI lk), .int (nI lp), .ref qo, .ref qc, .int (bI sl), .int (oI s2)]]) (i := p) C 1 rfl (by omega) (by decide) dX1_start_28 29 rfl (upd_L _ _ _) rfl ?_
        refine g_iinc (lv' := [(2, .int (nI (p + 1))), (0, .ref d0), (1, .ref n0)]) C dX1_start_29 32 rfl 0 rfl (by decide) rfl ?_
        refine g_goto C dX1_start_32 2 (by decide) ?_
        have e_2 : (fillG Rw (lsF lp) (p + 1)) = (up (fillG Rw (lsF lp) p) p 0) := by first | with_reducible rfl | (rw [fillG_s]; simp [lsF, h18])
        refine go_eq (lv' := [(2, .int (nI (p + 1))), (0, .ref d0), (1, .ref n0)]) (ws' := [ob d0 1 [.ref qr], aL (eY E) qr 671 (fillG Rw (lsF lp) (p + 1)), ob n0 2 [.int (nI lk), .int (nI lp), .ref qo, .ref qc, .int (bI sl), .int (oI s2)]]) (by first | with_reducible rfl | (simp only [oI_s, oI_0, bI_1, bI_0, and_self, reduceIte]; done) | rfl) rfl (by first | with_reducible rfl | (simp only [e_2, oI_s, oI_0, bI_1, bI_0, and_self, reduceIte]; done)) ?_
        exact ih_p (by omega)
  have e_3 : (fillG Rw (lsF lp) 0) = Rw := by first | with_reducible rfl | (rw [fillG_0])
  refine go_eq (lv' := [(2, .int (nI 0)), (0, .ref d0), (1, .ref n0)]) (ws' := [ob d0 1 [.ref qr], aL (eY E) qr 671 (fillG Rw (lsF lp) 0), ob n0 2 [.int (nI lk), .int (nI lp), .ref qo, .ref qc, .int (bI sl), .int (oI s2)]]) (by first | with_reducible rfl | (simp only [oI_s, oI_0, bI_1, bI_0, and_self, reduceIte]; done) | rfl) rfl (by first | with_reducible rfl | (simp only [e_3, oI_s, oI_0, bI_1, bI_0, and_self, reduceIte]; done)) ?_
  exact L2 0 (by omega)
set_option maxHeartbeats 4000000 in
set_option maxRecDepth 100000 in
theorem c_X1_across (l : Launch) (D : va_G) (cy : Nat → ClassId) (d0 : Nat) (qr : Nat) (Rw : Nat → Nat) (n0 : Nat) (lk : Nat) (lp : Nat) (qo : Nat) (qc : Nat) (sl : Bool) (s2 : Nat) (Hp : Nat → Nat) (Kc : Nat → Nat) (p : Nat) (s : Nat) (h : Nat) (hRw : okf Rw) (hHp : ∀ k, Hp k < 64) (hK : okf Kc) (hp : p < 11) (hs : s < 5) (hh : h ≤ 60) : CoL l yX1_across wsX1_across 3 67 D cy [ob d0 1 [.ref qr], aL cy qr 671 Rw, ob n0 2 [.int (nI lk), .int (nI lp), .ref qo, .ref qc, .int (bI sl), .int (oI s2)], aN cy qo 55 Hp, aL cy qc 275 Kc] [.ref d0, .ref n0, .int (nI p), .int (nI s), .int (nI h)] [ob d0 1 [.ref qr], aL cy qr 671 Rw, ob n0 2 [.int (nI lk), .int (nI lp), .ref qo, .ref qc, .int (bI sl), .int (oI s2)], aN cy qo 55 Hp, aL cy qc 275 Kc] (lN (acF Hp Kc Rw p s h 11)) := by
  refine met_l (cc := cX1_across) (maxL := 10) (own := RX1) (lv := [(0, .ref d0), (1, .ref n0), (2, .int (nI p)), (3, .int (nI s)), (4, .int (nI h))]) (by decide) rfl rfl rfl (Nat.le_of_ble_eq_true rfl) (fun E e1 e2 e3 C hret => ?_)
  subst e1; subst e2; subst e3
  have iX1 : ∀ w ∈ wsX10, w ∈ wsX1_across := fun _ h => List.mem_cons_of_mem _ (List.mem_append_left _ (List.mem_append_right _ h))
  refine g_ldc2 (v' := (lN 9000000000000000000)) C (C.1.2.2.2.2 (.constantLong RX1 21 (9000000000000000000)) (List.mem_of_getElem? (i := 1) rfl)) (by decide) dX1_across_0 3 rfl ?_
  refine g_lstore (lv' := [(5, .long (lN 9000000000000000000)), (0, .ref d0), (1, .ref n0), (2, .int (nI p)), (3, .int (nI s)), (4, .int (nI h))]) C dX1_across_3 5 rfl (by decide) rfl ?_
  refine g_iconst (v := nI 0) C dX1_across_5 (by decide) 6 rfl ?_
  refine g_istore (lv' := [(7, .int (nI 0)), (5, .long (lN 9000000000000000000)), (0, .ref d0), (1, .ref n0), (2, .int (nI p)), (3, .int (nI s)), (4, .int (nI h))]) C dX1_across_6 8 rfl (by decide) rfl ?_
  have L8 : ∀ x, x ≤ 11 → Go E 0 0 8 [(7, .int (nI x)), (5, .long (lN (acF Hp Kc Rw p s h x))), (0, .ref d0), (1, .ref n0), (2, .int (nI p)), (3, .int (nI s)), (4, .int (nI h))] [] [ob d0 1 [.ref qr], aL (eY E) qr 671 Rw, ob n0 2 [.int (nI lk), .int (nI lp), .ref qo, .ref qc, .int (bI sl), .int (oI s2)], aN (eY E) qo 55 Hp, aL (eY E) qc 275 Kc] := by
    refine go_for 11 (fun x => Go E 0 0 8 [(7, .int (nI x)), (5, .long (lN (acF Hp Kc Rw p s h x))), (0, .ref d0), (1, .ref n0), (2, .int (nI p)), (3, .int (nI s)), (4, .int (nI h))] [] [ob d0 1 [.ref qr], aL (eY E) qr 671 Rw, ob n0 2 [.int (nI lk), .int (nI lp), .ref qo, .ref qc, .int (bI sl), .int (oI s2)], aN (eY E) qo 55 Hp, aL (eY E) qc 275 Kc]) (fun x hi_x ih_x => ?_)
    have hA := acF_ok Hp Kc Rw p s h x
    have hR1 := hRw (h * 11 + x)
    have hS1 := sm_ok (thF Hp Kc p s x) (Rw (h * 11 + x))
    refine g_iload C dX1_across_8 10 rfl 0 rfl ?_
    refine g_bipush (v := nI 11) C dX1_across_10 (by decide) 12 rfl ?_
    refine g_icmp_ge (X := 11 ≤ x) C dX1_across_12 64 (by decide) 15 rfl (nI_leI (by omega) (by omega)) ?_ ?_
    · intro h12
      have x_x : x = 11 := by omega
      try rw [x_x]
      refine g_lload C dX1_across_64 66 rfl 1 rfl ?_
      exact hret _ _ dX1_across_66
    · intro h12
      refine g_aload_n C dX1_across_15 rfl 16 rfl 2 rfl ?_
      refine g_get C iX1 0 rfl rfl 0 (by decide) (C.1.2.2.2.2 (.fieldLink RX1 9 "StackRuns$Ladder" "rows" "[J") (List.mem_of_getElem? (i := 2) rfl)) rfl dX1_across_16 19 rfl ?_
      refine g_iload C dX1_across_19 21 rfl 6 rfl ?_
      refine g_bipush (v := nI 11) C dX1_across_21 (by decide) 23 rfl ?_
      refine g_imul (z := nI (h * 11)) C dX1_across_23 24 rfl (pk_mul _ _) ?_
      refine g_iload C dX1_across_24 26 rfl 0 rfl ?_
      refine g_iadd (z := nI ((h * 11) + x)) C dX1_across_26 27 rfl (nI_add _ _) ?_
      refine g_lald (i := ((h * 11) + x)) C 1 rfl (by omega) (by decide) dX1_across_27 28 rfl ?_
      refine g_lstore (lv' := [(8, .long (lN (Rw ((h * 11) + x)))), (7, .int (nI x)), (5, .long (lN (acF Hp Kc Rw p s h x))), (0, .ref d0), (1, .ref n0), (2, .int (nI p)), (3, .int (nI s)), (4, .int (nI h))]) C dX1_across_28 30 rfl (by decide) rfl ?_
      refine g_lload C dX1_across_30 32 rfl 0 rfl ?_
      refine g_lload C dX1_across_32 34 rfl 2 rfl ?_
      refine g_lcmp_ge (X := acF Hp Kc Rw p s h x ≤ Rw ((h * 11) + x)) C dX1_across_34 rfl dX1_across_35 58 (by decide) 38 rfl (pk_lLE (by omega) (by omega)) ?_ ?_
      · intro h34
        refine g_iinc (lv' := [(7, .int (nI (x + 1))), (8, .long (lN (Rw ((h * 11) + x)))), (5, .long (lN (acF Hp Kc Rw p s h x))), (0, .ref d0), (1, .ref n0), (2, .int (nI p)), (3, .int (nI s)), (4, .int (nI h))]) C dX1_across_58 61 rfl 1 rfl (by decide) rfl ?_
        refine g_goto C dX1_across_61 8 (by decide) ?_
        refine go_lv (lv' := [(7, .int (nI (x + 1))), (5, .long (lN (acF Hp Kc Rw p s h x))), (0, .ref d0), (1, .ref n0), (2, .int (nI p)), (3, .int (nI s)), (4, .int (nI h))]) [0, 2, 3, 4, 5, 6, 7] rfl ?_
        have e_1 : (acF Hp Kc Rw p s h (x + 1)) = (acF Hp Kc Rw p s h x) := by first | with_reducible rfl | (simp only [acF]; first | rw [if_pos (by omega)] | rw [if_neg (by omega)])
        refine go_eq (lv' := [(7, .int (nI (x + 1))), (5, .long (lN (acF Hp Kc Rw p s h (x + 1)))), (0, .ref d0), (1, .ref n0), (2, .int (nI p)), (3, .int (nI s)), (4, .int (nI h))]) (ws' := [ob d0 1 [.ref qr], aL (eY E) qr 671 Rw, ob n0 2 [.int (nI lk), .int (nI lp), .ref qo, .ref qc, .int (bI sl), .int (oI s2)], aN (eY E) qo 55 Hp, aL (eY E) qc 275 Kc]) (by first | with_reducible rfl | (simp only [e_1, oI_s, oI_0, bI_1, bI_0, and_self, reduceIte]; done)) rfl (by first | with_reducible rfl | (simp only [oI_s, oI_0, bI_1, bI_0, and_self, reduceIte]; done) | rfl) ?_
        exact ih_x (by omega)
      · intro h34
        refine g_lload C dX1_across_38 40 rfl 2 rfl ?_
        refine g_aload_n C dX1_across_40 rfl 41 rfl 4 rfl ?_
        refine g_iload_n C dX1_across_41 rfl 42 rfl 5 rfl ?_
        refine g_iload_n C dX1_across_42 rfl 43 rfl 6 rfl ?_
        refine g_iload C dX1_across_43 45 rfl 1 rfl ?_
        refine g_cVl (ws2 := [ob d0 1 [.ref qr], aL (eY E) qr 671 Rw, ob n0 2 [.int (nI lk), .int (nI lp), .ref qo, .ref qc, .int (bI sl), .int (oI s2)], aN (eY E) qo 55 Hp, aL (eY E) qc 275 Kc]) (As := [.int (nI p), .int (nI s), .int (nI x)]) (st := [.long (lN (acF Hp Kc Rw p s h x))]) (wsc := [ob n0 2 [.int (nI lk), .int (nI lp), .ref qo, .ref qc, .int (bI sl), .int (oI s2)], aN (eY E) qo 55 Hp, aL (eY E) qc 275 Kc]) (wr := [ob d0 1 [.ref qr], aL (eY E) qr 671 Rw]) C (c_X2_through (eL E) (eD E) (eY E) n0 lk lp qo qc sl s2 Hp Kc p s x (by assumption) (by omega) (by omega) (by omega)) 3 gX1_across_X2_through rfl (by decide +kernel) (by decide) ⟨Nat.zero_le _, Nat.zero_le _⟩ rfl 0 rfl rfl rfl (Nat.le_of_ble_eq_true rfl) [2, 3, 4] [0, 1] [0, 1, 2, 3, 4] rfl rfl (by decide) (by decide) rfl (by decide) dX1_across_45 48 rfl ?_
        refine g_lload C dX1_across_48 50 rfl 0 rfl ?_
        refine g_cSNl (ws2 := [ob d0 1 [.ref qr], aL (eY E) qr 671 Rw, ob n0 2 [.int (nI lk), .int (nI lp), .ref qo, .ref qc, .int (bI sl), .int (oI s2)], aN (eY E) qo 55 Hp, aL (eY E) qc 275 Kc]) (As := [.long (lN (thF Hp Kc p s x)), .long (lN (Rw ((h * 11) + x)))]) (st := [.long (lN (acF Hp Kc Rw p s h x))]) (wsc := []) (wr := [ob d0 1 [.ref qr], aL (eY E) qr 671 Rw, ob n0 2 [.int (nI lk), .int (nI lp), .ref qo, .ref qc, .int (bI sl), .int (oI s2)], aN (eY E) qo 55 Hp, aL (eY E) qc 275 Kc]) C (c_X6_sum (eL E) (eD E) (eY E) (thF Hp Kc p s x) (Rw ((h * 11) + x)) (by exact thF_ok hK _ _ _) (by exact hR1)) 2 ggX1_across_X6_sum (nm_RX1_41 C.2.2.1) (List.mem_of_getElem? (i := 15) rfl) (List.mem_of_getElem? (i := 24) rfl) rfl (by decide +kernel) (by decide) ⟨Nat.zero_le _, Nat.zero_le _⟩ rfl rfl (Nat.le_of_ble_eq_true rfl) [] [0, 1, 2, 3, 4] [0, 1, 2, 3, 4] rfl rfl (by decide) (by decide) rfl (by decide) dX1_across_50 53 rfl ?_
        refine g_minL C (List.mem_of_getElem? (i := 3) rfl) (List.mem_of_getElem? (i := 4) rfl) (List.mem_of_getElem? (i := 5) rfl) (List.mem_of_getElem? (i := 6) rfl) (by decide) (Nat.le_of_ble_eq_true rfl) ⟨Nat.zero_le _, Nat.zero_le _⟩ (by omega) (by omega) dX1_across_53 56 rfl ?_
        refine g_lstore (lv' := [(5, .long (lN (min (acF Hp Kc Rw p s h x) (sm (thF Hp Kc p s x) (Rw ((h * 11) + x)))))), (8, .long (lN (Rw ((h * 11) + x)))), (7, .int (nI x)), (0, .ref d0), (1, .ref n0), (2, .int (nI p)), (3, .int (nI s)), (4, .int (nI h))]) C dX1_across_56 58 rfl (by decide) rfl ?_
        refine g_iinc (lv' := [(7, .int (nI (x + 1))), (5, .long (lN (min (acF Hp Kc Rw p s h x) (sm (thF Hp Kc p s x) (Rw ((h * 11) + x)))))), (8, .long (lN (Rw ((h * 11) + x)))), (0, .ref d0), (1, .ref n0), (2, .int (nI p)), (3, .int (nI s)), (4, .int (nI h))]) C dX1_across_58 61 rfl 2 rfl (by decide) rfl ?_
        refine g_goto C dX1_across_61 8 (by decide) ?_
        refine go_lv (lv' := [(7, .int (nI (x + 1))), (5, .long (lN (min (acF Hp Kc Rw p s h x) (sm (thF Hp Kc p s x) (Rw ((h * 11) + x)))))), (0, .ref d0), (1, .ref n0), (2, .int (nI p)), (3, .int (nI s)), (4, .int (nI h))]) [0, 1, 3, 4, 5, 6, 7] rfl ?_
        have e_2 : (acF Hp Kc Rw p s h (x + 1)) = (min (acF Hp Kc Rw p s h x) (sm (thF Hp Kc p s x) (Rw ((h * 11) + x)))) := by first | with_reducible rfl | (simp only [acF]; first | rw [if_pos (by omega)] | rw [if_neg (by omega)])
        refine go_eq (lv' := [(7, .int (nI (x + 1))), (5, .long (lN (acF Hp Kc Rw p s h (x + 1)))), (0, .ref d0), (1, .ref n0), (2, .int (nI p)), (3, .int (nI s)), (4, .int (nI h))]) (ws' := [ob d0 1 [.ref qr], aL (eY E) qr 671 Rw, ob n0 2 [.int (nI lk), .int (nI lp), .ref qo, .ref qc, .int (bI sl), .int (oI s2)], aN (eY E) qo 55 Hp, aL (eY E) qc 275 Kc]) (by first | with_reducible rfl | (simp only [e_2, oI_s, oI_0, bI_1, bI_0, and_self, reduceIte]; done)) rfl (by first | with_reducible rfl | (simp only [oI_s, oI_0, bI_1, bI_0, and_self, reduceIte]; done) | rfl) ?_
        exact ih_x (by omega)
  have e_3 : (acF Hp Kc Rw p s h 0) = 9000000000000000000 := by first | with_reducible rfl | (rfl)
  refine go_eq (lv' := [(7, .int (nI 0)), (5, .long (lN (acF Hp Kc Rw p s h 0))), (0, .ref d0), (1, .ref n0), (2, .int (nI p)), (3, .int (nI s)), (4, .int (nI h))]) (ws' := [ob d0 1 [.ref qr], aL (eY E) qr 671 Rw, ob n0 2 [.int (nI lk), .int (nI lp), .ref qo, .ref qc, .int (bI sl), .int (oI s2)], aN (eY E) qo 55 Hp, aL (eY E) qc 275 Kc]) (by first | with_reducible rfl | (simp only [e_3, oI_s, oI_0, bI_1, bI_0, and_self, reduceIte]; done)) rfl (by first | with_reducible rfl | (simp only [oI_s, oI_0, bI_1, bI_0, and_self, reduceIte]; done) | rfl) ?_
  exact L8 0 (by omega)
set_option maxHeartbeats 4000000 in
set_option maxRecDepth 100000 in
theorem c_X1_build (l : Launch) (D : va_G) (cy : Nat → ClassId) (d0 : Nat) (qr : Nat) (Rw : Nat → Nat) (n0 : Nat) (lk : Nat) (lp : Nat) (qo : Nat) (qc : Nat) (sl : Bool) (s2 : Nat) (Hp : Nat → Nat) (Kc : Nat → Nat) (g0 : Nat) (c : Nat) (h : Nat) (qs : Nat) (Sg : Nat → Nat) (kp : Nat) (hRw : okf Rw) (hHp : ∀ k, Hp k < 64) (hK : okf Kc) (hh : h ≤ 60) (hkp : kp ≤ h) (hS : ∀ i, Sg i < 5) : CoV l yX1_build wsX1_build 4 96 D cy [ob d0 1 [.ref qr], aL cy qr 671 Rw, ob n0 2 [.int (nI lk), .int (nI lp), .ref qo, .ref qc, .int (bI sl), .int (oI s2)], aN cy qo 55 Hp, aL cy qc 275 Kc, ob g0 5 [.int (nI c), .int (nI h), .ref qs], aN cy qs 60 Sg] [.ref d0, .ref n0, .ref g0, .int (nI kp)] [ob d0 1 [.ref qr], aL cy qr 671 (bdF Hp Kc Sg Rw kp (h - kp)), ob n0 2 [.int (nI lk), .int (nI lp), .ref qo, .ref qc, .int (bI sl), .int (oI s2)], aN cy qo 55 Hp, aL cy qc 275 Kc, ob g0 5 [.int (nI c), .int (nI h), .ref qs], aN cy qs 60 Sg] := by
  refine met_v (cc := cX1_build) (maxL := 6) (own := RX1) (lv := [(0, .ref d0), (1, .ref n0), (2, .ref g0), (3, .int (nI kp))]) (by decide) rfl rfl rfl (Nat.le_of_ble_eq_true rfl) (fun E e1 e2 e3 C hret => ?_)
  subst e1; subst e2; subst e3
  have iX1 : ∀ w ∈ wsX10, w ∈ wsX1_build := fun _ h => List.mem_cons_of_mem _ (List.mem_append_left _ (List.mem_append_right _ h))
  have iX5 : ∀ w ∈ wsX50, w ∈ wsX1_build := fun _ h => List.mem_cons_of_mem _ (List.mem_append_left _ (List.mem_append_left _ (List.mem_append_right _ h)))
  refine g_iload_n C dX1_build_0 rfl 1 rfl 3 rfl ?_
  refine g_istore (lv' := [(4, .int (nI kp)), (0, .ref d0), (1, .ref n0), (2, .ref g0), (3, .int (nI kp))]) C dX1_build_1 3 rfl (by decide) rfl ?_
  have L3 : ∀ d, d ≤ h - kp → Go E 0 0 3 [(4, .int (nI (kp + d))), (0, .ref d0), (1, .ref n0), (2, .ref g0), (3, .int (nI kp))] [] [ob d0 1 [.ref qr], aL (eY E) qr 671 (bdF Hp Kc Sg Rw kp d), ob n0 2 [.int (nI lk), .int (nI lp), .ref qo, .ref qc, .int (bI sl), .int (oI s2)], aN (eY E) qo 55 Hp, aL (eY E) qc 275 Kc, ob g0 5 [.int (nI c), .int (nI h), .ref qs], aN (eY E) qs 60 Sg] := by
    refine go_for (h - kp) (fun d => Go E 0 0 3 [(4, .int (nI (kp + d))), (0, .ref d0), (1, .ref n0), (2, .ref g0), (3, .int (nI kp))] [] [ob d0 1 [.ref qr], aL (eY E) qr 671 (bdF Hp Kc Sg Rw kp d), ob n0 2 [.int (nI lk), .int (nI lp), .ref qo, .ref qc, .int (bI sl), .int (oI s2)], aN (eY E) qo 55 Hp, aL (eY E) qc 275 Kc, ob g0 5 [.int (nI c), .int (nI h), .ref qs], aN (eY E) qs 60 Sg]) (fun d hi_d ih_d => ?_)
    have hX := bdF_ok (Hp := Hp) (Kc := Kc) (Sg := Sg) hRw kp d
    have hS1 := hS (kp + d)
    refine g_iload C dX1_build_3 5 rfl 0 rfl ?_
    refine g_aload_n C dX1_build_5 rfl 6 rfl 3 rfl ?_
    refine g_getN C iX5 5 rfl rfl 1 (by decide) (nf_RX1_23 C.2.2.1 _) rfl dX1_build_6 9 rfl ?_
    refine g_icmp_ge (X := h ≤ kp + d) C dX1_build_9 65 (by decide) 12 rfl (nI_leI (by omega) (by omega)) ?_ ?_
    · intro h9
      have x_d : d = h - kp := by omega
      try rw [x_d]
      exact hret _ _ dX1_build_65
    · intro h9
      refine g_iconst (v := nI 0) C dX1_build_12 (by decide) 13 rfl ?_
      refine g_istore (lv' := [(5, .int (nI 0)), (4, .int (nI (kp + d))), (0, .ref d0), (1, .ref n0), (2, .ref g0), (3, .int (nI kp))]) C dX1_build_13 15 rfl (by decide) rfl ?_
      have L15 : ∀ x, x ≤ 11 → Go E 0 0 15 [(5, .int (nI x)), (4, .int (nI (kp + d))), (0, .ref d0), (1, .ref n0), (2, .ref g0), (3, .int (nI kp))] [] [ob d0 1 [.ref qr], aL (eY E) qr 671 (bdP Hp Kc Sg (bdF Hp Kc Sg Rw kp d) (kp + d) x), ob n0 2 [.int (nI lk), .int (nI lp), .ref qo, .ref qc, .int (bI sl), .int (oI s2)], aN (eY E) qo 55 Hp, aL (eY E) qc 275 Kc, ob g0 5 [.int (nI c), .int (nI h), .ref qs], aN (eY E) qs 60 Sg] := by
        refine go_for 11 (fun x => Go E 0 0 15 [(5, .int (nI x)), (4, .int (nI (kp + d))), (0, .ref d0), (1, .ref n0), (2, .ref g0), (3, .int (nI kp))] [] [ob d0 1 [.ref qr], aL (eY E) qr 671 (bdP Hp Kc Sg (bdF Hp Kc Sg Rw kp d) (kp + d) x), ob n0 2 [.int (nI lk), .int (nI lp), .ref qo, .ref qc, .int (bI sl), .int (oI s2)], aN (eY E) qo 55 Hp, aL (eY E) qc 275 Kc, ob g0 5 [.int (nI c), .int (nI h), .ref qs], aN (eY E) qs 60 Sg]) (fun x hi_x ih_x => ?_)
        have hY := bdP_ok (Hp := Hp) (Kc := Kc) (Sg := Sg) hX (kp + d) x
        refine g_iload C dX1_build_15 17 rfl 0 rfl ?_
        refine g_bipush (v := nI 11) C dX1_build_17 (by decide) 19 rfl ?_
        refine g_icmp_ge (X := 11 ≤ x) C dX1_build_19 59 (by decide) 22 rfl (nI_leI (by omega) (by omega)) ?_ ?_
        · intro h19
          have x_x : x = 11 := by omega
          try rw [x_x]
          refine g_iinc (lv' := [(4, .int (nI ((kp + d) + 1))), (5, .int (nI 11)), (0, .ref d0), (1, .ref n0), (2, .ref g0), (3, .int (nI kp))]) C dX1_build_59 62 rfl 1 rfl (by decide) rfl ?_
          refine g_goto C dX1_build_62 3 (by decide) ?_
          refine go_lv (lv' := [(4, .int (nI ((kp + d) + 1))), (0, .ref d0), (1, .ref n0), (2, .ref g0), (3, .int (nI kp))]) [0, 2, 3, 4, 5] rfl ?_
          have e_1 : (kp + (d + 1)) = ((kp + d) + 1) := by first | with_reducible rfl | (first | rfl | (simp only [bdF]))
          have e_2 : (bdF Hp Kc Sg Rw kp (d + 1)) = (bdP Hp Kc Sg (bdF Hp Kc Sg Rw kp d) (kp + d) 11) := by first | with_reducible rfl | (first | rfl | (simp only [bdF]))
          refine go_eq (lv' := [(4, .int (nI (kp + (d + 1)))), (0, .ref d0), (1, .ref n0), (2, .ref g0), (3, .int (nI kp))]) (ws' := [ob d0 1 [.ref qr], aL (eY E) qr 671 (bdF Hp Kc Sg Rw kp (d + 1)), ob n0 2 [.int (nI lk), .int (nI lp), .ref qo, .ref qc, .int (bI sl), .int (oI s2)], aN (eY E) qo 55 Hp, aL (eY E) qc 275 Kc, ob g0 5 [.int (nI c), .int (nI h), .ref qs], aN (eY E) qs 60 Sg]) (by first | with_reducible rfl | (simp only [e_1, oI_s, oI_0, bI_1, bI_0, and_self, reduceIte]; done)) rfl (by first | with_reducible rfl | (simp only [e_2, oI_s, oI_0, bI_1, bI_0, and_self, reduceIte]; done)) ?_
          exact ih_d (by omega)
        · intro h19
          refine g_aload_n C dX1_build_22 rfl 23 rfl 2 rfl ?_
          refine g_get C iX1 0 rfl rfl 0 (by decide) (C.1.2.2.2.2 (.fieldLink RX1 9 "StackRuns$Ladder" "rows" "[J") (List.mem_of_getElem? (i := 1) rfl)) rfl dX1_build_23 26 rfl ?_
          refine g_iload C dX1_build_26 28 rfl 1 rfl ?_
          refine g_iconst (v := nI 1) C dX1_build_28 (by decide) 29 rfl ?_
          refine g_iadd (z := nI ((kp + d) + 1)) C dX1_build_29 30 rfl (nI_add _ _) ?_
          refine g_bipush (v := nI 11) C dX1_build_30 (by decide) 32 rfl ?_
          refine g_imul (z := nI (((kp + d) + 1) * 11)) C dX1_build_32 33 rfl (pk_mul _ _) ?_
          refine g_iload C dX1_build_33 35 rfl 0 rfl ?_
          refine g_iadd (z := nI ((((kp + d) + 1) * 11) + x)) C dX1_build_35 36 rfl (nI_add _ _) ?_
          refine g_aload_n C dX1_build_36 rfl 37 rfl 2 rfl ?_
          refine g_aload_n C dX1_build_37 rfl 38 rfl 3 rfl ?_
          refine g_iload C dX1_build_38 40 rfl 0 rfl ?_
          refine g_aload_n C dX1_build_40 rfl 41 rfl 4 rfl ?_
          refine g_getN C iX5 5 rfl rfl 2 (by decide) (nf_RX1_29 C.2.2.1 _) rfl dX1_build_41 44 rfl ?_
          refine g_iload C dX1_build_44 46 rfl 1 rfl ?_
          refine g_iald (i := (kp + d)) C 6 rfl (by omega) (by decide) dX1_build_46 47 rfl ?_
          refine g_iload C dX1_build_47 49 rfl 1 rfl ?_
          refine g_cVl (ws2 := [ob d0 1 [.ref qr], aL (eY E) qr 671 (bdP Hp Kc Sg (bdF Hp Kc Sg Rw kp d) (kp + d) x), ob n0 2 [.int (nI lk), .int (nI lp), .ref qo, .ref qc, .int (bI sl), .int (oI s2)], aN (eY E) qo 55 Hp, aL (eY E) qc 275 Kc, ob g0 5 [.int (nI c), .int (nI h), .ref qs], aN (eY E) qs 60 Sg]) (As := [.ref n0, .int (nI x), .int (nI (Sg (kp + d))), .int (nI (kp + d))]) (st := [.int (nI ((((kp + d) + 1) * 11) + x)), .ref qr]) (wsc := [ob d0 1 [.ref qr], aL (eY E) qr 671 (bdP Hp Kc Sg (bdF Hp Kc Sg Rw kp d) (kp + d) x), ob n0 2 [.int (nI lk), .int (nI lp), .ref qo, .ref qc, .int (bI sl), .int (oI s2)], aN (eY E) qo 55 Hp, aL (eY E) qc 275 Kc]) (wr := [ob g0 5 [.int (nI c), .int (nI h), .ref qs], aN (eY E) qs 60 Sg]) C (c_X1_across (eL E) (eD E) (eY E) d0 qr (bdP Hp Kc Sg (bdF Hp Kc Sg Rw kp d) (kp + d) x) n0 lk lp qo qc sl s2 Hp Kc x (Sg (kp + d)) (kp + d) (by first | assumption | exact bdP_ok (by assumption) _ _ | exact bdF_ok (by assumption) _ _) (by assumption) (by first | assumption | exact nrC_ok (by assumption) _ _ _ _ _ | exact nbC_ok (by assumption) _ _ _ _ | exact ndC_ok (by assumption) _ | exact niC_ok (by assumption) _) (by omega) (by omega) (by omega)) 4 gX1_build_X1_across rfl (by decide +kernel) (by decide) ⟨Nat.zero_le _, Nat.zero_le _⟩ rfl 0 rfl rfl rfl (Nat.le_of_ble_eq_true rfl) [0, 1, 2, 3, 4] [5, 6] [2, 3, 4, 5, 6, 0, 1] rfl rfl (by decide) (by decide) rfl (by decide) dX1_build_49 52 rfl ?_
          refine g_last (ws' := [ob d0 1 [.ref qr], aL (eY E) qr 671 (up (bdP Hp Kc Sg (bdF Hp Kc Sg Rw kp d) (kp + d) x) ((((kp + d) + 1) * 11) + x) (acF Hp Kc (bdP Hp Kc Sg (bdF Hp Kc Sg Rw kp d) (kp + d) x) x (Sg (kp + d)) (kp + d) 11)), ob n0 2 [.int (nI lk), .int (nI lp), .ref qo, .ref qc, .int (bI sl), .int (oI s2)], aN (eY E) qo 55 Hp, aL (eY E) qc 275 Kc, ob g0 5 [.int (nI c), .int (nI h), .ref qs], aN (eY E) qs 60 Sg]) (i := ((((kp + d) + 1) * 11) + x)) C 1 rfl (by omega) (by decide) dX1_build_52 53 rfl (upd_L _ _ _) rfl ?_
          refine g_iinc (lv' := [(5, .int (nI (x + 1))), (4, .int (nI (kp + d))), (0, .ref d0), (1, .ref n0), (2, .ref g0), (3, .int (nI kp))]) C dX1_build_53 56 rfl 0 rfl (by decide) rfl ?_
          refine g_goto C dX1_build_56 15 (by decide) ?_
          have e_3 : (bdP Hp Kc Sg (bdF Hp Kc Sg Rw kp d) (kp + d) (x + 1)) = (up (bdP Hp Kc Sg (bdF Hp Kc Sg Rw kp d) (kp + d) x) ((((kp + d) + 1) * 11) + x) (acF Hp Kc (bdP Hp Kc Sg (bdF Hp Kc Sg Rw kp d) (kp + d) x) x (Sg (kp + d)) (kp + d) 11)) := by first | with_reducible rfl | (first | rfl | (simp only [bdP]))
          refine go_eq (lv' := [(5, .int (nI (x + 1))), (4, .int (nI (kp + d))), (0, .ref d0), (1, .ref n0), (2, .ref g0), (3, .int (nI kp))]) (ws' := [ob d0 1 [.ref qr], aL (eY E) qr 671 (bdP Hp Kc Sg (bdF Hp Kc Sg Rw kp d) (kp + d) (x + 1)), ob n0 2 [.int (nI lk), .int (nI lp), .ref qo, .ref qc, .int (bI sl), .int (oI s2)], aN (eY E) qo 55 Hp, aL (eY E) qc 275 Kc, ob g0 5 [.int (nI c), .int (nI h), .ref qs], aN (eY E) qs 60 Sg]) (by first | with_reducible rfl | (simp only [oI_s, oI_0, bI_1, bI_0, and_self, reduceIte]; done) | rfl) rfl (by first | with_reducible rfl | (simp only [e_3, oI_s, oI_0, bI_1, bI_0, and_self, reduceIte]; done)) ?_
          exact ih_x (by omega)
      have e_4 : (bdP Hp Kc Sg (bdF Hp Kc Sg Rw kp d) (kp + d) 0) = (bdF Hp Kc Sg Rw kp d) := by first | with_reducible rfl | (rfl)
      refine go_eq (lv' := [(5, .int (nI 0)), (4, .int (nI (kp + d))), (0, .ref d0), (1, .ref n0), (2, .ref g0), (3, .int (nI kp))]) (ws' := [ob d0 1 [.ref qr], aL (eY E) qr 671 (bdP Hp Kc Sg (bdF Hp Kc Sg Rw kp d) (kp + d) 0), ob n0 2 [.int (nI lk), .int (nI lp), .ref qo, .ref qc, .int (bI sl), .int (oI s2)], aN (eY E) qo 55 Hp, aL (eY E) qc 275 Kc, ob g0 5 [.int (nI c), .int (nI h), .ref qs], aN (eY E) qs 60 Sg]) (by first | with_reducible rfl | (simp only [oI_s, oI_0, bI_1, bI_0, and_self, reduceIte]; done) | rfl) rfl (by first | with_reducible rfl | (simp only [e_4, oI_s, oI_0, bI_1, bI_0, and_self, reduceIte]; done)) ?_
      exact L15 0 (by omega)
  have e_5 : (kp + 0) = kp := by first | with_reducible rfl | (rfl)
  have e_6 : (bdF Hp Kc Sg Rw kp 0) = Rw := by first | with_reducible rfl | (rfl)
  refine go_eq (lv' := [(4, .int (nI (kp + 0))), (0, .ref d0), (1, .ref n0), (2, .ref g0), (3, .int (nI kp))]) (ws' := [ob d0 1 [.ref qr], aL (eY E) qr 671 (bdF Hp Kc Sg Rw kp 0), ob n0 2 [.int (nI lk), .int (nI lp), .ref qo, .ref qc, .int (bI sl), .int (oI s2)], aN (eY E) qo 55 Hp, aL (eY E) qc 275 Kc, ob g0 5 [.int (nI c), .int (nI h), .ref qs], aN (eY E) qs 60 Sg]) (by first | with_reducible rfl | (simp only [e_5, oI_s, oI_0, bI_1, bI_0, and_self, reduceIte]; done)) rfl (by first | with_reducible rfl | (simp only [e_6, oI_s, oI_0, bI_1, bI_0, and_self, reduceIte]; done)) ?_
  exact L3 0 (by omega)
set_option maxHeartbeats 4000000 in
set_option maxRecDepth 100000 in
theorem c_X1_after (l : Launch) (D : va_G) (cy : Nat → ClassId) (d0 : Nat) (qr : Nat) (Rw : Nat → Nat) (n0 : Nat) (lk : Nat) (lp : Nat) (qo : Nat) (qc : Nat) (sl : Bool) (s2 : Nat) (Hp : Nat → Nat) (Kc : Nat → Nat) (h0 : Nat) (n : Nat) (m : Nat) (z : Nat) (st : Nat) (qh : Nat) (qt : Nat) (qp : Nat) (qb : Nat) (To : Nat → Nat) (Tp : Nat → Nat) (Bl : Nat → Nat) (r : Nat) (h : Nat) (hRw : okf Rw) (hHp : ∀ k, Hp k < 64) (hK : okf Kc) (hR : ∀ r, To r < 5 ∧ Tp r ≤ 5 ∧ Bl r ≤ 5) (hr : r < 30) (hh : h ≤ 60) : CoL l yX1_after wsX1_after 4 96 D cy [ob d0 1 [.ref qr], aL cy qr 671 Rw, ob n0 2 [.int (nI lk), .int (nI lp), .ref qo, .ref qc, .int (bI sl), .int (oI s2)], aN cy qo 55 Hp, aL cy qc 275 Kc, ob h0 4 [.int (nI n), .int (nI m), .int (nI z), .int (nI st), .ref qh, .ref qt, .ref qp, .ref qb], aN cy qt 30 To, aO cy qp 30 Tp, aO cy qb 30 Bl] [.ref d0, .ref n0, .ref h0, .int (nI r), .int (nI h)] [ob d0 1 [.ref qr], aL cy qr 671 Rw, ob n0 2 [.int (nI lk), .int (nI lp), .ref qo, .ref qc, .int (bI sl), .int (oI s2)], aN cy qo 55 Hp, aL cy qc 275 Kc, ob h0 4 [.int (nI n), .int (nI m), .int (nI z), .int (nI st), .ref qh, .ref qt, .ref qp, .ref qb], aN cy qt 30 To, aO cy qp 30 Tp, aO cy qb 30 Bl] (lN (afF Hp Kc Rw To Tp Bl r h)) := by
  refine met_l (cc := cX1_after) (maxL := 11) (own := RX1) (lv := [(0, .ref d0), (1, .ref n0), (2, .ref h0), (3, .int (nI r)), (4, .int (nI h))]) (by decide) rfl rfl rfl (Nat.le_of_ble_eq_true rfl) (fun E e1 e2 e3 C hret => ?_)
  subst e1; subst e2; subst e3
  have iX1 : ∀ w ∈ wsX10, w ∈ wsX1_after := fun _ h => List.mem_cons_of_mem _ (List.mem_append_left _ (List.mem_append_right _ h))
  have iX4 : ∀ w ∈ wsX40, w ∈ wsX1_after := fun _ h => List.mem_cons_of_mem _ (List.mem_append_left _ (List.mem_append_left _ (List.mem_append_right _ h)))
  have hR1 := hR r
  refine g_aload_n C dX1_after_0 rfl 1 rfl 2 rfl ?_
  refine g_getN C iX4 5 rfl rfl 5 (by decide) (nf_RX1_50 C.2.2.1 _) rfl dX1_after_1 4 rfl ?_
  refine g_iload_n C dX1_after_4 rfl 5 rfl 3 rfl ?_
  refine g_iald (i := r) C 6 rfl (by omega) (by decide) dX1_after_5 6 rfl ?_
  refine g_istore (lv' := [(5, .int (nI (To r))), (0, .ref d0), (1, .ref n0), (2, .ref h0), (3, .int (nI r)), (4, .int (nI h))]) C dX1_after_6 8 rfl (by decide) rfl ?_
  refine g_aload_n C dX1_after_8 rfl 9 rfl 3 rfl ?_
  refine g_getN C iX4 5 rfl rfl 6 (by decide) (nf_RX1_55 C.2.2.1 _) rfl dX1_after_9 12 rfl ?_
  refine g_iload_n C dX1_after_12 rfl 13 rfl 4 rfl ?_
  refine g_iald (i := r) C 7 rfl (by omega) (by decide) dX1_after_13 14 rfl ?_
  refine g_iconst (v := (-1)) C dX1_after_14 (by decide) 15 rfl ?_
  refine g_icmp_ne (X := ¬ Tp r = 0) C dX1_after_15 32 (by decide) 18 rfl (not_congr (oI_eq (by omega))) ?_ ?_
  · intro h15
    refine g_aload_n C dX1_after_32 rfl 33 rfl 3 rfl ?_
    refine g_getN C iX4 5 rfl rfl 7 (by decide) (nf_RX1_58 C.2.2.1 _) rfl dX1_after_33 36 rfl ?_
    refine g_iload_n C dX1_after_36 rfl 37 rfl 4 rfl ?_
    refine g_iald (i := r) C 8 rfl (by omega) (by decide) dX1_after_37 38 rfl ?_
    refine g_iconst (v := (-1)) C dX1_after_38 (by decide) 39 rfl ?_
    refine g_icmp_ne (X := ¬ Bl r = 0) C dX1_after_39 58 (by decide) 42 rfl (not_congr (oI_eq (by omega))) ?_ ?_
    · intro h39
      refine g_ldc2 (v' := (lN 9000000000000000000)) C (C.1.2.2.2.2 (.constantLong RX1 21 (9000000000000000000)) (List.mem_of_getElem? (i := 2) rfl)) (by decide) dX1_after_58 61 rfl ?_
      refine g_lstore (lv' := [(6, .long (lN 9000000000000000000)), (5, .int (nI (To r))), (0, .ref d0), (1, .ref n0), (2, .ref h0), (3, .int (nI r)), (4, .int (nI h))]) C dX1_after_61 63 rfl (by decide) rfl ?_
      refine g_iconst (v := nI 0) C dX1_after_63 (by decide) 64 rfl ?_
      refine g_istore (lv' := [(8, .int (nI 0)), (6, .long (lN 9000000000000000000)), (5, .int (nI (To r))), (0, .ref d0), (1, .ref n0), (2, .ref h0), (3, .int (nI r)), (4, .int (nI h))]) C dX1_after_64 66 rfl (by decide) rfl ?_
      have L66 : ∀ x, x ≤ 11 → Go E 0 0 66 [(8, .int (nI x)), (6, .long (lN (afP Hp Kc Rw (To r) ((Tp r) - 1) ((Bl r) - 1) h x))), (5, .int (nI (To r))), (0, .ref d0), (1, .ref n0), (2, .ref h0), (3, .int (nI r)), (4, .int (nI h))] [] [ob d0 1 [.ref qr], aL (eY E) qr 671 Rw, ob n0 2 [.int (nI lk), .int (nI lp), .ref qo, .ref qc, .int (bI sl), .int (oI s2)], aN (eY E) qo 55 Hp, aL (eY E) qc 275 Kc, ob h0 4 [.int (nI n), .int (nI m), .int (nI z), .int (nI st), .ref qh, .ref qt, .ref qp, .ref qb], aN (eY E) qt 30 To, aO (eY E) qp 30 Tp, aO (eY E) qb 30 Bl] := by
        refine go_for 11 (fun x => Go E 0 0 66 [(8, .int (nI x)), (6, .long (lN (afP Hp Kc Rw (To r) ((Tp r) - 1) ((Bl r) - 1) h x))), (5, .int (nI (To r))), (0, .ref d0), (1, .ref n0), (2, .ref h0), (3, .int (nI r)), (4, .int (nI h))] [] [ob d0 1 [.ref qr], aL (eY E) qr 671 Rw, ob n0 2 [.int (nI lk), .int (nI lp), .ref qo, .ref qc, .int (bI sl), .int (oI s2)], aN (eY E) qo 55 Hp, aL (eY E) qc 275 Kc, ob h0 4 [.int (nI n), .int (nI m), .int (nI z), .int (nI st), .ref qh, .ref qt, .ref qp, .ref qb], aN (eY E) qt 30 To, aO (eY E) qp 30 Tp, aO (eY E) qb 30 Bl]) (fun x hi_x ih_x => ?_)
        have hA := afP_ok Hp Kc Rw (To r) ((Tp r) - 1) ((Bl r) - 1) h x
        have hT1 := thF_ok (Hp := Hp) hK (To r) ((Tp r) - 1) x
        have hS1 := sm_ok (thF Hp Kc (To r) ((Tp r) - 1) x) (acF Hp Kc Rw x ((Bl r) - 1) h 11)
        refine g_iload C dX1_after_66 68 rfl 0 rfl ?_
        refine g_bipush (v := nI 11) C dX1_after_68 (by decide) 70 rfl ?_
        refine g_icmp_ge (X := 11 ≤ x) C dX1_after_70 130 (by decide) 73 rfl (nI_leI (by omega) (by omega)) ?_ ?_
        · intro h70
          have x_x : x = 11 := by omega
          try rw [x_x]
          refine g_lload C dX1_after_130 132 rfl 1 rfl ?_
          have e_1 : (afF Hp Kc Rw To Tp Bl r h) = (afP Hp Kc Rw (To r) ((Tp r) - 1) ((Bl r) - 1) h 11) := by first | with_reducible rfl | (simp only [afF]; repeat (first | rw [if_pos (by assumption)] | rw [if_neg (by assumption)]))
          refine go_eq rfl (st' := [.long (lN (afF Hp Kc Rw To Tp Bl r h))]) (ws' := [ob d0 1 [.ref qr], aL (eY E) qr 671 Rw, ob n0 2 [.int (nI lk), .int (nI lp), .ref qo, .ref qc, .int (bI sl), .int (oI s2)], aN (eY E) qo 55 Hp, aL (eY E) qc 275 Kc, ob h0 4 [.int (nI n), .int (nI m), .int (nI z), .int (nI st), .ref qh, .ref qt, .ref qp, .ref qb], aN (eY E) qt 30 To, aO (eY E) qp 30 Tp, aO (eY E) qb 30 Bl]) (by first | with_reducible rfl | (simp only [e_1, oI_s, oI_0, bI_1, bI_0, and_self, reduceIte]; done)) (by first | with_reducible rfl | (simp only [e_1, oI_s, oI_0, bI_1, bI_0, and_self, reduceIte]; done)) ?_
          exact hret _ _ dX1_after_132
        · intro h70
          refine g_aload_n C dX1_after_73 rfl 74 rfl 4 rfl ?_
          refine g_iload C dX1_after_74 76 rfl 2 rfl ?_
          refine g_aload_n C dX1_after_76 rfl 77 rfl 5 rfl ?_
          refine g_getN C iX4 5 rfl rfl 6 (by decide) (nf_RX1_55 C.2.2.1 _) rfl dX1_after_77 80 rfl ?_
          refine g_iload_n C dX1_after_80 rfl 81 rfl 6 rfl ?_
          refine g_iald (i := r) C 7 rfl (by omega) (by decide) dX1_after_81 82 rfl ?_
          refine g_iload C dX1_after_82 84 rfl 0 rfl ?_
          refine go_eq rfl (st' := [.int (nI x), .int (nI ((Tp r) - 1)), .int (nI (To r)), .ref n0]) (ws' := [ob d0 1 [.ref qr], aL (eY E) qr 671 Rw, ob n0 2 [.int (nI lk), .int (nI lp), .ref qo, .ref qc, .int (bI sl), .int (oI s2)], aN (eY E) qo 55 Hp, aL (eY E) qc 275 Kc, ob h0 4 [.int (nI n), .int (nI m), .int (nI z), .int (nI st), .ref qh, .ref qt, .ref qp, .ref qb], aN (eY E) qt 30 To, aO (eY E) qp 30 Tp, aO (eY E) qb 30 Bl]) (by rw [oI_pos (a := (Tp r)) (by omega)]) (by rfl) ?_
          refine g_cVl (ws2 := [ob d0 1 [.ref qr], aL (eY E) qr 671 Rw, ob n0 2 [.int (nI lk), .int (nI lp), .ref qo, .ref qc, .int (bI sl), .int (oI s2)], aN (eY E) qo 55 Hp, aL (eY E) qc 275 Kc, ob h0 4 [.int (nI n), .int (nI m), .int (nI z), .int (nI st), .ref qh, .ref qt, .ref qp, .ref qb], aN (eY E) qt 30 To, aO (eY E) qp 30 Tp, aO (eY E) qb 30 Bl]) (As := [.int (nI (To r)), .int (nI ((Tp r) - 1)), .int (nI x)]) (st := []) (wsc := [ob n0 2 [.int (nI lk), .int (nI lp), .ref qo, .ref qc, .int (bI sl), .int (oI s2)], aN (eY E) qo 55 Hp, aL (eY E) qc 275 Kc]) (wr := [ob d0 1 [.ref qr], aL (eY E) qr 671 Rw, ob h0 4 [.int (nI n), .int (nI m), .int (nI z), .int (nI st), .ref qh, .ref qt, .ref qp, .ref qb], aN (eY E) qt 30 To, aO (eY E) qp 30 Tp, aO (eY E) qb 30 Bl]) C (c_X2_through (eL E) (eD E) (eY E) n0 lk lp qo qc sl s2 Hp Kc (To r) ((Tp r) - 1) x (by assumption) (by omega) (by omega) (by omega)) 3 gX1_after_X2_through rfl (by decide +kernel) (by decide) ⟨Nat.zero_le _, Nat.zero_le _⟩ rfl 0 rfl rfl rfl (Nat.le_of_ble_eq_true rfl) [2, 3, 4] [0, 1, 5, 6, 7, 8] [0, 1, 6, 7, 8, 2, 3, 4, 5] rfl rfl (by decide) (by decide) rfl (by decide) dX1_after_84 87 rfl ?_
          refine g_lstore (lv' := [(9, .long (lN (thF Hp Kc (To r) ((Tp r) - 1) x))), (8, .int (nI x)), (6, .long (lN (afP Hp Kc Rw (To r) ((Tp r) - 1) ((Bl r) - 1) h x))), (5, .int (nI (To r))), (0, .ref d0), (1, .ref n0), (2, .ref h0), (3, .int (nI r)), (4, .int (nI h))]) C dX1_after_87 89 rfl (by decide) rfl ?_
          refine g_lload C dX1_after_89 91 rfl 0 rfl ?_
          refine g_lload C dX1_after_91 93 rfl 2 rfl ?_
          refine g_lcmp_ge (X := afP Hp Kc Rw (To r) ((Tp r) - 1) ((Bl r) - 1) h x ≤ thF Hp Kc (To r) ((Tp r) - 1) x) C dX1_after_93 rfl dX1_after_94 124 (by decide) 97 rfl (pk_lLE (by omega) (by omega)) ?_ ?_
          · intro h93
            refine g_iinc (lv' := [(8, .int (nI (x + 1))), (9, .long (lN (thF Hp Kc (To r) ((Tp r) - 1) x))), (6, .long (lN (afP Hp Kc Rw (To r) ((Tp r) - 1) ((Bl r) - 1) h x))), (5, .int (nI (To r))), (0, .ref d0), (1, .ref n0), (2, .ref h0), (3, .int (nI r)), (4, .int (nI h))]) C dX1_after_124 127 rfl 1 rfl (by decide) rfl ?_
            refine g_goto C dX1_after_127 66 (by decide) ?_
            refine go_lv (lv' := [(8, .int (nI (x + 1))), (6, .long (lN (afP Hp Kc Rw (To r) ((Tp r) - 1) ((Bl r) - 1) h x))), (5, .int (nI (To r))), (0, .ref d0), (1, .ref n0), (2, .ref h0), (3, .int (nI r)), (4, .int (nI h))]) [0, 2, 3, 4, 5, 6, 7, 8] rfl ?_
            have e_2 : (afP Hp Kc Rw (To r) ((Tp r) - 1) ((Bl r) - 1) h (x + 1)) = (afP Hp Kc Rw (To r) ((Tp r) - 1) ((Bl r) - 1) h x) := by first | with_reducible rfl | (simp only [afP]; first | rw [if_pos (by omega)] | rw [if_neg (by omega)])
            refine go_eq (lv' := [(8, .int (nI (x + 1))), (6, .long (lN (afP Hp Kc Rw (To r) ((Tp r) - 1) ((Bl r) - 1) h (x + 1)))), (5, .int (nI (To r))), (0, .ref d0), (1, .ref n0), (2, .ref h0), (3, .int (nI r)), (4, .int (nI h))]) (ws' := [ob d0 1 [.ref qr], aL (eY E) qr 671 Rw, ob n0 2 [.int (nI lk), .int (nI lp), .ref qo, .ref qc, .int (bI sl), .int (oI s2)], aN (eY E) qo 55 Hp, aL (eY E) qc 275 Kc, ob h0 4 [.int (nI n), .int (nI m), .int (nI z), .int (nI st), .ref qh, .ref qt, .ref qp, .ref qb], aN (eY E) qt 30 To, aO (eY E) qp 30 Tp, aO (eY E) qb 30 Bl]) (by first | with_reducible rfl | (simp only [e_2, oI_s, oI_0, bI_1, bI_0, and_self, reduceIte]; done)) rfl (by first | with_reducible rfl | (simp only [oI_s, oI_0, bI_1, bI_0, and_self, reduceIte]; done) | rfl) ?_
            exact ih_x (by omega)
          · intro h93
            refine g_lload C dX1_after_97 99 rfl 2 rfl ?_
            refine g_lload C dX1_after_99 101 rfl 0 rfl ?_
            refine g_aload_n C dX1_after_101 rfl 102 rfl 4 rfl ?_
            refine g_aload_n C dX1_after_102 rfl 103 rfl 5 rfl ?_
            refine g_iload C dX1_after_103 105 rfl 1 rfl ?_
            refine g_aload_n C dX1_after_105 rfl 106 rfl 6 rfl ?_
            refine g_getN C iX4 5 rfl rfl 7 (by decide) (nf_RX1_58 C.2.2.1 _) rfl dX1_after_106 109 rfl ?_
            refine g_iload_n C dX1_after_109 rfl 110 rfl 7 rfl ?_
            refine g_iald (i := r) C 8 rfl (by omega) (by decide) dX1_after_110 111 rfl ?_
            refine g_iload C dX1_after_111 113 rfl 8 rfl ?_
            refine go_eq rfl (st' := [.int (nI h), .int (nI ((Bl r) - 1)), .int (nI x), .ref n0, .ref d0, .long (lN (thF Hp Kc (To r) ((Tp r) - 1) x)), .long (lN (afP Hp Kc Rw (To r) ((Tp r) - 1) ((Bl r) - 1) h x))]) (ws' := [ob d0 1 [.ref qr], aL (eY E) qr 671 Rw, ob n0 2 [.int (nI lk), .int (nI lp), .ref qo, .ref qc, .int (bI sl), .int (oI s2)], aN (eY E) qo 55 Hp, aL (eY E) qc 275 Kc, ob h0 4 [.int (nI n), .int (nI m), .int (nI z), .int (nI st), .ref qh, .ref qt, .ref qp, .ref qb], aN (eY E) qt 30 To, aO (eY E) qp 30 Tp, aO (eY E) qb 30 Bl]) (by rw [oI_pos (a := (Bl r)) (by omega)]) (by rfl) ?_
            refine g_cVl (ws2 := [ob d0 1 [.ref qr], aL (eY E) qr 671 Rw, ob n0 2 [.int (nI lk), .int (nI lp), .ref qo, .ref qc, .int (bI sl), .int (oI s2)], aN (eY E) qo 55 Hp, aL (eY E) qc 275 Kc, ob h0 4 [.int (nI n), .int (nI m), .int (nI z), .int (nI st), .ref qh, .ref qt, .ref qp, .ref qb], aN (eY E) qt 30 To, aO (eY E) qp 30 Tp, aO (eY E) qb 30 Bl]) (As := [.ref n0, .int (nI x), .int (nI ((Bl r) - 1)), .int (nI h)]) (st := [.long (lN (thF Hp Kc (To r) ((Tp r) - 1) x)), .long (lN (afP Hp Kc Rw (To r) ((Tp r) - 1) ((Bl r) - 1) h x))]) (wsc := [ob d0 1 [.ref qr], aL (eY E) qr 671 Rw, ob n0 2 [.int (nI lk), .int (nI lp), .ref qo, .ref qc, .int (bI sl), .int (oI s2)], aN (eY E) qo 55 Hp, aL (eY E) qc 275 Kc]) (wr := [ob h0 4 [.int (nI n), .int (nI m), .int (nI z), .int (nI st), .ref qh, .ref qt, .ref qp, .ref qb], aN (eY E) qt 30 To, aO (eY E) qp 30 Tp, aO (eY E) qb 30 Bl]) C (c_X1_across (eL E) (eD E) (eY E) d0 qr Rw n0 lk lp qo qc sl s2 Hp Kc x ((Bl r) - 1) h (by first | assumption | exact bdP_ok (by assumption) _ _ | exact bdF_ok (by assumption) _ _) (by assumption) (by first | assumption | exact nrC_ok (by assumption) _ _ _ _ _ | exact nbC_ok (by assumption) _ _ _ _ | exact ndC_ok (by assumption) _ | exact niC_ok (by assumption) _) (by omega) (by omega) (by omega)) 4 gX1_after_X1_across rfl (by decide +kernel) (by decide) ⟨Nat.zero_le _, Nat.zero_le _⟩ rfl 0 rfl rfl rfl (Nat.le_of_ble_eq_true rfl) [0, 1, 2, 3, 4] [5, 6, 7, 8] [4, 5, 6, 7, 8, 0, 1, 2, 3] rfl rfl (by decide) (by decide) rfl (by decide) dX1_after_113 116 rfl ?_
            refine g_cSNl (ws2 := [ob d0 1 [.ref qr], aL (eY E) qr 671 Rw, ob n0 2 [.int (nI lk), .int (nI lp), .ref qo, .ref qc, .int (bI sl), .int (oI s2)], aN (eY E) qo 55 Hp, aL (eY E) qc 275 Kc, ob h0 4 [.int (nI n), .int (nI m), .int (nI z), .int (nI st), .ref qh, .ref qt, .ref qp, .ref qb], aN (eY E) qt 30 To, aO (eY E) qp 30 Tp, aO (eY E) qb 30 Bl]) (As := [.long (lN (thF Hp Kc (To r) ((Tp r) - 1) x)), .long (lN (acF Hp Kc Rw x ((Bl r) - 1) h 11))]) (st := [.long (lN (afP Hp Kc Rw (To r) ((Tp r) - 1) ((Bl r) - 1) h x))]) (wsc := []) (wr := [ob d0 1 [.ref qr], aL (eY E) qr 671 Rw, ob n0 2 [.int (nI lk), .int (nI lp), .ref qo, .ref qc, .int (bI sl), .int (oI s2)], aN (eY E) qo 55 Hp, aL (eY E) qc 275 Kc, ob h0 4 [.int (nI n), .int (nI m), .int (nI z), .int (nI st), .ref qh, .ref qt, .ref qp, .ref qb], aN (eY E) qt 30 To, aO (eY E) qp 30 Tp, aO (eY E) qb 30 Bl]) C (c_X6_sum (eL E) (eD E) (eY E) (thF Hp Kc (To r) ((Tp r) - 1) x) (acF Hp Kc Rw x ((Bl r) - 1) h 11) (by exact hT1) (by exact acF_ok _ _ _ _ _ _ _)) 2 ggX1_after_X6_sum (nm_RX1_41 C.2.2.1) (List.mem_of_getElem? (i := 20) rfl) (List.mem_of_getElem? (i := 29) rfl) rfl (by decide +kernel) (by decide) ⟨Nat.zero_le _, Nat.zero_le _⟩ rfl rfl (Nat.le_of_ble_eq_true rfl) [] [0, 1, 2, 3, 4, 5, 6, 7, 8] [0, 1, 2, 3, 4, 5, 6, 7, 8] rfl rfl (by decide) (by decide) rfl (by decide) dX1_after_116 119 rfl ?_
            refine g_minL C (List.mem_of_getElem? (i := 3) rfl) (List.mem_of_getElem? (i := 4) rfl) (List.mem_of_getElem? (i := 5) rfl) (List.mem_of_getElem? (i := 6) rfl) (by decide) (Nat.le_of_ble_eq_true rfl) ⟨Nat.zero_le _, Nat.zero_le _⟩ (by omega) (by omega) dX1_after_119 122 rfl ?_
            refine g_lstore (lv' := [(6, .long (lN (min (afP Hp Kc Rw (To r) ((Tp r) - 1) ((Bl r) - 1) h x) (sm (thF Hp Kc (To r) ((Tp r) - 1) x) (acF Hp Kc Rw x ((Bl r) - 1) h 11))))), (9, .long (lN (thF Hp Kc (To r) ((Tp r) - 1) x))), (8, .int (nI x)), (5, .int (nI (To r))), (0, .ref d0), (1, .ref n0), (2, .ref h0), (3, .int (nI r)), (4, .int (nI h))]) C dX1_after_122 124 rfl (by decide) rfl ?_
            refine g_iinc (lv' := [(8, .int (nI (x + 1))), (6, .long (lN (min (afP Hp Kc Rw (To r) ((Tp r) - 1) ((Bl r) - 1) h x) (sm (thF Hp Kc (To r) ((Tp r) - 1) x) (acF Hp Kc Rw x ((Bl r) - 1) h 11))))), (9, .long (lN (thF Hp Kc (To r) ((Tp r) - 1) x))), (5, .int (nI (To r))), (0, .ref d0), (1, .ref n0), (2, .ref h0), (3, .int (nI r)), (4, .int (nI h))]) C dX1_after_124 127 rfl 2 rfl (by decide) rfl ?_
            refine g_goto C dX1_after_127 66 (by decide) ?_
            refine go_lv (lv' := [(8, .int (nI (x + 1))), (6, .long (lN (min (afP Hp Kc Rw (To r) ((Tp r) - 1) ((Bl r) - 1) h x) (sm (thF Hp Kc (To r) ((Tp r) - 1) x) (acF Hp Kc Rw x ((Bl r) - 1) h 11))))), (5, .int (nI (To r))), (0, .ref d0), (1, .ref n0), (2, .ref h0), (3, .int (nI r)), (4, .int (nI h))]) [0, 1, 3, 4, 5, 6, 7, 8] rfl ?_
            have e_3 : (afP Hp Kc Rw (To r) ((Tp r) - 1) ((Bl r) - 1) h (x + 1)) = (min (afP Hp Kc Rw (To r) ((Tp r) - 1) ((Bl r) - 1) h x) (sm (thF Hp Kc (To r) ((Tp r) - 1) x) (acF Hp Kc Rw x ((Bl r) - 1) h 11))) := by first | with_reducible rfl | (simp only [afP]; first | rw [if_pos (by omega)] | rw [if_neg (by omega)])
            refine go_eq (lv' := [(8, .int (nI (x + 1))), (6, .long (lN (afP Hp Kc Rw (To r) ((Tp r) - 1) ((Bl r) - 1) h (x + 1)))), (5, .int (nI (To r))), (0, .ref d0), (1, .ref n0), (2, .ref h0), (3, .int (nI r)), (4, .int (nI h))]) (ws' := [ob d0 1 [.ref qr], aL (eY E) qr 671 Rw, ob n0 2 [.int (nI lk), .int (nI lp), .ref qo, .ref qc, .int (bI sl), .int (oI s2)], aN (eY E) qo 55 Hp, aL (eY E) qc 275 Kc, ob h0 4 [.int (nI n), .int (nI m), .int (nI z), .int (nI st), .ref qh, .ref qt, .ref qp, .ref qb], aN (eY E) qt 30 To, aO (eY E) qp 30 Tp, aO (eY E) qb 30 Bl]) (by first | with_reducible rfl | (simp only [e_3, oI_s, oI_0, bI_1, bI_0, and_self, reduceIte]; done)) rfl (by first | with_reducible rfl | (simp only [oI_s, oI_0, bI_1, bI_0, and_self, reduceIte]; done) | rfl) ?_
            exact ih_x (by omega)
      have e_4 : (afP Hp Kc Rw (To r) ((Tp r) - 1) ((Bl r) - 1) h 0) = 9000000000000000000 := by first | with_reducible rfl | (rfl)
      refine go_eq (lv' := [(8, .int (nI 0)), (6, .long (lN (afP Hp Kc Rw (To r) ((Tp r) - 1) ((Bl r) - 1) h 0))), (5, .int (nI (To r))), (0, .ref d0), (1, .ref n0), (2, .ref h0), (3, .int (nI r)), (4, .int (nI h))]) (ws' := [ob d0 1 [.ref qr], aL (eY E) qr 671 Rw, ob n0 2 [.int (nI lk), .int (nI lp), .ref qo, .ref qc, .int (bI sl), .int (oI s2)], aN (eY E) qo 55 Hp, aL (eY E) qc 275 Kc, ob h0 4 [.int (nI n), .int (nI m), .int (nI z), .int (nI st), .ref qh, .ref qt, .ref qp, .ref qb], aN (eY E) qt 30 To, aO (eY E) qp 30 Tp, aO (eY E) qb 30 Bl]) (by first | with_reducible rfl | (simp only [e_4, oI_s, oI_0, bI_1, bI_0, and_self, reduceIte]; done)) rfl (by first | with_reducible rfl | (simp only [oI_s, oI_0, bI_1, bI_0, and_self, reduceIte]; done) | rfl) ?_
      exact L66 0 (by omega)
    · intro h39
      have h39 : Bl r = 0 := Decidable.not_not.mp h39
      refine g_aload_n C dX1_after_42 rfl 43 rfl 1 rfl ?_
      refine g_aload_n C dX1_after_43 rfl 44 rfl 2 rfl ?_
      refine g_iload C dX1_after_44 46 rfl 0 rfl ?_
      refine g_aload_n C dX1_after_46 rfl 47 rfl 3 rfl ?_
      refine g_getN C iX4 5 rfl rfl 6 (by decide) (nf_RX1_55 C.2.2.1 _) rfl dX1_after_47 50 rfl ?_
      refine g_iload_n C dX1_after_50 rfl 51 rfl 4 rfl ?_
      refine g_iald (i := r) C 7 rfl (by omega) (by decide) dX1_after_51 52 rfl ?_
      refine g_iload C dX1_after_52 54 rfl 5 rfl ?_
      refine go_eq rfl (st' := [.int (nI h), .int (nI ((Tp r) - 1)), .int (nI (To r)), .ref n0, .ref d0]) (ws' := [ob d0 1 [.ref qr], aL (eY E) qr 671 Rw, ob n0 2 [.int (nI lk), .int (nI lp), .ref qo, .ref qc, .int (bI sl), .int (oI s2)], aN (eY E) qo 55 Hp, aL (eY E) qc 275 Kc, ob h0 4 [.int (nI n), .int (nI m), .int (nI z), .int (nI st), .ref qh, .ref qt, .ref qp, .ref qb], aN (eY E) qt 30 To, aO (eY E) qp 30 Tp, aO (eY E) qb 30 Bl]) (by rw [oI_pos (a := (Tp r)) (by omega)]) (by rfl) ?_
      refine g_cVl (ws2 := [ob d0 1 [.ref qr], aL (eY E) qr 671 Rw, ob n0 2 [.int (nI lk), .int (nI lp), .ref qo, .ref qc, .int (bI sl), .int (oI s2)], aN (eY E) qo 55 Hp, aL (eY E) qc 275 Kc, ob h0 4 [.int (nI n), .int (nI m), .int (nI z), .int (nI st), .ref qh, .ref qt, .ref qp, .ref qb], aN (eY E) qt 30 To, aO (eY E) qp 30 Tp, aO (eY E) qb 30 Bl]) (As := [.ref n0, .int (nI (To r)), .int (nI ((Tp r) - 1)), .int (nI h)]) (st := []) (wsc := [ob d0 1 [.ref qr], aL (eY E) qr 671 Rw, ob n0 2 [.int (nI lk), .int (nI lp), .ref qo, .ref qc, .int (bI sl), .int (oI s2)], aN (eY E) qo 55 Hp, aL (eY E) qc 275 Kc]) (wr := [ob h0 4 [.int (nI n), .int (nI m), .int (nI z), .int (nI st), .ref qh, .ref qt, .ref qp, .ref qb], aN (eY E) qt 30 To, aO (eY E) qp 30 Tp, aO (eY E) qb 30 Bl]) C (c_X1_across (eL E) (eD E) (eY E) d0 qr Rw n0 lk lp qo qc sl s2 Hp Kc (To r) ((Tp r) - 1) h (by first | assumption | exact bdP_ok (by assumption) _ _ | exact bdF_ok (by assumption) _ _) (by assumption) (by first | assumption | exact nrC_ok (by assumption) _ _ _ _ _ | exact nbC_ok (by assumption) _ _ _ _ | exact ndC_ok (by assumption) _ | exact niC_ok (by assumption) _) (by omega) (by omega) (by omega)) 4 gX1_after_X1_across rfl (by decide +kernel) (by decide) ⟨Nat.zero_le _, Nat.zero_le _⟩ rfl 0 rfl rfl rfl (Nat.le_of_ble_eq_true rfl) [0, 1, 2, 3, 4] [5, 6, 7, 8] [4, 5, 6, 7, 8, 0, 1, 2, 3] rfl rfl (by decide) (by decide) rfl (by decide) dX1_after_54 57 rfl ?_
      have e_5 : (afF Hp Kc Rw To Tp Bl r h) = (acF Hp Kc Rw (To r) ((Tp r) - 1) h 11) := by first | with_reducible rfl | (simp only [afF]; repeat (first | rw [if_pos (by assumption)] | rw [if_neg (by assumption)]))
      refine go_eq rfl (st' := [.long (lN (afF Hp Kc Rw To Tp Bl r h))]) (ws' := [ob d0 1 [.ref qr], aL (eY E) qr 671 Rw, ob n0 2 [.int (nI lk), .int (nI lp), .ref qo, .ref qc, .int (bI sl), .int (oI s2)], aN (eY E) qo 55 Hp, aL (eY E) qc 275 Kc, ob h0 4 [.int (nI n), .int (nI m), .int (nI z), .int (nI st), .ref qh, .ref qt, .ref qp, .ref qb], aN (eY E) qt 30 To, aO (eY E) qp 30 Tp, aO (eY E) qb 30 Bl]) (by first | with_reducible rfl | (simp only [e_5, oI_s, oI_0, bI_1, bI_0, and_self, reduceIte]; done)) (by first | with_reducible rfl | (simp only [e_5, oI_s, oI_0, bI_1, bI_0, and_self, reduceIte]; done)) ?_
      exact hret _ _ dX1_after_57
  · intro h15
    have h15 : Tp r = 0 := Decidable.not_not.mp h15
    refine g_aload_n C dX1_after_18 rfl 19 rfl 1 rfl ?_
    refine g_get C iX1 0 rfl rfl 0 (by decide) (C.1.2.2.2.2 (.fieldLink RX1 9 "StackRuns$Ladder" "rows" "[J") (List.mem_of_getElem? (i := 1) rfl)) rfl dX1_after_19 22 rfl ?_
    refine g_iload C dX1_after_22 24 rfl 5 rfl ?_
    refine g_bipush (v := nI 11) C dX1_after_24 (by decide) 26 rfl ?_
    refine g_imul (z := nI (h * 11)) C dX1_after_26 27 rfl (pk_mul _ _) ?_
    refine g_iload C dX1_after_27 29 rfl 0 rfl ?_
    refine g_iadd (z := nI ((h * 11) + (To r))) C dX1_after_29 30 rfl (nI_add _ _) ?_
    refine g_lald (i := ((h * 11) + (To r))) C 1 rfl (by omega) (by decide) dX1_after_30 31 rfl ?_
    have e_6 : (afF Hp Kc Rw To Tp Bl r h) = (Rw ((h * 11) + (To r))) := by first | with_reducible rfl | (simp only [afF]; repeat (first | rw [if_pos (by assumption)] | rw [if_neg (by assumption)]))
    refine go_eq rfl (st' := [.long (lN (afF Hp Kc Rw To Tp Bl r h))]) (ws' := [ob d0 1 [.ref qr], aL (eY E) qr 671 Rw, ob n0 2 [.int (nI lk), .int (nI lp), .ref qo, .ref qc, .int (bI sl), .int (oI s2)], aN (eY E) qo 55 Hp, aL (eY E) qc 275 Kc, ob h0 4 [.int (nI n), .int (nI m), .int (nI z), .int (nI st), .ref qh, .ref qt, .ref qp, .ref qb], aN (eY E) qt 30 To, aO (eY E) qp 30 Tp, aO (eY E) qb 30 Bl]) (by first | with_reducible rfl | (simp only [e_6, oI_s, oI_0, bI_1, bI_0, and_self, reduceIte]; done)) (by first | with_reducible rfl | (simp only [e_6, oI_s, oI_0, bI_1, bI_0, and_self, reduceIte]; done)) ?_
    exact hret _ _ dX1_after_31
