set_option maxHeartbeats 4000000 in
set_option maxRecDepth 100000 in
theorem c_X0_findExits (l : Launch) (D : va_G) (cy : Nat → ClassId) (e0 : Nat) (qx : Nat) (qa : Nat) (qw : Nat) (ci : Nat) (bo : Nat) (sh : Nat) (Ex : Nat → Nat) (k0 : Nat) (ql : Nat) (sn : Nat) (Cv : Nat → Nat) (hC : okf Cv) : CoV l yX0_findExits wsX0_findExits 0 0 D cy [ob e0 0 [.ref qx, .ref qa, .ref qw, .int (nI ci), .int (nI bo), .int (oI sh)], aN cy qx 25 Ex, ob k0 3 [.ref ql, .int (oI sn)], aL cy ql 125 Cv] [.ref e0, .ref k0] [ob e0 0 [.ref qx, .ref qa, .ref qw, .int (nI ci), .int (nI bo), .int (oI sh)], aN cy qx 25 (exF Cv), ob k0 3 [.ref ql, .int (oI sn)], aL cy ql 125 Cv] := by
  refine met_v (cc := cX0_findExits) (maxL := 4) (own := RX0) (lv := [(0, .ref e0), (1, .ref k0)]) (by decide) rfl rfl rfl (Nat.le_of_ble_eq_true rfl) (fun E e1 e2 e3 C hret => ?_)
  subst e1; subst e2; subst e3
  have iX0 : ∀ w ∈ wsX00, w ∈ wsX0_findExits := fun _ h => List.mem_cons_of_mem _ (List.mem_append_left _ (List.mem_append_right _ h))
  have iX3 : ∀ w ∈ wsX30, w ∈ wsX0_findExits := fun _ h => List.mem_cons_of_mem _ (List.mem_append_right _ h)
  refine g_iconst (v := nI 0) C dX0_findExits_0 (by decide) 1 rfl ?_
  refine g_istore_n (lv' := [(2, .int (nI 0)), (0, .ref e0), (1, .ref k0)]) C dX0_findExits_1 rfl 2 rfl (by decide) rfl ?_
  have L2 : ∀ hd, hd ≤ 25 → Go E 0 0 2 [(2, .int (nI hd)), (0, .ref e0), (1, .ref k0)] [] [ob e0 0 [.ref qx, .ref qa, .ref qw, .int (nI ci), .int (nI bo), .int (oI sh)], aN (eY E) qx 25 (fillG Ex (exF Cv) hd), ob k0 3 [.ref ql, .int (oI sn)], aL (eY E) ql 125 Cv] := by
    refine go_for 25 (fun hd => Go E 0 0 2 [(2, .int (nI hd)), (0, .ref e0), (1, .ref k0)] [] [ob e0 0 [.ref qx, .ref qa, .ref qw, .int (nI ci), .int (nI bo), .int (oI sh)], aN (eY E) qx 25 (fillG Ex (exF Cv) hd), ob k0 3 [.ref ql, .int (oI sn)], aL (eY E) ql 125 Cv]) (fun hd hi_hd ih_hd => ?_)
    refine g_iload_n C dX0_findExits_2 rfl 3 rfl 0 rfl ?_
    refine g_bipush (v := nI 25) C dX0_findExits_3 (by decide) 5 rfl ?_
    refine g_icmp_ge (X := 25 ≤ hd) C dX0_findExits_5 63 (by decide) 8 rfl (nI_leI (by omega) (by omega)) ?_ ?_
    · intro h5
      have x_hd : hd = 25 := by omega
      try rw [x_hd]
      refine go_swap (ws' := [ob e0 0 [.ref qx, .ref qa, .ref qw, .int (nI ci), .int (nI bo), .int (oI sh)], aN (eY E) qx 25 (exF Cv), ob k0 3 [.ref ql, .int (oI sn)], aL (eY E) ql 125 Cv]) 1 rfl (cell_N _ _ (fillG Ex (exF Cv) 25) (exF Cv) (fun k_ hk_ => by exact fillG_in _ _ (by omega))) rfl ?_
      exact hret _ _ dX0_findExits_63
    · intro h5
      refine g_aload_n C dX0_findExits_8 rfl 9 rfl 1 rfl ?_
      refine g_get C iX0 0 rfl rfl 0 (by decide) (C.1.2.2.2.2 (.fieldLink RX0 9 "StackRuns$Heads" "exits" "[I") (List.mem_of_getElem? (i := 1) rfl)) rfl dX0_findExits_9 12 rfl ?_
      refine g_iload_n C dX0_findExits_12 rfl 13 rfl 0 rfl ?_
      refine g_iconst (v := nI 0) C dX0_findExits_13 (by decide) 14 rfl ?_
      refine g_iast (ws' := [ob e0 0 [.ref qx, .ref qa, .ref qw, .int (nI ci), .int (nI bo), .int (oI sh)], aN (eY E) qx 25 (up (fillG Ex (exF Cv) hd) hd 0), ob k0 3 [.ref ql, .int (oI sn)], aL (eY E) ql 125 Cv]) (i := hd) C 1 rfl (by omega) (by decide) dX0_findExits_14 15 rfl (upd_N _ _ _) rfl ?_
      refine g_iconst (v := nI 0) C dX0_findExits_15 (by decide) 16 rfl ?_
      refine g_istore_n (lv' := [(3, .int (nI 0)), (2, .int (nI hd)), (0, .ref e0), (1, .ref k0)]) C dX0_findExits_16 rfl 17 rfl (by decide) rfl ?_
      have L17 : ∀ q, q ≤ 5 → Go E 0 0 17 [(3, .int (nI q)), (2, .int (nI hd)), (0, .ref e0), (1, .ref k0)] [] [ob e0 0 [.ref qx, .ref qa, .ref qw, .int (nI ci), .int (nI bo), .int (oI sh)], aN (eY E) qx 25 (up (fillG Ex (exF Cv) hd) hd (exQ Cv hd q)), ob k0 3 [.ref ql, .int (oI sn)], aL (eY E) ql 125 Cv] := by
        refine go_for 5 (fun q => Go E 0 0 17 [(3, .int (nI q)), (2, .int (nI hd)), (0, .ref e0), (1, .ref k0)] [] [ob e0 0 [.ref qx, .ref qa, .ref qw, .int (nI ci), .int (nI bo), .int (oI sh)], aN (eY E) qx 25 (up (fillG Ex (exF Cv) hd) hd (exQ Cv hd q)), ob k0 3 [.ref ql, .int (oI sn)], aL (eY E) ql 125 Cv]) (fun q hi_q ih_q => ?_)
        have hC1 := hC (hd * 5 + q)
        refine g_iload_n C dX0_findExits_17 rfl 18 rfl 0 rfl ?_
        refine g_iconst (v := nI 5) C dX0_findExits_18 (by decide) 19 rfl ?_
        refine g_icmp_ge (X := 5 ≤ q) C dX0_findExits_19 57 (by decide) 22 rfl (nI_leI (by omega) (by omega)) ?_ ?_
        · intro h19
          have x_q : q = 5 := by omega
          try rw [x_q]
          refine g_iinc (lv' := [(2, .int (nI (hd + 1))), (3, .int (nI 5)), (0, .ref e0), (1, .ref k0)]) C dX0_findExits_57 60 rfl 1 rfl (by decide) rfl ?_
          refine g_goto C dX0_findExits_60 2 (by decide) ?_
          refine go_lv (lv' := [(2, .int (nI (hd + 1))), (0, .ref e0), (1, .ref k0)]) [0, 2, 3] rfl ?_
          have e_1 : (fillG Ex (exF Cv) (hd + 1)) = (up (fillG Ex (exF Cv) hd) hd (exQ Cv hd 5)) := by first | with_reducible rfl | (rw [fillG_s]; rfl)
          refine go_eq (lv' := [(2, .int (nI (hd + 1))), (0, .ref e0), (1, .ref k0)]) (ws' := [ob e0 0 [.ref qx, .ref qa, .ref qw, .int (nI ci), .int (nI bo), .int (oI sh)], aN (eY E) qx 25 (fillG Ex (exF Cv) (hd + 1)), ob k0 3 [.ref ql, .int (oI sn)], aL (eY E) ql 125 Cv]) (by first | with_reducible rfl | (simp only [oI_s, oI_0, bI_1, bI_0, and_self, reduceIte]; done) | rfl) rfl (by first | with_reducible rfl | (simp only [e_1, oI_s, oI_0, bI_1, bI_0, and_self, reduceIte]; done)) ?_
          exact ih_hd (by omega)
        · intro h19
          refine g_aload_n C dX0_findExits_22 rfl 23 rfl 3 rfl ?_
          refine g_getN C iX3 2 rfl rfl 0 (by decide) (nf_RX0_50 C.2.2.1 _) rfl dX0_findExits_23 26 rfl ?_
          refine g_iload_n C dX0_findExits_26 rfl 27 rfl 1 rfl ?_
          refine g_iconst (v := nI 5) C dX0_findExits_27 (by decide) 28 rfl ?_
          refine g_imul (z := nI (hd * 5)) C dX0_findExits_28 29 rfl (pk_mul _ _) ?_
          refine g_iload_n C dX0_findExits_29 rfl 30 rfl 0 rfl ?_
          refine g_iadd (z := nI ((hd * 5) + q)) C dX0_findExits_30 31 rfl (nI_add _ _) ?_
          refine g_lald (i := ((hd * 5) + q)) C 3 rfl (by omega) (by decide) dX0_findExits_31 32 rfl ?_
          refine g_ldc2 (v' := (lN 9000000000000000000)) C (C.1.2.2.2.2 (.constantLong RX0 56 (9000000000000000000)) (List.mem_of_getElem? (i := 2) rfl)) (by decide) dX0_findExits_32 35 rfl ?_
          refine g_lcmp_eq (X := Cv ((hd * 5) + q) = 9000000000000000000) C dX0_findExits_35 rfl dX0_findExits_36 51 (by decide) 39 rfl (pk_lEQ (by omega) (by omega)) ?_ ?_
          · intro h35
            refine g_iinc (lv' := [(3, .int (nI (q + 1))), (2, .int (nI hd)), (0, .ref e0), (1, .ref k0)]) C dX0_findExits_51 54 rfl 0 rfl (by decide) rfl ?_
            refine g_goto C dX0_findExits_54 17 (by decide) ?_
            have e_2 : (up (fillG Ex (exF Cv) hd) hd (exQ Cv hd (q + 1))) = (up (fillG Ex (exF Cv) hd) hd (exQ Cv hd q)) := by first | with_reducible rfl | (simp only [exQ]; first | rw [if_pos (by assumption)] | rw [if_neg (by assumption), up_up, up_same])
            refine go_eq (lv' := [(3, .int (nI (q + 1))), (2, .int (nI hd)), (0, .ref e0), (1, .ref k0)]) (ws' := [ob e0 0 [.ref qx, .ref qa, .ref qw, .int (nI ci), .int (nI bo), .int (oI sh)], aN (eY E) qx 25 (up (fillG Ex (exF Cv) hd) hd (exQ Cv hd (q + 1))), ob k0 3 [.ref ql, .int (oI sn)], aL (eY E) ql 125 Cv]) (by first | with_reducible rfl | (simp only [oI_s, oI_0, bI_1, bI_0, and_self, reduceIte]; done) | rfl) rfl (by first | with_reducible rfl | (simp only [e_2, oI_s, oI_0, bI_1, bI_0, and_self, reduceIte]; done)) ?_
            exact ih_q (by omega)
          · intro h35
            refine g_aload_n C dX0_findExits_39 rfl 40 rfl 2 rfl ?_
            refine g_get C iX0 0 rfl rfl 0 (by decide) (C.1.2.2.2.2 (.fieldLink RX0 9 "StackRuns$Heads" "exits" "[I") (List.mem_of_getElem? (i := 1) rfl)) rfl dX0_findExits_40 43 rfl ?_
            refine g_iload_n C dX0_findExits_43 rfl 44 rfl 1 rfl ?_
            refine g_dup2 C dX0_findExits_44 rfl rfl 45 rfl ?_
            refine g_iald (i := hd) C 1 rfl (by omega) (by decide) dX0_findExits_45 46 rfl ?_
            refine g_iconst (v := nI 1) C dX0_findExits_46 (by decide) 47 rfl ?_
            refine g_iload_n C dX0_findExits_47 rfl 48 rfl 0 rfl ?_
            refine g_ishl (z := nI (1 * 2 ^ q)) C dX0_findExits_48 49 rfl (z_shl (by omega) (by have := pow_lt_32 (p := q) (by omega); omega)) ?_
            refine g_ior (z := nI (((up (fillG Ex (exF Cv) hd) hd (exQ Cv hd q)) hd) ||| (1 * 2 ^ q))) C dX0_findExits_49 50 rfl (z_or _ _) ?_
            refine g_iast (ws' := [ob e0 0 [.ref qx, .ref qa, .ref qw, .int (nI ci), .int (nI bo), .int (oI sh)], aN (eY E) qx 25 (up (up (fillG Ex (exF Cv) hd) hd (exQ Cv hd q)) hd (((up (fillG Ex (exF Cv) hd) hd (exQ Cv hd q)) hd) ||| (1 * 2 ^ q))), ob k0 3 [.ref ql, .int (oI sn)], aL (eY E) ql 125 Cv]) (i := hd) C 1 rfl (by omega) (by decide) dX0_findExits_50 51 rfl (upd_N _ _ _) rfl ?_
            refine g_iinc (lv' := [(3, .int (nI (q + 1))), (2, .int (nI hd)), (0, .ref e0), (1, .ref k0)]) C dX0_findExits_51 54 rfl 0 rfl (by decide) rfl ?_
            refine g_goto C dX0_findExits_54 17 (by decide) ?_
            have e_3 : (up (fillG Ex (exF Cv) hd) hd (exQ Cv hd (q + 1))) = (up (up (fillG Ex (exF Cv) hd) hd (exQ Cv hd q)) hd (((up (fillG Ex (exF Cv) hd) hd (exQ Cv hd q)) hd) ||| (1 * 2 ^ q))) := by first | with_reducible rfl | (simp only [exQ]; first | rw [if_pos (by assumption)] | rw [if_neg (by assumption), up_up, up_same])
            refine go_eq (lv' := [(3, .int (nI (q + 1))), (2, .int (nI hd)), (0, .ref e0), (1, .ref k0)]) (ws' := [ob e0 0 [.ref qx, .ref qa, .ref qw, .int (nI ci), .int (nI bo), .int (oI sh)], aN (eY E) qx 25 (up (fillG Ex (exF Cv) hd) hd (exQ Cv hd (q + 1))), ob k0 3 [.ref ql, .int (oI sn)], aL (eY E) ql 125 Cv]) (by first | with_reducible rfl | (simp only [oI_s, oI_0, bI_1, bI_0, and_self, reduceIte]; done) | rfl) rfl (by first | with_reducible rfl | (simp only [e_3, oI_s, oI_0, bI_1, bI_0, and_self, reduceIte]; done)) ?_
            exact ih_q (by omega)
      have e_4 : (up (fillG Ex (exF Cv) hd) hd (exQ Cv hd 0)) = (up (fillG Ex (exF Cv) hd) hd 0) := by first | with_reducible rfl | (rfl)
      refine go_eq (lv' := [(3, .int (nI 0)), (2, .int (nI hd)), (0, .ref e0), (1, .ref k0)]) (ws' := [ob e0 0 [.ref qx, .ref qa, .ref qw, .int (nI ci), .int (nI bo), .int (oI sh)], aN (eY E) qx 25 (up (fillG Ex (exF Cv) hd) hd (exQ Cv hd 0)), ob k0 3 [.ref ql, .int (oI sn)], aL (eY E) ql 125 Cv]) (by first | with_reducible rfl | (simp only [oI_s, oI_0, bI_1, bI_0, and_self, reduceIte]; done) | rfl) rfl (by first | with_reducible rfl | (simp only [e_4, oI_s, oI_0, bI_1, bI_0, and_self, reduceIte]; done)) ?_
      exact L17 0 (by omega)
  have e_5 : (fillG Ex (exF Cv) 0) = Ex := by first | with_reducible rfl | (rw [fillG_0])
  refine go_eq (lv' := [(2, .int (nI 0)), (0, .ref e0), (1, .ref k0)]) (ws' := [ob e0 0 [.ref qx, .ref qa, .ref qw, .int (nI ci), .int (nI bo), .int (oI sh)], aN (eY E) qx 25 (fillG Ex (exF Cv) 0), ob k0 3 [.ref ql, .int (oI sn)], aL (eY E) ql 125 Cv]) (by first | with_reducible rfl | (simp only [oI_s, oI_0, bI_1, bI_0, and_self, reduceIte]; done) | rfl) rfl (by first | with_reducible rfl | (simp only [e_5, oI_s, oI_0, bI_1, bI_0, and_self, reduceIte]; done)) ?_
  exact L2 0 (by omega)
set_option maxHeartbeats 4000000 in
set_option maxRecDepth 100000 in
theorem c_X0_uncovered (l : Launch) (D : va_G) (cy : Nat → ClassId) (e0 : Nat) (qx : Nat) (qa : Nat) (qw : Nat) (ci : Nat) (bo : Nat) (sh : Nat) (Ex : Nat → Nat) (h0 : Nat) (n : Nat) (m : Nat) (z : Nat) (st : Nat) (qh : Nat) (qt : Nat) (qp : Nat) (qb : Nat) (To : Nat → Nat) (Tp : Nat → Nat) (Bl : Nat → Nat) (r : Nat) (hEx : ∀ k, Ex k < 32) (hR : ∀ r, To r < 5 ∧ Tp r ≤ 5 ∧ Bl r ≤ 5) (hTB : ∀ r, Tp r = 0 → Bl r = 0) (hr : r < 30) : CoI l yX0_uncovered wsX0_uncovered 1 21 D cy [ob e0 0 [.ref qx, .ref qa, .ref qw, .int (nI ci), .int (nI bo), .int (oI sh)], aN cy qx 25 Ex, ob h0 4 [.int (nI n), .int (nI m), .int (nI z), .int (nI st), .ref qh, .ref qt, .ref qp, .ref qb], aN cy qt 30 To, aO cy qp 30 Tp, aO cy qb 30 Bl] [.ref e0, .ref h0, .int (nI r)] [ob e0 0 [.ref qx, .ref qa, .ref qw, .int (nI ci), .int (nI bo), .int (oI sh)], aN cy qx 25 Ex, ob h0 4 [.int (nI n), .int (nI m), .int (nI z), .int (nI st), .ref qh, .ref qt, .ref qp, .ref qb], aN cy qt 30 To, aO cy qp 30 Tp, aO cy qb 30 Bl] (nI (unF Ex To Tp Bl r)) := by
  refine met_i (cc := cX0_uncovered) (maxL := 6) (own := RX0) (lv := [(0, .ref e0), (1, .ref h0), (2, .int (nI r))]) (by decide) rfl rfl rfl (Nat.le_of_ble_eq_true rfl) (fun E e1 e2 e3 C hret => ?_)
  subst e1; subst e2; subst e3
  have iX0 : ∀ w ∈ wsX00, w ∈ wsX0_uncovered := fun _ h => List.mem_cons_of_mem _ (List.mem_append_right _ h)
  have iX4 : ∀ w ∈ wsX40, w ∈ wsX0_uncovered := fun _ h => List.mem_cons_of_mem _ (List.mem_append_left _ (List.mem_append_right _ h))
  have hR1 := hR r
  have hT1 := hTB r
  have hE1 := hEx (To r * 5 + (Tp r - 1))
  refine g_iconst (v := nI 0) C dX0_uncovered_0 (by decide) 1 rfl ?_
  refine g_istore_n (lv' := [(3, .int (nI 0)), (0, .ref e0), (1, .ref h0), (2, .int (nI r))]) C dX0_uncovered_1 rfl 2 rfl (by decide) rfl ?_
  refine g_aload_n C dX0_uncovered_2 rfl 3 rfl 2 rfl ?_
  refine g_getN C iX4 2 rfl rfl 7 (by decide) (nf_RX0_88 C.2.2.1 _) rfl dX0_uncovered_3 6 rfl ?_
  refine g_iload_n C dX0_uncovered_6 rfl 7 rfl 3 rfl ?_
  refine g_iald (i := r) C 5 rfl (by omega) (by decide) dX0_uncovered_7 8 rfl ?_
  refine g_iconst (v := (-1)) C dX0_uncovered_8 (by decide) 9 rfl ?_
  refine g_icmp_eq (X := Bl r = 0) C dX0_uncovered_9 75 (by decide) 12 rfl (oI_eq (by omega)) ?_ ?_
  · intro h9
    refine g_iload_n C dX0_uncovered_75 rfl 76 rfl 0 rfl ?_
    have e_1 : (unF Ex To Tp Bl r) = 0 := by first | with_reducible rfl | (simp [unF, *])
    refine go_eq rfl (st' := [.int (nI (unF Ex To Tp Bl r))]) (ws' := [ob e0 0 [.ref qx, .ref qa, .ref qw, .int (nI ci), .int (nI bo), .int (oI sh)], aN (eY E) qx 25 Ex, ob h0 4 [.int (nI n), .int (nI m), .int (nI z), .int (nI st), .ref qh, .ref qt, .ref qp, .ref qb], aN (eY E) qt 30 To, aO (eY E) qp 30 Tp, aO (eY E) qb 30 Bl]) (by first | with_reducible rfl | (simp only [e_1, oI_s, oI_0, bI_1, bI_0, and_self, reduceIte]; done)) (by first | with_reducible rfl | (simp only [e_1, oI_s, oI_0, bI_1, bI_0, and_self, reduceIte]; done)) ?_
    exact hret _ _ dX0_uncovered_76
  · intro h9
    refine g_aload_n C dX0_uncovered_12 rfl 13 rfl 1 rfl ?_
    refine g_get C iX0 0 rfl rfl 0 (by decide) (C.1.2.2.2.2 (.fieldLink RX0 9 "StackRuns$Heads" "exits" "[I") (List.mem_of_getElem? (i := 1) rfl)) rfl dX0_uncovered_13 16 rfl ?_
    refine g_aload_n C dX0_uncovered_16 rfl 17 rfl 2 rfl ?_
    refine g_getN C iX4 2 rfl rfl 5 (by decide) (nf_RX0_73 C.2.2.1 _) rfl dX0_uncovered_17 20 rfl ?_
    refine g_iload_n C dX0_uncovered_20 rfl 21 rfl 3 rfl ?_
    refine g_iald (i := r) C 3 rfl (by omega) (by decide) dX0_uncovered_21 22 rfl ?_
    refine g_aload_n C dX0_uncovered_22 rfl 23 rfl 2 rfl ?_
    refine g_getN C iX4 2 rfl rfl 6 (by decide) (nf_RX0_67 C.2.2.1 _) rfl dX0_uncovered_23 26 rfl ?_
    refine g_iload_n C dX0_uncovered_26 rfl 27 rfl 3 rfl ?_
    refine g_iald (i := r) C 4 rfl (by omega) (by decide) dX0_uncovered_27 28 rfl ?_
    refine go_eq rfl (st' := [.int (nI ((Tp r) - 1)), .int (nI (To r)), .ref qx]) (ws' := [ob e0 0 [.ref qx, .ref qa, .ref qw, .int (nI ci), .int (nI bo), .int (oI sh)], aN (eY E) qx 25 Ex, ob h0 4 [.int (nI n), .int (nI m), .int (nI z), .int (nI st), .ref qh, .ref qt, .ref qp, .ref qb], aN (eY E) qt 30 To, aO (eY E) qp 30 Tp, aO (eY E) qb 30 Bl]) (by rw [oI_pos (a := (Tp r)) (by omega)]) (by rfl) ?_
    refine g_cSNi (ws2 := [ob e0 0 [.ref qx, .ref qa, .ref qw, .int (nI ci), .int (nI bo), .int (oI sh)], aN (eY E) qx 25 Ex, ob h0 4 [.int (nI n), .int (nI m), .int (nI z), .int (nI st), .ref qh, .ref qt, .ref qp, .ref qb], aN (eY E) qt 30 To, aO (eY E) qp 30 Tp, aO (eY E) qb 30 Bl]) (As := [.int (nI (To r)), .int (nI ((Tp r) - 1))]) (st := [.ref qx]) (wsc := []) (wr := [ob e0 0 [.ref qx, .ref qa, .ref qw, .int (nI ci), .int (nI bo), .int (oI sh)], aN (eY E) qx 25 Ex, ob h0 4 [.int (nI n), .int (nI m), .int (nI z), .int (nI st), .ref qh, .ref qt, .ref qp, .ref qb], aN (eY E) qt 30 To, aO (eY E) qp 30 Tp, aO (eY E) qb 30 Bl]) C (c_X6_headOf (eL E) (eD E) (eY E) (To r) ((Tp r) - 1) ) 2 ggX0_uncovered_X6_headOf (nm_RX0_76 C.2.2.1) (List.mem_of_getElem? (i := 3) rfl) (List.mem_of_getElem? (i := 2) rfl) rfl (by decide +kernel) (by decide) ⟨Nat.zero_le _, Nat.zero_le _⟩ rfl rfl (Nat.le_of_ble_eq_true rfl) [] [0, 1, 2, 3, 4, 5] [0, 1, 2, 3, 4, 5] rfl rfl (by decide) (by decide) rfl (by decide) dX0_uncovered_28 31 rfl ?_
    refine g_iald (i := ((To r) * 5 + ((Tp r) - 1))) C 1 rfl (by omega) (by decide) dX0_uncovered_31 32 rfl ?_
    refine g_istore (lv' := [(4, .int (nI (Ex ((To r) * 5 + ((Tp r) - 1))))), (3, .int (nI 0)), (0, .ref e0), (1, .ref h0), (2, .int (nI r))]) C dX0_uncovered_32 34 rfl (by decide) rfl ?_
    refine g_iconst (v := nI 0) C dX0_uncovered_34 (by decide) 35 rfl ?_
    refine g_istore (lv' := [(5, .int (nI 0)), (4, .int (nI (Ex ((To r) * 5 + ((Tp r) - 1))))), (3, .int (nI 0)), (0, .ref e0), (1, .ref h0), (2, .int (nI r))]) C dX0_uncovered_35 37 rfl (by decide) rfl ?_
    have L37 : ∀ q, q ≤ 5 → Go E 0 0 37 [(5, .int (nI q)), (4, .int (nI (Ex ((To r) * 5 + ((Tp r) - 1))))), (3, .int (nI (unQ (Ex (((To r) * 5) + ((Tp r) - 1))) ((Bl r) - 1) q))), (0, .ref e0), (1, .ref h0), (2, .int (nI r))] [] [ob e0 0 [.ref qx, .ref qa, .ref qw, .int (nI ci), .int (nI bo), .int (oI sh)], aN (eY E) qx 25 Ex, ob h0 4 [.int (nI n), .int (nI m), .int (nI z), .int (nI st), .ref qh, .ref qt, .ref qp, .ref qb], aN (eY E) qt 30 To, aO (eY E) qp 30 Tp, aO (eY E) qb 30 Bl] := by
      refine go_for 5 (fun q => Go E 0 0 37 [(5, .int (nI q)), (4, .int (nI (Ex ((To r) * 5 + ((Tp r) - 1))))), (3, .int (nI (unQ (Ex (((To r) * 5) + ((Tp r) - 1))) ((Bl r) - 1) q))), (0, .ref e0), (1, .ref h0), (2, .int (nI r))] [] [ob e0 0 [.ref qx, .ref qa, .ref qw, .int (nI ci), .int (nI bo), .int (oI sh)], aN (eY E) qx 25 Ex, ob h0 4 [.int (nI n), .int (nI m), .int (nI z), .int (nI st), .ref qh, .ref qt, .ref qp, .ref qb], aN (eY E) qt 30 To, aO (eY E) qp 30 Tp, aO (eY E) qb 30 Bl]) (fun q hi_q ih_q => ?_)
      refine g_iload C dX0_uncovered_37 39 rfl 0 rfl ?_
      refine g_iconst (v := nI 5) C dX0_uncovered_39 (by decide) 40 rfl ?_
      refine g_icmp_ge (X := 5 ≤ q) C dX0_uncovered_40 75 (by decide) 43 rfl (nI_leI (by omega) (by omega)) ?_ ?_
      · intro h40
        have x_q : q = 5 := by omega
        try rw [x_q]
        refine g_iload_n C dX0_uncovered_75 rfl 76 rfl 2 rfl ?_
        have e_2 : (unF Ex To Tp Bl r) = (unQ (Ex (((To r) * 5) + ((Tp r) - 1))) ((Bl r) - 1) 5) := by first | with_reducible rfl | (simp [unF, *])
        refine go_eq rfl (st' := [.int (nI (unF Ex To Tp Bl r))]) (ws' := [ob e0 0 [.ref qx, .ref qa, .ref qw, .int (nI ci), .int (nI bo), .int (oI sh)], aN (eY E) qx 25 Ex, ob h0 4 [.int (nI n), .int (nI m), .int (nI z), .int (nI st), .ref qh, .ref qt, .ref qp, .ref qb], aN (eY E) qt 30 To, aO (eY E) qp 30 Tp, aO (eY E) qb 30 Bl]) (by first | with_reducible rfl | (simp only [e_2, oI_s, oI_0, bI_1, bI_0, and_self, reduceIte]; done)) (by first | with_reducible rfl | (simp only [e_2, oI_s, oI_0, bI_1, bI_0, and_self, reduceIte]; done)) ?_
        exact hret _ _ dX0_uncovered_76
      · intro h40
        refine g_iload C dX0_uncovered_43 45 rfl 1 rfl ?_
        refine g_iload C dX0_uncovered_45 47 rfl 0 rfl ?_
        refine g_cSNi (ws2 := [ob e0 0 [.ref qx, .ref qa, .ref qw, .int (nI ci), .int (nI bo), .int (oI sh)], aN (eY E) qx 25 Ex, ob h0 4 [.int (nI n), .int (nI m), .int (nI z), .int (nI st), .ref qh, .ref qt, .ref qp, .ref qb], aN (eY E) qt 30 To, aO (eY E) qp 30 Tp, aO (eY E) qb 30 Bl]) (As := [.int (nI (Ex ((To r) * 5 + ((Tp r) - 1)))), .int (nI q)]) (st := []) (wsc := []) (wr := [ob e0 0 [.ref qx, .ref qa, .ref qw, .int (nI ci), .int (nI bo), .int (oI sh)], aN (eY E) qx 25 Ex, ob h0 4 [.int (nI n), .int (nI m), .int (nI z), .int (nI st), .ref qh, .ref qt, .ref qp, .ref qb], aN (eY E) qt 30 To, aO (eY E) qp 30 Tp, aO (eY E) qb 30 Bl]) C (c_X6_hasBit (eL E) (eD E) (eY E) (Ex ((To r) * 5 + ((Tp r) - 1))) q (by omega) (by omega)) 2 ggX0_uncovered_X6_hasBit (nm_RX0_84 C.2.2.1) (List.mem_of_getElem? (i := 3) rfl) (List.mem_of_getElem? (i := 5) rfl) rfl (by decide +kernel) (by decide) ⟨Nat.zero_le _, Nat.zero_le _⟩ rfl rfl (Nat.le_of_ble_eq_true rfl) [] [0, 1, 2, 3, 4, 5] [0, 1, 2, 3, 4, 5] rfl rfl (by decide) (by decide) rfl (by decide) dX0_uncovered_47 50 rfl ?_
        refine g_if_eq (X := (Ex ((To r) * 5 + ((Tp r) - 1))).testBit q = false) C dX0_uncovered_50 69 (by decide) 53 rfl (bI_eq0 _) ?_ ?_
        · intro h50
          refine g_iinc (lv' := [(5, .int (nI (q + 1))), (4, .int (nI (Ex ((To r) * 5 + ((Tp r) - 1))))), (3, .int (nI (unQ (Ex (((To r) * 5) + ((Tp r) - 1))) ((Bl r) - 1) q))), (0, .ref e0), (1, .ref h0), (2, .int (nI r))]) C dX0_uncovered_69 72 rfl 0 rfl (by decide) rfl ?_
          refine g_goto C dX0_uncovered_72 37 (by decide) ?_
          have e_3 : (unQ (Ex (((To r) * 5) + ((Tp r) - 1))) ((Bl r) - 1) (q + 1)) = (unQ (Ex (((To r) * 5) + ((Tp r) - 1))) ((Bl r) - 1) q) := by first | with_reducible rfl | (simp [unQ, *])
          refine go_eq (lv' := [(5, .int (nI (q + 1))), (4, .int (nI (Ex ((To r) * 5 + ((Tp r) - 1))))), (3, .int (nI (unQ (Ex (((To r) * 5) + ((Tp r) - 1))) ((Bl r) - 1) (q + 1)))), (0, .ref e0), (1, .ref h0), (2, .int (nI r))]) (ws' := [ob e0 0 [.ref qx, .ref qa, .ref qw, .int (nI ci), .int (nI bo), .int (oI sh)], aN (eY E) qx 25 Ex, ob h0 4 [.int (nI n), .int (nI m), .int (nI z), .int (nI st), .ref qh, .ref qt, .ref qp, .ref qb], aN (eY E) qt 30 To, aO (eY E) qp 30 Tp, aO (eY E) qb 30 Bl]) (by first | with_reducible rfl | (simp only [e_3, oI_s, oI_0, bI_1, bI_0, and_self, reduceIte]; done)) rfl (by first | with_reducible rfl | (simp only [oI_s, oI_0, bI_1, bI_0, and_self, reduceIte]; done) | rfl) ?_
          exact ih_q (by omega)
        · intro h50
          have h50 : (Ex ((To r) * 5 + ((Tp r) - 1))).testBit q = true := by simpa using h50
          refine g_iload_n C dX0_uncovered_53 rfl 54 rfl 2 rfl ?_
          refine g_iconst (v := nI 1) C dX0_uncovered_54 (by decide) 55 rfl ?_
          refine g_iload C dX0_uncovered_55 57 rfl 0 rfl ?_
          refine g_aload_n C dX0_uncovered_57 rfl 58 rfl 4 rfl ?_
          refine g_getN C iX4 2 rfl rfl 7 (by decide) (nf_RX0_88 C.2.2.1 _) rfl dX0_uncovered_58 61 rfl ?_
          refine g_iload_n C dX0_uncovered_61 rfl 62 rfl 5 rfl ?_
          refine g_iald (i := r) C 5 rfl (by omega) (by decide) dX0_uncovered_62 63 rfl ?_
          refine go_eq rfl (st' := [.int (nI ((Bl r) - 1)), .int (nI q), .int (nI 1), .int (nI (unQ (Ex (((To r) * 5) + ((Tp r) - 1))) ((Bl r) - 1) q))]) (ws' := [ob e0 0 [.ref qx, .ref qa, .ref qw, .int (nI ci), .int (nI bo), .int (oI sh)], aN (eY E) qx 25 Ex, ob h0 4 [.int (nI n), .int (nI m), .int (nI z), .int (nI st), .ref qh, .ref qt, .ref qp, .ref qb], aN (eY E) qt 30 To, aO (eY E) qp 30 Tp, aO (eY E) qb 30 Bl]) (by rw [oI_pos (a := (Bl r)) (by omega)]) (by rfl) ?_
          refine g_cSNi (ws2 := [ob e0 0 [.ref qx, .ref qa, .ref qw, .int (nI ci), .int (nI bo), .int (oI sh)], aN (eY E) qx 25 Ex, ob h0 4 [.int (nI n), .int (nI m), .int (nI z), .int (nI st), .ref qh, .ref qt, .ref qp, .ref qb], aN (eY E) qt 30 To, aO (eY E) qp 30 Tp, aO (eY E) qb 30 Bl]) (As := [.int (nI q), .int (nI ((Bl r) - 1))]) (st := [.int (nI 1), .int (nI (unQ (Ex (((To r) * 5) + ((Tp r) - 1))) ((Bl r) - 1) q))]) (wsc := []) (wr := [ob e0 0 [.ref qx, .ref qa, .ref qw, .int (nI ci), .int (nI bo), .int (oI sh)], aN (eY E) qx 25 Ex, ob h0 4 [.int (nI n), .int (nI m), .int (nI z), .int (nI st), .ref qh, .ref qt, .ref qp, .ref qb], aN (eY E) qt 30 To, aO (eY E) qp 30 Tp, aO (eY E) qb 30 Bl]) C (c_X6_headOf (eL E) (eD E) (eY E) q ((Bl r) - 1) ) 2 ggX0_uncovered_X6_headOf (nm_RX0_76 C.2.2.1) (List.mem_of_getElem? (i := 3) rfl) (List.mem_of_getElem? (i := 2) rfl) rfl (by decide +kernel) (by decide) ⟨Nat.zero_le _, Nat.zero_le _⟩ rfl rfl (Nat.le_of_ble_eq_true rfl) [] [0, 1, 2, 3, 4, 5] [0, 1, 2, 3, 4, 5] rfl rfl (by decide) (by decide) rfl (by decide) dX0_uncovered_63 66 rfl ?_
          refine g_ishl (z := nI (1 * 2 ^ (q * 5 + ((Bl r) - 1)))) C dX0_uncovered_66 67 rfl (z_shl (by omega) (by have := one25 (p := q * 5 + (Bl r - 1)) (by omega); omega)) ?_
          refine g_ior (z := nI ((unQ (Ex (((To r) * 5) + ((Tp r) - 1))) ((Bl r) - 1) q) ||| (1 * 2 ^ (q * 5 + ((Bl r) - 1))))) C dX0_uncovered_67 68 rfl (z_or _ _) ?_
          refine g_istore_n (lv' := [(3, .int (nI ((unQ (Ex (((To r) * 5) + ((Tp r) - 1))) ((Bl r) - 1) q) ||| (1 * 2 ^ (q * 5 + ((Bl r) - 1)))))), (5, .int (nI q)), (4, .int (nI (Ex ((To r) * 5 + ((Tp r) - 1))))), (0, .ref e0), (1, .ref h0), (2, .int (nI r))]) C dX0_uncovered_68 rfl 69 rfl (by decide) rfl ?_
          refine g_iinc (lv' := [(5, .int (nI (q + 1))), (3, .int (nI ((unQ (Ex (((To r) * 5) + ((Tp r) - 1))) ((Bl r) - 1) q) ||| (1 * 2 ^ (q * 5 + ((Bl r) - 1)))))), (4, .int (nI (Ex ((To r) * 5 + ((Tp r) - 1))))), (0, .ref e0), (1, .ref h0), (2, .int (nI r))]) C dX0_uncovered_69 72 rfl 1 rfl (by decide) rfl ?_
          refine g_goto C dX0_uncovered_72 37 (by decide) ?_
          refine go_lv (lv' := [(5, .int (nI (q + 1))), (4, .int (nI (Ex ((To r) * 5 + ((Tp r) - 1))))), (3, .int (nI ((unQ (Ex (((To r) * 5) + ((Tp r) - 1))) ((Bl r) - 1) q) ||| (1 * 2 ^ (q * 5 + ((Bl r) - 1)))))), (0, .ref e0), (1, .ref h0), (2, .int (nI r))]) [0, 2, 1, 3, 4, 5] rfl ?_
          have e_4 : (unQ (Ex (((To r) * 5) + ((Tp r) - 1))) ((Bl r) - 1) (q + 1)) = ((unQ (Ex (((To r) * 5) + ((Tp r) - 1))) ((Bl r) - 1) q) ||| (1 * 2 ^ (q * 5 + ((Bl r) - 1)))) := by first | with_reducible rfl | (simp [unQ, *])
          refine go_eq (lv' := [(5, .int (nI (q + 1))), (4, .int (nI (Ex ((To r) * 5 + ((Tp r) - 1))))), (3, .int (nI (unQ (Ex (((To r) * 5) + ((Tp r) - 1))) ((Bl r) - 1) (q + 1)))), (0, .ref e0), (1, .ref h0), (2, .int (nI r))]) (ws' := [ob e0 0 [.ref qx, .ref qa, .ref qw, .int (nI ci), .int (nI bo), .int (oI sh)], aN (eY E) qx 25 Ex, ob h0 4 [.int (nI n), .int (nI m), .int (nI z), .int (nI st), .ref qh, .ref qt, .ref qp, .ref qb], aN (eY E) qt 30 To, aO (eY E) qp 30 Tp, aO (eY E) qb 30 Bl]) (by first | with_reducible rfl | (simp only [e_4, oI_s, oI_0, bI_1, bI_0, and_self, reduceIte]; done)) rfl (by first | with_reducible rfl | (simp only [oI_s, oI_0, bI_1, bI_0, and_self, reduceIte]; done) | rfl) ?_
          exact ih_q (by omega)
    have e_5 : (unQ (Ex (((To r) * 5) + ((Tp r) - 1))) ((Bl r) - 1) 0) = 0 := by first | with_reducible rfl | (rfl)
    refine go_eq (lv' := [(5, .int (nI 0)), (4, .int (nI (Ex ((To r) * 5 + ((Tp r) - 1))))), (3, .int (nI (unQ (Ex (((To r) * 5) + ((Tp r) - 1))) ((Bl r) - 1) 0))), (0, .ref e0), (1, .ref h0), (2, .int (nI r))]) (ws' := [ob e0 0 [.ref qx, .ref qa, .ref qw, .int (nI ci), .int (nI bo), .int (oI sh)], aN (eY E) qx 25 Ex, ob h0 4 [.int (nI n), .int (nI m), .int (nI z), .int (nI st), .ref qh, .ref qt, .ref qp, .ref qb], aN (eY E) qt 30 To, aO (eY E) qp 30 Tp, aO (eY E) qb 30 Bl]) (by first | with_reducible rfl | (simp only [e_5, oI_s, oI_0, bI_1, bI_0, and_self, reduceIte]; done)) rfl (by first | with_reducible rfl | (simp only [oI_s, oI_0, bI_1, bI_0, and_self, reduceIte]; done) | rfl) ?_
    exact L37 0 (by omega)
set_option maxHeartbeats 4000000 in
set_option maxRecDepth 100000 in
theorem c_X0_findAhead (l : Launch) (D : va_G) (cy : Nat → ClassId) (e0 : Nat) (qx : Nat) (qa : Nat) (qw : Nat) (ci : Nat) (bo : Nat) (sh : Nat) (Ex : Nat → Nat) (Ah : Nat → Nat) (h0 : Nat) (n : Nat) (m : Nat) (z : Nat) (st : Nat) (qh : Nat) (qt : Nat) (qp : Nat) (qb : Nat) (Hd : Nat → Nat) (To : Nat → Nat) (Tp : Nat → Nat) (Bl : Nat → Nat) (hEx : ∀ k, Ex k < 32) (hR : ∀ r, Hd r < 25 ∧ To r < 5 ∧ Tp r ≤ 5 ∧ Bl r ≤ 5) (hTB : ∀ r, Tp r = 0 → Bl r = 0) (hz : z ≤ 30) : CoV l yX0_findAhead wsX0_findAhead 2 46 D cy [ob e0 0 [.ref qx, .ref qa, .ref qw, .int (nI ci), .int (nI bo), .int (oI sh)], aN cy qx 25 Ex, aN cy qa 25 Ah, ob h0 4 [.int (nI n), .int (nI m), .int (nI z), .int (nI st), .ref qh, .ref qt, .ref qp, .ref qb], aN cy qh 30 Hd, aN cy qt 30 To, aO cy qp 30 Tp, aO cy qb 30 Bl] [.ref e0, .ref h0] [ob e0 0 [.ref qx, .ref qa, .ref qw, .int (nI ci), .int (nI bo), .int (oI sh)], aN cy qx 25 Ex, aN cy qa 25 (wsM (agR Ex Hd To Tp Bl z) 25), ob h0 4 [.int (nI n), .int (nI m), .int (nI z), .int (nI st), .ref qh, .ref qt, .ref qp, .ref qb], aN cy qh 30 Hd, aN cy qt 30 To, aO cy qp 30 Tp, aO cy qb 30 Bl] := by
  refine met_v (cc := cX0_findAhead) (maxL := 4) (own := RX0) (lv := [(0, .ref e0), (1, .ref h0)]) (by decide) rfl rfl rfl (Nat.le_of_ble_eq_true rfl) (fun E e1 e2 e3 C hret => ?_)
  subst e1; subst e2; subst e3
  have iX0 : ∀ w ∈ wsX00, w ∈ wsX0_findAhead := fun _ h => List.mem_cons_of_mem _ (List.mem_append_left _ (List.mem_append_right _ h))
  have iX4 : ∀ w ∈ wsX40, w ∈ wsX0_findAhead := fun _ h => List.mem_cons_of_mem _ (List.mem_append_right _ h)
  refine g_aload_n C dX0_findAhead_0 rfl 1 rfl 0 rfl ?_
  refine g_get C iX0 0 rfl rfl 1 (by decide) (C.1.2.2.2.2 (.fieldLink RX0 15 "StackRuns$Heads" "ahead" "[I") (List.mem_of_getElem? (i := 1) rfl)) rfl dX0_findAhead_1 4 rfl ?_
  refine g_iconst (v := nI 0) C dX0_findAhead_4 (by decide) 5 rfl ?_
  refine g_cSv (ws2 := [ob e0 0 [.ref qx, .ref qa, .ref qw, .int (nI ci), .int (nI bo), .int (oI sh)], aN (eY E) qx 25 Ex, aN (eY E) qa 25 (fun _ => 0), ob h0 4 [.int (nI n), .int (nI m), .int (nI z), .int (nI st), .ref qh, .ref qt, .ref qp, .ref qb], aN (eY E) qh 30 Hd, aN (eY E) qt 30 To, aO (eY E) qp 30 Tp, aO (eY E) qb 30 Bl]) (As := [.ref qa, .int (nI 0)]) (st := []) (wsc := [aN (eY E) qa 25 Ah]) (wr := [ob e0 0 [.ref qx, .ref qa, .ref qw, .int (nI ci), .int (nI bo), .int (oI sh)], aN (eY E) qx 25 Ex, ob h0 4 [.int (nI n), .int (nI m), .int (nI z), .int (nI st), .ref qh, .ref qt, .ref qp, .ref qb], aN (eY E) qh 30 Hd, aN (eY E) qt 30 To, aO (eY E) qp 30 Tp, aO (eY E) qb 30 Bl]) C (c_J7_fill_53178 (eL E) (eD E) (eY E) qa 25 Ah 0 (by decide)) 2 gX0_findAhead_J7_fill_53178 rfl (by decide +kernel) (by decide) ⟨Nat.zero_le _, Nat.zero_le _⟩ rfl rfl (Nat.le_of_ble_eq_true rfl) [2] [0, 1, 3, 4, 5, 6, 7] [0, 1, 7, 2, 3, 4, 5, 6] rfl rfl (by decide) (by decide) rfl (by decide) dX0_findAhead_5 8 rfl ?_
  refine g_iconst (v := nI 0) C dX0_findAhead_8 (by decide) 9 rfl ?_
  refine g_istore_n (lv' := [(2, .int (nI 0)), (0, .ref e0), (1, .ref h0)]) C dX0_findAhead_9 rfl 10 rfl (by decide) rfl ?_
  have L10 : ∀ r, r ≤ z → Go E 0 0 10 [(2, .int (nI r)), (0, .ref e0), (1, .ref h0)] [] [ob e0 0 [.ref qx, .ref qa, .ref qw, .int (nI ci), .int (nI bo), .int (oI sh)], aN (eY E) qx 25 Ex, aN (eY E) qa 25 (agR Ex Hd To Tp Bl r), ob h0 4 [.int (nI n), .int (nI m), .int (nI z), .int (nI st), .ref qh, .ref qt, .ref qp, .ref qb], aN (eY E) qh 30 Hd, aN (eY E) qt 30 To, aO (eY E) qp 30 Tp, aO (eY E) qb 30 Bl] := by
    refine go_for z (fun r => Go E 0 0 10 [(2, .int (nI r)), (0, .ref e0), (1, .ref h0)] [] [ob e0 0 [.ref qx, .ref qa, .ref qw, .int (nI ci), .int (nI bo), .int (oI sh)], aN (eY E) qx 25 Ex, aN (eY E) qa 25 (agR Ex Hd To Tp Bl r), ob h0 4 [.int (nI n), .int (nI m), .int (nI z), .int (nI st), .ref qh, .ref qt, .ref qp, .ref qb], aN (eY E) qh 30 Hd, aN (eY E) qt 30 To, aO (eY E) qp 30 Tp, aO (eY E) qb 30 Bl]) (fun r hi_r ih_r => ?_)
    have hR1 := hR r
    refine g_iload_n C dX0_findAhead_10 rfl 11 rfl 0 rfl ?_
    refine g_aload_n C dX0_findAhead_11 rfl 12 rfl 2 rfl ?_
    refine g_getN C iX4 3 rfl rfl 2 (by decide) (nf_RX0_64 C.2.2.1 _) rfl dX0_findAhead_12 15 rfl ?_
    refine g_icmp_ge (X := z ≤ r) C dX0_findAhead_15 72 (by decide) 18 rfl (nI_leI (by omega) (by omega)) ?_ ?_
    · intro h15
      have x_r : r = z := by omega
      try rw [x_r]
      refine g_iconst (v := nI 0) C dX0_findAhead_72 (by decide) 73 rfl ?_
      refine g_istore_n (lv' := [(2, .int (nI 0)), (0, .ref e0), (1, .ref h0)]) C dX0_findAhead_73 rfl 74 rfl (by decide) rfl ?_
      have L74 : ∀ m_, m_ ≤ 25 → Go E 0 0 74 [(2, .int (nI m_)), (0, .ref e0), (1, .ref h0)] [] [ob e0 0 [.ref qx, .ref qa, .ref qw, .int (nI ci), .int (nI bo), .int (oI sh)], aN (eY E) qx 25 Ex, aN (eY E) qa 25 (wsM (agR Ex Hd To Tp Bl z) m_), ob h0 4 [.int (nI n), .int (nI m), .int (nI z), .int (nI st), .ref qh, .ref qt, .ref qp, .ref qb], aN (eY E) qh 30 Hd, aN (eY E) qt 30 To, aO (eY E) qp 30 Tp, aO (eY E) qb 30 Bl] := by
        refine go_for 25 (fun m_ => Go E 0 0 74 [(2, .int (nI m_)), (0, .ref e0), (1, .ref h0)] [] [ob e0 0 [.ref qx, .ref qa, .ref qw, .int (nI ci), .int (nI bo), .int (oI sh)], aN (eY E) qx 25 Ex, aN (eY E) qa 25 (wsM (agR Ex Hd To Tp Bl z) m_), ob h0 4 [.int (nI n), .int (nI m), .int (nI z), .int (nI st), .ref qh, .ref qt, .ref qp, .ref qb], aN (eY E) qh 30 Hd, aN (eY E) qt 30 To, aO (eY E) qp 30 Tp, aO (eY E) qb 30 Bl]) (fun m_ hi_m_ ih_m_ => ?_)
        have hX := wsM_lt (agR_lt (Ex := Ex) hR z) m_
        refine g_iload_n C dX0_findAhead_74 rfl 75 rfl 0 rfl ?_
        refine g_bipush (v := nI 25) C dX0_findAhead_75 (by decide) 77 rfl ?_
        refine g_icmp_ge (X := 25 ≤ m_) C dX0_findAhead_77 128 (by decide) 80 rfl (nI_leI (by omega) (by omega)) ?_ ?_
        · intro h77
          have x_m_ : m_ = 25 := by omega
          try rw [x_m_]
          exact hret _ _ dX0_findAhead_128
        · intro h77
          refine g_iconst (v := nI 0) C dX0_findAhead_80 (by decide) 81 rfl ?_
          refine g_istore_n (lv' := [(3, .int (nI 0)), (2, .int (nI m_)), (0, .ref e0), (1, .ref h0)]) C dX0_findAhead_81 rfl 82 rfl (by decide) rfl ?_
          have L82 : ∀ hd, hd ≤ 25 → Go E 0 0 82 [(3, .int (nI hd)), (2, .int (nI m_)), (0, .ref e0), (1, .ref h0)] [] [ob e0 0 [.ref qx, .ref qa, .ref qw, .int (nI ci), .int (nI bo), .int (oI sh)], aN (eY E) qx 25 Ex, aN (eY E) qa 25 (wsQ (wsM (agR Ex Hd To Tp Bl z) m_) m_ hd), ob h0 4 [.int (nI n), .int (nI m), .int (nI z), .int (nI st), .ref qh, .ref qt, .ref qp, .ref qb], aN (eY E) qh 30 Hd, aN (eY E) qt 30 To, aO (eY E) qp 30 Tp, aO (eY E) qb 30 Bl] := by
            refine go_for 25 (fun hd => Go E 0 0 82 [(3, .int (nI hd)), (2, .int (nI m_)), (0, .ref e0), (1, .ref h0)] [] [ob e0 0 [.ref qx, .ref qa, .ref qw, .int (nI ci), .int (nI bo), .int (oI sh)], aN (eY E) qx 25 Ex, aN (eY E) qa 25 (wsQ (wsM (agR Ex Hd To Tp Bl z) m_) m_ hd), ob h0 4 [.int (nI n), .int (nI m), .int (nI z), .int (nI st), .ref qh, .ref qt, .ref qp, .ref qb], aN (eY E) qh 30 Hd, aN (eY E) qt 30 To, aO (eY E) qp 30 Tp, aO (eY E) qb 30 Bl]) (fun hd hi_hd ih_hd => ?_)
            have hY := wsQ_lt hX m_ hd hd
            refine g_iload_n C dX0_findAhead_82 rfl 83 rfl 0 rfl ?_
            refine g_bipush (v := nI 25) C dX0_findAhead_83 (by decide) 85 rfl ?_
            refine g_icmp_ge (X := 25 ≤ hd) C dX0_findAhead_85 122 (by decide) 88 rfl (nI_leI (by omega) (by omega)) ?_ ?_
            · intro h85
              have x_hd : hd = 25 := by omega
              try rw [x_hd]
              refine g_iinc (lv' := [(2, .int (nI (m_ + 1))), (3, .int (nI 25)), (0, .ref e0), (1, .ref h0)]) C dX0_findAhead_122 125 rfl 1 rfl (by decide) rfl ?_
              refine g_goto C dX0_findAhead_125 74 (by decide) ?_
              refine go_lv (lv' := [(2, .int (nI (m_ + 1))), (0, .ref e0), (1, .ref h0)]) [0, 2, 3] rfl ?_
              have e_1 : (wsM (agR Ex Hd To Tp Bl z) (m_ + 1)) = (wsQ (wsM (agR Ex Hd To Tp Bl z) m_) m_ 25) := by first | with_reducible rfl | (rfl)
              refine go_eq (lv' := [(2, .int (nI (m_ + 1))), (0, .ref e0), (1, .ref h0)]) (ws' := [ob e0 0 [.ref qx, .ref qa, .ref qw, .int (nI ci), .int (nI bo), .int (oI sh)], aN (eY E) qx 25 Ex, aN (eY E) qa 25 (wsM (agR Ex Hd To Tp Bl z) (m_ + 1)), ob h0 4 [.int (nI n), .int (nI m), .int (nI z), .int (nI st), .ref qh, .ref qt, .ref qp, .ref qb], aN (eY E) qh 30 Hd, aN (eY E) qt 30 To, aO (eY E) qp 30 Tp, aO (eY E) qb 30 Bl]) (by first | with_reducible rfl | (simp only [oI_s, oI_0, bI_1, bI_0, and_self, reduceIte]; done) | rfl) rfl (by first | with_reducible rfl | (simp only [e_1, oI_s, oI_0, bI_1, bI_0, and_self, reduceIte]; done)) ?_
              exact ih_m_ (by omega)
            · intro h85
              refine g_aload_n C dX0_findAhead_88 rfl 89 rfl 2 rfl ?_
              refine g_get C iX0 0 rfl rfl 1 (by decide) (C.1.2.2.2.2 (.fieldLink RX0 15 "StackRuns$Heads" "ahead" "[I") (List.mem_of_getElem? (i := 1) rfl)) rfl dX0_findAhead_89 92 rfl ?_
              refine g_iload_n C dX0_findAhead_92 rfl 93 rfl 0 rfl ?_
              refine g_iald (i := hd) C 2 rfl (by omega) (by decide) dX0_findAhead_93 94 rfl ?_
              refine g_iload_n C dX0_findAhead_94 rfl 95 rfl 1 rfl ?_
              refine g_cSNi (ws2 := [ob e0 0 [.ref qx, .ref qa, .ref qw, .int (nI ci), .int (nI bo), .int (oI sh)], aN (eY E) qx 25 Ex, aN (eY E) qa 25 (wsQ (wsM (agR Ex Hd To Tp Bl z) m_) m_ hd), ob h0 4 [.int (nI n), .int (nI m), .int (nI z), .int (nI st), .ref qh, .ref qt, .ref qp, .ref qb], aN (eY E) qh 30 Hd, aN (eY E) qt 30 To, aO (eY E) qp 30 Tp, aO (eY E) qb 30 Bl]) (As := [.int (nI ((wsQ (wsM (agR Ex Hd To Tp Bl z) m_) m_ hd) hd)), .int (nI m_)]) (st := []) (wsc := []) (wr := [ob e0 0 [.ref qx, .ref qa, .ref qw, .int (nI ci), .int (nI bo), .int (oI sh)], aN (eY E) qx 25 Ex, aN (eY E) qa 25 (wsQ (wsM (agR Ex Hd To Tp Bl z) m_) m_ hd), ob h0 4 [.int (nI n), .int (nI m), .int (nI z), .int (nI st), .ref qh, .ref qt, .ref qp, .ref qb], aN (eY E) qh 30 Hd, aN (eY E) qt 30 To, aO (eY E) qp 30 Tp, aO (eY E) qb 30 Bl]) C (c_X6_hasBit (eL E) (eD E) (eY E) ((wsQ (wsM (agR Ex Hd To Tp Bl z) m_) m_ hd) hd) m_ (by omega) (by omega)) 2 ggX0_findAhead_X6_hasBit (nm_RX0_84 C.2.2.1) (List.mem_of_getElem? (i := 7) rfl) (List.mem_of_getElem? (i := 15) rfl) rfl (by decide +kernel) (by decide) ⟨Nat.zero_le _, Nat.zero_le _⟩ rfl rfl (Nat.le_of_ble_eq_true rfl) [] [0, 1, 2, 3, 4, 5, 6, 7] [0, 1, 2, 3, 4, 5, 6, 7] rfl rfl (by decide) (by decide) rfl (by decide) dX0_findAhead_95 98 rfl ?_
              refine g_if_eq (X := ((wsQ (wsM (agR Ex Hd To Tp Bl z) m_) m_ hd) hd).testBit m_ = false) C dX0_findAhead_98 116 (by decide) 101 rfl (bI_eq0 _) ?_ ?_
              · intro h98
                refine g_iinc (lv' := [(3, .int (nI (hd + 1))), (2, .int (nI m_)), (0, .ref e0), (1, .ref h0)]) C dX0_findAhead_116 119 rfl 0 rfl (by decide) rfl ?_
                refine g_goto C dX0_findAhead_119 82 (by decide) ?_
                have e_2 : (wsQ (wsM (agR Ex Hd To Tp Bl z) m_) m_ (hd + 1)) = (wsQ (wsM (agR Ex Hd To Tp Bl z) m_) m_ hd) := by first | with_reducible rfl | (simp [wsQ, *])
                refine go_eq (lv' := [(3, .int (nI (hd + 1))), (2, .int (nI m_)), (0, .ref e0), (1, .ref h0)]) (ws' := [ob e0 0 [.ref qx, .ref qa, .ref qw, .int (nI ci), .int (nI bo), .int (oI sh)], aN (eY E) qx 25 Ex, aN (eY E) qa 25 (wsQ (wsM (agR Ex Hd To Tp Bl z) m_) m_ (hd + 1)), ob h0 4 [.int (nI n), .int (nI m), .int (nI z), .int (nI st), .ref qh, .ref qt, .ref qp, .ref qb], aN (eY E) qh 30 Hd, aN (eY E) qt 30 To, aO (eY E) qp 30 Tp, aO (eY E) qb 30 Bl]) (by first | with_reducible rfl | (simp only [oI_s, oI_0, bI_1, bI_0, and_self, reduceIte]; done) | rfl) rfl (by first | with_reducible rfl | (simp only [e_2, oI_s, oI_0, bI_1, bI_0, and_self, reduceIte]; done)) ?_
                exact ih_hd (by omega)
              · intro h98
                have h98 : ((wsQ (wsM (agR Ex Hd To Tp Bl z) m_) m_ hd) hd).testBit m_ = true := by simpa using h98
                refine g_aload_n C dX0_findAhead_101 rfl 102 rfl 2 rfl ?_
                refine g_get C iX0 0 rfl rfl 1 (by decide) (C.1.2.2.2.2 (.fieldLink RX0 15 "StackRuns$Heads" "ahead" "[I") (List.mem_of_getElem? (i := 1) rfl)) rfl dX0_findAhead_102 105 rfl ?_
                refine g_iload_n C dX0_findAhead_105 rfl 106 rfl 0 rfl ?_
                refine g_dup2 C dX0_findAhead_106 rfl rfl 107 rfl ?_
                refine g_iald (i := hd) C 2 rfl (by omega) (by decide) dX0_findAhead_107 108 rfl ?_
                refine g_aload_n C dX0_findAhead_108 rfl 109 rfl 2 rfl ?_
                refine g_get C iX0 0 rfl rfl 1 (by decide) (C.1.2.2.2.2 (.fieldLink RX0 15 "StackRuns$Heads" "ahead" "[I") (List.mem_of_getElem? (i := 1) rfl)) rfl dX0_findAhead_109 112 rfl ?_
                refine g_iload_n C dX0_findAhead_112 rfl 113 rfl 1 rfl ?_
                refine g_iald (i := m_) C 2 rfl (by omega) (by decide) dX0_findAhead_113 114 rfl ?_
                refine g_ior (z := nI (((wsQ (wsM (agR Ex Hd To Tp Bl z) m_) m_ hd) hd) ||| ((wsQ (wsM (agR Ex Hd To Tp Bl z) m_) m_ hd) m_))) C dX0_findAhead_114 115 rfl (z_or _ _) ?_
                refine g_iast (ws' := [ob e0 0 [.ref qx, .ref qa, .ref qw, .int (nI ci), .int (nI bo), .int (oI sh)], aN (eY E) qx 25 Ex, aN (eY E) qa 25 (up (wsQ (wsM (agR Ex Hd To Tp Bl z) m_) m_ hd) hd (((wsQ (wsM (agR Ex Hd To Tp Bl z) m_) m_ hd) hd) ||| ((wsQ (wsM (agR Ex Hd To Tp Bl z) m_) m_ hd) m_))), ob h0 4 [.int (nI n), .int (nI m), .int (nI z), .int (nI st), .ref qh, .ref qt, .ref qp, .ref qb], aN (eY E) qh 30 Hd, aN (eY E) qt 30 To, aO (eY E) qp 30 Tp, aO (eY E) qb 30 Bl]) (i := hd) C 2 rfl (by omega) (by decide) dX0_findAhead_115 116 rfl (upd_N _ _ _) rfl ?_
                refine g_iinc (lv' := [(3, .int (nI (hd + 1))), (2, .int (nI m_)), (0, .ref e0), (1, .ref h0)]) C dX0_findAhead_116 119 rfl 0 rfl (by decide) rfl ?_
                refine g_goto C dX0_findAhead_119 82 (by decide) ?_
                have e_3 : (wsQ (wsM (agR Ex Hd To Tp Bl z) m_) m_ (hd + 1)) = (up (wsQ (wsM (agR Ex Hd To Tp Bl z) m_) m_ hd) hd (((wsQ (wsM (agR Ex Hd To Tp Bl z) m_) m_ hd) hd) ||| ((wsQ (wsM (agR Ex Hd To Tp Bl z) m_) m_ hd) m_))) := by first | with_reducible rfl | (simp [wsQ, *])
                refine go_eq (lv' := [(3, .int (nI (hd + 1))), (2, .int (nI m_)), (0, .ref e0), (1, .ref h0)]) (ws' := [ob e0 0 [.ref qx, .ref qa, .ref qw, .int (nI ci), .int (nI bo), .int (oI sh)], aN (eY E) qx 25 Ex, aN (eY E) qa 25 (wsQ (wsM (agR Ex Hd To Tp Bl z) m_) m_ (hd + 1)), ob h0 4 [.int (nI n), .int (nI m), .int (nI z), .int (nI st), .ref qh, .ref qt, .ref qp, .ref qb], aN (eY E) qh 30 Hd, aN (eY E) qt 30 To, aO (eY E) qp 30 Tp, aO (eY E) qb 30 Bl]) (by first | with_reducible rfl | (simp only [oI_s, oI_0, bI_1, bI_0, and_self, reduceIte]; done) | rfl) rfl (by first | with_reducible rfl | (simp only [e_3, oI_s, oI_0, bI_1, bI_0, and_self, reduceIte]; done)) ?_
                exact ih_hd (by omega)
          have e_4 : (wsQ (wsM (agR Ex Hd To Tp Bl z) m_) m_ 0) = (wsM (agR Ex Hd To Tp Bl z) m_) := by first | with_reducible rfl | (rfl)
          refine go_eq (lv' := [(3, .int (nI 0)), (2, .int (nI m_)), (0, .ref e0), (1, .ref h0)]) (ws' := [ob e0 0 [.ref qx, .ref qa, .ref qw, .int (nI ci), .int (nI bo), .int (oI sh)], aN (eY E) qx 25 Ex, aN (eY E) qa 25 (wsQ (wsM (agR Ex Hd To Tp Bl z) m_) m_ 0), ob h0 4 [.int (nI n), .int (nI m), .int (nI z), .int (nI st), .ref qh, .ref qt, .ref qp, .ref qb], aN (eY E) qh 30 Hd, aN (eY E) qt 30 To, aO (eY E) qp 30 Tp, aO (eY E) qb 30 Bl]) (by first | with_reducible rfl | (simp only [oI_s, oI_0, bI_1, bI_0, and_self, reduceIte]; done) | rfl) rfl (by first | with_reducible rfl | (simp only [e_4, oI_s, oI_0, bI_1, bI_0, and_self, reduceIte]; done)) ?_
          exact L82 0 (by omega)
      have e_5 : (wsM (agR Ex Hd To Tp Bl z) 0) = (agR Ex Hd To Tp Bl z) := by first | with_reducible rfl | (rfl)
      refine go_eq (lv' := [(2, .int (nI 0)), (0, .ref e0), (1, .ref h0)]) (ws' := [ob e0 0 [.ref qx, .ref qa, .ref qw, .int (nI ci), .int (nI bo), .int (oI sh)], aN (eY E) qx 25 Ex, aN (eY E) qa 25 (wsM (agR Ex Hd To Tp Bl z) 0), ob h0 4 [.int (nI n), .int (nI m), .int (nI z), .int (nI st), .ref qh, .ref qt, .ref qp, .ref qb], aN (eY E) qh 30 Hd, aN (eY E) qt 30 To, aO (eY E) qp 30 Tp, aO (eY E) qb 30 Bl]) (by first | with_reducible rfl | (simp only [oI_s, oI_0, bI_1, bI_0, and_self, reduceIte]; done) | rfl) rfl (by first | with_reducible rfl | (simp only [e_5, oI_s, oI_0, bI_1, bI_0, and_self, reduceIte]; done)) ?_
      exact L74 0 (by omega)
    · intro h15
      refine g_aload_n C dX0_findAhead_18 rfl 19 rfl 2 rfl ?_
      refine g_getN C iX4 3 rfl rfl 6 (by decide) (nf_RX0_67 C.2.2.1 _) rfl dX0_findAhead_19 22 rfl ?_
      refine g_iload_n C dX0_findAhead_22 rfl 23 rfl 0 rfl ?_
      refine g_iald (i := r) C 6 rfl (by omega) (by decide) dX0_findAhead_23 24 rfl ?_
      refine g_iconst (v := (-1)) C dX0_findAhead_24 (by decide) 25 rfl ?_
      refine g_icmp_eq (X := Tp r = 0) C dX0_findAhead_25 66 (by decide) 28 rfl (oI_eq (by omega)) ?_ ?_
      · intro h25
        refine g_iinc (lv' := [(2, .int (nI (r + 1))), (0, .ref e0), (1, .ref h0)]) C dX0_findAhead_66 69 rfl 0 rfl (by decide) rfl ?_
        refine g_goto C dX0_findAhead_69 10 (by decide) ?_
        have e_6 : (agR Ex Hd To Tp Bl (r + 1)) = (agR Ex Hd To Tp Bl r) := by first | with_reducible rfl | (simp [agR, *])
        refine go_eq (lv' := [(2, .int (nI (r + 1))), (0, .ref e0), (1, .ref h0)]) (ws' := [ob e0 0 [.ref qx, .ref qa, .ref qw, .int (nI ci), .int (nI bo), .int (oI sh)], aN (eY E) qx 25 Ex, aN (eY E) qa 25 (agR Ex Hd To Tp Bl (r + 1)), ob h0 4 [.int (nI n), .int (nI m), .int (nI z), .int (nI st), .ref qh, .ref qt, .ref qp, .ref qb], aN (eY E) qh 30 Hd, aN (eY E) qt 30 To, aO (eY E) qp 30 Tp, aO (eY E) qb 30 Bl]) (by first | with_reducible rfl | (simp only [oI_s, oI_0, bI_1, bI_0, and_self, reduceIte]; done) | rfl) rfl (by first | with_reducible rfl | (simp only [e_6, oI_s, oI_0, bI_1, bI_0, and_self, reduceIte]; done)) ?_
        exact ih_r (by omega)
      · intro h25
        refine g_aload_n C dX0_findAhead_28 rfl 29 rfl 1 rfl ?_
        refine g_get C iX0 0 rfl rfl 1 (by decide) (C.1.2.2.2.2 (.fieldLink RX0 15 "StackRuns$Heads" "ahead" "[I") (List.mem_of_getElem? (i := 1) rfl)) rfl dX0_findAhead_29 32 rfl ?_
        refine g_aload_n C dX0_findAhead_32 rfl 33 rfl 2 rfl ?_
        refine g_getN C iX4 3 rfl rfl 4 (by decide) (nf_RX0_70 C.2.2.1 _) rfl dX0_findAhead_33 36 rfl ?_
        refine g_iload_n C dX0_findAhead_36 rfl 37 rfl 0 rfl ?_
        refine g_iald (i := r) C 4 rfl (by omega) (by decide) dX0_findAhead_37 38 rfl ?_
        refine g_dup2 C dX0_findAhead_38 rfl rfl 39 rfl ?_
        refine g_iald (i := (Hd r)) C 2 rfl (by omega) (by decide) dX0_findAhead_39 40 rfl ?_
        refine g_iconst (v := nI 1) C dX0_findAhead_40 (by decide) 41 rfl ?_
        refine g_aload_n C dX0_findAhead_41 rfl 42 rfl 2 rfl ?_
        refine g_getN C iX4 3 rfl rfl 5 (by decide) (nf_RX0_73 C.2.2.1 _) rfl dX0_findAhead_42 45 rfl ?_
        refine g_iload_n C dX0_findAhead_45 rfl 46 rfl 0 rfl ?_
        refine g_iald (i := r) C 5 rfl (by omega) (by decide) dX0_findAhead_46 47 rfl ?_
        refine g_aload_n C dX0_findAhead_47 rfl 48 rfl 2 rfl ?_
        refine g_getN C iX4 3 rfl rfl 6 (by decide) (nf_RX0_67 C.2.2.1 _) rfl dX0_findAhead_48 51 rfl ?_
        refine g_iload_n C dX0_findAhead_51 rfl 52 rfl 0 rfl ?_
        refine g_iald (i := r) C 6 rfl (by omega) (by decide) dX0_findAhead_52 53 rfl ?_
        refine go_eq rfl (st' := [.int (nI ((Tp r) - 1)), .int (nI (To r)), .int (nI 1), .int (nI ((agR Ex Hd To Tp Bl r) (Hd r))), .int (nI (Hd r)), .ref qa]) (ws' := [ob e0 0 [.ref qx, .ref qa, .ref qw, .int (nI ci), .int (nI bo), .int (oI sh)], aN (eY E) qx 25 Ex, aN (eY E) qa 25 (agR Ex Hd To Tp Bl r), ob h0 4 [.int (nI n), .int (nI m), .int (nI z), .int (nI st), .ref qh, .ref qt, .ref qp, .ref qb], aN (eY E) qh 30 Hd, aN (eY E) qt 30 To, aO (eY E) qp 30 Tp, aO (eY E) qb 30 Bl]) (by rw [oI_pos (a := (Tp r)) (by omega)]) (by rfl) ?_
        refine g_cSNi (ws2 := [ob e0 0 [.ref qx, .ref qa, .ref qw, .int (nI ci), .int (nI bo), .int (oI sh)], aN (eY E) qx 25 Ex, aN (eY E) qa 25 (agR Ex Hd To Tp Bl r), ob h0 4 [.int (nI n), .int (nI m), .int (nI z), .int (nI st), .ref qh, .ref qt, .ref qp, .ref qb], aN (eY E) qh 30 Hd, aN (eY E) qt 30 To, aO (eY E) qp 30 Tp, aO (eY E) qb 30 Bl]) (As := [.int (nI (To r)), .int (nI ((Tp r) - 1))]) (st := [.int (nI 1), .int (nI ((agR Ex Hd To Tp Bl r) (Hd r))), .int (nI (Hd r)), .ref qa]) (wsc := []) (wr := [ob e0 0 [.ref qx, .ref qa, .ref qw, .int (nI ci), .int (nI bo), .int (oI sh)], aN (eY E) qx 25 Ex, aN (eY E) qa 25 (agR Ex Hd To Tp Bl r), ob h0 4 [.int (nI n), .int (nI m), .int (nI z), .int (nI st), .ref qh, .ref qt, .ref qp, .ref qb], aN (eY E) qh 30 Hd, aN (eY E) qt 30 To, aO (eY E) qp 30 Tp, aO (eY E) qb 30 Bl]) C (c_X6_headOf (eL E) (eD E) (eY E) (To r) ((Tp r) - 1) ) 2 ggX0_findAhead_X6_headOf (nm_RX0_76 C.2.2.1) (List.mem_of_getElem? (i := 7) rfl) (List.mem_of_getElem? (i := 6) rfl) rfl (by decide +kernel) (by decide) ⟨Nat.zero_le _, Nat.zero_le _⟩ rfl rfl (Nat.le_of_ble_eq_true rfl) [] [0, 1, 2, 3, 4, 5, 6, 7] [0, 1, 2, 3, 4, 5, 6, 7] rfl rfl (by decide) (by decide) rfl (by decide) dX0_findAhead_53 56 rfl ?_
        refine g_ishl (z := nI (1 * 2 ^ ((To r) * 5 + ((Tp r) - 1)))) C dX0_findAhead_56 57 rfl (z_shl (by omega) (by have := one25 (p := (To r) * 5 + (Tp r - 1)) (by omega); omega)) ?_
        refine g_aload_n C dX0_findAhead_57 rfl 58 rfl 1 rfl ?_
        refine g_aload_n C dX0_findAhead_58 rfl 59 rfl 2 rfl ?_
        refine g_iload_n C dX0_findAhead_59 rfl 60 rfl 0 rfl ?_
        refine g_cVi (ws2 := [ob e0 0 [.ref qx, .ref qa, .ref qw, .int (nI ci), .int (nI bo), .int (oI sh)], aN (eY E) qx 25 Ex, aN (eY E) qa 25 (agR Ex Hd To Tp Bl r), ob h0 4 [.int (nI n), .int (nI m), .int (nI z), .int (nI st), .ref qh, .ref qt, .ref qp, .ref qb], aN (eY E) qh 30 Hd, aN (eY E) qt 30 To, aO (eY E) qp 30 Tp, aO (eY E) qb 30 Bl]) (As := [.ref h0, .int (nI r)]) (st := [.int (nI (1 * 2 ^ ((To r) * 5 + ((Tp r) - 1)))), .int (nI ((agR Ex Hd To Tp Bl r) (Hd r))), .int (nI (Hd r)), .ref qa]) (wsc := [ob e0 0 [.ref qx, .ref qa, .ref qw, .int (nI ci), .int (nI bo), .int (oI sh)], aN (eY E) qx 25 Ex, ob h0 4 [.int (nI n), .int (nI m), .int (nI z), .int (nI st), .ref qh, .ref qt, .ref qp, .ref qb], aN (eY E) qt 30 To, aO (eY E) qp 30 Tp, aO (eY E) qb 30 Bl]) (wr := [aN (eY E) qa 25 (agR Ex Hd To Tp Bl r), aN (eY E) qh 30 Hd]) C (c_X0_uncovered (eL E) (eD E) (eY E) e0 qx qa qw ci bo sh Ex h0 n m z st qh qt qp qb To Tp Bl r (by first | assumption | exact exF_lt _) (by first | assumption | exact fun r => (hR r).2) (by assumption) (by omega)) 2 gX0_findAhead_X0_uncovered rfl (by decide +kernel) (by decide) ⟨Nat.zero_le _, Nat.zero_le _⟩ rfl 0 rfl rfl rfl (Nat.le_of_ble_eq_true rfl) [0, 1, 3, 5, 6, 7] [2, 4] [2, 3, 0, 4, 1, 5, 6, 7] rfl rfl (by decide) (by decide) rfl (by decide) dX0_findAhead_60 63 rfl ?_
        refine g_ior (z := nI ((1 * 2 ^ ((To r) * 5 + ((Tp r) - 1))) ||| (unF Ex To Tp Bl r))) C dX0_findAhead_63 64 rfl (z_or _ _) ?_
        refine g_ior (z := nI (((agR Ex Hd To Tp Bl r) (Hd r)) ||| ((1 * 2 ^ ((To r) * 5 + ((Tp r) - 1))) ||| (unF Ex To Tp Bl r)))) C dX0_findAhead_64 65 rfl (z_or _ _) ?_
        refine g_iast (ws' := [ob e0 0 [.ref qx, .ref qa, .ref qw, .int (nI ci), .int (nI bo), .int (oI sh)], aN (eY E) qx 25 Ex, aN (eY E) qa 25 (up (agR Ex Hd To Tp Bl r) (Hd r) (((agR Ex Hd To Tp Bl r) (Hd r)) ||| ((1 * 2 ^ ((To r) * 5 + ((Tp r) - 1))) ||| (unF Ex To Tp Bl r)))), ob h0 4 [.int (nI n), .int (nI m), .int (nI z), .int (nI st), .ref qh, .ref qt, .ref qp, .ref qb], aN (eY E) qh 30 Hd, aN (eY E) qt 30 To, aO (eY E) qp 30 Tp, aO (eY E) qb 30 Bl]) (i := (Hd r)) C 2 rfl (by omega) (by decide) dX0_findAhead_65 66 rfl (upd_N _ _ _) rfl ?_
        refine g_iinc (lv' := [(2, .int (nI (r + 1))), (0, .ref e0), (1, .ref h0)]) C dX0_findAhead_66 69 rfl 0 rfl (by decide) rfl ?_
        refine g_goto C dX0_findAhead_69 10 (by decide) ?_
        have e_7 : (agR Ex Hd To Tp Bl (r + 1)) = (up (agR Ex Hd To Tp Bl r) (Hd r) (((agR Ex Hd To Tp Bl r) (Hd r)) ||| ((1 * 2 ^ ((To r) * 5 + ((Tp r) - 1))) ||| (unF Ex To Tp Bl r)))) := by first | with_reducible rfl | (simp [agR, *])
        refine go_eq (lv' := [(2, .int (nI (r + 1))), (0, .ref e0), (1, .ref h0)]) (ws' := [ob e0 0 [.ref qx, .ref qa, .ref qw, .int (nI ci), .int (nI bo), .int (oI sh)], aN (eY E) qx 25 Ex, aN (eY E) qa 25 (agR Ex Hd To Tp Bl (r + 1)), ob h0 4 [.int (nI n), .int (nI m), .int (nI z), .int (nI st), .ref qh, .ref qt, .ref qp, .ref qb], aN (eY E) qh 30 Hd, aN (eY E) qt 30 To, aO (eY E) qp 30 Tp, aO (eY E) qb 30 Bl]) (by first | with_reducible rfl | (simp only [oI_s, oI_0, bI_1, bI_0, and_self, reduceIte]; done) | rfl) rfl (by first | with_reducible rfl | (simp only [e_7, oI_s, oI_0, bI_1, bI_0, and_self, reduceIte]; done)) ?_
        exact ih_r (by omega)
  have e_8 : (agR Ex Hd To Tp Bl 0) = (fun _ => 0) := by first | with_reducible rfl | (rfl)
  refine go_eq (lv' := [(2, .int (nI 0)), (0, .ref e0), (1, .ref h0)]) (ws' := [ob e0 0 [.ref qx, .ref qa, .ref qw, .int (nI ci), .int (nI bo), .int (oI sh)], aN (eY E) qx 25 Ex, aN (eY E) qa 25 (agR Ex Hd To Tp Bl 0), ob h0 4 [.int (nI n), .int (nI m), .int (nI z), .int (nI st), .ref qh, .ref qt, .ref qp, .ref qb], aN (eY E) qh 30 Hd, aN (eY E) qt 30 To, aO (eY E) qp 30 Tp, aO (eY E) qb 30 Bl]) (by first | with_reducible rfl | (simp only [oI_s, oI_0, bI_1, bI_0, and_self, reduceIte]; done) | rfl) rfl (by first | with_reducible rfl | (simp only [e_8, oI_s, oI_0, bI_1, bI_0, and_self, reduceIte]; done)) ?_
  exact L10 0 (by omega)
set_option maxHeartbeats 4000000 in
set_option maxRecDepth 100000 in
theorem c_X0_leadingTo (l : Launch) (D : va_G) (cy : Nat → ClassId) (e0 : Nat) (qx : Nat) (qa : Nat) (qw : Nat) (ci : Nat) (bo : Nat) (sh : Nat) (Ah : Nat → Nat) (w : Nat) (hA : lt25 Ah) (hw : w < 2 ^ 25) : CoI l yX0_leadingTo wsX0_leadingTo 0 0 D cy [ob e0 0 [.ref qx, .ref qa, .ref qw, .int (nI ci), .int (nI bo), .int (oI sh)], aN cy qa 25 Ah] [.ref e0, .int (nI w)] [ob e0 0 [.ref qx, .ref qa, .ref qw, .int (nI ci), .int (nI bo), .int (oI sh)], aN cy qa 25 Ah] (nI (leQ Ah w 25)) := by
  refine met_i (cc := cX0_leadingTo) (maxL := 4) (own := RX0) (lv := [(0, .ref e0), (1, .int (nI w))]) (by decide) rfl rfl rfl (Nat.le_of_ble_eq_true rfl) (fun E e1 e2 e3 C hret => ?_)
  subst e1; subst e2; subst e3
  have iX0 : ∀ w ∈ wsX00, w ∈ wsX0_leadingTo := fun _ h => List.mem_cons_of_mem _ (List.mem_append_right _ h)
  refine g_iconst (v := nI 0) C dX0_leadingTo_0 (by decide) 1 rfl ?_
  refine g_istore_n (lv' := [(2, .int (nI 0)), (0, .ref e0), (1, .int (nI w))]) C dX0_leadingTo_1 rfl 2 rfl (by decide) rfl ?_
  refine g_iconst (v := nI 0) C dX0_leadingTo_2 (by decide) 3 rfl ?_
  refine g_istore_n (lv' := [(3, .int (nI 0)), (2, .int (nI 0)), (0, .ref e0), (1, .int (nI w))]) C dX0_leadingTo_3 rfl 4 rfl (by decide) rfl ?_
  have L4 : ∀ hd, hd ≤ 25 → Go E 0 0 4 [(3, .int (nI hd)), (2, .int (nI (leQ Ah w hd))), (0, .ref e0), (1, .int (nI w))] [] [ob e0 0 [.ref qx, .ref qa, .ref qw, .int (nI ci), .int (nI bo), .int (oI sh)], aN (eY E) qa 25 Ah] := by
    refine go_for 25 (fun hd => Go E 0 0 4 [(3, .int (nI hd)), (2, .int (nI (leQ Ah w hd))), (0, .ref e0), (1, .int (nI w))] [] [ob e0 0 [.ref qx, .ref qa, .ref qw, .int (nI ci), .int (nI bo), .int (oI sh)], aN (eY E) qa 25 Ah]) (fun hd hi_hd ih_hd => ?_)
    refine g_iload_n C dX0_leadingTo_4 rfl 5 rfl 0 rfl ?_
    refine g_bipush (v := nI 25) C dX0_leadingTo_5 (by decide) 7 rfl ?_
    refine g_icmp_ge (X := 25 ≤ hd) C dX0_leadingTo_7 37 (by decide) 10 rfl (nI_leI (by omega) (by omega)) ?_ ?_
    · intro h7
      have x_hd : hd = 25 := by omega
      try rw [x_hd]
      refine g_iload_n C dX0_leadingTo_37 rfl 38 rfl 1 rfl ?_
      exact hret _ _ dX0_leadingTo_38
    · intro h7
      refine g_aload_n C dX0_leadingTo_10 rfl 11 rfl 2 rfl ?_
      refine g_get C iX0 0 rfl rfl 1 (by decide) (C.1.2.2.2.2 (.fieldLink RX0 15 "StackRuns$Heads" "ahead" "[I") (List.mem_of_getElem? (i := 1) rfl)) rfl dX0_leadingTo_11 14 rfl ?_
      refine g_iload_n C dX0_leadingTo_14 rfl 15 rfl 0 rfl ?_
      refine g_iald (i := hd) C 1 rfl (by omega) (by decide) dX0_leadingTo_15 16 rfl ?_
      refine g_iconst (v := nI 1) C dX0_leadingTo_16 (by decide) 17 rfl ?_
      refine g_iload_n C dX0_leadingTo_17 rfl 18 rfl 0 rfl ?_
      refine g_ishl (z := nI (1 * 2 ^ hd)) C dX0_leadingTo_18 19 rfl (z_shl (by omega) (by have := one25 (p := hd) (by omega); omega)) ?_
      refine g_ior (z := nI ((Ah hd) ||| (1 * 2 ^ hd))) C dX0_leadingTo_19 20 rfl (z_or _ _) ?_
      refine g_iload_n C dX0_leadingTo_20 rfl 21 rfl 3 rfl ?_
      refine g_iand (z := nI (((Ah hd) ||| (1 * 2 ^ hd)) &&& w)) C dX0_leadingTo_21 22 rfl (z_and _ _) ?_
      refine g_if_eq (X := ((Ah hd) ||| (1 * 2 ^ hd)) &&& w = 0) C dX0_leadingTo_22 31 (by decide) 25 rfl (nI_eq0 (by exact Nat.lt_of_le_of_lt Nat.and_le_right (by omega))) ?_ ?_
      · intro h22
        refine g_iinc (lv' := [(3, .int (nI (hd + 1))), (2, .int (nI (leQ Ah w hd))), (0, .ref e0), (1, .int (nI w))]) C dX0_leadingTo_31 34 rfl 0 rfl (by decide) rfl ?_
        refine g_goto C dX0_leadingTo_34 4 (by decide) ?_
        have e_1 : (leQ Ah w (hd + 1)) = (leQ Ah w hd) := by first | with_reducible rfl | (simp only [leQ]; repeat (first | rw [if_pos (by assumption)] | rw [if_neg (by assumption)]))
        refine go_eq (lv' := [(3, .int (nI (hd + 1))), (2, .int (nI (leQ Ah w (hd + 1)))), (0, .ref e0), (1, .int (nI w))]) (ws' := [ob e0 0 [.ref qx, .ref qa, .ref qw, .int (nI ci), .int (nI bo), .int (oI sh)], aN (eY E) qa 25 Ah]) (by first | with_reducible rfl | (simp only [e_1, oI_s, oI_0, bI_1, bI_0, and_self, reduceIte]; done)) rfl (by first | with_reducible rfl | (simp only [oI_s, oI_0, bI_1, bI_0, and_self, reduceIte]; done) | rfl) ?_
        exact ih_hd (by omega)
      · intro h22
        refine g_iload_n C dX0_leadingTo_25 rfl 26 rfl 1 rfl ?_
        refine g_iconst (v := nI 1) C dX0_leadingTo_26 (by decide) 27 rfl ?_
        refine g_iload_n C dX0_leadingTo_27 rfl 28 rfl 0 rfl ?_
        refine g_ishl (z := nI (1 * 2 ^ hd)) C dX0_leadingTo_28 29 rfl (z_shl (by omega) (by have := one25 (p := hd) (by omega); omega)) ?_
        refine g_ior (z := nI ((leQ Ah w hd) ||| (1 * 2 ^ hd))) C dX0_leadingTo_29 30 rfl (z_or _ _) ?_
        refine g_istore_n (lv' := [(2, .int (nI ((leQ Ah w hd) ||| (1 * 2 ^ hd)))), (3, .int (nI hd)), (0, .ref e0), (1, .int (nI w))]) C dX0_leadingTo_30 rfl 31 rfl (by decide) rfl ?_
        refine g_iinc (lv' := [(3, .int (nI (hd + 1))), (2, .int (nI ((leQ Ah w hd) ||| (1 * 2 ^ hd)))), (0, .ref e0), (1, .int (nI w))]) C dX0_leadingTo_31 34 rfl 1 rfl (by decide) rfl ?_
        refine g_goto C dX0_leadingTo_34 4 (by decide) ?_
        have e_2 : (leQ Ah w (hd + 1)) = ((leQ Ah w hd) ||| (1 * 2 ^ hd)) := by first | with_reducible rfl | (simp only [leQ]; repeat (first | rw [if_pos (by assumption)] | rw [if_neg (by assumption)]))
        refine go_eq (lv' := [(3, .int (nI (hd + 1))), (2, .int (nI (leQ Ah w (hd + 1)))), (0, .ref e0), (1, .int (nI w))]) (ws' := [ob e0 0 [.ref qx, .ref qa, .ref qw, .int (nI ci), .int (nI bo), .int (oI sh)], aN (eY E) qa 25 Ah]) (by first | with_reducible rfl | (simp only [e_2, oI_s, oI_0, bI_1, bI_0, and_self, reduceIte]; done)) rfl (by first | with_reducible rfl | (simp only [oI_s, oI_0, bI_1, bI_0, and_self, reduceIte]; done) | rfl) ?_
        exact ih_hd (by omega)
  have e_3 : (leQ Ah w 0) = 0 := by first | with_reducible rfl | (rfl)
  refine go_eq (lv' := [(3, .int (nI 0)), (2, .int (nI (leQ Ah w 0))), (0, .ref e0), (1, .int (nI w))]) (ws' := [ob e0 0 [.ref qx, .ref qa, .ref qw, .int (nI ci), .int (nI bo), .int (oI sh)], aN (eY E) qa 25 Ah]) (by first | with_reducible rfl | (simp only [e_3, oI_s, oI_0, bI_1, bI_0, and_self, reduceIte]; done)) rfl (by first | with_reducible rfl | (simp only [oI_s, oI_0, bI_1, bI_0, and_self, reduceIte]; done) | rfl) ?_
  exact L4 0 (by omega)
set_option maxHeartbeats 4000000 in
set_option maxRecDepth 100000 in
theorem c_X0_findCircles (l : Launch) (D : va_G) (cy : Nat → ClassId) (e0 : Nat) (qx : Nat) (qa : Nat) (qw : Nat) (ci : Nat) (bo : Nat) (sh : Nat) (Ah : Nat → Nat) (h0 : Nat) (n : Nat) (m : Nat) (z : Nat) (st : Nat) (qh : Nat) (qt : Nat) (qp : Nat) (qb : Nat) (Hd : Nat → Nat) (To : Nat → Nat) (Tp : Nat → Nat) (Bl : Nat → Nat) (hA : lt25 Ah) (hR : ∀ r, Hd r < 25 ∧ To r < 5 ∧ Tp r ≤ 5 ∧ Bl r ≤ 5) (hTB : ∀ r, Tp r = 0 → Bl r = 0) (hz : z ≤ 30) : CoV l yX0_findCircles wsX0_findCircles 1 23 D cy [ob e0 0 [.ref qx, .ref qa, .ref qw, .int (nI ci), .int (nI bo), .int (oI sh)], aN cy qa 25 Ah, ob h0 4 [.int (nI n), .int (nI m), .int (nI z), .int (nI st), .ref qh, .ref qt, .ref qp, .ref qb], aN cy qh 30 Hd, aN cy qt 30 To, aO cy qp 30 Tp, aO cy qb 30 Bl] [.ref e0, .ref h0] [ob e0 0 [.ref qx, .ref qa, .ref qw, .int (nI (leQ Ah (cirQ Ah 25) 25)), .int (nI (leQ Ah (risR Ah Hd To Tp Bl z) 25)), .int (oI sh)], aN cy qa 25 Ah, ob h0 4 [.int (nI n), .int (nI m), .int (nI z), .int (nI st), .ref qh, .ref qt, .ref qp, .ref qb], aN cy qh 30 Hd, aN cy qt 30 To, aO cy qp 30 Tp, aO cy qb 30 Bl] := by
  refine met_v (cc := cX0_findCircles) (maxL := 6) (own := RX0) (lv := [(0, .ref e0), (1, .ref h0)]) (by decide) rfl rfl rfl (Nat.le_of_ble_eq_true rfl) (fun E e1 e2 e3 C hret => ?_)
  subst e1; subst e2; subst e3
  have iX0 : ∀ w ∈ wsX00, w ∈ wsX0_findCircles := fun _ h => List.mem_cons_of_mem _ (List.mem_append_left _ (List.mem_append_right _ h))
  have iX4 : ∀ w ∈ wsX40, w ∈ wsX0_findCircles := fun _ h => List.mem_cons_of_mem _ (List.mem_append_right _ h)
  refine g_iconst (v := nI 0) C dX0_findCircles_0 (by decide) 1 rfl ?_
  refine g_istore_n (lv' := [(2, .int (nI 0)), (0, .ref e0), (1, .ref h0)]) C dX0_findCircles_1 rfl 2 rfl (by decide) rfl ?_
  refine g_iconst (v := nI 0) C dX0_findCircles_2 (by decide) 3 rfl ?_
  refine g_istore_n (lv' := [(3, .int (nI 0)), (2, .int (nI 0)), (0, .ref e0), (1, .ref h0)]) C dX0_findCircles_3 rfl 4 rfl (by decide) rfl ?_
  have L4 : ∀ hd, hd ≤ 25 → Go E 0 0 4 [(3, .int (nI hd)), (2, .int (nI (cirQ Ah hd))), (0, .ref e0), (1, .ref h0)] [] [ob e0 0 [.ref qx, .ref qa, .ref qw, .int (nI ci), .int (nI bo), .int (oI sh)], aN (eY E) qa 25 Ah, ob h0 4 [.int (nI n), .int (nI m), .int (nI z), .int (nI st), .ref qh, .ref qt, .ref qp, .ref qb], aN (eY E) qh 30 Hd, aN (eY E) qt 30 To, aO (eY E) qp 30 Tp, aO (eY E) qb 30 Bl] := by
    refine go_for 25 (fun hd => Go E 0 0 4 [(3, .int (nI hd)), (2, .int (nI (cirQ Ah hd))), (0, .ref e0), (1, .ref h0)] [] [ob e0 0 [.ref qx, .ref qa, .ref qw, .int (nI ci), .int (nI bo), .int (oI sh)], aN (eY E) qa 25 Ah, ob h0 4 [.int (nI n), .int (nI m), .int (nI z), .int (nI st), .ref qh, .ref qt, .ref qp, .ref qb], aN (eY E) qh 30 Hd, aN (eY E) qt 30 To, aO (eY E) qp 30 Tp, aO (eY E) qb 30 Bl]) (fun hd hi_hd ih_hd => ?_)
    refine g_iload_n C dX0_findCircles_4 rfl 5 rfl 0 rfl ?_
    refine g_bipush (v := nI 25) C dX0_findCircles_5 (by decide) 7 rfl ?_
    refine g_icmp_ge (X := 25 ≤ hd) C dX0_findCircles_7 29 (by decide) 10 rfl (nI_leI (by omega) (by omega)) ?_ ?_
    · intro h7
      have x_hd : hd = 25 := by omega
      try rw [x_hd]
      refine g_iconst (v := nI 0) C dX0_findCircles_29 (by decide) 30 rfl ?_
      refine g_istore_n (lv' := [(3, .int (nI 0)), (2, .int (nI (cirQ Ah 25))), (0, .ref e0), (1, .ref h0)]) C dX0_findCircles_30 rfl 31 rfl (by decide) rfl ?_
      refine g_iconst (v := nI 0) C dX0_findCircles_31 (by decide) 32 rfl ?_
      refine g_istore (lv' := [(4, .int (nI 0)), (3, .int (nI 0)), (2, .int (nI (cirQ Ah 25))), (0, .ref e0), (1, .ref h0)]) C dX0_findCircles_32 34 rfl (by decide) rfl ?_
      have L34 : ∀ r, r ≤ z → Go E 0 0 34 [(4, .int (nI r)), (3, .int (nI (risR Ah Hd To Tp Bl r))), (2, .int (nI (cirQ Ah 25))), (0, .ref e0), (1, .ref h0)] [] [ob e0 0 [.ref qx, .ref qa, .ref qw, .int (nI ci), .int (nI bo), .int (oI sh)], aN (eY E) qa 25 Ah, ob h0 4 [.int (nI n), .int (nI m), .int (nI z), .int (nI st), .ref qh, .ref qt, .ref qp, .ref qb], aN (eY E) qh 30 Hd, aN (eY E) qt 30 To, aO (eY E) qp 30 Tp, aO (eY E) qb 30 Bl] := by
        refine go_for z (fun r => Go E 0 0 34 [(4, .int (nI r)), (3, .int (nI (risR Ah Hd To Tp Bl r))), (2, .int (nI (cirQ Ah 25))), (0, .ref e0), (1, .ref h0)] [] [ob e0 0 [.ref qx, .ref qa, .ref qw, .int (nI ci), .int (nI bo), .int (oI sh)], aN (eY E) qa 25 Ah, ob h0 4 [.int (nI n), .int (nI m), .int (nI z), .int (nI st), .ref qh, .ref qt, .ref qp, .ref qb], aN (eY E) qh 30 Hd, aN (eY E) qt 30 To, aO (eY E) qp 30 Tp, aO (eY E) qb 30 Bl]) (fun r hi_r ih_r => ?_)
        have hR1 := hR r
        have hT1 := hTB r
        refine g_iload C dX0_findCircles_34 36 rfl 0 rfl ?_
        refine g_aload_n C dX0_findCircles_36 rfl 37 rfl 4 rfl ?_
        refine g_getN C iX4 2 rfl rfl 2 (by decide) (nf_RX0_64 C.2.2.1 _) rfl dX0_findCircles_37 40 rfl ?_
        refine g_icmp_ge (X := z ≤ r) C dX0_findCircles_40 104 (by decide) 43 rfl (nI_leI (by omega) (by omega)) ?_ ?_
        · intro h40
          have x_r : r = z := by omega
          try rw [x_r]
          refine g_aload_n C dX0_findCircles_104 rfl 105 rfl 3 rfl ?_
          refine g_aload_n C dX0_findCircles_105 rfl 106 rfl 3 rfl ?_
          refine g_iload_n C dX0_findCircles_106 rfl 107 rfl 2 rfl ?_
          refine g_cVi (ws2 := [ob e0 0 [.ref qx, .ref qa, .ref qw, .int (nI ci), .int (nI bo), .int (oI sh)], aN (eY E) qa 25 Ah, ob h0 4 [.int (nI n), .int (nI m), .int (nI z), .int (nI st), .ref qh, .ref qt, .ref qp, .ref qb], aN (eY E) qh 30 Hd, aN (eY E) qt 30 To, aO (eY E) qp 30 Tp, aO (eY E) qb 30 Bl]) (As := [.int (nI (cirQ Ah 25))]) (st := [.ref e0]) (wsc := [ob e0 0 [.ref qx, .ref qa, .ref qw, .int (nI ci), .int (nI bo), .int (oI sh)], aN (eY E) qa 25 Ah]) (wr := [ob h0 4 [.int (nI n), .int (nI m), .int (nI z), .int (nI st), .ref qh, .ref qt, .ref qp, .ref qb], aN (eY E) qh 30 Hd, aN (eY E) qt 30 To, aO (eY E) qp 30 Tp, aO (eY E) qb 30 Bl]) C (c_X0_leadingTo (eL E) (eD E) (eY E) e0 qx qa qw ci bo sh Ah (cirQ Ah 25) (by assumption) (by exact cirQ_lt hA 25)) 1 gX0_findCircles_X0_leadingTo rfl (by decide +kernel) (by decide) ⟨Nat.zero_le _, Nat.zero_le _⟩ rfl 0 rfl rfl rfl (Nat.le_of_ble_eq_true rfl) [0, 1] [2, 3, 4, 5, 6] [5, 6, 0, 1, 2, 3, 4] rfl rfl (by decide) (by decide) rfl (by decide) dX0_findCircles_107 110 rfl ?_
          refine g_put (ws' := [ob e0 0 [.ref qx, .ref qa, .ref qw, .int (nI (leQ Ah (cirQ Ah 25) 25)), .int (nI bo), .int (oI sh)], aN (eY E) qa 25 Ah, ob h0 4 [.int (nI n), .int (nI m), .int (nI z), .int (nI st), .ref qh, .ref qt, .ref qp, .ref qb], aN (eY E) qh 30 Hd, aN (eY E) qt 30 To, aO (eY E) qp 30 Tp, aO (eY E) qb 30 Bl]) (ty := .int) C iX0 tyX0_ok nmX0 0 rfl rfl 3 (by decide) (C.1.2.2.2.2 (.fieldLink RX0 21 "StackRuns$Heads" "circling" "I") (List.mem_of_getElem? (i := 2) rfl)) rfl (by decide +kernel) rfl rfl (Nat.le_of_ble_eq_true rfl) dX0_findCircles_110 113 rfl rfl ?_
          refine g_aload_n C dX0_findCircles_113 rfl 114 rfl 3 rfl ?_
          refine g_aload_n C dX0_findCircles_114 rfl 115 rfl 3 rfl ?_
          refine g_iload_n C dX0_findCircles_115 rfl 116 rfl 1 rfl ?_
          refine g_cVi (ws2 := [ob e0 0 [.ref qx, .ref qa, .ref qw, .int (nI (leQ Ah (cirQ Ah 25) 25)), .int (nI bo), .int (oI sh)], aN (eY E) qa 25 Ah, ob h0 4 [.int (nI n), .int (nI m), .int (nI z), .int (nI st), .ref qh, .ref qt, .ref qp, .ref qb], aN (eY E) qh 30 Hd, aN (eY E) qt 30 To, aO (eY E) qp 30 Tp, aO (eY E) qb 30 Bl]) (As := [.int (nI (risR Ah Hd To Tp Bl z))]) (st := [.ref e0]) (wsc := [ob e0 0 [.ref qx, .ref qa, .ref qw, .int (nI (leQ Ah (cirQ Ah 25) 25)), .int (nI bo), .int (oI sh)], aN (eY E) qa 25 Ah]) (wr := [ob h0 4 [.int (nI n), .int (nI m), .int (nI z), .int (nI st), .ref qh, .ref qt, .ref qp, .ref qb], aN (eY E) qh 30 Hd, aN (eY E) qt 30 To, aO (eY E) qp 30 Tp, aO (eY E) qb 30 Bl]) C (c_X0_leadingTo (eL E) (eD E) (eY E) e0 qx qa qw (leQ Ah (cirQ Ah 25) 25) bo sh Ah (risR Ah Hd To Tp Bl z) (by assumption) (by exact risR_lt (fun r => (hR r).1) z)) 1 gX0_findCircles_X0_leadingTo rfl (by decide +kernel) (by decide) ⟨Nat.zero_le _, Nat.zero_le _⟩ rfl 0 rfl rfl rfl (Nat.le_of_ble_eq_true rfl) [0, 1] [2, 3, 4, 5, 6] [5, 6, 0, 1, 2, 3, 4] rfl rfl (by decide) (by decide) rfl (by decide) dX0_findCircles_116 119 rfl ?_
          refine g_put (ws' := [ob e0 0 [.ref qx, .ref qa, .ref qw, .int (nI (leQ Ah (cirQ Ah 25) 25)), .int (nI (leQ Ah (risR Ah Hd To Tp Bl z) 25)), .int (oI sh)], aN (eY E) qa 25 Ah, ob h0 4 [.int (nI n), .int (nI m), .int (nI z), .int (nI st), .ref qh, .ref qt, .ref qp, .ref qb], aN (eY E) qh 30 Hd, aN (eY E) qt 30 To, aO (eY E) qp 30 Tp, aO (eY E) qb 30 Bl]) (ty := .int) C iX0 tyX0_ok nmX0 0 rfl rfl 4 (by decide) (C.1.2.2.2.2 (.fieldLink RX0 25 "StackRuns$Heads" "boundless" "I") (List.mem_of_getElem? (i := 3) rfl)) rfl (by decide +kernel) rfl rfl (Nat.le_of_ble_eq_true rfl) dX0_findCircles_119 122 rfl rfl ?_
          exact hret _ _ dX0_findCircles_122
        · intro h40
          refine g_aload_n C dX0_findCircles_43 rfl 44 rfl 4 rfl ?_
          refine g_getN C iX4 2 rfl rfl 7 (by decide) (nf_RX0_88 C.2.2.1 _) rfl dX0_findCircles_44 47 rfl ?_
          refine g_iload C dX0_findCircles_47 49 rfl 0 rfl ?_
          refine g_iald (i := r) C 6 rfl (by omega) (by decide) dX0_findCircles_49 50 rfl ?_
          refine g_iconst (v := (-1)) C dX0_findCircles_50 (by decide) 51 rfl ?_
          refine g_icmp_eq (X := Bl r = 0) C dX0_findCircles_51 98 (by decide) 54 rfl (oI_eq (by omega)) ?_ ?_
          · intro h51
            refine g_iinc (lv' := [(4, .int (nI (r + 1))), (3, .int (nI (risR Ah Hd To Tp Bl r))), (2, .int (nI (cirQ Ah 25))), (0, .ref e0), (1, .ref h0)]) C dX0_findCircles_98 101 rfl 0 rfl (by decide) rfl ?_
            refine g_goto C dX0_findCircles_101 34 (by decide) ?_
            have e_1 : (risR Ah Hd To Tp Bl (r + 1)) = (risR Ah Hd To Tp Bl r) := by first | with_reducible rfl | (simp only [risR]; repeat (first | rw [if_pos (by assumption)] | rw [if_neg (by assumption)]))
            refine go_eq (lv' := [(4, .int (nI (r + 1))), (3, .int (nI (risR Ah Hd To Tp Bl (r + 1)))), (2, .int (nI (cirQ Ah 25))), (0, .ref e0), (1, .ref h0)]) (ws' := [ob e0 0 [.ref qx, .ref qa, .ref qw, .int (nI ci), .int (nI bo), .int (oI sh)], aN (eY E) qa 25 Ah, ob h0 4 [.int (nI n), .int (nI m), .int (nI z), .int (nI st), .ref qh, .ref qt, .ref qp, .ref qb], aN (eY E) qh 30 Hd, aN (eY E) qt 30 To, aO (eY E) qp 30 Tp, aO (eY E) qb 30 Bl]) (by first | with_reducible rfl | (simp only [e_1, oI_s, oI_0, bI_1, bI_0, and_self, reduceIte]; done)) rfl (by first | with_reducible rfl | (simp only [oI_s, oI_0, bI_1, bI_0, and_self, reduceIte]; done) | rfl) ?_
            exact ih_r (by omega)
          · intro h51
            refine g_aload_n C dX0_findCircles_54 rfl 55 rfl 4 rfl ?_
            refine g_getN C iX4 2 rfl rfl 5 (by decide) (nf_RX0_73 C.2.2.1 _) rfl dX0_findCircles_55 58 rfl ?_
            refine g_iload C dX0_findCircles_58 60 rfl 0 rfl ?_
            refine g_iald (i := r) C 4 rfl (by omega) (by decide) dX0_findCircles_60 61 rfl ?_
            refine g_aload_n C dX0_findCircles_61 rfl 62 rfl 4 rfl ?_
            refine g_getN C iX4 2 rfl rfl 6 (by decide) (nf_RX0_67 C.2.2.1 _) rfl dX0_findCircles_62 65 rfl ?_
            refine g_iload C dX0_findCircles_65 67 rfl 0 rfl ?_
            refine g_iald (i := r) C 5 rfl (by omega) (by decide) dX0_findCircles_67 68 rfl ?_
            refine go_eq rfl (st' := [.int (nI ((Tp r) - 1)), .int (nI (To r))]) (ws' := [ob e0 0 [.ref qx, .ref qa, .ref qw, .int (nI ci), .int (nI bo), .int (oI sh)], aN (eY E) qa 25 Ah, ob h0 4 [.int (nI n), .int (nI m), .int (nI z), .int (nI st), .ref qh, .ref qt, .ref qp, .ref qb], aN (eY E) qh 30 Hd, aN (eY E) qt 30 To, aO (eY E) qp 30 Tp, aO (eY E) qb 30 Bl]) (by rw [oI_pos (a := (Tp r)) (by omega)]) (by rfl) ?_
            refine g_cSNi (ws2 := [ob e0 0 [.ref qx, .ref qa, .ref qw, .int (nI ci), .int (nI bo), .int (oI sh)], aN (eY E) qa 25 Ah, ob h0 4 [.int (nI n), .int (nI m), .int (nI z), .int (nI st), .ref qh, .ref qt, .ref qp, .ref qb], aN (eY E) qh 30 Hd, aN (eY E) qt 30 To, aO (eY E) qp 30 Tp, aO (eY E) qb 30 Bl]) (As := [.int (nI (To r)), .int (nI ((Tp r) - 1))]) (st := []) (wsc := []) (wr := [ob e0 0 [.ref qx, .ref qa, .ref qw, .int (nI ci), .int (nI bo), .int (oI sh)], aN (eY E) qa 25 Ah, ob h0 4 [.int (nI n), .int (nI m), .int (nI z), .int (nI st), .ref qh, .ref qt, .ref qp, .ref qb], aN (eY E) qh 30 Hd, aN (eY E) qt 30 To, aO (eY E) qp 30 Tp, aO (eY E) qb 30 Bl]) C (c_X6_headOf (eL E) (eD E) (eY E) (To r) ((Tp r) - 1) ) 2 ggX0_findCircles_X6_headOf (nm_RX0_76 C.2.2.1) (List.mem_of_getElem? (i := 5) rfl) (List.mem_of_getElem? (i := 4) rfl) rfl (by decide +kernel) (by decide) ⟨Nat.zero_le _, Nat.zero_le _⟩ rfl rfl (Nat.le_of_ble_eq_true rfl) [] [0, 1, 2, 3, 4, 5, 6] [0, 1, 2, 3, 4, 5, 6] rfl rfl (by decide) (by decide) rfl (by decide) dX0_findCircles_68 71 rfl ?_
            refine g_istore (lv' := [(5, .int (nI ((To r) * 5 + ((Tp r) - 1)))), (4, .int (nI r)), (3, .int (nI (risR Ah Hd To Tp Bl r))), (2, .int (nI (cirQ Ah 25))), (0, .ref e0), (1, .ref h0)]) C dX0_findCircles_71 73 rfl (by decide) rfl ?_
            refine g_iload_n C dX0_findCircles_73 rfl 74 rfl 2 rfl ?_
            refine g_aload_n C dX0_findCircles_74 rfl 75 rfl 4 rfl ?_
            refine g_get C iX0 0 rfl rfl 1 (by decide) (C.1.2.2.2.2 (.fieldLink RX0 15 "StackRuns$Heads" "ahead" "[I") (List.mem_of_getElem? (i := 1) rfl)) rfl dX0_findCircles_75 78 rfl ?_
            refine g_iload C dX0_findCircles_78 80 rfl 0 rfl ?_
            refine g_iald (i := ((To r) * 5 + ((Tp r) - 1))) C 1 rfl (by omega) (by decide) dX0_findCircles_80 81 rfl ?_
            refine g_iconst (v := nI 1) C dX0_findCircles_81 (by decide) 82 rfl ?_
            refine g_iload C dX0_findCircles_82 84 rfl 0 rfl ?_
            refine g_ishl (z := nI (1 * 2 ^ ((To r) * 5 + ((Tp r) - 1)))) C dX0_findCircles_84 85 rfl (z_shl (by omega) (by have := one25 (p := (To r) * 5 + (Tp r - 1)) (by omega); omega)) ?_
            refine g_ior (z := nI ((Ah ((To r) * 5 + ((Tp r) - 1))) ||| (1 * 2 ^ ((To r) * 5 + ((Tp r) - 1))))) C dX0_findCircles_85 86 rfl (z_or _ _) ?_
            refine g_iconst (v := nI 1) C dX0_findCircles_86 (by decide) 87 rfl ?_
            refine g_aload_n C dX0_findCircles_87 rfl 88 rfl 5 rfl ?_
            refine g_getN C iX4 2 rfl rfl 4 (by decide) (nf_RX0_70 C.2.2.1 _) rfl dX0_findCircles_88 91 rfl ?_
            refine g_iload C dX0_findCircles_91 93 rfl 1 rfl ?_
            refine g_iald (i := r) C 3 rfl (by omega) (by decide) dX0_findCircles_93 94 rfl ?_
            refine g_ishl (z := nI (1 * 2 ^ (Hd r))) C dX0_findCircles_94 95 rfl (z_shl (by omega) (by have := one25 (p := Hd r) (by omega); omega)) ?_
            refine g_iand (z := nI (((Ah ((To r) * 5 + ((Tp r) - 1))) ||| (1 * 2 ^ ((To r) * 5 + ((Tp r) - 1)))) &&& (1 * 2 ^ (Hd r)))) C dX0_findCircles_95 96 rfl (z_and _ _) ?_
            refine g_ior (z := nI ((risR Ah Hd To Tp Bl r) ||| (((Ah ((To r) * 5 + ((Tp r) - 1))) ||| (1 * 2 ^ ((To r) * 5 + ((Tp r) - 1)))) &&& (1 * 2 ^ (Hd r))))) C dX0_findCircles_96 97 rfl (z_or _ _) ?_
            refine g_istore_n (lv' := [(3, .int (nI ((risR Ah Hd To Tp Bl r) ||| (((Ah ((To r) * 5 + ((Tp r) - 1))) ||| (1 * 2 ^ ((To r) * 5 + ((Tp r) - 1)))) &&& (1 * 2 ^ (Hd r)))))), (5, .int (nI ((To r) * 5 + ((Tp r) - 1)))), (4, .int (nI r)), (2, .int (nI (cirQ Ah 25))), (0, .ref e0), (1, .ref h0)]) C dX0_findCircles_97 rfl 98 rfl (by decide) rfl ?_
            refine g_iinc (lv' := [(4, .int (nI (r + 1))), (3, .int (nI ((risR Ah Hd To Tp Bl r) ||| (((Ah ((To r) * 5 + ((Tp r) - 1))) ||| (1 * 2 ^ ((To r) * 5 + ((Tp r) - 1)))) &&& (1 * 2 ^ (Hd r)))))), (5, .int (nI ((To r) * 5 + ((Tp r) - 1)))), (2, .int (nI (cirQ Ah 25))), (0, .ref e0), (1, .ref h0)]) C dX0_findCircles_98 101 rfl 2 rfl (by decide) rfl ?_
            refine g_goto C dX0_findCircles_101 34 (by decide) ?_
            refine go_lv (lv' := [(4, .int (nI (r + 1))), (3, .int (nI ((risR Ah Hd To Tp Bl r) ||| (((Ah ((To r) * 5 + ((Tp r) - 1))) ||| (1 * 2 ^ ((To r) * 5 + ((Tp r) - 1)))) &&& (1 * 2 ^ (Hd r)))))), (2, .int (nI (cirQ Ah 25))), (0, .ref e0), (1, .ref h0)]) [0, 1, 3, 4, 5] rfl ?_
            have e_2 : (risR Ah Hd To Tp Bl (r + 1)) = ((risR Ah Hd To Tp Bl r) ||| (((Ah ((To r) * 5 + ((Tp r) - 1))) ||| (1 * 2 ^ ((To r) * 5 + ((Tp r) - 1)))) &&& (1 * 2 ^ (Hd r)))) := by first | with_reducible rfl | (simp only [risR]; repeat (first | rw [if_pos (by assumption)] | rw [if_neg (by assumption)]))
            refine go_eq (lv' := [(4, .int (nI (r + 1))), (3, .int (nI (risR Ah Hd To Tp Bl (r + 1)))), (2, .int (nI (cirQ Ah 25))), (0, .ref e0), (1, .ref h0)]) (ws' := [ob e0 0 [.ref qx, .ref qa, .ref qw, .int (nI ci), .int (nI bo), .int (oI sh)], aN (eY E) qa 25 Ah, ob h0 4 [.int (nI n), .int (nI m), .int (nI z), .int (nI st), .ref qh, .ref qt, .ref qp, .ref qb], aN (eY E) qh 30 Hd, aN (eY E) qt 30 To, aO (eY E) qp 30 Tp, aO (eY E) qb 30 Bl]) (by first | with_reducible rfl | (simp only [e_2, oI_s, oI_0, bI_1, bI_0, and_self, reduceIte]; done)) rfl (by first | with_reducible rfl | (simp only [oI_s, oI_0, bI_1, bI_0, and_self, reduceIte]; done) | rfl) ?_
            exact ih_r (by omega)
      have e_3 : (risR Ah Hd To Tp Bl 0) = 0 := by first | with_reducible rfl | (rfl)
      refine go_eq (lv' := [(4, .int (nI 0)), (3, .int (nI (risR Ah Hd To Tp Bl 0))), (2, .int (nI (cirQ Ah 25))), (0, .ref e0), (1, .ref h0)]) (ws' := [ob e0 0 [.ref qx, .ref qa, .ref qw, .int (nI ci), .int (nI bo), .int (oI sh)], aN (eY E) qa 25 Ah, ob h0 4 [.int (nI n), .int (nI m), .int (nI z), .int (nI st), .ref qh, .ref qt, .ref qp, .ref qb], aN (eY E) qh 30 Hd, aN (eY E) qt 30 To, aO (eY E) qp 30 Tp, aO (eY E) qb 30 Bl]) (by first | with_reducible rfl | (simp only [e_3, oI_s, oI_0, bI_1, bI_0, and_self, reduceIte]; done)) rfl (by first | with_reducible rfl | (simp only [oI_s, oI_0, bI_1, bI_0, and_self, reduceIte]; done) | rfl) ?_
      exact L34 0 (by omega)
    · intro h7
      refine g_iload_n C dX0_findCircles_10 rfl 11 rfl 1 rfl ?_
      refine g_aload_n C dX0_findCircles_11 rfl 12 rfl 2 rfl ?_
      refine g_get C iX0 0 rfl rfl 1 (by decide) (C.1.2.2.2.2 (.fieldLink RX0 15 "StackRuns$Heads" "ahead" "[I") (List.mem_of_getElem? (i := 1) rfl)) rfl dX0_findCircles_12 15 rfl ?_
      refine g_iload_n C dX0_findCircles_15 rfl 16 rfl 0 rfl ?_
      refine g_iald (i := hd) C 1 rfl (by omega) (by decide) dX0_findCircles_16 17 rfl ?_
      refine g_iconst (v := nI 1) C dX0_findCircles_17 (by decide) 18 rfl ?_
      refine g_iload_n C dX0_findCircles_18 rfl 19 rfl 0 rfl ?_
      refine g_ishl (z := nI (1 * 2 ^ hd)) C dX0_findCircles_19 20 rfl (z_shl (by omega) (by have := one25 (p := hd) (by omega); omega)) ?_
      refine g_iand (z := nI ((Ah hd) &&& (1 * 2 ^ hd))) C dX0_findCircles_20 21 rfl (z_and _ _) ?_
      refine g_ior (z := nI ((cirQ Ah hd) ||| ((Ah hd) &&& (1 * 2 ^ hd)))) C dX0_findCircles_21 22 rfl (z_or _ _) ?_
      refine g_istore_n (lv' := [(2, .int (nI ((cirQ Ah hd) ||| ((Ah hd) &&& (1 * 2 ^ hd))))), (3, .int (nI hd)), (0, .ref e0), (1, .ref h0)]) C dX0_findCircles_22 rfl 23 rfl (by decide) rfl ?_
      refine g_iinc (lv' := [(3, .int (nI (hd + 1))), (2, .int (nI ((cirQ Ah hd) ||| ((Ah hd) &&& (1 * 2 ^ hd))))), (0, .ref e0), (1, .ref h0)]) C dX0_findCircles_23 26 rfl 1 rfl (by decide) rfl ?_
      refine g_goto C dX0_findCircles_26 4 (by decide) ?_
      have e_4 : (cirQ Ah (hd + 1)) = ((cirQ Ah hd) ||| ((Ah hd) &&& (1 * 2 ^ hd))) := by first | with_reducible rfl | (simp only [cirQ])
      refine go_eq (lv' := [(3, .int (nI (hd + 1))), (2, .int (nI (cirQ Ah (hd + 1)))), (0, .ref e0), (1, .ref h0)]) (ws' := [ob e0 0 [.ref qx, .ref qa, .ref qw, .int (nI ci), .int (nI bo), .int (oI sh)], aN (eY E) qa 25 Ah, ob h0 4 [.int (nI n), .int (nI m), .int (nI z), .int (nI st), .ref qh, .ref qt, .ref qp, .ref qb], aN (eY E) qh 30 Hd, aN (eY E) qt 30 To, aO (eY E) qp 30 Tp, aO (eY E) qb 30 Bl]) (by first | with_reducible rfl | (simp only [e_4, oI_s, oI_0, bI_1, bI_0, and_self, reduceIte]; done)) rfl (by first | with_reducible rfl | (simp only [oI_s, oI_0, bI_1, bI_0, and_self, reduceIte]; done) | rfl) ?_
      exact ih_hd (by omega)
  have e_5 : (cirQ Ah 0) = 0 := by first | with_reducible rfl | (rfl)
  refine go_eq (lv' := [(3, .int (nI 0)), (2, .int (nI (cirQ Ah 0))), (0, .ref e0), (1, .ref h0)]) (ws' := [ob e0 0 [.ref qx, .ref qa, .ref qw, .int (nI ci), .int (nI bo), .int (oI sh)], aN (eY E) qa 25 Ah, ob h0 4 [.int (nI n), .int (nI m), .int (nI z), .int (nI st), .ref qh, .ref qt, .ref qp, .ref qb], aN (eY E) qh 30 Hd, aN (eY E) qt 30 To, aO (eY E) qp 30 Tp, aO (eY E) qb 30 Bl]) (by first | with_reducible rfl | (simp only [e_5, oI_s, oI_0, bI_1, bI_0, and_self, reduceIte]; done)) rfl (by first | with_reducible rfl | (simp only [oI_s, oI_0, bI_1, bI_0, and_self, reduceIte]; done) | rfl) ?_
  exact L4 0 (by omega)
set_option maxHeartbeats 4000000 in
set_option maxRecDepth 100000 in
theorem c_X0_raiseBy (l : Launch) (D : va_G) (cy : Nat → ClassId) (e0 : Nat) (qx : Nat) (qa : Nat) (qw : Nat) (ci : Nat) (bo : Nat) (sh : Nat) (Ex : Nat → Nat) (Tl : Nat → Nat) (h0 : Nat) (n : Nat) (m : Nat) (z : Nat) (st : Nat) (qh : Nat) (qt : Nat) (qp : Nat) (qb : Nat) (Hd : Nat → Nat) (To : Nat → Nat) (Tp : Nat → Nat) (Bl : Nat → Nat) (r : Nat) (hEx : ∀ k, Ex k < 32) (hR : ∀ r, Hd r < 25 ∧ To r < 5 ∧ Tp r ≤ 5 ∧ Bl r ≤ 5) (hTB : ∀ r, Tp r = 0 → Bl r = 0) (hT : ∀ k, Tl k < 2 ^ 20) (hr : r < 30) : CoI l yX0_raiseBy wsX0_raiseBy 2 46 D cy [ob e0 0 [.ref qx, .ref qa, .ref qw, .int (nI ci), .int (nI bo), .int (oI sh)], aN cy qx 25 Ex, aN cy qw 25 Tl, ob h0 4 [.int (nI n), .int (nI m), .int (nI z), .int (nI st), .ref qh, .ref qt, .ref qp, .ref qb], aN cy qh 30 Hd, aN cy qt 30 To, aO cy qp 30 Tp, aO cy qb 30 Bl] [.ref e0, .ref h0, .int (nI r)] [ob e0 0 [.ref qx, .ref qa, .ref qw, .int (nI ci), .int (nI bo), .int (oI sh)], aN cy qx 25 Ex, aN cy qw 25 (rbC Ex Hd To Tp Bl Tl r), ob h0 4 [.int (nI n), .int (nI m), .int (nI z), .int (nI st), .ref qh, .ref qt, .ref qp, .ref qb], aN cy qh 30 Hd, aN cy qt 30 To, aO cy qp 30 Tp, aO cy qb 30 Bl] (bI (rbB Ex Hd To Tp Bl Tl r)) := by
  refine met_z (cc := cX0_raiseBy) (maxL := 7) (own := RX0) (lv := [(0, .ref e0), (1, .ref h0), (2, .int (nI r))]) (by decide) rfl rfl rfl (Nat.le_of_ble_eq_true rfl) (fun E e1 e2 e3 C hret => ?_)
  subst e1; subst e2; subst e3
  have iX0 : ∀ w ∈ wsX00, w ∈ wsX0_raiseBy := fun _ h => List.mem_cons_of_mem _ (List.mem_append_right _ h)
  have iX4 : ∀ w ∈ wsX40, w ∈ wsX0_raiseBy := fun _ h => List.mem_cons_of_mem _ (List.mem_append_left _ (List.mem_append_right _ h))
  have hR1 := hR r
  have hT1 := hT (Hd r)
  have hT2 := hT (To r * 5 + (Tp r - 1))
  have hU := unF_lt (Ex := Ex) (To := To) (Tp := Tp) (r := r) hR1.2.2.2
  refine g_aload_n C dX0_raiseBy_0 rfl 1 rfl 1 rfl ?_
  refine g_getN C iX4 3 rfl rfl 6 (by decide) (nf_RX0_67 C.2.2.1 _) rfl dX0_raiseBy_1 4 rfl ?_
  refine g_iload_n C dX0_raiseBy_4 rfl 5 rfl 2 rfl ?_
  refine g_iald (i := r) C 6 rfl (by omega) (by decide) dX0_raiseBy_5 6 rfl ?_
  refine g_iconst (v := (-1)) C dX0_raiseBy_6 (by decide) 7 rfl ?_
  refine g_icmp_ne (X := ¬ Tp r = 0) C dX0_raiseBy_7 12 (by decide) 10 rfl (not_congr (oI_eq (by omega))) ?_ ?_
  · intro h7
    refine g_aload_n C dX0_raiseBy_12 rfl 13 rfl 1 rfl ?_
    refine g_getN C iX4 3 rfl rfl 7 (by decide) (nf_RX0_88 C.2.2.1 _) rfl dX0_raiseBy_13 16 rfl ?_
    refine g_iload_n C dX0_raiseBy_16 rfl 17 rfl 2 rfl ?_
    refine g_iald (i := r) C 7 rfl (by omega) (by decide) dX0_raiseBy_17 18 rfl ?_
    refine g_iconst (v := (-1)) C dX0_raiseBy_18 (by decide) 19 rfl ?_
    have J27 : ∀ (lf : Nat), (lf = if Bl r = 0 then 0 else 1) → Go E 0 0 27 [(0, .ref e0), (1, .ref h0), (2, .int (nI r))] [.int (nI lf)] [ob e0 0 [.ref qx, .ref qa, .ref qw, .int (nI ci), .int (nI bo), .int (oI sh)], aN (eY E) qx 25 Ex, aN (eY E) qw 25 Tl, ob h0 4 [.int (nI n), .int (nI m), .int (nI z), .int (nI st), .ref qh, .ref qt, .ref qp, .ref qb], aN (eY E) qh 30 Hd, aN (eY E) qt 30 To, aO (eY E) qp 30 Tp, aO (eY E) qb 30 Bl] := by
      intro lf hlf
      refine g_istore_n (lv' := [(3, .int (nI lf)), (0, .ref e0), (1, .ref h0), (2, .int (nI r))]) C dX0_raiseBy_27 rfl 28 rfl (by decide) rfl ?_
      have hlf1 : lf ≤ 1 := by rw [hlf]; split <;> omega
      refine g_aload_n C dX0_raiseBy_28 rfl 29 rfl 1 rfl ?_
      refine g_get C iX0 0 rfl rfl 2 (by decide) (C.1.2.2.2.2 (.fieldLink RX0 18 "StackRuns$Heads" "tallest" "[I") (List.mem_of_getElem? (i := 1) rfl)) rfl dX0_raiseBy_29 32 rfl ?_
      refine g_aload_n C dX0_raiseBy_32 rfl 33 rfl 2 rfl ?_
      refine g_getN C iX4 3 rfl rfl 5 (by decide) (nf_RX0_73 C.2.2.1 _) rfl dX0_raiseBy_33 36 rfl ?_
      refine g_iload_n C dX0_raiseBy_36 rfl 37 rfl 3 rfl ?_
      refine g_iald (i := r) C 5 rfl (by omega) (by decide) dX0_raiseBy_37 38 rfl ?_
      refine g_aload_n C dX0_raiseBy_38 rfl 39 rfl 2 rfl ?_
      refine g_getN C iX4 3 rfl rfl 6 (by decide) (nf_RX0_67 C.2.2.1 _) rfl dX0_raiseBy_39 42 rfl ?_
      refine g_iload_n C dX0_raiseBy_42 rfl 43 rfl 3 rfl ?_
      refine g_iald (i := r) C 6 rfl (by omega) (by decide) dX0_raiseBy_43 44 rfl ?_
      refine go_eq rfl (st' := [.int (nI ((Tp r) - 1)), .int (nI (To r)), .ref qw]) (ws' := [ob e0 0 [.ref qx, .ref qa, .ref qw, .int (nI ci), .int (nI bo), .int (oI sh)], aN (eY E) qx 25 Ex, aN (eY E) qw 25 Tl, ob h0 4 [.int (nI n), .int (nI m), .int (nI z), .int (nI st), .ref qh, .ref qt, .ref qp, .ref qb], aN (eY E) qh 30 Hd, aN (eY E) qt 30 To, aO (eY E) qp 30 Tp, aO (eY E) qb 30 Bl]) (by rw [oI_pos (a := (Tp r)) (by omega)]) (by rfl) ?_
      refine g_cSNi (ws2 := [ob e0 0 [.ref qx, .ref qa, .ref qw, .int (nI ci), .int (nI bo), .int (oI sh)], aN (eY E) qx 25 Ex, aN (eY E) qw 25 Tl, ob h0 4 [.int (nI n), .int (nI m), .int (nI z), .int (nI st), .ref qh, .ref qt, .ref qp, .ref qb], aN (eY E) qh 30 Hd, aN (eY E) qt 30 To, aO (eY E) qp 30 Tp, aO (eY E) qb 30 Bl]) (As := [.int (nI (To r)), .int (nI ((Tp r) - 1))]) (st := [.ref qw]) (wsc := []) (wr := [ob e0 0 [.ref qx, .ref qa, .ref qw, .int (nI ci), .int (nI bo), .int (oI sh)], aN (eY E) qx 25 Ex, aN (eY E) qw 25 Tl, ob h0 4 [.int (nI n), .int (nI m), .int (nI z), .int (nI st), .ref qh, .ref qt, .ref qp, .ref qb], aN (eY E) qh 30 Hd, aN (eY E) qt 30 To, aO (eY E) qp 30 Tp, aO (eY E) qb 30 Bl]) C (c_X6_headOf (eL E) (eD E) (eY E) (To r) ((Tp r) - 1) ) 2 ggX0_raiseBy_X6_headOf (nm_RX0_76 C.2.2.1) (List.mem_of_getElem? (i := 7) rfl) (List.mem_of_getElem? (i := 6) rfl) rfl (by decide +kernel) (by decide) ⟨Nat.zero_le _, Nat.zero_le _⟩ rfl rfl (Nat.le_of_ble_eq_true rfl) [] [0, 1, 2, 3, 4, 5, 6, 7] [0, 1, 2, 3, 4, 5, 6, 7] rfl rfl (by decide) (by decide) rfl (by decide) dX0_raiseBy_44 47 rfl ?_
      refine g_iald (i := ((To r) * 5 + ((Tp r) - 1))) C 2 rfl (by omega) (by decide) dX0_raiseBy_47 48 rfl ?_
      refine g_iload_n C dX0_raiseBy_48 rfl 49 rfl 0 rfl ?_
      refine g_iadd (z := nI ((Tl ((To r) * 5 + ((Tp r) - 1))) + lf)) C dX0_raiseBy_49 50 rfl (nI_add _ _) ?_
      refine g_istore (lv' := [(4, .int (nI ((Tl ((To r) * 5 + ((Tp r) - 1))) + lf))), (3, .int (nI lf)), (0, .ref e0), (1, .ref h0), (2, .int (nI r))]) C dX0_raiseBy_50 52 rfl (by decide) rfl ?_
      refine g_aload_n C dX0_raiseBy_52 rfl 53 rfl 2 rfl ?_
      refine g_aload_n C dX0_raiseBy_53 rfl 54 rfl 3 rfl ?_
      refine g_iload_n C dX0_raiseBy_54 rfl 55 rfl 4 rfl ?_
      refine g_cVi (ws2 := [ob e0 0 [.ref qx, .ref qa, .ref qw, .int (nI ci), .int (nI bo), .int (oI sh)], aN (eY E) qx 25 Ex, aN (eY E) qw 25 Tl, ob h0 4 [.int (nI n), .int (nI m), .int (nI z), .int (nI st), .ref qh, .ref qt, .ref qp, .ref qb], aN (eY E) qh 30 Hd, aN (eY E) qt 30 To, aO (eY E) qp 30 Tp, aO (eY E) qb 30 Bl]) (As := [.ref h0, .int (nI r)]) (st := []) (wsc := [ob e0 0 [.ref qx, .ref qa, .ref qw, .int (nI ci), .int (nI bo), .int (oI sh)], aN (eY E) qx 25 Ex, ob h0 4 [.int (nI n), .int (nI m), .int (nI z), .int (nI st), .ref qh, .ref qt, .ref qp, .ref qb], aN (eY E) qt 30 To, aO (eY E) qp 30 Tp, aO (eY E) qb 30 Bl]) (wr := [aN (eY E) qw 25 Tl, aN (eY E) qh 30 Hd]) C (c_X0_uncovered (eL E) (eD E) (eY E) e0 qx qa qw ci bo sh Ex h0 n m z st qh qt qp qb To Tp Bl r (by first | assumption | exact exF_lt _) (by first | assumption | exact fun r => (hR r).2) (by assumption) (by omega)) 2 gX0_raiseBy_X0_uncovered rfl (by decide +kernel) (by decide) ⟨Nat.zero_le _, Nat.zero_le _⟩ rfl 0 rfl rfl rfl (Nat.le_of_ble_eq_true rfl) [0, 1, 3, 5, 6, 7] [2, 4] [2, 3, 0, 4, 1, 5, 6, 7] rfl rfl (by decide) (by decide) rfl (by decide) dX0_raiseBy_55 58 rfl ?_
      refine g_istore (lv' := [(5, .int (nI (unF Ex To Tp Bl r))), (4, .int (nI ((Tl ((To r) * 5 + ((Tp r) - 1))) + lf))), (3, .int (nI lf)), (0, .ref e0), (1, .ref h0), (2, .int (nI r))]) C dX0_raiseBy_58 60 rfl (by decide) rfl ?_
      refine g_iconst (v := nI 0) C dX0_raiseBy_60 (by decide) 61 rfl ?_
      refine g_istore (lv' := [(6, .int (nI 0)), (5, .int (nI (unF Ex To Tp Bl r))), (4, .int (nI ((Tl ((To r) * 5 + ((Tp r) - 1))) + lf))), (3, .int (nI lf)), (0, .ref e0), (1, .ref h0), (2, .int (nI r))]) C dX0_raiseBy_61 63 rfl (by decide) rfl ?_
      have L63 : ∀ hd, hd ≤ 25 → Go E 0 0 63 [(6, .int (nI hd)), (5, .int (nI (unF Ex To Tp Bl r))), (4, .int (nI (rcQ Tl (unF Ex To Tp Bl r) (Tl (((To r) * 5) + ((Tp r) - 1)) + lf) hd))), (3, .int (nI lf)), (0, .ref e0), (1, .ref h0), (2, .int (nI r))] [] [ob e0 0 [.ref qx, .ref qa, .ref qw, .int (nI ci), .int (nI bo), .int (oI sh)], aN (eY E) qx 25 Ex, aN (eY E) qw 25 Tl, ob h0 4 [.int (nI n), .int (nI m), .int (nI z), .int (nI st), .ref qh, .ref qt, .ref qp, .ref qb], aN (eY E) qh 30 Hd, aN (eY E) qt 30 To, aO (eY E) qp 30 Tp, aO (eY E) qb 30 Bl] := by
        refine go_for 25 (fun hd => Go E 0 0 63 [(6, .int (nI hd)), (5, .int (nI (unF Ex To Tp Bl r))), (4, .int (nI (rcQ Tl (unF Ex To Tp Bl r) (Tl (((To r) * 5) + ((Tp r) - 1)) + lf) hd))), (3, .int (nI lf)), (0, .ref e0), (1, .ref h0), (2, .int (nI r))] [] [ob e0 0 [.ref qx, .ref qa, .ref qw, .int (nI ci), .int (nI bo), .int (oI sh)], aN (eY E) qx 25 Ex, aN (eY E) qw 25 Tl, ob h0 4 [.int (nI n), .int (nI m), .int (nI z), .int (nI st), .ref qh, .ref qt, .ref qp, .ref qb], aN (eY E) qh 30 Hd, aN (eY E) qt 30 To, aO (eY E) qp 30 Tp, aO (eY E) qb 30 Bl]) (fun hd hi_hd ih_hd => ?_)
        have hQ := rcQ_le (M := 2 ^ 20) (fun k => Nat.le_of_lt (hT k)) (sh := unF Ex To Tp Bl r) (v := Tl (((To r) * 5) + ((Tp r) - 1)) + lf) (by omega) hd
        have hT3 := hT hd
        refine g_iload C dX0_raiseBy_63 65 rfl 0 rfl ?_
        refine g_bipush (v := nI 25) C dX0_raiseBy_65 (by decide) 67 rfl ?_
        refine g_icmp_ge (X := 25 ≤ hd) C dX0_raiseBy_67 100 (by decide) 70 rfl (nI_leI (by omega) (by omega)) ?_ ?_
        · intro h67
          have x_hd : hd = 25 := by omega
          try rw [x_hd]
          rw [x_hd] at hQ
          have hV : rcQ Tl (unF Ex To Tp Bl r) (Tl (((To r) * 5) + ((Tp r) - 1)) + lf) 25 = rbV Ex To Tp Bl Tl r := by rw [hlf, rbV]
          refine g_iload C dX0_raiseBy_100 102 rfl 2 rfl ?_
          refine g_aload_n C dX0_raiseBy_102 rfl 103 rfl 4 rfl ?_
          refine g_get C iX0 0 rfl rfl 2 (by decide) (C.1.2.2.2.2 (.fieldLink RX0 18 "StackRuns$Heads" "tallest" "[I") (List.mem_of_getElem? (i := 1) rfl)) rfl dX0_raiseBy_103 106 rfl ?_
          refine g_aload_n C dX0_raiseBy_106 rfl 107 rfl 5 rfl ?_
          refine g_getN C iX4 3 rfl rfl 4 (by decide) (nf_RX0_70 C.2.2.1 _) rfl dX0_raiseBy_107 110 rfl ?_
          refine g_iload_n C dX0_raiseBy_110 rfl 111 rfl 6 rfl ?_
          refine g_iald (i := r) C 4 rfl (by omega) (by decide) dX0_raiseBy_111 112 rfl ?_
          refine g_iald (i := (Hd r)) C 2 rfl (by omega) (by decide) dX0_raiseBy_112 113 rfl ?_
          refine g_icmp_gt (X := Tl (Hd r) < rcQ Tl (unF Ex To Tp Bl r) (Tl (((To r) * 5) + ((Tp r) - 1)) + lf) 25) C dX0_raiseBy_113 118 (by decide) 116 rfl (nI_ltI (by omega) (by omega)) ?_ ?_
          · intro h113
            refine g_aload_n C dX0_raiseBy_118 rfl 119 rfl 4 rfl ?_
            refine g_get C iX0 0 rfl rfl 2 (by decide) (C.1.2.2.2.2 (.fieldLink RX0 18 "StackRuns$Heads" "tallest" "[I") (List.mem_of_getElem? (i := 1) rfl)) rfl dX0_raiseBy_119 122 rfl ?_
            refine g_aload_n C dX0_raiseBy_122 rfl 123 rfl 5 rfl ?_
            refine g_getN C iX4 3 rfl rfl 4 (by decide) (nf_RX0_70 C.2.2.1 _) rfl dX0_raiseBy_123 126 rfl ?_
            refine g_iload_n C dX0_raiseBy_126 rfl 127 rfl 6 rfl ?_
            refine g_iald (i := r) C 4 rfl (by omega) (by decide) dX0_raiseBy_127 128 rfl ?_
            refine g_iload C dX0_raiseBy_128 130 rfl 2 rfl ?_
            refine g_iast (ws' := [ob e0 0 [.ref qx, .ref qa, .ref qw, .int (nI ci), .int (nI bo), .int (oI sh)], aN (eY E) qx 25 Ex, aN (eY E) qw 25 (up Tl (Hd r) (rcQ Tl (unF Ex To Tp Bl r) (Tl (((To r) * 5) + ((Tp r) - 1)) + lf) 25)), ob h0 4 [.int (nI n), .int (nI m), .int (nI z), .int (nI st), .ref qh, .ref qt, .ref qp, .ref qb], aN (eY E) qh 30 Hd, aN (eY E) qt 30 To, aO (eY E) qp 30 Tp, aO (eY E) qb 30 Bl]) (i := (Hd r)) C 2 rfl (by omega) (by decide) dX0_raiseBy_130 131 rfl (upd_N _ _ _) rfl ?_
            refine g_iconst (v := nI 1) C dX0_raiseBy_131 (by decide) 132 rfl ?_
            have e_1 : (rbB Ex Hd To Tp Bl Tl r) = true := by first | with_reducible rfl | (first | exact (rb_yes h7 h113 hV).1 | exact (rb_yes h7 h113 hV).2)
            have e_2 : (rbC Ex Hd To Tp Bl Tl r) = (up Tl (Hd r) (rcQ Tl (unF Ex To Tp Bl r) (Tl (((To r) * 5) + ((Tp r) - 1)) + lf) 25)) := by first | with_reducible rfl | (first | exact (rb_yes h7 h113 hV).1 | exact (rb_yes h7 h113 hV).2)
            refine go_eq rfl (st' := [.int (bI (rbB Ex Hd To Tp Bl Tl r))]) (ws' := [ob e0 0 [.ref qx, .ref qa, .ref qw, .int (nI ci), .int (nI bo), .int (oI sh)], aN (eY E) qx 25 Ex, aN (eY E) qw 25 (rbC Ex Hd To Tp Bl Tl r), ob h0 4 [.int (nI n), .int (nI m), .int (nI z), .int (nI st), .ref qh, .ref qt, .ref qp, .ref qb], aN (eY E) qh 30 Hd, aN (eY E) qt 30 To, aO (eY E) qp 30 Tp, aO (eY E) qb 30 Bl]) (by first | with_reducible rfl | (simp only [e_1, e_2, oI_s, oI_0, bI_1, bI_0, and_self, reduceIte]; done)) (by first | with_reducible rfl | (simp only [e_1, e_2, oI_s, oI_0, bI_1, bI_0, and_self, reduceIte]; done)) ?_
            exact hret _ _ dX0_raiseBy_132
          · intro h113
            refine g_iconst (v := nI 0) C dX0_raiseBy_116 (by decide) 117 rfl ?_
            have e_3 : (rbB Ex Hd To Tp Bl Tl r) = false := by first | with_reducible rfl | (first | exact (rb_no h7 h113 hV).1 | exact (rb_no h7 h113 hV).2)
            have e_4 : (rbC Ex Hd To Tp Bl Tl r) = Tl := by first | with_reducible rfl | (first | exact (rb_no h7 h113 hV).1 | exact (rb_no h7 h113 hV).2)
            refine go_eq rfl (st' := [.int (bI (rbB Ex Hd To Tp Bl Tl r))]) (ws' := [ob e0 0 [.ref qx, .ref qa, .ref qw, .int (nI ci), .int (nI bo), .int (oI sh)], aN (eY E) qx 25 Ex, aN (eY E) qw 25 (rbC Ex Hd To Tp Bl Tl r), ob h0 4 [.int (nI n), .int (nI m), .int (nI z), .int (nI st), .ref qh, .ref qt, .ref qp, .ref qb], aN (eY E) qh 30 Hd, aN (eY E) qt 30 To, aO (eY E) qp 30 Tp, aO (eY E) qb 30 Bl]) (by first | with_reducible rfl | (simp only [e_3, e_4, oI_s, oI_0, bI_1, bI_0, and_self, reduceIte]; done)) (by first | with_reducible rfl | (simp only [e_3, e_4, oI_s, oI_0, bI_1, bI_0, and_self, reduceIte]; done)) ?_
            exact hret _ _ dX0_raiseBy_117
        · intro h67
          refine g_iload C dX0_raiseBy_70 72 rfl 1 rfl ?_
          refine g_iload C dX0_raiseBy_72 74 rfl 0 rfl ?_
          refine g_cSNi (ws2 := [ob e0 0 [.ref qx, .ref qa, .ref qw, .int (nI ci), .int (nI bo), .int (oI sh)], aN (eY E) qx 25 Ex, aN (eY E) qw 25 Tl, ob h0 4 [.int (nI n), .int (nI m), .int (nI z), .int (nI st), .ref qh, .ref qt, .ref qp, .ref qb], aN (eY E) qh 30 Hd, aN (eY E) qt 30 To, aO (eY E) qp 30 Tp, aO (eY E) qb 30 Bl]) (As := [.int (nI (unF Ex To Tp Bl r)), .int (nI hd)]) (st := []) (wsc := []) (wr := [ob e0 0 [.ref qx, .ref qa, .ref qw, .int (nI ci), .int (nI bo), .int (oI sh)], aN (eY E) qx 25 Ex, aN (eY E) qw 25 Tl, ob h0 4 [.int (nI n), .int (nI m), .int (nI z), .int (nI st), .ref qh, .ref qt, .ref qp, .ref qb], aN (eY E) qh 30 Hd, aN (eY E) qt 30 To, aO (eY E) qp 30 Tp, aO (eY E) qb 30 Bl]) C (c_X6_hasBit (eL E) (eD E) (eY E) (unF Ex To Tp Bl r) hd (by omega) (by omega)) 2 ggX0_raiseBy_X6_hasBit (nm_RX0_84 C.2.2.1) (List.mem_of_getElem? (i := 7) rfl) (List.mem_of_getElem? (i := 15) rfl) rfl (by decide +kernel) (by decide) ⟨Nat.zero_le _, Nat.zero_le _⟩ rfl rfl (Nat.le_of_ble_eq_true rfl) [] [0, 1, 2, 3, 4, 5, 6, 7] [0, 1, 2, 3, 4, 5, 6, 7] rfl rfl (by decide) (by decide) rfl (by decide) dX0_raiseBy_74 77 rfl ?_
          refine g_if_eq (X := (unF Ex To Tp Bl r).testBit hd = false) C dX0_raiseBy_77 94 (by decide) 80 rfl (bI_eq0 _) ?_ ?_
          · intro h77
            refine g_iinc (lv' := [(6, .int (nI (hd + 1))), (5, .int (nI (unF Ex To Tp Bl r))), (4, .int (nI (rcQ Tl (unF Ex To Tp Bl r) (Tl (((To r) * 5) + ((Tp r) - 1)) + lf) hd))), (3, .int (nI lf)), (0, .ref e0), (1, .ref h0), (2, .int (nI r))]) C dX0_raiseBy_94 97 rfl 0 rfl (by decide) rfl ?_
            refine g_goto C dX0_raiseBy_97 63 (by decide) ?_
            have e_5 : (rcQ Tl (unF Ex To Tp Bl r) (Tl (((To r) * 5) + ((Tp r) - 1)) + lf) (hd + 1)) = (rcQ Tl (unF Ex To Tp Bl r) (Tl (((To r) * 5) + ((Tp r) - 1)) + lf) hd) := by first | with_reducible rfl | (simp only [rcQ, h77, Bool.false_eq_true, reduceIte])
            refine go_eq (lv' := [(6, .int (nI (hd + 1))), (5, .int (nI (unF Ex To Tp Bl r))), (4, .int (nI (rcQ Tl (unF Ex To Tp Bl r) (Tl (((To r) * 5) + ((Tp r) - 1)) + lf) (hd + 1)))), (3, .int (nI lf)), (0, .ref e0), (1, .ref h0), (2, .int (nI r))]) (ws' := [ob e0 0 [.ref qx, .ref qa, .ref qw, .int (nI ci), .int (nI bo), .int (oI sh)], aN (eY E) qx 25 Ex, aN (eY E) qw 25 Tl, ob h0 4 [.int (nI n), .int (nI m), .int (nI z), .int (nI st), .ref qh, .ref qt, .ref qp, .ref qb], aN (eY E) qh 30 Hd, aN (eY E) qt 30 To, aO (eY E) qp 30 Tp, aO (eY E) qb 30 Bl]) (by first | with_reducible rfl | (simp only [e_5, oI_s, oI_0, bI_1, bI_0, and_self, reduceIte]; done)) rfl (by first | with_reducible rfl | (simp only [oI_s, oI_0, bI_1, bI_0, and_self, reduceIte]; done) | rfl) ?_
            exact ih_hd (by omega)
          · intro h77
            have h77 : (unF Ex To Tp Bl r).testBit hd = true := by simpa using h77
            refine g_iload C dX0_raiseBy_80 82 rfl 2 rfl ?_
            refine g_aload_n C dX0_raiseBy_82 rfl 83 rfl 4 rfl ?_
            refine g_get C iX0 0 rfl rfl 2 (by decide) (C.1.2.2.2.2 (.fieldLink RX0 18 "StackRuns$Heads" "tallest" "[I") (List.mem_of_getElem? (i := 1) rfl)) rfl dX0_raiseBy_83 86 rfl ?_
            refine g_iload C dX0_raiseBy_86 88 rfl 0 rfl ?_
            refine g_iald (i := hd) C 2 rfl (by omega) (by decide) dX0_raiseBy_88 89 rfl ?_
            refine g_max C (List.mem_of_getElem? (i := 2) rfl) (List.mem_of_getElem? (i := 3) rfl) (List.mem_of_getElem? (i := 4) rfl) (List.mem_of_getElem? (i := 5) rfl) (by decide) (Nat.le_of_ble_eq_true rfl) ⟨Nat.zero_le _, Nat.zero_le _⟩ (by omega) (by omega) dX0_raiseBy_89 92 rfl ?_
            refine g_istore (lv' := [(4, .int (nI (max (rcQ Tl (unF Ex To Tp Bl r) (Tl (((To r) * 5) + ((Tp r) - 1)) + lf) hd) (Tl hd)))), (6, .int (nI hd)), (5, .int (nI (unF Ex To Tp Bl r))), (3, .int (nI lf)), (0, .ref e0), (1, .ref h0), (2, .int (nI r))]) C dX0_raiseBy_92 94 rfl (by decide) rfl ?_
            refine g_iinc (lv' := [(6, .int (nI (hd + 1))), (4, .int (nI (max (rcQ Tl (unF Ex To Tp Bl r) (Tl (((To r) * 5) + ((Tp r) - 1)) + lf) hd) (Tl hd)))), (5, .int (nI (unF Ex To Tp Bl r))), (3, .int (nI lf)), (0, .ref e0), (1, .ref h0), (2, .int (nI r))]) C dX0_raiseBy_94 97 rfl 1 rfl (by decide) rfl ?_
            refine g_goto C dX0_raiseBy_97 63 (by decide) ?_
            refine go_lv (lv' := [(6, .int (nI (hd + 1))), (5, .int (nI (unF Ex To Tp Bl r))), (4, .int (nI (max (rcQ Tl (unF Ex To Tp Bl r) (Tl (((To r) * 5) + ((Tp r) - 1)) + lf) hd) (Tl hd)))), (3, .int (nI lf)), (0, .ref e0), (1, .ref h0), (2, .int (nI r))]) [0, 2, 1, 3, 4, 5, 6] rfl ?_
            have e_6 : (rcQ Tl (unF Ex To Tp Bl r) (Tl (((To r) * 5) + ((Tp r) - 1)) + lf) (hd + 1)) = (max (rcQ Tl (unF Ex To Tp Bl r) (Tl (((To r) * 5) + ((Tp r) - 1)) + lf) hd) (Tl hd)) := by first | with_reducible rfl | (simp only [rcQ, h77, Bool.false_eq_true, reduceIte])
            refine go_eq (lv' := [(6, .int (nI (hd + 1))), (5, .int (nI (unF Ex To Tp Bl r))), (4, .int (nI (rcQ Tl (unF Ex To Tp Bl r) (Tl (((To r) * 5) + ((Tp r) - 1)) + lf) (hd + 1)))), (3, .int (nI lf)), (0, .ref e0), (1, .ref h0), (2, .int (nI r))]) (ws' := [ob e0 0 [.ref qx, .ref qa, .ref qw, .int (nI ci), .int (nI bo), .int (oI sh)], aN (eY E) qx 25 Ex, aN (eY E) qw 25 Tl, ob h0 4 [.int (nI n), .int (nI m), .int (nI z), .int (nI st), .ref qh, .ref qt, .ref qp, .ref qb], aN (eY E) qh 30 Hd, aN (eY E) qt 30 To, aO (eY E) qp 30 Tp, aO (eY E) qb 30 Bl]) (by first | with_reducible rfl | (simp only [e_6, oI_s, oI_0, bI_1, bI_0, and_self, reduceIte]; done)) rfl (by first | with_reducible rfl | (simp only [oI_s, oI_0, bI_1, bI_0, and_self, reduceIte]; done) | rfl) ?_
            exact ih_hd (by omega)
      have e_7 : (rcQ Tl (unF Ex To Tp Bl r) (Tl (((To r) * 5) + ((Tp r) - 1)) + lf) 0) = ((Tl ((To r) * 5 + ((Tp r) - 1))) + lf) := by first | with_reducible rfl | (rfl)
      refine go_eq (lv' := [(6, .int (nI 0)), (5, .int (nI (unF Ex To Tp Bl r))), (4, .int (nI (rcQ Tl (unF Ex To Tp Bl r) (Tl (((To r) * 5) + ((Tp r) - 1)) + lf) 0))), (3, .int (nI lf)), (0, .ref e0), (1, .ref h0), (2, .int (nI r))]) (ws' := [ob e0 0 [.ref qx, .ref qa, .ref qw, .int (nI ci), .int (nI bo), .int (oI sh)], aN (eY E) qx 25 Ex, aN (eY E) qw 25 Tl, ob h0 4 [.int (nI n), .int (nI m), .int (nI z), .int (nI st), .ref qh, .ref qt, .ref qp, .ref qb], aN (eY E) qh 30 Hd, aN (eY E) qt 30 To, aO (eY E) qp 30 Tp, aO (eY E) qb 30 Bl]) (by first | with_reducible rfl | (simp only [e_7, oI_s, oI_0, bI_1, bI_0, and_self, reduceIte]; done)) rfl (by first | with_reducible rfl | (simp only [oI_s, oI_0, bI_1, bI_0, and_self, reduceIte]; done) | rfl) ?_
      exact L63 0 (by omega)
    refine g_icmp_ne (X := ¬ Bl r = 0) C dX0_raiseBy_19 26 (by decide) 22 rfl (not_congr (oI_eq (by omega))) ?_ ?_
    · intro h19
      refine g_iconst (v := nI 1) C dX0_raiseBy_26 (by decide) 27 rfl ?_
      exact J27 1 (by simp [*])
    · intro h19
      have h19 : Bl r = 0 := Decidable.not_not.mp h19
      refine g_iconst (v := nI 0) C dX0_raiseBy_22 (by decide) 23 rfl ?_
      refine g_goto C dX0_raiseBy_23 27 (by decide) ?_
      exact J27 0 (by simp [*])
  · intro h7
    have h7 : Tp r = 0 := Decidable.not_not.mp h7
    refine g_iconst (v := nI 0) C dX0_raiseBy_10 (by decide) 11 rfl ?_
    have e_8 : (rbB Ex Hd To Tp Bl Tl r) = false := by first | with_reducible rfl | (first | exact rbB_0 h7 | exact rbC_0 h7)
    have e_9 : (rbC Ex Hd To Tp Bl Tl r) = Tl := by first | with_reducible rfl | (first | exact rbB_0 h7 | exact rbC_0 h7)
    refine go_eq rfl (st' := [.int (bI (rbB Ex Hd To Tp Bl Tl r))]) (ws' := [ob e0 0 [.ref qx, .ref qa, .ref qw, .int (nI ci), .int (nI bo), .int (oI sh)], aN (eY E) qx 25 Ex, aN (eY E) qw 25 (rbC Ex Hd To Tp Bl Tl r), ob h0 4 [.int (nI n), .int (nI m), .int (nI z), .int (nI st), .ref qh, .ref qt, .ref qp, .ref qb], aN (eY E) qh 30 Hd, aN (eY E) qt 30 To, aO (eY E) qp 30 Tp, aO (eY E) qb 30 Bl]) (by first | with_reducible rfl | (simp only [e_8, e_9, oI_s, oI_0, bI_1, bI_0, and_self, reduceIte]; done)) (by first | with_reducible rfl | (simp only [e_8, e_9, oI_s, oI_0, bI_1, bI_0, and_self, reduceIte]; done)) ?_
    exact hret _ _ dX0_raiseBy_11
set_option maxHeartbeats 4000000 in
set_option maxRecDepth 100000 in
theorem c_X0_findTallest (l : Launch) (D : va_G) (cy : Nat → ClassId) (e0 : Nat) (qx : Nat) (qa : Nat) (qw : Nat) (ci : Nat) (bo : Nat) (sh : Nat) (Ex : Nat → Nat) (Tl : Nat → Nat) (h0 : Nat) (n : Nat) (m : Nat) (z : Nat) (st : Nat) (qh : Nat) (qt : Nat) (qp : Nat) (qb : Nat) (Hd : Nat → Nat) (To : Nat → Nat) (Tp : Nat → Nat) (Bl : Nat → Nat) (hEx : ∀ k, Ex k < 32) (hR : ∀ r, Hd r < 25 ∧ To r < 5 ∧ Tp r ≤ 5 ∧ Bl r ≤ 5) (hTB : ∀ r, Tp r = 0 → Bl r = 0) (hz : z ≤ 30) (hbo : bo < 2 ^ 25) : CoV l yX0_findTallest wsX0_findTallest 3 72 D cy [ob e0 0 [.ref qx, .ref qa, .ref qw, .int (nI ci), .int (nI bo), .int (oI sh)], aN cy qx 25 Ex, aN cy qw 25 Tl, ob h0 4 [.int (nI n), .int (nI m), .int (nI z), .int (nI st), .ref qh, .ref qt, .ref qp, .ref qb], aN cy qh 30 Hd, aN cy qt 30 To, aO cy qp 30 Tp, aO cy qb 30 Bl] [.ref e0, .ref h0] [ob e0 0 [.ref qx, .ref qa, .ref qw, .int (nI ci), .int (nI bo), .int (oI sh)], aN cy qx 25 Ex, aN cy qw 25 (tfT bo z Ex Hd To Tp Bl 26), ob h0 4 [.int (nI n), .int (nI m), .int (nI z), .int (nI st), .ref qh, .ref qt, .ref qp, .ref qb], aN cy qh 30 Hd, aN cy qt 30 To, aO cy qp 30 Tp, aO cy qb 30 Bl] := by
  refine met_v (cc := cX0_findTallest) (maxL := 6) (own := RX0) (lv := [(0, .ref e0), (1, .ref h0)]) (by decide) rfl rfl rfl (Nat.le_of_ble_eq_true rfl) (fun E e1 e2 e3 C hret => ?_)
  subst e1; subst e2; subst e3
  have iX0 : ∀ w ∈ wsX00, w ∈ wsX0_findTallest := fun _ h => List.mem_cons_of_mem _ (List.mem_append_left _ (List.mem_append_right _ h))
  have iX4 : ∀ w ∈ wsX40, w ∈ wsX0_findTallest := fun _ h => List.mem_cons_of_mem _ (List.mem_append_right _ h)
  refine g_aload_n C dX0_findTallest_0 rfl 1 rfl 0 rfl ?_
  refine g_get C iX0 0 rfl rfl 2 (by decide) (C.1.2.2.2.2 (.fieldLink RX0 18 "StackRuns$Heads" "tallest" "[I") (List.mem_of_getElem? (i := 1) rfl)) rfl dX0_findTallest_1 4 rfl ?_
  refine g_iconst (v := nI 1) C dX0_findTallest_4 (by decide) 5 rfl ?_
  refine g_cSv (ws2 := [ob e0 0 [.ref qx, .ref qa, .ref qw, .int (nI ci), .int (nI bo), .int (oI sh)], aN (eY E) qx 25 Ex, aN (eY E) qw 25 (fun _ => 1), ob h0 4 [.int (nI n), .int (nI m), .int (nI z), .int (nI st), .ref qh, .ref qt, .ref qp, .ref qb], aN (eY E) qh 30 Hd, aN (eY E) qt 30 To, aO (eY E) qp 30 Tp, aO (eY E) qb 30 Bl]) (As := [.ref qw, .int (nI 1)]) (st := []) (wsc := [aN (eY E) qw 25 Tl]) (wr := [ob e0 0 [.ref qx, .ref qa, .ref qw, .int (nI ci), .int (nI bo), .int (oI sh)], aN (eY E) qx 25 Ex, ob h0 4 [.int (nI n), .int (nI m), .int (nI z), .int (nI st), .ref qh, .ref qt, .ref qp, .ref qb], aN (eY E) qh 30 Hd, aN (eY E) qt 30 To, aO (eY E) qp 30 Tp, aO (eY E) qb 30 Bl]) C (c_J7_fill_53178 (eL E) (eD E) (eY E) qw 25 Tl 1 (by decide)) 2 gX0_findTallest_J7_fill_53178 rfl (by decide +kernel) (by decide) ⟨Nat.zero_le _, Nat.zero_le _⟩ rfl rfl (Nat.le_of_ble_eq_true rfl) [2] [0, 1, 3, 4, 5, 6, 7] [0, 1, 7, 2, 3, 4, 5, 6] rfl rfl (by decide) (by decide) rfl (by decide) dX0_findTallest_5 8 rfl ?_
  refine g_iconst (v := nI 1) C dX0_findTallest_8 (by decide) 9 rfl ?_
  refine g_istore_n (lv' := [(2, .int (nI 1)), (0, .ref e0), (1, .ref h0)]) C dX0_findTallest_9 rfl 10 rfl (by decide) rfl ?_
  refine g_iconst (v := nI 0) C dX0_findTallest_10 (by decide) 11 rfl ?_
  refine g_istore_n (lv' := [(3, .int (nI 0)), (2, .int (nI 1)), (0, .ref e0), (1, .ref h0)]) C dX0_findTallest_11 rfl 12 rfl (by decide) rfl ?_
  have L12 : ∀ t, t ≤ 26 → Go E 0 0 12 [(3, .int (nI t)), (2, .int (bI (tfW bo z Ex Hd To Tp Bl t))), (0, .ref e0), (1, .ref h0)] [] [ob e0 0 [.ref qx, .ref qa, .ref qw, .int (nI ci), .int (nI bo), .int (oI sh)], aN (eY E) qx 25 Ex, aN (eY E) qw 25 (tfT bo z Ex Hd To Tp Bl t), ob h0 4 [.int (nI n), .int (nI m), .int (nI z), .int (nI st), .ref qh, .ref qt, .ref qp, .ref qb], aN (eY E) qh 30 Hd, aN (eY E) qt 30 To, aO (eY E) qp 30 Tp, aO (eY E) qb 30 Bl] := by
    refine go_for 26 (fun t => Go E 0 0 12 [(3, .int (nI t)), (2, .int (bI (tfW bo z Ex Hd To Tp Bl t))), (0, .ref e0), (1, .ref h0)] [] [ob e0 0 [.ref qx, .ref qa, .ref qw, .int (nI ci), .int (nI bo), .int (oI sh)], aN (eY E) qx 25 Ex, aN (eY E) qw 25 (tfT bo z Ex Hd To Tp Bl t), ob h0 4 [.int (nI n), .int (nI m), .int (nI z), .int (nI st), .ref qh, .ref qt, .ref qp, .ref qb], aN (eY E) qh 30 Hd, aN (eY E) qt 30 To, aO (eY E) qp 30 Tp, aO (eY E) qb 30 Bl]) (fun t hi_t ih_t => ?_)
    refine g_iload_n C dX0_findTallest_12 rfl 13 rfl 1 rfl ?_
    refine g_if_eq (X := tfW bo z Ex Hd To Tp Bl t = false) C dX0_findTallest_13 97 (by decide) 16 rfl (bI_eq0 _) ?_ ?_
    · intro h13
      have e_1 : (tfT bo z Ex Hd To Tp Bl 26) = (tfT bo z Ex Hd To Tp Bl t) := by first | with_reducible rfl | (first | (rw [tfT_stop (t := t) hi_t h13]; done) | (rw [show t = 26 from by omega]))
      refine go_eq rfl (st' := []) (ws' := [ob e0 0 [.ref qx, .ref qa, .ref qw, .int (nI ci), .int (nI bo), .int (oI sh)], aN (eY E) qx 25 Ex, aN (eY E) qw 25 (tfT bo z Ex Hd To Tp Bl 26), ob h0 4 [.int (nI n), .int (nI m), .int (nI z), .int (nI st), .ref qh, .ref qt, .ref qp, .ref qb], aN (eY E) qh 30 Hd, aN (eY E) qt 30 To, aO (eY E) qp 30 Tp, aO (eY E) qb 30 Bl]) (by first | with_reducible rfl | (simp only [e_1, oI_s, oI_0, bI_1, bI_0, and_self, reduceIte]; done)) (by first | with_reducible rfl | (simp only [e_1, oI_s, oI_0, bI_1, bI_0, and_self, reduceIte]; done)) ?_
      exact hret _ _ dX0_findTallest_97
    · intro h13
      have h13 : tfW bo z Ex Hd To Tp Bl t = true := by simpa using h13
      refine g_iload_n C dX0_findTallest_16 rfl 17 rfl 0 rfl ?_
      refine g_bipush (v := nI 25) C dX0_findTallest_17 (by decide) 19 rfl ?_
      refine g_icmp_gt (X := 25 < t) C dX0_findTallest_19 97 (by decide) 22 rfl (nI_ltI (by omega) (by omega)) ?_ ?_
      · intro h19
        have e_2 : (tfT bo z Ex Hd To Tp Bl 26) = (tfT bo z Ex Hd To Tp Bl t) := by first | with_reducible rfl | (first | (rw [tfT_stop (t := t) hi_t h13]; done) | (rw [show t = 26 from by omega]))
        refine go_eq rfl (st' := []) (ws' := [ob e0 0 [.ref qx, .ref qa, .ref qw, .int (nI ci), .int (nI bo), .int (oI sh)], aN (eY E) qx 25 Ex, aN (eY E) qw 25 (tfT bo z Ex Hd To Tp Bl 26), ob h0 4 [.int (nI n), .int (nI m), .int (nI z), .int (nI st), .ref qh, .ref qt, .ref qp, .ref qb], aN (eY E) qh 30 Hd, aN (eY E) qt 30 To, aO (eY E) qp 30 Tp, aO (eY E) qb 30 Bl]) (by first | with_reducible rfl | (simp only [e_2, oI_s, oI_0, bI_1, bI_0, and_self, reduceIte]; done)) (by first | with_reducible rfl | (simp only [e_2, oI_s, oI_0, bI_1, bI_0, and_self, reduceIte]; done)) ?_
        exact hret _ _ dX0_findTallest_97
      · intro h19
        refine g_iconst (v := nI 0) C dX0_findTallest_22 (by decide) 23 rfl ?_
        refine g_istore_n (lv' := [(2, .int (nI 0)), (3, .int (nI t)), (0, .ref e0), (1, .ref h0)]) C dX0_findTallest_23 rfl 24 rfl (by decide) rfl ?_
        refine g_iconst (v := nI 0) C dX0_findTallest_24 (by decide) 25 rfl ?_
        refine g_istore (lv' := [(4, .int (nI 0)), (2, .int (nI 0)), (3, .int (nI t)), (0, .ref e0), (1, .ref h0)]) C dX0_findTallest_25 27 rfl (by decide) rfl ?_
        have L27 : ∀ r, r ≤ z → Go E 0 0 27 [(4, .int (nI r)), (2, .int (bI (tfB bo Ex Hd To Tp Bl (tfT bo z Ex Hd To Tp Bl t) r))), (3, .int (nI t)), (0, .ref e0), (1, .ref h0)] [] [ob e0 0 [.ref qx, .ref qa, .ref qw, .int (nI ci), .int (nI bo), .int (oI sh)], aN (eY E) qx 25 Ex, aN (eY E) qw 25 (tfR bo Ex Hd To Tp Bl (tfT bo z Ex Hd To Tp Bl t) r), ob h0 4 [.int (nI n), .int (nI m), .int (nI z), .int (nI st), .ref qh, .ref qt, .ref qp, .ref qb], aN (eY E) qh 30 Hd, aN (eY E) qt 30 To, aO (eY E) qp 30 Tp, aO (eY E) qb 30 Bl] := by
          refine go_for z (fun r => Go E 0 0 27 [(4, .int (nI r)), (2, .int (bI (tfB bo Ex Hd To Tp Bl (tfT bo z Ex Hd To Tp Bl t) r))), (3, .int (nI t)), (0, .ref e0), (1, .ref h0)] [] [ob e0 0 [.ref qx, .ref qa, .ref qw, .int (nI ci), .int (nI bo), .int (oI sh)], aN (eY E) qx 25 Ex, aN (eY E) qw 25 (tfR bo Ex Hd To Tp Bl (tfT bo z Ex Hd To Tp Bl t) r), ob h0 4 [.int (nI n), .int (nI m), .int (nI z), .int (nI st), .ref qh, .ref qt, .ref qp, .ref qb], aN (eY E) qh 30 Hd, aN (eY E) qt 30 To, aO (eY E) qp 30 Tp, aO (eY E) qb 30 Bl]) (fun r hi_r ih_r => ?_)
          have hR1 := hR r
          have hY : ∀ k, (tfR bo Ex Hd To Tp Bl (tfT bo z Ex Hd To Tp Bl t) r) k < 2 ^ 20 := fun k => by have h1 := tfR_le (bo := bo) (Ex := Ex) (Hd := Hd) (To := To) (Tp := Tp) (Bl := Bl) (tfT_le (bo := bo) (z := z) (Ex := Ex) (Hd := Hd) (To := To) (Tp := Tp) (Bl := Bl) t) r k; have h2 : t * z ≤ 26 * 30 := Nat.mul_le_mul (by omega) hz; omega
          refine g_iload C dX0_findTallest_27 29 rfl 0 rfl ?_
          refine g_aload_n C dX0_findTallest_29 rfl 30 rfl 4 rfl ?_
          refine g_getN C iX4 3 rfl rfl 2 (by decide) (nf_RX0_64 C.2.2.1 _) rfl dX0_findTallest_30 33 rfl ?_
          refine g_icmp_ge (X := z ≤ r) C dX0_findTallest_33 91 (by decide) 36 rfl (nI_leI (by omega) (by omega)) ?_ ?_
          · intro h33
            have x_r : r = z := by omega
            try rw [x_r]
            refine g_iinc (lv' := [(3, .int (nI (t + 1))), (4, .int (nI z)), (2, .int (bI (tfB bo Ex Hd To Tp Bl (tfT bo z Ex Hd To Tp Bl t) z))), (0, .ref e0), (1, .ref h0)]) C dX0_findTallest_91 94 rfl 2 rfl (by decide) rfl ?_
            refine g_goto C dX0_findTallest_94 12 (by decide) ?_
            refine go_lv (lv' := [(3, .int (nI (t + 1))), (2, .int (bI (tfB bo Ex Hd To Tp Bl (tfT bo z Ex Hd To Tp Bl t) z))), (0, .ref e0), (1, .ref h0)]) [0, 2, 3, 4] rfl ?_
            have e_3 : (tfW bo z Ex Hd To Tp Bl (t + 1)) = (tfB bo Ex Hd To Tp Bl (tfT bo z Ex Hd To Tp Bl t) z) := by first | with_reducible rfl | (rfl)
            have e_4 : (tfT bo z Ex Hd To Tp Bl (t + 1)) = (tfR bo Ex Hd To Tp Bl (tfT bo z Ex Hd To Tp Bl t) z) := by first | with_reducible rfl | (rfl)
            refine go_eq (lv' := [(3, .int (nI (t + 1))), (2, .int (bI (tfW bo z Ex Hd To Tp Bl (t + 1)))), (0, .ref e0), (1, .ref h0)]) (ws' := [ob e0 0 [.ref qx, .ref qa, .ref qw, .int (nI ci), .int (nI bo), .int (oI sh)], aN (eY E) qx 25 Ex, aN (eY E) qw 25 (tfT bo z Ex Hd To Tp Bl (t + 1)), ob h0 4 [.int (nI n), .int (nI m), .int (nI z), .int (nI st), .ref qh, .ref qt, .ref qp, .ref qb], aN (eY E) qh 30 Hd, aN (eY E) qt 30 To, aO (eY E) qp 30 Tp, aO (eY E) qb 30 Bl]) (by first | with_reducible rfl | (simp only [e_3, oI_s, oI_0, bI_1, bI_0, and_self, reduceIte]; done)) rfl (by first | with_reducible rfl | (simp only [e_4, oI_s, oI_0, bI_1, bI_0, and_self, reduceIte]; done)) ?_
            exact ih_t (by omega)
          · intro h33
            refine g_aload_n C dX0_findTallest_36 rfl 37 rfl 3 rfl ?_
            refine g_get C iX0 0 rfl rfl 4 (by decide) (C.1.2.2.2.2 (.fieldLink RX0 25 "StackRuns$Heads" "boundless" "I") (List.mem_of_getElem? (i := 2) rfl)) rfl dX0_findTallest_37 40 rfl ?_
            refine g_aload_n C dX0_findTallest_40 rfl 41 rfl 4 rfl ?_
            refine g_getN C iX4 3 rfl rfl 4 (by decide) (nf_RX0_70 C.2.2.1 _) rfl dX0_findTallest_41 44 rfl ?_
            refine g_iload C dX0_findTallest_44 46 rfl 0 rfl ?_
            refine g_iald (i := r) C 4 rfl (by omega) (by decide) dX0_findTallest_46 47 rfl ?_
            refine g_cSNi (ws2 := [ob e0 0 [.ref qx, .ref qa, .ref qw, .int (nI ci), .int (nI bo), .int (oI sh)], aN (eY E) qx 25 Ex, aN (eY E) qw 25 (tfR bo Ex Hd To Tp Bl (tfT bo z Ex Hd To Tp Bl t) r), ob h0 4 [.int (nI n), .int (nI m), .int (nI z), .int (nI st), .ref qh, .ref qt, .ref qp, .ref qb], aN (eY E) qh 30 Hd, aN (eY E) qt 30 To, aO (eY E) qp 30 Tp, aO (eY E) qb 30 Bl]) (As := [.int (nI bo), .int (nI (Hd r))]) (st := []) (wsc := []) (wr := [ob e0 0 [.ref qx, .ref qa, .ref qw, .int (nI ci), .int (nI bo), .int (oI sh)], aN (eY E) qx 25 Ex, aN (eY E) qw 25 (tfR bo Ex Hd To Tp Bl (tfT bo z Ex Hd To Tp Bl t) r), ob h0 4 [.int (nI n), .int (nI m), .int (nI z), .int (nI st), .ref qh, .ref qt, .ref qp, .ref qb], aN (eY E) qh 30 Hd, aN (eY E) qt 30 To, aO (eY E) qp 30 Tp, aO (eY E) qb 30 Bl]) C (c_X6_hasBit (eL E) (eD E) (eY E) bo (Hd r) (by omega) (by omega)) 2 ggX0_findTallest_X6_hasBit (nm_RX0_84 C.2.2.1) (List.mem_of_getElem? (i := 8) rfl) (List.mem_of_getElem? (i := 7) rfl) rfl (by decide +kernel) (by decide) ⟨Nat.zero_le _, Nat.zero_le _⟩ rfl rfl (Nat.le_of_ble_eq_true rfl) [] [0, 1, 2, 3, 4, 5, 6, 7] [0, 1, 2, 3, 4, 5, 6, 7] rfl rfl (by decide) (by decide) rfl (by decide) dX0_findTallest_47 50 rfl ?_
            refine g_if_ne (X := bo.testBit (Hd r) = true) C dX0_findTallest_50 57 (by decide) 53 rfl (bI_ne0 _) ?_ ?_
            · intro h50
              refine g_iconst (v := nI 0) C dX0_findTallest_57 (by decide) 58 rfl ?_
              refine g_istore (lv' := [(5, .int (nI 0)), (4, .int (nI r)), (2, .int (bI (tfB bo Ex Hd To Tp Bl (tfT bo z Ex Hd To Tp Bl t) r))), (3, .int (nI t)), (0, .ref e0), (1, .ref h0)]) C dX0_findTallest_58 60 rfl (by decide) rfl ?_
              refine g_iload C dX0_findTallest_60 62 rfl 0 rfl ?_
              refine g_if_eq (X := 0 = 0) C dX0_findTallest_62 75 (by decide) 65 rfl (nI_eq0 (by omega)) ?_ ?_
              · intro h62
                refine g_iload_n C dX0_findTallest_75 rfl 76 rfl 2 rfl ?_
                refine g_if_eq (X := tfB bo Ex Hd To Tp Bl (tfT bo z Ex Hd To Tp Bl t) r = false) C dX0_findTallest_76 83 (by decide) 79 rfl (bI_eq0 _) ?_ ?_
                · intro h76
                  refine g_iconst (v := nI 0) C dX0_findTallest_83 (by decide) 84 rfl ?_
                  refine g_istore_n (lv' := [(2, .int (nI 0)), (5, .int (nI 0)), (4, .int (nI r)), (3, .int (nI t)), (0, .ref e0), (1, .ref h0)]) C dX0_findTallest_84 rfl 85 rfl (by decide) rfl ?_
                  refine g_iinc (lv' := [(4, .int (nI (r + 1))), (2, .int (nI 0)), (5, .int (nI 0)), (3, .int (nI t)), (0, .ref e0), (1, .ref h0)]) C dX0_findTallest_85 88 rfl 2 rfl (by decide) rfl ?_
                  refine g_goto C dX0_findTallest_88 27 (by decide) ?_
                  refine go_lv (lv' := [(4, .int (nI (r + 1))), (2, .int (nI 0)), (3, .int (nI t)), (0, .ref e0), (1, .ref h0)]) [0, 1, 3, 4, 5] rfl ?_
                  have e_5 : (tfB bo Ex Hd To Tp Bl (tfT bo z Ex Hd To Tp Bl t) (r + 1)) = false := by first | with_reducible rfl | (simp only [tfR, tfB, h50, Bool.false_eq_true, reduceIte]; try (first | assumption | with_reducible rfl | (simp only [h72, Bool.true_or]; done) | (simp only [h72, h76, Bool.or_self]; done) | (simp only [h72, h76, Bool.or_true, Bool.false_or]; done)))
                  have e_6 : (tfR bo Ex Hd To Tp Bl (tfT bo z Ex Hd To Tp Bl t) (r + 1)) = (tfR bo Ex Hd To Tp Bl (tfT bo z Ex Hd To Tp Bl t) r) := by first | with_reducible rfl | (simp only [tfR, tfB, h50, Bool.false_eq_true, reduceIte]; try (first | assumption | with_reducible rfl | (simp only [h72, Bool.true_or]; done) | (simp only [h72, h76, Bool.or_self]; done) | (simp only [h72, h76, Bool.or_true, Bool.false_or]; done)))
                  refine go_eq (lv' := [(4, .int (nI (r + 1))), (2, .int (bI (tfB bo Ex Hd To Tp Bl (tfT bo z Ex Hd To Tp Bl t) (r + 1)))), (3, .int (nI t)), (0, .ref e0), (1, .ref h0)]) (ws' := [ob e0 0 [.ref qx, .ref qa, .ref qw, .int (nI ci), .int (nI bo), .int (oI sh)], aN (eY E) qx 25 Ex, aN (eY E) qw 25 (tfR bo Ex Hd To Tp Bl (tfT bo z Ex Hd To Tp Bl t) (r + 1)), ob h0 4 [.int (nI n), .int (nI m), .int (nI z), .int (nI st), .ref qh, .ref qt, .ref qp, .ref qb], aN (eY E) qh 30 Hd, aN (eY E) qt 30 To, aO (eY E) qp 30 Tp, aO (eY E) qb 30 Bl]) (by first | with_reducible rfl | (simp only [e_5, oI_s, oI_0, bI_1, bI_0, and_self, reduceIte]; done)) rfl (by first | with_reducible rfl | (simp only [e_6, oI_s, oI_0, bI_1, bI_0, and_self, reduceIte]; done)) ?_
                  exact ih_r (by omega)
                · intro h76
                  have h76 : tfB bo Ex Hd To Tp Bl (tfT bo z Ex Hd To Tp Bl t) r = true := by simpa using h76
                  refine g_iconst (v := nI 1) C dX0_findTallest_79 (by decide) 80 rfl ?_
                  refine g_goto C dX0_findTallest_80 84 (by decide) ?_
                  refine g_istore_n (lv' := [(2, .int (nI 1)), (5, .int (nI 0)), (4, .int (nI r)), (3, .int (nI t)), (0, .ref e0), (1, .ref h0)]) C dX0_findTallest_84 rfl 85 rfl (by decide) rfl ?_
                  refine g_iinc (lv' := [(4, .int (nI (r + 1))), (2, .int (nI 1)), (5, .int (nI 0)), (3, .int (nI t)), (0, .ref e0), (1, .ref h0)]) C dX0_findTallest_85 88 rfl 2 rfl (by decide) rfl ?_
                  refine g_goto C dX0_findTallest_88 27 (by decide) ?_
                  refine go_lv (lv' := [(4, .int (nI (r + 1))), (2, .int (nI 1)), (3, .int (nI t)), (0, .ref e0), (1, .ref h0)]) [0, 1, 3, 4, 5] rfl ?_
                  have e_7 : (tfB bo Ex Hd To Tp Bl (tfT bo z Ex Hd To Tp Bl t) (r + 1)) = true := by first | with_reducible rfl | (simp only [tfR, tfB, h50, Bool.false_eq_true, reduceIte]; try (first | assumption | with_reducible rfl | (simp only [h72, Bool.true_or]; done) | (simp only [h72, h76, Bool.or_self]; done) | (simp only [h72, h76, Bool.or_true, Bool.false_or]; done)))
                  have e_8 : (tfR bo Ex Hd To Tp Bl (tfT bo z Ex Hd To Tp Bl t) (r + 1)) = (tfR bo Ex Hd To Tp Bl (tfT bo z Ex Hd To Tp Bl t) r) := by first | with_reducible rfl | (simp only [tfR, tfB, h50, Bool.false_eq_true, reduceIte]; try (first | assumption | with_reducible rfl | (simp only [h72, Bool.true_or]; done) | (simp only [h72, h76, Bool.or_self]; done) | (simp only [h72, h76, Bool.or_true, Bool.false_or]; done)))
                  refine go_eq (lv' := [(4, .int (nI (r + 1))), (2, .int (bI (tfB bo Ex Hd To Tp Bl (tfT bo z Ex Hd To Tp Bl t) (r + 1)))), (3, .int (nI t)), (0, .ref e0), (1, .ref h0)]) (ws' := [ob e0 0 [.ref qx, .ref qa, .ref qw, .int (nI ci), .int (nI bo), .int (oI sh)], aN (eY E) qx 25 Ex, aN (eY E) qw 25 (tfR bo Ex Hd To Tp Bl (tfT bo z Ex Hd To Tp Bl t) (r + 1)), ob h0 4 [.int (nI n), .int (nI m), .int (nI z), .int (nI st), .ref qh, .ref qt, .ref qp, .ref qb], aN (eY E) qh 30 Hd, aN (eY E) qt 30 To, aO (eY E) qp 30 Tp, aO (eY E) qb 30 Bl]) (by first | with_reducible rfl | (simp only [e_7, oI_s, oI_0, bI_1, bI_0, and_self, reduceIte]; done)) rfl (by first | with_reducible rfl | (simp only [e_8, oI_s, oI_0, bI_1, bI_0, and_self, reduceIte]; done)) ?_
                  exact ih_r (by omega)
              · intro h62
                exact absurd h62 (by decide)
            · intro h50
              have h50 : bo.testBit (Hd r) = false := by simpa using h50
              refine g_iconst (v := nI 1) C dX0_findTallest_53 (by decide) 54 rfl ?_
              refine g_goto C dX0_findTallest_54 58 (by decide) ?_
              refine g_istore (lv' := [(5, .int (nI 1)), (4, .int (nI r)), (2, .int (bI (tfB bo Ex Hd To Tp Bl (tfT bo z Ex Hd To Tp Bl t) r))), (3, .int (nI t)), (0, .ref e0), (1, .ref h0)]) C dX0_findTallest_58 60 rfl (by decide) rfl ?_
              refine g_iload C dX0_findTallest_60 62 rfl 0 rfl ?_
              refine g_if_eq (X := 1 = 0) C dX0_findTallest_62 75 (by decide) 65 rfl (nI_eq0 (by omega)) ?_ ?_
              · intro h62
                exact absurd h62 (by decide)
              · intro h62
                refine g_aload_n C dX0_findTallest_65 rfl 66 rfl 4 rfl ?_
                refine g_aload_n C dX0_findTallest_66 rfl 67 rfl 5 rfl ?_
                refine g_iload C dX0_findTallest_67 69 rfl 1 rfl ?_
                refine g_cVi (ws2 := [ob e0 0 [.ref qx, .ref qa, .ref qw, .int (nI ci), .int (nI bo), .int (oI sh)], aN (eY E) qx 25 Ex, aN (eY E) qw 25 (rbC Ex Hd To Tp Bl (tfR bo Ex Hd To Tp Bl (tfT bo z Ex Hd To Tp Bl t) r) r), ob h0 4 [.int (nI n), .int (nI m), .int (nI z), .int (nI st), .ref qh, .ref qt, .ref qp, .ref qb], aN (eY E) qh 30 Hd, aN (eY E) qt 30 To, aO (eY E) qp 30 Tp, aO (eY E) qb 30 Bl]) (As := [.ref h0, .int (nI r)]) (st := []) (wsc := [ob e0 0 [.ref qx, .ref qa, .ref qw, .int (nI ci), .int (nI bo), .int (oI sh)], aN (eY E) qx 25 Ex, aN (eY E) qw 25 (tfR bo Ex Hd To Tp Bl (tfT bo z Ex Hd To Tp Bl t) r), ob h0 4 [.int (nI n), .int (nI m), .int (nI z), .int (nI st), .ref qh, .ref qt, .ref qp, .ref qb], aN (eY E) qh 30 Hd, aN (eY E) qt 30 To, aO (eY E) qp 30 Tp, aO (eY E) qb 30 Bl]) (wr := []) C (c_X0_raiseBy (eL E) (eD E) (eY E) e0 qx qa qw ci bo sh Ex (tfR bo Ex Hd To Tp Bl (tfT bo z Ex Hd To Tp Bl t) r) h0 n m z st qh qt qp qb Hd To Tp Bl r (by first | assumption | exact exF_lt _) (by assumption) (by assumption) (by assumption) (by omega)) 2 gX0_findTallest_X0_raiseBy rfl (by decide +kernel) (by decide) ⟨Nat.zero_le _, Nat.zero_le _⟩ rfl 0 rfl rfl rfl (Nat.le_of_ble_eq_true rfl) [0, 1, 2, 3, 4, 5, 6, 7] [] [0, 1, 2, 3, 4, 5, 6, 7] rfl rfl (by decide) (by decide) rfl (by decide) dX0_findTallest_69 72 rfl ?_
                refine g_if_ne (X := rbB Ex Hd To Tp Bl (tfR bo Ex Hd To Tp Bl (tfT bo z Ex Hd To Tp Bl t) r) r = true) C dX0_findTallest_72 79 (by decide) 75 rfl (bI_ne0 _) ?_ ?_
                · intro h72
                  refine g_iconst (v := nI 1) C dX0_findTallest_79 (by decide) 80 rfl ?_
                  refine g_goto C dX0_findTallest_80 84 (by decide) ?_
                  refine g_istore_n (lv' := [(2, .int (nI 1)), (5, .int (nI 1)), (4, .int (nI r)), (3, .int (nI t)), (0, .ref e0), (1, .ref h0)]) C dX0_findTallest_84 rfl 85 rfl (by decide) rfl ?_
                  refine g_iinc (lv' := [(4, .int (nI (r + 1))), (2, .int (nI 1)), (5, .int (nI 1)), (3, .int (nI t)), (0, .ref e0), (1, .ref h0)]) C dX0_findTallest_85 88 rfl 2 rfl (by decide) rfl ?_
                  refine g_goto C dX0_findTallest_88 27 (by decide) ?_
                  refine go_lv (lv' := [(4, .int (nI (r + 1))), (2, .int (nI 1)), (3, .int (nI t)), (0, .ref e0), (1, .ref h0)]) [0, 1, 3, 4, 5] rfl ?_
                  have e_9 : (tfB bo Ex Hd To Tp Bl (tfT bo z Ex Hd To Tp Bl t) (r + 1)) = true := by first | with_reducible rfl | (simp only [tfR, tfB, h50, Bool.false_eq_true, reduceIte]; try (first | assumption | with_reducible rfl | (simp only [h72, Bool.true_or]; done) | (simp only [h72, h76, Bool.or_self]; done) | (simp only [h72, h76, Bool.or_true, Bool.false_or]; done)))
                  have e_10 : (tfR bo Ex Hd To Tp Bl (tfT bo z Ex Hd To Tp Bl t) (r + 1)) = (rbC Ex Hd To Tp Bl (tfR bo Ex Hd To Tp Bl (tfT bo z Ex Hd To Tp Bl t) r) r) := by first | with_reducible rfl | (simp only [tfR, tfB, h50, Bool.false_eq_true, reduceIte]; try (first | assumption | with_reducible rfl | (simp only [h72, Bool.true_or]; done) | (simp only [h72, h76, Bool.or_self]; done) | (simp only [h72, h76, Bool.or_true, Bool.false_or]; done)))
                  refine go_eq (lv' := [(4, .int (nI (r + 1))), (2, .int (bI (tfB bo Ex Hd To Tp Bl (tfT bo z Ex Hd To Tp Bl t) (r + 1)))), (3, .int (nI t)), (0, .ref e0), (1, .ref h0)]) (ws' := [ob e0 0 [.ref qx, .ref qa, .ref qw, .int (nI ci), .int (nI bo), .int (oI sh)], aN (eY E) qx 25 Ex, aN (eY E) qw 25 (tfR bo Ex Hd To Tp Bl (tfT bo z Ex Hd To Tp Bl t) (r + 1)), ob h0 4 [.int (nI n), .int (nI m), .int (nI z), .int (nI st), .ref qh, .ref qt, .ref qp, .ref qb], aN (eY E) qh 30 Hd, aN (eY E) qt 30 To, aO (eY E) qp 30 Tp, aO (eY E) qb 30 Bl]) (by first | with_reducible rfl | (simp only [e_9, oI_s, oI_0, bI_1, bI_0, and_self, reduceIte]; done)) rfl (by first | with_reducible rfl | (simp only [e_10, oI_s, oI_0, bI_1, bI_0, and_self, reduceIte]; done)) ?_
                  exact ih_r (by omega)
                · intro h72
                  have h72 : rbB Ex Hd To Tp Bl (tfR bo Ex Hd To Tp Bl (tfT bo z Ex Hd To Tp Bl t) r) r = false := by simpa using h72
                  refine g_iload_n C dX0_findTallest_75 rfl 76 rfl 2 rfl ?_
                  refine g_if_eq (X := tfB bo Ex Hd To Tp Bl (tfT bo z Ex Hd To Tp Bl t) r = false) C dX0_findTallest_76 83 (by decide) 79 rfl (bI_eq0 _) ?_ ?_
                  · intro h76
                    refine g_iconst (v := nI 0) C dX0_findTallest_83 (by decide) 84 rfl ?_
                    refine g_istore_n (lv' := [(2, .int (nI 0)), (5, .int (nI 1)), (4, .int (nI r)), (3, .int (nI t)), (0, .ref e0), (1, .ref h0)]) C dX0_findTallest_84 rfl 85 rfl (by decide) rfl ?_
                    refine g_iinc (lv' := [(4, .int (nI (r + 1))), (2, .int (nI 0)), (5, .int (nI 1)), (3, .int (nI t)), (0, .ref e0), (1, .ref h0)]) C dX0_findTallest_85 88 rfl 2 rfl (by decide) rfl ?_
                    refine g_goto C dX0_findTallest_88 27 (by decide) ?_
                    refine go_lv (lv' := [(4, .int (nI (r + 1))), (2, .int (nI 0)), (3, .int (nI t)), (0, .ref e0), (1, .ref h0)]) [0, 1, 3, 4, 5] rfl ?_
                    have e_11 : (tfB bo Ex Hd To Tp Bl (tfT bo z Ex Hd To Tp Bl t) (r + 1)) = false := by first | with_reducible rfl | (simp only [tfR, tfB, h50, Bool.false_eq_true, reduceIte]; try (first | assumption | with_reducible rfl | (simp only [h72, Bool.true_or]; done) | (simp only [h72, h76, Bool.or_self]; done) | (simp only [h72, h76, Bool.or_true, Bool.false_or]; done)))
                    have e_12 : (tfR bo Ex Hd To Tp Bl (tfT bo z Ex Hd To Tp Bl t) (r + 1)) = (rbC Ex Hd To Tp Bl (tfR bo Ex Hd To Tp Bl (tfT bo z Ex Hd To Tp Bl t) r) r) := by first | with_reducible rfl | (simp only [tfR, tfB, h50, Bool.false_eq_true, reduceIte]; try (first | assumption | with_reducible rfl | (simp only [h72, Bool.true_or]; done) | (simp only [h72, h76, Bool.or_self]; done) | (simp only [h72, h76, Bool.or_true, Bool.false_or]; done)))
                    refine go_eq (lv' := [(4, .int (nI (r + 1))), (2, .int (bI (tfB bo Ex Hd To Tp Bl (tfT bo z Ex Hd To Tp Bl t) (r + 1)))), (3, .int (nI t)), (0, .ref e0), (1, .ref h0)]) (ws' := [ob e0 0 [.ref qx, .ref qa, .ref qw, .int (nI ci), .int (nI bo), .int (oI sh)], aN (eY E) qx 25 Ex, aN (eY E) qw 25 (tfR bo Ex Hd To Tp Bl (tfT bo z Ex Hd To Tp Bl t) (r + 1)), ob h0 4 [.int (nI n), .int (nI m), .int (nI z), .int (nI st), .ref qh, .ref qt, .ref qp, .ref qb], aN (eY E) qh 30 Hd, aN (eY E) qt 30 To, aO (eY E) qp 30 Tp, aO (eY E) qb 30 Bl]) (by first | with_reducible rfl | (simp only [e_11, oI_s, oI_0, bI_1, bI_0, and_self, reduceIte]; done)) rfl (by first | with_reducible rfl | (simp only [e_12, oI_s, oI_0, bI_1, bI_0, and_self, reduceIte]; done)) ?_
                    exact ih_r (by omega)
                  · intro h76
                    have h76 : tfB bo Ex Hd To Tp Bl (tfT bo z Ex Hd To Tp Bl t) r = true := by simpa using h76
                    refine g_iconst (v := nI 1) C dX0_findTallest_79 (by decide) 80 rfl ?_
                    refine g_goto C dX0_findTallest_80 84 (by decide) ?_
                    refine g_istore_n (lv' := [(2, .int (nI 1)), (5, .int (nI 1)), (4, .int (nI r)), (3, .int (nI t)), (0, .ref e0), (1, .ref h0)]) C dX0_findTallest_84 rfl 85 rfl (by decide) rfl ?_
                    refine g_iinc (lv' := [(4, .int (nI (r + 1))), (2, .int (nI 1)), (5, .int (nI 1)), (3, .int (nI t)), (0, .ref e0), (1, .ref h0)]) C dX0_findTallest_85 88 rfl 2 rfl (by decide) rfl ?_
                    refine g_goto C dX0_findTallest_88 27 (by decide) ?_
                    refine go_lv (lv' := [(4, .int (nI (r + 1))), (2, .int (nI 1)), (3, .int (nI t)), (0, .ref e0), (1, .ref h0)]) [0, 1, 3, 4, 5] rfl ?_
                    have e_13 : (tfB bo Ex Hd To Tp Bl (tfT bo z Ex Hd To Tp Bl t) (r + 1)) = true := by first | with_reducible rfl | (simp only [tfR, tfB, h50, Bool.false_eq_true, reduceIte]; try (first | assumption | with_reducible rfl | (simp only [h72, Bool.true_or]; done) | (simp only [h72, h76, Bool.or_self]; done) | (simp only [h72, h76, Bool.or_true, Bool.false_or]; done)))
                    have e_14 : (tfR bo Ex Hd To Tp Bl (tfT bo z Ex Hd To Tp Bl t) (r + 1)) = (rbC Ex Hd To Tp Bl (tfR bo Ex Hd To Tp Bl (tfT bo z Ex Hd To Tp Bl t) r) r) := by first | with_reducible rfl | (simp only [tfR, tfB, h50, Bool.false_eq_true, reduceIte]; try (first | assumption | with_reducible rfl | (simp only [h72, Bool.true_or]; done) | (simp only [h72, h76, Bool.or_self]; done) | (simp only [h72, h76, Bool.or_true, Bool.false_or]; done)))
                    refine go_eq (lv' := [(4, .int (nI (r + 1))), (2, .int (bI (tfB bo Ex Hd To Tp Bl (tfT bo z Ex Hd To Tp Bl t) (r + 1)))), (3, .int (nI t)), (0, .ref e0), (1, .ref h0)]) (ws' := [ob e0 0 [.ref qx, .ref qa, .ref qw, .int (nI ci), .int (nI bo), .int (oI sh)], aN (eY E) qx 25 Ex, aN (eY E) qw 25 (tfR bo Ex Hd To Tp Bl (tfT bo z Ex Hd To Tp Bl t) (r + 1)), ob h0 4 [.int (nI n), .int (nI m), .int (nI z), .int (nI st), .ref qh, .ref qt, .ref qp, .ref qb], aN (eY E) qh 30 Hd, aN (eY E) qt 30 To, aO (eY E) qp 30 Tp, aO (eY E) qb 30 Bl]) (by first | with_reducible rfl | (simp only [e_13, oI_s, oI_0, bI_1, bI_0, and_self, reduceIte]; done)) rfl (by first | with_reducible rfl | (simp only [e_14, oI_s, oI_0, bI_1, bI_0, and_self, reduceIte]; done)) ?_
                    exact ih_r (by omega)
        have e_15 : (tfB bo Ex Hd To Tp Bl (tfT bo z Ex Hd To Tp Bl t) 0) = false := by first | with_reducible rfl | (rfl)
        have e_16 : (tfR bo Ex Hd To Tp Bl (tfT bo z Ex Hd To Tp Bl t) 0) = (tfT bo z Ex Hd To Tp Bl t) := by first | with_reducible rfl | (rfl)
        refine go_eq (lv' := [(4, .int (nI 0)), (2, .int (bI (tfB bo Ex Hd To Tp Bl (tfT bo z Ex Hd To Tp Bl t) 0))), (3, .int (nI t)), (0, .ref e0), (1, .ref h0)]) (ws' := [ob e0 0 [.ref qx, .ref qa, .ref qw, .int (nI ci), .int (nI bo), .int (oI sh)], aN (eY E) qx 25 Ex, aN (eY E) qw 25 (tfR bo Ex Hd To Tp Bl (tfT bo z Ex Hd To Tp Bl t) 0), ob h0 4 [.int (nI n), .int (nI m), .int (nI z), .int (nI st), .ref qh, .ref qt, .ref qp, .ref qb], aN (eY E) qh 30 Hd, aN (eY E) qt 30 To, aO (eY E) qp 30 Tp, aO (eY E) qb 30 Bl]) (by first | with_reducible rfl | (simp only [e_15, oI_s, oI_0, bI_1, bI_0, and_self, reduceIte]; done)) rfl (by first | with_reducible rfl | (simp only [e_16, oI_s, oI_0, bI_1, bI_0, and_self, reduceIte]; done)) ?_
        exact L27 0 (by omega)
  have e_17 : (tfW bo z Ex Hd To Tp Bl 0) = true := by first | with_reducible rfl | (rfl)
  have e_18 : (tfT bo z Ex Hd To Tp Bl 0) = (fun _ => 1) := by first | with_reducible rfl | (rfl)
  refine go_eq (lv' := [(3, .int (nI 0)), (2, .int (bI (tfW bo z Ex Hd To Tp Bl 0))), (0, .ref e0), (1, .ref h0)]) (ws' := [ob e0 0 [.ref qx, .ref qa, .ref qw, .int (nI ci), .int (nI bo), .int (oI sh)], aN (eY E) qx 25 Ex, aN (eY E) qw 25 (tfT bo z Ex Hd To Tp Bl 0), ob h0 4 [.int (nI n), .int (nI m), .int (nI z), .int (nI st), .ref qh, .ref qt, .ref qp, .ref qb], aN (eY E) qh 30 Hd, aN (eY E) qt 30 To, aO (eY E) qp 30 Tp, aO (eY E) qb 30 Bl]) (by first | with_reducible rfl | (simp only [e_17, oI_s, oI_0, bI_1, bI_0, and_self, reduceIte]; done)) rfl (by first | with_reducible rfl | (simp only [e_18, oI_s, oI_0, bI_1, bI_0, and_self, reduceIte]; done)) ?_
  exact L12 0 (by omega)
set_option maxHeartbeats 4000000 in
set_option maxRecDepth 100000 in
theorem c_X0_renew (l : Launch) (D : va_G) (cy : Nat → ClassId) (e0 : Nat) (qx : Nat) (qa : Nat) (qw : Nat) (ci : Nat) (bo : Nat) (sh : Nat) (Ex : Nat → Nat) (Ah : Nat → Nat) (Tl : Nat → Nat) (h0 : Nat) (n : Nat) (m : Nat) (z : Nat) (st : Nat) (qh : Nat) (qt : Nat) (qp : Nat) (qb : Nat) (Hd : Nat → Nat) (To : Nat → Nat) (Tp : Nat → Nat) (Bl : Nat → Nat) (k0 : Nat) (ql : Nat) (sn : Nat) (Cv : Nat → Nat) (hC : okf Cv) (hR : ∀ r, Hd r < 25 ∧ To r < 5 ∧ Tp r ≤ 5 ∧ Bl r ≤ 5) (hTB : ∀ r, Tp r = 0 → Bl r = 0) (hz : z ≤ 30) (hs : sh < 1000) (hst : st < 1000) : CoV l yX0_renew wsX0_renew 4 97 D cy [ob e0 0 [.ref qx, .ref qa, .ref qw, .int (nI ci), .int (nI bo), .int (oI sh)], aN cy qx 25 Ex, aN cy qa 25 Ah, aN cy qw 25 Tl, ob h0 4 [.int (nI n), .int (nI m), .int (nI z), .int (nI st), .ref qh, .ref qt, .ref qp, .ref qb], aN cy qh 30 Hd, aN cy qt 30 To, aO cy qp 30 Tp, aO cy qb 30 Bl, ob k0 3 [.ref ql, .int (oI sn)], aL cy ql 125 Cv] [.ref e0, .ref h0, .ref k0] [ob e0 0 [.ref qx, .ref qa, .ref qw, .int (nI (if sh = st + 1 then ci else ciF z Hd To Tp Bl Cv)), .int (nI (if sh = st + 1 then bo else boF z Hd To Tp Bl Cv)), .int (oI (st + 1))], aN cy qx 25 (if sh = st + 1 then Ex else exF Cv), aN cy qa 25 (if sh = st + 1 then Ah else ahH z Hd To Tp Bl Cv), aN cy qw 25 (if sh = st + 1 then Tl else tlF z Hd To Tp Bl Cv), ob h0 4 [.int (nI n), .int (nI m), .int (nI z), .int (nI st), .ref qh, .ref qt, .ref qp, .ref qb], aN cy qh 30 Hd, aN cy qt 30 To, aO cy qp 30 Tp, aO cy qb 30 Bl, ob k0 3 [.ref ql, .int (oI sn)], aL cy ql 125 Cv] := by
  refine met_v (cc := cX0_renew) (maxL := 3) (own := RX0) (lv := [(0, .ref e0), (1, .ref h0), (2, .ref k0)]) (by decide) rfl rfl rfl (Nat.le_of_ble_eq_true rfl) (fun E e1 e2 e3 C hret => ?_)
  subst e1; subst e2; subst e3
  have iX0 : ∀ w ∈ wsX00, w ∈ wsX0_renew := fun _ h => List.mem_cons_of_mem _ (List.mem_append_left _ (List.mem_append_left _ (List.mem_append_right _ h)))
  have iX4 : ∀ w ∈ wsX40, w ∈ wsX0_renew := fun _ h => List.mem_cons_of_mem _ (List.mem_append_left _ (List.mem_append_right _ h))
  refine g_aload_n C dX0_renew_0 rfl 1 rfl 0 rfl ?_
  refine g_get C iX0 0 rfl rfl 5 (by decide) (C.1.2.2.2.2 (.fieldLink RX0 28 "StackRuns$Heads" "seen" "I") (List.mem_of_getElem? (i := 1) rfl)) rfl dX0_renew_1 4 rfl ?_
  refine g_aload_n C dX0_renew_4 rfl 5 rfl 1 rfl ?_
  refine g_getN C iX4 4 rfl rfl 3 (by decide) (nf_RX0_31 C.2.2.1 _) rfl dX0_renew_5 8 rfl ?_
  refine g_icmp_ne (X := ¬ sh = st + 1) C dX0_renew_8 12 (by decide) 11 rfl (not_congr (oI_nI (by omega) (by omega))) ?_ ?_
  · intro h8
    refine g_aload_n C dX0_renew_12 rfl 13 rfl 0 rfl ?_
    refine g_aload_n C dX0_renew_13 rfl 14 rfl 1 rfl ?_
    refine g_getN C iX4 4 rfl rfl 3 (by decide) (nf_RX0_31 C.2.2.1 _) rfl dX0_renew_14 17 rfl ?_
    refine go_st (show Value.int (nI st) = .int (oI (st + 1)) from (by rw [oI_s])) ?_
    refine g_put (ws' := [ob e0 0 [.ref qx, .ref qa, .ref qw, .int (nI ci), .int (nI bo), .int (oI (st + 1))], aN (eY E) qx 25 Ex, aN (eY E) qa 25 Ah, aN (eY E) qw 25 Tl, ob h0 4 [.int (nI n), .int (nI m), .int (nI z), .int (nI st), .ref qh, .ref qt, .ref qp, .ref qb], aN (eY E) qh 30 Hd, aN (eY E) qt 30 To, aO (eY E) qp 30 Tp, aO (eY E) qb 30 Bl, ob k0 3 [.ref ql, .int (oI sn)], aL (eY E) ql 125 Cv]) (ty := .int) C iX0 tyX0_ok nmX0 0 rfl rfl 5 (by decide) (C.1.2.2.2.2 (.fieldLink RX0 28 "StackRuns$Heads" "seen" "I") (List.mem_of_getElem? (i := 1) rfl)) rfl (by decide +kernel) rfl rfl (Nat.le_of_ble_eq_true rfl) dX0_renew_17 20 rfl rfl ?_
    refine g_aload_n C dX0_renew_20 rfl 21 rfl 0 rfl ?_
    refine g_aload_n C dX0_renew_21 rfl 22 rfl 2 rfl ?_
    refine g_cVv (ws2 := [ob e0 0 [.ref qx, .ref qa, .ref qw, .int (nI ci), .int (nI bo), .int (oI (st + 1))], aN (eY E) qx 25 (exF Cv), aN (eY E) qa 25 Ah, aN (eY E) qw 25 Tl, ob h0 4 [.int (nI n), .int (nI m), .int (nI z), .int (nI st), .ref qh, .ref qt, .ref qp, .ref qb], aN (eY E) qh 30 Hd, aN (eY E) qt 30 To, aO (eY E) qp 30 Tp, aO (eY E) qb 30 Bl, ob k0 3 [.ref ql, .int (oI sn)], aL (eY E) ql 125 Cv]) (As := [.ref k0]) (st := []) (wsc := [ob e0 0 [.ref qx, .ref qa, .ref qw, .int (nI ci), .int (nI bo), .int (oI (st + 1))], aN (eY E) qx 25 Ex, ob k0 3 [.ref ql, .int (oI sn)], aL (eY E) ql 125 Cv]) (wr := [aN (eY E) qa 25 Ah, aN (eY E) qw 25 Tl, ob h0 4 [.int (nI n), .int (nI m), .int (nI z), .int (nI st), .ref qh, .ref qt, .ref qp, .ref qb], aN (eY E) qh 30 Hd, aN (eY E) qt 30 To, aO (eY E) qp 30 Tp, aO (eY E) qb 30 Bl]) C (c_X0_findExits (eL E) (eD E) (eY E) e0 qx qa qw ci bo (st + 1) Ex k0 ql sn Cv (by assumption)) 1 gX0_renew_X0_findExits rfl (by decide +kernel) (by decide) ⟨Nat.zero_le _, Nat.zero_le _⟩ rfl 0 rfl rfl rfl (Nat.le_of_ble_eq_true rfl) [0, 1, 9, 10] [2, 3, 4, 5, 6, 7, 8] [7, 8, 0, 1, 2, 3, 4, 5, 6, 9, 10] rfl rfl (by decide) (by decide) rfl (by decide) dX0_renew_22 25 rfl ?_
    refine g_aload_n C dX0_renew_25 rfl 26 rfl 0 rfl ?_
    refine g_aload_n C dX0_renew_26 rfl 27 rfl 1 rfl ?_
    refine g_cVv (ws2 := [ob e0 0 [.ref qx, .ref qa, .ref qw, .int (nI ci), .int (nI bo), .int (oI (st + 1))], aN (eY E) qx 25 (exF Cv), aN (eY E) qa 25 (wsM (agR (exF Cv) Hd To Tp Bl z) 25), aN (eY E) qw 25 Tl, ob h0 4 [.int (nI n), .int (nI m), .int (nI z), .int (nI st), .ref qh, .ref qt, .ref qp, .ref qb], aN (eY E) qh 30 Hd, aN (eY E) qt 30 To, aO (eY E) qp 30 Tp, aO (eY E) qb 30 Bl, ob k0 3 [.ref ql, .int (oI sn)], aL (eY E) ql 125 Cv]) (As := [.ref h0]) (st := []) (wsc := [ob e0 0 [.ref qx, .ref qa, .ref qw, .int (nI ci), .int (nI bo), .int (oI (st + 1))], aN (eY E) qx 25 (exF Cv), aN (eY E) qa 25 Ah, ob h0 4 [.int (nI n), .int (nI m), .int (nI z), .int (nI st), .ref qh, .ref qt, .ref qp, .ref qb], aN (eY E) qh 30 Hd, aN (eY E) qt 30 To, aO (eY E) qp 30 Tp, aO (eY E) qb 30 Bl]) (wr := [aN (eY E) qw 25 Tl, ob k0 3 [.ref ql, .int (oI sn)], aL (eY E) ql 125 Cv]) C (c_X0_findAhead (eL E) (eD E) (eY E) e0 qx qa qw ci bo (st + 1) (exF Cv) Ah h0 n m z st qh qt qp qb Hd To Tp Bl (by first | assumption | exact exF_lt _) (by assumption) (by assumption) (by omega)) 1 gX0_renew_X0_findAhead rfl (by decide +kernel) (by decide) ⟨Nat.zero_le _, Nat.zero_le _⟩ rfl 0 rfl rfl rfl (Nat.le_of_ble_eq_true rfl) [0, 1, 2, 4, 5, 6, 7, 8] [3, 9, 10] [3, 4, 5, 0, 6, 7, 8, 9, 10, 1, 2] rfl rfl (by decide) (by decide) rfl (by decide) dX0_renew_27 30 rfl ?_
    refine g_aload_n C dX0_renew_30 rfl 31 rfl 0 rfl ?_
    refine g_aload_n C dX0_renew_31 rfl 32 rfl 1 rfl ?_
    refine g_cVv (ws2 := [ob e0 0 [.ref qx, .ref qa, .ref qw, .int (nI (leQ (wsM (agR (exF Cv) Hd To Tp Bl z) 25) (cirQ (wsM (agR (exF Cv) Hd To Tp Bl z) 25) 25) 25)), .int (nI (leQ (wsM (agR (exF Cv) Hd To Tp Bl z) 25) (risR (wsM (agR (exF Cv) Hd To Tp Bl z) 25) Hd To Tp Bl z) 25)), .int (oI (st + 1))], aN (eY E) qx 25 (exF Cv), aN (eY E) qa 25 (wsM (agR (exF Cv) Hd To Tp Bl z) 25), aN (eY E) qw 25 Tl, ob h0 4 [.int (nI n), .int (nI m), .int (nI z), .int (nI st), .ref qh, .ref qt, .ref qp, .ref qb], aN (eY E) qh 30 Hd, aN (eY E) qt 30 To, aO (eY E) qp 30 Tp, aO (eY E) qb 30 Bl, ob k0 3 [.ref ql, .int (oI sn)], aL (eY E) ql 125 Cv]) (As := [.ref h0]) (st := []) (wsc := [ob e0 0 [.ref qx, .ref qa, .ref qw, .int (nI ci), .int (nI bo), .int (oI (st + 1))], aN (eY E) qa 25 (wsM (agR (exF Cv) Hd To Tp Bl z) 25), ob h0 4 [.int (nI n), .int (nI m), .int (nI z), .int (nI st), .ref qh, .ref qt, .ref qp, .ref qb], aN (eY E) qh 30 Hd, aN (eY E) qt 30 To, aO (eY E) qp 30 Tp, aO (eY E) qb 30 Bl]) (wr := [aN (eY E) qx 25 (exF Cv), aN (eY E) qw 25 Tl, ob k0 3 [.ref ql, .int (oI sn)], aL (eY E) ql 125 Cv]) C (c_X0_findCircles (eL E) (eD E) (eY E) e0 qx qa qw ci bo (st + 1) (wsM (agR (exF Cv) Hd To Tp Bl z) 25) h0 n m z st qh qt qp qb Hd To Tp Bl (by exact wsM_lt (agR_lt hR z) 25) (by assumption) (by assumption) (by omega)) 1 gX0_renew_X0_findCircles rfl (by decide +kernel) (by decide) ⟨Nat.zero_le _, Nat.zero_le _⟩ rfl 0 rfl rfl rfl (Nat.le_of_ble_eq_true rfl) [0, 2, 4, 5, 6, 7, 8] [1, 3, 9, 10] [4, 0, 5, 1, 6, 7, 8, 9, 10, 2, 3] rfl rfl (by decide) (by decide) rfl (by decide) dX0_renew_32 35 rfl ?_
    refine g_aload_n C dX0_renew_35 rfl 36 rfl 0 rfl ?_
    refine g_aload_n C dX0_renew_36 rfl 37 rfl 1 rfl ?_
    refine g_cVv (ws2 := [ob e0 0 [.ref qx, .ref qa, .ref qw, .int (nI (leQ (wsM (agR (exF Cv) Hd To Tp Bl z) 25) (cirQ (wsM (agR (exF Cv) Hd To Tp Bl z) 25) 25) 25)), .int (nI (leQ (wsM (agR (exF Cv) Hd To Tp Bl z) 25) (risR (wsM (agR (exF Cv) Hd To Tp Bl z) 25) Hd To Tp Bl z) 25)), .int (oI (st + 1))], aN (eY E) qx 25 (exF Cv), aN (eY E) qa 25 (wsM (agR (exF Cv) Hd To Tp Bl z) 25), aN (eY E) qw 25 (tfT (leQ (wsM (agR (exF Cv) Hd To Tp Bl z) 25) (risR (wsM (agR (exF Cv) Hd To Tp Bl z) 25) Hd To Tp Bl z) 25) z (exF Cv) Hd To Tp Bl 26), ob h0 4 [.int (nI n), .int (nI m), .int (nI z), .int (nI st), .ref qh, .ref qt, .ref qp, .ref qb], aN (eY E) qh 30 Hd, aN (eY E) qt 30 To, aO (eY E) qp 30 Tp, aO (eY E) qb 30 Bl, ob k0 3 [.ref ql, .int (oI sn)], aL (eY E) ql 125 Cv]) (As := [.ref h0]) (st := []) (wsc := [ob e0 0 [.ref qx, .ref qa, .ref qw, .int (nI (leQ (wsM (agR (exF Cv) Hd To Tp Bl z) 25) (cirQ (wsM (agR (exF Cv) Hd To Tp Bl z) 25) 25) 25)), .int (nI (leQ (wsM (agR (exF Cv) Hd To Tp Bl z) 25) (risR (wsM (agR (exF Cv) Hd To Tp Bl z) 25) Hd To Tp Bl z) 25)), .int (oI (st + 1))], aN (eY E) qx 25 (exF Cv), aN (eY E) qw 25 Tl, ob h0 4 [.int (nI n), .int (nI m), .int (nI z), .int (nI st), .ref qh, .ref qt, .ref qp, .ref qb], aN (eY E) qh 30 Hd, aN (eY E) qt 30 To, aO (eY E) qp 30 Tp, aO (eY E) qb 30 Bl]) (wr := [aN (eY E) qa 25 (wsM (agR (exF Cv) Hd To Tp Bl z) 25), ob k0 3 [.ref ql, .int (oI sn)], aL (eY E) ql 125 Cv]) C (c_X0_findTallest (eL E) (eD E) (eY E) e0 qx qa qw (leQ (wsM (agR (exF Cv) Hd To Tp Bl z) 25) (cirQ (wsM (agR (exF Cv) Hd To Tp Bl z) 25) 25) 25) (leQ (wsM (agR (exF Cv) Hd To Tp Bl z) 25) (risR (wsM (agR (exF Cv) Hd To Tp Bl z) 25) Hd To Tp Bl z) 25) (st + 1) (exF Cv) Tl h0 n m z st qh qt qp qb Hd To Tp Bl (by first | assumption | exact exF_lt _) (by assumption) (by assumption) (by omega) (by exact leQ_lt _ _ 25 (Nat.le_refl _))) 1 gX0_renew_X0_findTallest rfl (by decide +kernel) (by decide) ⟨Nat.zero_le _, Nat.zero_le _⟩ rfl 0 rfl rfl rfl (Nat.le_of_ble_eq_true rfl) [0, 1, 3, 4, 5, 6, 7, 8] [2, 9, 10] [3, 4, 0, 5, 6, 7, 8, 9, 10, 1, 2] rfl rfl (by decide) (by decide) rfl (by decide) dX0_renew_37 40 rfl ?_
    have e_1 : (if sh = st + 1 then ci else ciF z Hd To Tp Bl Cv) = (leQ (wsM (agR (exF Cv) Hd To Tp Bl z) 25) (cirQ (wsM (agR (exF Cv) Hd To Tp Bl z) 25) 25) 25) := by first | with_reducible rfl | (first | (rw [if_neg (by assumption)]; done) | (rw [if_neg (by assumption)]; rfl))
    have e_2 : (if sh = st + 1 then bo else boF z Hd To Tp Bl Cv) = (leQ (wsM (agR (exF Cv) Hd To Tp Bl z) 25) (risR (wsM (agR (exF Cv) Hd To Tp Bl z) 25) Hd To Tp Bl z) 25) := by first | with_reducible rfl | (first | (rw [if_neg (by assumption)]; done) | (rw [if_neg (by assumption)]; rfl))
    have e_3 : (if sh = st + 1 then Ex else exF Cv) = (exF Cv) := by first | with_reducible rfl | (first | (rw [if_neg (by assumption)]; done) | (rw [if_neg (by assumption)]; rfl))
    have e_4 : (if sh = st + 1 then Ah else ahH z Hd To Tp Bl Cv) = (wsM (agR (exF Cv) Hd To Tp Bl z) 25) := by first | with_reducible rfl | (first | (rw [if_neg (by assumption)]; done) | (rw [if_neg (by assumption)]; rfl))
    have e_5 : (if sh = st + 1 then Tl else tlF z Hd To Tp Bl Cv) = (tfT (leQ (wsM (agR (exF Cv) Hd To Tp Bl z) 25) (risR (wsM (agR (exF Cv) Hd To Tp Bl z) 25) Hd To Tp Bl z) 25) z (exF Cv) Hd To Tp Bl 26) := by first | with_reducible rfl | (first | (rw [if_neg (by assumption)]; done) | (rw [if_neg (by assumption)]; rfl))
    refine go_eq rfl (st' := []) (ws' := [ob e0 0 [.ref qx, .ref qa, .ref qw, .int (nI (if sh = st + 1 then ci else ciF z Hd To Tp Bl Cv)), .int (nI (if sh = st + 1 then bo else boF z Hd To Tp Bl Cv)), .int (oI (st + 1))], aN (eY E) qx 25 (if sh = st + 1 then Ex else exF Cv), aN (eY E) qa 25 (if sh = st + 1 then Ah else ahH z Hd To Tp Bl Cv), aN (eY E) qw 25 (if sh = st + 1 then Tl else tlF z Hd To Tp Bl Cv), ob h0 4 [.int (nI n), .int (nI m), .int (nI z), .int (nI st), .ref qh, .ref qt, .ref qp, .ref qb], aN (eY E) qh 30 Hd, aN (eY E) qt 30 To, aO (eY E) qp 30 Tp, aO (eY E) qb 30 Bl, ob k0 3 [.ref ql, .int (oI sn)], aL (eY E) ql 125 Cv]) (by first | with_reducible rfl | (simp only [e_1, e_2, e_3, e_4, e_5, oI_s, oI_0, bI_1, bI_0, and_self, reduceIte]; done)) (by first | with_reducible rfl | (simp only [e_1, e_2, e_3, e_4, e_5, oI_s, oI_0, bI_1, bI_0, and_self, reduceIte]; done)) ?_
    exact hret _ _ dX0_renew_40
  · intro h8
    have h8 : sh = st + 1 := Decidable.not_not.mp h8
    have e_6 : (if sh = st + 1 then ci else ciF z Hd To Tp Bl Cv) = ci := by first | with_reducible rfl | (first | assumption | exact Eq.symm (by assumption) | (rw [if_pos (by assumption)]))
    have e_7 : (if sh = st + 1 then bo else boF z Hd To Tp Bl Cv) = bo := by first | with_reducible rfl | (first | assumption | exact Eq.symm (by assumption) | (rw [if_pos (by assumption)]))
    have e_8 : (st + 1) = sh := by first | with_reducible rfl | (first | assumption | exact Eq.symm (by assumption) | (rw [if_pos (by assumption)]))
    have e_9 : (if sh = st + 1 then Ex else exF Cv) = Ex := by first | with_reducible rfl | (first | assumption | exact Eq.symm (by assumption) | (rw [if_pos (by assumption)]))
    have e_10 : (if sh = st + 1 then Ah else ahH z Hd To Tp Bl Cv) = Ah := by first | with_reducible rfl | (first | assumption | exact Eq.symm (by assumption) | (rw [if_pos (by assumption)]))
    have e_11 : (if sh = st + 1 then Tl else tlF z Hd To Tp Bl Cv) = Tl := by first | with_reducible rfl | (first | assumption | exact Eq.symm (by assumption) | (rw [if_pos (by assumption)]))
    refine go_eq rfl (st' := []) (ws' := [ob e0 0 [.ref qx, .ref qa, .ref qw, .int (nI (if sh = st + 1 then ci else ciF z Hd To Tp Bl Cv)), .int (nI (if sh = st + 1 then bo else boF z Hd To Tp Bl Cv)), .int (oI (st + 1))], aN (eY E) qx 25 (if sh = st + 1 then Ex else exF Cv), aN (eY E) qa 25 (if sh = st + 1 then Ah else ahH z Hd To Tp Bl Cv), aN (eY E) qw 25 (if sh = st + 1 then Tl else tlF z Hd To Tp Bl Cv), ob h0 4 [.int (nI n), .int (nI m), .int (nI z), .int (nI st), .ref qh, .ref qt, .ref qp, .ref qb], aN (eY E) qh 30 Hd, aN (eY E) qt 30 To, aO (eY E) qp 30 Tp, aO (eY E) qb 30 Bl, ob k0 3 [.ref ql, .int (oI sn)], aL (eY E) ql 125 Cv]) (by first | with_reducible rfl | (simp only [e_6, e_7, e_8, e_9, e_10, e_11, oI_s, oI_0, bI_1, bI_0, and_self, reduceIte]; done)) (by first | with_reducible rfl | (simp only [e_6, e_7, e_8, e_9, e_10, e_11, oI_s, oI_0, bI_1, bI_0, and_self, reduceIte]; done)) ?_
    exact hret _ _ dX0_renew_11
set_option maxHeartbeats 4000000 in
set_option maxRecDepth 100000 in
theorem c_X0_headsOf (l : Launch) (D : va_G) (cy : Nat → ClassId) (e0 : Nat) (qx : Nat) (qa : Nat) (qw : Nat) (ci : Nat) (bo : Nat) (sh : Nat) (b : Nat) (s : Nat) (hb : b < 32) (hs : s < 5) : CoI l yX0_headsOf wsX0_headsOf 1 21 D cy [ob e0 0 [.ref qx, .ref qa, .ref qw, .int (nI ci), .int (nI bo), .int (oI sh)]] [.ref e0, .int (nI b), .int (nI s)] [ob e0 0 [.ref qx, .ref qa, .ref qw, .int (nI ci), .int (nI bo), .int (oI sh)]] (nI (hsQ b s 5)) := by
  refine met_i (cc := cX0_headsOf) (maxL := 5) (own := RX0) (lv := [(0, .ref e0), (1, .int (nI b)), (2, .int (nI s))]) (by decide) rfl rfl rfl (Nat.le_of_ble_eq_true rfl) (fun E e1 e2 e3 C hret => ?_)
  subst e1; subst e2; subst e3
  refine g_iconst (v := nI 0) C dX0_headsOf_0 (by decide) 1 rfl ?_
  refine g_istore_n (lv' := [(3, .int (nI 0)), (0, .ref e0), (1, .int (nI b)), (2, .int (nI s))]) C dX0_headsOf_1 rfl 2 rfl (by decide) rfl ?_
  refine g_iconst (v := nI 0) C dX0_headsOf_2 (by decide) 3 rfl ?_
  refine g_istore (lv' := [(4, .int (nI 0)), (3, .int (nI 0)), (0, .ref e0), (1, .int (nI b)), (2, .int (nI s))]) C dX0_headsOf_3 5 rfl (by decide) rfl ?_
  have L5 : ∀ q, q ≤ 5 → Go E 0 0 5 [(4, .int (nI q)), (3, .int (nI (hsQ b s q))), (0, .ref e0), (1, .int (nI b)), (2, .int (nI s))] [] [ob e0 0 [.ref qx, .ref qa, .ref qw, .int (nI ci), .int (nI bo), .int (oI sh)]] := by
    refine go_for 5 (fun q => Go E 0 0 5 [(4, .int (nI q)), (3, .int (nI (hsQ b s q))), (0, .ref e0), (1, .int (nI b)), (2, .int (nI s))] [] [ob e0 0 [.ref qx, .ref qa, .ref qw, .int (nI ci), .int (nI bo), .int (oI sh)]]) (fun q hi_q ih_q => ?_)
    refine g_iload C dX0_headsOf_5 7 rfl 0 rfl ?_
    refine g_iconst (v := nI 5) C dX0_headsOf_7 (by decide) 8 rfl ?_
    refine g_icmp_ge (X := 5 ≤ q) C dX0_headsOf_8 37 (by decide) 11 rfl (nI_leI (by omega) (by omega)) ?_ ?_
    · intro h8
      have x_q : q = 5 := by omega
      try rw [x_q]
      refine g_iload_n C dX0_headsOf_37 rfl 38 rfl 1 rfl ?_
      exact hret _ _ dX0_headsOf_38
    · intro h8
      refine g_iload_n C dX0_headsOf_11 rfl 12 rfl 3 rfl ?_
      refine g_iload C dX0_headsOf_12 14 rfl 0 rfl ?_
      refine g_cSNi (ws2 := [ob e0 0 [.ref qx, .ref qa, .ref qw, .int (nI ci), .int (nI bo), .int (oI sh)]]) (As := [.int (nI b), .int (nI q)]) (st := []) (wsc := []) (wr := [ob e0 0 [.ref qx, .ref qa, .ref qw, .int (nI ci), .int (nI bo), .int (oI sh)]]) C (c_X6_hasBit (eL E) (eD E) (eY E) b q (by omega) (by omega)) 2 ggX0_headsOf_X6_hasBit (nm_RX0_84 C.2.2.1) (List.mem_of_getElem? (i := 2) rfl) (List.mem_of_getElem? (i := 1) rfl) rfl (by decide +kernel) (by decide) ⟨Nat.zero_le _, Nat.zero_le _⟩ rfl rfl (Nat.le_of_ble_eq_true rfl) [] [0] [0] rfl rfl (by decide) (by decide) rfl (by decide) dX0_headsOf_14 17 rfl ?_
      refine g_if_eq (X := b.testBit q = false) C dX0_headsOf_17 31 (by decide) 20 rfl (bI_eq0 _) ?_ ?_
      · intro h17
        refine g_iinc (lv' := [(4, .int (nI (q + 1))), (3, .int (nI (hsQ b s q))), (0, .ref e0), (1, .int (nI b)), (2, .int (nI s))]) C dX0_headsOf_31 34 rfl 0 rfl (by decide) rfl ?_
        refine g_goto C dX0_headsOf_34 5 (by decide) ?_
        have e_1 : (hsQ b s (q + 1)) = (hsQ b s q) := by first | with_reducible rfl | (simp [hsQ, *])
        refine go_eq (lv' := [(4, .int (nI (q + 1))), (3, .int (nI (hsQ b s (q + 1)))), (0, .ref e0), (1, .int (nI b)), (2, .int (nI s))]) (ws' := [ob e0 0 [.ref qx, .ref qa, .ref qw, .int (nI ci), .int (nI bo), .int (oI sh)]]) (by first | with_reducible rfl | (simp only [e_1, oI_s, oI_0, bI_1, bI_0, and_self, reduceIte]; done)) rfl (by first | with_reducible rfl | (simp only [oI_s, oI_0, bI_1, bI_0, and_self, reduceIte]; done) | rfl) ?_
        exact ih_q (by omega)
      · intro h17
        have h17 : b.testBit q = true := by simpa using h17
        refine g_iload_n C dX0_headsOf_20 rfl 21 rfl 1 rfl ?_
        refine g_iconst (v := nI 1) C dX0_headsOf_21 (by decide) 22 rfl ?_
        refine g_iload C dX0_headsOf_22 24 rfl 0 rfl ?_
        refine g_iload_n C dX0_headsOf_24 rfl 25 rfl 4 rfl ?_
        refine g_cSNi (ws2 := [ob e0 0 [.ref qx, .ref qa, .ref qw, .int (nI ci), .int (nI bo), .int (oI sh)]]) (As := [.int (nI q), .int (nI s)]) (st := [.int (nI 1), .int (nI (hsQ b s q))]) (wsc := []) (wr := [ob e0 0 [.ref qx, .ref qa, .ref qw, .int (nI ci), .int (nI bo), .int (oI sh)]]) C (c_X6_headOf (eL E) (eD E) (eY E) q s ) 2 ggX0_headsOf_X6_headOf (nm_RX0_76 C.2.2.1) (List.mem_of_getElem? (i := 2) rfl) (List.mem_of_getElem? (i := 4) rfl) rfl (by decide +kernel) (by decide) ⟨Nat.zero_le _, Nat.zero_le _⟩ rfl rfl (Nat.le_of_ble_eq_true rfl) [] [0] [0] rfl rfl (by decide) (by decide) rfl (by decide) dX0_headsOf_25 28 rfl ?_
        refine g_ishl (z := nI (1 * 2 ^ (q * 5 + s))) C dX0_headsOf_28 29 rfl (z_shl (by omega) (by have := one25 (p := q * 5 + s) (by omega); omega)) ?_
        refine g_ior (z := nI ((hsQ b s q) ||| (1 * 2 ^ (q * 5 + s)))) C dX0_headsOf_29 30 rfl (z_or _ _) ?_
        refine g_istore_n (lv' := [(3, .int (nI ((hsQ b s q) ||| (1 * 2 ^ (q * 5 + s))))), (4, .int (nI q)), (0, .ref e0), (1, .int (nI b)), (2, .int (nI s))]) C dX0_headsOf_30 rfl 31 rfl (by decide) rfl ?_
        refine g_iinc (lv' := [(4, .int (nI (q + 1))), (3, .int (nI ((hsQ b s q) ||| (1 * 2 ^ (q * 5 + s))))), (0, .ref e0), (1, .int (nI b)), (2, .int (nI s))]) C dX0_headsOf_31 34 rfl 1 rfl (by decide) rfl ?_
        refine g_goto C dX0_headsOf_34 5 (by decide) ?_
        have e_2 : (hsQ b s (q + 1)) = ((hsQ b s q) ||| (1 * 2 ^ (q * 5 + s))) := by first | with_reducible rfl | (simp [hsQ, *])
        refine go_eq (lv' := [(4, .int (nI (q + 1))), (3, .int (nI (hsQ b s (q + 1)))), (0, .ref e0), (1, .int (nI b)), (2, .int (nI s))]) (ws' := [ob e0 0 [.ref qx, .ref qa, .ref qw, .int (nI ci), .int (nI bo), .int (oI sh)]]) (by first | with_reducible rfl | (simp only [e_2, oI_s, oI_0, bI_1, bI_0, and_self, reduceIte]; done)) rfl (by first | with_reducible rfl | (simp only [oI_s, oI_0, bI_1, bI_0, and_self, reduceIte]; done) | rfl) ?_
        exact ih_q (by omega)
  have e_3 : (hsQ b s 0) = 0 := by first | with_reducible rfl | (rfl)
  refine go_eq (lv' := [(4, .int (nI 0)), (3, .int (nI (hsQ b s 0))), (0, .ref e0), (1, .int (nI b)), (2, .int (nI s))]) (ws' := [ob e0 0 [.ref qx, .ref qa, .ref qw, .int (nI ci), .int (nI bo), .int (oI sh)]]) (by first | with_reducible rfl | (simp only [e_3, oI_s, oI_0, bI_1, bI_0, and_self, reduceIte]; done)) rfl (by first | with_reducible rfl | (simp only [oI_s, oI_0, bI_1, bI_0, and_self, reduceIte]; done) | rfl) ?_
  exact L5 0 (by omega)
set_option maxHeartbeats 4000000 in
set_option maxRecDepth 100000 in
theorem c_X0_allExits (l : Launch) (D : va_G) (cy : Nat → ClassId) (e0 : Nat) (qx : Nat) (qa : Nat) (qw : Nat) (ci : Nat) (bo : Nat) (sh : Nat) (Ex : Nat → Nat) (b : Nat) (s : Nat) (hb : b < 32) (hs : s < 5) : CoI l yX0_allExits wsX0_allExits 1 21 D cy [ob e0 0 [.ref qx, .ref qa, .ref qw, .int (nI ci), .int (nI bo), .int (oI sh)], aN cy qx 25 Ex] [.ref e0, .int (nI b), .int (nI s)] [ob e0 0 [.ref qx, .ref qa, .ref qw, .int (nI ci), .int (nI bo), .int (oI sh)], aN cy qx 25 Ex] (nI (aeQ Ex b s 5)) := by
  refine met_i (cc := cX0_allExits) (maxL := 5) (own := RX0) (lv := [(0, .ref e0), (1, .int (nI b)), (2, .int (nI s))]) (by decide) rfl rfl rfl (Nat.le_of_ble_eq_true rfl) (fun E e1 e2 e3 C hret => ?_)
  subst e1; subst e2; subst e3
  have iX0 : ∀ w ∈ wsX00, w ∈ wsX0_allExits := fun _ h => List.mem_cons_of_mem _ (List.mem_append_right _ h)
  refine g_iconst (v := nI 0) C dX0_allExits_0 (by decide) 1 rfl ?_
  refine g_istore_n (lv' := [(3, .int (nI 0)), (0, .ref e0), (1, .int (nI b)), (2, .int (nI s))]) C dX0_allExits_1 rfl 2 rfl (by decide) rfl ?_
  refine g_iconst (v := nI 0) C dX0_allExits_2 (by decide) 3 rfl ?_
  refine g_istore (lv' := [(4, .int (nI 0)), (3, .int (nI 0)), (0, .ref e0), (1, .int (nI b)), (2, .int (nI s))]) C dX0_allExits_3 5 rfl (by decide) rfl ?_
  have L5 : ∀ q, q ≤ 5 → Go E 0 0 5 [(4, .int (nI q)), (3, .int (nI (aeQ Ex b s q))), (0, .ref e0), (1, .int (nI b)), (2, .int (nI s))] [] [ob e0 0 [.ref qx, .ref qa, .ref qw, .int (nI ci), .int (nI bo), .int (oI sh)], aN (eY E) qx 25 Ex] := by
    refine go_for 5 (fun q => Go E 0 0 5 [(4, .int (nI q)), (3, .int (nI (aeQ Ex b s q))), (0, .ref e0), (1, .int (nI b)), (2, .int (nI s))] [] [ob e0 0 [.ref qx, .ref qa, .ref qw, .int (nI ci), .int (nI bo), .int (oI sh)], aN (eY E) qx 25 Ex]) (fun q hi_q ih_q => ?_)
    refine g_iload C dX0_allExits_5 7 rfl 0 rfl ?_
    refine g_iconst (v := nI 5) C dX0_allExits_7 (by decide) 8 rfl ?_
    refine g_icmp_ge (X := 5 ≤ q) C dX0_allExits_8 40 (by decide) 11 rfl (nI_leI (by omega) (by omega)) ?_ ?_
    · intro h8
      have x_q : q = 5 := by omega
      try rw [x_q]
      refine g_iload_n C dX0_allExits_40 rfl 41 rfl 1 rfl ?_
      exact hret _ _ dX0_allExits_41
    · intro h8
      refine g_iload_n C dX0_allExits_11 rfl 12 rfl 3 rfl ?_
      refine g_iload C dX0_allExits_12 14 rfl 0 rfl ?_
      refine g_cSNi (ws2 := [ob e0 0 [.ref qx, .ref qa, .ref qw, .int (nI ci), .int (nI bo), .int (oI sh)], aN (eY E) qx 25 Ex]) (As := [.int (nI b), .int (nI q)]) (st := []) (wsc := []) (wr := [ob e0 0 [.ref qx, .ref qa, .ref qw, .int (nI ci), .int (nI bo), .int (oI sh)], aN (eY E) qx 25 Ex]) C (c_X6_hasBit (eL E) (eD E) (eY E) b q (by omega) (by omega)) 2 ggX0_allExits_X6_hasBit (nm_RX0_84 C.2.2.1) (List.mem_of_getElem? (i := 3) rfl) (List.mem_of_getElem? (i := 2) rfl) rfl (by decide +kernel) (by decide) ⟨Nat.zero_le _, Nat.zero_le _⟩ rfl rfl (Nat.le_of_ble_eq_true rfl) [] [0, 1] [0, 1] rfl rfl (by decide) (by decide) rfl (by decide) dX0_allExits_14 17 rfl ?_
      refine g_if_eq (X := b.testBit q = false) C dX0_allExits_17 34 (by decide) 20 rfl (bI_eq0 _) ?_ ?_
      · intro h17
        refine g_iinc (lv' := [(4, .int (nI (q + 1))), (3, .int (nI (aeQ Ex b s q))), (0, .ref e0), (1, .int (nI b)), (2, .int (nI s))]) C dX0_allExits_34 37 rfl 0 rfl (by decide) rfl ?_
        refine g_goto C dX0_allExits_37 5 (by decide) ?_
        have e_1 : (aeQ Ex b s (q + 1)) = (aeQ Ex b s q) := by first | with_reducible rfl | (simp [aeQ, *])
        refine go_eq (lv' := [(4, .int (nI (q + 1))), (3, .int (nI (aeQ Ex b s (q + 1)))), (0, .ref e0), (1, .int (nI b)), (2, .int (nI s))]) (ws' := [ob e0 0 [.ref qx, .ref qa, .ref qw, .int (nI ci), .int (nI bo), .int (oI sh)], aN (eY E) qx 25 Ex]) (by first | with_reducible rfl | (simp only [e_1, oI_s, oI_0, bI_1, bI_0, and_self, reduceIte]; done)) rfl (by first | with_reducible rfl | (simp only [oI_s, oI_0, bI_1, bI_0, and_self, reduceIte]; done) | rfl) ?_
        exact ih_q (by omega)
      · intro h17
        have h17 : b.testBit q = true := by simpa using h17
        refine g_iload_n C dX0_allExits_20 rfl 21 rfl 1 rfl ?_
        refine g_aload_n C dX0_allExits_21 rfl 22 rfl 2 rfl ?_
        refine g_get C iX0 0 rfl rfl 0 (by decide) (C.1.2.2.2.2 (.fieldLink RX0 9 "StackRuns$Heads" "exits" "[I") (List.mem_of_getElem? (i := 1) rfl)) rfl dX0_allExits_22 25 rfl ?_
        refine g_iload C dX0_allExits_25 27 rfl 0 rfl ?_
        refine g_iload_n C dX0_allExits_27 rfl 28 rfl 4 rfl ?_
        refine g_cSNi (ws2 := [ob e0 0 [.ref qx, .ref qa, .ref qw, .int (nI ci), .int (nI bo), .int (oI sh)], aN (eY E) qx 25 Ex]) (As := [.int (nI q), .int (nI s)]) (st := [.ref qx, .int (nI (aeQ Ex b s q))]) (wsc := []) (wr := [ob e0 0 [.ref qx, .ref qa, .ref qw, .int (nI ci), .int (nI bo), .int (oI sh)], aN (eY E) qx 25 Ex]) C (c_X6_headOf (eL E) (eD E) (eY E) q s ) 2 ggX0_allExits_X6_headOf (nm_RX0_76 C.2.2.1) (List.mem_of_getElem? (i := 3) rfl) (List.mem_of_getElem? (i := 5) rfl) rfl (by decide +kernel) (by decide) ⟨Nat.zero_le _, Nat.zero_le _⟩ rfl rfl (Nat.le_of_ble_eq_true rfl) [] [0, 1] [0, 1] rfl rfl (by decide) (by decide) rfl (by decide) dX0_allExits_28 31 rfl ?_
        refine g_iald (i := (q * 5 + s)) C 1 rfl (by omega) (by decide) dX0_allExits_31 32 rfl ?_
        refine g_ior (z := nI ((aeQ Ex b s q) ||| (Ex (q * 5 + s)))) C dX0_allExits_32 33 rfl (z_or _ _) ?_
        refine g_istore_n (lv' := [(3, .int (nI ((aeQ Ex b s q) ||| (Ex (q * 5 + s))))), (4, .int (nI q)), (0, .ref e0), (1, .int (nI b)), (2, .int (nI s))]) C dX0_allExits_33 rfl 34 rfl (by decide) rfl ?_
        refine g_iinc (lv' := [(4, .int (nI (q + 1))), (3, .int (nI ((aeQ Ex b s q) ||| (Ex (q * 5 + s))))), (0, .ref e0), (1, .int (nI b)), (2, .int (nI s))]) C dX0_allExits_34 37 rfl 1 rfl (by decide) rfl ?_
        refine g_goto C dX0_allExits_37 5 (by decide) ?_
        have e_2 : (aeQ Ex b s (q + 1)) = ((aeQ Ex b s q) ||| (Ex (q * 5 + s))) := by first | with_reducible rfl | (simp [aeQ, *])
        refine go_eq (lv' := [(4, .int (nI (q + 1))), (3, .int (nI (aeQ Ex b s (q + 1)))), (0, .ref e0), (1, .int (nI b)), (2, .int (nI s))]) (ws' := [ob e0 0 [.ref qx, .ref qa, .ref qw, .int (nI ci), .int (nI bo), .int (oI sh)], aN (eY E) qx 25 Ex]) (by first | with_reducible rfl | (simp only [e_2, oI_s, oI_0, bI_1, bI_0, and_self, reduceIte]; done)) rfl (by first | with_reducible rfl | (simp only [oI_s, oI_0, bI_1, bI_0, and_self, reduceIte]; done) | rfl) ?_
        exact ih_q (by omega)
  have e_3 : (aeQ Ex b s 0) = 0 := by first | with_reducible rfl | (rfl)
  refine go_eq (lv' := [(4, .int (nI 0)), (3, .int (nI (aeQ Ex b s 0))), (0, .ref e0), (1, .int (nI b)), (2, .int (nI s))]) (ws' := [ob e0 0 [.ref qx, .ref qa, .ref qw, .int (nI ci), .int (nI bo), .int (oI sh)], aN (eY E) qx 25 Ex]) (by first | with_reducible rfl | (simp only [e_3, oI_s, oI_0, bI_1, bI_0, and_self, reduceIte]; done)) rfl (by first | with_reducible rfl | (simp only [oI_s, oI_0, bI_1, bI_0, and_self, reduceIte]; done) | rfl) ?_
  exact L5 0 (by omega)
set_option maxHeartbeats 4000000 in
set_option maxRecDepth 100000 in
theorem c_X0_goOnFrom (l : Launch) (D : va_G) (cy : Nat → ClassId) (e0 : Nat) (qx : Nat) (qa : Nat) (qw : Nat) (ci : Nat) (bo : Nat) (sh : Nat) (Ex : Nat → Nat) (g0 : Nat) (c : Nat) (h : Nat) (qs : Nat) (Sg : Nat → Nat) (hEx : ∀ k, Ex k < 32) (hci : ci < 2 ^ 25) (hc : c < 5) (hh : h ≤ 60) (hS : ∀ i, Sg i < 5) : CoI l yX0_goOnFrom wsX0_goOnFrom 2 45 D cy [ob e0 0 [.ref qx, .ref qa, .ref qw, .int (nI ci), .int (nI bo), .int (oI sh)], aN cy qx 25 Ex, ob g0 5 [.int (nI c), .int (nI h), .ref qs], aN cy qs 60 Sg] [.ref e0, .ref g0] [ob e0 0 [.ref qx, .ref qa, .ref qw, .int (nI ci), .int (nI bo), .int (oI sh)], aN cy qx 25 Ex, ob g0 5 [.int (nI c), .int (nI h), .ref qs], aN cy qs 60 Sg] (bI (gnF ci Ex Sg h (1 * 2 ^ c))) := by
  refine met_z (cc := cX0_goOnFrom) (maxL := 4) (own := RX0) (lv := [(0, .ref e0), (1, .ref g0)]) (by decide) rfl rfl rfl (Nat.le_of_ble_eq_true rfl) (fun E e1 e2 e3 C hret => ?_)
  subst e1; subst e2; subst e3
  have iX0 : ∀ w ∈ wsX00, w ∈ wsX0_goOnFrom := fun _ h => List.mem_cons_of_mem _ (List.mem_append_right _ h)
  have iX5 : ∀ w ∈ wsX50, w ∈ wsX0_goOnFrom := fun _ h => List.mem_cons_of_mem _ (List.mem_append_left _ (List.mem_append_right _ h))
  refine g_iconst (v := nI 1) C dX0_goOnFrom_0 (by decide) 1 rfl ?_
  refine g_aload_n C dX0_goOnFrom_1 rfl 2 rfl 1 rfl ?_
  refine g_getN C iX5 2 rfl rfl 0 (by decide) (nf_RX0_104 C.2.2.1 _) rfl dX0_goOnFrom_2 5 rfl ?_
  refine g_ishl (z := nI (1 * 2 ^ c)) C dX0_goOnFrom_5 6 rfl (z_shl (by omega) (by have := pow_lt_32 hc; omega)) ?_
  refine g_istore_n (lv' := [(2, .int (nI (1 * 2 ^ c))), (0, .ref e0), (1, .ref g0)]) C dX0_goOnFrom_6 rfl 7 rfl (by decide) rfl ?_
  refine g_aload_n C dX0_goOnFrom_7 rfl 8 rfl 2 rfl ?_
  refine g_getN C iX5 2 rfl rfl 1 (by decide) (nf_RX0_109 C.2.2.1 _) rfl dX0_goOnFrom_8 11 rfl ?_
  refine g_iconst (v := nI 1) C dX0_goOnFrom_11 (by decide) 12 rfl ?_
  refine g_isub (z := (oI h)) C dX0_goOnFrom_12 13 rfl (by exact oI_sub h) ?_
  refine g_istore_n (lv' := [(3, .int (oI h)), (2, .int (nI (1 * 2 ^ c))), (0, .ref e0), (1, .ref g0)]) C dX0_goOnFrom_13 rfl 14 rfl (by decide) rfl ?_
  have L14 : ∀ a, ∀ (Pb : Nat), (a ≤ 60) → (Pb < 32) → (gnF ci Ex Sg a Pb = gnF ci Ex Sg h (1 * 2 ^ c)) → Go E 0 0 14 [(3, .int (oI a)), (2, .int (nI Pb)), (0, .ref e0), (1, .ref g0)] [] [ob e0 0 [.ref qx, .ref qa, .ref qw, .int (nI ci), .int (nI bo), .int (oI sh)], aN (eY E) qx 25 Ex, ob g0 5 [.int (nI c), .int (nI h), .ref qs], aN (eY E) qs 60 Sg] := by
    refine go_down (fun a => ∀ (Pb : Nat), (a ≤ 60) → (Pb < 32) → (gnF ci Ex Sg a Pb = gnF ci Ex Sg h (1 * 2 ^ c)) → Go E 0 0 14 [(3, .int (oI a)), (2, .int (nI Pb)), (0, .ref e0), (1, .ref g0)] [] [ob e0 0 [.ref qx, .ref qa, .ref qw, .int (nI ci), .int (nI bo), .int (oI sh)], aN (eY E) qx 25 Ex, ob g0 5 [.int (nI c), .int (nI h), .ref qs], aN (eY E) qs 60 Sg]) (fun a ih_a => ?_)
    intro Pb ha hPb hF
    refine g_iload_n C dX0_goOnFrom_14 rfl 15 rfl 0 rfl ?_
    refine g_if_lt (X := a = 0) C dX0_goOnFrom_15 57 (by decide) 18 rfl (oI_lt0 (by omega)) ?_ ?_
    · intro h15
      have ea : a = 0 := by omega
      rw [ea] at hF
      refine g_iconst (v := nI 0) C dX0_goOnFrom_57 (by decide) 58 rfl ?_
      have e_1 : (gnF ci Ex Sg h (1 * 2 ^ c)) = false := by first | with_reducible rfl | (rw [← hF]; rfl)
      refine go_eq rfl (st' := [.int (bI (gnF ci Ex Sg h (1 * 2 ^ c)))]) (ws' := [ob e0 0 [.ref qx, .ref qa, .ref qw, .int (nI ci), .int (nI bo), .int (oI sh)], aN (eY E) qx 25 Ex, ob g0 5 [.int (nI c), .int (nI h), .ref qs], aN (eY E) qs 60 Sg]) (by first | with_reducible rfl | (simp only [e_1, oI_s, oI_0, bI_1, bI_0, and_self, reduceIte]; done)) (by first | with_reducible rfl | (simp only [e_1, oI_s, oI_0, bI_1, bI_0, and_self, reduceIte]; done)) ?_
      exact hret _ _ dX0_goOnFrom_58
    · intro h15
      have hS1 := hS (a - 1)
      refine g_aload_n C dX0_goOnFrom_18 rfl 19 rfl 2 rfl ?_
      refine g_iload_n C dX0_goOnFrom_19 rfl 20 rfl 1 rfl ?_
      refine g_aload_n C dX0_goOnFrom_20 rfl 21 rfl 3 rfl ?_
      refine g_getN C iX5 2 rfl rfl 2 (by decide) (nf_RX0_112 C.2.2.1 _) rfl dX0_goOnFrom_21 24 rfl ?_
      refine g_iload_n C dX0_goOnFrom_24 rfl 25 rfl 0 rfl ?_
      refine go_st (show Value.int (oI a) = .int (nI (a - 1)) from by rw [oI_pos (by omega)]) ?_
      refine g_iald (i := (a - 1)) C 3 rfl (by omega) (by decide) dX0_goOnFrom_25 26 rfl ?_
      refine g_cVi (ws2 := [ob e0 0 [.ref qx, .ref qa, .ref qw, .int (nI ci), .int (nI bo), .int (oI sh)], aN (eY E) qx 25 Ex, ob g0 5 [.int (nI c), .int (nI h), .ref qs], aN (eY E) qs 60 Sg]) (As := [.int (nI Pb), .int (nI (Sg (a - 1)))]) (st := []) (wsc := [ob e0 0 [.ref qx, .ref qa, .ref qw, .int (nI ci), .int (nI bo), .int (oI sh)]]) (wr := [aN (eY E) qx 25 Ex, ob g0 5 [.int (nI c), .int (nI h), .ref qs], aN (eY E) qs 60 Sg]) C (c_X0_headsOf (eL E) (eD E) (eY E) e0 qx qa qw ci bo sh Pb (Sg (a - 1)) (by omega) (by omega)) 2 gX0_goOnFrom_X0_headsOf rfl (by decide +kernel) (by decide) ⟨Nat.zero_le _, Nat.zero_le _⟩ rfl 0 rfl rfl rfl (Nat.le_of_ble_eq_true rfl) [0] [1, 2, 3] [3, 0, 1, 2] rfl rfl (by decide) (by decide) rfl (by decide) dX0_goOnFrom_26 29 rfl ?_
      refine g_aload_n C dX0_goOnFrom_29 rfl 30 rfl 2 rfl ?_
      refine g_get C iX0 0 rfl rfl 3 (by decide) (C.1.2.2.2.2 (.fieldLink RX0 21 "StackRuns$Heads" "circling" "I") (List.mem_of_getElem? (i := 1) rfl)) rfl dX0_goOnFrom_30 33 rfl ?_
      refine g_iand (z := nI ((hsQ Pb (Sg (a - 1)) 5) &&& ci)) C dX0_goOnFrom_33 34 rfl (z_and _ _) ?_
      refine g_if_eq (X := (hsQ Pb (Sg (a - 1)) 5) &&& ci = 0) C dX0_goOnFrom_34 39 (by decide) 37 rfl (nI_eq0 (by exact Nat.lt_of_le_of_lt Nat.and_le_right (by omega))) ?_ ?_
      · intro h34
        refine g_aload_n C dX0_goOnFrom_39 rfl 40 rfl 2 rfl ?_
        refine g_iload_n C dX0_goOnFrom_40 rfl 41 rfl 1 rfl ?_
        refine g_aload_n C dX0_goOnFrom_41 rfl 42 rfl 3 rfl ?_
        refine g_getN C iX5 2 rfl rfl 2 (by decide) (nf_RX0_112 C.2.2.1 _) rfl dX0_goOnFrom_42 45 rfl ?_
        refine g_iload_n C dX0_goOnFrom_45 rfl 46 rfl 0 rfl ?_
        refine go_st (show Value.int (oI a) = .int (nI (a - 1)) from by rw [oI_pos (by omega)]) ?_
        refine g_iald (i := (a - 1)) C 3 rfl (by omega) (by decide) dX0_goOnFrom_46 47 rfl ?_
        refine g_cVi (ws2 := [ob e0 0 [.ref qx, .ref qa, .ref qw, .int (nI ci), .int (nI bo), .int (oI sh)], aN (eY E) qx 25 Ex, ob g0 5 [.int (nI c), .int (nI h), .ref qs], aN (eY E) qs 60 Sg]) (As := [.int (nI Pb), .int (nI (Sg (a - 1)))]) (st := []) (wsc := [ob e0 0 [.ref qx, .ref qa, .ref qw, .int (nI ci), .int (nI bo), .int (oI sh)], aN (eY E) qx 25 Ex]) (wr := [ob g0 5 [.int (nI c), .int (nI h), .ref qs], aN (eY E) qs 60 Sg]) C (c_X0_allExits (eL E) (eD E) (eY E) e0 qx qa qw ci bo sh Ex Pb (Sg (a - 1)) (by omega) (by omega)) 2 gX0_goOnFrom_X0_allExits rfl (by decide +kernel) (by decide) ⟨Nat.zero_le _, Nat.zero_le _⟩ rfl 0 rfl rfl rfl (Nat.le_of_ble_eq_true rfl) [0, 1] [2, 3] [2, 3, 0, 1] rfl rfl (by decide) (by decide) rfl (by decide) dX0_goOnFrom_47 50 rfl ?_
        refine g_istore_n (lv' := [(2, .int (nI (aeQ Ex Pb (Sg (a - 1)) 5))), (3, .int (oI a)), (0, .ref e0), (1, .ref g0)]) C dX0_goOnFrom_50 rfl 51 rfl (by decide) rfl ?_
        rw [show oI a = oI ((a - 1) + 1) from by rw [show a - 1 + 1 = a from by omega]]
        refine g_idec (lv' := [(3, .int (oI (a - 1))), (2, .int (nI (aeQ Ex Pb (Sg (a - 1)) 5))), (0, .ref e0), (1, .ref g0)]) C dX0_goOnFrom_51 54 rfl 1 rfl (by decide) rfl ?_
        refine g_goto C dX0_goOnFrom_54 14 (by decide) ?_
        exact ih_a (a - 1) (by omega) (aeQ Ex Pb (Sg (a - 1)) 5) (by omega) (by exact aeQ_lt hEx _ _ _) (by rw [← hF, gnF_pos (a := a) (by omega), if_pos h34])
      · intro h34
        refine g_iconst (v := nI 1) C dX0_goOnFrom_37 (by decide) 38 rfl ?_
        have e_2 : (gnF ci Ex Sg h (1 * 2 ^ c)) = true := by first | with_reducible rfl | (rw [← hF, gnF_pos (a := a) (by omega), if_neg h34])
        refine go_eq rfl (st' := [.int (bI (gnF ci Ex Sg h (1 * 2 ^ c)))]) (ws' := [ob e0 0 [.ref qx, .ref qa, .ref qw, .int (nI ci), .int (nI bo), .int (oI sh)], aN (eY E) qx 25 Ex, ob g0 5 [.int (nI c), .int (nI h), .ref qs], aN (eY E) qs 60 Sg]) (by first | with_reducible rfl | (simp only [e_2, oI_s, oI_0, bI_1, bI_0, and_self, reduceIte]; done)) (by first | with_reducible rfl | (simp only [e_2, oI_s, oI_0, bI_1, bI_0, and_self, reduceIte]; done)) ?_
        exact hret _ _ dX0_goOnFrom_38
  exact L14 h (1 * 2 ^ c) (by omega) (by have := pow_lt_32 hc; omega) (by rfl)
set_option maxHeartbeats 4000000 in
set_option maxRecDepth 100000 in
theorem c_X0_topFrom (l : Launch) (D : va_G) (cy : Nat → ClassId) (e0 : Nat) (qx : Nat) (qa : Nat) (qw : Nat) (ci : Nat) (bo : Nat) (sh : Nat) (Ex : Nat → Nat) (Tl : Nat → Nat) (g0 : Nat) (c : Nat) (h : Nat) (qs : Nat) (Sg : Nat → Nat) (hEx : ∀ k, Ex k < 32) (hbo : bo < 2 ^ 25) (hT : ∀ k, Tl k < 2 ^ 20) (hc : c < 5) (hh : h ≤ 60) (hS : ∀ i, Sg i < 5) : CoI l yX0_topFrom wsX0_topFrom 2 45 D cy [ob e0 0 [.ref qx, .ref qa, .ref qw, .int (nI ci), .int (nI bo), .int (oI sh)], aN cy qx 25 Ex, aN cy qw 25 Tl, ob g0 5 [.int (nI c), .int (nI h), .ref qs], aN cy qs 60 Sg] [.ref e0, .ref g0] [ob e0 0 [.ref qx, .ref qa, .ref qw, .int (nI ci), .int (nI bo), .int (oI sh)], aN cy qx 25 Ex, aN cy qw 25 Tl, ob g0 5 [.int (nI c), .int (nI h), .ref qs], aN cy qs 60 Sg] (oI (tpF bo Ex Tl Sg h (1 * 2 ^ c) h)) := by
  refine met_i (cc := cX0_topFrom) (maxL := 7) (own := RX0) (lv := [(0, .ref e0), (1, .ref g0)]) (by decide) rfl rfl rfl (Nat.le_of_ble_eq_true rfl) (fun E e1 e2 e3 C hret => ?_)
  subst e1; subst e2; subst e3
  have iX0 : ∀ w ∈ wsX00, w ∈ wsX0_topFrom := fun _ h => List.mem_cons_of_mem _ (List.mem_append_right _ h)
  have iX5 : ∀ w ∈ wsX50, w ∈ wsX0_topFrom := fun _ h => List.mem_cons_of_mem _ (List.mem_append_left _ (List.mem_append_right _ h))
  refine g_aload_n C dX0_topFrom_0 rfl 1 rfl 1 rfl ?_
  refine g_getN C iX5 3 rfl rfl 1 (by decide) (nf_RX0_109 C.2.2.1 _) rfl dX0_topFrom_1 4 rfl ?_
  refine g_istore_n (lv' := [(2, .int (nI h)), (0, .ref e0), (1, .ref g0)]) C dX0_topFrom_4 rfl 5 rfl (by decide) rfl ?_
  refine g_iconst (v := nI 1) C dX0_topFrom_5 (by decide) 6 rfl ?_
  refine g_aload_n C dX0_topFrom_6 rfl 7 rfl 2 rfl ?_
  refine g_getN C iX5 3 rfl rfl 0 (by decide) (nf_RX0_104 C.2.2.1 _) rfl dX0_topFrom_7 10 rfl ?_
  refine g_ishl (z := nI (1 * 2 ^ c)) C dX0_topFrom_10 11 rfl (z_shl (by omega) (by have := pow_lt_32 hc; omega)) ?_
  refine g_istore_n (lv' := [(3, .int (nI (1 * 2 ^ c))), (2, .int (nI h)), (0, .ref e0), (1, .ref g0)]) C dX0_topFrom_11 rfl 12 rfl (by decide) rfl ?_
  refine g_aload_n C dX0_topFrom_12 rfl 13 rfl 3 rfl ?_
  refine g_getN C iX5 3 rfl rfl 1 (by decide) (nf_RX0_109 C.2.2.1 _) rfl dX0_topFrom_13 16 rfl ?_
  refine g_iconst (v := nI 1) C dX0_topFrom_16 (by decide) 17 rfl ?_
  refine g_isub (z := (oI h)) C dX0_topFrom_17 18 rfl (by exact oI_sub h) ?_
  refine g_istore (lv' := [(4, .int (oI h)), (3, .int (nI (1 * 2 ^ c))), (2, .int (nI h)), (0, .ref e0), (1, .ref g0)]) C dX0_topFrom_18 20 rfl (by decide) rfl ?_
  have L20 : ∀ a, ∀ (Pb : Nat), ∀ (tt : Nat), (a ≤ 60) → (Pb < 32) → (tt ≤ 2 ^ 21) → (tpF bo Ex Tl Sg a Pb tt = tpF bo Ex Tl Sg h (1 * 2 ^ c) h) → Go E 0 0 20 [(4, .int (oI a)), (3, .int (nI Pb)), (2, .int (nI tt)), (0, .ref e0), (1, .ref g0)] [] [ob e0 0 [.ref qx, .ref qa, .ref qw, .int (nI ci), .int (nI bo), .int (oI sh)], aN (eY E) qx 25 Ex, aN (eY E) qw 25 Tl, ob g0 5 [.int (nI c), .int (nI h), .ref qs], aN (eY E) qs 60 Sg] := by
    refine go_down (fun a => ∀ (Pb : Nat), ∀ (tt : Nat), (a ≤ 60) → (Pb < 32) → (tt ≤ 2 ^ 21) → (tpF bo Ex Tl Sg a Pb tt = tpF bo Ex Tl Sg h (1 * 2 ^ c) h) → Go E 0 0 20 [(4, .int (oI a)), (3, .int (nI Pb)), (2, .int (nI tt)), (0, .ref e0), (1, .ref g0)] [] [ob e0 0 [.ref qx, .ref qa, .ref qw, .int (nI ci), .int (nI bo), .int (oI sh)], aN (eY E) qx 25 Ex, aN (eY E) qw 25 Tl, ob g0 5 [.int (nI c), .int (nI h), .ref qs], aN (eY E) qs 60 Sg]) (fun a ih_a => ?_)
    intro Pb tt ha hPb htt hF
    refine g_iload C dX0_topFrom_20 22 rfl 0 rfl ?_
    refine g_if_lt (X := a = 0) C dX0_topFrom_22 111 (by decide) 25 rfl (oI_lt0 (by omega)) ?_ ?_
    · intro h22
      have ea : a = 0 := by omega
      rw [ea] at hF
      refine g_iload_n C dX0_topFrom_111 rfl 112 rfl 2 rfl ?_
      have e_1 : (tpF bo Ex Tl Sg h (1 * 2 ^ c) h) = (tt + 1) := by first | with_reducible rfl | (rw [← hF]; rfl)
      refine go_eq rfl (st' := [.int (oI (tpF bo Ex Tl Sg h (1 * 2 ^ c) h))]) (ws' := [ob e0 0 [.ref qx, .ref qa, .ref qw, .int (nI ci), .int (nI bo), .int (oI sh)], aN (eY E) qx 25 Ex, aN (eY E) qw 25 Tl, ob g0 5 [.int (nI c), .int (nI h), .ref qs], aN (eY E) qs 60 Sg]) (by first | with_reducible rfl | (simp only [e_1, oI_s, oI_0, bI_1, bI_0, and_self, reduceIte]; done)) (by first | with_reducible rfl | (simp only [e_1, oI_s, oI_0, bI_1, bI_0, and_self, reduceIte]; done)) ?_
      exact hret _ _ dX0_topFrom_112
    · intro h22
      have hS1 := hS (a - 1)
      refine g_aload_n C dX0_topFrom_25 rfl 26 rfl 3 rfl ?_
      refine g_iload_n C dX0_topFrom_26 rfl 27 rfl 1 rfl ?_
      refine g_aload_n C dX0_topFrom_27 rfl 28 rfl 4 rfl ?_
      refine g_getN C iX5 3 rfl rfl 2 (by decide) (nf_RX0_112 C.2.2.1 _) rfl dX0_topFrom_28 31 rfl ?_
      refine g_iload C dX0_topFrom_31 33 rfl 0 rfl ?_
      refine go_st (show Value.int (oI a) = .int (nI (a - 1)) from by rw [oI_pos (by omega)]) ?_
      refine g_iald (i := (a - 1)) C 4 rfl (by omega) (by decide) dX0_topFrom_33 34 rfl ?_
      refine g_cVi (ws2 := [ob e0 0 [.ref qx, .ref qa, .ref qw, .int (nI ci), .int (nI bo), .int (oI sh)], aN (eY E) qx 25 Ex, aN (eY E) qw 25 Tl, ob g0 5 [.int (nI c), .int (nI h), .ref qs], aN (eY E) qs 60 Sg]) (As := [.int (nI Pb), .int (nI (Sg (a - 1)))]) (st := []) (wsc := [ob e0 0 [.ref qx, .ref qa, .ref qw, .int (nI ci), .int (nI bo), .int (oI sh)]]) (wr := [aN (eY E) qx 25 Ex, aN (eY E) qw 25 Tl, ob g0 5 [.int (nI c), .int (nI h), .ref qs], aN (eY E) qs 60 Sg]) C (c_X0_headsOf (eL E) (eD E) (eY E) e0 qx qa qw ci bo sh Pb (Sg (a - 1)) (by omega) (by omega)) 2 gX0_topFrom_X0_headsOf rfl (by decide +kernel) (by decide) ⟨Nat.zero_le _, Nat.zero_le _⟩ rfl 0 rfl rfl rfl (Nat.le_of_ble_eq_true rfl) [0] [1, 2, 3, 4] [4, 0, 1, 2, 3] rfl rfl (by decide) (by decide) rfl (by decide) dX0_topFrom_34 37 rfl ?_
      have hH := hsQ_lt Pb hS1 5 (Nat.le_refl _)
      refine g_istore (lv' := [(5, .int (nI (hsQ Pb (Sg (a - 1)) 5))), (4, .int (oI a)), (3, .int (nI Pb)), (2, .int (nI tt)), (0, .ref e0), (1, .ref g0)]) C dX0_topFrom_37 39 rfl (by decide) rfl ?_
      refine g_iload C dX0_topFrom_39 41 rfl 0 rfl ?_
      refine g_aload_n C dX0_topFrom_41 rfl 42 rfl 4 rfl ?_
      refine g_get C iX0 0 rfl rfl 4 (by decide) (C.1.2.2.2.2 (.fieldLink RX0 25 "StackRuns$Heads" "boundless" "I") (List.mem_of_getElem? (i := 1) rfl)) rfl dX0_topFrom_42 45 rfl ?_
      refine g_iand (z := nI ((hsQ Pb (Sg (a - 1)) 5) &&& bo)) C dX0_topFrom_45 46 rfl (z_and _ _) ?_
      refine g_if_eq (X := (hsQ Pb (Sg (a - 1)) 5) &&& bo = 0) C dX0_topFrom_46 51 (by decide) 49 rfl (nI_eq0 (by exact Nat.lt_of_le_of_lt Nat.and_le_right (by omega))) ?_ ?_
      · intro h46
        refine g_iconst (v := nI 0) C dX0_topFrom_51 (by decide) 52 rfl ?_
        refine g_istore (lv' := [(6, .int (nI 0)), (5, .int (nI (hsQ Pb (Sg (a - 1)) 5))), (4, .int (oI a)), (3, .int (nI Pb)), (2, .int (nI tt)), (0, .ref e0), (1, .ref g0)]) C dX0_topFrom_52 54 rfl (by decide) rfl ?_
        have L54 : ∀ hd, hd ≤ 25 → Go E 0 0 54 [(6, .int (nI hd)), (5, .int (nI (hsQ Pb (Sg (a - 1)) 5))), (4, .int (oI a)), (3, .int (nI Pb)), (2, .int (nI (tmQ Tl (hsQ Pb (Sg (a - 1)) 5) (a - 1) tt hd))), (0, .ref e0), (1, .ref g0)] [] [ob e0 0 [.ref qx, .ref qa, .ref qw, .int (nI ci), .int (nI bo), .int (oI sh)], aN (eY E) qx 25 Ex, aN (eY E) qw 25 Tl, ob g0 5 [.int (nI c), .int (nI h), .ref qs], aN (eY E) qs 60 Sg] := by
          refine go_for 25 (fun hd => Go E 0 0 54 [(6, .int (nI hd)), (5, .int (nI (hsQ Pb (Sg (a - 1)) 5))), (4, .int (oI a)), (3, .int (nI Pb)), (2, .int (nI (tmQ Tl (hsQ Pb (Sg (a - 1)) 5) (a - 1) tt hd))), (0, .ref e0), (1, .ref g0)] [] [ob e0 0 [.ref qx, .ref qa, .ref qw, .int (nI ci), .int (nI bo), .int (oI sh)], aN (eY E) qx 25 Ex, aN (eY E) qw 25 Tl, ob g0 5 [.int (nI c), .int (nI h), .ref qs], aN (eY E) qs 60 Sg]) (fun hd hi_hd ih_hd => ?_)
          have hQ := tmQ_le (M := 2 ^ 21) (Tl := Tl) (i := a - 1) (fun k => by have := hT k; omega) (sh := hsQ Pb (Sg (a - 1)) 5) htt hd
          have hT1 := hT hd
          refine g_iload C dX0_topFrom_54 56 rfl 0 rfl ?_
          refine g_bipush (v := nI 25) C dX0_topFrom_56 (by decide) 58 rfl ?_
          refine g_icmp_ge (X := 25 ≤ hd) C dX0_topFrom_58 92 (by decide) 61 rfl (nI_leI (by omega) (by omega)) ?_ ?_
          · intro h58
            have x_hd : hd = 25 := by omega
            try rw [x_hd]
            refine g_aload_n C dX0_topFrom_92 rfl 93 rfl 5 rfl ?_
            refine g_iload_n C dX0_topFrom_93 rfl 94 rfl 3 rfl ?_
            refine g_aload_n C dX0_topFrom_94 rfl 95 rfl 6 rfl ?_
            refine g_getN C iX5 3 rfl rfl 2 (by decide) (nf_RX0_112 C.2.2.1 _) rfl dX0_topFrom_95 98 rfl ?_
            refine g_iload C dX0_topFrom_98 100 rfl 2 rfl ?_
            refine go_st (show Value.int (oI a) = .int (nI (a - 1)) from by rw [oI_pos (by omega)]) ?_
            refine g_iald (i := (a - 1)) C 4 rfl (by omega) (by decide) dX0_topFrom_100 101 rfl ?_
            refine g_cVi (ws2 := [ob e0 0 [.ref qx, .ref qa, .ref qw, .int (nI ci), .int (nI bo), .int (oI sh)], aN (eY E) qx 25 Ex, aN (eY E) qw 25 Tl, ob g0 5 [.int (nI c), .int (nI h), .ref qs], aN (eY E) qs 60 Sg]) (As := [.int (nI Pb), .int (nI (Sg (a - 1)))]) (st := []) (wsc := [ob e0 0 [.ref qx, .ref qa, .ref qw, .int (nI ci), .int (nI bo), .int (oI sh)], aN (eY E) qx 25 Ex]) (wr := [aN (eY E) qw 25 Tl, ob g0 5 [.int (nI c), .int (nI h), .ref qs], aN (eY E) qs 60 Sg]) C (c_X0_allExits (eL E) (eD E) (eY E) e0 qx qa qw ci bo sh Ex Pb (Sg (a - 1)) (by omega) (by omega)) 2 gX0_topFrom_X0_allExits rfl (by decide +kernel) (by decide) ⟨Nat.zero_le _, Nat.zero_le _⟩ rfl 0 rfl rfl rfl (Nat.le_of_ble_eq_true rfl) [0, 1] [2, 3, 4] [3, 4, 0, 1, 2] rfl rfl (by decide) (by decide) rfl (by decide) dX0_topFrom_101 104 rfl ?_
            refine g_istore_n (lv' := [(3, .int (nI (aeQ Ex Pb (Sg (a - 1)) 5))), (6, .int (nI 25)), (5, .int (nI (hsQ Pb (Sg (a - 1)) 5))), (4, .int (oI a)), (2, .int (nI (tmQ Tl (hsQ Pb (Sg (a - 1)) 5) (a - 1) tt 25))), (0, .ref e0), (1, .ref g0)]) C dX0_topFrom_104 rfl 105 rfl (by decide) rfl ?_
            rw [show oI a = oI ((a - 1) + 1) from by rw [show a - 1 + 1 = a from by omega]]
            refine g_idec (lv' := [(4, .int (oI (a - 1))), (3, .int (nI (aeQ Ex Pb (Sg (a - 1)) 5))), (6, .int (nI 25)), (5, .int (nI (hsQ Pb (Sg (a - 1)) 5))), (2, .int (nI (tmQ Tl (hsQ Pb (Sg (a - 1)) 5) (a - 1) tt 25))), (0, .ref e0), (1, .ref g0)]) C dX0_topFrom_105 108 rfl 3 rfl (by decide) rfl ?_
            refine g_goto C dX0_topFrom_108 20 (by decide) ?_
            refine go_lv (lv' := [(4, .int (oI (a - 1))), (3, .int (nI (aeQ Ex Pb (Sg (a - 1)) 5))), (2, .int (nI (tmQ Tl (hsQ Pb (Sg (a - 1)) 5) (a - 1) tt 25))), (0, .ref e0), (1, .ref g0)]) [0, 1, 4, 5, 6] rfl ?_
            exact ih_a (a - 1) (by omega) (aeQ Ex Pb (Sg (a - 1)) 5) (tmQ Tl (hsQ Pb (Sg (a - 1)) 5) (a - 1) tt 25) (by omega) (by exact aeQ_lt hEx _ _ _) (by exact tmQ_le (fun k => by have := hT k; omega) htt 25) (by rw [← hF, tpF_pos (a := a) (by omega), if_pos h46])
          · intro h58
            refine g_iload C dX0_topFrom_61 63 rfl 1 rfl ?_
            refine g_iload C dX0_topFrom_63 65 rfl 0 rfl ?_
            refine g_cSNi (ws2 := [ob e0 0 [.ref qx, .ref qa, .ref qw, .int (nI ci), .int (nI bo), .int (oI sh)], aN (eY E) qx 25 Ex, aN (eY E) qw 25 Tl, ob g0 5 [.int (nI c), .int (nI h), .ref qs], aN (eY E) qs 60 Sg]) (As := [.int (nI (hsQ Pb (Sg (a - 1)) 5)), .int (nI hd)]) (st := []) (wsc := []) (wr := [ob e0 0 [.ref qx, .ref qa, .ref qw, .int (nI ci), .int (nI bo), .int (oI sh)], aN (eY E) qx 25 Ex, aN (eY E) qw 25 Tl, ob g0 5 [.int (nI c), .int (nI h), .ref qs], aN (eY E) qs 60 Sg]) C (c_X6_hasBit (eL E) (eD E) (eY E) (hsQ Pb (Sg (a - 1)) 5) hd (by omega) (by omega)) 2 ggX0_topFrom_X6_hasBit (nm_RX0_84 C.2.2.1) (List.mem_of_getElem? (i := 13) rfl) (List.mem_of_getElem? (i := 12) rfl) rfl (by decide +kernel) (by decide) ⟨Nat.zero_le _, Nat.zero_le _⟩ rfl rfl (Nat.le_of_ble_eq_true rfl) [] [0, 1, 2, 3, 4] [0, 1, 2, 3, 4] rfl rfl (by decide) (by decide) rfl (by decide) dX0_topFrom_65 68 rfl ?_
            refine g_if_eq (X := (hsQ Pb (Sg (a - 1)) 5).testBit hd = false) C dX0_topFrom_68 86 (by decide) 71 rfl (bI_eq0 _) ?_ ?_
            · intro h68
              refine g_iinc (lv' := [(6, .int (nI (hd + 1))), (5, .int (nI (hsQ Pb (Sg (a - 1)) 5))), (4, .int (oI a)), (3, .int (nI Pb)), (2, .int (nI (tmQ Tl (hsQ Pb (Sg (a - 1)) 5) (a - 1) tt hd))), (0, .ref e0), (1, .ref g0)]) C dX0_topFrom_86 89 rfl 0 rfl (by decide) rfl ?_
              refine g_goto C dX0_topFrom_89 54 (by decide) ?_
              have e_2 : (tmQ Tl (hsQ Pb (Sg (a - 1)) 5) (a - 1) tt (hd + 1)) = (tmQ Tl (hsQ Pb (Sg (a - 1)) 5) (a - 1) tt hd) := by first | with_reducible rfl | (simp only [tmQ, h68, Bool.false_eq_true, reduceIte])
              refine go_eq (lv' := [(6, .int (nI (hd + 1))), (5, .int (nI (hsQ Pb (Sg (a - 1)) 5))), (4, .int (oI a)), (3, .int (nI Pb)), (2, .int (nI (tmQ Tl (hsQ Pb (Sg (a - 1)) 5) (a - 1) tt (hd + 1)))), (0, .ref e0), (1, .ref g0)]) (ws' := [ob e0 0 [.ref qx, .ref qa, .ref qw, .int (nI ci), .int (nI bo), .int (oI sh)], aN (eY E) qx 25 Ex, aN (eY E) qw 25 Tl, ob g0 5 [.int (nI c), .int (nI h), .ref qs], aN (eY E) qs 60 Sg]) (by first | with_reducible rfl | (simp only [e_2, oI_s, oI_0, bI_1, bI_0, and_self, reduceIte]; done)) rfl (by first | with_reducible rfl | (simp only [oI_s, oI_0, bI_1, bI_0, and_self, reduceIte]; done) | rfl) ?_
              exact ih_hd (by omega)
            · intro h68
              have h68 : (hsQ Pb (Sg (a - 1)) 5).testBit hd = true := by simpa using h68
              refine g_iload_n C dX0_topFrom_71 rfl 72 rfl 4 rfl ?_
              refine g_iload C dX0_topFrom_72 74 rfl 2 rfl ?_
              refine g_aload_n C dX0_topFrom_74 rfl 75 rfl 5 rfl ?_
              refine g_get C iX0 0 rfl rfl 2 (by decide) (C.1.2.2.2.2 (.fieldLink RX0 18 "StackRuns$Heads" "tallest" "[I") (List.mem_of_getElem? (i := 2) rfl)) rfl dX0_topFrom_75 78 rfl ?_
              refine g_iload C dX0_topFrom_78 80 rfl 0 rfl ?_
              refine g_iald (i := hd) C 2 rfl (by omega) (by decide) dX0_topFrom_80 81 rfl ?_
              refine go_eq rfl (st' := [.int (nI (Tl hd)), .int (nI (a - 1)), .int (nI (tmQ Tl (hsQ Pb (Sg (a - 1)) 5) (a - 1) tt hd))]) (by rw [oI_pos (by omega)]) rfl ?_
              refine g_iadd (z := nI ((a - 1) + (Tl hd))) C dX0_topFrom_81 82 rfl (nI_add _ _) ?_
              refine g_max C (List.mem_of_getElem? (i := 3) rfl) (List.mem_of_getElem? (i := 4) rfl) (List.mem_of_getElem? (i := 5) rfl) (List.mem_of_getElem? (i := 6) rfl) (by decide) (Nat.le_of_ble_eq_true rfl) ⟨Nat.zero_le _, Nat.zero_le _⟩ (by omega) (by omega) dX0_topFrom_82 85 rfl ?_
              refine g_istore_n (lv' := [(2, .int (nI (max (tmQ Tl (hsQ Pb (Sg (a - 1)) 5) (a - 1) tt hd) ((a - 1) + (Tl hd))))), (6, .int (nI hd)), (5, .int (nI (hsQ Pb (Sg (a - 1)) 5))), (4, .int (oI a)), (3, .int (nI Pb)), (0, .ref e0), (1, .ref g0)]) C dX0_topFrom_85 rfl 86 rfl (by decide) rfl ?_
              refine g_iinc (lv' := [(6, .int (nI (hd + 1))), (2, .int (nI (max (tmQ Tl (hsQ Pb (Sg (a - 1)) 5) (a - 1) tt hd) ((a - 1) + (Tl hd))))), (5, .int (nI (hsQ Pb (Sg (a - 1)) 5))), (4, .int (oI a)), (3, .int (nI Pb)), (0, .ref e0), (1, .ref g0)]) C dX0_topFrom_86 89 rfl 1 rfl (by decide) rfl ?_
              refine g_goto C dX0_topFrom_89 54 (by decide) ?_
              refine go_lv (lv' := [(6, .int (nI (hd + 1))), (5, .int (nI (hsQ Pb (Sg (a - 1)) 5))), (4, .int (oI a)), (3, .int (nI Pb)), (2, .int (nI (max (tmQ Tl (hsQ Pb (Sg (a - 1)) 5) (a - 1) tt hd) ((a - 1) + (Tl hd))))), (0, .ref e0), (1, .ref g0)]) [0, 2, 3, 4, 1, 5, 6] rfl ?_
              have e_3 : (tmQ Tl (hsQ Pb (Sg (a - 1)) 5) (a - 1) tt (hd + 1)) = (max (tmQ Tl (hsQ Pb (Sg (a - 1)) 5) (a - 1) tt hd) ((a - 1) + (Tl hd))) := by first | with_reducible rfl | (simp only [tmQ, h68, Bool.false_eq_true, reduceIte])
              refine go_eq (lv' := [(6, .int (nI (hd + 1))), (5, .int (nI (hsQ Pb (Sg (a - 1)) 5))), (4, .int (oI a)), (3, .int (nI Pb)), (2, .int (nI (tmQ Tl (hsQ Pb (Sg (a - 1)) 5) (a - 1) tt (hd + 1)))), (0, .ref e0), (1, .ref g0)]) (ws' := [ob e0 0 [.ref qx, .ref qa, .ref qw, .int (nI ci), .int (nI bo), .int (oI sh)], aN (eY E) qx 25 Ex, aN (eY E) qw 25 Tl, ob g0 5 [.int (nI c), .int (nI h), .ref qs], aN (eY E) qs 60 Sg]) (by first | with_reducible rfl | (simp only [e_3, oI_s, oI_0, bI_1, bI_0, and_self, reduceIte]; done)) rfl (by first | with_reducible rfl | (simp only [oI_s, oI_0, bI_1, bI_0, and_self, reduceIte]; done) | rfl) ?_
              exact ih_hd (by omega)
        have e_4 : (tmQ Tl (hsQ Pb (Sg (a - 1)) 5) (a - 1) tt 0) = tt := by first | with_reducible rfl | (rfl)
        refine go_eq (lv' := [(6, .int (nI 0)), (5, .int (nI (hsQ Pb (Sg (a - 1)) 5))), (4, .int (oI a)), (3, .int (nI Pb)), (2, .int (nI (tmQ Tl (hsQ Pb (Sg (a - 1)) 5) (a - 1) tt 0))), (0, .ref e0), (1, .ref g0)]) (ws' := [ob e0 0 [.ref qx, .ref qa, .ref qw, .int (nI ci), .int (nI bo), .int (oI sh)], aN (eY E) qx 25 Ex, aN (eY E) qw 25 Tl, ob g0 5 [.int (nI c), .int (nI h), .ref qs], aN (eY E) qs 60 Sg]) (by first | with_reducible rfl | (simp only [e_4, oI_s, oI_0, bI_1, bI_0, and_self, reduceIte]; done)) rfl (by first | with_reducible rfl | (simp only [oI_s, oI_0, bI_1, bI_0, and_self, reduceIte]; done) | rfl) ?_
        exact L54 0 (by omega)
      · intro h46
        refine g_iconst (v := (-1)) C dX0_topFrom_49 (by decide) 50 rfl ?_
        have e_5 : (tpF bo Ex Tl Sg h (1 * 2 ^ c) h) = 0 := by first | with_reducible rfl | (rw [← hF, tpF_pos (a := a) (by omega), if_neg h46])
        refine go_eq rfl (st' := [.int (oI (tpF bo Ex Tl Sg h (1 * 2 ^ c) h))]) (ws' := [ob e0 0 [.ref qx, .ref qa, .ref qw, .int (nI ci), .int (nI bo), .int (oI sh)], aN (eY E) qx 25 Ex, aN (eY E) qw 25 Tl, ob g0 5 [.int (nI c), .int (nI h), .ref qs], aN (eY E) qs 60 Sg]) (by first | with_reducible rfl | (simp only [e_5, oI_s, oI_0, bI_1, bI_0, and_self, reduceIte]; done)) (by first | with_reducible rfl | (simp only [e_5, oI_s, oI_0, bI_1, bI_0, and_self, reduceIte]; done)) ?_
        exact hret _ _ dX0_topFrom_50
  exact L20 h (1 * 2 ^ c) h (by omega) (by have := pow_lt_32 hc; omega) (by omega) (by rfl)
