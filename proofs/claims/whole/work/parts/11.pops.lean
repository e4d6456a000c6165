set_option maxHeartbeats 4000000 in
set_option maxRecDepth 100000 in
theorem c_X3_lower (l : Launch) (D : va_G) (cy : Nat → ClassId) (k0 : Nat) (ql : Nat) (sn : Nat) (Cv : Nat → Nat) (i : Nat) (v : Nat) (hC : okf Cv) (hi : i < 125) (hv : v ≤ 1000000000000000 ∨ v = 9000000000000000000) : CoI l yX3_lower wsX3_lower 0 0 D cy [ob k0 3 [.ref ql, .int (oI sn)], aL cy ql 125 Cv] [.ref k0, .int (nI i), .long (lN v)] [ob k0 3 [.ref ql, .int (oI sn)], aL cy ql 125 (lowC Cv i v)] (bI (lowB Cv i v)) := by
  refine met_z (cc := cX3_lower) (maxL := 4) (own := RX3) (lv := [(0, .ref k0), (1, .int (nI i)), (2, .long (lN v))]) (by decide) rfl rfl rfl (Nat.le_of_ble_eq_true rfl) (fun E e1 e2 e3 C hret => ?_)
  subst e1; subst e2; subst e3
  have iX3 : ∀ w ∈ wsX30, w ∈ wsX3_lower := fun _ h => List.mem_cons_of_mem _ (List.mem_append_right _ h)
  have hC1 := hC i
  refine g_lload_n C dX3_lower_0 rfl 1 rfl 2 rfl ?_
  refine g_aload_n C dX3_lower_1 rfl 2 rfl 0 rfl ?_
  refine g_get C iX3 0 rfl rfl 0 (by decide) (C.1.2.2.2.2 (.fieldLink RX3 9 "StackRuns$Pops" "least" "[J") (List.mem_of_getElem? (i := 1) rfl)) rfl dX3_lower_2 5 rfl ?_
  refine g_iload_n C dX3_lower_5 rfl 6 rfl 1 rfl ?_
  refine g_lald (i := i) C 1 rfl (by omega) (by decide) dX3_lower_6 7 rfl ?_
  refine g_lcmp_lt (X := v < Cv i) C dX3_lower_7 rfl dX3_lower_8 13 (by decide) 11 rfl (pk_lLT (by omega) (by omega)) ?_ ?_
  · intro h7
    refine g_aload_n C dX3_lower_13 rfl 14 rfl 0 rfl ?_
    refine g_get C iX3 0 rfl rfl 0 (by decide) (C.1.2.2.2.2 (.fieldLink RX3 9 "StackRuns$Pops" "least" "[J") (List.mem_of_getElem? (i := 1) rfl)) rfl dX3_lower_14 17 rfl ?_
    refine g_iload_n C dX3_lower_17 rfl 18 rfl 1 rfl ?_
    refine g_lload_n C dX3_lower_18 rfl 19 rfl 2 rfl ?_
    refine g_last (ws' := [ob k0 3 [.ref ql, .int (oI sn)], aL (eY E) ql 125 (up Cv i v)]) (i := i) C 1 rfl (by omega) (by decide) dX3_lower_19 20 rfl (upd_L _ _ _) rfl ?_
    refine g_iconst (v := nI 1) C dX3_lower_20 (by decide) 21 rfl ?_
    have e_1 : (lowB Cv i v) = true := by first | with_reducible rfl | (simp [lowC, lowB, *])
    have e_2 : (lowC Cv i v) = (up Cv i v) := by first | with_reducible rfl | (simp [lowC, lowB, *])
    refine go_eq rfl (st' := [.int (bI (lowB Cv i v))]) (ws' := [ob k0 3 [.ref ql, .int (oI sn)], aL (eY E) ql 125 (lowC Cv i v)]) (by first | with_reducible rfl | (simp only [e_1, e_2, oI_s, oI_0, bI_1, bI_0, and_self, reduceIte]; done)) (by first | with_reducible rfl | (simp only [e_1, e_2, oI_s, oI_0, bI_1, bI_0, and_self, reduceIte]; done)) ?_
    exact hret _ _ dX3_lower_21
  · intro h7
    refine g_iconst (v := nI 0) C dX3_lower_11 (by decide) 12 rfl ?_
    have e_3 : (lowB Cv i v) = false := by first | with_reducible rfl | (simp [lowC, lowB, *])
    have e_4 : (lowC Cv i v) = Cv := by first | with_reducible rfl | (simp [lowC, lowB, *])
    refine go_eq rfl (st' := [.int (bI (lowB Cv i v))]) (ws' := [ob k0 3 [.ref ql, .int (oI sn)], aL (eY E) ql 125 (lowC Cv i v)]) (by first | with_reducible rfl | (simp only [e_3, e_4, oI_s, oI_0, bI_1, bI_0, and_self, reduceIte]; done)) (by first | with_reducible rfl | (simp only [e_3, e_4, oI_s, oI_0, bI_1, bI_0, and_self, reduceIte]; done)) ?_
    exact hret _ _ dX3_lower_12
set_option maxHeartbeats 4000000 in
set_option maxRecDepth 100000 in
theorem c_X3_lowerRow (l : Launch) (D : va_G) (cy : Nat → ClassId) (k0 : Nat) (ql : Nat) (sn : Nat) (Cv : Nat → Nat) (h0 : Nat) (n : Nat) (m : Nat) (z : Nat) (st : Nat) (qh : Nat) (qt : Nat) (qp : Nat) (qb : Nat) (base : Nat) (f : Nat) (nx : Nat) (hC : okf Cv) (hn : n ≤ 5) (hb : base + 5 ≤ 125) (hf : f ≤ 1000000000000000 ∨ f = 9000000000000000000) (hx : nx < 25) : CoI l yX3_lowerRow wsX3_lowerRow 2 46 D cy [ob k0 3 [.ref ql, .int (oI sn)], aL cy ql 125 Cv, ob h0 4 [.int (nI n), .int (nI m), .int (nI z), .int (nI st), .ref qh, .ref qt, .ref qp, .ref qb]] [.ref k0, .ref h0, .int (nI base), .long (lN f), .int (nI nx)] [ob k0 3 [.ref ql, .int (oI sn)], aL cy ql 125 (prC Cv base f nx n), ob h0 4 [.int (nI n), .int (nI m), .int (nI z), .int (nI st), .ref qh, .ref qt, .ref qp, .ref qb]] (bI (prB Cv base f nx n)) := by
  refine met_z (cc := cX3_lowerRow) (maxL := 8) (own := RX3) (lv := [(0, .ref k0), (1, .ref h0), (2, .int (nI base)), (3, .long (lN f)), (5, .int (nI nx))]) (by decide) rfl rfl rfl (Nat.le_of_ble_eq_true rfl) (fun E e1 e2 e3 C hret => ?_)
  subst e1; subst e2; subst e3
  have iX3 : ∀ w ∈ wsX30, w ∈ wsX3_lowerRow := fun _ h => List.mem_cons_of_mem _ (List.mem_append_right _ h)
  have iX4 : ∀ w ∈ wsX40, w ∈ wsX3_lowerRow := fun _ h => List.mem_cons_of_mem _ (List.mem_append_left _ (List.mem_append_right _ h))
  refine g_iconst (v := nI 0) C dX3_lowerRow_0 (by decide) 1 rfl ?_
  refine g_istore (lv' := [(6, .int (nI 0)), (0, .ref k0), (1, .ref h0), (2, .int (nI base)), (3, .long (lN f)), (5, .int (nI nx))]) C dX3_lowerRow_1 3 rfl (by decide) rfl ?_
  refine g_iconst (v := nI 0) C dX3_lowerRow_3 (by decide) 4 rfl ?_
  refine g_istore (lv' := [(7, .int (nI 0)), (6, .int (nI 0)), (0, .ref k0), (1, .ref h0), (2, .int (nI base)), (3, .long (lN f)), (5, .int (nI nx))]) C dX3_lowerRow_4 6 rfl (by decide) rfl ?_
  have L6 : ∀ x, x ≤ n → Go E 0 0 6 [(7, .int (nI x)), (6, .int (bI (prB Cv base f nx x))), (0, .ref k0), (1, .ref h0), (2, .int (nI base)), (3, .long (lN f)), (5, .int (nI nx))] [] [ob k0 3 [.ref ql, .int (oI sn)], aL (eY E) ql 125 (prC Cv base f nx x), ob h0 4 [.int (nI n), .int (nI m), .int (nI z), .int (nI st), .ref qh, .ref qt, .ref qp, .ref qb]] := by
    refine go_for n (fun x => Go E 0 0 6 [(7, .int (nI x)), (6, .int (bI (prB Cv base f nx x))), (0, .ref k0), (1, .ref h0), (2, .int (nI base)), (3, .long (lN f)), (5, .int (nI nx))] [] [ob k0 3 [.ref ql, .int (oI sn)], aL (eY E) ql 125 (prC Cv base f nx x), ob h0 4 [.int (nI n), .int (nI m), .int (nI z), .int (nI st), .ref qh, .ref qt, .ref qp, .ref qb]]) (fun x hi_x ih_x => ?_)
    have hX := prC_ok hC base f nx x
    refine g_iload C dX3_lowerRow_6 8 rfl 0 rfl ?_
    refine g_aload_n C dX3_lowerRow_8 rfl 9 rfl 3 rfl ?_
    refine g_getN C iX4 2 rfl rfl 0 (by decide) (nf_RX3_57 C.2.2.1 _) rfl dX3_lowerRow_9 12 rfl ?_
    refine g_icmp_ge (X := n ≤ x) C dX3_lowerRow_12 60 (by decide) 15 rfl (nI_leI (by omega) (by omega)) ?_ ?_
    · intro h12
      have x_x : x = n := by omega
      try rw [x_x]
      refine g_iload C dX3_lowerRow_60 62 rfl 1 rfl ?_
      exact hret _ _ dX3_lowerRow_62
    · intro h12
      refine g_aload_n C dX3_lowerRow_15 rfl 16 rfl 2 rfl ?_
      refine g_iload_n C dX3_lowerRow_16 rfl 17 rfl 4 rfl ?_
      refine g_iload C dX3_lowerRow_17 19 rfl 0 rfl ?_
      refine g_iadd (z := nI (base + x)) C dX3_lowerRow_19 20 rfl (nI_add _ _) ?_
      refine g_lload_n C dX3_lowerRow_20 rfl 21 rfl 5 rfl ?_
      refine g_aload_n C dX3_lowerRow_21 rfl 22 rfl 2 rfl ?_
      refine g_get C iX3 0 rfl rfl 0 (by decide) (C.1.2.2.2.2 (.fieldLink RX3 9 "StackRuns$Pops" "least" "[J") (List.mem_of_getElem? (i := 1) rfl)) rfl dX3_lowerRow_22 25 rfl ?_
      refine g_iload C dX3_lowerRow_25 27 rfl 6 rfl ?_
      refine g_iconst (v := nI 5) C dX3_lowerRow_27 (by decide) 28 rfl ?_
      refine g_imul (z := nI (nx * 5)) C dX3_lowerRow_28 29 rfl (pk_mul _ _) ?_
      refine g_iload C dX3_lowerRow_29 31 rfl 0 rfl ?_
      refine g_iadd (z := nI ((nx * 5) + x)) C dX3_lowerRow_31 32 rfl (nI_add _ _) ?_
      refine g_lald (i := ((nx * 5) + x)) C 1 rfl (by omega) (by decide) dX3_lowerRow_32 33 rfl ?_
      refine g_cSNl (ws2 := [ob k0 3 [.ref ql, .int (oI sn)], aL (eY E) ql 125 (prC Cv base f nx x), ob h0 4 [.int (nI n), .int (nI m), .int (nI z), .int (nI st), .ref qh, .ref qt, .ref qp, .ref qb]]) (As := [.long (lN f), .long (lN ((prC Cv base f nx x) ((nx * 5) + x)))]) (st := [.int (nI (base + x)), .ref k0]) (wsc := []) (wr := [ob k0 3 [.ref ql, .int (oI sn)], aL (eY E) ql 125 (prC Cv base f nx x), ob h0 4 [.int (nI n), .int (nI m), .int (nI z), .int (nI st), .ref qh, .ref qt, .ref qp, .ref qb]]) C (c_X6_sum (eL E) (eD E) (eY E) f ((prC Cv base f nx x) ((nx * 5) + x)) (by exact hf) (by exact hX _)) 2 ggX3_lowerRow_X6_sum (nm_RX3_60 C.2.2.1) (List.mem_of_getElem? (i := 3) rfl) (List.mem_of_getElem? (i := 2) rfl) rfl (by decide +kernel) (by decide) ⟨Nat.zero_le _, Nat.zero_le _⟩ rfl rfl (Nat.le_of_ble_eq_true rfl) [] [0, 1, 2] [0, 1, 2] rfl rfl (by decide) (by decide) rfl (by decide) dX3_lowerRow_33 36 rfl ?_
      refine g_cVi (ws2 := [ob k0 3 [.ref ql, .int (oI sn)], aL (eY E) ql 125 (lowC (prC Cv base f nx x) (base + x) (sm f ((prC Cv base f nx x) ((nx * 5) + x)))), ob h0 4 [.int (nI n), .int (nI m), .int (nI z), .int (nI st), .ref qh, .ref qt, .ref qp, .ref qb]]) (As := [.int (nI (base + x)), .long (lN (sm f ((prC Cv base f nx x) ((nx * 5) + x))))]) (st := []) (wsc := [ob k0 3 [.ref ql, .int (oI sn)], aL (eY E) ql 125 (prC Cv base f nx x)]) (wr := [ob h0 4 [.int (nI n), .int (nI m), .int (nI z), .int (nI st), .ref qh, .ref qt, .ref qp, .ref qb]]) C (c_X3_lower (eL E) (eD E) (eY E) k0 ql sn (prC Cv base f nx x) (base + x) (sm f ((prC Cv base f nx x) ((nx * 5) + x))) (by first | assumption | exact prC_ok (by assumption) _ _ _ _ | exact pbC_ok (by assumption) _ _ _ _ | exact rdC_ok (by assumption) _ | exact itC_ok _) (by omega) (by first | exact sm_ok _ _ | omega)) 2 gX3_lowerRow_X3_lower rfl (by decide +kernel) (by decide) ⟨Nat.zero_le _, Nat.zero_le _⟩ rfl 0 rfl rfl rfl (Nat.le_of_ble_eq_true rfl) [0, 1] [2] [1, 2, 0] rfl rfl (by decide) (by decide) rfl (by decide) dX3_lowerRow_36 39 rfl ?_
      refine g_if_ne (X := lowB (prC Cv base f nx x) (base + x) (sm f ((prC Cv base f nx x) ((nx * 5) + x))) = true) C dX3_lowerRow_39 47 (by decide) 42 rfl (bI_ne0 _) ?_ ?_
      · intro h39
        refine g_iconst (v := nI 1) C dX3_lowerRow_47 (by decide) 48 rfl ?_
        refine g_goto C dX3_lowerRow_48 52 (by decide) ?_
        refine g_istore (lv' := [(6, .int (nI 1)), (7, .int (nI x)), (0, .ref k0), (1, .ref h0), (2, .int (nI base)), (3, .long (lN f)), (5, .int (nI nx))]) C dX3_lowerRow_52 54 rfl (by decide) rfl ?_
        refine g_iinc (lv' := [(7, .int (nI (x + 1))), (6, .int (nI 1)), (0, .ref k0), (1, .ref h0), (2, .int (nI base)), (3, .long (lN f)), (5, .int (nI nx))]) C dX3_lowerRow_54 57 rfl 1 rfl (by decide) rfl ?_
        refine g_goto C dX3_lowerRow_57 6 (by decide) ?_
        have e_1 : (prB Cv base f nx (x + 1)) = true := by first | with_reducible rfl | (simp [prC, prB, *])
        have e_2 : (prC Cv base f nx (x + 1)) = (lowC (prC Cv base f nx x) (base + x) (sm f ((prC Cv base f nx x) ((nx * 5) + x)))) := by first | with_reducible rfl | (simp [prC, prB, *])
        refine go_eq (lv' := [(7, .int (nI (x + 1))), (6, .int (bI (prB Cv base f nx (x + 1)))), (0, .ref k0), (1, .ref h0), (2, .int (nI base)), (3, .long (lN f)), (5, .int (nI nx))]) (ws' := [ob k0 3 [.ref ql, .int (oI sn)], aL (eY E) ql 125 (prC Cv base f nx (x + 1)), ob h0 4 [.int (nI n), .int (nI m), .int (nI z), .int (nI st), .ref qh, .ref qt, .ref qp, .ref qb]]) (by first | with_reducible rfl | (simp only [e_1, oI_s, oI_0, bI_1, bI_0, and_self, reduceIte]; done)) rfl (by first | with_reducible rfl | (simp only [e_2, oI_s, oI_0, bI_1, bI_0, and_self, reduceIte]; done)) ?_
        exact ih_x (by omega)
      · intro h39
        have h39 : lowB (prC Cv base f nx x) (base + x) (sm f ((prC Cv base f nx x) ((nx * 5) + x))) = false := by simpa using h39
        refine g_iload C dX3_lowerRow_42 44 rfl 1 rfl ?_
        refine g_if_eq (X := prB Cv base f nx x = false) C dX3_lowerRow_44 51 (by decide) 47 rfl (bI_eq0 _) ?_ ?_
        · intro h44
          refine g_iconst (v := nI 0) C dX3_lowerRow_51 (by decide) 52 rfl ?_
          refine g_istore (lv' := [(6, .int (nI 0)), (7, .int (nI x)), (0, .ref k0), (1, .ref h0), (2, .int (nI base)), (3, .long (lN f)), (5, .int (nI nx))]) C dX3_lowerRow_52 54 rfl (by decide) rfl ?_
          refine g_iinc (lv' := [(7, .int (nI (x + 1))), (6, .int (nI 0)), (0, .ref k0), (1, .ref h0), (2, .int (nI base)), (3, .long (lN f)), (5, .int (nI nx))]) C dX3_lowerRow_54 57 rfl 1 rfl (by decide) rfl ?_
          refine g_goto C dX3_lowerRow_57 6 (by decide) ?_
          have e_3 : (prB Cv base f nx (x + 1)) = false := by first | with_reducible rfl | (simp [prC, prB, *])
          have e_4 : (prC Cv base f nx (x + 1)) = (lowC (prC Cv base f nx x) (base + x) (sm f ((prC Cv base f nx x) ((nx * 5) + x)))) := by first | with_reducible rfl | (simp [prC, prB, *])
          refine go_eq (lv' := [(7, .int (nI (x + 1))), (6, .int (bI (prB Cv base f nx (x + 1)))), (0, .ref k0), (1, .ref h0), (2, .int (nI base)), (3, .long (lN f)), (5, .int (nI nx))]) (ws' := [ob k0 3 [.ref ql, .int (oI sn)], aL (eY E) ql 125 (prC Cv base f nx (x + 1)), ob h0 4 [.int (nI n), .int (nI m), .int (nI z), .int (nI st), .ref qh, .ref qt, .ref qp, .ref qb]]) (by first | with_reducible rfl | (simp only [e_3, oI_s, oI_0, bI_1, bI_0, and_self, reduceIte]; done)) rfl (by first | with_reducible rfl | (simp only [e_4, oI_s, oI_0, bI_1, bI_0, and_self, reduceIte]; done)) ?_
          exact ih_x (by omega)
        · intro h44
          have h44 : prB Cv base f nx x = true := by simpa using h44
          refine g_iconst (v := nI 1) C dX3_lowerRow_47 (by decide) 48 rfl ?_
          refine g_goto C dX3_lowerRow_48 52 (by decide) ?_
          refine g_istore (lv' := [(6, .int (nI 1)), (7, .int (nI x)), (0, .ref k0), (1, .ref h0), (2, .int (nI base)), (3, .long (lN f)), (5, .int (nI nx))]) C dX3_lowerRow_52 54 rfl (by decide) rfl ?_
          refine g_iinc (lv' := [(7, .int (nI (x + 1))), (6, .int (nI 1)), (0, .ref k0), (1, .ref h0), (2, .int (nI base)), (3, .long (lN f)), (5, .int (nI nx))]) C dX3_lowerRow_54 57 rfl 1 rfl (by decide) rfl ?_
          refine g_goto C dX3_lowerRow_57 6 (by decide) ?_
          have e_5 : (prB Cv base f nx (x + 1)) = true := by first | with_reducible rfl | (simp [prC, prB, *])
          have e_6 : (prC Cv base f nx (x + 1)) = (lowC (prC Cv base f nx x) (base + x) (sm f ((prC Cv base f nx x) ((nx * 5) + x)))) := by first | with_reducible rfl | (simp [prC, prB, *])
          refine go_eq (lv' := [(7, .int (nI (x + 1))), (6, .int (bI (prB Cv base f nx (x + 1)))), (0, .ref k0), (1, .ref h0), (2, .int (nI base)), (3, .long (lN f)), (5, .int (nI nx))]) (ws' := [ob k0 3 [.ref ql, .int (oI sn)], aL (eY E) ql 125 (prC Cv base f nx (x + 1)), ob h0 4 [.int (nI n), .int (nI m), .int (nI z), .int (nI st), .ref qh, .ref qt, .ref qp, .ref qb]]) (by first | with_reducible rfl | (simp only [e_5, oI_s, oI_0, bI_1, bI_0, and_self, reduceIte]; done)) rfl (by first | with_reducible rfl | (simp only [e_6, oI_s, oI_0, bI_1, bI_0, and_self, reduceIte]; done)) ?_
          exact ih_x (by omega)
  have e_7 : (prB Cv base f nx 0) = false := by first | with_reducible rfl | (rfl)
  have e_8 : (prC Cv base f nx 0) = Cv := by first | with_reducible rfl | (rfl)
  refine go_eq (lv' := [(7, .int (nI 0)), (6, .int (bI (prB Cv base f nx 0))), (0, .ref k0), (1, .ref h0), (2, .int (nI base)), (3, .long (lN f)), (5, .int (nI nx))]) (ws' := [ob k0 3 [.ref ql, .int (oI sn)], aL (eY E) ql 125 (prC Cv base f nx 0), ob h0 4 [.int (nI n), .int (nI m), .int (nI z), .int (nI st), .ref qh, .ref qt, .ref qp, .ref qb]]) (by first | with_reducible rfl | (simp only [e_7, oI_s, oI_0, bI_1, bI_0, and_self, reduceIte]; done)) rfl (by first | with_reducible rfl | (simp only [e_8, oI_s, oI_0, bI_1, bI_0, and_self, reduceIte]; done)) ?_
  exact L6 0 (by omega)
set_option maxHeartbeats 4000000 in
set_option maxRecDepth 100000 in
theorem c_X3_lowerBy (l : Launch) (D : va_G) (cy : Nat → ClassId) (k0 : Nat) (ql : Nat) (sn : Nat) (Cv : Nat → Nat) (h0 : Nat) (n : Nat) (m : Nat) (z : Nat) (st : Nat) (qh : Nat) (qt : Nat) (qp : Nat) (qb : Nat) (Hd : Nat → Nat) (To : Nat → Nat) (Tp : Nat → Nat) (Bl : Nat → Nat) (r : Nat) (hC : okf Cv) (hru : ruOK n z Hd To Tp Bl) (hr : r < 30) : CoI l yX3_lowerBy wsX3_lowerBy 3 73 D cy [ob k0 3 [.ref ql, .int (oI sn)], aL cy ql 125 Cv, ob h0 4 [.int (nI n), .int (nI m), .int (nI z), .int (nI st), .ref qh, .ref qt, .ref qp, .ref qb], aN cy qh 30 Hd, aN cy qt 30 To, aO cy qp 30 Tp, aO cy qb 30 Bl] [.ref k0, .ref h0, .int (nI r)] [ob k0 3 [.ref ql, .int (oI sn)], aL cy ql 125 (byC n Hd To Tp Bl Cv r), ob h0 4 [.int (nI n), .int (nI m), .int (nI z), .int (nI st), .ref qh, .ref qt, .ref qp, .ref qb], aN cy qh 30 Hd, aN cy qt 30 To, aO cy qp 30 Tp, aO cy qb 30 Bl] (bI (byB n Hd To Tp Bl Cv r)) := by
  refine met_z (cc := cX3_lowerBy) (maxL := 10) (own := RX3) (lv := [(0, .ref k0), (1, .ref h0), (2, .int (nI r))]) (by decide) rfl rfl rfl (Nat.le_of_ble_eq_true rfl) (fun E e1 e2 e3 C hret => ?_)
  subst e1; subst e2; subst e3
  have iX3 : ∀ w ∈ wsX30, w ∈ wsX3_lowerBy := fun _ h => List.mem_cons_of_mem _ (List.mem_append_right _ h)
  have iX4 : ∀ w ∈ wsX40, w ∈ wsX3_lowerBy := fun _ h => List.mem_cons_of_mem _ (List.mem_append_left _ (List.mem_append_right _ h))
  obtain ⟨hn, hz, hR⟩ := hru
  have hR1 := hR r
  refine g_aload_n C dX3_lowerBy_0 rfl 1 rfl 1 rfl ?_
  refine g_getN C iX4 2 rfl rfl 4 (by decide) (nf_RX3_39 C.2.2.1 _) rfl dX3_lowerBy_1 4 rfl ?_
  refine g_iload_n C dX3_lowerBy_4 rfl 5 rfl 2 rfl ?_
  refine g_iald (i := r) C 3 rfl (by omega) (by decide) dX3_lowerBy_5 6 rfl ?_
  refine g_iconst (v := nI 5) C dX3_lowerBy_6 (by decide) 7 rfl ?_
  refine g_imul (z := nI ((Hd r) * 5)) C dX3_lowerBy_7 8 rfl (pk_mul _ _) ?_
  refine g_istore_n (lv' := [(3, .int (nI ((Hd r) * 5))), (0, .ref k0), (1, .ref h0), (2, .int (nI r))]) C dX3_lowerBy_8 rfl 9 rfl (by decide) rfl ?_
  refine g_aload_n C dX3_lowerBy_9 rfl 10 rfl 2 rfl ?_
  refine g_getN C iX4 2 rfl rfl 6 (by decide) (nf_RX3_43 C.2.2.1 _) rfl dX3_lowerBy_10 13 rfl ?_
  refine g_iload_n C dX3_lowerBy_13 rfl 14 rfl 3 rfl ?_
  refine g_iald (i := r) C 5 rfl (by omega) (by decide) dX3_lowerBy_14 15 rfl ?_
  refine g_iconst (v := (-1)) C dX3_lowerBy_15 (by decide) 16 rfl ?_
  refine g_icmp_ne (X := ¬ Tp r = 0) C dX3_lowerBy_16 33 (by decide) 19 rfl (not_congr (oI_eq (by omega))) ?_ ?_
  · intro h16
    refine g_aload_n C dX3_lowerBy_33 rfl 34 rfl 2 rfl ?_
    refine g_getN C iX4 2 rfl rfl 5 (by decide) (nf_RX3_46 C.2.2.1 _) rfl dX3_lowerBy_34 37 rfl ?_
    refine g_iload_n C dX3_lowerBy_37 rfl 38 rfl 3 rfl ?_
    refine g_iald (i := r) C 4 rfl (by omega) (by decide) dX3_lowerBy_38 39 rfl ?_
    refine g_aload_n C dX3_lowerBy_39 rfl 40 rfl 2 rfl ?_
    refine g_getN C iX4 2 rfl rfl 6 (by decide) (nf_RX3_43 C.2.2.1 _) rfl dX3_lowerBy_40 43 rfl ?_
    refine g_iload_n C dX3_lowerBy_43 rfl 44 rfl 3 rfl ?_
    refine g_iald (i := r) C 5 rfl (by omega) (by decide) dX3_lowerBy_44 45 rfl ?_
    refine go_eq rfl (st' := [.int (nI ((Tp r) - 1)), .int (nI (To r))]) (ws' := [ob k0 3 [.ref ql, .int (oI sn)], aL (eY E) ql 125 Cv, ob h0 4 [.int (nI n), .int (nI m), .int (nI z), .int (nI st), .ref qh, .ref qt, .ref qp, .ref qb], aN (eY E) qh 30 Hd, aN (eY E) qt 30 To, aO (eY E) qp 30 Tp, aO (eY E) qb 30 Bl]) (by rw [oI_pos (a := (Tp r)) (by omega)]) (by rfl) ?_
    refine g_cSNi (ws2 := [ob k0 3 [.ref ql, .int (oI sn)], aL (eY E) ql 125 Cv, ob h0 4 [.int (nI n), .int (nI m), .int (nI z), .int (nI st), .ref qh, .ref qt, .ref qp, .ref qb], aN (eY E) qh 30 Hd, aN (eY E) qt 30 To, aO (eY E) qp 30 Tp, aO (eY E) qb 30 Bl]) (As := [.int (nI (To r)), .int (nI ((Tp r) - 1))]) (st := []) (wsc := []) (wr := [ob k0 3 [.ref ql, .int (oI sn)], aL (eY E) ql 125 Cv, ob h0 4 [.int (nI n), .int (nI m), .int (nI z), .int (nI st), .ref qh, .ref qt, .ref qp, .ref qb], aN (eY E) qh 30 Hd, aN (eY E) qt 30 To, aO (eY E) qp 30 Tp, aO (eY E) qb 30 Bl]) C (c_X6_headOf (eL E) (eD E) (eY E) (To r) ((Tp r) - 1) ) 2 ggX3_lowerBy_X6_headOf (nm_RX3_53 C.2.2.1) (List.mem_of_getElem? (i := 9) rfl) (List.mem_of_getElem? (i := 8) rfl) rfl (by decide +kernel) (by decide) ⟨Nat.zero_le _, Nat.zero_le _⟩ rfl rfl (Nat.le_of_ble_eq_true rfl) [] [0, 1, 2, 3, 4, 5, 6] [0, 1, 2, 3, 4, 5, 6] rfl rfl (by decide) (by decide) rfl (by decide) dX3_lowerBy_45 48 rfl ?_
    refine g_iconst (v := nI 5) C dX3_lowerBy_48 (by decide) 49 rfl ?_
    refine g_imul (z := nI (((To r) * 5 + ((Tp r) - 1)) * 5)) C dX3_lowerBy_49 50 rfl (pk_mul _ _) ?_
    refine g_istore (lv' := [(4, .int (nI (((To r) * 5 + ((Tp r) - 1)) * 5))), (3, .int (nI ((Hd r) * 5))), (0, .ref k0), (1, .ref h0), (2, .int (nI r))]) C dX3_lowerBy_50 52 rfl (by decide) rfl ?_
    refine g_iconst (v := nI 0) C dX3_lowerBy_52 (by decide) 53 rfl ?_
    refine g_istore (lv' := [(5, .int (nI 0)), (4, .int (nI (((To r) * 5 + ((Tp r) - 1)) * 5))), (3, .int (nI ((Hd r) * 5))), (0, .ref k0), (1, .ref h0), (2, .int (nI r))]) C dX3_lowerBy_53 55 rfl (by decide) rfl ?_
    refine g_iconst (v := nI 0) C dX3_lowerBy_55 (by decide) 56 rfl ?_
    refine g_istore (lv' := [(6, .int (nI 0)), (5, .int (nI 0)), (4, .int (nI (((To r) * 5 + ((Tp r) - 1)) * 5))), (3, .int (nI ((Hd r) * 5))), (0, .ref k0), (1, .ref h0), (2, .int (nI r))]) C dX3_lowerBy_56 58 rfl (by decide) rfl ?_
    have L58 : ∀ x, x ≤ n → Go E 0 0 58 [(6, .int (nI x)), (5, .int (bI (pbB n Cv ((Hd r) * 5) ((((To r) * 5) + ((Tp r) - 1)) * 5) (Bl r) x))), (4, .int (nI (((To r) * 5 + ((Tp r) - 1)) * 5))), (3, .int (nI ((Hd r) * 5))), (0, .ref k0), (1, .ref h0), (2, .int (nI r))] [] [ob k0 3 [.ref ql, .int (oI sn)], aL (eY E) ql 125 (pbC n Cv ((Hd r) * 5) ((((To r) * 5) + ((Tp r) - 1)) * 5) (Bl r) x), ob h0 4 [.int (nI n), .int (nI m), .int (nI z), .int (nI st), .ref qh, .ref qt, .ref qp, .ref qb], aN (eY E) qh 30 Hd, aN (eY E) qt 30 To, aO (eY E) qp 30 Tp, aO (eY E) qb 30 Bl] := by
      refine go_for n (fun x => Go E 0 0 58 [(6, .int (nI x)), (5, .int (bI (pbB n Cv ((Hd r) * 5) ((((To r) * 5) + ((Tp r) - 1)) * 5) (Bl r) x))), (4, .int (nI (((To r) * 5 + ((Tp r) - 1)) * 5))), (3, .int (nI ((Hd r) * 5))), (0, .ref k0), (1, .ref h0), (2, .int (nI r))] [] [ob k0 3 [.ref ql, .int (oI sn)], aL (eY E) ql 125 (pbC n Cv ((Hd r) * 5) ((((To r) * 5) + ((Tp r) - 1)) * 5) (Bl r) x), ob h0 4 [.int (nI n), .int (nI m), .int (nI z), .int (nI st), .ref qh, .ref qt, .ref qp, .ref qb], aN (eY E) qh 30 Hd, aN (eY E) qt 30 To, aO (eY E) qp 30 Tp, aO (eY E) qb 30 Bl]) (fun x hi_x ih_x => ?_)
      have hX := pbC_ok (n := n) hC ((Hd r) * 5) ((((To r) * 5) + ((Tp r) - 1)) * 5) (Bl r) x
      refine g_iload C dX3_lowerBy_58 60 rfl 0 rfl ?_
      refine g_aload_n C dX3_lowerBy_60 rfl 61 rfl 5 rfl ?_
      refine g_getN C iX4 2 rfl rfl 0 (by decide) (nf_RX3_57 C.2.2.1 _) rfl dX3_lowerBy_61 64 rfl ?_
      refine g_icmp_ge (X := n ≤ x) C dX3_lowerBy_64 159 (by decide) 67 rfl (nI_leI (by omega) (by omega)) ?_ ?_
      · intro h64
        have x_x : x = n := by omega
        try rw [x_x]
        refine g_iload C dX3_lowerBy_159 161 rfl 1 rfl ?_
        have e_1 : (byB n Hd To Tp Bl Cv r) = (pbB n Cv ((Hd r) * 5) ((((To r) * 5) + ((Tp r) - 1)) * 5) (Bl r) n) := by first | with_reducible rfl | (simp [byC, byB, *])
        have e_2 : (byC n Hd To Tp Bl Cv r) = (pbC n Cv ((Hd r) * 5) ((((To r) * 5) + ((Tp r) - 1)) * 5) (Bl r) n) := by first | with_reducible rfl | (simp [byC, byB, *])
        refine go_eq rfl (st' := [.int (bI (byB n Hd To Tp Bl Cv r))]) (ws' := [ob k0 3 [.ref ql, .int (oI sn)], aL (eY E) ql 125 (byC n Hd To Tp Bl Cv r), ob h0 4 [.int (nI n), .int (nI m), .int (nI z), .int (nI st), .ref qh, .ref qt, .ref qp, .ref qb], aN (eY E) qh 30 Hd, aN (eY E) qt 30 To, aO (eY E) qp 30 Tp, aO (eY E) qb 30 Bl]) (by first | with_reducible rfl | (simp only [e_1, e_2, oI_s, oI_0, bI_1, bI_0, and_self, reduceIte]; done)) (by first | with_reducible rfl | (simp only [e_1, e_2, oI_s, oI_0, bI_1, bI_0, and_self, reduceIte]; done)) ?_
        exact hret _ _ dX3_lowerBy_161
      · intro h64
        refine g_lconst (v := lN 1) C dX3_lowerBy_67 (by decide) 68 rfl ?_
        refine g_aload_n C dX3_lowerBy_68 rfl 69 rfl 4 rfl ?_
        refine g_get C iX3 0 rfl rfl 0 (by decide) (C.1.2.2.2.2 (.fieldLink RX3 9 "StackRuns$Pops" "least" "[J") (List.mem_of_getElem? (i := 1) rfl)) rfl dX3_lowerBy_69 72 rfl ?_
        refine g_iload C dX3_lowerBy_72 74 rfl 2 rfl ?_
        refine g_iload C dX3_lowerBy_74 76 rfl 0 rfl ?_
        refine g_iadd (z := nI ((((To r) * 5 + ((Tp r) - 1)) * 5) + x)) C dX3_lowerBy_76 77 rfl (nI_add _ _) ?_
        refine g_lald (i := ((((To r) * 5 + ((Tp r) - 1)) * 5) + x)) C 1 rfl (by omega) (by decide) dX3_lowerBy_77 78 rfl ?_
        refine g_cSNl (ws2 := [ob k0 3 [.ref ql, .int (oI sn)], aL (eY E) ql 125 (pbC n Cv ((Hd r) * 5) ((((To r) * 5) + ((Tp r) - 1)) * 5) (Bl r) x), ob h0 4 [.int (nI n), .int (nI m), .int (nI z), .int (nI st), .ref qh, .ref qt, .ref qp, .ref qb], aN (eY E) qh 30 Hd, aN (eY E) qt 30 To, aO (eY E) qp 30 Tp, aO (eY E) qb 30 Bl]) (As := [.long (lN 1), .long (lN ((pbC n Cv ((Hd r) * 5) ((((To r) * 5) + ((Tp r) - 1)) * 5) (Bl r) x) ((((To r) * 5 + ((Tp r) - 1)) * 5) + x)))]) (st := []) (wsc := []) (wr := [ob k0 3 [.ref ql, .int (oI sn)], aL (eY E) ql 125 (pbC n Cv ((Hd r) * 5) ((((To r) * 5) + ((Tp r) - 1)) * 5) (Bl r) x), ob h0 4 [.int (nI n), .int (nI m), .int (nI z), .int (nI st), .ref qh, .ref qt, .ref qp, .ref qb], aN (eY E) qh 30 Hd, aN (eY E) qt 30 To, aO (eY E) qp 30 Tp, aO (eY E) qb 30 Bl]) C (c_X6_sum (eL E) (eD E) (eY E) 1 ((pbC n Cv ((Hd r) * 5) ((((To r) * 5) + ((Tp r) - 1)) * 5) (Bl r) x) ((((To r) * 5 + ((Tp r) - 1)) * 5) + x)) (by omega) (by exact hX _)) 2 ggX3_lowerBy_X6_sum (nm_RX3_60 C.2.2.1) (List.mem_of_getElem? (i := 9) rfl) (List.mem_of_getElem? (i := 11) rfl) rfl (by decide +kernel) (by decide) ⟨Nat.zero_le _, Nat.zero_le _⟩ rfl rfl (Nat.le_of_ble_eq_true rfl) [] [0, 1, 2, 3, 4, 5, 6] [0, 1, 2, 3, 4, 5, 6] rfl rfl (by decide) (by decide) rfl (by decide) dX3_lowerBy_78 81 rfl ?_
        refine g_lstore (lv' := [(7, .long (lN (sm 1 ((pbC n Cv ((Hd r) * 5) ((((To r) * 5) + ((Tp r) - 1)) * 5) (Bl r) x) ((((To r) * 5 + ((Tp r) - 1)) * 5) + x))))), (6, .int (nI x)), (5, .int (bI (pbB n Cv ((Hd r) * 5) ((((To r) * 5) + ((Tp r) - 1)) * 5) (Bl r) x))), (4, .int (nI (((To r) * 5 + ((Tp r) - 1)) * 5))), (3, .int (nI ((Hd r) * 5))), (0, .ref k0), (1, .ref h0), (2, .int (nI r))]) C dX3_lowerBy_81 83 rfl (by decide) rfl ?_
        refine g_lload C dX3_lowerBy_83 85 rfl 0 rfl ?_
        refine g_ldc2 (v' := (lN 9000000000000000000)) C (C.1.2.2.2.2 (.constantLong RX3 24 (9000000000000000000)) (List.mem_of_getElem? (i := 2) rfl)) (by decide) dX3_lowerBy_85 88 rfl ?_
        refine g_lcmp_eq (X := sm 1 (pbC n Cv ((Hd r) * 5) ((((To r) * 5) + ((Tp r) - 1)) * 5) (Bl r) x (((((To r) * 5) + ((Tp r) - 1)) * 5) + x)) = 9000000000000000000) C dX3_lowerBy_88 rfl dX3_lowerBy_89 153 (by decide) 92 rfl (pk_lEQ (by have := sm_ok 1 (pbC n Cv ((Hd r) * 5) ((((To r) * 5) + ((Tp r) - 1)) * 5) (Bl r) x (((((To r) * 5) + ((Tp r) - 1)) * 5) + x)); omega) (by decide)) ?_ ?_
        · intro h88
          refine g_iinc (lv' := [(6, .int (nI (x + 1))), (7, .long (lN (sm 1 ((pbC n Cv ((Hd r) * 5) ((((To r) * 5) + ((Tp r) - 1)) * 5) (Bl r) x) ((((To r) * 5 + ((Tp r) - 1)) * 5) + x))))), (5, .int (bI (pbB n Cv ((Hd r) * 5) ((((To r) * 5) + ((Tp r) - 1)) * 5) (Bl r) x))), (4, .int (nI (((To r) * 5 + ((Tp r) - 1)) * 5))), (3, .int (nI ((Hd r) * 5))), (0, .ref k0), (1, .ref h0), (2, .int (nI r))]) C dX3_lowerBy_153 156 rfl 1 rfl (by decide) rfl ?_
          refine g_goto C dX3_lowerBy_156 58 (by decide) ?_
          refine go_lv (lv' := [(6, .int (nI (x + 1))), (5, .int (bI (pbB n Cv ((Hd r) * 5) ((((To r) * 5) + ((Tp r) - 1)) * 5) (Bl r) x))), (4, .int (nI (((To r) * 5 + ((Tp r) - 1)) * 5))), (3, .int (nI ((Hd r) * 5))), (0, .ref k0), (1, .ref h0), (2, .int (nI r))]) [0, 2, 3, 4, 5, 6, 7] rfl ?_
          have e_3 : (pbB n Cv ((Hd r) * 5) ((((To r) * 5) + ((Tp r) - 1)) * 5) (Bl r) (x + 1)) = (pbB n Cv ((Hd r) * 5) ((((To r) * 5) + ((Tp r) - 1)) * 5) (Bl r) x) := by first | with_reducible rfl | (simp only [pbC, pbB]; repeat (first | rw [if_pos (by assumption)] | rw [if_neg (by assumption)]); try (first | with_reducible rfl | (simp only [h138, Bool.true_or]; done) | (simp only [h138, h143, Bool.or_self]; done) | (simp only [h138, h143, Bool.or_true, Bool.false_or]; done)))
          have e_4 : (pbC n Cv ((Hd r) * 5) ((((To r) * 5) + ((Tp r) - 1)) * 5) (Bl r) (x + 1)) = (pbC n Cv ((Hd r) * 5) ((((To r) * 5) + ((Tp r) - 1)) * 5) (Bl r) x) := by first | with_reducible rfl | (simp only [pbC, pbB]; repeat (first | rw [if_pos (by assumption)] | rw [if_neg (by assumption)]); try (first | with_reducible rfl | (simp only [h138, Bool.true_or]; done) | (simp only [h138, h143, Bool.or_self]; done) | (simp only [h138, h143, Bool.or_true, Bool.false_or]; done)))
          refine go_eq (lv' := [(6, .int (nI (x + 1))), (5, .int (bI (pbB n Cv ((Hd r) * 5) ((((To r) * 5) + ((Tp r) - 1)) * 5) (Bl r) (x + 1)))), (4, .int (nI (((To r) * 5 + ((Tp r) - 1)) * 5))), (3, .int (nI ((Hd r) * 5))), (0, .ref k0), (1, .ref h0), (2, .int (nI r))]) (ws' := [ob k0 3 [.ref ql, .int (oI sn)], aL (eY E) ql 125 (pbC n Cv ((Hd r) * 5) ((((To r) * 5) + ((Tp r) - 1)) * 5) (Bl r) (x + 1)), ob h0 4 [.int (nI n), .int (nI m), .int (nI z), .int (nI st), .ref qh, .ref qt, .ref qp, .ref qb], aN (eY E) qh 30 Hd, aN (eY E) qt 30 To, aO (eY E) qp 30 Tp, aO (eY E) qb 30 Bl]) (by first | with_reducible rfl | (simp only [e_3, oI_s, oI_0, bI_1, bI_0, and_self, reduceIte]; done)) rfl (by first | with_reducible rfl | (simp only [e_4, oI_s, oI_0, bI_1, bI_0, and_self, reduceIte]; done)) ?_
          exact ih_x (by omega)
        · intro h88
          refine g_aload_n C dX3_lowerBy_92 rfl 93 rfl 6 rfl ?_
          refine g_getN C iX4 2 rfl rfl 7 (by decide) (nf_RX3_64 C.2.2.1 _) rfl dX3_lowerBy_93 96 rfl ?_
          refine g_iload_n C dX3_lowerBy_96 rfl 97 rfl 7 rfl ?_
          refine g_iald (i := r) C 6 rfl (by omega) (by decide) dX3_lowerBy_97 98 rfl ?_
          refine g_iconst (v := (-1)) C dX3_lowerBy_98 (by decide) 99 rfl ?_
          refine g_icmp_ne (X := ¬ Bl r = 0) C dX3_lowerBy_99 115 (by decide) 102 rfl (not_congr (oI_eq (by omega))) ?_ ?_
          · intro h99
            refine g_aload_n C dX3_lowerBy_115 rfl 116 rfl 5 rfl ?_
            refine g_aload_n C dX3_lowerBy_116 rfl 117 rfl 6 rfl ?_
            refine g_iload_n C dX3_lowerBy_117 rfl 118 rfl 4 rfl ?_
            refine g_lload C dX3_lowerBy_118 120 rfl 0 rfl ?_
            refine g_iload C dX3_lowerBy_120 122 rfl 1 rfl ?_
            refine g_aload_n C dX3_lowerBy_122 rfl 123 rfl 6 rfl ?_
            refine g_getN C iX4 2 rfl rfl 7 (by decide) (nf_RX3_64 C.2.2.1 _) rfl dX3_lowerBy_123 126 rfl ?_
            refine g_iload_n C dX3_lowerBy_126 rfl 127 rfl 7 rfl ?_
            refine g_iald (i := r) C 6 rfl (by omega) (by decide) dX3_lowerBy_127 128 rfl ?_
            refine go_eq rfl (st' := [.int (nI ((Bl r) - 1)), .int (nI x), .long (lN (sm 1 ((pbC n Cv ((Hd r) * 5) ((((To r) * 5) + ((Tp r) - 1)) * 5) (Bl r) x) ((((To r) * 5 + ((Tp r) - 1)) * 5) + x)))), .int (nI ((Hd r) * 5)), .ref h0, .ref k0]) (ws' := [ob k0 3 [.ref ql, .int (oI sn)], aL (eY E) ql 125 (pbC n Cv ((Hd r) * 5) ((((To r) * 5) + ((Tp r) - 1)) * 5) (Bl r) x), ob h0 4 [.int (nI n), .int (nI m), .int (nI z), .int (nI st), .ref qh, .ref qt, .ref qp, .ref qb], aN (eY E) qh 30 Hd, aN (eY E) qt 30 To, aO (eY E) qp 30 Tp, aO (eY E) qb 30 Bl]) (by rw [oI_pos (a := (Bl r)) (by omega)]) (by rfl) ?_
            refine g_cSNi (ws2 := [ob k0 3 [.ref ql, .int (oI sn)], aL (eY E) ql 125 (pbC n Cv ((Hd r) * 5) ((((To r) * 5) + ((Tp r) - 1)) * 5) (Bl r) x), ob h0 4 [.int (nI n), .int (nI m), .int (nI z), .int (nI st), .ref qh, .ref qt, .ref qp, .ref qb], aN (eY E) qh 30 Hd, aN (eY E) qt 30 To, aO (eY E) qp 30 Tp, aO (eY E) qb 30 Bl]) (As := [.int (nI x), .int (nI ((Bl r) - 1))]) (st := [.long (lN (sm 1 ((pbC n Cv ((Hd r) * 5) ((((To r) * 5) + ((Tp r) - 1)) * 5) (Bl r) x) ((((To r) * 5 + ((Tp r) - 1)) * 5) + x)))), .int (nI ((Hd r) * 5)), .ref h0, .ref k0]) (wsc := []) (wr := [ob k0 3 [.ref ql, .int (oI sn)], aL (eY E) ql 125 (pbC n Cv ((Hd r) * 5) ((((To r) * 5) + ((Tp r) - 1)) * 5) (Bl r) x), ob h0 4 [.int (nI n), .int (nI m), .int (nI z), .int (nI st), .ref qh, .ref qt, .ref qp, .ref qb], aN (eY E) qh 30 Hd, aN (eY E) qt 30 To, aO (eY E) qp 30 Tp, aO (eY E) qb 30 Bl]) C (c_X6_headOf (eL E) (eD E) (eY E) x ((Bl r) - 1) ) 2 ggX3_lowerBy_X6_headOf (nm_RX3_53 C.2.2.1) (List.mem_of_getElem? (i := 9) rfl) (List.mem_of_getElem? (i := 8) rfl) rfl (by decide +kernel) (by decide) ⟨Nat.zero_le _, Nat.zero_le _⟩ rfl rfl (Nat.le_of_ble_eq_true rfl) [] [0, 1, 2, 3, 4, 5, 6] [0, 1, 2, 3, 4, 5, 6] rfl rfl (by decide) (by decide) rfl (by decide) dX3_lowerBy_128 131 rfl ?_
            refine g_cVi (ws2 := [ob k0 3 [.ref ql, .int (oI sn)], aL (eY E) ql 125 (prC (pbC n Cv ((Hd r) * 5) ((((To r) * 5) + ((Tp r) - 1)) * 5) (Bl r) x) ((Hd r) * 5) (sm 1 ((pbC n Cv ((Hd r) * 5) ((((To r) * 5) + ((Tp r) - 1)) * 5) (Bl r) x) ((((To r) * 5 + ((Tp r) - 1)) * 5) + x))) (x * 5 + ((Bl r) - 1)) n), ob h0 4 [.int (nI n), .int (nI m), .int (nI z), .int (nI st), .ref qh, .ref qt, .ref qp, .ref qb], aN (eY E) qh 30 Hd, aN (eY E) qt 30 To, aO (eY E) qp 30 Tp, aO (eY E) qb 30 Bl]) (As := [.ref h0, .int (nI ((Hd r) * 5)), .long (lN (sm 1 ((pbC n Cv ((Hd r) * 5) ((((To r) * 5) + ((Tp r) - 1)) * 5) (Bl r) x) ((((To r) * 5 + ((Tp r) - 1)) * 5) + x)))), .int (nI (x * 5 + ((Bl r) - 1)))]) (st := []) (wsc := [ob k0 3 [.ref ql, .int (oI sn)], aL (eY E) ql 125 (pbC n Cv ((Hd r) * 5) ((((To r) * 5) + ((Tp r) - 1)) * 5) (Bl r) x), ob h0 4 [.int (nI n), .int (nI m), .int (nI z), .int (nI st), .ref qh, .ref qt, .ref qp, .ref qb]]) (wr := [aN (eY E) qh 30 Hd, aN (eY E) qt 30 To, aO (eY E) qp 30 Tp, aO (eY E) qb 30 Bl]) C (c_X3_lowerRow (eL E) (eD E) (eY E) k0 ql sn (pbC n Cv ((Hd r) * 5) ((((To r) * 5) + ((Tp r) - 1)) * 5) (Bl r) x) h0 n m z st qh qt qp qb ((Hd r) * 5) (sm 1 ((pbC n Cv ((Hd r) * 5) ((((To r) * 5) + ((Tp r) - 1)) * 5) (Bl r) x) ((((To r) * 5 + ((Tp r) - 1)) * 5) + x))) (x * 5 + ((Bl r) - 1)) (by first | assumption | exact prC_ok (by assumption) _ _ _ _ | exact pbC_ok (by assumption) _ _ _ _ | exact rdC_ok (by assumption) _ | exact itC_ok _) (by omega) (by omega) (by first | exact sm_ok _ _ | omega) (by omega)) 4 gX3_lowerBy_X3_lowerRow rfl (by decide +kernel) (by decide) ⟨Nat.zero_le _, Nat.zero_le _⟩ rfl 0 rfl rfl rfl (Nat.le_of_ble_eq_true rfl) [0, 1, 2] [3, 4, 5, 6] [4, 5, 6, 0, 1, 2, 3] rfl rfl (by decide) (by decide) rfl (by decide) dX3_lowerBy_131 134 rfl ?_
            refine g_istore (lv' := [(9, .int (bI (prB (pbC n Cv ((Hd r) * 5) ((((To r) * 5) + ((Tp r) - 1)) * 5) (Bl r) x) ((Hd r) * 5) (sm 1 ((pbC n Cv ((Hd r) * 5) ((((To r) * 5) + ((Tp r) - 1)) * 5) (Bl r) x) ((((To r) * 5 + ((Tp r) - 1)) * 5) + x))) (x * 5 + ((Bl r) - 1)) n))), (7, .long (lN (sm 1 ((pbC n Cv ((Hd r) * 5) ((((To r) * 5) + ((Tp r) - 1)) * 5) (Bl r) x) ((((To r) * 5 + ((Tp r) - 1)) * 5) + x))))), (6, .int (nI x)), (5, .int (bI (pbB n Cv ((Hd r) * 5) ((((To r) * 5) + ((Tp r) - 1)) * 5) (Bl r) x))), (4, .int (nI (((To r) * 5 + ((Tp r) - 1)) * 5))), (3, .int (nI ((Hd r) * 5))), (0, .ref k0), (1, .ref h0), (2, .int (nI r))]) C dX3_lowerBy_134 136 rfl (by decide) rfl ?_
            refine g_iload C dX3_lowerBy_136 138 rfl 0 rfl ?_
            refine g_if_ne (X := prB (pbC n Cv ((Hd r) * 5) ((((To r) * 5) + ((Tp r) - 1)) * 5) (Bl r) x) ((Hd r) * 5) (sm 1 ((pbC n Cv ((Hd r) * 5) ((((To r) * 5) + ((Tp r) - 1)) * 5) (Bl r) x) ((((To r) * 5 + ((Tp r) - 1)) * 5) + x))) (x * 5 + ((Bl r) - 1)) n = true) C dX3_lowerBy_138 146 (by decide) 141 rfl (bI_ne0 _) ?_ ?_
            · intro h138
              refine g_iconst (v := nI 1) C dX3_lowerBy_146 (by decide) 147 rfl ?_
              refine g_goto C dX3_lowerBy_147 151 (by decide) ?_
              refine g_istore (lv' := [(5, .int (nI 1)), (9, .int (bI (prB (pbC n Cv ((Hd r) * 5) ((((To r) * 5) + ((Tp r) - 1)) * 5) (Bl r) x) ((Hd r) * 5) (sm 1 ((pbC n Cv ((Hd r) * 5) ((((To r) * 5) + ((Tp r) - 1)) * 5) (Bl r) x) ((((To r) * 5 + ((Tp r) - 1)) * 5) + x))) (x * 5 + ((Bl r) - 1)) n))), (7, .long (lN (sm 1 ((pbC n Cv ((Hd r) * 5) ((((To r) * 5) + ((Tp r) - 1)) * 5) (Bl r) x) ((((To r) * 5 + ((Tp r) - 1)) * 5) + x))))), (6, .int (nI x)), (4, .int (nI (((To r) * 5 + ((Tp r) - 1)) * 5))), (3, .int (nI ((Hd r) * 5))), (0, .ref k0), (1, .ref h0), (2, .int (nI r))]) C dX3_lowerBy_151 153 rfl (by decide) rfl ?_
              refine g_iinc (lv' := [(6, .int (nI (x + 1))), (5, .int (nI 1)), (9, .int (bI (prB (pbC n Cv ((Hd r) * 5) ((((To r) * 5) + ((Tp r) - 1)) * 5) (Bl r) x) ((Hd r) * 5) (sm 1 ((pbC n Cv ((Hd r) * 5) ((((To r) * 5) + ((Tp r) - 1)) * 5) (Bl r) x) ((((To r) * 5 + ((Tp r) - 1)) * 5) + x))) (x * 5 + ((Bl r) - 1)) n))), (7, .long (lN (sm 1 ((pbC n Cv ((Hd r) * 5) ((((To r) * 5) + ((Tp r) - 1)) * 5) (Bl r) x) ((((To r) * 5 + ((Tp r) - 1)) * 5) + x))))), (4, .int (nI (((To r) * 5 + ((Tp r) - 1)) * 5))), (3, .int (nI ((Hd r) * 5))), (0, .ref k0), (1, .ref h0), (2, .int (nI r))]) C dX3_lowerBy_153 156 rfl 3 rfl (by decide) rfl ?_
              refine g_goto C dX3_lowerBy_156 58 (by decide) ?_
              refine go_lv (lv' := [(6, .int (nI (x + 1))), (5, .int (nI 1)), (4, .int (nI (((To r) * 5 + ((Tp r) - 1)) * 5))), (3, .int (nI ((Hd r) * 5))), (0, .ref k0), (1, .ref h0), (2, .int (nI r))]) [0, 1, 4, 5, 6, 7, 8] rfl ?_
              have e_5 : (pbB n Cv ((Hd r) * 5) ((((To r) * 5) + ((Tp r) - 1)) * 5) (Bl r) (x + 1)) = true := by first | with_reducible rfl | (simp only [pbC, pbB]; repeat (first | rw [if_pos (by assumption)] | rw [if_neg (by assumption)]); try (first | with_reducible rfl | (simp only [h138, Bool.true_or]; done) | (simp only [h138, h143, Bool.or_self]; done) | (simp only [h138, h143, Bool.or_true, Bool.false_or]; done)))
              have e_6 : (pbC n Cv ((Hd r) * 5) ((((To r) * 5) + ((Tp r) - 1)) * 5) (Bl r) (x + 1)) = (prC (pbC n Cv ((Hd r) * 5) ((((To r) * 5) + ((Tp r) - 1)) * 5) (Bl r) x) ((Hd r) * 5) (sm 1 ((pbC n Cv ((Hd r) * 5) ((((To r) * 5) + ((Tp r) - 1)) * 5) (Bl r) x) ((((To r) * 5 + ((Tp r) - 1)) * 5) + x))) (x * 5 + ((Bl r) - 1)) n) := by first | with_reducible rfl | (simp only [pbC, pbB]; repeat (first | rw [if_pos (by assumption)] | rw [if_neg (by assumption)]); try (first | with_reducible rfl | (simp only [h138, Bool.true_or]; done) | (simp only [h138, h143, Bool.or_self]; done) | (simp only [h138, h143, Bool.or_true, Bool.false_or]; done)))
              refine go_eq (lv' := [(6, .int (nI (x + 1))), (5, .int (bI (pbB n Cv ((Hd r) * 5) ((((To r) * 5) + ((Tp r) - 1)) * 5) (Bl r) (x + 1)))), (4, .int (nI (((To r) * 5 + ((Tp r) - 1)) * 5))), (3, .int (nI ((Hd r) * 5))), (0, .ref k0), (1, .ref h0), (2, .int (nI r))]) (ws' := [ob k0 3 [.ref ql, .int (oI sn)], aL (eY E) ql 125 (pbC n Cv ((Hd r) * 5) ((((To r) * 5) + ((Tp r) - 1)) * 5) (Bl r) (x + 1)), ob h0 4 [.int (nI n), .int (nI m), .int (nI z), .int (nI st), .ref qh, .ref qt, .ref qp, .ref qb], aN (eY E) qh 30 Hd, aN (eY E) qt 30 To, aO (eY E) qp 30 Tp, aO (eY E) qb 30 Bl]) (by first | with_reducible rfl | (simp only [e_5, oI_s, oI_0, bI_1, bI_0, and_self, reduceIte]; done)) rfl (by first | with_reducible rfl | (simp only [e_6, oI_s, oI_0, bI_1, bI_0, and_self, reduceIte]; done)) ?_
              exact ih_x (by omega)
            · intro h138
              have h138 : prB (pbC n Cv ((Hd r) * 5) ((((To r) * 5) + ((Tp r) - 1)) * 5) (Bl r) x) ((Hd r) * 5) (sm 1 ((pbC n Cv ((Hd r) * 5) ((((To r) * 5) + ((Tp r) - 1)) * 5) (Bl r) x) ((((To r) * 5 + ((Tp r) - 1)) * 5) + x))) (x * 5 + ((Bl r) - 1)) n = false := by simpa using h138
              refine g_iload C dX3_lowerBy_141 143 rfl 3 rfl ?_
              refine g_if_eq (X := pbB n Cv ((Hd r) * 5) ((((To r) * 5) + ((Tp r) - 1)) * 5) (Bl r) x = false) C dX3_lowerBy_143 150 (by decide) 146 rfl (bI_eq0 _) ?_ ?_
              · intro h143
                refine g_iconst (v := nI 0) C dX3_lowerBy_150 (by decide) 151 rfl ?_
                refine g_istore (lv' := [(5, .int (nI 0)), (9, .int (bI (prB (pbC n Cv ((Hd r) * 5) ((((To r) * 5) + ((Tp r) - 1)) * 5) (Bl r) x) ((Hd r) * 5) (sm 1 ((pbC n Cv ((Hd r) * 5) ((((To r) * 5) + ((Tp r) - 1)) * 5) (Bl r) x) ((((To r) * 5 + ((Tp r) - 1)) * 5) + x))) (x * 5 + ((Bl r) - 1)) n))), (7, .long (lN (sm 1 ((pbC n Cv ((Hd r) * 5) ((((To r) * 5) + ((Tp r) - 1)) * 5) (Bl r) x) ((((To r) * 5 + ((Tp r) - 1)) * 5) + x))))), (6, .int (nI x)), (4, .int (nI (((To r) * 5 + ((Tp r) - 1)) * 5))), (3, .int (nI ((Hd r) * 5))), (0, .ref k0), (1, .ref h0), (2, .int (nI r))]) C dX3_lowerBy_151 153 rfl (by decide) rfl ?_
                refine g_iinc (lv' := [(6, .int (nI (x + 1))), (5, .int (nI 0)), (9, .int (bI (prB (pbC n Cv ((Hd r) * 5) ((((To r) * 5) + ((Tp r) - 1)) * 5) (Bl r) x) ((Hd r) * 5) (sm 1 ((pbC n Cv ((Hd r) * 5) ((((To r) * 5) + ((Tp r) - 1)) * 5) (Bl r) x) ((((To r) * 5 + ((Tp r) - 1)) * 5) + x))) (x * 5 + ((Bl r) - 1)) n))), (7, .long (lN (sm 1 ((pbC n Cv ((Hd r) * 5) ((((To r) * 5) + ((Tp r) - 1)) * 5) (Bl r) x) ((((To r) * 5 + ((Tp r) - 1)) * 5) + x))))), (4, .int (nI (((To r) * 5 + ((Tp r) - 1)) * 5))), (3, .int (nI ((Hd r) * 5))), (0, .ref k0), (1, .ref h0), (2, .int (nI r))]) C dX3_lowerBy_153 156 rfl 3 rfl (by decide) rfl ?_
                refine g_goto C dX3_lowerBy_156 58 (by decide) ?_
                refine go_lv (lv' := [(6, .int (nI (x + 1))), (5, .int (nI 0)), (4, .int (nI (((To r) * 5 + ((Tp r) - 1)) * 5))), (3, .int (nI ((Hd r) * 5))), (0, .ref k0), (1, .ref h0), (2, .int (nI r))]) [0, 1, 4, 5, 6, 7, 8] rfl ?_
                have e_7 : (pbB n Cv ((Hd r) * 5) ((((To r) * 5) + ((Tp r) - 1)) * 5) (Bl r) (x + 1)) = false := by first | with_reducible rfl | (simp only [pbC, pbB]; repeat (first | rw [if_pos (by assumption)] | rw [if_neg (by assumption)]); try (first | with_reducible rfl | (simp only [h138, Bool.true_or]; done) | (simp only [h138, h143, Bool.or_self]; done) | (simp only [h138, h143, Bool.or_true, Bool.false_or]; done)))
                have e_8 : (pbC n Cv ((Hd r) * 5) ((((To r) * 5) + ((Tp r) - 1)) * 5) (Bl r) (x + 1)) = (prC (pbC n Cv ((Hd r) * 5) ((((To r) * 5) + ((Tp r) - 1)) * 5) (Bl r) x) ((Hd r) * 5) (sm 1 ((pbC n Cv ((Hd r) * 5) ((((To r) * 5) + ((Tp r) - 1)) * 5) (Bl r) x) ((((To r) * 5 + ((Tp r) - 1)) * 5) + x))) (x * 5 + ((Bl r) - 1)) n) := by first | with_reducible rfl | (simp only [pbC, pbB]; repeat (first | rw [if_pos (by assumption)] | rw [if_neg (by assumption)]); try (first | with_reducible rfl | (simp only [h138, Bool.true_or]; done) | (simp only [h138, h143, Bool.or_self]; done) | (simp only [h138, h143, Bool.or_true, Bool.false_or]; done)))
                refine go_eq (lv' := [(6, .int (nI (x + 1))), (5, .int (bI (pbB n Cv ((Hd r) * 5) ((((To r) * 5) + ((Tp r) - 1)) * 5) (Bl r) (x + 1)))), (4, .int (nI (((To r) * 5 + ((Tp r) - 1)) * 5))), (3, .int (nI ((Hd r) * 5))), (0, .ref k0), (1, .ref h0), (2, .int (nI r))]) (ws' := [ob k0 3 [.ref ql, .int (oI sn)], aL (eY E) ql 125 (pbC n Cv ((Hd r) * 5) ((((To r) * 5) + ((Tp r) - 1)) * 5) (Bl r) (x + 1)), ob h0 4 [.int (nI n), .int (nI m), .int (nI z), .int (nI st), .ref qh, .ref qt, .ref qp, .ref qb], aN (eY E) qh 30 Hd, aN (eY E) qt 30 To, aO (eY E) qp 30 Tp, aO (eY E) qb 30 Bl]) (by first | with_reducible rfl | (simp only [e_7, oI_s, oI_0, bI_1, bI_0, and_self, reduceIte]; done)) rfl (by first | with_reducible rfl | (simp only [e_8, oI_s, oI_0, bI_1, bI_0, and_self, reduceIte]; done)) ?_
                exact ih_x (by omega)
              · intro h143
                have h143 : pbB n Cv ((Hd r) * 5) ((((To r) * 5) + ((Tp r) - 1)) * 5) (Bl r) x = true := by simpa using h143
                refine g_iconst (v := nI 1) C dX3_lowerBy_146 (by decide) 147 rfl ?_
                refine g_goto C dX3_lowerBy_147 151 (by decide) ?_
                refine g_istore (lv' := [(5, .int (nI 1)), (9, .int (bI (prB (pbC n Cv ((Hd r) * 5) ((((To r) * 5) + ((Tp r) - 1)) * 5) (Bl r) x) ((Hd r) * 5) (sm 1 ((pbC n Cv ((Hd r) * 5) ((((To r) * 5) + ((Tp r) - 1)) * 5) (Bl r) x) ((((To r) * 5 + ((Tp r) - 1)) * 5) + x))) (x * 5 + ((Bl r) - 1)) n))), (7, .long (lN (sm 1 ((pbC n Cv ((Hd r) * 5) ((((To r) * 5) + ((Tp r) - 1)) * 5) (Bl r) x) ((((To r) * 5 + ((Tp r) - 1)) * 5) + x))))), (6, .int (nI x)), (4, .int (nI (((To r) * 5 + ((Tp r) - 1)) * 5))), (3, .int (nI ((Hd r) * 5))), (0, .ref k0), (1, .ref h0), (2, .int (nI r))]) C dX3_lowerBy_151 153 rfl (by decide) rfl ?_
                refine g_iinc (lv' := [(6, .int (nI (x + 1))), (5, .int (nI 1)), (9, .int (bI (prB (pbC n Cv ((Hd r) * 5) ((((To r) * 5) + ((Tp r) - 1)) * 5) (Bl r) x) ((Hd r) * 5) (sm 1 ((pbC n Cv ((Hd r) * 5) ((((To r) * 5) + ((Tp r) - 1)) * 5) (Bl r) x) ((((To r) * 5 + ((Tp r) - 1)) * 5) + x))) (x * 5 + ((Bl r) - 1)) n))), (7, .long (lN (sm 1 ((pbC n Cv ((Hd r) * 5) ((((To r) * 5) + ((Tp r) - 1)) * 5) (Bl r) x) ((((To r) * 5 + ((Tp r) - 1)) * 5) + x))))), (4, .int (nI (((To r) * 5 + ((Tp r) - 1)) * 5))), (3, .int (nI ((Hd r) * 5))), (0, .ref k0), (1, .ref h0), (2, .int (nI r))]) C dX3_lowerBy_153 156 rfl 3 rfl (by decide) rfl ?_
                refine g_goto C dX3_lowerBy_156 58 (by decide) ?_
                refine go_lv (lv' := [(6, .int (nI (x + 1))), (5, .int (nI 1)), (4, .int (nI (((To r) * 5 + ((Tp r) - 1)) * 5))), (3, .int (nI ((Hd r) * 5))), (0, .ref k0), (1, .ref h0), (2, .int (nI r))]) [0, 1, 4, 5, 6, 7, 8] rfl ?_
                have e_9 : (pbB n Cv ((Hd r) * 5) ((((To r) * 5) + ((Tp r) - 1)) * 5) (Bl r) (x + 1)) = true := by first | with_reducible rfl | (simp only [pbC, pbB]; repeat (first | rw [if_pos (by assumption)] | rw [if_neg (by assumption)]); try (first | with_reducible rfl | (simp only [h138, Bool.true_or]; done) | (simp only [h138, h143, Bool.or_self]; done) | (simp only [h138, h143, Bool.or_true, Bool.false_or]; done)))
                have e_10 : (pbC n Cv ((Hd r) * 5) ((((To r) * 5) + ((Tp r) - 1)) * 5) (Bl r) (x + 1)) = (prC (pbC n Cv ((Hd r) * 5) ((((To r) * 5) + ((Tp r) - 1)) * 5) (Bl r) x) ((Hd r) * 5) (sm 1 ((pbC n Cv ((Hd r) * 5) ((((To r) * 5) + ((Tp r) - 1)) * 5) (Bl r) x) ((((To r) * 5 + ((Tp r) - 1)) * 5) + x))) (x * 5 + ((Bl r) - 1)) n) := by first | with_reducible rfl | (simp only [pbC, pbB]; repeat (first | rw [if_pos (by assumption)] | rw [if_neg (by assumption)]); try (first | with_reducible rfl | (simp only [h138, Bool.true_or]; done) | (simp only [h138, h143, Bool.or_self]; done) | (simp only [h138, h143, Bool.or_true, Bool.false_or]; done)))
                refine go_eq (lv' := [(6, .int (nI (x + 1))), (5, .int (bI (pbB n Cv ((Hd r) * 5) ((((To r) * 5) + ((Tp r) - 1)) * 5) (Bl r) (x + 1)))), (4, .int (nI (((To r) * 5 + ((Tp r) - 1)) * 5))), (3, .int (nI ((Hd r) * 5))), (0, .ref k0), (1, .ref h0), (2, .int (nI r))]) (ws' := [ob k0 3 [.ref ql, .int (oI sn)], aL (eY E) ql 125 (pbC n Cv ((Hd r) * 5) ((((To r) * 5) + ((Tp r) - 1)) * 5) (Bl r) (x + 1)), ob h0 4 [.int (nI n), .int (nI m), .int (nI z), .int (nI st), .ref qh, .ref qt, .ref qp, .ref qb], aN (eY E) qh 30 Hd, aN (eY E) qt 30 To, aO (eY E) qp 30 Tp, aO (eY E) qb 30 Bl]) (by first | with_reducible rfl | (simp only [e_9, oI_s, oI_0, bI_1, bI_0, and_self, reduceIte]; done)) rfl (by first | with_reducible rfl | (simp only [e_10, oI_s, oI_0, bI_1, bI_0, and_self, reduceIte]; done)) ?_
                exact ih_x (by omega)
          · intro h99
            have h99 : Bl r = 0 := Decidable.not_not.mp h99
            refine g_aload_n C dX3_lowerBy_102 rfl 103 rfl 5 rfl ?_
            refine g_iload_n C dX3_lowerBy_103 rfl 104 rfl 4 rfl ?_
            refine g_iload C dX3_lowerBy_104 106 rfl 1 rfl ?_
            refine g_iadd (z := nI (((Hd r) * 5) + x)) C dX3_lowerBy_106 107 rfl (nI_add _ _) ?_
            refine g_lload C dX3_lowerBy_107 109 rfl 0 rfl ?_
            refine g_cVi (ws2 := [ob k0 3 [.ref ql, .int (oI sn)], aL (eY E) ql 125 (lowC (pbC n Cv ((Hd r) * 5) ((((To r) * 5) + ((Tp r) - 1)) * 5) (Bl r) x) (((Hd r) * 5) + x) (sm 1 ((pbC n Cv ((Hd r) * 5) ((((To r) * 5) + ((Tp r) - 1)) * 5) (Bl r) x) ((((To r) * 5 + ((Tp r) - 1)) * 5) + x)))), ob h0 4 [.int (nI n), .int (nI m), .int (nI z), .int (nI st), .ref qh, .ref qt, .ref qp, .ref qb], aN (eY E) qh 30 Hd, aN (eY E) qt 30 To, aO (eY E) qp 30 Tp, aO (eY E) qb 30 Bl]) (As := [.int (nI (((Hd r) * 5) + x)), .long (lN (sm 1 ((pbC n Cv ((Hd r) * 5) ((((To r) * 5) + ((Tp r) - 1)) * 5) (Bl r) x) ((((To r) * 5 + ((Tp r) - 1)) * 5) + x))))]) (st := []) (wsc := [ob k0 3 [.ref ql, .int (oI sn)], aL (eY E) ql 125 (pbC n Cv ((Hd r) * 5) ((((To r) * 5) + ((Tp r) - 1)) * 5) (Bl r) x)]) (wr := [ob h0 4 [.int (nI n), .int (nI m), .int (nI z), .int (nI st), .ref qh, .ref qt, .ref qp, .ref qb], aN (eY E) qh 30 Hd, aN (eY E) qt 30 To, aO (eY E) qp 30 Tp, aO (eY E) qb 30 Bl]) C (c_X3_lower (eL E) (eD E) (eY E) k0 ql sn (pbC n Cv ((Hd r) * 5) ((((To r) * 5) + ((Tp r) - 1)) * 5) (Bl r) x) (((Hd r) * 5) + x) (sm 1 ((pbC n Cv ((Hd r) * 5) ((((To r) * 5) + ((Tp r) - 1)) * 5) (Bl r) x) ((((To r) * 5 + ((Tp r) - 1)) * 5) + x))) (by first | assumption | exact prC_ok (by assumption) _ _ _ _ | exact pbC_ok (by assumption) _ _ _ _ | exact rdC_ok (by assumption) _ | exact itC_ok _) (by omega) (by first | exact sm_ok _ _ | omega)) 2 gX3_lowerBy_X3_lower rfl (by decide +kernel) (by decide) ⟨Nat.zero_le _, Nat.zero_le _⟩ rfl 0 rfl rfl rfl (Nat.le_of_ble_eq_true rfl) [0, 1] [2, 3, 4, 5, 6] [5, 6, 0, 1, 2, 3, 4] rfl rfl (by decide) (by decide) rfl (by decide) dX3_lowerBy_109 112 rfl ?_
            refine g_goto C dX3_lowerBy_112 134 (by decide) ?_
            refine g_istore (lv' := [(9, .int (bI (lowB (pbC n Cv ((Hd r) * 5) ((((To r) * 5) + ((Tp r) - 1)) * 5) (Bl r) x) (((Hd r) * 5) + x) (sm 1 ((pbC n Cv ((Hd r) * 5) ((((To r) * 5) + ((Tp r) - 1)) * 5) (Bl r) x) ((((To r) * 5 + ((Tp r) - 1)) * 5) + x)))))), (7, .long (lN (sm 1 ((pbC n Cv ((Hd r) * 5) ((((To r) * 5) + ((Tp r) - 1)) * 5) (Bl r) x) ((((To r) * 5 + ((Tp r) - 1)) * 5) + x))))), (6, .int (nI x)), (5, .int (bI (pbB n Cv ((Hd r) * 5) ((((To r) * 5) + ((Tp r) - 1)) * 5) (Bl r) x))), (4, .int (nI (((To r) * 5 + ((Tp r) - 1)) * 5))), (3, .int (nI ((Hd r) * 5))), (0, .ref k0), (1, .ref h0), (2, .int (nI r))]) C dX3_lowerBy_134 136 rfl (by decide) rfl ?_
            refine g_iload C dX3_lowerBy_136 138 rfl 0 rfl ?_
            refine g_if_ne (X := lowB (pbC n Cv ((Hd r) * 5) ((((To r) * 5) + ((Tp r) - 1)) * 5) (Bl r) x) (((Hd r) * 5) + x) (sm 1 ((pbC n Cv ((Hd r) * 5) ((((To r) * 5) + ((Tp r) - 1)) * 5) (Bl r) x) ((((To r) * 5 + ((Tp r) - 1)) * 5) + x))) = true) C dX3_lowerBy_138 146 (by decide) 141 rfl (bI_ne0 _) ?_ ?_
            · intro h138
              refine g_iconst (v := nI 1) C dX3_lowerBy_146 (by decide) 147 rfl ?_
              refine g_goto C dX3_lowerBy_147 151 (by decide) ?_
              refine g_istore (lv' := [(5, .int (nI 1)), (9, .int (bI (lowB (pbC n Cv ((Hd r) * 5) ((((To r) * 5) + ((Tp r) - 1)) * 5) (Bl r) x) (((Hd r) * 5) + x) (sm 1 ((pbC n Cv ((Hd r) * 5) ((((To r) * 5) + ((Tp r) - 1)) * 5) (Bl r) x) ((((To r) * 5 + ((Tp r) - 1)) * 5) + x)))))), (7, .long (lN (sm 1 ((pbC n Cv ((Hd r) * 5) ((((To r) * 5) + ((Tp r) - 1)) * 5) (Bl r) x) ((((To r) * 5 + ((Tp r) - 1)) * 5) + x))))), (6, .int (nI x)), (4, .int (nI (((To r) * 5 + ((Tp r) - 1)) * 5))), (3, .int (nI ((Hd r) * 5))), (0, .ref k0), (1, .ref h0), (2, .int (nI r))]) C dX3_lowerBy_151 153 rfl (by decide) rfl ?_
              refine g_iinc (lv' := [(6, .int (nI (x + 1))), (5, .int (nI 1)), (9, .int (bI (lowB (pbC n Cv ((Hd r) * 5) ((((To r) * 5) + ((Tp r) - 1)) * 5) (Bl r) x) (((Hd r) * 5) + x) (sm 1 ((pbC n Cv ((Hd r) * 5) ((((To r) * 5) + ((Tp r) - 1)) * 5) (Bl r) x) ((((To r) * 5 + ((Tp r) - 1)) * 5) + x)))))), (7, .long (lN (sm 1 ((pbC n Cv ((Hd r) * 5) ((((To r) * 5) + ((Tp r) - 1)) * 5) (Bl r) x) ((((To r) * 5 + ((Tp r) - 1)) * 5) + x))))), (4, .int (nI (((To r) * 5 + ((Tp r) - 1)) * 5))), (3, .int (nI ((Hd r) * 5))), (0, .ref k0), (1, .ref h0), (2, .int (nI r))]) C dX3_lowerBy_153 156 rfl 3 rfl (by decide) rfl ?_
              refine g_goto C dX3_lowerBy_156 58 (by decide) ?_
              refine go_lv (lv' := [(6, .int (nI (x + 1))), (5, .int (nI 1)), (4, .int (nI (((To r) * 5 + ((Tp r) - 1)) * 5))), (3, .int (nI ((Hd r) * 5))), (0, .ref k0), (1, .ref h0), (2, .int (nI r))]) [0, 1, 4, 5, 6, 7, 8] rfl ?_
              have e_11 : (pbB n Cv ((Hd r) * 5) ((((To r) * 5) + ((Tp r) - 1)) * 5) (Bl r) (x + 1)) = true := by first | with_reducible rfl | (simp only [pbC, pbB]; repeat (first | rw [if_pos (by assumption)] | rw [if_neg (by assumption)]); try (first | with_reducible rfl | (simp only [h138, Bool.true_or]; done) | (simp only [h138, h143, Bool.or_self]; done) | (simp only [h138, h143, Bool.or_true, Bool.false_or]; done)))
              have e_12 : (pbC n Cv ((Hd r) * 5) ((((To r) * 5) + ((Tp r) - 1)) * 5) (Bl r) (x + 1)) = (lowC (pbC n Cv ((Hd r) * 5) ((((To r) * 5) + ((Tp r) - 1)) * 5) (Bl r) x) (((Hd r) * 5) + x) (sm 1 ((pbC n Cv ((Hd r) * 5) ((((To r) * 5) + ((Tp r) - 1)) * 5) (Bl r) x) ((((To r) * 5 + ((Tp r) - 1)) * 5) + x)))) := by first | with_reducible rfl | (simp only [pbC, pbB]; repeat (first | rw [if_pos (by assumption)] | rw [if_neg (by assumption)]); try (first | with_reducible rfl | (simp only [h138, Bool.true_or]; done) | (simp only [h138, h143, Bool.or_self]; done) | (simp only [h138, h143, Bool.or_true, Bool.false_or]; done)))
              refine go_eq (lv' := [(6, .int (nI (x + 1))), (5, .int (bI (pbB n Cv ((Hd r) * 5) ((((To r) * 5) + ((Tp r) - 1)) * 5) (Bl r) (x + 1)))), (4, .int (nI (((To r) * 5 + ((Tp r) - 1)) * 5))), (3, .int (nI ((Hd r) * 5))), (0, .ref k0), (1, .ref h0), (2, .int (nI r))]) (ws' := [ob k0 3 [.ref ql, .int (oI sn)], aL (eY E) ql 125 (pbC n Cv ((Hd r) * 5) ((((To r) * 5) + ((Tp r) - 1)) * 5) (Bl r) (x + 1)), ob h0 4 [.int (nI n), .int (nI m), .int (nI z), .int (nI st), .ref qh, .ref qt, .ref qp, .ref qb], aN (eY E) qh 30 Hd, aN (eY E) qt 30 To, aO (eY E) qp 30 Tp, aO (eY E) qb 30 Bl]) (by first | with_reducible rfl | (simp only [e_11, oI_s, oI_0, bI_1, bI_0, and_self, reduceIte]; done)) rfl (by first | with_reducible rfl | (simp only [e_12, oI_s, oI_0, bI_1, bI_0, and_self, reduceIte]; done)) ?_
              exact ih_x (by omega)
            · intro h138
              have h138 : lowB (pbC n Cv ((Hd r) * 5) ((((To r) * 5) + ((Tp r) - 1)) * 5) (Bl r) x) (((Hd r) * 5) + x) (sm 1 ((pbC n Cv ((Hd r) * 5) ((((To r) * 5) + ((Tp r) - 1)) * 5) (Bl r) x) ((((To r) * 5 + ((Tp r) - 1)) * 5) + x))) = false := by simpa using h138
              refine g_iload C dX3_lowerBy_141 143 rfl 3 rfl ?_
              refine g_if_eq (X := pbB n Cv ((Hd r) * 5) ((((To r) * 5) + ((Tp r) - 1)) * 5) (Bl r) x = false) C dX3_lowerBy_143 150 (by decide) 146 rfl (bI_eq0 _) ?_ ?_
              · intro h143
                refine g_iconst (v := nI 0) C dX3_lowerBy_150 (by decide) 151 rfl ?_
                refine g_istore (lv' := [(5, .int (nI 0)), (9, .int (bI (lowB (pbC n Cv ((Hd r) * 5) ((((To r) * 5) + ((Tp r) - 1)) * 5) (Bl r) x) (((Hd r) * 5) + x) (sm 1 ((pbC n Cv ((Hd r) * 5) ((((To r) * 5) + ((Tp r) - 1)) * 5) (Bl r) x) ((((To r) * 5 + ((Tp r) - 1)) * 5) + x)))))), (7, .long (lN (sm 1 ((pbC n Cv ((Hd r) * 5) ((((To r) * 5) + ((Tp r) - 1)) * 5) (Bl r) x) ((((To r) * 5 + ((Tp r) - 1)) * 5) + x))))), (6, .int (nI x)), (4, .int (nI (((To r) * 5 + ((Tp r) - 1)) * 5))), (3, .int (nI ((Hd r) * 5))), (0, .ref k0), (1, .ref h0), (2, .int (nI r))]) C dX3_lowerBy_151 153 rfl (by decide) rfl ?_
                refine g_iinc (lv' := [(6, .int (nI (x + 1))), (5, .int (nI 0)), (9, .int (bI (lowB (pbC n Cv ((Hd r) * 5) ((((To r) * 5) + ((Tp r) - 1)) * 5) (Bl r) x) (((Hd r) * 5) + x) (sm 1 ((pbC n Cv ((Hd r) * 5) ((((To r) * 5) + ((Tp r) - 1)) * 5) (Bl r) x) ((((To r) * 5 + ((Tp r) - 1)) * 5) + x)))))), (7, .long (lN (sm 1 ((pbC n Cv ((Hd r) * 5) ((((To r) * 5) + ((Tp r) - 1)) * 5) (Bl r) x) ((((To r) * 5 + ((Tp r) - 1)) * 5) + x))))), (4, .int (nI (((To r) * 5 + ((Tp r) - 1)) * 5))), (3, .int (nI ((Hd r) * 5))), (0, .ref k0), (1, .ref h0), (2, .int (nI r))]) C dX3_lowerBy_153 156 rfl 3 rfl (by decide) rfl ?_
                refine g_goto C dX3_lowerBy_156 58 (by decide) ?_
                refine go_lv (lv' := [(6, .int (nI (x + 1))), (5, .int (nI 0)), (4, .int (nI (((To r) * 5 + ((Tp r) - 1)) * 5))), (3, .int (nI ((Hd r) * 5))), (0, .ref k0), (1, .ref h0), (2, .int (nI r))]) [0, 1, 4, 5, 6, 7, 8] rfl ?_
                have e_13 : (pbB n Cv ((Hd r) * 5) ((((To r) * 5) + ((Tp r) - 1)) * 5) (Bl r) (x + 1)) = false := by first | with_reducible rfl | (simp only [pbC, pbB]; repeat (first | rw [if_pos (by assumption)] | rw [if_neg (by assumption)]); try (first | with_reducible rfl | (simp only [h138, Bool.true_or]; done) | (simp only [h138, h143, Bool.or_self]; done) | (simp only [h138, h143, Bool.or_true, Bool.false_or]; done)))
                have e_14 : (pbC n Cv ((Hd r) * 5) ((((To r) * 5) + ((Tp r) - 1)) * 5) (Bl r) (x + 1)) = (lowC (pbC n Cv ((Hd r) * 5) ((((To r) * 5) + ((Tp r) - 1)) * 5) (Bl r) x) (((Hd r) * 5) + x) (sm 1 ((pbC n Cv ((Hd r) * 5) ((((To r) * 5) + ((Tp r) - 1)) * 5) (Bl r) x) ((((To r) * 5 + ((Tp r) - 1)) * 5) + x)))) := by first | with_reducible rfl | (simp only [pbC, pbB]; repeat (first | rw [if_pos (by assumption)] | rw [if_neg (by assumption)]); try (first | with_reducible rfl | (simp only [h138, Bool.true_or]; done) | (simp only [h138, h143, Bool.or_self]; done) | (simp only [h138, h143, Bool.or_true, Bool.false_or]; done)))
                refine go_eq (lv' := [(6, .int (nI (x + 1))), (5, .int (bI (pbB n Cv ((Hd r) * 5) ((((To r) * 5) + ((Tp r) - 1)) * 5) (Bl r) (x + 1)))), (4, .int (nI (((To r) * 5 + ((Tp r) - 1)) * 5))), (3, .int (nI ((Hd r) * 5))), (0, .ref k0), (1, .ref h0), (2, .int (nI r))]) (ws' := [ob k0 3 [.ref ql, .int (oI sn)], aL (eY E) ql 125 (pbC n Cv ((Hd r) * 5) ((((To r) * 5) + ((Tp r) - 1)) * 5) (Bl r) (x + 1)), ob h0 4 [.int (nI n), .int (nI m), .int (nI z), .int (nI st), .ref qh, .ref qt, .ref qp, .ref qb], aN (eY E) qh 30 Hd, aN (eY E) qt 30 To, aO (eY E) qp 30 Tp, aO (eY E) qb 30 Bl]) (by first | with_reducible rfl | (simp only [e_13, oI_s, oI_0, bI_1, bI_0, and_self, reduceIte]; done)) rfl (by first | with_reducible rfl | (simp only [e_14, oI_s, oI_0, bI_1, bI_0, and_self, reduceIte]; done)) ?_
                exact ih_x (by omega)
              · intro h143
                have h143 : pbB n Cv ((Hd r) * 5) ((((To r) * 5) + ((Tp r) - 1)) * 5) (Bl r) x = true := by simpa using h143
                refine g_iconst (v := nI 1) C dX3_lowerBy_146 (by decide) 147 rfl ?_
                refine g_goto C dX3_lowerBy_147 151 (by decide) ?_
                refine g_istore (lv' := [(5, .int (nI 1)), (9, .int (bI (lowB (pbC n Cv ((Hd r) * 5) ((((To r) * 5) + ((Tp r) - 1)) * 5) (Bl r) x) (((Hd r) * 5) + x) (sm 1 ((pbC n Cv ((Hd r) * 5) ((((To r) * 5) + ((Tp r) - 1)) * 5) (Bl r) x) ((((To r) * 5 + ((Tp r) - 1)) * 5) + x)))))), (7, .long (lN (sm 1 ((pbC n Cv ((Hd r) * 5) ((((To r) * 5) + ((Tp r) - 1)) * 5) (Bl r) x) ((((To r) * 5 + ((Tp r) - 1)) * 5) + x))))), (6, .int (nI x)), (4, .int (nI (((To r) * 5 + ((Tp r) - 1)) * 5))), (3, .int (nI ((Hd r) * 5))), (0, .ref k0), (1, .ref h0), (2, .int (nI r))]) C dX3_lowerBy_151 153 rfl (by decide) rfl ?_
                refine g_iinc (lv' := [(6, .int (nI (x + 1))), (5, .int (nI 1)), (9, .int (bI (lowB (pbC n Cv ((Hd r) * 5) ((((To r) * 5) + ((Tp r) - 1)) * 5) (Bl r) x) (((Hd r) * 5) + x) (sm 1 ((pbC n Cv ((Hd r) * 5) ((((To r) * 5) + ((Tp r) - 1)) * 5) (Bl r) x) ((((To r) * 5 + ((Tp r) - 1)) * 5) + x)))))), (7, .long (lN (sm 1 ((pbC n Cv ((Hd r) * 5) ((((To r) * 5) + ((Tp r) - 1)) * 5) (Bl r) x) ((((To r) * 5 + ((Tp r) - 1)) * 5) + x))))), (4, .int (nI (((To r) * 5 + ((Tp r) - 1)) * 5))), (3, .int (nI ((Hd r) * 5))), (0, .ref k0), (1, .ref h0), (2, .int (nI r))]) C dX3_lowerBy_153 156 rfl 3 rfl (by decide) rfl ?_
                refine g_goto C dX3_lowerBy_156 58 (by decide) ?_
                refine go_lv (lv' := [(6, .int (nI (x + 1))), (5, .int (nI 1)), (4, .int (nI (((To r) * 5 + ((Tp r) - 1)) * 5))), (3, .int (nI ((Hd r) * 5))), (0, .ref k0), (1, .ref h0), (2, .int (nI r))]) [0, 1, 4, 5, 6, 7, 8] rfl ?_
                have e_15 : (pbB n Cv ((Hd r) * 5) ((((To r) * 5) + ((Tp r) - 1)) * 5) (Bl r) (x + 1)) = true := by first | with_reducible rfl | (simp only [pbC, pbB]; repeat (first | rw [if_pos (by assumption)] | rw [if_neg (by assumption)]); try (first | with_reducible rfl | (simp only [h138, Bool.true_or]; done) | (simp only [h138, h143, Bool.or_self]; done) | (simp only [h138, h143, Bool.or_true, Bool.false_or]; done)))
                have e_16 : (pbC n Cv ((Hd r) * 5) ((((To r) * 5) + ((Tp r) - 1)) * 5) (Bl r) (x + 1)) = (lowC (pbC n Cv ((Hd r) * 5) ((((To r) * 5) + ((Tp r) - 1)) * 5) (Bl r) x) (((Hd r) * 5) + x) (sm 1 ((pbC n Cv ((Hd r) * 5) ((((To r) * 5) + ((Tp r) - 1)) * 5) (Bl r) x) ((((To r) * 5 + ((Tp r) - 1)) * 5) + x)))) := by first | with_reducible rfl | (simp only [pbC, pbB]; repeat (first | rw [if_pos (by assumption)] | rw [if_neg (by assumption)]); try (first | with_reducible rfl | (simp only [h138, Bool.true_or]; done) | (simp only [h138, h143, Bool.or_self]; done) | (simp only [h138, h143, Bool.or_true, Bool.false_or]; done)))
                refine go_eq (lv' := [(6, .int (nI (x + 1))), (5, .int (bI (pbB n Cv ((Hd r) * 5) ((((To r) * 5) + ((Tp r) - 1)) * 5) (Bl r) (x + 1)))), (4, .int (nI (((To r) * 5 + ((Tp r) - 1)) * 5))), (3, .int (nI ((Hd r) * 5))), (0, .ref k0), (1, .ref h0), (2, .int (nI r))]) (ws' := [ob k0 3 [.ref ql, .int (oI sn)], aL (eY E) ql 125 (pbC n Cv ((Hd r) * 5) ((((To r) * 5) + ((Tp r) - 1)) * 5) (Bl r) (x + 1)), ob h0 4 [.int (nI n), .int (nI m), .int (nI z), .int (nI st), .ref qh, .ref qt, .ref qp, .ref qb], aN (eY E) qh 30 Hd, aN (eY E) qt 30 To, aO (eY E) qp 30 Tp, aO (eY E) qb 30 Bl]) (by first | with_reducible rfl | (simp only [e_15, oI_s, oI_0, bI_1, bI_0, and_self, reduceIte]; done)) rfl (by first | with_reducible rfl | (simp only [e_16, oI_s, oI_0, bI_1, bI_0, and_self, reduceIte]; done)) ?_
                exact ih_x (by omega)
    have e_17 : (pbB n Cv ((Hd r) * 5) ((((To r) * 5) + ((Tp r) - 1)) * 5) (Bl r) 0) = false := by first | with_reducible rfl | (rfl)
    have e_18 : (pbC n Cv ((Hd r) * 5) ((((To r) * 5) + ((Tp r) - 1)) * 5) (Bl r) 0) = Cv := by first | with_reducible rfl | (rfl)
    refine go_eq (lv' := [(6, .int (nI 0)), (5, .int (bI (pbB n Cv ((Hd r) * 5) ((((To r) * 5) + ((Tp r) - 1)) * 5) (Bl r) 0))), (4, .int (nI (((To r) * 5 + ((Tp r) - 1)) * 5))), (3, .int (nI ((Hd r) * 5))), (0, .ref k0), (1, .ref h0), (2, .int (nI r))]) (ws' := [ob k0 3 [.ref ql, .int (oI sn)], aL (eY E) ql 125 (pbC n Cv ((Hd r) * 5) ((((To r) * 5) + ((Tp r) - 1)) * 5) (Bl r) 0), ob h0 4 [.int (nI n), .int (nI m), .int (nI z), .int (nI st), .ref qh, .ref qt, .ref qp, .ref qb], aN (eY E) qh 30 Hd, aN (eY E) qt 30 To, aO (eY E) qp 30 Tp, aO (eY E) qb 30 Bl]) (by first | with_reducible rfl | (simp only [e_17, oI_s, oI_0, bI_1, bI_0, and_self, reduceIte]; done)) rfl (by first | with_reducible rfl | (simp only [e_18, oI_s, oI_0, bI_1, bI_0, and_self, reduceIte]; done)) ?_
    exact L58 0 (by omega)
  · intro h16
    have h16 : Tp r = 0 := Decidable.not_not.mp h16
    refine g_aload_n C dX3_lowerBy_19 rfl 20 rfl 1 rfl ?_
    refine g_iload_n C dX3_lowerBy_20 rfl 21 rfl 0 rfl ?_
    refine g_aload_n C dX3_lowerBy_21 rfl 22 rfl 2 rfl ?_
    refine g_getN C iX4 2 rfl rfl 5 (by decide) (nf_RX3_46 C.2.2.1 _) rfl dX3_lowerBy_22 25 rfl ?_
    refine g_iload_n C dX3_lowerBy_25 rfl 26 rfl 3 rfl ?_
    refine g_iald (i := r) C 4 rfl (by omega) (by decide) dX3_lowerBy_26 27 rfl ?_
    refine g_iadd (z := nI (((Hd r) * 5) + (To r))) C dX3_lowerBy_27 28 rfl (nI_add _ _) ?_
    refine g_lconst (v := lN 1) C dX3_lowerBy_28 (by decide) 29 rfl ?_
    refine g_cVi (ws2 := [ob k0 3 [.ref ql, .int (oI sn)], aL (eY E) ql 125 (lowC Cv (((Hd r) * 5) + (To r)) 1), ob h0 4 [.int (nI n), .int (nI m), .int (nI z), .int (nI st), .ref qh, .ref qt, .ref qp, .ref qb], aN (eY E) qh 30 Hd, aN (eY E) qt 30 To, aO (eY E) qp 30 Tp, aO (eY E) qb 30 Bl]) (As := [.int (nI (((Hd r) * 5) + (To r))), .long (lN 1)]) (st := []) (wsc := [ob k0 3 [.ref ql, .int (oI sn)], aL (eY E) ql 125 Cv]) (wr := [ob h0 4 [.int (nI n), .int (nI m), .int (nI z), .int (nI st), .ref qh, .ref qt, .ref qp, .ref qb], aN (eY E) qh 30 Hd, aN (eY E) qt 30 To, aO (eY E) qp 30 Tp, aO (eY E) qb 30 Bl]) C (c_X3_lower (eL E) (eD E) (eY E) k0 ql sn Cv (((Hd r) * 5) + (To r)) 1 (by first | assumption | exact prC_ok (by assumption) _ _ _ _ | exact pbC_ok (by assumption) _ _ _ _ | exact rdC_ok (by assumption) _ | exact itC_ok _) (by omega) (by first | exact sm_ok _ _ | omega)) 2 gX3_lowerBy_X3_lower rfl (by decide +kernel) (by decide) ⟨Nat.zero_le _, Nat.zero_le _⟩ rfl 0 rfl rfl rfl (Nat.le_of_ble_eq_true rfl) [0, 1] [2, 3, 4, 5, 6] [5, 6, 0, 1, 2, 3, 4] rfl rfl (by decide) (by decide) rfl (by decide) dX3_lowerBy_29 32 rfl ?_
    have e_19 : (byB n Hd To Tp Bl Cv r) = (lowB Cv (((Hd r) * 5) + (To r)) 1) := by first | with_reducible rfl | (simp [byC, byB, *])
    have e_20 : (byC n Hd To Tp Bl Cv r) = (lowC Cv (((Hd r) * 5) + (To r)) 1) := by first | with_reducible rfl | (simp [byC, byB, *])
    refine go_eq rfl (st' := [.int (bI (byB n Hd To Tp Bl Cv r))]) (ws' := [ob k0 3 [.ref ql, .int (oI sn)], aL (eY E) ql 125 (byC n Hd To Tp Bl Cv r), ob h0 4 [.int (nI n), .int (nI m), .int (nI z), .int (nI st), .ref qh, .ref qt, .ref qp, .ref qb], aN (eY E) qh 30 Hd, aN (eY E) qt 30 To, aO (eY E) qp 30 Tp, aO (eY E) qb 30 Bl]) (by first | with_reducible rfl | (simp only [e_19, e_20, oI_s, oI_0, bI_1, bI_0, and_self, reduceIte]; done)) (by first | with_reducible rfl | (simp only [e_19, e_20, oI_s, oI_0, bI_1, bI_0, and_self, reduceIte]; done)) ?_
    exact hret _ _ dX3_lowerBy_32
set_option maxHeartbeats 4000000 in
set_option maxRecDepth 100000 in
theorem c_X3_renew (l : Launch) (D : va_G) (cy : Nat → ClassId) (k0 : Nat) (ql : Nat) (sn : Nat) (Cv : Nat → Nat) (h0 : Nat) (n : Nat) (m : Nat) (z : Nat) (st : Nat) (qh : Nat) (qt : Nat) (qp : Nat) (qb : Nat) (Hd : Nat → Nat) (To : Nat → Nat) (Tp : Nat → Nat) (Bl : Nat → Nat) (hC : okf Cv) (hru : ruOK n z Hd To Tp Bl) (hs : sn < 1000) (hst : st < 1000) : CoV l yX3_renew wsX3_renew 4 102 D cy [ob k0 3 [.ref ql, .int (oI sn)], aL cy ql 125 Cv, ob h0 4 [.int (nI n), .int (nI m), .int (nI z), .int (nI st), .ref qh, .ref qt, .ref qp, .ref qb], aN cy qh 30 Hd, aN cy qt 30 To, aO cy qp 30 Tp, aO cy qb 30 Bl] [.ref k0, .ref h0] [ob k0 3 [.ref ql, .int (oI (st + 1))], aL cy ql 125 (if sn = st + 1 then Cv else itC n z Hd To Tp Bl 126), ob h0 4 [.int (nI n), .int (nI m), .int (nI z), .int (nI st), .ref qh, .ref qt, .ref qp, .ref qb], aN cy qh 30 Hd, aN cy qt 30 To, aO cy qp 30 Tp, aO cy qb 30 Bl] := by
  refine met_v (cc := cX3_renew) (maxL := 5) (own := RX3) (lv := [(0, .ref k0), (1, .ref h0)]) (by decide) rfl rfl rfl (Nat.le_of_ble_eq_true rfl) (fun E e1 e2 e3 C hret => ?_)
  subst e1; subst e2; subst e3
  have iX3 : ∀ w ∈ wsX30, w ∈ wsX3_renew := fun _ h => List.mem_cons_of_mem _ (List.mem_append_left _ (List.mem_append_right _ h))
  have iX4 : ∀ w ∈ wsX40, w ∈ wsX3_renew := fun _ h => List.mem_cons_of_mem _ (List.mem_append_right _ h)
  obtain ⟨hn, hz, hR⟩ := id hru
  refine g_aload_n C dX3_renew_0 rfl 1 rfl 0 rfl ?_
  refine g_get C iX3 0 rfl rfl 1 (by decide) (C.1.2.2.2.2 (.fieldLink RX3 15 "StackRuns$Pops" "seen" "I") (List.mem_of_getElem? (i := 1) rfl)) rfl dX3_renew_1 4 rfl ?_
  refine g_aload_n C dX3_renew_4 rfl 5 rfl 1 rfl ?_
  refine g_getN C iX4 2 rfl rfl 3 (by decide) (nf_RX3_19 C.2.2.1 _) rfl dX3_renew_5 8 rfl ?_
  refine g_icmp_ne (X := ¬ sn = st + 1) C dX3_renew_8 12 (by decide) 11 rfl (not_congr (oI_nI (by omega) (by omega))) ?_ ?_
  · intro h8
    refine g_aload_n C dX3_renew_12 rfl 13 rfl 0 rfl ?_
    refine g_aload_n C dX3_renew_13 rfl 14 rfl 1 rfl ?_
    refine g_getN C iX4 2 rfl rfl 3 (by decide) (nf_RX3_19 C.2.2.1 _) rfl dX3_renew_14 17 rfl ?_
    refine go_st (show Value.int (nI st) = .int (oI (st + 1)) from (by rw [oI_s])) ?_
    refine g_put (ws' := [ob k0 3 [.ref ql, .int (oI (st + 1))], aL (eY E) ql 125 Cv, ob h0 4 [.int (nI n), .int (nI m), .int (nI z), .int (nI st), .ref qh, .ref qt, .ref qp, .ref qb], aN (eY E) qh 30 Hd, aN (eY E) qt 30 To, aO (eY E) qp 30 Tp, aO (eY E) qb 30 Bl]) (ty := .int) C iX3 tyX3_ok nmX3 0 rfl rfl 1 (by decide) (C.1.2.2.2.2 (.fieldLink RX3 15 "StackRuns$Pops" "seen" "I") (List.mem_of_getElem? (i := 1) rfl)) rfl (by decide +kernel) rfl rfl (Nat.le_of_ble_eq_true rfl) dX3_renew_17 20 rfl rfl ?_
    refine g_aload_n C dX3_renew_20 rfl 21 rfl 0 rfl ?_
    refine g_get C iX3 0 rfl rfl 0 (by decide) (C.1.2.2.2.2 (.fieldLink RX3 9 "StackRuns$Pops" "least" "[J") (List.mem_of_getElem? (i := 2) rfl)) rfl dX3_renew_21 24 rfl ?_
    refine g_ldc2 (v' := (lN 9000000000000000000)) C (C.1.2.2.2.2 (.constantLong RX3 24 (9000000000000000000)) (List.mem_of_getElem? (i := 3) rfl)) (by decide) dX3_renew_24 27 rfl ?_
    refine g_cSv (ws2 := [ob k0 3 [.ref ql, .int (oI (st + 1))], aL (eY E) ql 125 (fun _ => 9000000000000000000), ob h0 4 [.int (nI n), .int (nI m), .int (nI z), .int (nI st), .ref qh, .ref qt, .ref qp, .ref qb], aN (eY E) qh 30 Hd, aN (eY E) qt 30 To, aO (eY E) qp 30 Tp, aO (eY E) qb 30 Bl]) (As := [.ref ql, .long (lN 9000000000000000000)]) (st := []) (wsc := [aL (eY E) ql 125 Cv]) (wr := [ob k0 3 [.ref ql, .int (oI (st + 1))], ob h0 4 [.int (nI n), .int (nI m), .int (nI z), .int (nI st), .ref qh, .ref qt, .ref qp, .ref qb], aN (eY E) qh 30 Hd, aN (eY E) qt 30 To, aO (eY E) qp 30 Tp, aO (eY E) qb 30 Bl]) C (c_J7_fill_d0a16 (eL E) (eD E) (eY E) ql 125 Cv 9000000000000000000 (by decide)) 2 gX3_renew_J7_fill_d0a16 rfl (by decide +kernel) (by decide) ⟨Nat.zero_le _, Nat.zero_le _⟩ rfl rfl (Nat.le_of_ble_eq_true rfl) [1] [0, 2, 3, 4, 5, 6] [0, 6, 1, 2, 3, 4, 5] rfl rfl (by decide) (by decide) rfl (by decide) dX3_renew_27 30 rfl ?_
    refine g_iconst (v := nI 1) C dX3_renew_30 (by decide) 31 rfl ?_
    refine g_istore_n (lv' := [(2, .int (nI 1)), (0, .ref k0), (1, .ref h0)]) C dX3_renew_31 rfl 32 rfl (by decide) rfl ?_
    refine g_iconst (v := nI 0) C dX3_renew_32 (by decide) 33 rfl ?_
    refine g_istore_n (lv' := [(3, .int (nI 0)), (2, .int (nI 1)), (0, .ref k0), (1, .ref h0)]) C dX3_renew_33 rfl 34 rfl (by decide) rfl ?_
    have L34 : ∀ t, t ≤ 126 → (0 < t → True) → Go E 0 0 34 [(3, .int (nI t)), (2, .int (bI (itB n z Hd To Tp Bl t))), (0, .ref k0), (1, .ref h0)] [] [ob k0 3 [.ref ql, .int (oI (st + 1))], aL (eY E) ql 125 (itC n z Hd To Tp Bl t), ob h0 4 [.int (nI n), .int (nI m), .int (nI z), .int (nI st), .ref qh, .ref qt, .ref qp, .ref qb], aN (eY E) qh 30 Hd, aN (eY E) qt 30 To, aO (eY E) qp 30 Tp, aO (eY E) qb 30 Bl] := by
      refine go_for 126 (fun t => (0 < t → True) → Go E 0 0 34 [(3, .int (nI t)), (2, .int (bI (itB n z Hd To Tp Bl t))), (0, .ref k0), (1, .ref h0)] [] [ob k0 3 [.ref ql, .int (oI (st + 1))], aL (eY E) ql 125 (itC n z Hd To Tp Bl t), ob h0 4 [.int (nI n), .int (nI m), .int (nI z), .int (nI st), .ref qh, .ref qt, .ref qp, .ref qb], aN (eY E) qh 30 Hd, aN (eY E) qt 30 To, aO (eY E) qp 30 Tp, aO (eY E) qb 30 Bl]) (fun t hi_t ih_t => ?_)
      intro ht
      have hX := itC_ok (n := n) (z := z) (Hd := Hd) (To := To) (Tp := Tp) (Bl := Bl) t
      refine g_iload_n C dX3_renew_34 rfl 35 rfl 1 rfl ?_
      refine g_if_eq (X := itB n z Hd To Tp Bl t = false) C dX3_renew_35 93 (by decide) 38 rfl (bI_eq0 _) ?_ ?_
      · intro h35
        have e_1 : (if sn = st + 1 then Cv else itC n z Hd To Tp Bl 126) = (itC n z Hd To Tp Bl t) := by first | with_reducible rfl | (first | (rw [if_neg (by assumption), itC_stop (t := t) hi_t h35]; done) | (rw [if_neg (by assumption), show t = 126 from by omega]))
        refine go_eq rfl (st' := []) (ws' := [ob k0 3 [.ref ql, .int (oI (st + 1))], aL (eY E) ql 125 (if sn = st + 1 then Cv else itC n z Hd To Tp Bl 126), ob h0 4 [.int (nI n), .int (nI m), .int (nI z), .int (nI st), .ref qh, .ref qt, .ref qp, .ref qb], aN (eY E) qh 30 Hd, aN (eY E) qt 30 To, aO (eY E) qp 30 Tp, aO (eY E) qb 30 Bl]) (by first | with_reducible rfl | (simp only [e_1, oI_s, oI_0, bI_1, bI_0, and_self, reduceIte]; done)) (by first | with_reducible rfl | (simp only [e_1, oI_s, oI_0, bI_1, bI_0, and_self, reduceIte]; done)) ?_
        exact hret _ _ dX3_renew_93
      · intro h35
        have h35 : itB n z Hd To Tp Bl t = true := by simpa using h35
        refine g_iload_n C dX3_renew_38 rfl 39 rfl 0 rfl ?_
        refine g_aload_n C dX3_renew_39 rfl 40 rfl 2 rfl ?_
        refine g_get C iX3 0 rfl rfl 0 (by decide) (C.1.2.2.2.2 (.fieldLink RX3 9 "StackRuns$Pops" "least" "[J") (List.mem_of_getElem? (i := 2) rfl)) rfl dX3_renew_40 43 rfl ?_
        refine g_alenL C 1 rfl dX3_renew_43 44 rfl ?_
        refine g_icmp_gt (X := 125 < t) C dX3_renew_44 93 (by decide) 47 rfl (nI_ltI (by omega) (by omega)) ?_ ?_
        · intro h44
          have e_2 : (if sn = st + 1 then Cv else itC n z Hd To Tp Bl 126) = (itC n z Hd To Tp Bl t) := by first | with_reducible rfl | (first | (rw [if_neg (by assumption), itC_stop (t := t) hi_t h35]; done) | (rw [if_neg (by assumption), show t = 126 from by omega]))
          refine go_eq rfl (st' := []) (ws' := [ob k0 3 [.ref ql, .int (oI (st + 1))], aL (eY E) ql 125 (if sn = st + 1 then Cv else itC n z Hd To Tp Bl 126), ob h0 4 [.int (nI n), .int (nI m), .int (nI z), .int (nI st), .ref qh, .ref qt, .ref qp, .ref qb], aN (eY E) qh 30 Hd, aN (eY E) qt 30 To, aO (eY E) qp 30 Tp, aO (eY E) qb 30 Bl]) (by first | with_reducible rfl | (simp only [e_2, oI_s, oI_0, bI_1, bI_0, and_self, reduceIte]; done)) (by first | with_reducible rfl | (simp only [e_2, oI_s, oI_0, bI_1, bI_0, and_self, reduceIte]; done)) ?_
          exact hret _ _ dX3_renew_93
        · intro h44
          refine g_iconst (v := nI 0) C dX3_renew_47 (by decide) 48 rfl ?_
          refine g_istore_n (lv' := [(2, .int (nI 0)), (3, .int (nI t)), (0, .ref k0), (1, .ref h0)]) C dX3_renew_48 rfl 49 rfl (by decide) rfl ?_
          refine g_iconst (v := nI 0) C dX3_renew_49 (by decide) 50 rfl ?_
          refine g_istore (lv' := [(4, .int (nI 0)), (2, .int (nI 0)), (3, .int (nI t)), (0, .ref k0), (1, .ref h0)]) C dX3_renew_50 52 rfl (by decide) rfl ?_
          have L52 : ∀ r, r ≤ z → Go E 0 0 52 [(4, .int (nI r)), (2, .int (bI (rdB n Hd To Tp Bl (itC n z Hd To Tp Bl t) r))), (3, .int (nI t)), (0, .ref k0), (1, .ref h0)] [] [ob k0 3 [.ref ql, .int (oI (st + 1))], aL (eY E) ql 125 (rdC n Hd To Tp Bl (itC n z Hd To Tp Bl t) r), ob h0 4 [.int (nI n), .int (nI m), .int (nI z), .int (nI st), .ref qh, .ref qt, .ref qp, .ref qb], aN (eY E) qh 30 Hd, aN (eY E) qt 30 To, aO (eY E) qp 30 Tp, aO (eY E) qb 30 Bl] := by
            refine go_for z (fun r => Go E 0 0 52 [(4, .int (nI r)), (2, .int (bI (rdB n Hd To Tp Bl (itC n z Hd To Tp Bl t) r))), (3, .int (nI t)), (0, .ref k0), (1, .ref h0)] [] [ob k0 3 [.ref ql, .int (oI (st + 1))], aL (eY E) ql 125 (rdC n Hd To Tp Bl (itC n z Hd To Tp Bl t) r), ob h0 4 [.int (nI n), .int (nI m), .int (nI z), .int (nI st), .ref qh, .ref qt, .ref qp, .ref qb], aN (eY E) qh 30 Hd, aN (eY E) qt 30 To, aO (eY E) qp 30 Tp, aO (eY E) qb 30 Bl]) (fun r hi_r ih_r => ?_)
            have hY := rdC_ok (n := n) (Hd := Hd) (To := To) (Tp := Tp) (Bl := Bl) hX r
            refine g_iload C dX3_renew_52 54 rfl 0 rfl ?_
            refine g_aload_n C dX3_renew_54 rfl 55 rfl 4 rfl ?_
            refine g_getN C iX4 2 rfl rfl 2 (by decide) (nf_RX3_32 C.2.2.1 _) rfl dX3_renew_55 58 rfl ?_
            refine g_icmp_ge (X := z ≤ r) C dX3_renew_58 87 (by decide) 61 rfl (nI_leI (by omega) (by omega)) ?_ ?_
            · intro h58
              have x_r : r = z := by omega
              try rw [x_r]
              refine g_iinc (lv' := [(3, .int (nI (t + 1))), (4, .int (nI z)), (2, .int (bI (rdB n Hd To Tp Bl (itC n z Hd To Tp Bl t) z))), (0, .ref k0), (1, .ref h0)]) C dX3_renew_87 90 rfl 2 rfl (by decide) rfl ?_
              refine g_goto C dX3_renew_90 34 (by decide) ?_
              refine go_lv (lv' := [(3, .int (nI (t + 1))), (2, .int (bI (rdB n Hd To Tp Bl (itC n z Hd To Tp Bl t) z))), (0, .ref k0), (1, .ref h0)]) [0, 2, 3, 4] rfl ?_
              have e_3 : (itB n z Hd To Tp Bl (t + 1)) = (rdB n Hd To Tp Bl (itC n z Hd To Tp Bl t) z) := by first | with_reducible rfl | (simp [itC, itB, *])
              have e_4 : (itC n z Hd To Tp Bl (t + 1)) = (rdC n Hd To Tp Bl (itC n z Hd To Tp Bl t) z) := by first | with_reducible rfl | (simp [itC, itB, *])
              refine go_eq (lv' := [(3, .int (nI (t + 1))), (2, .int (bI (itB n z Hd To Tp Bl (t + 1)))), (0, .ref k0), (1, .ref h0)]) (ws' := [ob k0 3 [.ref ql, .int (oI (st + 1))], aL (eY E) ql 125 (itC n z Hd To Tp Bl (t + 1)), ob h0 4 [.int (nI n), .int (nI m), .int (nI z), .int (nI st), .ref qh, .ref qt, .ref qp, .ref qb], aN (eY E) qh 30 Hd, aN (eY E) qt 30 To, aO (eY E) qp 30 Tp, aO (eY E) qb 30 Bl]) (by first | with_reducible rfl | (simp only [e_3, oI_s, oI_0, bI_1, bI_0, and_self, reduceIte]; done)) rfl (by first | with_reducible rfl | (simp only [e_4, oI_s, oI_0, bI_1, bI_0, and_self, reduceIte]; done)) ?_
              exact ih_t (by omega) (by intro _; trivial)
            · intro h58
              refine g_aload_n C dX3_renew_61 rfl 62 rfl 3 rfl ?_
              refine g_aload_n C dX3_renew_62 rfl 63 rfl 4 rfl ?_
              refine g_iload C dX3_renew_63 65 rfl 0 rfl ?_
              refine g_cVi (ws2 := [ob k0 3 [.ref ql, .int (oI (st + 1))], aL (eY E) ql 125 (byC n Hd To Tp Bl (rdC n Hd To Tp Bl (itC n z Hd To Tp Bl t) r) r), ob h0 4 [.int (nI n), .int (nI m), .int (nI z), .int (nI st), .ref qh, .ref qt, .ref qp, .ref qb], aN (eY E) qh 30 Hd, aN (eY E) qt 30 To, aO (eY E) qp 30 Tp, aO (eY E) qb 30 Bl]) (As := [.ref h0, .int (nI r)]) (st := []) (wsc := [ob k0 3 [.ref ql, .int (oI (st + 1))], aL (eY E) ql 125 (rdC n Hd To Tp Bl (itC n z Hd To Tp Bl t) r), ob h0 4 [.int (nI n), .int (nI m), .int (nI z), .int (nI st), .ref qh, .ref qt, .ref qp, .ref qb], aN (eY E) qh 30 Hd, aN (eY E) qt 30 To, aO (eY E) qp 30 Tp, aO (eY E) qb 30 Bl]) (wr := []) C (c_X3_lowerBy (eL E) (eD E) (eY E) k0 ql (st + 1) (rdC n Hd To Tp Bl (itC n z Hd To Tp Bl t) r) h0 n m z st qh qt qp qb Hd To Tp Bl r (by first | assumption | exact prC_ok (by assumption) _ _ _ _ | exact pbC_ok (by assumption) _ _ _ _ | exact rdC_ok (by assumption) _ | exact itC_ok _) (by assumption) (by omega)) 2 gX3_renew_X3_lowerBy rfl (by decide +kernel) (by decide) ⟨Nat.zero_le _, Nat.zero_le _⟩ rfl 0 rfl rfl rfl (Nat.le_of_ble_eq_true rfl) [0, 1, 2, 3, 4, 5, 6] [] [0, 1, 2, 3, 4, 5, 6] rfl rfl (by decide) (by decide) rfl (by decide) dX3_renew_65 68 rfl ?_
              refine g_if_ne (X := byB n Hd To Tp Bl (rdC n Hd To Tp Bl (itC n z Hd To Tp Bl t) r) r = true) C dX3_renew_68 75 (by decide) 71 rfl (bI_ne0 _) ?_ ?_
              · intro h68
                refine g_iconst (v := nI 1) C dX3_renew_75 (by decide) 76 rfl ?_
                refine g_goto C dX3_renew_76 80 (by decide) ?_
                refine g_istore_n (lv' := [(2, .int (nI 1)), (4, .int (nI r)), (3, .int (nI t)), (0, .ref k0), (1, .ref h0)]) C dX3_renew_80 rfl 81 rfl (by decide) rfl ?_
                refine g_iinc (lv' := [(4, .int (nI (r + 1))), (2, .int (nI 1)), (3, .int (nI t)), (0, .ref k0), (1, .ref h0)]) C dX3_renew_81 84 rfl 1 rfl (by decide) rfl ?_
                refine g_goto C dX3_renew_84 52 (by decide) ?_
                have e_5 : (rdB n Hd To Tp Bl (itC n z Hd To Tp Bl t) (r + 1)) = true := by first | with_reducible rfl | (simp [rdC, rdB, *])
                have e_6 : (rdC n Hd To Tp Bl (itC n z Hd To Tp Bl t) (r + 1)) = (byC n Hd To Tp Bl (rdC n Hd To Tp Bl (itC n z Hd To Tp Bl t) r) r) := by first | with_reducible rfl | (simp [rdC, rdB, *])
                refine go_eq (lv' := [(4, .int (nI (r + 1))), (2, .int (bI (rdB n Hd To Tp Bl (itC n z Hd To Tp Bl t) (r + 1)))), (3, .int (nI t)), (0, .ref k0), (1, .ref h0)]) (ws' := [ob k0 3 [.ref ql, .int (oI (st + 1))], aL (eY E) ql 125 (rdC n Hd To Tp Bl (itC n z Hd To Tp Bl t) (r + 1)), ob h0 4 [.int (nI n), .int (nI m), .int (nI z), .int (nI st), .ref qh, .ref qt, .ref qp, .ref qb], aN (eY E) qh 30 Hd, aN (eY E) qt 30 To, aO (eY E) qp 30 Tp, aO (eY E) qb 30 Bl]) (by first | with_reducible rfl | (simp only [e_5, oI_s, oI_0, bI_1, bI_0, and_self, reduceIte]; done)) rfl (by first | with_reducible rfl | (simp only [e_6, oI_s, oI_0, bI_1, bI_0, and_self, reduceIte]; done)) ?_
                exact ih_r (by omega)
              · intro h68
                have h68 : byB n Hd To Tp Bl (rdC n Hd To Tp Bl (itC n z Hd To Tp Bl t) r) r = false := by simpa using h68
                refine g_iload_n C dX3_renew_71 rfl 72 rfl 1 rfl ?_
                refine g_if_eq (X := rdB n Hd To Tp Bl (itC n z Hd To Tp Bl t) r = false) C dX3_renew_72 79 (by decide) 75 rfl (bI_eq0 _) ?_ ?_
                · intro h72
                  refine g_iconst (v := nI 0) C dX3_renew_79 (by decide) 80 rfl ?_
                  refine g_istore_n (lv' := [(2, .int (nI 0)), (4, .int (nI r)), (3, .int (nI t)), (0, .ref k0), (1, .ref h0)]) C dX3_renew_80 rfl 81 rfl (by decide) rfl ?_
                  refine g_iinc (lv' := [(4, .int (nI (r + 1))), (2, .int (nI 0)), (3, .int (nI t)), (0, .ref k0), (1, .ref h0)]) C dX3_renew_81 84 rfl 1 rfl (by decide) rfl ?_
                  refine g_goto C dX3_renew_84 52 (by decide) ?_
                  have e_7 : (rdB n Hd To Tp Bl (itC n z Hd To Tp Bl t) (r + 1)) = false := by first | with_reducible rfl | (simp [rdC, rdB, *])
                  have e_8 : (rdC n Hd To Tp Bl (itC n z Hd To Tp Bl t) (r + 1)) = (byC n Hd To Tp Bl (rdC n Hd To Tp Bl (itC n z Hd To Tp Bl t) r) r) := by first | with_reducible rfl | (simp [rdC, rdB, *])
                  refine go_eq (lv' := [(4, .int (nI (r + 1))), (2, .int (bI (rdB n Hd To Tp Bl (itC n z Hd To Tp Bl t) (r + 1)))), (3, .int (nI t)), (0, .ref k0), (1, .ref h0)]) (ws' := [ob k0 3 [.ref ql, .int (oI (st + 1))], aL (eY E) ql 125 (rdC n Hd To Tp Bl (itC n z Hd To Tp Bl t) (r + 1)), ob h0 4 [.int (nI n), .int (nI m), .int (nI z), .int (nI st), .ref qh, .ref qt, .ref qp, .ref qb], aN (eY E) qh 30 Hd, aN (eY E) qt 30 To, aO (eY E) qp 30 Tp, aO (eY E) qb 30 Bl]) (by first | with_reducible rfl | (simp only [e_7, oI_s, oI_0, bI_1, bI_0, and_self, reduceIte]; done)) rfl (by first | with_reducible rfl | (simp only [e_8, oI_s, oI_0, bI_1, bI_0, and_self, reduceIte]; done)) ?_
                  exact ih_r (by omega)
                · intro h72
                  have h72 : rdB n Hd To Tp Bl (itC n z Hd To Tp Bl t) r = true := by simpa using h72
                  refine g_iconst (v := nI 1) C dX3_renew_75 (by decide) 76 rfl ?_
                  refine g_goto C dX3_renew_76 80 (by decide) ?_
                  refine g_istore_n (lv' := [(2, .int (nI 1)), (4, .int (nI r)), (3, .int (nI t)), (0, .ref k0), (1, .ref h0)]) C dX3_renew_80 rfl 81 rfl (by decide) rfl ?_
                  refine g_iinc (lv' := [(4, .int (nI (r + 1))), (2, .int (nI 1)), (3, .int (nI t)), (0, .ref k0), (1, .ref h0)]) C dX3_renew_81 84 rfl 1 rfl (by decide) rfl ?_
                  refine g_goto C dX3_renew_84 52 (by decide) ?_
                  have e_9 : (rdB n Hd To Tp Bl (itC n z Hd To Tp Bl t) (r + 1)) = true := by first | with_reducible rfl | (simp [rdC, rdB, *])
                  have e_10 : (rdC n Hd To Tp Bl (itC n z Hd To Tp Bl t) (r + 1)) = (byC n Hd To Tp Bl (rdC n Hd To Tp Bl (itC n z Hd To Tp Bl t) r) r) := by first | with_reducible rfl | (simp [rdC, rdB, *])
                  refine go_eq (lv' := [(4, .int (nI (r + 1))), (2, .int (bI (rdB n Hd To Tp Bl (itC n z Hd To Tp Bl t) (r + 1)))), (3, .int (nI t)), (0, .ref k0), (1, .ref h0)]) (ws' := [ob k0 3 [.ref ql, .int (oI (st + 1))], aL (eY E) ql 125 (rdC n Hd To Tp Bl (itC n z Hd To Tp Bl t) (r + 1)), ob h0 4 [.int (nI n), .int (nI m), .int (nI z), .int (nI st), .ref qh, .ref qt, .ref qp, .ref qb], aN (eY E) qh 30 Hd, aN (eY E) qt 30 To, aO (eY E) qp 30 Tp, aO (eY E) qb 30 Bl]) (by first | with_reducible rfl | (simp only [e_9, oI_s, oI_0, bI_1, bI_0, and_self, reduceIte]; done)) rfl (by first | with_reducible rfl | (simp only [e_10, oI_s, oI_0, bI_1, bI_0, and_self, reduceIte]; done)) ?_
                  exact ih_r (by omega)
          have e_11 : (rdB n Hd To Tp Bl (itC n z Hd To Tp Bl t) 0) = false := by first | with_reducible rfl | (rfl)
          have e_12 : (rdC n Hd To Tp Bl (itC n z Hd To Tp Bl t) 0) = (itC n z Hd To Tp Bl t) := by first | with_reducible rfl | (rfl)
          refine go_eq (lv' := [(4, .int (nI 0)), (2, .int (bI (rdB n Hd To Tp Bl (itC n z Hd To Tp Bl t) 0))), (3, .int (nI t)), (0, .ref k0), (1, .ref h0)]) (ws' := [ob k0 3 [.ref ql, .int (oI (st + 1))], aL (eY E) ql 125 (rdC n Hd To Tp Bl (itC n z Hd To Tp Bl t) 0), ob h0 4 [.int (nI n), .int (nI m), .int (nI z), .int (nI st), .ref qh, .ref qt, .ref qp, .ref qb], aN (eY E) qh 30 Hd, aN (eY E) qt 30 To, aO (eY E) qp 30 Tp, aO (eY E) qb 30 Bl]) (by first | with_reducible rfl | (simp only [e_11, oI_s, oI_0, bI_1, bI_0, and_self, reduceIte]; done)) rfl (by first | with_reducible rfl | (simp only [e_12, oI_s, oI_0, bI_1, bI_0, and_self, reduceIte]; done)) ?_
          exact L52 0 (by omega)
    have e_13 : (itB n z Hd To Tp Bl 0) = true := by first | with_reducible rfl | (rfl)
    have e_14 : (itC n z Hd To Tp Bl 0) = (fun _ => 9000000000000000000) := by first | with_reducible rfl | (rfl)
    refine go_eq (lv' := [(3, .int (nI 0)), (2, .int (bI (itB n z Hd To Tp Bl 0))), (0, .ref k0), (1, .ref h0)]) (ws' := [ob k0 3 [.ref ql, .int (oI (st + 1))], aL (eY E) ql 125 (itC n z Hd To Tp Bl 0), ob h0 4 [.int (nI n), .int (nI m), .int (nI z), .int (nI st), .ref qh, .ref qt, .ref qp, .ref qb], aN (eY E) qh 30 Hd, aN (eY E) qt 30 To, aO (eY E) qp 30 Tp, aO (eY E) qb 30 Bl]) (by first | with_reducible rfl | (simp only [e_13, oI_s, oI_0, bI_1, bI_0, and_self, reduceIte]; done)) rfl (by first | with_reducible rfl | (simp only [e_14, oI_s, oI_0, bI_1, bI_0, and_self, reduceIte]; done)) ?_
    exact L34 0 (by omega) (by intro _; trivial)
  · intro h8
    have h8 : sn = st + 1 := Decidable.not_not.mp h8
    have e_15 : (st + 1) = sn := by first | with_reducible rfl | (first | assumption | (rw [if_pos (by assumption)]) | omega)
    have e_16 : (if sn = st + 1 then Cv else itC n z Hd To Tp Bl 126) = Cv := by first | with_reducible rfl | (first | assumption | (rw [if_pos (by assumption)]) | omega)
    refine go_eq rfl (st' := []) (ws' := [ob k0 3 [.ref ql, .int (oI (st + 1))], aL (eY E) ql 125 (if sn = st + 1 then Cv else itC n z Hd To Tp Bl 126), ob h0 4 [.int (nI n), .int (nI m), .int (nI z), .int (nI st), .ref qh, .ref qt, .ref qp, .ref qb], aN (eY E) qh 30 Hd, aN (eY E) qt 30 To, aO (eY E) qp 30 Tp, aO (eY E) qb 30 Bl]) (by first | with_reducible rfl | (simp only [e_15, e_16, oI_s, oI_0, bI_1, bI_0, and_self, reduceIte]; done)) (by first | with_reducible rfl | (simp only [e_15, e_16, oI_s, oI_0, bI_1, bI_0, and_self, reduceIte]; done)) ?_
    exact hret _ _ dX3_renew_11
