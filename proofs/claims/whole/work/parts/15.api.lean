set_option maxHeartbeats 4000000 in
set_option maxRecDepth 100000 in
theorem c_X6_isSet (l : Launch) (D : va_G) (cy : Nat → ClassId) (o0 : Nat) (qn : Nat) (ns : Nat) (h0 : Nat) (g0 : Nat) (k0 : Nat) (e0 : Nat) (d0 : Nat) (x : Int32) (hns : ns ≤ 6) : CoI l yX6_isSet wsX6_isSet 0 0 D cy [ob o0 6 [.ref h0, .ref g0, .ref qn, .ref k0, .ref e0, .ref d0, .int (nI ns)]] [.ref o0, .int x] [ob o0 6 [.ref h0, .ref g0, .ref qn, .ref k0, .ref e0, .ref d0, .int (nI ns)]] (bI (inR x ns)) := by
  refine met_z (cc := cX6_isSet) (maxL := 2) (own := RX6) (lv := [(0, .ref o0), (1, .int x)]) (by decide) rfl rfl rfl (Nat.le_of_ble_eq_true rfl) (fun E e1 e2 e3 C hret => ?_)
  subst e1; subst e2; subst e3
  have iX6 : ∀ w ∈ wsX60, w ∈ wsX6_isSet := fun _ h => List.mem_cons_of_mem _ (List.mem_append_right _ h)
  refine g_iload_n C dX6_isSet_0 rfl 1 rfl 1 rfl ?_
  refine g_if_lt (X := x < 0) C dX6_isSet_1 16 (by decide) 4 rfl (Iff.rfl) ?_ ?_
  · intro h1
    refine g_iconst (v := nI 0) C dX6_isSet_16 (by decide) 17 rfl ?_
    have e_1 : (inR x ns) = false := by first | with_reducible rfl | (first | exact inR_lt (by assumption) | exact inR_ge (by omega) (by assumption) | exact inR_t (by omega) (by assumption) (by assumption))
    refine go_eq rfl (st' := [.int (bI (inR x ns))]) (ws' := [ob o0 6 [.ref h0, .ref g0, .ref qn, .ref k0, .ref e0, .ref d0, .int (nI ns)]]) (by first | with_reducible rfl | (simp only [e_1, oI_s, oI_0, bI_1, bI_0, and_self, reduceIte]; done)) (by first | with_reducible rfl | (simp only [e_1, oI_s, oI_0, bI_1, bI_0, and_self, reduceIte]; done)) ?_
    exact hret _ _ dX6_isSet_17
  · intro h1
    refine g_iload_n C dX6_isSet_4 rfl 5 rfl 1 rfl ?_
    refine g_aload_n C dX6_isSet_5 rfl 6 rfl 0 rfl ?_
    refine g_get C iX6 0 rfl rfl 6 (by decide) (C.1.2.2.2.2 (.fieldLink RX6 50 "StackRuns" "sets" "I") (List.mem_of_getElem? (i := 1) rfl)) rfl dX6_isSet_6 9 rfl ?_
    refine g_icmp_ge (X := (nI ns) ≤ x) C dX6_isSet_9 16 (by decide) 12 rfl (Iff.rfl) ?_ ?_
    · intro h9
      refine g_iconst (v := nI 0) C dX6_isSet_16 (by decide) 17 rfl ?_
      have e_2 : (inR x ns) = false := by first | with_reducible rfl | (first | exact inR_lt (by assumption) | exact inR_ge (by omega) (by assumption) | exact inR_t (by omega) (by assumption) (by assumption))
      refine go_eq rfl (st' := [.int (bI (inR x ns))]) (ws' := [ob o0 6 [.ref h0, .ref g0, .ref qn, .ref k0, .ref e0, .ref d0, .int (nI ns)]]) (by first | with_reducible rfl | (simp only [e_2, oI_s, oI_0, bI_1, bI_0, and_self, reduceIte]; done)) (by first | with_reducible rfl | (simp only [e_2, oI_s, oI_0, bI_1, bI_0, and_self, reduceIte]; done)) ?_
      exact hret _ _ dX6_isSet_17
    · intro h9
      refine g_iconst (v := nI 1) C dX6_isSet_12 (by decide) 13 rfl ?_
      refine g_goto C dX6_isSet_13 17 (by decide) ?_
      have e_3 : (inR x ns) = true := by first | with_reducible rfl | (first | exact inR_lt (by assumption) | exact inR_ge (by omega) (by assumption) | exact inR_t (by omega) (by assumption) (by assumption))
      refine go_eq rfl (st' := [.int (bI (inR x ns))]) (ws' := [ob o0 6 [.ref h0, .ref g0, .ref qn, .ref k0, .ref e0, .ref d0, .int (nI ns)]]) (by first | with_reducible rfl | (simp only [e_3, oI_s, oI_0, bI_1, bI_0, and_self, reduceIte]; done)) (by first | with_reducible rfl | (simp only [e_3, oI_s, oI_0, bI_1, bI_0, and_self, reduceIte]; done)) ?_
      exact hret _ _ dX6_isSet_17
set_option maxHeartbeats 4000000 in
set_option maxRecDepth 100000 in
theorem c_X6_isPlace (l : Launch) (D : va_G) (cy : Nat → ClassId) (o0 : Nat) (qn : Nat) (ns : Nat) (g0 : Nat) (k0 : Nat) (e0 : Nat) (d0 : Nat) (h0 : Nat) (n : Nat) (m : Nat) (z : Nat) (st : Nat) (qh : Nat) (qt : Nat) (qp : Nat) (qb : Nat) (w : Int32) (x : Int32) (hn : n ≤ 5) : CoI l yX6_isPlace wsX6_isPlace 1 21 D cy [ob o0 6 [.ref h0, .ref g0, .ref qn, .ref k0, .ref e0, .ref d0, .int (nI ns)], ob h0 4 [.int (nI n), .int (nI m), .int (nI z), .int (nI st), .ref qh, .ref qt, .ref qp, .ref qb]] [.ref o0, .int w, .int x] [ob o0 6 [.ref h0, .ref g0, .ref qn, .ref k0, .ref e0, .ref d0, .int (nI ns)], ob h0 4 [.int (nI n), .int (nI m), .int (nI z), .int (nI st), .ref qh, .ref qt, .ref qp, .ref qb]] (bI (plR w x n)) := by
  refine met_z (cc := cX6_isPlace) (maxL := 3) (own := RX6) (lv := [(0, .ref o0), (1, .int w), (2, .int x)]) (by decide) rfl rfl rfl (Nat.le_of_ble_eq_true rfl) (fun E e1 e2 e3 C hret => ?_)
  subst e1; subst e2; subst e3
  have iX6 : ∀ w ∈ wsX60, w ∈ wsX6_isPlace := fun _ h => List.mem_cons_of_mem _ (List.mem_append_left _ (List.mem_append_right _ h))
  refine g_iload_n C dX6_isPlace_0 rfl 1 rfl 1 rfl ?_
  refine g_if_ne (X := ¬ w = 0) C dX6_isPlace_1 15 (by decide) 4 rfl (Iff.rfl) ?_ ?_
  · intro h1
    refine g_iload_n C dX6_isPlace_15 rfl 16 rfl 1 rfl ?_
    refine g_iconst (v := nI 1) C dX6_isPlace_16 (by decide) 17 rfl ?_
    refine g_icmp_ne (X := ¬ w = (nI 1)) C dX6_isPlace_17 34 (by decide) 20 rfl (Iff.rfl) ?_ ?_
    · intro h17
      refine g_iconst (v := nI 0) C dX6_isPlace_34 (by decide) 35 rfl ?_
      have e_1 : (plR w x n) = false := by first | with_reducible rfl | (first | exact plR_0 (by assumption) | exact plR_2 (by assumption) (by assumption) | exact (plR_1 (by assumption) (by assumption)).trans (inR_lt (by assumption)) | exact (plR_1 (by assumption) (by assumption)).trans (inR_ge (by omega) (by assumption)) | exact (plR_1 (by assumption) (by assumption)).trans (inR_t (by omega) (by assumption) (by assumption)))
      refine go_eq rfl (st' := [.int (bI (plR w x n))]) (ws' := [ob o0 6 [.ref h0, .ref g0, .ref qn, .ref k0, .ref e0, .ref d0, .int (nI ns)], ob h0 4 [.int (nI n), .int (nI m), .int (nI z), .int (nI st), .ref qh, .ref qt, .ref qp, .ref qb]]) (by first | with_reducible rfl | (simp only [e_1, oI_s, oI_0, bI_1, bI_0, and_self, reduceIte]; done)) (by first | with_reducible rfl | (simp only [e_1, oI_s, oI_0, bI_1, bI_0, and_self, reduceIte]; done)) ?_
      exact hret _ _ dX6_isPlace_35
    · intro h17
      have h17 : w = (nI 1) := Decidable.not_not.mp h17
      refine g_iload_n C dX6_isPlace_20 rfl 21 rfl 2 rfl ?_
      refine g_if_lt (X := x < 0) C dX6_isPlace_21 34 (by decide) 24 rfl (Iff.rfl) ?_ ?_
      · intro h21
        refine g_iconst (v := nI 0) C dX6_isPlace_34 (by decide) 35 rfl ?_
        have e_2 : (plR w x n) = false := by first | with_reducible rfl | (first | exact plR_0 (by assumption) | exact plR_2 (by assumption) (by assumption) | exact (plR_1 (by assumption) (by assumption)).trans (inR_lt (by assumption)) | exact (plR_1 (by assumption) (by assumption)).trans (inR_ge (by omega) (by assumption)) | exact (plR_1 (by assumption) (by assumption)).trans (inR_t (by omega) (by assumption) (by assumption)))
        refine go_eq rfl (st' := [.int (bI (plR w x n))]) (ws' := [ob o0 6 [.ref h0, .ref g0, .ref qn, .ref k0, .ref e0, .ref d0, .int (nI ns)], ob h0 4 [.int (nI n), .int (nI m), .int (nI z), .int (nI st), .ref qh, .ref qt, .ref qp, .ref qb]]) (by first | with_reducible rfl | (simp only [e_2, oI_s, oI_0, bI_1, bI_0, and_self, reduceIte]; done)) (by first | with_reducible rfl | (simp only [e_2, oI_s, oI_0, bI_1, bI_0, and_self, reduceIte]; done)) ?_
        exact hret _ _ dX6_isPlace_35
      · intro h21
        refine g_iload_n C dX6_isPlace_24 rfl 25 rfl 2 rfl ?_
        refine g_bipush (v := nI 6) C dX6_isPlace_25 (by decide) 27 rfl ?_
        refine g_icmp_ge (X := (nI 6) ≤ x) C dX6_isPlace_27 34 (by decide) 30 rfl (Iff.rfl) ?_ ?_
        · intro h27
          refine g_iconst (v := nI 0) C dX6_isPlace_34 (by decide) 35 rfl ?_
          have e_3 : (plR w x n) = false := by first | with_reducible rfl | (first | exact plR_0 (by assumption) | exact plR_2 (by assumption) (by assumption) | exact (plR_1 (by assumption) (by assumption)).trans (inR_lt (by assumption)) | exact (plR_1 (by assumption) (by assumption)).trans (inR_ge (by omega) (by assumption)) | exact (plR_1 (by assumption) (by assumption)).trans (inR_t (by omega) (by assumption) (by assumption)))
          refine go_eq rfl (st' := [.int (bI (plR w x n))]) (ws' := [ob o0 6 [.ref h0, .ref g0, .ref qn, .ref k0, .ref e0, .ref d0, .int (nI ns)], ob h0 4 [.int (nI n), .int (nI m), .int (nI z), .int (nI st), .ref qh, .ref qt, .ref qp, .ref qb]]) (by first | with_reducible rfl | (simp only [e_3, oI_s, oI_0, bI_1, bI_0, and_self, reduceIte]; done)) (by first | with_reducible rfl | (simp only [e_3, oI_s, oI_0, bI_1, bI_0, and_self, reduceIte]; done)) ?_
          exact hret _ _ dX6_isPlace_35
        · intro h27
          refine g_iconst (v := nI 1) C dX6_isPlace_30 (by decide) 31 rfl ?_
          refine g_goto C dX6_isPlace_31 35 (by decide) ?_
          have e_4 : (plR w x n) = true := by first | with_reducible rfl | (first | exact plR_0 (by assumption) | exact plR_2 (by assumption) (by assumption) | exact (plR_1 (by assumption) (by assumption)).trans (inR_lt (by assumption)) | exact (plR_1 (by assumption) (by assumption)).trans (inR_ge (by omega) (by assumption)) | exact (plR_1 (by assumption) (by assumption)).trans (inR_t (by omega) (by assumption) (by assumption)))
          refine go_eq rfl (st' := [.int (bI (plR w x n))]) (ws' := [ob o0 6 [.ref h0, .ref g0, .ref qn, .ref k0, .ref e0, .ref d0, .int (nI ns)], ob h0 4 [.int (nI n), .int (nI m), .int (nI z), .int (nI st), .ref qh, .ref qt, .ref qp, .ref qb]]) (by first | with_reducible rfl | (simp only [e_4, oI_s, oI_0, bI_1, bI_0, and_self, reduceIte]; done)) (by first | with_reducible rfl | (simp only [e_4, oI_s, oI_0, bI_1, bI_0, and_self, reduceIte]; done)) ?_
          exact hret _ _ dX6_isPlace_35
  · intro h1
    have h1 : w = 0 := Decidable.not_not.mp h1
    refine g_aload_n C dX6_isPlace_4 rfl 5 rfl 0 rfl ?_
    refine g_get C iX6 0 rfl rfl 0 (by decide) (C.1.2.2.2.2 (.fieldLink RX6 12 "StackRuns" "rules" "LStackRuns$Rules;") (List.mem_of_getElem? (i := 1) rfl)) rfl dX6_isPlace_5 8 rfl ?_
    refine g_iload_n C dX6_isPlace_8 rfl 9 rfl 2 rfl ?_
    refine g_cVi (ws2 := [ob o0 6 [.ref h0, .ref g0, .ref qn, .ref k0, .ref e0, .ref d0, .int (nI ns)], ob h0 4 [.int (nI n), .int (nI m), .int (nI z), .int (nI st), .ref qh, .ref qt, .ref qp, .ref qb]]) (As := [.int x]) (st := []) (wsc := [ob h0 4 [.int (nI n), .int (nI m), .int (nI z), .int (nI st), .ref qh, .ref qt, .ref qp, .ref qb]]) (wr := [ob o0 6 [.ref h0, .ref g0, .ref qn, .ref k0, .ref e0, .ref d0, .int (nI ns)]]) C (c_X4_isControl (eL E) (eD E) (eY E) h0 n m z st qh qt qp qb x (by omega)) 1 gX6_isPlace_X4_isControl rfl (by decide +kernel) (by decide) ⟨Nat.zero_le _, Nat.zero_le _⟩ rfl 0 rfl rfl rfl (Nat.le_of_ble_eq_true rfl) [1] [0] [0, 1] rfl rfl (by decide) (by decide) rfl (by decide) dX6_isPlace_9 12 rfl ?_
    refine g_goto C dX6_isPlace_12 35 (by decide) ?_
    have e_5 : (plR w x n) = (inR x n) := by first | with_reducible rfl | (first | exact plR_0 (by assumption) | exact plR_2 (by assumption) (by assumption) | exact (plR_1 (by assumption) (by assumption)).trans (inR_lt (by assumption)) | exact (plR_1 (by assumption) (by assumption)).trans (inR_ge (by omega) (by assumption)) | exact (plR_1 (by assumption) (by assumption)).trans (inR_t (by omega) (by assumption) (by assumption)))
    refine go_eq rfl (st' := [.int (bI (plR w x n))]) (ws' := [ob o0 6 [.ref h0, .ref g0, .ref qn, .ref k0, .ref e0, .ref d0, .int (nI ns)], ob h0 4 [.int (nI n), .int (nI m), .int (nI z), .int (nI st), .ref qh, .ref qt, .ref qp, .ref qb]]) (by first | with_reducible rfl | (simp only [e_5, oI_s, oI_0, bI_1, bI_0, and_self, reduceIte]; done)) (by first | with_reducible rfl | (simp only [e_5, oI_s, oI_0, bI_1, bI_0, and_self, reduceIte]; done)) ?_
    exact hret _ _ dX6_isPlace_35
set_option maxHeartbeats 4000000 in
set_option maxRecDepth 100000 in
theorem c_X6_machine_bad (l : Launch) (D : va_G) (cy : Nat → ClassId) (o0 : Nat) (qn : Nat) (ns : Nat) (k0 : Nat) (e0 : Nat) (d0 : Nat) (h0 : Nat) (n : Nat) (m : Nat) (z : Nat) (st : Nat) (qh : Nat) (qt : Nat) (qp : Nat) (qb : Nat) (g0 : Nat) (c : Nat) (h : Nat) (qs : Nat) (a : Int32) (b : Int32) (hb : (rg a 1 5 && rg b 1 5) = false) : CoI l yX6_machine wsX6_machine 0 0 D cy [ob o0 6 [.ref h0, .ref g0, .ref qn, .ref k0, .ref e0, .ref d0, .int (nI ns)], ob h0 4 [.int (nI n), .int (nI m), .int (nI z), .int (nI st), .ref qh, .ref qt, .ref qp, .ref qb], ob g0 5 [.int (nI c), .int (nI h), .ref qs]] [.ref o0, .int a, .int b] [ob o0 6 [.ref h0, .ref g0, .ref qn, .ref k0, .ref e0, .ref d0, .int (nI ns)], ob h0 4 [.int (nI n), .int (nI m), .int (nI z), .int (nI st), .ref qh, .ref qt, .ref qp, .ref qb], ob g0 5 [.int (nI c), .int (nI h), .ref qs]] (-2) := by
  refine met_i (cc := cX6_machine) (maxL := 4) (own := RX6) (lv := [(0, .ref o0), (1, .int a), (2, .int b)]) (by decide) rfl rfl rfl (Nat.le_of_ble_eq_true rfl) (fun E e1 e2 e3 C hret => ?_)
  subst e1; subst e2; subst e3
  refine g_iload_n C dX6_machine_0 rfl 1 rfl 1 rfl ?_
  refine g_iconst (v := nI 1) C dX6_machine_1 (by decide) 2 rfl ?_
  refine g_icmp_lt (X := a < (nI 1)) C dX6_machine_2 20 (by decide) 5 rfl (Iff.rfl) ?_ ?_
  · intro h2
    refine g_bipush (v := (-2)) C dX6_machine_20 (by decide) 22 rfl ?_
    exact hret _ _ dX6_machine_22
  · intro h2
    refine g_iload_n C dX6_machine_5 rfl 6 rfl 1 rfl ?_
    refine g_iconst (v := nI 5) C dX6_machine_6 (by decide) 7 rfl ?_
    refine g_icmp_gt (X := (nI 5) < a) C dX6_machine_7 20 (by decide) 10 rfl (Iff.rfl) ?_ ?_
    · intro h7
      refine g_bipush (v := (-2)) C dX6_machine_20 (by decide) 22 rfl ?_
      exact hret _ _ dX6_machine_22
    · intro h7
      refine g_iload_n C dX6_machine_10 rfl 11 rfl 2 rfl ?_
      refine g_iconst (v := nI 1) C dX6_machine_11 (by decide) 12 rfl ?_
      refine g_icmp_lt (X := b < (nI 1)) C dX6_machine_12 20 (by decide) 15 rfl (Iff.rfl) ?_ ?_
      · intro h12
        refine g_bipush (v := (-2)) C dX6_machine_20 (by decide) 22 rfl ?_
        exact hret _ _ dX6_machine_22
      · intro h12
        refine g_iload_n C dX6_machine_15 rfl 16 rfl 2 rfl ?_
        refine g_iconst (v := nI 5) C dX6_machine_16 (by decide) 17 rfl ?_
        refine g_icmp_le (X := b ≤ (nI 5)) C dX6_machine_17 23 (by decide) 20 rfl (Iff.rfl) ?_ ?_
        · intro h17
          exact (show False from by rw [rg_t (x := a) (lo := 1) (hi := 5) (by decide) (by decide) h2 h7, rg_t (x := b) (lo := 1) (hi := 5) (by decide) (by decide) h12 (go_nlt h17)] at hb; cases hb).elim
        · intro h17
          refine g_bipush (v := (-2)) C dX6_machine_20 (by decide) 22 rfl ?_
          exact hret _ _ dX6_machine_22
set_option maxHeartbeats 4000000 in
set_option maxRecDepth 100000 in
theorem c_X6_machine_ok (l : Launch) (D : va_G) (cy : Nat → ClassId) (o0 : Nat) (qn : Nat) (ns : Nat) (k0 : Nat) (e0 : Nat) (d0 : Nat) (h0 : Nat) (n : Nat) (m : Nat) (z : Nat) (st : Nat) (qh : Nat) (qt : Nat) (qp : Nat) (qb : Nat) (g0 : Nat) (c : Nat) (h : Nat) (qs : Nat) (a : Nat) (b : Nat) (ha : 1 ≤ a ∧ a ≤ 5) (hb : 1 ≤ b ∧ b ≤ 5) : CoI l yX6_machine wsX6_machine 1 22 D cy [ob o0 6 [.ref h0, .ref g0, .ref qn, .ref k0, .ref e0, .ref d0, .int (nI ns)], ob h0 4 [.int (nI n), .int (nI m), .int (nI z), .int (nI st), .ref qh, .ref qt, .ref qp, .ref qb], ob g0 5 [.int (nI c), .int (nI h), .ref qs]] [.ref o0, .int (nI a), .int (nI b)] [ob o0 6 [.ref h0, .ref g0, .ref qn, .ref k0, .ref e0, .ref d0, .int (nI 0)], ob h0 4 [.int (nI a), .int (nI b), .int (nI 0), .int (nI (st + 1)), .ref qh, .ref qt, .ref qp, .ref qb], ob g0 5 [.int (nI 0), .int (nI 0), .ref qs]] (nI z) := by
  refine met_i (cc := cX6_machine) (maxL := 4) (own := RX6) (lv := [(0, .ref o0), (1, .int (nI a)), (2, .int (nI b))]) (by decide) rfl rfl rfl (Nat.le_of_ble_eq_true rfl) (fun E e1 e2 e3 C hret => ?_)
  subst e1; subst e2; subst e3
  have iX4 : ∀ w ∈ wsX40, w ∈ wsX6_machine := fun _ h => List.mem_cons_of_mem _ (List.mem_append_left _ (List.mem_append_right _ h))
  have iX6 : ∀ w ∈ wsX60, w ∈ wsX6_machine := fun _ h => List.mem_cons_of_mem _ (List.mem_append_left _ (List.mem_append_left _ (List.mem_append_right _ h)))
  refine g_iload_n C dX6_machine_0 rfl 1 rfl 1 rfl ?_
  refine g_iconst (v := nI 1) C dX6_machine_1 (by decide) 2 rfl ?_
  refine g_icmp_lt (X := a < 1) C dX6_machine_2 20 (by decide) 5 rfl (nI_ltI (by omega) (by omega)) ?_ ?_
  · intro h2
    exact (show False from by omega).elim
  · intro h2
    refine g_iload_n C dX6_machine_5 rfl 6 rfl 1 rfl ?_
    refine g_iconst (v := nI 5) C dX6_machine_6 (by decide) 7 rfl ?_
    refine g_icmp_gt (X := 5 < a) C dX6_machine_7 20 (by decide) 10 rfl (nI_ltI (by omega) (by omega)) ?_ ?_
    · intro h7
      exact (show False from by omega).elim
    · intro h7
      refine g_iload_n C dX6_machine_10 rfl 11 rfl 2 rfl ?_
      refine g_iconst (v := nI 1) C dX6_machine_11 (by decide) 12 rfl ?_
      refine g_icmp_lt (X := b < 1) C dX6_machine_12 20 (by decide) 15 rfl (nI_ltI (by omega) (by omega)) ?_ ?_
      · intro h12
        exact (show False from by omega).elim
      · intro h12
        refine g_iload_n C dX6_machine_15 rfl 16 rfl 2 rfl ?_
        refine g_iconst (v := nI 5) C dX6_machine_16 (by decide) 17 rfl ?_
        refine g_icmp_le (X := b ≤ 5) C dX6_machine_17 23 (by decide) 20 rfl (nI_leI (by omega) (by omega)) ?_ ?_
        · intro h17
          refine g_aload_n C dX6_machine_23 rfl 24 rfl 0 rfl ?_
          refine g_get C iX6 0 rfl rfl 0 (by decide) (C.1.2.2.2.2 (.fieldLink RX6 12 "StackRuns" "rules" "LStackRuns$Rules;") (List.mem_of_getElem? (i := 1) rfl)) rfl dX6_machine_24 27 rfl ?_
          refine g_getN C iX4 1 rfl rfl 2 (by decide) (nf_RX6_55 C.2.2.1 _) rfl dX6_machine_27 30 rfl ?_
          refine g_istore_n (lv' := [(3, .int (nI z)), (0, .ref o0), (1, .int (nI a)), (2, .int (nI b))]) C dX6_machine_30 rfl 31 rfl (by decide) rfl ?_
          refine g_aload_n C dX6_machine_31 rfl 32 rfl 1 rfl ?_
          refine g_get C iX6 0 rfl rfl 0 (by decide) (C.1.2.2.2.2 (.fieldLink RX6 12 "StackRuns" "rules" "LStackRuns$Rules;") (List.mem_of_getElem? (i := 1) rfl)) rfl dX6_machine_32 35 rfl ?_
          refine g_iload_n C dX6_machine_35 rfl 36 rfl 2 rfl ?_
          refine g_iload_n C dX6_machine_36 rfl 37 rfl 3 rfl ?_
          refine g_cVv (ws2 := [ob o0 6 [.ref h0, .ref g0, .ref qn, .ref k0, .ref e0, .ref d0, .int (nI ns)], ob h0 4 [.int (nI a), .int (nI b), .int (nI 0), .int (nI (st + 1)), .ref qh, .ref qt, .ref qp, .ref qb], ob g0 5 [.int (nI c), .int (nI h), .ref qs]]) (As := [.int (nI a), .int (nI b)]) (st := []) (wsc := [ob h0 4 [.int (nI n), .int (nI m), .int (nI z), .int (nI st), .ref qh, .ref qt, .ref qp, .ref qb]]) (wr := [ob o0 6 [.ref h0, .ref g0, .ref qn, .ref k0, .ref e0, .ref d0, .int (nI ns)], ob g0 5 [.int (nI c), .int (nI h), .ref qs]]) C (c_X4_restart (eL E) (eD E) (eY E) h0 n m z st qh qt qp qb a b ) 2 gX6_machine_X4_restart rfl (by decide +kernel) (by decide) ⟨Nat.zero_le _, Nat.zero_le _⟩ rfl 0 rfl rfl rfl (Nat.le_of_ble_eq_true rfl) [1] [0, 2] [0, 2, 1] rfl rfl (by decide) (by decide) rfl (by decide) dX6_machine_37 40 rfl ?_
          refine g_aload_n C dX6_machine_40 rfl 41 rfl 1 rfl ?_
          refine g_get C iX6 0 rfl rfl 1 (by decide) (C.1.2.2.2.2 (.fieldLink RX6 19 "StackRuns" "here" "LStackRuns$Stand;") (List.mem_of_getElem? (i := 2) rfl)) rfl dX6_machine_41 44 rfl ?_
          refine g_iconst (v := nI 0) C dX6_machine_44 (by decide) 45 rfl ?_
          refine g_cVv (ws2 := [ob o0 6 [.ref h0, .ref g0, .ref qn, .ref k0, .ref e0, .ref d0, .int (nI ns)], ob h0 4 [.int (nI a), .int (nI b), .int (nI 0), .int (nI (st + 1)), .ref qh, .ref qt, .ref qp, .ref qb], ob g0 5 [.int (nI 0), .int (nI 0), .ref qs]]) (As := [.int (nI 0)]) (st := []) (wsc := [ob g0 5 [.int (nI c), .int (nI h), .ref qs]]) (wr := [ob o0 6 [.ref h0, .ref g0, .ref qn, .ref k0, .ref e0, .ref d0, .int (nI ns)], ob h0 4 [.int (nI a), .int (nI b), .int (nI 0), .int (nI (st + 1)), .ref qh, .ref qt, .ref qp, .ref qb]]) C (c_X5_restart (eL E) (eD E) (eY E) g0 c h qs 0 ) 1 gX6_machine_X5_restart rfl (by decide +kernel) (by decide) ⟨Nat.zero_le _, Nat.zero_le _⟩ rfl 0 rfl rfl rfl (Nat.le_of_ble_eq_true rfl) [2] [0, 1] [0, 1, 2] rfl rfl (by decide) (by decide) rfl (by decide) dX6_machine_45 48 rfl ?_
          refine g_aload_n C dX6_machine_48 rfl 49 rfl 1 rfl ?_
          refine g_iconst (v := nI 0) C dX6_machine_49 (by decide) 50 rfl ?_
          refine g_put (ws' := [ob o0 6 [.ref h0, .ref g0, .ref qn, .ref k0, .ref e0, .ref d0, .int (nI 0)], ob h0 4 [.int (nI a), .int (nI b), .int (nI 0), .int (nI (st + 1)), .ref qh, .ref qt, .ref qp, .ref qb], ob g0 5 [.int (nI 0), .int (nI 0), .ref qs]]) (ty := .int) C iX6 tyX6_ok nmX6 0 rfl rfl 6 (by decide) (C.1.2.2.2.2 (.fieldLink RX6 50 "StackRuns" "sets" "I") (List.mem_of_getElem? (i := 3) rfl)) rfl (by decide +kernel) rfl rfl (Nat.le_of_ble_eq_true rfl) dX6_machine_50 53 rfl rfl ?_
          refine g_iload_n C dX6_machine_53 rfl 54 rfl 0 rfl ?_
          exact hret _ _ dX6_machine_54
        · intro h17
          exact (show False from by omega).elim
set_option maxHeartbeats 4000000 in
set_option maxRecDepth 100000 in
theorem c_X6_rule_bad (l : Launch) (D : va_G) (cy : Nat → ClassId) (o0 : Nat) (qn : Nat) (ns : Nat) (g0 : Nat) (k0 : Nat) (e0 : Nat) (d0 : Nat) (h0 : Nat) (n : Nat) (m : Nat) (z : Nat) (st : Nat) (qh : Nat) (qt : Nat) (qp : Nat) (qb : Nat) (Hd : Nat → Nat) (To : Nat → Nat) (Tp : Nat → Nat) (Bl : Nat → Nat) (p : Int32) (s : Int32) (q : Int32) (a : Int32) (b : Int32) (hn : n ≤ 5) (hm : m ≤ 5) (hb : (inR p n && inR s m && inR q n && fitB a b m) = false) : CoI l yX6_rule wsX6_rule 1 21 D cy [ob o0 6 [.ref h0, .ref g0, .ref qn, .ref k0, .ref e0, .ref d0, .int (nI ns)], ob h0 4 [.int (nI n), .int (nI m), .int (nI z), .int (nI st), .ref qh, .ref qt, .ref qp, .ref qb], aN cy qh 30 Hd, aN cy qt 30 To, aO cy qp 30 Tp, aO cy qb 30 Bl] [.ref o0, .int p, .int s, .int q, .int a, .int b] [ob o0 6 [.ref h0, .ref g0, .ref qn, .ref k0, .ref e0, .ref d0, .int (nI ns)], ob h0 4 [.int (nI n), .int (nI m), .int (nI z), .int (nI st), .ref qh, .ref qt, .ref qp, .ref qb], aN cy qh 30 Hd, aN cy qt 30 To, aO cy qp 30 Tp, aO cy qb 30 Bl] (-2) := by
  refine met_i (cc := cX6_rule) (maxL := 7) (own := RX6) (lv := [(0, .ref o0), (1, .int p), (2, .int s), (3, .int q), (4, .int a), (5, .int b)]) (by decide) rfl rfl rfl (Nat.le_of_ble_eq_true rfl) (fun E e1 e2 e3 C hret => ?_)
  subst e1; subst e2; subst e3
  have iX6 : ∀ w ∈ wsX60, w ∈ wsX6_rule := fun _ h => List.mem_cons_of_mem _ (List.mem_append_left _ (List.mem_append_right _ h))
  refine g_aload_n C dX6_rule_0 rfl 1 rfl 0 rfl ?_
  refine g_get C iX6 0 rfl rfl 0 (by decide) (C.1.2.2.2.2 (.fieldLink RX6 12 "StackRuns" "rules" "LStackRuns$Rules;") (List.mem_of_getElem? (i := 1) rfl)) rfl dX6_rule_1 4 rfl ?_
  refine g_iload_n C dX6_rule_4 rfl 5 rfl 1 rfl ?_
  refine g_cVi (ws2 := [ob o0 6 [.ref h0, .ref g0, .ref qn, .ref k0, .ref e0, .ref d0, .int (nI ns)], ob h0 4 [.int (nI n), .int (nI m), .int (nI z), .int (nI st), .ref qh, .ref qt, .ref qp, .ref qb], aN (eY E) qh 30 Hd, aN (eY E) qt 30 To, aO (eY E) qp 30 Tp, aO (eY E) qb 30 Bl]) (As := [.int p]) (st := []) (wsc := [ob h0 4 [.int (nI n), .int (nI m), .int (nI z), .int (nI st), .ref qh, .ref qt, .ref qp, .ref qb]]) (wr := [ob o0 6 [.ref h0, .ref g0, .ref qn, .ref k0, .ref e0, .ref d0, .int (nI ns)], aN (eY E) qh 30 Hd, aN (eY E) qt 30 To, aO (eY E) qp 30 Tp, aO (eY E) qb 30 Bl]) C (c_X4_isControl (eL E) (eD E) (eY E) h0 n m z st qh qt qp qb p (by omega)) 1 gX6_rule_X4_isControl rfl (by decide +kernel) (by decide) ⟨Nat.zero_le _, Nat.zero_le _⟩ rfl 0 rfl rfl rfl (Nat.le_of_ble_eq_true rfl) [1] [0, 2, 3, 4, 5] [0, 5, 1, 2, 3, 4] rfl rfl (by decide) (by decide) rfl (by decide) dX6_rule_5 8 rfl ?_
  refine g_if_eq (X := inR p n = false) C dX6_rule_8 33 (by decide) 11 rfl (bI_eq0 _) ?_ ?_
  · intro h8
    refine g_bipush (v := (-2)) C dX6_rule_33 (by decide) 35 rfl ?_
    exact hret _ _ dX6_rule_35
  · intro h8
    have h8 : inR p n = true := by simpa using h8
    refine g_aload_n C dX6_rule_11 rfl 12 rfl 0 rfl ?_
    refine g_get C iX6 0 rfl rfl 0 (by decide) (C.1.2.2.2.2 (.fieldLink RX6 12 "StackRuns" "rules" "LStackRuns$Rules;") (List.mem_of_getElem? (i := 1) rfl)) rfl dX6_rule_12 15 rfl ?_
    refine g_iload_n C dX6_rule_15 rfl 16 rfl 2 rfl ?_
    refine g_cVi (ws2 := [ob o0 6 [.ref h0, .ref g0, .ref qn, .ref k0, .ref e0, .ref d0, .int (nI ns)], ob h0 4 [.int (nI n), .int (nI m), .int (nI z), .int (nI st), .ref qh, .ref qt, .ref qp, .ref qb], aN (eY E) qh 30 Hd, aN (eY E) qt 30 To, aO (eY E) qp 30 Tp, aO (eY E) qb 30 Bl]) (As := [.int s]) (st := []) (wsc := [ob h0 4 [.int (nI n), .int (nI m), .int (nI z), .int (nI st), .ref qh, .ref qt, .ref qp, .ref qb]]) (wr := [ob o0 6 [.ref h0, .ref g0, .ref qn, .ref k0, .ref e0, .ref d0, .int (nI ns)], aN (eY E) qh 30 Hd, aN (eY E) qt 30 To, aO (eY E) qp 30 Tp, aO (eY E) qb 30 Bl]) C (c_X4_isSign (eL E) (eD E) (eY E) h0 n m z st qh qt qp qb s (by omega)) 1 gX6_rule_X4_isSign rfl (by decide +kernel) (by decide) ⟨Nat.zero_le _, Nat.zero_le _⟩ rfl 0 rfl rfl rfl (Nat.le_of_ble_eq_true rfl) [1] [0, 2, 3, 4, 5] [0, 5, 1, 2, 3, 4] rfl rfl (by decide) (by decide) rfl (by decide) dX6_rule_16 19 rfl ?_
    refine g_if_eq (X := inR s m = false) C dX6_rule_19 33 (by decide) 22 rfl (bI_eq0 _) ?_ ?_
    · intro h19
      refine g_bipush (v := (-2)) C dX6_rule_33 (by decide) 35 rfl ?_
      exact hret _ _ dX6_rule_35
    · intro h19
      have h19 : inR s m = true := by simpa using h19
      refine g_aload_n C dX6_rule_22 rfl 23 rfl 0 rfl ?_
      refine g_get C iX6 0 rfl rfl 0 (by decide) (C.1.2.2.2.2 (.fieldLink RX6 12 "StackRuns" "rules" "LStackRuns$Rules;") (List.mem_of_getElem? (i := 1) rfl)) rfl dX6_rule_23 26 rfl ?_
      refine g_iload_n C dX6_rule_26 rfl 27 rfl 3 rfl ?_
      refine g_cVi (ws2 := [ob o0 6 [.ref h0, .ref g0, .ref qn, .ref k0, .ref e0, .ref d0, .int (nI ns)], ob h0 4 [.int (nI n), .int (nI m), .int (nI z), .int (nI st), .ref qh, .ref qt, .ref qp, .ref qb], aN (eY E) qh 30 Hd, aN (eY E) qt 30 To, aO (eY E) qp 30 Tp, aO (eY E) qb 30 Bl]) (As := [.int q]) (st := []) (wsc := [ob h0 4 [.int (nI n), .int (nI m), .int (nI z), .int (nI st), .ref qh, .ref qt, .ref qp, .ref qb]]) (wr := [ob o0 6 [.ref h0, .ref g0, .ref qn, .ref k0, .ref e0, .ref d0, .int (nI ns)], aN (eY E) qh 30 Hd, aN (eY E) qt 30 To, aO (eY E) qp 30 Tp, aO (eY E) qb 30 Bl]) C (c_X4_isControl (eL E) (eD E) (eY E) h0 n m z st qh qt qp qb q (by omega)) 1 gX6_rule_X4_isControl rfl (by decide +kernel) (by decide) ⟨Nat.zero_le _, Nat.zero_le _⟩ rfl 0 rfl rfl rfl (Nat.le_of_ble_eq_true rfl) [1] [0, 2, 3, 4, 5] [0, 5, 1, 2, 3, 4] rfl rfl (by decide) (by decide) rfl (by decide) dX6_rule_27 30 rfl ?_
      refine g_if_ne (X := inR q n = true) C dX6_rule_30 36 (by decide) 33 rfl (bI_ne0 _) ?_ ?_
      · intro h30
        refine g_iload C dX6_rule_36 38 rfl 4 rfl ?_
        refine g_iconst (v := (-1)) C dX6_rule_38 (by decide) 39 rfl ?_
        refine g_icmp_ne (X := ¬ a = (-1)) C dX6_rule_39 56 (by decide) 42 rfl (Iff.rfl) ?_ ?_
        · intro h39
          refine g_aload_n C dX6_rule_56 rfl 57 rfl 0 rfl ?_
          refine g_get C iX6 0 rfl rfl 0 (by decide) (C.1.2.2.2.2 (.fieldLink RX6 12 "StackRuns" "rules" "LStackRuns$Rules;") (List.mem_of_getElem? (i := 1) rfl)) rfl dX6_rule_57 60 rfl ?_
          refine g_iload C dX6_rule_60 62 rfl 4 rfl ?_
          refine g_cVi (ws2 := [ob o0 6 [.ref h0, .ref g0, .ref qn, .ref k0, .ref e0, .ref d0, .int (nI ns)], ob h0 4 [.int (nI n), .int (nI m), .int (nI z), .int (nI st), .ref qh, .ref qt, .ref qp, .ref qb], aN (eY E) qh 30 Hd, aN (eY E) qt 30 To, aO (eY E) qp 30 Tp, aO (eY E) qb 30 Bl]) (As := [.int a]) (st := []) (wsc := [ob h0 4 [.int (nI n), .int (nI m), .int (nI z), .int (nI st), .ref qh, .ref qt, .ref qp, .ref qb]]) (wr := [ob o0 6 [.ref h0, .ref g0, .ref qn, .ref k0, .ref e0, .ref d0, .int (nI ns)], aN (eY E) qh 30 Hd, aN (eY E) qt 30 To, aO (eY E) qp 30 Tp, aO (eY E) qb 30 Bl]) C (c_X4_isSign (eL E) (eD E) (eY E) h0 n m z st qh qt qp qb a (by omega)) 1 gX6_rule_X4_isSign rfl (by decide +kernel) (by decide) ⟨Nat.zero_le _, Nat.zero_le _⟩ rfl 0 rfl rfl rfl (Nat.le_of_ble_eq_true rfl) [1] [0, 2, 3, 4, 5] [0, 5, 1, 2, 3, 4] rfl rfl (by decide) (by decide) rfl (by decide) dX6_rule_62 65 rfl ?_
          refine g_if_eq (X := inR a m = false) C dX6_rule_65 90 (by decide) 68 rfl (bI_eq0 _) ?_ ?_
          · intro h65
            refine g_iconst (v := nI 0) C dX6_rule_90 (by decide) 91 rfl ?_
            refine g_istore (lv' := [(6, .int (nI 0)), (0, .ref o0), (1, .int p), (2, .int s), (3, .int q), (4, .int a), (5, .int b)]) C dX6_rule_91 93 rfl (by decide) rfl ?_
            refine g_iload C dX6_rule_93 95 rfl 0 rfl ?_
            refine g_if_ne (X := ¬ 0 = 0) C dX6_rule_95 101 (by decide) 98 rfl (not_congr (nI_eq0 (by omega))) ?_ ?_
            · intro h95
              exact absurd h95 (by decide)
            · intro h95
              have h95 : 0 = 0 := Decidable.not_not.mp h95
              refine g_bipush (v := (-2)) C dX6_rule_98 (by decide) 100 rfl ?_
              exact hret _ _ dX6_rule_100
          · intro h65
            have h65 : inR a m = true := by simpa using h65
            refine g_iload C dX6_rule_68 70 rfl 5 rfl ?_
            refine g_iconst (v := (-1)) C dX6_rule_70 (by decide) 71 rfl ?_
            refine g_icmp_eq (X := b = (-1)) C dX6_rule_71 86 (by decide) 74 rfl (Iff.rfl) ?_ ?_
            · intro h71
              refine g_iconst (v := nI 1) C dX6_rule_86 (by decide) 87 rfl ?_
              refine g_goto C dX6_rule_87 91 (by decide) ?_
              refine g_istore (lv' := [(6, .int (nI 1)), (0, .ref o0), (1, .int p), (2, .int s), (3, .int q), (4, .int a), (5, .int b)]) C dX6_rule_91 93 rfl (by decide) rfl ?_
              refine g_iload C dX6_rule_93 95 rfl 0 rfl ?_
              refine g_if_ne (X := ¬ 1 = 0) C dX6_rule_95 101 (by decide) 98 rfl (not_congr (nI_eq0 (by omega))) ?_ ?_
              · intro h95
                exact (show False from by rw [h8, h19, h30] at hb; (have hf : fitB a b m = true := by unfold fitB; simp [*]); rw [hf] at hb; cases hb).elim
              · intro h95
                have h95 : 1 = 0 := Decidable.not_not.mp h95
                exact absurd h95 (by decide)
            · intro h71
              refine g_aload_n C dX6_rule_74 rfl 75 rfl 0 rfl ?_
              refine g_get C iX6 0 rfl rfl 0 (by decide) (C.1.2.2.2.2 (.fieldLink RX6 12 "StackRuns" "rules" "LStackRuns$Rules;") (List.mem_of_getElem? (i := 1) rfl)) rfl dX6_rule_75 78 rfl ?_
              refine g_iload C dX6_rule_78 80 rfl 5 rfl ?_
              refine g_cVi (ws2 := [ob o0 6 [.ref h0, .ref g0, .ref qn, .ref k0, .ref e0, .ref d0, .int (nI ns)], ob h0 4 [.int (nI n), .int (nI m), .int (nI z), .int (nI st), .ref qh, .ref qt, .ref qp, .ref qb], aN (eY E) qh 30 Hd, aN (eY E) qt 30 To, aO (eY E) qp 30 Tp, aO (eY E) qb 30 Bl]) (As := [.int b]) (st := []) (wsc := [ob h0 4 [.int (nI n), .int (nI m), .int (nI z), .int (nI st), .ref qh, .ref qt, .ref qp, .ref qb]]) (wr := [ob o0 6 [.ref h0, .ref g0, .ref qn, .ref k0, .ref e0, .ref d0, .int (nI ns)], aN (eY E) qh 30 Hd, aN (eY E) qt 30 To, aO (eY E) qp 30 Tp, aO (eY E) qb 30 Bl]) C (c_X4_isSign (eL E) (eD E) (eY E) h0 n m z st qh qt qp qb b (by omega)) 1 gX6_rule_X4_isSign rfl (by decide +kernel) (by decide) ⟨Nat.zero_le _, Nat.zero_le _⟩ rfl 0 rfl rfl rfl (Nat.le_of_ble_eq_true rfl) [1] [0, 2, 3, 4, 5] [0, 5, 1, 2, 3, 4] rfl rfl (by decide) (by decide) rfl (by decide) dX6_rule_80 83 rfl ?_
              refine g_if_eq (X := inR b m = false) C dX6_rule_83 90 (by decide) 86 rfl (bI_eq0 _) ?_ ?_
              · intro h83
                refine g_iconst (v := nI 0) C dX6_rule_90 (by decide) 91 rfl ?_
                refine g_istore (lv' := [(6, .int (nI 0)), (0, .ref o0), (1, .int p), (2, .int s), (3, .int q), (4, .int a), (5, .int b)]) C dX6_rule_91 93 rfl (by decide) rfl ?_
                refine g_iload C dX6_rule_93 95 rfl 0 rfl ?_
                refine g_if_ne (X := ¬ 0 = 0) C dX6_rule_95 101 (by decide) 98 rfl (not_congr (nI_eq0 (by omega))) ?_ ?_
                · intro h95
                  exact absurd h95 (by decide)
                · intro h95
                  have h95 : 0 = 0 := Decidable.not_not.mp h95
                  refine g_bipush (v := (-2)) C dX6_rule_98 (by decide) 100 rfl ?_
                  exact hret _ _ dX6_rule_100
              · intro h83
                have h83 : inR b m = true := by simpa using h83
                refine g_iconst (v := nI 1) C dX6_rule_86 (by decide) 87 rfl ?_
                refine g_goto C dX6_rule_87 91 (by decide) ?_
                refine g_istore (lv' := [(6, .int (nI 1)), (0, .ref o0), (1, .int p), (2, .int s), (3, .int q), (4, .int a), (5, .int b)]) C dX6_rule_91 93 rfl (by decide) rfl ?_
                refine g_iload C dX6_rule_93 95 rfl 0 rfl ?_
                refine g_if_ne (X := ¬ 1 = 0) C dX6_rule_95 101 (by decide) 98 rfl (not_congr (nI_eq0 (by omega))) ?_ ?_
                · intro h95
                  exact (show False from by rw [h8, h19, h30] at hb; (have hf : fitB a b m = true := by unfold fitB; simp [*]); rw [hf] at hb; cases hb).elim
                · intro h95
                  have h95 : 1 = 0 := Decidable.not_not.mp h95
                  exact absurd h95 (by decide)
        · intro h39
          have h39 : a = (-1) := Decidable.not_not.mp h39
          refine g_iload C dX6_rule_42 44 rfl 5 rfl ?_
          refine g_iconst (v := (-1)) C dX6_rule_44 (by decide) 45 rfl ?_
          refine g_icmp_ne (X := ¬ b = (-1)) C dX6_rule_45 52 (by decide) 48 rfl (Iff.rfl) ?_ ?_
          · intro h45
            refine g_iconst (v := nI 0) C dX6_rule_52 (by decide) 53 rfl ?_
            refine g_goto C dX6_rule_53 91 (by decide) ?_
            refine g_istore (lv' := [(6, .int (nI 0)), (0, .ref o0), (1, .int p), (2, .int s), (3, .int q), (4, .int a), (5, .int b)]) C dX6_rule_91 93 rfl (by decide) rfl ?_
            refine g_iload C dX6_rule_93 95 rfl 0 rfl ?_
            refine g_if_ne (X := ¬ 0 = 0) C dX6_rule_95 101 (by decide) 98 rfl (not_congr (nI_eq0 (by omega))) ?_ ?_
            · intro h95
              exact absurd h95 (by decide)
            · intro h95
              have h95 : 0 = 0 := Decidable.not_not.mp h95
              refine g_bipush (v := (-2)) C dX6_rule_98 (by decide) 100 rfl ?_
              exact hret _ _ dX6_rule_100
          · intro h45
            have h45 : b = (-1) := Decidable.not_not.mp h45
            refine g_iconst (v := nI 1) C dX6_rule_48 (by decide) 49 rfl ?_
            refine g_goto C dX6_rule_49 91 (by decide) ?_
            refine g_istore (lv' := [(6, .int (nI 1)), (0, .ref o0), (1, .int p), (2, .int s), (3, .int q), (4, .int a), (5, .int b)]) C dX6_rule_91 93 rfl (by decide) rfl ?_
            refine g_iload C dX6_rule_93 95 rfl 0 rfl ?_
            refine g_if_ne (X := ¬ 1 = 0) C dX6_rule_95 101 (by decide) 98 rfl (not_congr (nI_eq0 (by omega))) ?_ ?_
            · intro h95
              exact (show False from by rw [h8, h19, h30] at hb; (have hf : fitB a b m = true := by unfold fitB; simp [*]); rw [hf] at hb; cases hb).elim
            · intro h95
              have h95 : 1 = 0 := Decidable.not_not.mp h95
              exact absurd h95 (by decide)
      · intro h30
        have h30 : inR q n = false := by simpa using h30
        refine g_bipush (v := (-2)) C dX6_rule_33 (by decide) 35 rfl ?_
        exact hret _ _ dX6_rule_35
set_option maxHeartbeats 4000000 in
set_option maxRecDepth 100000 in
theorem c_X6_rule_full (l : Launch) (D : va_G) (cy : Nat → ClassId) (o0 : Nat) (qn : Nat) (ns : Nat) (g0 : Nat) (k0 : Nat) (e0 : Nat) (d0 : Nat) (h0 : Nat) (n : Nat) (m : Nat) (z : Nat) (st : Nat) (qh : Nat) (qt : Nat) (qp : Nat) (qb : Nat) (Hd : Nat → Nat) (To : Nat → Nat) (Tp : Nat → Nat) (Bl : Nat → Nat) (p : Nat) (s : Nat) (q : Nat) (a : Nat) (b : Nat) (hn : n ≤ 5) (hm : m ≤ 5) (hz : z = 30) (hp : p < n) (hs : s < m) (hq : q < n) (ha : a ≤ m) (hb : b ≤ m) (hab : a = 0 → b = 0) : CoI l yX6_rule wsX6_rule 1 21 D cy [ob o0 6 [.ref h0, .ref g0, .ref qn, .ref k0, .ref e0, .ref d0, .int (nI ns)], ob h0 4 [.int (nI n), .int (nI m), .int (nI z), .int (nI st), .ref qh, .ref qt, .ref qp, .ref qb], aN cy qh 30 Hd, aN cy qt 30 To, aO cy qp 30 Tp, aO cy qb 30 Bl] [.ref o0, .int (nI p), .int (nI s), .int (nI q), .int (oI a), .int (oI b)] [ob o0 6 [.ref h0, .ref g0, .ref qn, .ref k0, .ref e0, .ref d0, .int (nI ns)], ob h0 4 [.int (nI n), .int (nI m), .int (nI z), .int (nI st), .ref qh, .ref qt, .ref qp, .ref qb], aN cy qh 30 Hd, aN cy qt 30 To, aO cy qp 30 Tp, aO cy qb 30 Bl] (-4) := by
  refine met_i (cc := cX6_rule) (maxL := 7) (own := RX6) (lv := [(0, .ref o0), (1, .int (nI p)), (2, .int (nI s)), (3, .int (nI q)), (4, .int (oI a)), (5, .int (oI b))]) (by decide) rfl rfl rfl (Nat.le_of_ble_eq_true rfl) (fun E e1 e2 e3 C hret => ?_)
  subst e1; subst e2; subst e3
  have iX4 : ∀ w ∈ wsX40, w ∈ wsX6_rule := fun _ h => List.mem_cons_of_mem _ (List.mem_append_right _ h)
  have iX6 : ∀ w ∈ wsX60, w ∈ wsX6_rule := fun _ h => List.mem_cons_of_mem _ (List.mem_append_left _ (List.mem_append_right _ h))
  have v1 : inR (nI p) n = true := inR_yes hp (by omega)
  have v2 : inR (nI s) m = true := inR_yes hs (by omega)
  have v3 : inR (nI q) n = true := inR_yes hq (by omega)
  have v4 : 0 < a → inR (oI a) m = true := fun h => by rw [oI_pos h]; exact inR_yes (by omega) (by omega)
  have v5 : 0 < b → inR (oI b) m = true := fun h => by rw [oI_pos h]; exact inR_yes (by omega) (by omega)
  refine g_aload_n C dX6_rule_0 rfl 1 rfl 0 rfl ?_
  refine g_get C iX6 0 rfl rfl 0 (by decide) (C.1.2.2.2.2 (.fieldLink RX6 12 "StackRuns" "rules" "LStackRuns$Rules;") (List.mem_of_getElem? (i := 1) rfl)) rfl dX6_rule_1 4 rfl ?_
  refine g_iload_n C dX6_rule_4 rfl 5 rfl 1 rfl ?_
  refine g_cVi (ws2 := [ob o0 6 [.ref h0, .ref g0, .ref qn, .ref k0, .ref e0, .ref d0, .int (nI ns)], ob h0 4 [.int (nI n), .int (nI m), .int (nI z), .int (nI st), .ref qh, .ref qt, .ref qp, .ref qb], aN (eY E) qh 30 Hd, aN (eY E) qt 30 To, aO (eY E) qp 30 Tp, aO (eY E) qb 30 Bl]) (As := [.int (nI p)]) (st := []) (wsc := [ob h0 4 [.int (nI n), .int (nI m), .int (nI z), .int (nI st), .ref qh, .ref qt, .ref qp, .ref qb]]) (wr := [ob o0 6 [.ref h0, .ref g0, .ref qn, .ref k0, .ref e0, .ref d0, .int (nI ns)], aN (eY E) qh 30 Hd, aN (eY E) qt 30 To, aO (eY E) qp 30 Tp, aO (eY E) qb 30 Bl]) C (c_X4_isControl (eL E) (eD E) (eY E) h0 n m z st qh qt qp qb (nI p) (by omega)) 1 gX6_rule_X4_isControl rfl (by decide +kernel) (by decide) ⟨Nat.zero_le _, Nat.zero_le _⟩ rfl 0 rfl rfl rfl (Nat.le_of_ble_eq_true rfl) [1] [0, 2, 3, 4, 5] [0, 5, 1, 2, 3, 4] rfl rfl (by decide) (by decide) rfl (by decide) dX6_rule_5 8 rfl ?_
  refine g_if_eq (X := inR (nI p) n = false) C dX6_rule_8 33 (by decide) 11 rfl (bI_eq0 _) ?_ ?_
  · intro h8
    exact (show False from by first | exact Bool.noConfusion (h8.symm.trans v1) | exact Bool.noConfusion (h19.symm.trans v2) | exact Bool.noConfusion (h30.symm.trans v3)).elim
  · intro h8
    have h8 : inR (nI p) n = true := by simpa using h8
    refine g_aload_n C dX6_rule_11 rfl 12 rfl 0 rfl ?_
    refine g_get C iX6 0 rfl rfl 0 (by decide) (C.1.2.2.2.2 (.fieldLink RX6 12 "StackRuns" "rules" "LStackRuns$Rules;") (List.mem_of_getElem? (i := 1) rfl)) rfl dX6_rule_12 15 rfl ?_
    refine g_iload_n C dX6_rule_15 rfl 16 rfl 2 rfl ?_
    refine g_cVi (ws2 := [ob o0 6 [.ref h0, .ref g0, .ref qn, .ref k0, .ref e0, .ref d0, .int (nI ns)], ob h0 4 [.int (nI n), .int (nI m), .int (nI z), .int (nI st), .ref qh, .ref qt, .ref qp, .ref qb], aN (eY E) qh 30 Hd, aN (eY E) qt 30 To, aO (eY E) qp 30 Tp, aO (eY E) qb 30 Bl]) (As := [.int (nI s)]) (st := []) (wsc := [ob h0 4 [.int (nI n), .int (nI m), .int (nI z), .int (nI st), .ref qh, .ref qt, .ref qp, .ref qb]]) (wr := [ob o0 6 [.ref h0, .ref g0, .ref qn, .ref k0, .ref e0, .ref d0, .int (nI ns)], aN (eY E) qh 30 Hd, aN (eY E) qt 30 To, aO (eY E) qp 30 Tp, aO (eY E) qb 30 Bl]) C (c_X4_isSign (eL E) (eD E) (eY E) h0 n m z st qh qt qp qb (nI s) (by omega)) 1 gX6_rule_X4_isSign rfl (by decide +kernel) (by decide) ⟨Nat.zero_le _, Nat.zero_le _⟩ rfl 0 rfl rfl rfl (Nat.le_of_ble_eq_true rfl) [1] [0, 2, 3, 4, 5] [0, 5, 1, 2, 3, 4] rfl rfl (by decide) (by decide) rfl (by decide) dX6_rule_16 19 rfl ?_
    refine g_if_eq (X := inR (nI s) m = false) C dX6_rule_19 33 (by decide) 22 rfl (bI_eq0 _) ?_ ?_
    · intro h19
      exact (show False from by first | exact Bool.noConfusion (h8.symm.trans v1) | exact Bool.noConfusion (h19.symm.trans v2) | exact Bool.noConfusion (h30.symm.trans v3)).elim
    · intro h19
      have h19 : inR (nI s) m = true := by simpa using h19
      refine g_aload_n C dX6_rule_22 rfl 23 rfl 0 rfl ?_
      refine g_get C iX6 0 rfl rfl 0 (by decide) (C.1.2.2.2.2 (.fieldLink RX6 12 "StackRuns" "rules" "LStackRuns$Rules;") (List.mem_of_getElem? (i := 1) rfl)) rfl dX6_rule_23 26 rfl ?_
      refine g_iload_n C dX6_rule_26 rfl 27 rfl 3 rfl ?_
      refine g_cVi (ws2 := [ob o0 6 [.ref h0, .ref g0, .ref qn, .ref k0, .ref e0, .ref d0, .int (nI ns)], ob h0 4 [.int (nI n), .int (nI m), .int (nI z), .int (nI st), .ref qh, .ref qt, .ref qp, .ref qb], aN (eY E) qh 30 Hd, aN (eY E) qt 30 To, aO (eY E) qp 30 Tp, aO (eY E) qb 30 Bl]) (As := [.int (nI q)]) (st := []) (wsc := [ob h0 4 [.int (nI n), .int (nI m), .int (nI z), .int (nI st), .ref qh, .ref qt, .ref qp, .ref qb]]) (wr := [ob o0 6 [.ref h0, .ref g0, .ref qn, .ref k0, .ref e0, .ref d0, .int (nI ns)], aN (eY E) qh 30 Hd, aN (eY E) qt 30 To, aO (eY E) qp 30 Tp, aO (eY E) qb 30 Bl]) C (c_X4_isControl (eL E) (eD E) (eY E) h0 n m z st qh qt qp qb (nI q) (by omega)) 1 gX6_rule_X4_isControl rfl (by decide +kernel) (by decide) ⟨Nat.zero_le _, Nat.zero_le _⟩ rfl 0 rfl rfl rfl (Nat.le_of_ble_eq_true rfl) [1] [0, 2, 3, 4, 5] [0, 5, 1, 2, 3, 4] rfl rfl (by decide) (by decide) rfl (by decide) dX6_rule_27 30 rfl ?_
      refine g_if_ne (X := inR (nI q) n = true) C dX6_rule_30 36 (by decide) 33 rfl (bI_ne0 _) ?_ ?_
      · intro h30
        refine g_iload C dX6_rule_36 38 rfl 4 rfl ?_
        refine g_iconst (v := (-1)) C dX6_rule_38 (by decide) 39 rfl ?_
        refine g_icmp_ne (X := ¬ a = 0) C dX6_rule_39 56 (by decide) 42 rfl (not_congr (oI_eq (by omega))) ?_ ?_
        · intro h39
          refine g_aload_n C dX6_rule_56 rfl 57 rfl 0 rfl ?_
          refine g_get C iX6 0 rfl rfl 0 (by decide) (C.1.2.2.2.2 (.fieldLink RX6 12 "StackRuns" "rules" "LStackRuns$Rules;") (List.mem_of_getElem? (i := 1) rfl)) rfl dX6_rule_57 60 rfl ?_
          refine g_iload C dX6_rule_60 62 rfl 4 rfl ?_
          refine g_cVi (ws2 := [ob o0 6 [.ref h0, .ref g0, .ref qn, .ref k0, .ref e0, .ref d0, .int (nI ns)], ob h0 4 [.int (nI n), .int (nI m), .int (nI z), .int (nI st), .ref qh, .ref qt, .ref qp, .ref qb], aN (eY E) qh 30 Hd, aN (eY E) qt 30 To, aO (eY E) qp 30 Tp, aO (eY E) qb 30 Bl]) (As := [.int (oI a)]) (st := []) (wsc := [ob h0 4 [.int (nI n), .int (nI m), .int (nI z), .int (nI st), .ref qh, .ref qt, .ref qp, .ref qb]]) (wr := [ob o0 6 [.ref h0, .ref g0, .ref qn, .ref k0, .ref e0, .ref d0, .int (nI ns)], aN (eY E) qh 30 Hd, aN (eY E) qt 30 To, aO (eY E) qp 30 Tp, aO (eY E) qb 30 Bl]) C (c_X4_isSign (eL E) (eD E) (eY E) h0 n m z st qh qt qp qb (oI a) (by omega)) 1 gX6_rule_X4_isSign rfl (by decide +kernel) (by decide) ⟨Nat.zero_le _, Nat.zero_le _⟩ rfl 0 rfl rfl rfl (Nat.le_of_ble_eq_true rfl) [1] [0, 2, 3, 4, 5] [0, 5, 1, 2, 3, 4] rfl rfl (by decide) (by decide) rfl (by decide) dX6_rule_62 65 rfl ?_
          refine g_if_eq (X := inR (oI a) m = false) C dX6_rule_65 90 (by decide) 68 rfl (bI_eq0 _) ?_ ?_
          · intro h65
            refine g_iconst (v := nI 0) C dX6_rule_90 (by decide) 91 rfl ?_
            refine g_istore (lv' := [(6, .int (nI 0)), (0, .ref o0), (1, .int (nI p)), (2, .int (nI s)), (3, .int (nI q)), (4, .int (oI a)), (5, .int (oI b))]) C dX6_rule_91 93 rfl (by decide) rfl ?_
            refine g_iload C dX6_rule_93 95 rfl 0 rfl ?_
            refine g_if_ne (X := ¬ 0 = 0) C dX6_rule_95 101 (by decide) 98 rfl (not_congr (nI_eq0 (by omega))) ?_ ?_
            · intro h95
              exact absurd h95 (by decide)
            · intro h95
              have h95 : 0 = 0 := Decidable.not_not.mp h95
              exact (show False from by first | (have := hab (by assumption); omega) | exact Bool.noConfusion (h65.symm.trans (v4 (by omega))) | exact Bool.noConfusion (h83.symm.trans (v5 (by omega)))).elim
          · intro h65
            have h65 : inR (oI a) m = true := by simpa using h65
            refine g_iload C dX6_rule_68 70 rfl 5 rfl ?_
            refine g_iconst (v := (-1)) C dX6_rule_70 (by decide) 71 rfl ?_
            refine g_icmp_eq (X := b = 0) C dX6_rule_71 86 (by decide) 74 rfl (oI_eq (by omega)) ?_ ?_
            · intro h71
              refine g_iconst (v := nI 1) C dX6_rule_86 (by decide) 87 rfl ?_
              refine g_goto C dX6_rule_87 91 (by decide) ?_
              refine g_istore (lv' := [(6, .int (nI 1)), (0, .ref o0), (1, .int (nI p)), (2, .int (nI s)), (3, .int (nI q)), (4, .int (oI a)), (5, .int (oI b))]) C dX6_rule_91 93 rfl (by decide) rfl ?_
              refine g_iload C dX6_rule_93 95 rfl 0 rfl ?_
              refine g_if_ne (X := ¬ 1 = 0) C dX6_rule_95 101 (by decide) 98 rfl (not_congr (nI_eq0 (by omega))) ?_ ?_
              · intro h95
                refine g_aload_n C dX6_rule_101 rfl 102 rfl 1 rfl ?_
                refine g_get C iX6 0 rfl rfl 0 (by decide) (C.1.2.2.2.2 (.fieldLink RX6 12 "StackRuns" "rules" "LStackRuns$Rules;") (List.mem_of_getElem? (i := 1) rfl)) rfl dX6_rule_102 105 rfl ?_
                refine g_getN C iX4 1 rfl rfl 2 (by decide) (nf_RX6_55 C.2.2.1 _) rfl dX6_rule_105 108 rfl ?_
                refine g_bipush (v := nI 30) C dX6_rule_108 (by decide) 110 rfl ?_
                refine g_icmp_ne (X := ¬ z = 30) C dX6_rule_110 116 (by decide) 113 rfl (not_congr (nI_eq (by omega) (by omega))) ?_ ?_
                · intro h110
                  exact (show False from by omega).elim
                · intro h110
                  have h110 : z = 30 := Decidable.not_not.mp h110
                  refine g_bipush (v := (-4)) C dX6_rule_113 (by decide) 115 rfl ?_
                  exact hret _ _ dX6_rule_115
              · intro h95
                have h95 : 1 = 0 := Decidable.not_not.mp h95
                exact absurd h95 (by decide)
            · intro h71
              refine g_aload_n C dX6_rule_74 rfl 75 rfl 0 rfl ?_
              refine g_get C iX6 0 rfl rfl 0 (by decide) (C.1.2.2.2.2 (.fieldLink RX6 12 "StackRuns" "rules" "LStackRuns$Rules;") (List.mem_of_getElem? (i := 1) rfl)) rfl dX6_rule_75 78 rfl ?_
              refine g_iload C dX6_rule_78 80 rfl 5 rfl ?_
              refine g_cVi (ws2 := [ob o0 6 [.ref h0, .ref g0, .ref qn, .ref k0, .ref e0, .ref d0, .int (nI ns)], ob h0 4 [.int (nI n), .int (nI m), .int (nI z), .int (nI st), .ref qh, .ref qt, .ref qp, .ref qb], aN (eY E) qh 30 Hd, aN (eY E) qt 30 To, aO (eY E) qp 30 Tp, aO (eY E) qb 30 Bl]) (As := [.int (oI b)]) (st := []) (wsc := [ob h0 4 [.int (nI n), .int (nI m), .int (nI z), .int (nI st), .ref qh, .ref qt, .ref qp, .ref qb]]) (wr := [ob o0 6 [.ref h0, .ref g0, .ref qn, .ref k0, .ref e0, .ref d0, .int (nI ns)], aN (eY E) qh 30 Hd, aN (eY E) qt 30 To, aO (eY E) qp 30 Tp, aO (eY E) qb 30 Bl]) C (c_X4_isSign (eL E) (eD E) (eY E) h0 n m z st qh qt qp qb (oI b) (by omega)) 1 gX6_rule_X4_isSign rfl (by decide +kernel) (by decide) ⟨Nat.zero_le _, Nat.zero_le _⟩ rfl 0 rfl rfl rfl (Nat.le_of_ble_eq_true rfl) [1] [0, 2, 3, 4, 5] [0, 5, 1, 2, 3, 4] rfl rfl (by decide) (by decide) rfl (by decide) dX6_rule_80 83 rfl ?_
              refine g_if_eq (X := inR (oI b) m = false) C dX6_rule_83 90 (by decide) 86 rfl (bI_eq0 _) ?_ ?_
              · intro h83
                refine g_iconst (v := nI 0) C dX6_rule_90 (by decide) 91 rfl ?_
                refine g_istore (lv' := [(6, .int (nI 0)), (0, .ref o0), (1, .int (nI p)), (2, .int (nI s)), (3, .int (nI q)), (4, .int (oI a)), (5, .int (oI b))]) C dX6_rule_91 93 rfl (by decide) rfl ?_
                refine g_iload C dX6_rule_93 95 rfl 0 rfl ?_
                refine g_if_ne (X := ¬ 0 = 0) C dX6_rule_95 101 (by decide) 98 rfl (not_congr (nI_eq0 (by omega))) ?_ ?_
                · intro h95
                  exact absurd h95 (by decide)
                · intro h95
                  have h95 : 0 = 0 := Decidable.not_not.mp h95
                  exact (show False from by first | (have := hab (by assumption); omega) | exact Bool.noConfusion (h65.symm.trans (v4 (by omega))) | exact Bool.noConfusion (h83.symm.trans (v5 (by omega)))).elim
              · intro h83
                have h83 : inR (oI b) m = true := by simpa using h83
                refine g_iconst (v := nI 1) C dX6_rule_86 (by decide) 87 rfl ?_
                refine g_goto C dX6_rule_87 91 (by decide) ?_
                refine g_istore (lv' := [(6, .int (nI 1)), (0, .ref o0), (1, .int (nI p)), (2, .int (nI s)), (3, .int (nI q)), (4, .int (oI a)), (5, .int (oI b))]) C dX6_rule_91 93 rfl (by decide) rfl ?_
                refine g_iload C dX6_rule_93 95 rfl 0 rfl ?_
                refine g_if_ne (X := ¬ 1 = 0) C dX6_rule_95 101 (by decide) 98 rfl (not_congr (nI_eq0 (by omega))) ?_ ?_
                · intro h95
                  refine g_aload_n C dX6_rule_101 rfl 102 rfl 1 rfl ?_
                  refine g_get C iX6 0 rfl rfl 0 (by decide) (C.1.2.2.2.2 (.fieldLink RX6 12 "StackRuns" "rules" "LStackRuns$Rules;") (List.mem_of_getElem? (i := 1) rfl)) rfl dX6_rule_102 105 rfl ?_
                  refine g_getN C iX4 1 rfl rfl 2 (by decide) (nf_RX6_55 C.2.2.1 _) rfl dX6_rule_105 108 rfl ?_
                  refine g_bipush (v := nI 30) C dX6_rule_108 (by decide) 110 rfl ?_
                  refine g_icmp_ne (X := ¬ z = 30) C dX6_rule_110 116 (by decide) 113 rfl (not_congr (nI_eq (by omega) (by omega))) ?_ ?_
                  · intro h110
                    exact (show False from by omega).elim
                  · intro h110
                    have h110 : z = 30 := Decidable.not_not.mp h110
                    refine g_bipush (v := (-4)) C dX6_rule_113 (by decide) 115 rfl ?_
                    exact hret _ _ dX6_rule_115
                · intro h95
                  have h95 : 1 = 0 := Decidable.not_not.mp h95
                  exact absurd h95 (by decide)
        · intro h39
          have h39 : a = 0 := Decidable.not_not.mp h39
          refine g_iload C dX6_rule_42 44 rfl 5 rfl ?_
          refine g_iconst (v := (-1)) C dX6_rule_44 (by decide) 45 rfl ?_
          refine g_icmp_ne (X := ¬ b = 0) C dX6_rule_45 52 (by decide) 48 rfl (not_congr (oI_eq (by omega))) ?_ ?_
          · intro h45
            refine g_iconst (v := nI 0) C dX6_rule_52 (by decide) 53 rfl ?_
            refine g_goto C dX6_rule_53 91 (by decide) ?_
            refine g_istore (lv' := [(6, .int (nI 0)), (0, .ref o0), (1, .int (nI p)), (2, .int (nI s)), (3, .int (nI q)), (4, .int (oI a)), (5, .int (oI b))]) C dX6_rule_91 93 rfl (by decide) rfl ?_
            refine g_iload C dX6_rule_93 95 rfl 0 rfl ?_
            refine g_if_ne (X := ¬ 0 = 0) C dX6_rule_95 101 (by decide) 98 rfl (not_congr (nI_eq0 (by omega))) ?_ ?_
            · intro h95
              exact absurd h95 (by decide)
            · intro h95
              have h95 : 0 = 0 := Decidable.not_not.mp h95
              exact (show False from by first | (have := hab (by assumption); omega) | exact Bool.noConfusion (h65.symm.trans (v4 (by omega))) | exact Bool.noConfusion (h83.symm.trans (v5 (by omega)))).elim
          · intro h45
            have h45 : b = 0 := Decidable.not_not.mp h45
            refine g_iconst (v := nI 1) C dX6_rule_48 (by decide) 49 rfl ?_
            refine g_goto C dX6_rule_49 91 (by decide) ?_
            refine g_istore (lv' := [(6, .int (nI 1)), (0, .ref o0), (1, .int (nI p)), (2, .int (nI s)), (3, .int (nI q)), (4, .int (oI a)), (5, .int (oI b))]) C dX6_rule_91 93 rfl (by decide) rfl ?_
            refine g_iload C dX6_rule_93 95 rfl 0 rfl ?_
            refine g_if_ne (X := ¬ 1 = 0) C dX6_rule_95 101 (by decide) 98 rfl (not_congr (nI_eq0 (by omega))) ?_ ?_
            · intro h95
              refine g_aload_n C dX6_rule_101 rfl 102 rfl 1 rfl ?_
              refine g_get C iX6 0 rfl rfl 0 (by decide) (C.1.2.2.2.2 (.fieldLink RX6 12 "StackRuns" "rules" "LStackRuns$Rules;") (List.mem_of_getElem? (i := 1) rfl)) rfl dX6_rule_102 105 rfl ?_
              refine g_getN C iX4 1 rfl rfl 2 (by decide) (nf_RX6_55 C.2.2.1 _) rfl dX6_rule_105 108 rfl ?_
              refine g_bipush (v := nI 30) C dX6_rule_108 (by decide) 110 rfl ?_
              refine g_icmp_ne (X := ¬ z = 30) C dX6_rule_110 116 (by decide) 113 rfl (not_congr (nI_eq (by omega) (by omega))) ?_ ?_
              · intro h110
                exact (show False from by omega).elim
              · intro h110
                have h110 : z = 30 := Decidable.not_not.mp h110
                refine g_bipush (v := (-4)) C dX6_rule_113 (by decide) 115 rfl ?_
                exact hret _ _ dX6_rule_115
            · intro h95
              have h95 : 1 = 0 := Decidable.not_not.mp h95
              exact absurd h95 (by decide)
      · intro h30
        have h30 : inR (nI q) n = false := by simpa using h30
        exact (show False from by first | exact Bool.noConfusion (h8.symm.trans v1) | exact Bool.noConfusion (h19.symm.trans v2) | exact Bool.noConfusion (h30.symm.trans v3)).elim
set_option maxHeartbeats 4000000 in
set_option maxRecDepth 100000 in
theorem c_X6_rule_ok (l : Launch) (D : va_G) (cy : Nat → ClassId) (o0 : Nat) (qn : Nat) (ns : Nat) (g0 : Nat) (k0 : Nat) (e0 : Nat) (d0 : Nat) (h0 : Nat) (n : Nat) (m : Nat) (z : Nat) (st : Nat) (qh : Nat) (qt : Nat) (qp : Nat) (qb : Nat) (Hd : Nat → Nat) (To : Nat → Nat) (Tp : Nat → Nat) (Bl : Nat → Nat) (p : Nat) (s : Nat) (q : Nat) (a : Nat) (b : Nat) (hn : n ≤ 5) (hm : m ≤ 5) (hz : z < 30) (hp : p < n) (hs : s < m) (hq : q < n) (ha : a ≤ m) (hb : b ≤ m) (hab : a = 0 → b = 0) : CoI l yX6_rule wsX6_rule 1 24 D cy [ob o0 6 [.ref h0, .ref g0, .ref qn, .ref k0, .ref e0, .ref d0, .int (nI ns)], ob h0 4 [.int (nI n), .int (nI m), .int (nI z), .int (nI st), .ref qh, .ref qt, .ref qp, .ref qb], aN cy qh 30 Hd, aN cy qt 30 To, aO cy qp 30 Tp, aO cy qb 30 Bl] [.ref o0, .int (nI p), .int (nI s), .int (nI q), .int (oI a), .int (oI b)] [ob o0 6 [.ref h0, .ref g0, .ref qn, .ref k0, .ref e0, .ref d0, .int (nI ns)], ob h0 4 [.int (nI n), .int (nI m), .int (nI (z + 1)), .int (nI (st + 1)), .ref qh, .ref qt, .ref qp, .ref qb], aN cy qh 30 (up Hd z (p * 5 + s)), aN cy qt 30 (up To z q), aO cy qp 30 (up Tp z a), aO cy qb 30 (up Bl z b)] (nI z) := by
  refine met_i (cc := cX6_rule) (maxL := 7) (own := RX6) (lv := [(0, .ref o0), (1, .int (nI p)), (2, .int (nI s)), (3, .int (nI q)), (4, .int (oI a)), (5, .int (oI b))]) (by decide) rfl rfl rfl (Nat.le_of_ble_eq_true rfl) (fun E e1 e2 e3 C hret => ?_)
  subst e1; subst e2; subst e3
  have iX4 : ∀ w ∈ wsX40, w ∈ wsX6_rule := fun _ h => List.mem_cons_of_mem _ (List.mem_append_right _ h)
  have iX6 : ∀ w ∈ wsX60, w ∈ wsX6_rule := fun _ h => List.mem_cons_of_mem _ (List.mem_append_left _ (List.mem_append_right _ h))
  have v1 : inR (nI p) n = true := inR_yes hp (by omega)
  have v2 : inR (nI s) m = true := inR_yes hs (by omega)
  have v3 : inR (nI q) n = true := inR_yes hq (by omega)
  have v4 : 0 < a → inR (oI a) m = true := fun h => by rw [oI_pos h]; exact inR_yes (by omega) (by omega)
  have v5 : 0 < b → inR (oI b) m = true := fun h => by rw [oI_pos h]; exact inR_yes (by omega) (by omega)
  refine g_aload_n C dX6_rule_0 rfl 1 rfl 0 rfl ?_
  refine g_get C iX6 0 rfl rfl 0 (by decide) (C.1.2.2.2.2 (.fieldLink RX6 12 "StackRuns" "rules" "LStackRuns$Rules;") (List.mem_of_getElem? (i := 1) rfl)) rfl dX6_rule_1 4 rfl ?_
  refine g_iload_n C dX6_rule_4 rfl 5 rfl 1 rfl ?_
  refine g_cVi (ws2 := [ob o0 6 [.ref h0, .ref g0, .ref qn, .ref k0, .ref e0, .ref d0, .int (nI ns)], ob h0 4 [.int (nI n), .int (nI m), .int (nI z), .int (nI st), .ref qh, .ref qt, .ref qp, .ref qb], aN (eY E) qh 30 Hd, aN (eY E) qt 30 To, aO (eY E) qp 30 Tp, aO (eY E) qb 30 Bl]) (As := [.int (nI p)]) (st := []) (wsc := [ob h0 4 [.int (nI n), .int (nI m), .int (nI z), .int (nI st), .ref qh, .ref qt, .ref qp, .ref qb]]) (wr := [ob o0 6 [.ref h0, .ref g0, .ref qn, .ref k0, .ref e0, .ref d0, .int (nI ns)], aN (eY E) qh 30 Hd, aN (eY E) qt 30 To, aO (eY E) qp 30 Tp, aO (eY E) qb 30 Bl]) C (c_X4_isControl (eL E) (eD E) (eY E) h0 n m z st qh qt qp qb (nI p) (by omega)) 1 gX6_rule_X4_isControl rfl (by decide +kernel) (by decide) ⟨Nat.zero_le _, Nat.zero_le _⟩ rfl 0 rfl rfl rfl (Nat.le_of_ble_eq_true rfl) [1] [0, 2, 3, 4, 5] [0, 5, 1, 2, 3, 4] rfl rfl (by decide) (by decide) rfl (by decide) dX6_rule_5 8 rfl ?_
  refine g_if_eq (X := inR (nI p) n = false) C dX6_rule_8 33 (by decide) 11 rfl (bI_eq0 _) ?_ ?_
  · intro h8
    exact (show False from by first | exact Bool.noConfusion (h8.symm.trans v1) | exact Bool.noConfusion (h19.symm.trans v2) | exact Bool.noConfusion (h30.symm.trans v3)).elim
  · intro h8
    have h8 : inR (nI p) n = true := by simpa using h8
    refine g_aload_n C dX6_rule_11 rfl 12 rfl 0 rfl ?_
    refine g_get C iX6 0 rfl rfl 0 (by decide) (C.1.2.2.2.2 (.fieldLink RX6 12 "StackRuns" "rules" "LStackRuns$Rules;") (List.mem_of_getElem? (i := 1) rfl)) rfl dX6_rule_12 15 rfl ?_
    refine g_iload_n C dX6_rule_15 rfl 16 rfl 2 rfl ?_
    refine g_cVi (ws2 := [ob o0 6 [.ref h0, .ref g0, .ref qn, .ref k0, .ref e0, .ref d0, .int (nI ns)], ob h0 4 [.int (nI n), .int (nI m), .int (nI z), .int (nI st), .ref qh, .ref qt, .ref qp, .ref qb], aN (eY E) qh 30 Hd, aN (eY E) qt 30 To, aO (eY E) qp 30 Tp, aO (eY E) qb 30 Bl]) (As := [.int (nI s)]) (st := []) (wsc := [ob h0 4 [.int (nI n), .int (nI m), .int (nI z), .int (nI st), .ref qh, .ref qt, .ref qp, .ref qb]]) (wr := [ob o0 6 [.ref h0, .ref g0, .ref qn, .ref k0, .ref e0, .ref d0, .int (nI ns)], aN (eY E) qh 30 Hd, aN (eY E) qt 30 To, aO (eY E) qp 30 Tp, aO (eY E) qb 30 Bl]) C (c_X4_isSign (eL E) (eD E) (eY E) h0 n m z st qh qt qp qb (nI s) (by omega)) 1 gX6_rule_X4_isSign rfl (by decide +kernel) (by decide) ⟨Nat.zero_le _, Nat.zero_le _⟩ rfl 0 rfl rfl rfl (Nat.le_of_ble_eq_true rfl) [1] [0, 2, 3, 4, 5] [0, 5, 1, 2, 3, 4] rfl rfl (by decide) (by decide) rfl (by decide) dX6_rule_16 19 rfl ?_
    refine g_if_eq (X := inR (nI s) m = false) C dX6_rule_19 33 (by decide) 22 rfl (bI_eq0 _) ?_ ?_
    · intro h19
      exact (show False from by first | exact Bool.noConfusion (h8.symm.trans v1) | exact Bool.noConfusion (h19.symm.trans v2) | exact Bool.noConfusion (h30.symm.trans v3)).elim
    · intro h19
      have h19 : inR (nI s) m = true := by simpa using h19
      refine g_aload_n C dX6_rule_22 rfl 23 rfl 0 rfl ?_
      refine g_get C iX6 0 rfl rfl 0 (by decide) (C.1.2.2.2.2 (.fieldLink RX6 12 "StackRuns" "rules" "LStackRuns$Rules;") (List.mem_of_getElem? (i := 1) rfl)) rfl dX6_rule_23 26 rfl ?_
      refine g_iload_n C dX6_rule_26 rfl 27 rfl 3 rfl ?_
      refine g_cVi (ws2 := [ob o0 6 [.ref h0, .ref g0, .ref qn, .ref k0, .ref e0, .ref d0, .int (nI ns)], ob h0 4 [.int (nI n), .int (nI m), .int (nI z), .int (nI st), .ref qh, .ref qt, .ref qp, .ref qb], aN (eY E) qh 30 Hd, aN (eY E) qt 30 To, aO (eY E) qp 30 Tp, aO (eY E) qb 30 Bl]) (As := [.int (nI q)]) (st := []) (wsc := [ob h0 4 [.int (nI n), .int (nI m), .int (nI z), .int (nI st), .ref qh, .ref qt, .ref qp, .ref qb]]) (wr := [ob o0 6 [.ref h0, .ref g0, .ref qn, .ref k0, .ref e0, .ref d0, .int (nI ns)], aN (eY E) qh 30 Hd, aN (eY E) qt 30 To, aO (eY E) qp 30 Tp, aO (eY E) qb 30 Bl]) C (c_X4_isControl (eL E) (eD E) (eY E) h0 n m z st qh qt qp qb (nI q) (by omega)) 1 gX6_rule_X4_isControl rfl (by decide +kernel) (by decide) ⟨Nat.zero_le _, Nat.zero_le _⟩ rfl 0 rfl rfl rfl (Nat.le_of_ble_eq_true rfl) [1] [0, 2, 3, 4, 5] [0, 5, 1, 2, 3, 4] rfl rfl (by decide) (by decide) rfl (by decide) dX6_rule_27 30 rfl ?_
      refine g_if_ne (X := inR (nI q) n = true) C dX6_rule_30 36 (by decide) 33 rfl (bI_ne0 _) ?_ ?_
      · intro h30
        refine g_iload C dX6_rule_36 38 rfl 4 rfl ?_
        refine g_iconst (v := (-1)) C dX6_rule_38 (by decide) 39 rfl ?_
        refine g_icmp_ne (X := ¬ a = 0) C dX6_rule_39 56 (by decide) 42 rfl (not_congr (oI_eq (by omega))) ?_ ?_
        · intro h39
          refine g_aload_n C dX6_rule_56 rfl 57 rfl 0 rfl ?_
          refine g_get C iX6 0 rfl rfl 0 (by decide) (C.1.2.2.2.2 (.fieldLink RX6 12 "StackRuns" "rules" "LStackRuns$Rules;") (List.mem_of_getElem? (i := 1) rfl)) rfl dX6_rule_57 60 rfl ?_
          refine g_iload C dX6_rule_60 62 rfl 4 rfl ?_
          refine g_cVi (ws2 := [ob o0 6 [.ref h0, .ref g0, .ref qn, .ref k0, .ref e0, .ref d0, .int (nI ns)], ob h0 4 [.int (nI n), .int (nI m), .int (nI z), .int (nI st), .ref qh, .ref qt, .ref qp, .ref qb], aN (eY E) qh 30 Hd, aN (eY E) qt 30 To, aO (eY E) qp 30 Tp, aO (eY E) qb 30 Bl]) (As := [.int (oI a)]) (st := []) (wsc := [ob h0 4 [.int (nI n), .int (nI m), .int (nI z), .int (nI st), .ref qh, .ref qt, .ref qp, .ref qb]]) (wr := [ob o0 6 [.ref h0, .ref g0, .ref qn, .ref k0, .ref e0, .ref d0, .int (nI ns)], aN (eY E) qh 30 Hd, aN (eY E) qt 30 To, aO (eY E) qp 30 Tp, aO (eY E) qb 30 Bl]) C (c_X4_isSign (eL E) (eD E) (eY E) h0 n m z st qh qt qp qb (oI a) (by omega)) 1 gX6_rule_X4_isSign rfl (by decide +kernel) (by decide) ⟨Nat.zero_le _, Nat.zero_le _⟩ rfl 0 rfl rfl rfl (Nat.le_of_ble_eq_true rfl) [1] [0, 2, 3, 4, 5] [0, 5, 1, 2, 3, 4] rfl rfl (by decide) (by decide) rfl (by decide) dX6_rule_62 65 rfl ?_
          refine g_if_eq (X := inR (oI a) m = false) C dX6_rule_65 90 (by decide) 68 rfl (bI_eq0 _) ?_ ?_
          · intro h65
            refine g_iconst (v := nI 0) C dX6_rule_90 (by decide) 91 rfl ?_
            refine g_istore (lv' := [(6, .int (nI 0)), (0, .ref o0), (1, .int (nI p)), (2, .int (nI s)), (3, .int (nI q)), (4, .int (oI a)), (5, .int (oI b))]) C dX6_rule_91 93 rfl (by decide) rfl ?_
            refine g_iload C dX6_rule_93 95 rfl 0 rfl ?_
            refine g_if_ne (X := ¬ 0 = 0) C dX6_rule_95 101 (by decide) 98 rfl (not_congr (nI_eq0 (by omega))) ?_ ?_
            · intro h95
              exact absurd h95 (by decide)
            · intro h95
              have h95 : 0 = 0 := Decidable.not_not.mp h95
              exact (show False from by first | (have := hab (by assumption); omega) | exact Bool.noConfusion (h65.symm.trans (v4 (by omega))) | exact Bool.noConfusion (h83.symm.trans (v5 (by omega)))).elim
          · intro h65
            have h65 : inR (oI a) m = true := by simpa using h65
            refine g_iload C dX6_rule_68 70 rfl 5 rfl ?_
            refine g_iconst (v := (-1)) C dX6_rule_70 (by decide) 71 rfl ?_
            refine g_icmp_eq (X := b = 0) C dX6_rule_71 86 (by decide) 74 rfl (oI_eq (by omega)) ?_ ?_
            · intro h71
              refine g_iconst (v := nI 1) C dX6_rule_86 (by decide) 87 rfl ?_
              refine g_goto C dX6_rule_87 91 (by decide) ?_
              refine g_istore (lv' := [(6, .int (nI 1)), (0, .ref o0), (1, .int (nI p)), (2, .int (nI s)), (3, .int (nI q)), (4, .int (oI a)), (5, .int (oI b))]) C dX6_rule_91 93 rfl (by decide) rfl ?_
              refine g_iload C dX6_rule_93 95 rfl 0 rfl ?_
              refine g_if_ne (X := ¬ 1 = 0) C dX6_rule_95 101 (by decide) 98 rfl (not_congr (nI_eq0 (by omega))) ?_ ?_
              · intro h95
                refine g_aload_n C dX6_rule_101 rfl 102 rfl 1 rfl ?_
                refine g_get C iX6 0 rfl rfl 0 (by decide) (C.1.2.2.2.2 (.fieldLink RX6 12 "StackRuns" "rules" "LStackRuns$Rules;") (List.mem_of_getElem? (i := 1) rfl)) rfl dX6_rule_102 105 rfl ?_
                refine g_getN C iX4 1 rfl rfl 2 (by decide) (nf_RX6_55 C.2.2.1 _) rfl dX6_rule_105 108 rfl ?_
                refine g_bipush (v := nI 30) C dX6_rule_108 (by decide) 110 rfl ?_
                refine g_icmp_ne (X := ¬ z = 30) C dX6_rule_110 116 (by decide) 113 rfl (not_congr (nI_eq (by omega) (by omega))) ?_ ?_
                · intro h110
                  refine g_aload_n C dX6_rule_116 rfl 117 rfl 1 rfl ?_
                  refine g_get C iX6 0 rfl rfl 0 (by decide) (C.1.2.2.2.2 (.fieldLink RX6 12 "StackRuns" "rules" "LStackRuns$Rules;") (List.mem_of_getElem? (i := 1) rfl)) rfl dX6_rule_117 120 rfl ?_
                  refine g_iload_n C dX6_rule_120 rfl 121 rfl 2 rfl ?_
                  refine g_iload_n C dX6_rule_121 rfl 122 rfl 3 rfl ?_
                  refine g_cSi (ws2 := [ob o0 6 [.ref h0, .ref g0, .ref qn, .ref k0, .ref e0, .ref d0, .int (nI ns)], ob h0 4 [.int (nI n), .int (nI m), .int (nI z), .int (nI st), .ref qh, .ref qt, .ref qp, .ref qb], aN (eY E) qh 30 Hd, aN (eY E) qt 30 To, aO (eY E) qp 30 Tp, aO (eY E) qb 30 Bl]) (As := [.int (nI p), .int (nI s)]) (st := [.ref h0]) (wsc := []) (wr := [ob o0 6 [.ref h0, .ref g0, .ref qn, .ref k0, .ref e0, .ref d0, .int (nI ns)], ob h0 4 [.int (nI n), .int (nI m), .int (nI z), .int (nI st), .ref qh, .ref qt, .ref qp, .ref qb], aN (eY E) qh 30 Hd, aN (eY E) qt 30 To, aO (eY E) qp 30 Tp, aO (eY E) qb 30 Bl]) C (c_X6_headOf (eL E) (eD E) (eY E) p s ) 2 gX6_rule_X6_headOf rfl (by decide +kernel) (by decide) ⟨Nat.zero_le _, Nat.zero_le _⟩ rfl rfl (Nat.le_of_ble_eq_true rfl) [] [0, 1, 2, 3, 4, 5] [0, 1, 2, 3, 4, 5] rfl rfl (by decide) (by decide) rfl (by decide) dX6_rule_122 125 rfl ?_
                  refine g_iload_n C dX6_rule_125 rfl 126 rfl 4 rfl ?_
                  refine g_iload C dX6_rule_126 128 rfl 5 rfl ?_
                  refine g_iload C dX6_rule_128 130 rfl 6 rfl ?_
                  refine g_cVi (ws2 := [ob o0 6 [.ref h0, .ref g0, .ref qn, .ref k0, .ref e0, .ref d0, .int (nI ns)], ob h0 4 [.int (nI n), .int (nI m), .int (nI (z + 1)), .int (nI (st + 1)), .ref qh, .ref qt, .ref qp, .ref qb], aN (eY E) qh 30 (up Hd z (p * 5 + s)), aN (eY E) qt 30 (up To z q), aO (eY E) qp 30 (up Tp z a), aO (eY E) qb 30 (up Bl z b)]) (As := [.int (nI (p * 5 + s)), .int (nI q), .int (oI a), .int (oI b)]) (st := []) (wsc := [ob h0 4 [.int (nI n), .int (nI m), .int (nI z), .int (nI st), .ref qh, .ref qt, .ref qp, .ref qb], aN (eY E) qh 30 Hd, aN (eY E) qt 30 To, aO (eY E) qp 30 Tp, aO (eY E) qb 30 Bl]) (wr := [ob o0 6 [.ref h0, .ref g0, .ref qn, .ref k0, .ref e0, .ref d0, .int (nI ns)]]) C (c_X4_add (eL E) (eD E) (eY E) h0 n m z st qh qt qp qb Hd To Tp Bl (p * 5 + s) q a b (by omega)) 4 gX6_rule_X4_add rfl (by decide +kernel) (by decide) ⟨Nat.zero_le _, Nat.zero_le _⟩ rfl 0 rfl rfl rfl (Nat.le_of_ble_eq_true rfl) [1, 2, 3, 4, 5] [0] [0, 1, 2, 3, 4, 5] rfl rfl (by decide) (by decide) rfl (by decide) dX6_rule_130 133 rfl ?_
                  exact hret _ _ dX6_rule_133
                · intro h110
                  have h110 : z = 30 := Decidable.not_not.mp h110
                  exact (show False from by omega).elim
              · intro h95
                have h95 : 1 = 0 := Decidable.not_not.mp h95
                exact absurd h95 (by decide)
            · intro h71
              refine g_aload_n C dX6_rule_74 rfl 75 rfl 0 rfl ?_
              refine g_get C iX6 0 rfl rfl 0 (by decide) (C.1.2.2.2.2 (.fieldLink RX6 12 "StackRuns" "rules" "LStackRuns$Rules;") (List.mem_of_getElem? (i := 1) rfl)) rfl dX6_rule_75 78 rfl ?_
              refine g_iload C dX6_rule_78 80 rfl 5 rfl ?_
              refine g_cVi (ws2 := [ob o0 6 [.ref h0, .ref g0, .ref qn, .ref k0, .ref e0, .ref d0, .int (nI ns)], ob h0 4 [.int (nI n), .int (nI m), .int (nI z), .int (nI st), .ref qh, .ref qt, .ref qp, .ref qb], aN (eY E) qh 30 Hd, aN (eY E) qt 30 To, aO (eY E) qp 30 Tp, aO (eY E) qb 30 Bl]) (As := [.int (oI b)]) (st := []) (wsc := [ob h0 4 [.int (nI n), .int (nI m), .int (nI z), .int (nI st), .ref qh, .ref qt, .ref qp, .ref qb]]) (wr := [ob o0 6 [.ref h0, .ref g0, .ref qn, .ref k0, .ref e0, .ref d0, .int (nI ns)], aN (eY E) qh 30 Hd, aN (eY E) qt 30 To, aO (eY E) qp 30 Tp, aO (eY E) qb 30 Bl]) C (c_X4_isSign (eL E) (eD E) (eY E) h0 n m z st qh qt qp qb (oI b) (by omega)) 1 gX6_rule_X4_isSign rfl (by decide +kernel) (by decide) ⟨Nat.zero_le _, Nat.zero_le _⟩ rfl 0 rfl rfl rfl (Nat.le_of_ble_eq_true rfl) [1] [0, 2, 3, 4, 5] [0, 5, 1, 2, 3, 4] rfl rfl (by decide) (by decide) rfl (by decide) dX6_rule_80 83 rfl ?_
              refine g_if_eq (X := inR (oI b) m = false) C dX6_rule_83 90 (by decide) 86 rfl (bI_eq0 _) ?_ ?_
              · intro h83
                refine g_iconst (v := nI 0) C dX6_rule_90 (by decide) 91 rfl ?_
                refine g_istore (lv' := [(6, .int (nI 0)), (0, .ref o0), (1, .int (nI p)), (2, .int (nI s)), (3, .int (nI q)), (4, .int (oI a)), (5, .int (oI b))]) C dX6_rule_91 93 rfl (by decide) rfl ?_
                refine g_iload C dX6_rule_93 95 rfl 0 rfl ?_
                refine g_if_ne (X := ¬ 0 = 0) C dX6_rule_95 101 (by decide) 98 rfl (not_congr (nI_eq0 (by omega))) ?_ ?_
                · intro h95
                  exact absurd h95 (by decide)
                · intro h95
                  have h95 : 0 = 0 := Decidable.not_not.mp h95
                  exact (show False from by first | (have := hab (by assumption); omega) | exact Bool.noConfusion (h65.symm.trans (v4 (by omega))) | exact Bool.noConfusion (h83.symm.trans (v5 (by omega)))).elim
              · intro h83
                have h83 : inR (oI b) m = true := by simpa using h83
                refine g_iconst (v := nI 1) C dX6_rule_86 (by decide) 87 rfl ?_
                refine g_goto C dX6_rule_87 91 (by decide) ?_
                refine g_istore (lv' := [(6, .int (nI 1)), (0, .ref o0), (1, .int (nI p)), (2, .int (nI s)), (3, .int (nI q)), (4, .int (oI a)), (5, .int (oI b))]) C dX6_rule_91 93 rfl (by decide) rfl ?_
                refine g_iload C dX6_rule_93 95 rfl 0 rfl ?_
                refine g_if_ne (X := ¬ 1 = 0) C dX6_rule_95 101 (by decide) 98 rfl (not_congr (nI_eq0 (by omega))) ?_ ?_
                · intro h95
                  refine g_aload_n C dX6_rule_101 rfl 102 rfl 1 rfl ?_
                  refine g_get C iX6 0 rfl rfl 0 (by decide) (C.1.2.2.2.2 (.fieldLink RX6 12 "StackRuns" "rules" "LStackRuns$Rules;") (List.mem_of_getElem? (i := 1) rfl)) rfl dX6_rule_102 105 rfl ?_
                  refine g_getN C iX4 1 rfl rfl 2 (by decide) (nf_RX6_55 C.2.2.1 _) rfl dX6_rule_105 108 rfl ?_
                  refine g_bipush (v := nI 30) C dX6_rule_108 (by decide) 110 rfl ?_
                  refine g_icmp_ne (X := ¬ z = 30) C dX6_rule_110 116 (by decide) 113 rfl (not_congr (nI_eq (by omega) (by omega))) ?_ ?_
                  · intro h110
                    refine g_aload_n C dX6_rule_116 rfl 117 rfl 1 rfl ?_
                    refine g_get C iX6 0 rfl rfl 0 (by decide) (C.1.2.2.2.2 (.fieldLink RX6 12 "StackRuns" "rules" "LStackRuns$Rules;") (List.mem_of_getElem? (i := 1) rfl)) rfl dX6_rule_117 120 rfl ?_
                    refine g_iload_n C dX6_rule_120 rfl 121 rfl 2 rfl ?_
                    refine g_iload_n C dX6_rule_121 rfl 122 rfl 3 rfl ?_
                    refine g_cSi (ws2 := [ob o0 6 [.ref h0, .ref g0, .ref qn, .ref k0, .ref e0, .ref d0, .int (nI ns)], ob h0 4 [.int (nI n), .int (nI m), .int (nI z), .int (nI st), .ref qh, .ref qt, .ref qp, .ref qb], aN (eY E) qh 30 Hd, aN (eY E) qt 30 To, aO (eY E) qp 30 Tp, aO (eY E) qb 30 Bl]) (As := [.int (nI p), .int (nI s)]) (st := [.ref h0]) (wsc := []) (wr := [ob o0 6 [.ref h0, .ref g0, .ref qn, .ref k0, .ref e0, .ref d0, .int (nI ns)], ob h0 4 [.int (nI n), .int (nI m), .int (nI z), .int (nI st), .ref qh, .ref qt, .ref qp, .ref qb], aN (eY E) qh 30 Hd, aN (eY E) qt 30 To, aO (eY E) qp 30 Tp, aO (eY E) qb 30 Bl]) C (c_X6_headOf (eL E) (eD E) (eY E) p s ) 2 gX6_rule_X6_headOf rfl (by decide +kernel) (by decide) ⟨Nat.zero_le _, Nat.zero_le _⟩ rfl rfl (Nat.le_of_ble_eq_true rfl) [] [0, 1, 2, 3, 4, 5] [0, 1, 2, 3, 4, 5] rfl rfl (by decide) (by decide) rfl (by decide) dX6_rule_122 125 rfl ?_
                    refine g_iload_n C dX6_rule_125 rfl 126 rfl 4 rfl ?_
                    refine g_iload C dX6_rule_126 128 rfl 5 rfl ?_
                    refine g_iload C dX6_rule_128 130 rfl 6 rfl ?_
                    refine g_cVi (ws2 := [ob o0 6 [.ref h0, .ref g0, .ref qn, .ref k0, .ref e0, .ref d0, .int (nI ns)], ob h0 4 [.int (nI n), .int (nI m), .int (nI (z + 1)), .int (nI (st + 1)), .ref qh, .ref qt, .ref qp, .ref qb], aN (eY E) qh 30 (up Hd z (p * 5 + s)), aN (eY E) qt 30 (up To z q), aO (eY E) qp 30 (up Tp z a), aO (eY E) qb 30 (up Bl z b)]) (As := [.int (nI (p * 5 + s)), .int (nI q), .int (oI a), .int (oI b)]) (st := []) (wsc := [ob h0 4 [.int (nI n), .int (nI m), .int (nI z), .int (nI st), .ref qh, .ref qt, .ref qp, .ref qb], aN (eY E) qh 30 Hd, aN (eY E) qt 30 To, aO (eY E) qp 30 Tp, aO (eY E) qb 30 Bl]) (wr := [ob o0 6 [.ref h0, .ref g0, .ref qn, .ref k0, .ref e0, .ref d0, .int (nI ns)]]) C (c_X4_add (eL E) (eD E) (eY E) h0 n m z st qh qt qp qb Hd To Tp Bl (p * 5 + s) q a b (by omega)) 4 gX6_rule_X4_add rfl (by decide +kernel) (by decide) ⟨Nat.zero_le _, Nat.zero_le _⟩ rfl 0 rfl rfl rfl (Nat.le_of_ble_eq_true rfl) [1, 2, 3, 4, 5] [0] [0, 1, 2, 3, 4, 5] rfl rfl (by decide) (by decide) rfl (by decide) dX6_rule_130 133 rfl ?_
                    exact hret _ _ dX6_rule_133
                  · intro h110
                    have h110 : z = 30 := Decidable.not_not.mp h110
                    exact (show False from by omega).elim
                · intro h95
                  have h95 : 1 = 0 := Decidable.not_not.mp h95
                  exact absurd h95 (by decide)
        · intro h39
          have h39 : a = 0 := Decidable.not_not.mp h39
          refine g_iload C dX6_rule_42 44 rfl 5 rfl ?_
          refine g_iconst (v := (-1)) C dX6_rule_44 (by decide) 45 rfl ?_
          refine g_icmp_ne (X := ¬ b = 0) C dX6_rule_45 52 (by decide) 48 rfl (not_congr (oI_eq (by omega))) ?_ ?_
          · intro h45
            refine g_iconst (v := nI 0) C dX6_rule_52 (by decide) 53 rfl ?_
            refine g_goto C dX6_rule_53 91 (by decide) ?_
            refine g_istore (lv' := [(6, .int (nI 0)), (0, .ref o0), (1, .int (nI p)), (2, .int (nI s)), (3, .int (nI q)), (4, .int (oI a)), (5, .int (oI b))]) C dX6_rule_91 93 rfl (by decide) rfl ?_
            refine g_iload C dX6_rule_93 95 rfl 0 rfl ?_
            refine g_if_ne (X := ¬ 0 = 0) C dX6_rule_95 101 (by decide) 98 rfl (not_congr (nI_eq0 (by omega))) ?_ ?_
            · intro h95
              exact absurd h95 (by decide)
            · intro h95
              have h95 : 0 = 0 := Decidable.not_not.mp h95
              exact (show False from by first | (have := hab (by assumption); omega) | exact Bool.noConfusion (h65.symm.trans (v4 (by omega))) | exact Bool.noConfusion (h83.symm.trans (v5 (by omega)))).elim
          · intro h45
            have h45 : b = 0 := Decidable.not_not.mp h45
            refine g_iconst (v := nI 1) C dX6_rule_48 (by decide) 49 rfl ?_
            refine g_goto C dX6_rule_49 91 (by decide) ?_
            refine g_istore (lv' := [(6, .int (nI 1)), (0, .ref o0), (1, .int (nI p)), (2, .int (nI s)), (3, .int (nI q)), (4, .int (oI a)), (5, .int (oI b))]) C dX6_rule_91 93 rfl (by decide) rfl ?_
            refine g_iload C dX6_rule_93 95 rfl 0 rfl ?_
            refine g_if_ne (X := ¬ 1 = 0) C dX6_rule_95 101 (by decide) 98 rfl (not_congr (nI_eq0 (by omega))) ?_ ?_
            · intro h95
              refine g_aload_n C dX6_rule_101 rfl 102 rfl 1 rfl ?_
              refine g_get C iX6 0 rfl rfl 0 (by decide) (C.1.2.2.2.2 (.fieldLink RX6 12 "StackRuns" "rules" "LStackRuns$Rules;") (List.mem_of_getElem? (i := 1) rfl)) rfl dX6_rule_102 105 rfl ?_
              refine g_getN C iX4 1 rfl rfl 2 (by decide) (nf_RX6_55 C.2.2.1 _) rfl dX6_rule_105 108 rfl ?_
              refine g_bipush (v := nI 30) C dX6_rule_108 (by decide) 110 rfl ?_
              refine g_icmp_ne (X := ¬ z = 30) C dX6_rule_110 116 (by decide) 113 rfl (not_congr (nI_eq (by omega) (by omega))) ?_ ?_
              · intro h110
                refine g_aload_n C dX6_rule_116 rfl 117 rfl 1 rfl ?_
                refine g_get C iX6 0 rfl rfl 0 (by decide) (C.1.2.2.2.2 (.fieldLink RX6 12 "StackRuns" "rules" "LStackRuns$Rules;") (List.mem_of_getElem? (i := 1) rfl)) rfl dX6_rule_117 120 rfl ?_
                refine g_iload_n C dX6_rule_120 rfl 121 rfl 2 rfl ?_
                refine g_iload_n C dX6_rule_121 rfl 122 rfl 3 rfl ?_
                refine g_cSi (ws2 := [ob o0 6 [.ref h0, .ref g0, .ref qn, .ref k0, .ref e0, .ref d0, .int (nI ns)], ob h0 4 [.int (nI n), .int (nI m), .int (nI z), .int (nI st), .ref qh, .ref qt, .ref qp, .ref qb], aN (eY E) qh 30 Hd, aN (eY E) qt 30 To, aO (eY E) qp 30 Tp, aO (eY E) qb 30 Bl]) (As := [.int (nI p), .int (nI s)]) (st := [.ref h0]) (wsc := []) (wr := [ob o0 6 [.ref h0, .ref g0, .ref qn, .ref k0, .ref e0, .ref d0, .int (nI ns)], ob h0 4 [.int (nI n), .int (nI m), .int (nI z), .int (nI st), .ref qh, .ref qt, .ref qp, .ref qb], aN (eY E) qh 30 Hd, aN (eY E) qt 30 To, aO (eY E) qp 30 Tp, aO (eY E) qb 30 Bl]) C (c_X6_headOf (eL E) (eD E) (eY E) p s ) 2 gX6_rule_X6_headOf rfl (by decide +kernel) (by decide) ⟨Nat.zero_le _, Nat.zero_le _⟩ rfl rfl (Nat.le_of_ble_eq_true rfl) [] [0, 1, 2, 3, 4, 5] [0, 1, 2, 3, 4, 5] rfl rfl (by decide) (by decide) rfl (by decide) dX6_rule_122 125 rfl ?_
                refine g_iload_n C dX6_rule_125 rfl 126 rfl 4 rfl ?_
                refine g_iload C dX6_rule_126 128 rfl 5 rfl ?_
                refine g_iload C dX6_rule_128 130 rfl 6 rfl ?_
                refine g_cVi (ws2 := [ob o0 6 [.ref h0, .ref g0, .ref qn, .ref k0, .ref e0, .ref d0, .int (nI ns)], ob h0 4 [.int (nI n), .int (nI m), .int (nI (z + 1)), .int (nI (st + 1)), .ref qh, .ref qt, .ref qp, .ref qb], aN (eY E) qh 30 (up Hd z (p * 5 + s)), aN (eY E) qt 30 (up To z q), aO (eY E) qp 30 (up Tp z a), aO (eY E) qb 30 (up Bl z b)]) (As := [.int (nI (p * 5 + s)), .int (nI q), .int (oI a), .int (oI b)]) (st := []) (wsc := [ob h0 4 [.int (nI n), .int (nI m), .int (nI z), .int (nI st), .ref qh, .ref qt, .ref qp, .ref qb], aN (eY E) qh 30 Hd, aN (eY E) qt 30 To, aO (eY E) qp 30 Tp, aO (eY E) qb 30 Bl]) (wr := [ob o0 6 [.ref h0, .ref g0, .ref qn, .ref k0, .ref e0, .ref d0, .int (nI ns)]]) C (c_X4_add (eL E) (eD E) (eY E) h0 n m z st qh qt qp qb Hd To Tp Bl (p * 5 + s) q a b (by omega)) 4 gX6_rule_X4_add rfl (by decide +kernel) (by decide) ⟨Nat.zero_le _, Nat.zero_le _⟩ rfl 0 rfl rfl rfl (Nat.le_of_ble_eq_true rfl) [1, 2, 3, 4, 5] [0] [0, 1, 2, 3, 4, 5] rfl rfl (by decide) (by decide) rfl (by decide) dX6_rule_130 133 rfl ?_
                exact hret _ _ dX6_rule_133
              · intro h110
                have h110 : z = 30 := Decidable.not_not.mp h110
                exact (show False from by omega).elim
            · intro h95
              have h95 : 1 = 0 := Decidable.not_not.mp h95
              exact absurd h95 (by decide)
      · intro h30
        have h30 : inR (nI q) n = false := by simpa using h30
        exact (show False from by first | exact Bool.noConfusion (h8.symm.trans v1) | exact Bool.noConfusion (h19.symm.trans v2) | exact Bool.noConfusion (h30.symm.trans v3)).elim
set_option maxHeartbeats 4000000 in
set_option maxRecDepth 100000 in
theorem c_X6_unrule_not (l : Launch) (D : va_G) (cy : Nat → ClassId) (o0 : Nat) (qn : Nat) (ns : Nat) (g0 : Nat) (k0 : Nat) (e0 : Nat) (d0 : Nat) (h0 : Nat) (n : Nat) (m : Nat) (z : Nat) (st : Nat) (qh : Nat) (qt : Nat) (qp : Nat) (qb : Nat) (hz : z = 0) : CoI l yX6_unrule wsX6_unrule 0 0 D cy [ob o0 6 [.ref h0, .ref g0, .ref qn, .ref k0, .ref e0, .ref d0, .int (nI ns)], ob h0 4 [.int (nI n), .int (nI m), .int (nI z), .int (nI st), .ref qh, .ref qt, .ref qp, .ref qb]] [.ref o0] [ob o0 6 [.ref h0, .ref g0, .ref qn, .ref k0, .ref e0, .ref d0, .int (nI ns)], ob h0 4 [.int (nI n), .int (nI m), .int (nI z), .int (nI st), .ref qh, .ref qt, .ref qp, .ref qb]] (-3) := by
  refine met_i (cc := cX6_unrule) (maxL := 1) (own := RX6) (lv := [(0, .ref o0)]) (by decide) rfl rfl rfl (Nat.le_of_ble_eq_true rfl) (fun E e1 e2 e3 C hret => ?_)
  subst e1; subst e2; subst e3
  have iX4 : ∀ w ∈ wsX40, w ∈ wsX6_unrule := fun _ h => List.mem_cons_of_mem _ (List.mem_append_right _ h)
  have iX6 : ∀ w ∈ wsX60, w ∈ wsX6_unrule := fun _ h => List.mem_cons_of_mem _ (List.mem_append_left _ (List.mem_append_right _ h))
  refine g_aload_n C dX6_unrule_0 rfl 1 rfl 0 rfl ?_
  refine g_get C iX6 0 rfl rfl 0 (by decide) (C.1.2.2.2.2 (.fieldLink RX6 12 "StackRuns" "rules" "LStackRuns$Rules;") (List.mem_of_getElem? (i := 1) rfl)) rfl dX6_unrule_1 4 rfl ?_
  refine g_getN C iX4 1 rfl rfl 2 (by decide) (nf_RX6_55 C.2.2.1 _) rfl dX6_unrule_4 7 rfl ?_
  refine g_if_ne (X := ¬ z = 0) C dX6_unrule_7 13 (by decide) 10 rfl (not_congr (nI_eq0 (by omega))) ?_ ?_
  · intro h7
    exact (show False from by omega).elim
  · intro h7
    have h7 : z = 0 := Decidable.not_not.mp h7
    refine g_bipush (v := (-3)) C dX6_unrule_10 (by decide) 12 rfl ?_
    exact hret _ _ dX6_unrule_12
set_option maxHeartbeats 4000000 in
set_option maxRecDepth 100000 in
theorem c_X6_unrule_ok (l : Launch) (D : va_G) (cy : Nat → ClassId) (o0 : Nat) (qn : Nat) (ns : Nat) (g0 : Nat) (k0 : Nat) (e0 : Nat) (d0 : Nat) (h0 : Nat) (n : Nat) (m : Nat) (z : Nat) (st : Nat) (qh : Nat) (qt : Nat) (qp : Nat) (qb : Nat) (hz : 0 < z ∧ z ≤ 30) : CoI l yX6_unrule wsX6_unrule 1 20 D cy [ob o0 6 [.ref h0, .ref g0, .ref qn, .ref k0, .ref e0, .ref d0, .int (nI ns)], ob h0 4 [.int (nI n), .int (nI m), .int (nI z), .int (nI st), .ref qh, .ref qt, .ref qp, .ref qb]] [.ref o0] [ob o0 6 [.ref h0, .ref g0, .ref qn, .ref k0, .ref e0, .ref d0, .int (nI ns)], ob h0 4 [.int (nI n), .int (nI m), .int (nI (z - 1)), .int (nI (st + 1)), .ref qh, .ref qt, .ref qp, .ref qb]] (nI (z - 1)) := by
  refine met_i (cc := cX6_unrule) (maxL := 1) (own := RX6) (lv := [(0, .ref o0)]) (by decide) rfl rfl rfl (Nat.le_of_ble_eq_true rfl) (fun E e1 e2 e3 C hret => ?_)
  subst e1; subst e2; subst e3
  have iX4 : ∀ w ∈ wsX40, w ∈ wsX6_unrule := fun _ h => List.mem_cons_of_mem _ (List.mem_append_right _ h)
  have iX6 : ∀ w ∈ wsX60, w ∈ wsX6_unrule := fun _ h => List.mem_cons_of_mem _ (List.mem_append_left _ (List.mem_append_right _ h))
  refine g_aload_n C dX6_unrule_0 rfl 1 rfl 0 rfl ?_
  refine g_get C iX6 0 rfl rfl 0 (by decide) (C.1.2.2.2.2 (.fieldLink RX6 12 "StackRuns" "rules" "LStackRuns$Rules;") (List.mem_of_getElem? (i := 1) rfl)) rfl dX6_unrule_1 4 rfl ?_
  refine g_getN C iX4 1 rfl rfl 2 (by decide) (nf_RX6_55 C.2.2.1 _) rfl dX6_unrule_4 7 rfl ?_
  refine g_if_ne (X := ¬ z = 0) C dX6_unrule_7 13 (by decide) 10 rfl (not_congr (nI_eq0 (by omega))) ?_ ?_
  · intro h7
    refine g_aload_n C dX6_unrule_13 rfl 14 rfl 0 rfl ?_
    refine g_get C iX6 0 rfl rfl 0 (by decide) (C.1.2.2.2.2 (.fieldLink RX6 12 "StackRuns" "rules" "LStackRuns$Rules;") (List.mem_of_getElem? (i := 1) rfl)) rfl dX6_unrule_14 17 rfl ?_
    refine g_cVi (ws2 := [ob o0 6 [.ref h0, .ref g0, .ref qn, .ref k0, .ref e0, .ref d0, .int (nI ns)], ob h0 4 [.int (nI n), .int (nI m), .int (nI (z - 1)), .int (nI (st + 1)), .ref qh, .ref qt, .ref qp, .ref qb]]) (As := []) (st := []) (wsc := [ob h0 4 [.int (nI n), .int (nI m), .int (nI z), .int (nI st), .ref qh, .ref qt, .ref qp, .ref qb]]) (wr := [ob o0 6 [.ref h0, .ref g0, .ref qn, .ref k0, .ref e0, .ref d0, .int (nI ns)]]) C (c_X4_dropNewest (eL E) (eD E) (eY E) h0 n m z st qh qt qp qb (by omega)) 0 gX6_unrule_X4_dropNewest rfl (by decide +kernel) (by decide) ⟨Nat.zero_le _, Nat.zero_le _⟩ rfl 0 rfl rfl rfl (Nat.le_of_ble_eq_true rfl) [1] [0] [0, 1] rfl rfl (by decide) (by decide) rfl (by decide) dX6_unrule_17 20 rfl ?_
    exact hret _ _ dX6_unrule_20
  · intro h7
    have h7 : z = 0 := Decidable.not_not.mp h7
    exact (show False from by omega).elim
set_option maxHeartbeats 4000000 in
set_option maxRecDepth 100000 in
theorem c_X6_stand_bad (l : Launch) (D : va_G) (cy : Nat → ClassId) (o0 : Nat) (qn : Nat) (ns : Nat) (k0 : Nat) (e0 : Nat) (d0 : Nat) (h0 : Nat) (n : Nat) (m : Nat) (z : Nat) (st : Nat) (qh : Nat) (qt : Nat) (qp : Nat) (qb : Nat) (g0 : Nat) (c : Nat) (h : Nat) (qs : Nat) (p : Int32) (hn : n ≤ 5) (hb : inR p n = false) : CoI l yX6_stand wsX6_stand 1 21 D cy [ob o0 6 [.ref h0, .ref g0, .ref qn, .ref k0, .ref e0, .ref d0, .int (nI ns)], ob h0 4 [.int (nI n), .int (nI m), .int (nI z), .int (nI st), .ref qh, .ref qt, .ref qp, .ref qb], ob g0 5 [.int (nI c), .int (nI h), .ref qs]] [.ref o0, .int p] [ob o0 6 [.ref h0, .ref g0, .ref qn, .ref k0, .ref e0, .ref d0, .int (nI ns)], ob h0 4 [.int (nI n), .int (nI m), .int (nI z), .int (nI st), .ref qh, .ref qt, .ref qp, .ref qb], ob g0 5 [.int (nI c), .int (nI h), .ref qs]] (-2) := by
  refine met_i (cc := cX6_stand) (maxL := 3) (own := RX6) (lv := [(0, .ref o0), (1, .int p)]) (by decide) rfl rfl rfl (Nat.le_of_ble_eq_true rfl) (fun E e1 e2 e3 C hret => ?_)
  subst e1; subst e2; subst e3
  have iX6 : ∀ w ∈ wsX60, w ∈ wsX6_stand := fun _ h => List.mem_cons_of_mem _ (List.mem_append_left _ (List.mem_append_left _ (List.mem_append_right _ h)))
  refine g_aload_n C dX6_stand_0 rfl 1 rfl 0 rfl ?_
  refine g_get C iX6 0 rfl rfl 0 (by decide) (C.1.2.2.2.2 (.fieldLink RX6 12 "StackRuns" "rules" "LStackRuns$Rules;") (List.mem_of_getElem? (i := 1) rfl)) rfl dX6_stand_1 4 rfl ?_
  refine g_iload_n C dX6_stand_4 rfl 5 rfl 1 rfl ?_
  refine g_cVi (ws2 := [ob o0 6 [.ref h0, .ref g0, .ref qn, .ref k0, .ref e0, .ref d0, .int (nI ns)], ob h0 4 [.int (nI n), .int (nI m), .int (nI z), .int (nI st), .ref qh, .ref qt, .ref qp, .ref qb], ob g0 5 [.int (nI c), .int (nI h), .ref qs]]) (As := [.int p]) (st := []) (wsc := [ob h0 4 [.int (nI n), .int (nI m), .int (nI z), .int (nI st), .ref qh, .ref qt, .ref qp, .ref qb]]) (wr := [ob o0 6 [.ref h0, .ref g0, .ref qn, .ref k0, .ref e0, .ref d0, .int (nI ns)], ob g0 5 [.int (nI c), .int (nI h), .ref qs]]) C (c_X4_isControl (eL E) (eD E) (eY E) h0 n m z st qh qt qp qb p (by omega)) 1 gX6_stand_X4_isControl rfl (by decide +kernel) (by decide) ⟨Nat.zero_le _, Nat.zero_le _⟩ rfl 0 rfl rfl rfl (Nat.le_of_ble_eq_true rfl) [1] [0, 2] [0, 2, 1] rfl rfl (by decide) (by decide) rfl (by decide) dX6_stand_5 8 rfl ?_
  refine g_if_ne (X := inR p n = true) C dX6_stand_8 14 (by decide) 11 rfl (bI_ne0 _) ?_ ?_
  · intro h8
    exact (show False from by exact Bool.noConfusion (hb.symm.trans h8)).elim
  · intro h8
    have h8 : inR p n = false := by simpa using h8
    refine g_bipush (v := (-2)) C dX6_stand_11 (by decide) 13 rfl ?_
    exact hret _ _ dX6_stand_13
set_option maxHeartbeats 4000000 in
set_option maxRecDepth 100000 in
theorem c_X6_stand_ok (l : Launch) (D : va_G) (cy : Nat → ClassId) (o0 : Nat) (qn : Nat) (ns : Nat) (k0 : Nat) (e0 : Nat) (d0 : Nat) (h0 : Nat) (n : Nat) (m : Nat) (z : Nat) (st : Nat) (qh : Nat) (qt : Nat) (qp : Nat) (qb : Nat) (g0 : Nat) (c : Nat) (h : Nat) (qs : Nat) (p : Nat) (hn : n ≤ 5) (hp : p < n) : CoI l yX6_stand wsX6_stand 1 21 D cy [ob o0 6 [.ref h0, .ref g0, .ref qn, .ref k0, .ref e0, .ref d0, .int (nI ns)], ob h0 4 [.int (nI n), .int (nI m), .int (nI z), .int (nI st), .ref qh, .ref qt, .ref qp, .ref qb], ob g0 5 [.int (nI c), .int (nI h), .ref qs]] [.ref o0, .int (nI p)] [ob o0 6 [.ref h0, .ref g0, .ref qn, .ref k0, .ref e0, .ref d0, .int (nI ns)], ob h0 4 [.int (nI n), .int (nI m), .int (nI z), .int (nI st), .ref qh, .ref qt, .ref qp, .ref qb], ob g0 5 [.int (nI p), .int (nI 0), .ref qs]] (nI h) := by
  refine met_i (cc := cX6_stand) (maxL := 3) (own := RX6) (lv := [(0, .ref o0), (1, .int (nI p))]) (by decide) rfl rfl rfl (Nat.le_of_ble_eq_true rfl) (fun E e1 e2 e3 C hret => ?_)
  subst e1; subst e2; subst e3
  have iX5 : ∀ w ∈ wsX50, w ∈ wsX6_stand := fun _ h => List.mem_cons_of_mem _ (List.mem_append_left _ (List.mem_append_right _ h))
  have iX6 : ∀ w ∈ wsX60, w ∈ wsX6_stand := fun _ h => List.mem_cons_of_mem _ (List.mem_append_left _ (List.mem_append_left _ (List.mem_append_right _ h)))
  have v1 : inR (nI p) n = true := inR_yes hp (by omega)
  refine g_aload_n C dX6_stand_0 rfl 1 rfl 0 rfl ?_
  refine g_get C iX6 0 rfl rfl 0 (by decide) (C.1.2.2.2.2 (.fieldLink RX6 12 "StackRuns" "rules" "LStackRuns$Rules;") (List.mem_of_getElem? (i := 1) rfl)) rfl dX6_stand_1 4 rfl ?_
  refine g_iload_n C dX6_stand_4 rfl 5 rfl 1 rfl ?_
  refine g_cVi (ws2 := [ob o0 6 [.ref h0, .ref g0, .ref qn, .ref k0, .ref e0, .ref d0, .int (nI ns)], ob h0 4 [.int (nI n), .int (nI m), .int (nI z), .int (nI st), .ref qh, .ref qt, .ref qp, .ref qb], ob g0 5 [.int (nI c), .int (nI h), .ref qs]]) (As := [.int (nI p)]) (st := []) (wsc := [ob h0 4 [.int (nI n), .int (nI m), .int (nI z), .int (nI st), .ref qh, .ref qt, .ref qp, .ref qb]]) (wr := [ob o0 6 [.ref h0, .ref g0, .ref qn, .ref k0, .ref e0, .ref d0, .int (nI ns)], ob g0 5 [.int (nI c), .int (nI h), .ref qs]]) C (c_X4_isControl (eL E) (eD E) (eY E) h0 n m z st qh qt qp qb (nI p) (by omega)) 1 gX6_stand_X4_isControl rfl (by decide +kernel) (by decide) ⟨Nat.zero_le _, Nat.zero_le _⟩ rfl 0 rfl rfl rfl (Nat.le_of_ble_eq_true rfl) [1] [0, 2] [0, 2, 1] rfl rfl (by decide) (by decide) rfl (by decide) dX6_stand_5 8 rfl ?_
  refine g_if_ne (X := inR (nI p) n = true) C dX6_stand_8 14 (by decide) 11 rfl (bI_ne0 _) ?_ ?_
  · intro h8
    refine g_aload_n C dX6_stand_14 rfl 15 rfl 0 rfl ?_
    refine g_get C iX6 0 rfl rfl 1 (by decide) (C.1.2.2.2.2 (.fieldLink RX6 19 "StackRuns" "here" "LStackRuns$Stand;") (List.mem_of_getElem? (i := 2) rfl)) rfl dX6_stand_15 18 rfl ?_
    refine g_getN C iX5 2 rfl rfl 1 (by decide) (nf_RX6_84 C.2.2.1 _) rfl dX6_stand_18 21 rfl ?_
    refine g_istore_n (lv' := [(2, .int (nI h)), (0, .ref o0), (1, .int (nI p))]) C dX6_stand_21 rfl 22 rfl (by decide) rfl ?_
    refine g_aload_n C dX6_stand_22 rfl 23 rfl 1 rfl ?_
    refine g_get C iX6 0 rfl rfl 1 (by decide) (C.1.2.2.2.2 (.fieldLink RX6 19 "StackRuns" "here" "LStackRuns$Stand;") (List.mem_of_getElem? (i := 2) rfl)) rfl dX6_stand_23 26 rfl ?_
    refine g_iload_n C dX6_stand_26 rfl 27 rfl 2 rfl ?_
    refine g_cVv (ws2 := [ob o0 6 [.ref h0, .ref g0, .ref qn, .ref k0, .ref e0, .ref d0, .int (nI ns)], ob h0 4 [.int (nI n), .int (nI m), .int (nI z), .int (nI st), .ref qh, .ref qt, .ref qp, .ref qb], ob g0 5 [.int (nI p), .int (nI 0), .ref qs]]) (As := [.int (nI p)]) (st := []) (wsc := [ob g0 5 [.int (nI c), .int (nI h), .ref qs]]) (wr := [ob o0 6 [.ref h0, .ref g0, .ref qn, .ref k0, .ref e0, .ref d0, .int (nI ns)], ob h0 4 [.int (nI n), .int (nI m), .int (nI z), .int (nI st), .ref qh, .ref qt, .ref qp, .ref qb]]) C (c_X5_restart (eL E) (eD E) (eY E) g0 c h qs p ) 1 gX6_stand_X5_restart rfl (by decide +kernel) (by decide) ⟨Nat.zero_le _, Nat.zero_le _⟩ rfl 0 rfl rfl rfl (Nat.le_of_ble_eq_true rfl) [2] [0, 1] [0, 1, 2] rfl rfl (by decide) (by decide) rfl (by decide) dX6_stand_27 30 rfl ?_
    refine g_iload_n C dX6_stand_30 rfl 31 rfl 0 rfl ?_
    exact hret _ _ dX6_stand_31
  · intro h8
    have h8 : inR (nI p) n = false := by simpa using h8
    exact (show False from by exact Bool.noConfusion (h8.symm.trans v1)).elim
set_option maxHeartbeats 4000000 in
set_option maxRecDepth 100000 in
theorem c_X6_push_bad (l : Launch) (D : va_G) (cy : Nat → ClassId) (o0 : Nat) (qn : Nat) (ns : Nat) (k0 : Nat) (e0 : Nat) (d0 : Nat) (h0 : Nat) (n : Nat) (m : Nat) (z : Nat) (st : Nat) (qh : Nat) (qt : Nat) (qp : Nat) (qb : Nat) (g0 : Nat) (c : Nat) (h : Nat) (qs : Nat) (Sg : Nat → Nat) (s : Int32) (hm : m ≤ 5) (hb : inR s m = false) : CoI l yX6_push wsX6_push 1 21 D cy [ob o0 6 [.ref h0, .ref g0, .ref qn, .ref k0, .ref e0, .ref d0, .int (nI ns)], ob h0 4 [.int (nI n), .int (nI m), .int (nI z), .int (nI st), .ref qh, .ref qt, .ref qp, .ref qb], ob g0 5 [.int (nI c), .int (nI h), .ref qs], aN cy qs 60 Sg] [.ref o0, .int s] [ob o0 6 [.ref h0, .ref g0, .ref qn, .ref k0, .ref e0, .ref d0, .int (nI ns)], ob h0 4 [.int (nI n), .int (nI m), .int (nI z), .int (nI st), .ref qh, .ref qt, .ref qp, .ref qb], ob g0 5 [.int (nI c), .int (nI h), .ref qs], aN cy qs 60 Sg] (-2) := by
  refine met_i (cc := cX6_push) (maxL := 2) (own := RX6) (lv := [(0, .ref o0), (1, .int s)]) (by decide) rfl rfl rfl (Nat.le_of_ble_eq_true rfl) (fun E e1 e2 e3 C hret => ?_)
  subst e1; subst e2; subst e3
  have iX6 : ∀ w ∈ wsX60, w ∈ wsX6_push := fun _ h => List.mem_cons_of_mem _ (List.mem_append_left _ (List.mem_append_left _ (List.mem_append_right _ h)))
  refine g_aload_n C dX6_push_0 rfl 1 rfl 0 rfl ?_
  refine g_get C iX6 0 rfl rfl 0 (by decide) (C.1.2.2.2.2 (.fieldLink RX6 12 "StackRuns" "rules" "LStackRuns$Rules;") (List.mem_of_getElem? (i := 1) rfl)) rfl dX6_push_1 4 rfl ?_
  refine g_iload_n C dX6_push_4 rfl 5 rfl 1 rfl ?_
  refine g_cVi (ws2 := [ob o0 6 [.ref h0, .ref g0, .ref qn, .ref k0, .ref e0, .ref d0, .int (nI ns)], ob h0 4 [.int (nI n), .int (nI m), .int (nI z), .int (nI st), .ref qh, .ref qt, .ref qp, .ref qb], ob g0 5 [.int (nI c), .int (nI h), .ref qs], aN (eY E) qs 60 Sg]) (As := [.int s]) (st := []) (wsc := [ob h0 4 [.int (nI n), .int (nI m), .int (nI z), .int (nI st), .ref qh, .ref qt, .ref qp, .ref qb]]) (wr := [ob o0 6 [.ref h0, .ref g0, .ref qn, .ref k0, .ref e0, .ref d0, .int (nI ns)], ob g0 5 [.int (nI c), .int (nI h), .ref qs], aN (eY E) qs 60 Sg]) C (c_X4_isSign (eL E) (eD E) (eY E) h0 n m z st qh qt qp qb s (by omega)) 1 gX6_push_X4_isSign rfl (by decide +kernel) (by decide) ⟨Nat.zero_le _, Nat.zero_le _⟩ rfl 0 rfl rfl rfl (Nat.le_of_ble_eq_true rfl) [1] [0, 2, 3] [0, 3, 1, 2] rfl rfl (by decide) (by decide) rfl (by decide) dX6_push_5 8 rfl ?_
  refine g_if_ne (X := inR s m = true) C dX6_push_8 14 (by decide) 11 rfl (bI_ne0 _) ?_ ?_
  · intro h8
    exact (show False from by exact Bool.noConfusion (hb.symm.trans h8)).elim
  · intro h8
    have h8 : inR s m = false := by simpa using h8
    refine g_bipush (v := (-2)) C dX6_push_11 (by decide) 13 rfl ?_
    exact hret _ _ dX6_push_13
set_option maxHeartbeats 4000000 in
set_option maxRecDepth 100000 in
theorem c_X6_push_full (l : Launch) (D : va_G) (cy : Nat → ClassId) (o0 : Nat) (qn : Nat) (ns : Nat) (k0 : Nat) (e0 : Nat) (d0 : Nat) (h0 : Nat) (n : Nat) (m : Nat) (z : Nat) (st : Nat) (qh : Nat) (qt : Nat) (qp : Nat) (qb : Nat) (g0 : Nat) (c : Nat) (h : Nat) (qs : Nat) (Sg : Nat → Nat) (s : Nat) (hm : m ≤ 5) (hs : s < m) (hh : h = 60) : CoI l yX6_push wsX6_push 1 21 D cy [ob o0 6 [.ref h0, .ref g0, .ref qn, .ref k0, .ref e0, .ref d0, .int (nI ns)], ob h0 4 [.int (nI n), .int (nI m), .int (nI z), .int (nI st), .ref qh, .ref qt, .ref qp, .ref qb], ob g0 5 [.int (nI c), .int (nI h), .ref qs], aN cy qs 60 Sg] [.ref o0, .int (nI s)] [ob o0 6 [.ref h0, .ref g0, .ref qn, .ref k0, .ref e0, .ref d0, .int (nI ns)], ob h0 4 [.int (nI n), .int (nI m), .int (nI z), .int (nI st), .ref qh, .ref qt, .ref qp, .ref qb], ob g0 5 [.int (nI c), .int (nI h), .ref qs], aN cy qs 60 Sg] (-4) := by
  refine met_i (cc := cX6_push) (maxL := 2) (own := RX6) (lv := [(0, .ref o0), (1, .int (nI s))]) (by decide) rfl rfl rfl (Nat.le_of_ble_eq_true rfl) (fun E e1 e2 e3 C hret => ?_)
  subst e1; subst e2; subst e3
  have iX5 : ∀ w ∈ wsX50, w ∈ wsX6_push := fun _ h => List.mem_cons_of_mem _ (List.mem_append_left _ (List.mem_append_right _ h))
  have iX6 : ∀ w ∈ wsX60, w ∈ wsX6_push := fun _ h => List.mem_cons_of_mem _ (List.mem_append_left _ (List.mem_append_left _ (List.mem_append_right _ h)))
  have v1 : inR (nI s) m = true := inR_yes hs (by omega)
  refine g_aload_n C dX6_push_0 rfl 1 rfl 0 rfl ?_
  refine g_get C iX6 0 rfl rfl 0 (by decide) (C.1.2.2.2.2 (.fieldLink RX6 12 "StackRuns" "rules" "LStackRuns$Rules;") (List.mem_of_getElem? (i := 1) rfl)) rfl dX6_push_1 4 rfl ?_
  refine g_iload_n C dX6_push_4 rfl 5 rfl 1 rfl ?_
  refine g_cVi (ws2 := [ob o0 6 [.ref h0, .ref g0, .ref qn, .ref k0, .ref e0, .ref d0, .int (nI ns)], ob h0 4 [.int (nI n), .int (nI m), .int (nI z), .int (nI st), .ref qh, .ref qt, .ref qp, .ref qb], ob g0 5 [.int (nI c), .int (nI h), .ref qs], aN (eY E) qs 60 Sg]) (As := [.int (nI s)]) (st := []) (wsc := [ob h0 4 [.int (nI n), .int (nI m), .int (nI z), .int (nI st), .ref qh, .ref qt, .ref qp, .ref qb]]) (wr := [ob o0 6 [.ref h0, .ref g0, .ref qn, .ref k0, .ref e0, .ref d0, .int (nI ns)], ob g0 5 [.int (nI c), .int (nI h), .ref qs], aN (eY E) qs 60 Sg]) C (c_X4_isSign (eL E) (eD E) (eY E) h0 n m z st qh qt qp qb (nI s) (by omega)) 1 gX6_push_X4_isSign rfl (by decide +kernel) (by decide) ⟨Nat.zero_le _, Nat.zero_le _⟩ rfl 0 rfl rfl rfl (Nat.le_of_ble_eq_true rfl) [1] [0, 2, 3] [0, 3, 1, 2] rfl rfl (by decide) (by decide) rfl (by decide) dX6_push_5 8 rfl ?_
  refine g_if_ne (X := inR (nI s) m = true) C dX6_push_8 14 (by decide) 11 rfl (bI_ne0 _) ?_ ?_
  · intro h8
    refine g_aload_n C dX6_push_14 rfl 15 rfl 0 rfl ?_
    refine g_get C iX6 0 rfl rfl 1 (by decide) (C.1.2.2.2.2 (.fieldLink RX6 19 "StackRuns" "here" "LStackRuns$Stand;") (List.mem_of_getElem? (i := 2) rfl)) rfl dX6_push_15 18 rfl ?_
    refine g_getN C iX5 2 rfl rfl 1 (by decide) (nf_RX6_84 C.2.2.1 _) rfl dX6_push_18 21 rfl ?_
    refine g_bipush (v := nI 60) C dX6_push_21 (by decide) 23 rfl ?_
    refine g_icmp_ne (X := ¬ h = 60) C dX6_push_23 29 (by decide) 26 rfl (not_congr (nI_eq (by omega) (by omega))) ?_ ?_
    · intro h23
      exact (show False from by omega).elim
    · intro h23
      have h23 : h = 60 := Decidable.not_not.mp h23
      refine g_bipush (v := (-4)) C dX6_push_26 (by decide) 28 rfl ?_
      exact hret _ _ dX6_push_28
  · intro h8
    have h8 : inR (nI s) m = false := by simpa using h8
    exact (show False from by exact Bool.noConfusion (h8.symm.trans v1)).elim
set_option maxHeartbeats 4000000 in
set_option maxRecDepth 100000 in
theorem c_X6_push_ok (l : Launch) (D : va_G) (cy : Nat → ClassId) (o0 : Nat) (qn : Nat) (ns : Nat) (k0 : Nat) (e0 : Nat) (d0 : Nat) (h0 : Nat) (n : Nat) (m : Nat) (z : Nat) (st : Nat) (qh : Nat) (qt : Nat) (qp : Nat) (qb : Nat) (g0 : Nat) (c : Nat) (h : Nat) (qs : Nat) (Sg : Nat → Nat) (s : Nat) (hm : m ≤ 5) (hs : s < m) (hh : h < 60) : CoI l yX6_push wsX6_push 1 21 D cy [ob o0 6 [.ref h0, .ref g0, .ref qn, .ref k0, .ref e0, .ref d0, .int (nI ns)], ob h0 4 [.int (nI n), .int (nI m), .int (nI z), .int (nI st), .ref qh, .ref qt, .ref qp, .ref qb], ob g0 5 [.int (nI c), .int (nI h), .ref qs], aN cy qs 60 Sg] [.ref o0, .int (nI s)] [ob o0 6 [.ref h0, .ref g0, .ref qn, .ref k0, .ref e0, .ref d0, .int (nI ns)], ob h0 4 [.int (nI n), .int (nI m), .int (nI z), .int (nI st), .ref qh, .ref qt, .ref qp, .ref qb], ob g0 5 [.int (nI c), .int (nI (h + 1)), .ref qs], aN cy qs 60 (up Sg h s)] (nI (h + 1)) := by
  refine met_i (cc := cX6_push) (maxL := 2) (own := RX6) (lv := [(0, .ref o0), (1, .int (nI s))]) (by decide) rfl rfl rfl (Nat.le_of_ble_eq_true rfl) (fun E e1 e2 e3 C hret => ?_)
  subst e1; subst e2; subst e3
  have iX5 : ∀ w ∈ wsX50, w ∈ wsX6_push := fun _ h => List.mem_cons_of_mem _ (List.mem_append_left _ (List.mem_append_right _ h))
  have iX6 : ∀ w ∈ wsX60, w ∈ wsX6_push := fun _ h => List.mem_cons_of_mem _ (List.mem_append_left _ (List.mem_append_left _ (List.mem_append_right _ h)))
  have v1 : inR (nI s) m = true := inR_yes hs (by omega)
  refine g_aload_n C dX6_push_0 rfl 1 rfl 0 rfl ?_
  refine g_get C iX6 0 rfl rfl 0 (by decide) (C.1.2.2.2.2 (.fieldLink RX6 12 "StackRuns" "rules" "LStackRuns$Rules;") (List.mem_of_getElem? (i := 1) rfl)) rfl dX6_push_1 4 rfl ?_
  refine g_iload_n C dX6_push_4 rfl 5 rfl 1 rfl ?_
  refine g_cVi (ws2 := [ob o0 6 [.ref h0, .ref g0, .ref qn, .ref k0, .ref e0, .ref d0, .int (nI ns)], ob h0 4 [.int (nI n), .int (nI m), .int (nI z), .int (nI st), .ref qh, .ref qt, .ref qp, .ref qb], ob g0 5 [.int (nI c), .int (nI h), .ref qs], aN (eY E) qs 60 Sg]) (As := [.int (nI s)]) (st := []) (wsc := [ob h0 4 [.int (nI n), .int (nI m), .int (nI z), .int (nI st), .ref qh, .ref qt, .ref qp, .ref qb]]) (wr := [ob o0 6 [.ref h0, .ref g0, .ref qn, .ref k0, .ref e0, .ref d0, .int (nI ns)], ob g0 5 [.int (nI c), .int (nI h), .ref qs], aN (eY E) qs 60 Sg]) C (c_X4_isSign (eL E) (eD E) (eY E) h0 n m z st qh qt qp qb (nI s) (by omega)) 1 gX6_push_X4_isSign rfl (by decide +kernel) (by decide) ⟨Nat.zero_le _, Nat.zero_le _⟩ rfl 0 rfl rfl rfl (Nat.le_of_ble_eq_true rfl) [1] [0, 2, 3] [0, 3, 1, 2] rfl rfl (by decide) (by decide) rfl (by decide) dX6_push_5 8 rfl ?_
  refine g_if_ne (X := inR (nI s) m = true) C dX6_push_8 14 (by decide) 11 rfl (bI_ne0 _) ?_ ?_
  · intro h8
    refine g_aload_n C dX6_push_14 rfl 15 rfl 0 rfl ?_
    refine g_get C iX6 0 rfl rfl 1 (by decide) (C.1.2.2.2.2 (.fieldLink RX6 19 "StackRuns" "here" "LStackRuns$Stand;") (List.mem_of_getElem? (i := 2) rfl)) rfl dX6_push_15 18 rfl ?_
    refine g_getN C iX5 2 rfl rfl 1 (by decide) (nf_RX6_84 C.2.2.1 _) rfl dX6_push_18 21 rfl ?_
    refine g_bipush (v := nI 60) C dX6_push_21 (by decide) 23 rfl ?_
    refine g_icmp_ne (X := ¬ h = 60) C dX6_push_23 29 (by decide) 26 rfl (not_congr (nI_eq (by omega) (by omega))) ?_ ?_
    · intro h23
      refine g_aload_n C dX6_push_29 rfl 30 rfl 0 rfl ?_
      refine g_get C iX6 0 rfl rfl 1 (by decide) (C.1.2.2.2.2 (.fieldLink RX6 19 "StackRuns" "here" "LStackRuns$Stand;") (List.mem_of_getElem? (i := 2) rfl)) rfl dX6_push_30 33 rfl ?_
      refine g_iload_n C dX6_push_33 rfl 34 rfl 1 rfl ?_
      refine g_cVv (ws2 := [ob o0 6 [.ref h0, .ref g0, .ref qn, .ref k0, .ref e0, .ref d0, .int (nI ns)], ob h0 4 [.int (nI n), .int (nI m), .int (nI z), .int (nI st), .ref qh, .ref qt, .ref qp, .ref qb], ob g0 5 [.int (nI c), .int (nI (h + 1)), .ref qs], aN (eY E) qs 60 (up Sg h s)]) (As := [.int (nI s)]) (st := []) (wsc := [ob g0 5 [.int (nI c), .int (nI h), .ref qs], aN (eY E) qs 60 Sg]) (wr := [ob o0 6 [.ref h0, .ref g0, .ref qn, .ref k0, .ref e0, .ref d0, .int (nI ns)], ob h0 4 [.int (nI n), .int (nI m), .int (nI z), .int (nI st), .ref qh, .ref qt, .ref qp, .ref qb]]) C (c_X5_cover (eL E) (eD E) (eY E) g0 c h qs Sg s (by omega)) 1 gX6_push_X5_cover rfl (by decide +kernel) (by decide) ⟨Nat.zero_le _, Nat.zero_le _⟩ rfl 0 rfl rfl rfl (Nat.le_of_ble_eq_true rfl) [2, 3] [0, 1] [0, 1, 2, 3] rfl rfl (by decide) (by decide) rfl (by decide) dX6_push_34 37 rfl ?_
      refine g_aload_n C dX6_push_37 rfl 38 rfl 0 rfl ?_
      refine g_get C iX6 0 rfl rfl 1 (by decide) (C.1.2.2.2.2 (.fieldLink RX6 19 "StackRuns" "here" "LStackRuns$Stand;") (List.mem_of_getElem? (i := 2) rfl)) rfl dX6_push_38 41 rfl ?_
      refine g_getN C iX5 2 rfl rfl 1 (by decide) (nf_RX6_84 C.2.2.1 _) rfl dX6_push_41 44 rfl ?_
      exact hret _ _ dX6_push_44
    · intro h23
      have h23 : h = 60 := Decidable.not_not.mp h23
      exact (show False from by omega).elim
  · intro h8
    have h8 : inR (nI s) m = false := by simpa using h8
    exact (show False from by exact Bool.noConfusion (h8.symm.trans v1)).elim
set_option maxHeartbeats 4000000 in
set_option maxRecDepth 100000 in
theorem c_X6_at_bad (l : Launch) (D : va_G) (cy : Nat → ClassId) (o0 : Nat) (qn : Nat) (ns : Nat) (h0 : Nat) (k0 : Nat) (e0 : Nat) (d0 : Nat) (g0 : Nat) (c : Nat) (h : Nat) (qs : Nat) (Sg : Nat → Nat) (i : Int32) (hh : h ≤ 60) (h1 : ¬ i = -1) (hb : inR i h = false) : CoI l yX6_at wsX6_at 0 0 D cy [ob o0 6 [.ref h0, .ref g0, .ref qn, .ref k0, .ref e0, .ref d0, .int (nI ns)], ob g0 5 [.int (nI c), .int (nI h), .ref qs], aN cy qs 60 Sg] [.ref o0, .int i] [ob o0 6 [.ref h0, .ref g0, .ref qn, .ref k0, .ref e0, .ref d0, .int (nI ns)], ob g0 5 [.int (nI c), .int (nI h), .ref qs], aN cy qs 60 Sg] (-2) := by
  refine met_i (cc := cX6_at) (maxL := 2) (own := RX6) (lv := [(0, .ref o0), (1, .int i)]) (by decide) rfl rfl rfl (Nat.le_of_ble_eq_true rfl) (fun E e1 e2 e3 C hret => ?_)
  subst e1; subst e2; subst e3
  have iX5 : ∀ w ∈ wsX50, w ∈ wsX6_at := fun _ h => List.mem_cons_of_mem _ (List.mem_append_right _ h)
  have iX6 : ∀ w ∈ wsX60, w ∈ wsX6_at := fun _ h => List.mem_cons_of_mem _ (List.mem_append_left _ (List.mem_append_right _ h))
  refine g_iload_n C dX6_at_0 rfl 1 rfl 1 rfl ?_
  refine g_iconst (v := (-1)) C dX6_at_1 (by decide) 2 rfl ?_
  refine g_icmp_lt (X := i < (-1)) C dX6_at_2 16 (by decide) 5 rfl (Iff.rfl) ?_ ?_
  · intro h2
    refine g_bipush (v := (-2)) C dX6_at_16 (by decide) 18 rfl ?_
    exact hret _ _ dX6_at_18
  · intro h2
    refine g_iload_n C dX6_at_5 rfl 6 rfl 1 rfl ?_
    refine g_aload_n C dX6_at_6 rfl 7 rfl 0 rfl ?_
    refine g_get C iX6 0 rfl rfl 1 (by decide) (C.1.2.2.2.2 (.fieldLink RX6 19 "StackRuns" "here" "LStackRuns$Stand;") (List.mem_of_getElem? (i := 1) rfl)) rfl dX6_at_7 10 rfl ?_
    refine g_getN C iX5 1 rfl rfl 1 (by decide) (nf_RX6_84 C.2.2.1 _) rfl dX6_at_10 13 rfl ?_
    refine g_icmp_lt (X := i < (nI h)) C dX6_at_13 19 (by decide) 16 rfl (Iff.rfl) ?_ ?_
    · intro h13
      exact (show False from by exact Bool.noConfusion (hb.symm.trans (at_in (by omega) h1 h2 h13))).elim
    · intro h13
      refine g_bipush (v := (-2)) C dX6_at_16 (by decide) 18 rfl ?_
      exact hret _ _ dX6_at_18
set_option maxHeartbeats 4000000 in
set_option maxRecDepth 100000 in
theorem c_X6_at_c (l : Launch) (D : va_G) (cy : Nat → ClassId) (o0 : Nat) (qn : Nat) (ns : Nat) (h0 : Nat) (k0 : Nat) (e0 : Nat) (d0 : Nat) (g0 : Nat) (c : Nat) (h : Nat) (qs : Nat) (Sg : Nat → Nat) (hh : h ≤ 60) : CoI l yX6_at wsX6_at 0 0 D cy [ob o0 6 [.ref h0, .ref g0, .ref qn, .ref k0, .ref e0, .ref d0, .int (nI ns)], ob g0 5 [.int (nI c), .int (nI h), .ref qs], aN cy qs 60 Sg] [.ref o0, .int (oI 0)] [ob o0 6 [.ref h0, .ref g0, .ref qn, .ref k0, .ref e0, .ref d0, .int (nI ns)], ob g0 5 [.int (nI c), .int (nI h), .ref qs], aN cy qs 60 Sg] (nI c) := by
  refine met_i (cc := cX6_at) (maxL := 2) (own := RX6) (lv := [(0, .ref o0), (1, .int (oI 0))]) (by decide) rfl rfl rfl (Nat.le_of_ble_eq_true rfl) (fun E e1 e2 e3 C hret => ?_)
  subst e1; subst e2; subst e3
  have iX5 : ∀ w ∈ wsX50, w ∈ wsX6_at := fun _ h => List.mem_cons_of_mem _ (List.mem_append_right _ h)
  have iX6 : ∀ w ∈ wsX60, w ∈ wsX6_at := fun _ h => List.mem_cons_of_mem _ (List.mem_append_left _ (List.mem_append_right _ h))
  refine g_iload_n C dX6_at_0 rfl 1 rfl 1 rfl ?_
  refine g_iconst (v := (-1)) C dX6_at_1 (by decide) 2 rfl ?_
  refine g_icmp_lt (X := False) C dX6_at_2 16 (by decide) 5 rfl (oI_lt_m1) ?_ ?_
  · intro h2
    exact False.elim h2
  · intro h2
    refine g_iload_n C dX6_at_5 rfl 6 rfl 1 rfl ?_
    refine g_aload_n C dX6_at_6 rfl 7 rfl 0 rfl ?_
    refine g_get C iX6 0 rfl rfl 1 (by decide) (C.1.2.2.2.2 (.fieldLink RX6 19 "StackRuns" "here" "LStackRuns$Stand;") (List.mem_of_getElem? (i := 1) rfl)) rfl dX6_at_7 10 rfl ?_
    refine g_getN C iX5 1 rfl rfl 1 (by decide) (nf_RX6_84 C.2.2.1 _) rfl dX6_at_10 13 rfl ?_
    refine g_icmp_lt (X := True) C dX6_at_13 19 (by decide) 16 rfl (oI_0_lt (by omega)) ?_ ?_
    · intro h13
      refine g_iload_n C dX6_at_19 rfl 20 rfl 1 rfl ?_
      refine g_iconst (v := (-1)) C dX6_at_20 (by decide) 21 rfl ?_
      refine g_icmp_ne (X := ¬ 0 = 0) C dX6_at_21 34 (by decide) 24 rfl (not_congr (oI_eq (a := 0) (by decide))) ?_ ?_
      · intro h21
        exact absurd h21 (by decide)
      · intro h21
        have h21 : 0 = 0 := Decidable.not_not.mp h21
        refine g_aload_n C dX6_at_24 rfl 25 rfl 0 rfl ?_
        refine g_get C iX6 0 rfl rfl 1 (by decide) (C.1.2.2.2.2 (.fieldLink RX6 19 "StackRuns" "here" "LStackRuns$Stand;") (List.mem_of_getElem? (i := 1) rfl)) rfl dX6_at_25 28 rfl ?_
        refine g_getN C iX5 1 rfl rfl 0 (by decide) (nf_RX6_90 C.2.2.1 _) rfl dX6_at_28 31 rfl ?_
        refine g_goto C dX6_at_31 53 (by decide) ?_
        exact hret _ _ dX6_at_53
    · intro h13
      exact absurd trivial h13
set_option maxHeartbeats 4000000 in
set_option maxRecDepth 100000 in
theorem c_X6_at_s (l : Launch) (D : va_G) (cy : Nat → ClassId) (o0 : Nat) (qn : Nat) (ns : Nat) (h0 : Nat) (k0 : Nat) (e0 : Nat) (d0 : Nat) (g0 : Nat) (c : Nat) (h : Nat) (qs : Nat) (Sg : Nat → Nat) (i : Nat) (hh : h ≤ 60) (hi : i < h) : CoI l yX6_at wsX6_at 0 0 D cy [ob o0 6 [.ref h0, .ref g0, .ref qn, .ref k0, .ref e0, .ref d0, .int (nI ns)], ob g0 5 [.int (nI c), .int (nI h), .ref qs], aN cy qs 60 Sg] [.ref o0, .int (nI i)] [ob o0 6 [.ref h0, .ref g0, .ref qn, .ref k0, .ref e0, .ref d0, .int (nI ns)], ob g0 5 [.int (nI c), .int (nI h), .ref qs], aN cy qs 60 Sg] (nI (Sg (h - 1 - i))) := by
  refine met_i (cc := cX6_at) (maxL := 2) (own := RX6) (lv := [(0, .ref o0), (1, .int (nI i))]) (by decide) rfl rfl rfl (Nat.le_of_ble_eq_true rfl) (fun E e1 e2 e3 C hret => ?_)
  subst e1; subst e2; subst e3
  have iX5 : ∀ w ∈ wsX50, w ∈ wsX6_at := fun _ h => List.mem_cons_of_mem _ (List.mem_append_right _ h)
  have iX6 : ∀ w ∈ wsX60, w ∈ wsX6_at := fun _ h => List.mem_cons_of_mem _ (List.mem_append_left _ (List.mem_append_right _ h))
  refine g_iload_n C dX6_at_0 rfl 1 rfl 1 rfl ?_
  refine g_iconst (v := (-1)) C dX6_at_1 (by decide) 2 rfl ?_
  refine g_icmp_lt (X := False) C dX6_at_2 16 (by decide) 5 rfl (nI_lt_m1 (by omega)) ?_ ?_
  · intro h2
    exact False.elim h2
  · intro h2
    refine g_iload_n C dX6_at_5 rfl 6 rfl 1 rfl ?_
    refine g_aload_n C dX6_at_6 rfl 7 rfl 0 rfl ?_
    refine g_get C iX6 0 rfl rfl 1 (by decide) (C.1.2.2.2.2 (.fieldLink RX6 19 "StackRuns" "here" "LStackRuns$Stand;") (List.mem_of_getElem? (i := 1) rfl)) rfl dX6_at_7 10 rfl ?_
    refine g_getN C iX5 1 rfl rfl 1 (by decide) (nf_RX6_84 C.2.2.1 _) rfl dX6_at_10 13 rfl ?_
    refine g_icmp_lt (X := i < h) C dX6_at_13 19 (by decide) 16 rfl (nI_ltI (by omega) (by omega)) ?_ ?_
    · intro h13
      refine g_iload_n C dX6_at_19 rfl 20 rfl 1 rfl ?_
      refine g_iconst (v := (-1)) C dX6_at_20 (by decide) 21 rfl ?_
      refine g_icmp_ne (X := True) C dX6_at_21 34 (by decide) 24 rfl (nI_ne_m1 (by omega)) ?_ ?_
      · intro h21
        refine g_aload_n C dX6_at_34 rfl 35 rfl 0 rfl ?_
        refine g_get C iX6 0 rfl rfl 1 (by decide) (C.1.2.2.2.2 (.fieldLink RX6 19 "StackRuns" "here" "LStackRuns$Stand;") (List.mem_of_getElem? (i := 1) rfl)) rfl dX6_at_35 38 rfl ?_
        refine g_getN C iX5 1 rfl rfl 2 (by decide) (nf_RX6_93 C.2.2.1 _) rfl dX6_at_38 41 rfl ?_
        refine g_aload_n C dX6_at_41 rfl 42 rfl 0 rfl ?_
        refine g_get C iX6 0 rfl rfl 1 (by decide) (C.1.2.2.2.2 (.fieldLink RX6 19 "StackRuns" "here" "LStackRuns$Stand;") (List.mem_of_getElem? (i := 1) rfl)) rfl dX6_at_42 45 rfl ?_
        refine g_getN C iX5 1 rfl rfl 1 (by decide) (nf_RX6_84 C.2.2.1 _) rfl dX6_at_45 48 rfl ?_
        refine g_iconst (v := nI 1) C dX6_at_48 (by decide) 49 rfl ?_
        refine g_isub (z := nI (h - 1)) C dX6_at_49 50 rfl (pk_sub (by omega)) ?_
        refine g_iload_n C dX6_at_50 rfl 51 rfl 1 rfl ?_
        refine g_isub (z := nI ((h - 1) - i)) C dX6_at_51 52 rfl (pk_sub (by omega)) ?_
        refine g_iald (i := ((h - 1) - i)) C 2 rfl (by omega) (by decide) dX6_at_52 53 rfl ?_
        have e_1 : (Sg (h - 1 - i)) = (Sg ((h - 1) - i)) := by first | with_reducible rfl | (rfl)
        refine go_eq rfl (st' := [.int (nI (Sg (h - 1 - i)))]) (ws' := [ob o0 6 [.ref h0, .ref g0, .ref qn, .ref k0, .ref e0, .ref d0, .int (nI ns)], ob g0 5 [.int (nI c), .int (nI h), .ref qs], aN (eY E) qs 60 Sg]) (by first | with_reducible rfl | (simp only [e_1, oI_s, oI_0, bI_1, bI_0, and_self, reduceIte]; done)) (by first | with_reducible rfl | (simp only [e_1, oI_s, oI_0, bI_1, bI_0, and_self, reduceIte]; done)) ?_
        exact hret _ _ dX6_at_53
      · intro h21
        exact absurd trivial h21
    · intro h13
      exact (show False from by omega).elim
set_option maxHeartbeats 4000000 in
set_option maxRecDepth 100000 in
theorem c_X6_go_bad (l : Launch) (D : va_G) (cy : Nat → ClassId) (o0 : Nat) (qn : Nat) (ns : Nat) (k0 : Nat) (e0 : Nat) (d0 : Nat) (h0 : Nat) (n : Nat) (m : Nat) (z : Nat) (st : Nat) (qh : Nat) (qt : Nat) (qp : Nat) (qb : Nat) (Hd : Nat → Nat) (To : Nat → Nat) (Tp : Nat → Nat) (Bl : Nat → Nat) (g0 : Nat) (c : Nat) (h : Nat) (qs : Nat) (Sg : Nat → Nat) (r : Int32) (hz : z ≤ 30) (hb : inR r z = false) : CoI l yX6_go wsX6_go 0 0 D cy [ob o0 6 [.ref h0, .ref g0, .ref qn, .ref k0, .ref e0, .ref d0, .int (nI ns)], ob h0 4 [.int (nI n), .int (nI m), .int (nI z), .int (nI st), .ref qh, .ref qt, .ref qp, .ref qb], aN cy qh 30 Hd, aN cy qt 30 To, aO cy qp 30 Tp, aO cy qb 30 Bl, ob g0 5 [.int (nI c), .int (nI h), .ref qs], aN cy qs 60 Sg] [.ref o0, .int r] [ob o0 6 [.ref h0, .ref g0, .ref qn, .ref k0, .ref e0, .ref d0, .int (nI ns)], ob h0 4 [.int (nI n), .int (nI m), .int (nI z), .int (nI st), .ref qh, .ref qt, .ref qp, .ref qb], aN cy qh 30 Hd, aN cy qt 30 To, aO cy qp 30 Tp, aO cy qb 30 Bl, ob g0 5 [.int (nI c), .int (nI h), .ref qs], aN cy qs 60 Sg] (-2) := by
  refine met_i (cc := cX6_go) (maxL := 2) (own := RX6) (lv := [(0, .ref o0), (1, .int r)]) (by decide) rfl rfl rfl (Nat.le_of_ble_eq_true rfl) (fun E e1 e2 e3 C hret => ?_)
  subst e1; subst e2; subst e3
  have iX4 : ∀ w ∈ wsX40, w ∈ wsX6_go := fun _ h => List.mem_cons_of_mem _ (List.mem_append_left _ (List.mem_append_right _ h))
  have iX6 : ∀ w ∈ wsX60, w ∈ wsX6_go := fun _ h => List.mem_cons_of_mem _ (List.mem_append_left _ (List.mem_append_left _ (List.mem_append_right _ h)))
  refine g_iload_n C dX6_go_0 rfl 1 rfl 1 rfl ?_
  refine g_if_lt (X := r < 0) C dX6_go_1 15 (by decide) 4 rfl (Iff.rfl) ?_ ?_
  · intro h1
    refine g_bipush (v := (-2)) C dX6_go_15 (by decide) 17 rfl ?_
    exact hret _ _ dX6_go_17
  · intro h1
    refine g_iload_n C dX6_go_4 rfl 5 rfl 1 rfl ?_
    refine g_aload_n C dX6_go_5 rfl 6 rfl 0 rfl ?_
    refine g_get C iX6 0 rfl rfl 0 (by decide) (C.1.2.2.2.2 (.fieldLink RX6 12 "StackRuns" "rules" "LStackRuns$Rules;") (List.mem_of_getElem? (i := 1) rfl)) rfl dX6_go_6 9 rfl ?_
    refine g_getN C iX4 1 rfl rfl 2 (by decide) (nf_RX6_55 C.2.2.1 _) rfl dX6_go_9 12 rfl ?_
    refine g_icmp_lt (X := r < (nI z)) C dX6_go_12 18 (by decide) 15 rfl (Iff.rfl) ?_ ?_
    · intro h12
      exact (show False from by exact Bool.noConfusion (hb.symm.trans (inR_t (by omega) h1 (fun q => absurd h12 (go_nlt q))))).elim
    · intro h12
      refine g_bipush (v := (-2)) C dX6_go_15 (by decide) 17 rfl ?_
      exact hret _ _ dX6_go_17
set_option maxHeartbeats 4000000 in
set_option maxRecDepth 100000 in
theorem c_X6_go_not (l : Launch) (D : va_G) (cy : Nat → ClassId) (o0 : Nat) (qn : Nat) (ns : Nat) (k0 : Nat) (e0 : Nat) (d0 : Nat) (h0 : Nat) (n : Nat) (m : Nat) (z : Nat) (st : Nat) (qh : Nat) (qt : Nat) (qp : Nat) (qb : Nat) (Hd : Nat → Nat) (To : Nat → Nat) (Tp : Nat → Nat) (Bl : Nat → Nat) (g0 : Nat) (c : Nat) (h : Nat) (qs : Nat) (Sg : Nat → Nat) (r : Nat) (hR : ∀ r, Hd r < 25 ∧ To r < 5 ∧ Tp r ≤ 5 ∧ Bl r ≤ 5) (hz : z ≤ 30) (hc : c < 5) (hh : h ≤ 60) (hS : ∀ i, Sg i < 5) (hr : r < z) (hg : ¬ (Hd r) + 1 = headF c h Sg) : CoI l yX6_go wsX6_go 2 41 D cy [ob o0 6 [.ref h0, .ref g0, .ref qn, .ref k0, .ref e0, .ref d0, .int (nI ns)], ob h0 4 [.int (nI n), .int (nI m), .int (nI z), .int (nI st), .ref qh, .ref qt, .ref qp, .ref qb], aN cy qh 30 Hd, aN cy qt 30 To, aO cy qp 30 Tp, aO cy qb 30 Bl, ob g0 5 [.int (nI c), .int (nI h), .ref qs], aN cy qs 60 Sg] [.ref o0, .int (nI r)] [ob o0 6 [.ref h0, .ref g0, .ref qn, .ref k0, .ref e0, .ref d0, .int (nI ns)], ob h0 4 [.int (nI n), .int (nI m), .int (nI z), .int (nI st), .ref qh, .ref qt, .ref qp, .ref qb], aN cy qh 30 Hd, aN cy qt 30 To, aO cy qp 30 Tp, aO cy qb 30 Bl, ob g0 5 [.int (nI c), .int (nI h), .ref qs], aN cy qs 60 Sg] (-3) := by
  refine met_i (cc := cX6_go) (maxL := 2) (own := RX6) (lv := [(0, .ref o0), (1, .int (nI r))]) (by decide) rfl rfl rfl (Nat.le_of_ble_eq_true rfl) (fun E e1 e2 e3 C hret => ?_)
  subst e1; subst e2; subst e3
  have iX4 : ∀ w ∈ wsX40, w ∈ wsX6_go := fun _ h => List.mem_cons_of_mem _ (List.mem_append_left _ (List.mem_append_right _ h))
  have iX6 : ∀ w ∈ wsX60, w ∈ wsX6_go := fun _ h => List.mem_cons_of_mem _ (List.mem_append_left _ (List.mem_append_left _ (List.mem_append_right _ h)))
  have hR1 := hR r
  have hH := headF_lt (h := h) hc hS
  refine g_iload_n C dX6_go_0 rfl 1 rfl 1 rfl ?_
  refine g_if_lt (X := False) C dX6_go_1 15 (by decide) 4 rfl (nI_lt0 (by omega)) ?_ ?_
  · intro h1
    exact False.elim h1
  · intro h1
    refine g_iload_n C dX6_go_4 rfl 5 rfl 1 rfl ?_
    refine g_aload_n C dX6_go_5 rfl 6 rfl 0 rfl ?_
    refine g_get C iX6 0 rfl rfl 0 (by decide) (C.1.2.2.2.2 (.fieldLink RX6 12 "StackRuns" "rules" "LStackRuns$Rules;") (List.mem_of_getElem? (i := 1) rfl)) rfl dX6_go_6 9 rfl ?_
    refine g_getN C iX4 1 rfl rfl 2 (by decide) (nf_RX6_55 C.2.2.1 _) rfl dX6_go_9 12 rfl ?_
    refine g_icmp_lt (X := r < z) C dX6_go_12 18 (by decide) 15 rfl (nI_ltI (by omega) (by omega)) ?_ ?_
    · intro h12
      refine g_aload_n C dX6_go_18 rfl 19 rfl 0 rfl ?_
      refine g_get C iX6 0 rfl rfl 0 (by decide) (C.1.2.2.2.2 (.fieldLink RX6 12 "StackRuns" "rules" "LStackRuns$Rules;") (List.mem_of_getElem? (i := 1) rfl)) rfl dX6_go_19 22 rfl ?_
      refine g_getN C iX4 1 rfl rfl 4 (by decide) (nf_RX6_97 C.2.2.1 _) rfl dX6_go_22 25 rfl ?_
      refine g_iload_n C dX6_go_25 rfl 26 rfl 1 rfl ?_
      refine g_iald (i := r) C 2 rfl (by omega) (by decide) dX6_go_26 27 rfl ?_
      refine g_aload_n C dX6_go_27 rfl 28 rfl 0 rfl ?_
      refine g_get C iX6 0 rfl rfl 1 (by decide) (C.1.2.2.2.2 (.fieldLink RX6 19 "StackRuns" "here" "LStackRuns$Stand;") (List.mem_of_getElem? (i := 2) rfl)) rfl dX6_go_28 31 rfl ?_
      refine g_cVi (ws2 := [ob o0 6 [.ref h0, .ref g0, .ref qn, .ref k0, .ref e0, .ref d0, .int (nI ns)], ob h0 4 [.int (nI n), .int (nI m), .int (nI z), .int (nI st), .ref qh, .ref qt, .ref qp, .ref qb], aN (eY E) qh 30 Hd, aN (eY E) qt 30 To, aO (eY E) qp 30 Tp, aO (eY E) qb 30 Bl, ob g0 5 [.int (nI c), .int (nI h), .ref qs], aN (eY E) qs 60 Sg]) (As := []) (st := [.int (nI (Hd r))]) (wsc := [ob g0 5 [.int (nI c), .int (nI h), .ref qs], aN (eY E) qs 60 Sg]) (wr := [ob o0 6 [.ref h0, .ref g0, .ref qn, .ref k0, .ref e0, .ref d0, .int (nI ns)], ob h0 4 [.int (nI n), .int (nI m), .int (nI z), .int (nI st), .ref qh, .ref qt, .ref qp, .ref qb], aN (eY E) qh 30 Hd, aN (eY E) qt 30 To, aO (eY E) qp 30 Tp, aO (eY E) qb 30 Bl]) C (c_X5_head (eL E) (eD E) (eY E) g0 c h qs Sg (by omega)) 0 gX6_go_X5_head rfl (by decide +kernel) (by decide) ⟨Nat.zero_le _, Nat.zero_le _⟩ rfl 0 rfl rfl rfl (Nat.le_of_ble_eq_true rfl) [6, 7] [0, 1, 2, 3, 4, 5] [0, 1, 2, 3, 4, 5, 6, 7] rfl rfl (by decide) (by decide) rfl (by decide) dX6_go_31 34 rfl ?_
      refine g_icmp_eq (X := (Hd r) + 1 = headF c h Sg) C dX6_go_34 40 (by decide) 37 rfl (nI_oI (by omega) (by omega)) ?_ ?_
      · intro h34
        exact (show False from by exact hg h34).elim
      · intro h34
        refine g_bipush (v := (-3)) C dX6_go_37 (by decide) 39 rfl ?_
        exact hret _ _ dX6_go_39
    · intro h12
      exact (show False from by omega).elim
set_option maxHeartbeats 4000000 in
set_option maxRecDepth 100000 in
theorem c_X6_go_full (l : Launch) (D : va_G) (cy : Nat → ClassId) (o0 : Nat) (qn : Nat) (ns : Nat) (k0 : Nat) (e0 : Nat) (d0 : Nat) (h0 : Nat) (n : Nat) (m : Nat) (z : Nat) (st : Nat) (qh : Nat) (qt : Nat) (qp : Nat) (qb : Nat) (Hd : Nat → Nat) (To : Nat → Nat) (Tp : Nat → Nat) (Bl : Nat → Nat) (g0 : Nat) (c : Nat) (h : Nat) (qs : Nat) (Sg : Nat → Nat) (r : Nat) (hR : ∀ r, Hd r < 25 ∧ To r < 5 ∧ Tp r ≤ 5 ∧ Bl r ≤ 5) (hz : z ≤ 30) (hc : c < 5) (hh : h ≤ 60) (hS : ∀ i, Sg i < 5) (hr : r < z) (hg : (Hd r) + 1 = headF c h Sg) (hro : ¬ (Bl r = 0 ∨ h < 60)) : CoI l yX6_go wsX6_go 2 41 D cy [ob o0 6 [.ref h0, .ref g0, .ref qn, .ref k0, .ref e0, .ref d0, .int (nI ns)], ob h0 4 [.int (nI n), .int (nI m), .int (nI z), .int (nI st), .ref qh, .ref qt, .ref qp, .ref qb], aN cy qh 30 Hd, aN cy qt 30 To, aO cy qp 30 Tp, aO cy qb 30 Bl, ob g0 5 [.int (nI c), .int (nI h), .ref qs], aN cy qs 60 Sg] [.ref o0, .int (nI r)] [ob o0 6 [.ref h0, .ref g0, .ref qn, .ref k0, .ref e0, .ref d0, .int (nI ns)], ob h0 4 [.int (nI n), .int (nI m), .int (nI z), .int (nI st), .ref qh, .ref qt, .ref qp, .ref qb], aN cy qh 30 Hd, aN cy qt 30 To, aO cy qp 30 Tp, aO cy qb 30 Bl, ob g0 5 [.int (nI c), .int (nI h), .ref qs], aN cy qs 60 Sg] (-4) := by
  refine met_i (cc := cX6_go) (maxL := 2) (own := RX6) (lv := [(0, .ref o0), (1, .int (nI r))]) (by decide) rfl rfl rfl (Nat.le_of_ble_eq_true rfl) (fun E e1 e2 e3 C hret => ?_)
  subst e1; subst e2; subst e3
  have iX4 : ∀ w ∈ wsX40, w ∈ wsX6_go := fun _ h => List.mem_cons_of_mem _ (List.mem_append_left _ (List.mem_append_right _ h))
  have iX6 : ∀ w ∈ wsX60, w ∈ wsX6_go := fun _ h => List.mem_cons_of_mem _ (List.mem_append_left _ (List.mem_append_left _ (List.mem_append_right _ h)))
  have hR1 := hR r
  have hH := headF_lt (h := h) hc hS
  refine g_iload_n C dX6_go_0 rfl 1 rfl 1 rfl ?_
  refine g_if_lt (X := False) C dX6_go_1 15 (by decide) 4 rfl (nI_lt0 (by omega)) ?_ ?_
  · intro h1
    exact False.elim h1
  · intro h1
    refine g_iload_n C dX6_go_4 rfl 5 rfl 1 rfl ?_
    refine g_aload_n C dX6_go_5 rfl 6 rfl 0 rfl ?_
    refine g_get C iX6 0 rfl rfl 0 (by decide) (C.1.2.2.2.2 (.fieldLink RX6 12 "StackRuns" "rules" "LStackRuns$Rules;") (List.mem_of_getElem? (i := 1) rfl)) rfl dX6_go_6 9 rfl ?_
    refine g_getN C iX4 1 rfl rfl 2 (by decide) (nf_RX6_55 C.2.2.1 _) rfl dX6_go_9 12 rfl ?_
    refine g_icmp_lt (X := r < z) C dX6_go_12 18 (by decide) 15 rfl (nI_ltI (by omega) (by omega)) ?_ ?_
    · intro h12
      refine g_aload_n C dX6_go_18 rfl 19 rfl 0 rfl ?_
      refine g_get C iX6 0 rfl rfl 0 (by decide) (C.1.2.2.2.2 (.fieldLink RX6 12 "StackRuns" "rules" "LStackRuns$Rules;") (List.mem_of_getElem? (i := 1) rfl)) rfl dX6_go_19 22 rfl ?_
      refine g_getN C iX4 1 rfl rfl 4 (by decide) (nf_RX6_97 C.2.2.1 _) rfl dX6_go_22 25 rfl ?_
      refine g_iload_n C dX6_go_25 rfl 26 rfl 1 rfl ?_
      refine g_iald (i := r) C 2 rfl (by omega) (by decide) dX6_go_26 27 rfl ?_
      refine g_aload_n C dX6_go_27 rfl 28 rfl 0 rfl ?_
      refine g_get C iX6 0 rfl rfl 1 (by decide) (C.1.2.2.2.2 (.fieldLink RX6 19 "StackRuns" "here" "LStackRuns$Stand;") (List.mem_of_getElem? (i := 2) rfl)) rfl dX6_go_28 31 rfl ?_
      refine g_cVi (ws2 := [ob o0 6 [.ref h0, .ref g0, .ref qn, .ref k0, .ref e0, .ref d0, .int (nI ns)], ob h0 4 [.int (nI n), .int (nI m), .int (nI z), .int (nI st), .ref qh, .ref qt, .ref qp, .ref qb], aN (eY E) qh 30 Hd, aN (eY E) qt 30 To, aO (eY E) qp 30 Tp, aO (eY E) qb 30 Bl, ob g0 5 [.int (nI c), .int (nI h), .ref qs], aN (eY E) qs 60 Sg]) (As := []) (st := [.int (nI (Hd r))]) (wsc := [ob g0 5 [.int (nI c), .int (nI h), .ref qs], aN (eY E) qs 60 Sg]) (wr := [ob o0 6 [.ref h0, .ref g0, .ref qn, .ref k0, .ref e0, .ref d0, .int (nI ns)], ob h0 4 [.int (nI n), .int (nI m), .int (nI z), .int (nI st), .ref qh, .ref qt, .ref qp, .ref qb], aN (eY E) qh 30 Hd, aN (eY E) qt 30 To, aO (eY E) qp 30 Tp, aO (eY E) qb 30 Bl]) C (c_X5_head (eL E) (eD E) (eY E) g0 c h qs Sg (by omega)) 0 gX6_go_X5_head rfl (by decide +kernel) (by decide) ⟨Nat.zero_le _, Nat.zero_le _⟩ rfl 0 rfl rfl rfl (Nat.le_of_ble_eq_true rfl) [6, 7] [0, 1, 2, 3, 4, 5] [0, 1, 2, 3, 4, 5, 6, 7] rfl rfl (by decide) (by decide) rfl (by decide) dX6_go_31 34 rfl ?_
      refine g_icmp_eq (X := (Hd r) + 1 = headF c h Sg) C dX6_go_34 40 (by decide) 37 rfl (nI_oI (by omega) (by omega)) ?_ ?_
      · intro h34
        refine g_aload_n C dX6_go_40 rfl 41 rfl 0 rfl ?_
        refine g_get C iX6 0 rfl rfl 1 (by decide) (C.1.2.2.2.2 (.fieldLink RX6 19 "StackRuns" "here" "LStackRuns$Stand;") (List.mem_of_getElem? (i := 2) rfl)) rfl dX6_go_41 44 rfl ?_
        refine g_aload_n C dX6_go_44 rfl 45 rfl 0 rfl ?_
        refine g_get C iX6 0 rfl rfl 0 (by decide) (C.1.2.2.2.2 (.fieldLink RX6 12 "StackRuns" "rules" "LStackRuns$Rules;") (List.mem_of_getElem? (i := 1) rfl)) rfl dX6_go_45 48 rfl ?_
        refine g_iload_n C dX6_go_48 rfl 49 rfl 1 rfl ?_
        refine g_cVi (ws2 := [ob o0 6 [.ref h0, .ref g0, .ref qn, .ref k0, .ref e0, .ref d0, .int (nI ns)], ob h0 4 [.int (nI n), .int (nI m), .int (nI z), .int (nI st), .ref qh, .ref qt, .ref qp, .ref qb], aN (eY E) qh 30 Hd, aN (eY E) qt 30 To, aO (eY E) qp 30 Tp, aO (eY E) qb 30 Bl, ob g0 5 [.int (nI c), .int (nI h), .ref qs], aN (eY E) qs 60 Sg]) (As := [.ref h0, .int (nI r)]) (st := []) (wsc := [ob g0 5 [.int (nI c), .int (nI h), .ref qs], ob h0 4 [.int (nI n), .int (nI m), .int (nI z), .int (nI st), .ref qh, .ref qt, .ref qp, .ref qb], aO (eY E) qb 30 Bl]) (wr := [ob o0 6 [.ref h0, .ref g0, .ref qn, .ref k0, .ref e0, .ref d0, .int (nI ns)], aN (eY E) qh 30 Hd, aN (eY E) qt 30 To, aO (eY E) qp 30 Tp, aN (eY E) qs 60 Sg]) C (c_X5_hasRoom (eL E) (eD E) (eY E) g0 c h qs h0 n m z st qh qt qp qb Bl r (by omega) (by exact fun r => (hR r).2.2.2) (by omega)) 2 gX6_go_X5_hasRoom rfl (by decide +kernel) (by decide) ⟨Nat.zero_le _, Nat.zero_le _⟩ rfl 0 rfl rfl rfl (Nat.le_of_ble_eq_true rfl) [6, 1, 5] [0, 2, 3, 4, 7] [0, 6, 1, 2, 3, 7, 5, 4] rfl rfl (by decide) (by decide) rfl (by decide) dX6_go_49 52 rfl ?_
        refine g_if_ne (X := decide (Bl r = 0 ∨ h < 60) = true) C dX6_go_52 58 (by decide) 55 rfl (bI_ne0 _) ?_ ?_
        · intro h52
          exact (show False from by exact hro (of_decide_eq_true h52)).elim
        · intro h52
          have h52 : decide (Bl r = 0 ∨ h < 60) = false := by simpa using h52
          refine g_bipush (v := (-4)) C dX6_go_55 (by decide) 57 rfl ?_
          exact hret _ _ dX6_go_57
      · intro h34
        exact (show False from by exact h34 hg).elim
    · intro h12
      exact (show False from by omega).elim
set_option maxHeartbeats 4000000 in
set_option maxRecDepth 100000 in
theorem c_X6_go_ok (l : Launch) (D : va_G) (cy : Nat → ClassId) (o0 : Nat) (qn : Nat) (ns : Nat) (k0 : Nat) (e0 : Nat) (d0 : Nat) (h0 : Nat) (n : Nat) (m : Nat) (z : Nat) (st : Nat) (qh : Nat) (qt : Nat) (qp : Nat) (qb : Nat) (Hd : Nat → Nat) (To : Nat → Nat) (Tp : Nat → Nat) (Bl : Nat → Nat) (g0 : Nat) (c : Nat) (h : Nat) (qs : Nat) (Sg : Nat → Nat) (r : Nat) (hR : ∀ r, Hd r < 25 ∧ To r < 5 ∧ Tp r ≤ 5 ∧ Bl r ≤ 5) (hz : z ≤ 30) (hc : c < 5) (hh : h ≤ 60) (hS : ∀ i, Sg i < 5) (hr : r < z) (hg : (Hd r) + 1 = headF c h Sg) (hro : Bl r = 0 ∨ h < 60) : CoI l yX6_go wsX6_go 2 43 D cy [ob o0 6 [.ref h0, .ref g0, .ref qn, .ref k0, .ref e0, .ref d0, .int (nI ns)], ob h0 4 [.int (nI n), .int (nI m), .int (nI z), .int (nI st), .ref qh, .ref qt, .ref qp, .ref qb], aN cy qh 30 Hd, aN cy qt 30 To, aO cy qp 30 Tp, aO cy qb 30 Bl, ob g0 5 [.int (nI c), .int (nI h), .ref qs], aN cy qs 60 Sg] [.ref o0, .int (nI r)] [ob o0 6 [.ref h0, .ref g0, .ref qn, .ref k0, .ref e0, .ref d0, .int (nI ns)], ob h0 4 [.int (nI n), .int (nI m), .int (nI z), .int (nI st), .ref qh, .ref qt, .ref qp, .ref qb], aN cy qh 30 Hd, aN cy qt 30 To, aO cy qp 30 Tp, aO cy qb 30 Bl, ob g0 5 [.int (nI (To r)), .int (nI (chH h (Tp r) (Bl r))), .ref qs], aN cy qs 60 (chS Sg h (Tp r) (Bl r))] (nI (chH h (Tp r) (Bl r))) := by
  refine met_i (cc := cX6_go) (maxL := 2) (own := RX6) (lv := [(0, .ref o0), (1, .int (nI r))]) (by decide) rfl rfl rfl (Nat.le_of_ble_eq_true rfl) (fun E e1 e2 e3 C hret => ?_)
  subst e1; subst e2; subst e3
  have iX4 : ∀ w ∈ wsX40, w ∈ wsX6_go := fun _ h => List.mem_cons_of_mem _ (List.mem_append_left _ (List.mem_append_right _ h))
  have iX5 : ∀ w ∈ wsX50, w ∈ wsX6_go := fun _ h => List.mem_cons_of_mem _ (List.mem_append_right _ h)
  have iX6 : ∀ w ∈ wsX60, w ∈ wsX6_go := fun _ h => List.mem_cons_of_mem _ (List.mem_append_left _ (List.mem_append_left _ (List.mem_append_right _ h)))
  have hR1 := hR r
  have hH := headF_lt (h := h) hc hS
  refine g_iload_n C dX6_go_0 rfl 1 rfl 1 rfl ?_
  refine g_if_lt (X := False) C dX6_go_1 15 (by decide) 4 rfl (nI_lt0 (by omega)) ?_ ?_
  · intro h1
    exact False.elim h1
  · intro h1
    refine g_iload_n C dX6_go_4 rfl 5 rfl 1 rfl ?_
    refine g_aload_n C dX6_go_5 rfl 6 rfl 0 rfl ?_
    refine g_get C iX6 0 rfl rfl 0 (by decide) (C.1.2.2.2.2 (.fieldLink RX6 12 "StackRuns" "rules" "LStackRuns$Rules;") (List.mem_of_getElem? (i := 1) rfl)) rfl dX6_go_6 9 rfl ?_
    refine g_getN C iX4 1 rfl rfl 2 (by decide) (nf_RX6_55 C.2.2.1 _) rfl dX6_go_9 12 rfl ?_
    refine g_icmp_lt (X := r < z) C dX6_go_12 18 (by decide) 15 rfl (nI_ltI (by omega) (by omega)) ?_ ?_
    · intro h12
      refine g_aload_n C dX6_go_18 rfl 19 rfl 0 rfl ?_
      refine g_get C iX6 0 rfl rfl 0 (by decide) (C.1.2.2.2.2 (.fieldLink RX6 12 "StackRuns" "rules" "LStackRuns$Rules;") (List.mem_of_getElem? (i := 1) rfl)) rfl dX6_go_19 22 rfl ?_
      refine g_getN C iX4 1 rfl rfl 4 (by decide) (nf_RX6_97 C.2.2.1 _) rfl dX6_go_22 25 rfl ?_
      refine g_iload_n C dX6_go_25 rfl 26 rfl 1 rfl ?_
      refine g_iald (i := r) C 2 rfl (by omega) (by decide) dX6_go_26 27 rfl ?_
      refine g_aload_n C dX6_go_27 rfl 28 rfl 0 rfl ?_
      refine g_get C iX6 0 rfl rfl 1 (by decide) (C.1.2.2.2.2 (.fieldLink RX6 19 "StackRuns" "here" "LStackRuns$Stand;") (List.mem_of_getElem? (i := 2) rfl)) rfl dX6_go_28 31 rfl ?_
      refine g_cVi (ws2 := [ob o0 6 [.ref h0, .ref g0, .ref qn, .ref k0, .ref e0, .ref d0, .int (nI ns)], ob h0 4 [.int (nI n), .int (nI m), .int (nI z), .int (nI st), .ref qh, .ref qt, .ref qp, .ref qb], aN (eY E) qh 30 Hd, aN (eY E) qt 30 To, aO (eY E) qp 30 Tp, aO (eY E) qb 30 Bl, ob g0 5 [.int (nI c), .int (nI h), .ref qs], aN (eY E) qs 60 Sg]) (As := []) (st := [.int (nI (Hd r))]) (wsc := [ob g0 5 [.int (nI c), .int (nI h), .ref qs], aN (eY E) qs 60 Sg]) (wr := [ob o0 6 [.ref h0, .ref g0, .ref qn, .ref k0, .ref e0, .ref d0, .int (nI ns)], ob h0 4 [.int (nI n), .int (nI m), .int (nI z), .int (nI st), .ref qh, .ref qt, .ref qp, .ref qb], aN (eY E) qh 30 Hd, aN (eY E) qt 30 To, aO (eY E) qp 30 Tp, aO (eY E) qb 30 Bl]) C (c_X5_head (eL E) (eD E) (eY E) g0 c h qs Sg (by omega)) 0 gX6_go_X5_head rfl (by decide +kernel) (by decide) ⟨Nat.zero_le _, Nat.zero_le _⟩ rfl 0 rfl rfl rfl (Nat.le_of_ble_eq_true rfl) [6, 7] [0, 1, 2, 3, 4, 5] [0, 1, 2, 3, 4, 5, 6, 7] rfl rfl (by decide) (by decide) rfl (by decide) dX6_go_31 34 rfl ?_
      refine g_icmp_eq (X := (Hd r) + 1 = headF c h Sg) C dX6_go_34 40 (by decide) 37 rfl (nI_oI (by omega) (by omega)) ?_ ?_
      · intro h34
        refine g_aload_n C dX6_go_40 rfl 41 rfl 0 rfl ?_
        refine g_get C iX6 0 rfl rfl 1 (by decide) (C.1.2.2.2.2 (.fieldLink RX6 19 "StackRuns" "here" "LStackRuns$Stand;") (List.mem_of_getElem? (i := 2) rfl)) rfl dX6_go_41 44 rfl ?_
        refine g_aload_n C dX6_go_44 rfl 45 rfl 0 rfl ?_
        refine g_get C iX6 0 rfl rfl 0 (by decide) (C.1.2.2.2.2 (.fieldLink RX6 12 "StackRuns" "rules" "LStackRuns$Rules;") (List.mem_of_getElem? (i := 1) rfl)) rfl dX6_go_45 48 rfl ?_
        refine g_iload_n C dX6_go_48 rfl 49 rfl 1 rfl ?_
        refine g_cVi (ws2 := [ob o0 6 [.ref h0, .ref g0, .ref qn, .ref k0, .ref e0, .ref d0, .int (nI ns)], ob h0 4 [.int (nI n), .int (nI m), .int (nI z), .int (nI st), .ref qh, .ref qt, .ref qp, .ref qb], aN (eY E) qh 30 Hd, aN (eY E) qt 30 To, aO (eY E) qp 30 Tp, aO (eY E) qb 30 Bl, ob g0 5 [.int (nI c), .int (nI h), .ref qs], aN (eY E) qs 60 Sg]) (As := [.ref h0, .int (nI r)]) (st := []) (wsc := [ob g0 5 [.int (nI c), .int (nI h), .ref qs], ob h0 4 [.int (nI n), .int (nI m), .int (nI z), .int (nI st), .ref qh, .ref qt, .ref qp, .ref qb], aO (eY E) qb 30 Bl]) (wr := [ob o0 6 [.ref h0, .ref g0, .ref qn, .ref k0, .ref e0, .ref d0, .int (nI ns)], aN (eY E) qh 30 Hd, aN (eY E) qt 30 To, aO (eY E) qp 30 Tp, aN (eY E) qs 60 Sg]) C (c_X5_hasRoom (eL E) (eD E) (eY E) g0 c h qs h0 n m z st qh qt qp qb Bl r (by omega) (by exact fun r => (hR r).2.2.2) (by omega)) 2 gX6_go_X5_hasRoom rfl (by decide +kernel) (by decide) ⟨Nat.zero_le _, Nat.zero_le _⟩ rfl 0 rfl rfl rfl (Nat.le_of_ble_eq_true rfl) [6, 1, 5] [0, 2, 3, 4, 7] [0, 6, 1, 2, 3, 7, 5, 4] rfl rfl (by decide) (by decide) rfl (by decide) dX6_go_49 52 rfl ?_
        refine g_if_ne (X := decide (Bl r = 0 ∨ h < 60) = true) C dX6_go_52 58 (by decide) 55 rfl (bI_ne0 _) ?_ ?_
        · intro h52
          refine g_aload_n C dX6_go_58 rfl 59 rfl 0 rfl ?_
          refine g_get C iX6 0 rfl rfl 1 (by decide) (C.1.2.2.2.2 (.fieldLink RX6 19 "StackRuns" "here" "LStackRuns$Stand;") (List.mem_of_getElem? (i := 2) rfl)) rfl dX6_go_59 62 rfl ?_
          refine g_aload_n C dX6_go_62 rfl 63 rfl 0 rfl ?_
          refine g_get C iX6 0 rfl rfl 0 (by decide) (C.1.2.2.2.2 (.fieldLink RX6 12 "StackRuns" "rules" "LStackRuns$Rules;") (List.mem_of_getElem? (i := 1) rfl)) rfl dX6_go_63 66 rfl ?_
          refine g_iload_n C dX6_go_66 rfl 67 rfl 1 rfl ?_
          refine g_cVv (ws2 := [ob o0 6 [.ref h0, .ref g0, .ref qn, .ref k0, .ref e0, .ref d0, .int (nI ns)], ob h0 4 [.int (nI n), .int (nI m), .int (nI z), .int (nI st), .ref qh, .ref qt, .ref qp, .ref qb], aN (eY E) qh 30 Hd, aN (eY E) qt 30 To, aO (eY E) qp 30 Tp, aO (eY E) qb 30 Bl, ob g0 5 [.int (nI (To r)), .int (nI (chH h (Tp r) (Bl r))), .ref qs], aN (eY E) qs 60 (chS Sg h (Tp r) (Bl r))]) (As := [.ref h0, .int (nI r)]) (st := []) (wsc := [ob g0 5 [.int (nI c), .int (nI h), .ref qs], aN (eY E) qs 60 Sg, ob h0 4 [.int (nI n), .int (nI m), .int (nI z), .int (nI st), .ref qh, .ref qt, .ref qp, .ref qb], aN (eY E) qt 30 To, aO (eY E) qp 30 Tp, aO (eY E) qb 30 Bl]) (wr := [ob o0 6 [.ref h0, .ref g0, .ref qn, .ref k0, .ref e0, .ref d0, .int (nI ns)], aN (eY E) qh 30 Hd]) C (c_X5_change (eL E) (eD E) (eY E) g0 c h qs Sg h0 n m z st qh qt qp qb To Tp Bl r (by omega) (by exact headF_pos h34) (by exact fun r => (hR r).2.2.2) (by exact fun r => (hR r).2.2.1) (by omega) (by omega)) 2 gX6_go_X5_change rfl (by decide +kernel) (by decide) ⟨Nat.zero_le _, Nat.zero_le _⟩ rfl 0 rfl rfl rfl (Nat.le_of_ble_eq_true rfl) [6, 7, 1, 3, 4, 5] [0, 2] [0, 4, 1, 5, 6, 7, 2, 3] rfl rfl (by decide) (by decide) rfl (by decide) dX6_go_67 70 rfl ?_
          refine g_aload_n C dX6_go_70 rfl 71 rfl 0 rfl ?_
          refine g_get C iX6 0 rfl rfl 1 (by decide) (C.1.2.2.2.2 (.fieldLink RX6 19 "StackRuns" "here" "LStackRuns$Stand;") (List.mem_of_getElem? (i := 2) rfl)) rfl dX6_go_71 74 rfl ?_
          refine g_getN C iX5 6 rfl rfl 1 (by decide) (nf_RX6_84 C.2.2.1 _) rfl dX6_go_74 77 rfl ?_
          exact hret _ _ dX6_go_77
        · intro h52
          have h52 : decide (Bl r = 0 ∨ h < 60) = false := by simpa using h52
          exact (show False from by exact of_decide_eq_false h52 hro).elim
      · intro h34
        exact (show False from by exact h34 hg).elim
    · intro h12
      exact (show False from by omega).elim
set_option maxHeartbeats 4000000 in
set_option maxRecDepth 100000 in
theorem c_X6_unset_not (l : Launch) (D : va_G) (cy : Nat → ClassId) (o0 : Nat) (qn : Nat) (ns : Nat) (h0 : Nat) (g0 : Nat) (k0 : Nat) (e0 : Nat) (d0 : Nat) (hn : ns = 0) : CoI l yX6_unset wsX6_unset 0 0 D cy [ob o0 6 [.ref h0, .ref g0, .ref qn, .ref k0, .ref e0, .ref d0, .int (nI ns)]] [.ref o0] [ob o0 6 [.ref h0, .ref g0, .ref qn, .ref k0, .ref e0, .ref d0, .int (nI ns)]] (-3) := by
  refine met_i (cc := cX6_unset) (maxL := 1) (own := RX6) (lv := [(0, .ref o0)]) (by decide) rfl rfl rfl (Nat.le_of_ble_eq_true rfl) (fun E e1 e2 e3 C hret => ?_)
  subst e1; subst e2; subst e3
  have iX6 : ∀ w ∈ wsX60, w ∈ wsX6_unset := fun _ h => List.mem_cons_of_mem _ (List.mem_append_right _ h)
  refine g_aload_n C dX6_unset_0 rfl 1 rfl 0 rfl ?_
  refine g_get C iX6 0 rfl rfl 6 (by decide) (C.1.2.2.2.2 (.fieldLink RX6 50 "StackRuns" "sets" "I") (List.mem_of_getElem? (i := 1) rfl)) rfl dX6_unset_1 4 rfl ?_
  refine g_if_ne (X := ¬ ns = 0) C dX6_unset_4 10 (by decide) 7 rfl (not_congr (nI_eq0 (by omega))) ?_ ?_
  · intro h4
    exact (show False from by omega).elim
  · intro h4
    have h4 : ns = 0 := Decidable.not_not.mp h4
    refine g_bipush (v := (-3)) C dX6_unset_7 (by decide) 9 rfl ?_
    exact hret _ _ dX6_unset_9
set_option maxHeartbeats 4000000 in
set_option maxRecDepth 100000 in
theorem c_X6_unset_ok (l : Launch) (D : va_G) (cy : Nat → ClassId) (o0 : Nat) (qn : Nat) (ns : Nat) (h0 : Nat) (g0 : Nat) (k0 : Nat) (e0 : Nat) (d0 : Nat) (hn : 0 < ns ∧ ns ≤ 6) : CoI l yX6_unset wsX6_unset 0 0 D cy [ob o0 6 [.ref h0, .ref g0, .ref qn, .ref k0, .ref e0, .ref d0, .int (nI ns)]] [.ref o0] [ob o0 6 [.ref h0, .ref g0, .ref qn, .ref k0, .ref e0, .ref d0, .int (nI (ns - 1))]] (nI (ns - 1)) := by
  refine met_i (cc := cX6_unset) (maxL := 1) (own := RX6) (lv := [(0, .ref o0)]) (by decide) rfl rfl rfl (Nat.le_of_ble_eq_true rfl) (fun E e1 e2 e3 C hret => ?_)
  subst e1; subst e2; subst e3
  have iX6 : ∀ w ∈ wsX60, w ∈ wsX6_unset := fun _ h => List.mem_cons_of_mem _ (List.mem_append_right _ h)
  refine g_aload_n C dX6_unset_0 rfl 1 rfl 0 rfl ?_
  refine g_get C iX6 0 rfl rfl 6 (by decide) (C.1.2.2.2.2 (.fieldLink RX6 50 "StackRuns" "sets" "I") (List.mem_of_getElem? (i := 1) rfl)) rfl dX6_unset_1 4 rfl ?_
  refine g_if_ne (X := ¬ ns = 0) C dX6_unset_4 10 (by decide) 7 rfl (not_congr (nI_eq0 (by omega))) ?_ ?_
  · intro h4
    refine g_aload_n C dX6_unset_10 rfl 11 rfl 0 rfl ?_
    refine g_dup C dX6_unset_11 rfl 12 rfl ?_
    refine g_get C iX6 0 rfl rfl 6 (by decide) (C.1.2.2.2.2 (.fieldLink RX6 50 "StackRuns" "sets" "I") (List.mem_of_getElem? (i := 1) rfl)) rfl dX6_unset_12 15 rfl ?_
    refine g_iconst (v := nI 1) C dX6_unset_15 (by decide) 16 rfl ?_
    refine g_isub (z := nI (ns - 1)) C dX6_unset_16 17 rfl (pk_sub (by omega)) ?_
    refine g_put (ws' := [ob o0 6 [.ref h0, .ref g0, .ref qn, .ref k0, .ref e0, .ref d0, .int (nI (ns - 1))]]) (ty := .int) C iX6 tyX6_ok nmX6 0 rfl rfl 6 (by decide) (C.1.2.2.2.2 (.fieldLink RX6 50 "StackRuns" "sets" "I") (List.mem_of_getElem? (i := 1) rfl)) rfl (by decide +kernel) rfl rfl (Nat.le_of_ble_eq_true rfl) dX6_unset_17 20 rfl rfl ?_
    refine g_aload_n C dX6_unset_20 rfl 21 rfl 0 rfl ?_
    refine g_get C iX6 0 rfl rfl 6 (by decide) (C.1.2.2.2.2 (.fieldLink RX6 50 "StackRuns" "sets" "I") (List.mem_of_getElem? (i := 1) rfl)) rfl dX6_unset_21 24 rfl ?_
    exact hret _ _ dX6_unset_24
  · intro h4
    have h4 : ns = 0 := Decidable.not_not.mp h4
    exact (show False from by omega).elim
