set_option maxHeartbeats 4000000 in
set_option maxRecDepth 100000 in
theorem c_X2_isLast (l : Launch) (D : va_G) (cy : Nat → ClassId) (n0 : Nat) (lk : Nat) (lp : Nat) (qo : Nat) (qc : Nat) (sl : Bool) (s2 : Nat) (p : Nat) (hlp : lp < 2 ^ 11) (hp : p < 11) : CoI l yX2_isLast wsX2_isLast 1 21 D cy [ob n0 2 [.int (nI lk), .int (nI lp), .ref qo, .ref qc, .int (bI sl), .int (oI s2)]] [.ref n0, .int (nI p)] [ob n0 2 [.int (nI lk), .int (nI lp), .ref qo, .ref qc, .int (bI sl), .int (oI s2)]] (bI (lp.testBit p)) := by
  refine met_z (cc := cX2_isLast) (maxL := 2) (own := RX2) (lv := [(0, .ref n0), (1, .int (nI p))]) (by decide) rfl rfl rfl (Nat.le_of_ble_eq_true rfl) (fun E e1 e2 e3 C hret => ?_)
  subst e1; subst e2; subst e3
  have iX2 : ∀ w ∈ wsX20, w ∈ wsX2_isLast := fun _ h => List.mem_cons_of_mem _ (List.mem_append_right _ h)
  refine g_aload_n C dX2_isLast_0 rfl 1 rfl 0 rfl ?_
  refine g_get C iX2 0 rfl rfl 1 (by decide) (C.1.2.2.2.2 (.fieldLink RX2 15 "StackRuns$Net" "lastPlaces" "I") (List.mem_of_getElem? (i := 1) rfl)) rfl dX2_isLast_1 4 rfl ?_
  refine g_iload_n C dX2_isLast_4 rfl 5 rfl 1 rfl ?_
  refine g_cSNi (ws2 := [ob n0 2 [.int (nI lk), .int (nI lp), .ref qo, .ref qc, .int (bI sl), .int (oI s2)]]) (As := [.int (nI lp), .int (nI p)]) (st := []) (wsc := []) (wr := [ob n0 2 [.int (nI lk), .int (nI lp), .ref qo, .ref qc, .int (bI sl), .int (oI s2)]]) C (c_X6_hasBit (eL E) (eD E) (eY E) lp p (by omega) (by omega)) 2 ggX2_isLast_X6_hasBit (nm_RX2_43 C.2.2.1) (List.mem_of_getElem? (i := 3) rfl) (List.mem_of_getElem? (i := 2) rfl) rfl (by decide +kernel) (by decide) ⟨Nat.zero_le _, Nat.zero_le _⟩ rfl rfl (Nat.le_of_ble_eq_true rfl) [] [0] [0] rfl rfl (by decide) (by decide) rfl (by decide) dX2_isLast_5 8 rfl ?_
  exact hret _ _ dX2_isLast_8
set_option maxHeartbeats 4000000 in
set_option maxRecDepth 100000 in
theorem c_X2_hasHop (l : Launch) (D : va_G) (cy : Nat → ClassId) (n0 : Nat) (lk : Nat) (lp : Nat) (qo : Nat) (qc : Nat) (sl : Bool) (s2 : Nat) (Hp : Nat → Nat) (p : Nat) (s : Nat) (nd : Nat) (hHp : ∀ k, Hp k < 64) (hp : p < 11) (hs : s < 5) (hnd : nd < 6) : CoI l yX2_hasHop wsX2_hasHop 1 21 D cy [ob n0 2 [.int (nI lk), .int (nI lp), .ref qo, .ref qc, .int (bI sl), .int (oI s2)], aN cy qo 55 Hp] [.ref n0, .int (nI p), .int (nI s), .int (nI nd)] [ob n0 2 [.int (nI lk), .int (nI lp), .ref qo, .ref qc, .int (bI sl), .int (oI s2)], aN cy qo 55 Hp] (bI ((Hp (p * 5 + s)).testBit nd)) := by
  refine met_z (cc := cX2_hasHop) (maxL := 4) (own := RX2) (lv := [(0, .ref n0), (1, .int (nI p)), (2, .int (nI s)), (3, .int (nI nd))]) (by decide) rfl rfl rfl (Nat.le_of_ble_eq_true rfl) (fun E e1 e2 e3 C hret => ?_)
  subst e1; subst e2; subst e3
  have iX2 : ∀ w ∈ wsX20, w ∈ wsX2_hasHop := fun _ h => List.mem_cons_of_mem _ (List.mem_append_right _ h)
  refine g_aload_n C dX2_hasHop_0 rfl 1 rfl 0 rfl ?_
  refine g_get C iX2 0 rfl rfl 2 (by decide) (C.1.2.2.2.2 (.fieldLink RX2 18 "StackRuns$Net" "hops" "[I") (List.mem_of_getElem? (i := 1) rfl)) rfl dX2_hasHop_1 4 rfl ?_
  refine g_iload_n C dX2_hasHop_4 rfl 5 rfl 1 rfl ?_
  refine g_iconst (v := nI 5) C dX2_hasHop_5 (by decide) 6 rfl ?_
  refine g_imul (z := nI (p * 5)) C dX2_hasHop_6 7 rfl (pk_mul _ _) ?_
  refine g_iload_n C dX2_hasHop_7 rfl 8 rfl 2 rfl ?_
  refine g_iadd (z := nI ((p * 5) + s)) C dX2_hasHop_8 9 rfl (nI_add _ _) ?_
  refine g_iald (i := ((p * 5) + s)) C 1 rfl (by omega) (by decide) dX2_hasHop_9 10 rfl ?_
  refine g_iload_n C dX2_hasHop_10 rfl 11 rfl 3 rfl ?_
  refine g_cSNi (ws2 := [ob n0 2 [.int (nI lk), .int (nI lp), .ref qo, .ref qc, .int (bI sl), .int (oI s2)], aN (eY E) qo 55 Hp]) (As := [.int (nI (Hp ((p * 5) + s))), .int (nI nd)]) (st := []) (wsc := []) (wr := [ob n0 2 [.int (nI lk), .int (nI lp), .ref qo, .ref qc, .int (bI sl), .int (oI s2)], aN (eY E) qo 55 Hp]) C (c_X6_hasBit (eL E) (eD E) (eY E) (Hp ((p * 5) + s)) nd (by have := hHp (p * 5 + s); omega) (by omega)) 2 ggX2_hasHop_X6_hasBit (nm_RX2_43 C.2.2.1) (List.mem_of_getElem? (i := 3) rfl) (List.mem_of_getElem? (i := 2) rfl) rfl (by decide +kernel) (by decide) ⟨Nat.zero_le _, Nat.zero_le _⟩ rfl rfl (Nat.le_of_ble_eq_true rfl) [] [0, 1] [0, 1] rfl rfl (by decide) (by decide) rfl (by decide) dX2_hasHop_11 14 rfl ?_
  have e_1 : ((Hp (p * 5 + s)).testBit nd) = ((Hp ((p * 5) + s)).testBit nd) := by first | with_reducible rfl | (simp [*])
  refine go_eq rfl (st' := [.int (bI ((Hp (p * 5 + s)).testBit nd))]) (ws' := [ob n0 2 [.int (nI lk), .int (nI lp), .ref qo, .ref qc, .int (bI sl), .int (oI s2)], aN (eY E) qo 55 Hp]) (by first | with_reducible rfl | (simp only [e_1, oI_s, oI_0, bI_1, bI_0, and_self, reduceIte]; done)) (by first | with_reducible rfl | (simp only [e_1, oI_s, oI_0, bI_1, bI_0, and_self, reduceIte]; done)) ?_
  exact hret _ _ dX2_hasHop_14
set_option maxHeartbeats 4000000 in
set_option maxRecDepth 100000 in
theorem c_X2_restart (l : Launch) (D : va_G) (cy : Nat → ClassId) (n0 : Nat) (lk : Nat) (lp : Nat) (qo : Nat) (qc : Nat) (sl : Bool) (s2 : Nat) (Hp : Nat → Nat)  : CoV l yX2_restart wsX2_restart 1 23 D cy [ob n0 2 [.int (nI lk), .int (nI lp), .ref qo, .ref qc, .int (bI sl), .int (oI s2)], aN cy qo 55 Hp] [.ref n0] [ob n0 2 [.int (nI 0), .int (nI 0), .ref qo, .ref qc, .int (bI true), .int (oI s2)], aN cy qo 55 (fun _ => 0)] := by
  refine met_v (cc := cX2_restart) (maxL := 1) (own := RX2) (lv := [(0, .ref n0)]) (by decide) rfl rfl rfl (Nat.le_of_ble_eq_true rfl) (fun E e1 e2 e3 C hret => ?_)
  subst e1; subst e2; subst e3
  have iX2 : ∀ w ∈ wsX20, w ∈ wsX2_restart := fun _ h => List.mem_cons_of_mem _ (List.mem_append_right _ h)
  refine g_aload_n C dX2_restart_0 rfl 1 rfl 0 rfl ?_
  refine g_iconst (v := nI 0) C dX2_restart_1 (by decide) 2 rfl ?_
  refine g_put (ws' := [ob n0 2 [.int (nI 0), .int (nI lp), .ref qo, .ref qc, .int (bI sl), .int (oI s2)], aN (eY E) qo 55 Hp]) (ty := .int) C iX2 tyX2_ok nmX2 0 rfl rfl 0 (by decide) (C.1.2.2.2.2 (.fieldLink RX2 9 "StackRuns$Net" "links" "I") (List.mem_of_getElem? (i := 1) rfl)) rfl (by decide +kernel) rfl rfl (Nat.le_of_ble_eq_true rfl) dX2_restart_2 5 rfl rfl ?_
  refine g_aload_n C dX2_restart_5 rfl 6 rfl 0 rfl ?_
  refine g_iconst (v := nI 0) C dX2_restart_6 (by decide) 7 rfl ?_
  refine g_put (ws' := [ob n0 2 [.int (nI 0), .int (nI 0), .ref qo, .ref qc, .int (bI sl), .int (oI s2)], aN (eY E) qo 55 Hp]) (ty := .int) C iX2 tyX2_ok nmX2 0 rfl rfl 1 (by decide) (C.1.2.2.2.2 (.fieldLink RX2 15 "StackRuns$Net" "lastPlaces" "I") (List.mem_of_getElem? (i := 2) rfl)) rfl (by decide +kernel) rfl rfl (Nat.le_of_ble_eq_true rfl) dX2_restart_7 10 rfl rfl ?_
  refine g_aload_n C dX2_restart_10 rfl 11 rfl 0 rfl ?_
  refine g_get C iX2 0 rfl rfl 2 (by decide) (C.1.2.2.2.2 (.fieldLink RX2 18 "StackRuns$Net" "hops" "[I") (List.mem_of_getElem? (i := 3) rfl)) rfl dX2_restart_11 14 rfl ?_
  refine g_iconst (v := nI 0) C dX2_restart_14 (by decide) 15 rfl ?_
  refine g_cSv (ws2 := [ob n0 2 [.int (nI 0), .int (nI 0), .ref qo, .ref qc, .int (bI sl), .int (oI s2)], aN (eY E) qo 55 (fun _ => 0)]) (As := [.ref qo, .int (nI 0)]) (st := []) (wsc := [aN (eY E) qo 55 Hp]) (wr := [ob n0 2 [.int (nI 0), .int (nI 0), .ref qo, .ref qc, .int (bI sl), .int (oI s2)]]) C (c_J7_fill_53178 (eL E) (eD E) (eY E) qo 55 Hp 0 (by decide)) 2 gX2_restart_J7_fill_53178 rfl (by decide +kernel) (by decide) ⟨Nat.zero_le _, Nat.zero_le _⟩ rfl rfl (Nat.le_of_ble_eq_true rfl) [1] [0] [0, 1] rfl rfl (by decide) (by decide) rfl (by decide) dX2_restart_15 18 rfl ?_
  refine g_aload_n C dX2_restart_18 rfl 19 rfl 0 rfl ?_
  refine g_iconst (v := nI 1) C dX2_restart_19 (by decide) 20 rfl ?_
  refine go_st (show Value.int (nI 1) = .int (bI true) from rfl) ?_
  refine g_put (ws' := [ob n0 2 [.int (nI 0), .int (nI 0), .ref qo, .ref qc, .int (bI true), .int (oI s2)], aN (eY E) qo 55 (fun _ => 0)]) (ty := .boolean) C iX2 tyX2_ok nmX2 0 rfl rfl 4 (by decide) (C.1.2.2.2.2 (.fieldLink RX2 26 "StackRuns$Net" "stale" "Z") (List.mem_of_getElem? (i := 4) rfl)) rfl (by decide +kernel) (narb_bI _) (fitb_bI _) (Nat.le_of_ble_eq_true rfl) dX2_restart_20 23 rfl rfl ?_
  exact hret _ _ dX2_restart_23
set_option maxHeartbeats 4000000 in
set_option maxRecDepth 100000 in
theorem c_X2_join (l : Launch) (D : va_G) (cy : Nat → ClassId) (n0 : Nat) (lk : Nat) (lp : Nat) (qo : Nat) (qc : Nat) (sl : Bool) (s2 : Nat) (Hp : Nat → Nat) (p : Nat) (s : Nat) (nd : Nat) (hp : p < 11) (hs : s < 5) (hnd : nd < 6) : CoI l yX2_join wsX2_join 0 0 D cy [ob n0 2 [.int (nI lk), .int (nI lp), .ref qo, .ref qc, .int (bI sl), .int (oI s2)], aN cy qo 55 Hp] [.ref n0, .int (nI p), .int (nI s), .int (nI nd)] [ob n0 2 [.int (nI (lk + 1)), .int (nI lp), .ref qo, .ref qc, .int (bI true), .int (oI s2)], aN cy qo 55 (up Hp (p * 5 + s) (Hp (p * 5 + s) ||| 1 * 2 ^ nd))] (nI (lk + 1)) := by
  refine met_i (cc := cX2_join) (maxL := 4) (own := RX2) (lv := [(0, .ref n0), (1, .int (nI p)), (2, .int (nI s)), (3, .int (nI nd))]) (by decide) rfl rfl rfl (Nat.le_of_ble_eq_true rfl) (fun E e1 e2 e3 C hret => ?_)
  subst e1; subst e2; subst e3
  have iX2 : ∀ w ∈ wsX20, w ∈ wsX2_join := fun _ h => List.mem_cons_of_mem _ (List.mem_append_right _ h)
  refine g_aload_n C dX2_join_0 rfl 1 rfl 0 rfl ?_
  refine g_get C iX2 0 rfl rfl 2 (by decide) (C.1.2.2.2.2 (.fieldLink RX2 18 "StackRuns$Net" "hops" "[I") (List.mem_of_getElem? (i := 1) rfl)) rfl dX2_join_1 4 rfl ?_
  refine g_iload_n C dX2_join_4 rfl 5 rfl 1 rfl ?_
  refine g_iconst (v := nI 5) C dX2_join_5 (by decide) 6 rfl ?_
  refine g_imul (z := nI (p * 5)) C dX2_join_6 7 rfl (pk_mul _ _) ?_
  refine g_iload_n C dX2_join_7 rfl 8 rfl 2 rfl ?_
  refine g_iadd (z := nI ((p * 5) + s)) C dX2_join_8 9 rfl (nI_add _ _) ?_
  refine g_dup2 C dX2_join_9 rfl rfl 10 rfl ?_
  refine g_iald (i := ((p * 5) + s)) C 1 rfl (by omega) (by decide) dX2_join_10 11 rfl ?_
  refine g_iconst (v := nI 1) C dX2_join_11 (by decide) 12 rfl ?_
  refine g_iload_n C dX2_join_12 rfl 13 rfl 3 rfl ?_
  refine g_ishl (z := nI (1 * 2 ^ nd)) C dX2_join_13 14 rfl (z_shl (by omega) (by have := pow_lt_64 hnd; omega)) ?_
  refine g_ior (z := nI ((Hp ((p * 5) + s)) ||| (1 * 2 ^ nd))) C dX2_join_14 15 rfl (z_or _ _) ?_
  refine g_iast (ws' := [ob n0 2 [.int (nI lk), .int (nI lp), .ref qo, .ref qc, .int (bI sl), .int (oI s2)], aN (eY E) qo 55 (up Hp ((p * 5) + s) ((Hp ((p * 5) + s)) ||| (1 * 2 ^ nd)))]) (i := ((p * 5) + s)) C 1 rfl (by omega) (by decide) dX2_join_15 16 rfl (upd_N _ _ _) rfl ?_
  refine g_aload_n C dX2_join_16 rfl 17 rfl 0 rfl ?_
  refine g_dup C dX2_join_17 rfl 18 rfl ?_
  refine g_get C iX2 0 rfl rfl 0 (by decide) (C.1.2.2.2.2 (.fieldLink RX2 9 "StackRuns$Net" "links" "I") (List.mem_of_getElem? (i := 2) rfl)) rfl dX2_join_18 21 rfl ?_
  refine g_iconst (v := nI 1) C dX2_join_21 (by decide) 22 rfl ?_
  refine g_iadd (z := nI (lk + 1)) C dX2_join_22 23 rfl (nI_add _ _) ?_
  refine g_put (ws' := [ob n0 2 [.int (nI (lk + 1)), .int (nI lp), .ref qo, .ref qc, .int (bI sl), .int (oI s2)], aN (eY E) qo 55 (up Hp ((p * 5) + s) ((Hp ((p * 5) + s)) ||| (1 * 2 ^ nd)))]) (ty := .int) C iX2 tyX2_ok nmX2 0 rfl rfl 0 (by decide) (C.1.2.2.2.2 (.fieldLink RX2 9 "StackRuns$Net" "links" "I") (List.mem_of_getElem? (i := 2) rfl)) rfl (by decide +kernel) rfl rfl (Nat.le_of_ble_eq_true rfl) dX2_join_23 26 rfl rfl ?_
  refine g_aload_n C dX2_join_26 rfl 27 rfl 0 rfl ?_
  refine g_iconst (v := nI 1) C dX2_join_27 (by decide) 28 rfl ?_
  refine go_st (show Value.int (nI 1) = .int (bI true) from rfl) ?_
  refine g_put (ws' := [ob n0 2 [.int (nI (lk + 1)), .int (nI lp), .ref qo, .ref qc, .int (bI true), .int (oI s2)], aN (eY E) qo 55 (up Hp ((p * 5) + s) ((Hp ((p * 5) + s)) ||| (1 * 2 ^ nd)))]) (ty := .boolean) C iX2 tyX2_ok nmX2 0 rfl rfl 4 (by decide) (C.1.2.2.2.2 (.fieldLink RX2 26 "StackRuns$Net" "stale" "Z") (List.mem_of_getElem? (i := 3) rfl)) rfl (by decide +kernel) (narb_bI _) (fitb_bI _) (Nat.le_of_ble_eq_true rfl) dX2_join_28 31 rfl rfl ?_
  refine g_aload_n C dX2_join_31 rfl 32 rfl 0 rfl ?_
  refine g_get C iX2 0 rfl rfl 0 (by decide) (C.1.2.2.2.2 (.fieldLink RX2 9 "StackRuns$Net" "links" "I") (List.mem_of_getElem? (i := 2) rfl)) rfl dX2_join_32 35 rfl ?_
  have e_1 : (up Hp (p * 5 + s) (Hp (p * 5 + s) ||| 1 * 2 ^ nd)) = (up Hp ((p * 5) + s) ((Hp ((p * 5) + s)) ||| (1 * 2 ^ nd))) := by first | with_reducible rfl | (rfl)
  refine go_eq rfl (st' := [.int (nI (lk + 1))]) (ws' := [ob n0 2 [.int (nI (lk + 1)), .int (nI lp), .ref qo, .ref qc, .int (bI true), .int (oI s2)], aN (eY E) qo 55 (up Hp (p * 5 + s) (Hp (p * 5 + s) ||| 1 * 2 ^ nd))]) (by first | with_reducible rfl | (simp only [e_1, oI_s, oI_0, bI_1, bI_0, and_self, reduceIte]; done)) (by first | with_reducible rfl | (simp only [e_1, oI_s, oI_0, bI_1, bI_0, and_self, reduceIte]; done)) ?_
  exact hret _ _ dX2_join_35
set_option maxHeartbeats 4000000 in
set_option maxRecDepth 100000 in
theorem c_X2_mark (l : Launch) (D : va_G) (cy : Nat → ClassId) (n0 : Nat) (lk : Nat) (lp : Nat) (qo : Nat) (qc : Nat) (sl : Bool) (s2 : Nat) (p : Nat) (w : Bool) (hlp : lp < 2 ^ 11) (hp : p < 11) : CoI l yX2_mark wsX2_mark 2 42 D cy [ob n0 2 [.int (nI lk), .int (nI lp), .ref qo, .ref qc, .int (bI sl), .int (oI s2)]] [.ref n0, .int (nI p), .int (bI w)] [ob n0 2 [.int (nI lk), .int (nI (mkF lp p w)), .ref qo, .ref qc, .int (bI sl), .int (oI s2)]] (bI (lp.testBit p)) := by
  refine met_z (cc := cX2_mark) (maxL := 4) (own := RX2) (lv := [(0, .ref n0), (1, .int (nI p)), (2, .int (bI w))]) (by decide) rfl rfl rfl (Nat.le_of_ble_eq_true rfl) (fun E e1 e2 e3 C hret => ?_)
  subst e1; subst e2; subst e3
  have iX2 : ∀ w ∈ wsX20, w ∈ wsX2_mark := fun _ h => List.mem_cons_of_mem _ (List.mem_append_right _ h)
  refine g_aload_n C dX2_mark_0 rfl 1 rfl 0 rfl ?_
  refine g_iload_n C dX2_mark_1 rfl 2 rfl 1 rfl ?_
  refine g_cVi (ws2 := [ob n0 2 [.int (nI lk), .int (nI lp), .ref qo, .ref qc, .int (bI sl), .int (oI s2)]]) (As := [.int (nI p)]) (st := []) (wsc := [ob n0 2 [.int (nI lk), .int (nI lp), .ref qo, .ref qc, .int (bI sl), .int (oI s2)]]) (wr := []) C (c_X2_isLast (eL E) (eD E) (eY E) n0 lk lp qo qc sl s2 p (by omega) (by omega)) 1 gX2_mark_X2_isLast rfl (by decide +kernel) (by decide) ⟨Nat.zero_le _, Nat.zero_le _⟩ rfl 0 rfl rfl rfl (Nat.le_of_ble_eq_true rfl) [0] [] [0] rfl rfl (by decide) (by decide) rfl (by decide) dX2_mark_2 5 rfl ?_
  refine g_istore_n (lv' := [(3, .int (bI (lp.testBit p))), (0, .ref n0), (1, .int (nI p)), (2, .int (bI w))]) C dX2_mark_5 rfl 6 rfl (by decide) rfl ?_
  refine g_aload_n C dX2_mark_6 rfl 7 rfl 1 rfl ?_
  refine g_iload_n C dX2_mark_7 rfl 8 rfl 3 rfl ?_
  refine g_if_eq (X := w = false) C dX2_mark_8 22 (by decide) 11 rfl (bI_eq0 _) ?_ ?_
  · intro h8
    refine g_aload_n C dX2_mark_22 rfl 23 rfl 1 rfl ?_
    refine g_get C iX2 0 rfl rfl 1 (by decide) (C.1.2.2.2.2 (.fieldLink RX2 15 "StackRuns$Net" "lastPlaces" "I") (List.mem_of_getElem? (i := 1) rfl)) rfl dX2_mark_23 26 rfl ?_
    refine g_iconst (v := nI 1) C dX2_mark_26 (by decide) 27 rfl ?_
    refine g_iload_n C dX2_mark_27 rfl 28 rfl 2 rfl ?_
    refine g_ishl (z := nI (1 * 2 ^ p)) C dX2_mark_28 29 rfl (z_shl (by omega) (by have := pow_lt_2048 hp; omega)) ?_
    refine g_iconst (v := (-1)) C dX2_mark_29 (by decide) 30 rfl ?_
    refine g_ixor (z := (nI (1 * 2 ^ p ^^^ 4294967295))) C dX2_mark_30 31 rfl (by rw [m1_nI]; exact z_xor _ _) ?_
    refine g_iand (z := nI (lp &&& (1 * 2 ^ p ^^^ 4294967295))) C dX2_mark_31 32 rfl (z_and _ _) ?_
    refine g_put (ws' := [ob n0 2 [.int (nI lk), .int (nI (lp &&& (1 * 2 ^ p ^^^ 4294967295))), .ref qo, .ref qc, .int (bI sl), .int (oI s2)]]) (ty := .int) C iX2 tyX2_ok nmX2 0 rfl rfl 1 (by decide) (C.1.2.2.2.2 (.fieldLink RX2 15 "StackRuns$Net" "lastPlaces" "I") (List.mem_of_getElem? (i := 1) rfl)) rfl (by decide +kernel) rfl rfl (Nat.le_of_ble_eq_true rfl) dX2_mark_32 35 rfl rfl ?_
    refine g_iload_n C dX2_mark_35 rfl 36 rfl 0 rfl ?_
    have e_1 : (mkF lp p w) = (lp &&& (1 * 2 ^ p ^^^ 4294967295)) := by first | with_reducible rfl | (simp [mkF, *])
    refine go_eq rfl (st' := [.int (bI (lp.testBit p))]) (ws' := [ob n0 2 [.int (nI lk), .int (nI (mkF lp p w)), .ref qo, .ref qc, .int (bI sl), .int (oI s2)]]) (by first | with_reducible rfl | (simp only [e_1, oI_s, oI_0, bI_1, bI_0, and_self, reduceIte]; done)) (by first | with_reducible rfl | (simp only [e_1, oI_s, oI_0, bI_1, bI_0, and_self, reduceIte]; done)) ?_
    exact hret _ _ dX2_mark_36
  · intro h8
    have h8 : w = true := by simpa using h8
    refine g_aload_n C dX2_mark_11 rfl 12 rfl 1 rfl ?_
    refine g_get C iX2 0 rfl rfl 1 (by decide) (C.1.2.2.2.2 (.fieldLink RX2 15 "StackRuns$Net" "lastPlaces" "I") (List.mem_of_getElem? (i := 1) rfl)) rfl dX2_mark_12 15 rfl ?_
    refine g_iconst (v := nI 1) C dX2_mark_15 (by decide) 16 rfl ?_
    refine g_iload_n C dX2_mark_16 rfl 17 rfl 2 rfl ?_
    refine g_ishl (z := nI (1 * 2 ^ p)) C dX2_mark_17 18 rfl (z_shl (by omega) (by have := pow_lt_2048 hp; omega)) ?_
    refine g_ior (z := nI (lp ||| (1 * 2 ^ p))) C dX2_mark_18 19 rfl (z_or _ _) ?_
    refine g_goto C dX2_mark_19 32 (by decide) ?_
    refine g_put (ws' := [ob n0 2 [.int (nI lk), .int (nI (lp ||| (1 * 2 ^ p))), .ref qo, .ref qc, .int (bI sl), .int (oI s2)]]) (ty := .int) C iX2 tyX2_ok nmX2 0 rfl rfl 1 (by decide) (C.1.2.2.2.2 (.fieldLink RX2 15 "StackRuns$Net" "lastPlaces" "I") (List.mem_of_getElem? (i := 1) rfl)) rfl (by decide +kernel) rfl rfl (Nat.le_of_ble_eq_true rfl) dX2_mark_32 35 rfl rfl ?_
    refine g_iload_n C dX2_mark_35 rfl 36 rfl 0 rfl ?_
    have e_2 : (mkF lp p w) = (lp ||| (1 * 2 ^ p)) := by first | with_reducible rfl | (simp [mkF, *])
    refine go_eq rfl (st' := [.int (bI (lp.testBit p))]) (ws' := [ob n0 2 [.int (nI lk), .int (nI (mkF lp p w)), .ref qo, .ref qc, .int (bI sl), .int (oI s2)]]) (by first | with_reducible rfl | (simp only [e_2, oI_s, oI_0, bI_1, bI_0, and_self, reduceIte]; done)) (by first | with_reducible rfl | (simp only [e_2, oI_s, oI_0, bI_1, bI_0, and_self, reduceIte]; done)) ?_
    exact hret _ _ dX2_mark_36
set_option maxHeartbeats 4000000 in
set_option maxRecDepth 100000 in
theorem c_X2_allHops (l : Launch) (D : va_G) (cy : Nat → ClassId) (n0 : Nat) (lk : Nat) (lp : Nat) (qo : Nat) (qc : Nat) (sl : Bool) (s2 : Nat) (Hp : Nat → Nat) (b : Nat) (s : Nat) (hHp : ∀ k, Hp k < 64) (hb : b < 2 ^ 11) (hs : s < 5) : CoI l yX2_allHops wsX2_allHops 1 21 D cy [ob n0 2 [.int (nI lk), .int (nI lp), .ref qo, .ref qc, .int (bI sl), .int (oI s2)], aN cy qo 55 Hp] [.ref n0, .int (nI b), .int (nI s)] [ob n0 2 [.int (nI lk), .int (nI lp), .ref qo, .ref qc, .int (bI sl), .int (oI s2)], aN cy qo 55 Hp] (nI (ahF Hp b s 11)) := by
  refine met_i (cc := cX2_allHops) (maxL := 5) (own := RX2) (lv := [(0, .ref n0), (1, .int (nI b)), (2, .int (nI s))]) (by decide) rfl rfl rfl (Nat.le_of_ble_eq_true rfl) (fun E e1 e2 e3 C hret => ?_)
  subst e1; subst e2; subst e3
  have iX2 : ∀ w ∈ wsX20, w ∈ wsX2_allHops := fun _ h => List.mem_cons_of_mem _ (List.mem_append_right _ h)
  refine g_iconst (v := nI 0) C dX2_allHops_0 (by decide) 1 rfl ?_
  refine g_istore_n (lv' := [(3, .int (nI 0)), (0, .ref n0), (1, .int (nI b)), (2, .int (nI s))]) C dX2_allHops_1 rfl 2 rfl (by decide) rfl ?_
  refine g_iconst (v := nI 0) C dX2_allHops_2 (by decide) 3 rfl ?_
  refine g_istore (lv' := [(4, .int (nI 0)), (3, .int (nI 0)), (0, .ref n0), (1, .int (nI b)), (2, .int (nI s))]) C dX2_allHops_3 5 rfl (by decide) rfl ?_
  have L5 : ∀ p, p ≤ 11 → Go E 0 0 5 [(4, .int (nI p)), (3, .int (nI (ahF Hp b s p))), (0, .ref n0), (1, .int (nI b)), (2, .int (nI s))] [] [ob n0 2 [.int (nI lk), .int (nI lp), .ref qo, .ref qc, .int (bI sl), .int (oI s2)], aN (eY E) qo 55 Hp] := by
    refine go_for 11 (fun p => Go E 0 0 5 [(4, .int (nI p)), (3, .int (nI (ahF Hp b s p))), (0, .ref n0), (1, .int (nI b)), (2, .int (nI s))] [] [ob n0 2 [.int (nI lk), .int (nI lp), .ref qo, .ref qc, .int (bI sl), .int (oI s2)], aN (eY E) qo 55 Hp]) (fun p hi_p ih_p => ?_)
    refine g_iload C dX2_allHops_5 7 rfl 0 rfl ?_
    refine g_bipush (v := nI 11) C dX2_allHops_7 (by decide) 9 rfl ?_
    refine g_icmp_ge (X := 11 ≤ p) C dX2_allHops_9 41 (by decide) 12 rfl (nI_leI (by omega) (by omega)) ?_ ?_
    · intro h9
      have x_p : p = 11 := by omega
      try rw [x_p]
      refine g_iload_n C dX2_allHops_41 rfl 42 rfl 1 rfl ?_
      exact hret _ _ dX2_allHops_42
    · intro h9
      refine g_iload_n C dX2_allHops_12 rfl 13 rfl 3 rfl ?_
      refine g_iload C dX2_allHops_13 15 rfl 0 rfl ?_
      refine g_cSNi (ws2 := [ob n0 2 [.int (nI lk), .int (nI lp), .ref qo, .ref qc, .int (bI sl), .int (oI s2)], aN (eY E) qo 55 Hp]) (As := [.int (nI b), .int (nI p)]) (st := []) (wsc := []) (wr := [ob n0 2 [.int (nI lk), .int (nI lp), .ref qo, .ref qc, .int (bI sl), .int (oI s2)], aN (eY E) qo 55 Hp]) C (c_X6_hasBit (eL E) (eD E) (eY E) b p (by omega) (by omega)) 2 ggX2_allHops_X6_hasBit (nm_RX2_43 C.2.2.1) (List.mem_of_getElem? (i := 3) rfl) (List.mem_of_getElem? (i := 2) rfl) rfl (by decide +kernel) (by decide) ⟨Nat.zero_le _, Nat.zero_le _⟩ rfl rfl (Nat.le_of_ble_eq_true rfl) [] [0, 1] [0, 1] rfl rfl (by decide) (by decide) rfl (by decide) dX2_allHops_15 18 rfl ?_
      refine g_if_eq (X := b.testBit p = false) C dX2_allHops_18 35 (by decide) 21 rfl (bI_eq0 _) ?_ ?_
      · intro h18
        refine g_iinc (lv' := [(4, .int (nI (p + 1))), (3, .int (nI (ahF Hp b s p))), (0, .ref n0), (1, .int (nI b)), (2, .int (nI s))]) C dX2_allHops_35 38 rfl 0 rfl (by decide) rfl ?_
        refine g_goto C dX2_allHops_38 5 (by decide) ?_
        have e_1 : (ahF Hp b s (p + 1)) = (ahF Hp b s p) := by first | with_reducible rfl | (simp [ahF, *])
        refine go_eq (lv' := [(4, .int (nI (p + 1))), (3, .int (nI (ahF Hp b s (p + 1)))), (0, .ref n0), (1, .int (nI b)), (2, .int (nI s))]) (ws' := [ob n0 2 [.int (nI lk), .int (nI lp), .ref qo, .ref qc, .int (bI sl), .int (oI s2)], aN (eY E) qo 55 Hp]) (by first | with_reducible rfl | (simp only [e_1, oI_s, oI_0, bI_1, bI_0, and_self, reduceIte]; done)) rfl (by first | with_reducible rfl | (simp only [oI_s, oI_0, bI_1, bI_0, and_self, reduceIte]; done) | rfl) ?_
        exact ih_p (by omega)
      · intro h18
        have h18 : b.testBit p = true := by simpa using h18
        refine g_iload_n C dX2_allHops_21 rfl 22 rfl 1 rfl ?_
        refine g_aload_n C dX2_allHops_22 rfl 23 rfl 2 rfl ?_
        refine g_get C iX2 0 rfl rfl 2 (by decide) (C.1.2.2.2.2 (.fieldLink RX2 18 "StackRuns$Net" "hops" "[I") (List.mem_of_getElem? (i := 1) rfl)) rfl dX2_allHops_23 26 rfl ?_
        refine g_iload C dX2_allHops_26 28 rfl 0 rfl ?_
        refine g_iconst (v := nI 5) C dX2_allHops_28 (by decide) 29 rfl ?_
        refine g_imul (z := nI (p * 5)) C dX2_allHops_29 30 rfl (pk_mul _ _) ?_
        refine g_iload_n C dX2_allHops_30 rfl 31 rfl 4 rfl ?_
        refine g_iadd (z := nI ((p * 5) + s)) C dX2_allHops_31 32 rfl (nI_add _ _) ?_
        refine g_iald (i := ((p * 5) + s)) C 1 rfl (by omega) (by decide) dX2_allHops_32 33 rfl ?_
        refine g_ior (z := nI ((ahF Hp b s p) ||| (Hp ((p * 5) + s)))) C dX2_allHops_33 34 rfl (z_or _ _) ?_
        refine g_istore_n (lv' := [(3, .int (nI ((ahF Hp b s p) ||| (Hp ((p * 5) + s))))), (4, .int (nI p)), (0, .ref n0), (1, .int (nI b)), (2, .int (nI s))]) C dX2_allHops_34 rfl 35 rfl (by decide) rfl ?_
        refine g_iinc (lv' := [(4, .int (nI (p + 1))), (3, .int (nI ((ahF Hp b s p) ||| (Hp ((p * 5) + s))))), (0, .ref n0), (1, .int (nI b)), (2, .int (nI s))]) C dX2_allHops_35 38 rfl 1 rfl (by decide) rfl ?_
        refine g_goto C dX2_allHops_38 5 (by decide) ?_
        have e_2 : (ahF Hp b s (p + 1)) = ((ahF Hp b s p) ||| (Hp ((p * 5) + s))) := by first | with_reducible rfl | (simp [ahF, *])
        refine go_eq (lv' := [(4, .int (nI (p + 1))), (3, .int (nI (ahF Hp b s (p + 1)))), (0, .ref n0), (1, .int (nI b)), (2, .int (nI s))]) (ws' := [ob n0 2 [.int (nI lk), .int (nI lp), .ref qo, .ref qc, .int (bI sl), .int (oI s2)], aN (eY E) qo 55 Hp]) (by first | with_reducible rfl | (simp only [e_2, oI_s, oI_0, bI_1, bI_0, and_self, reduceIte]; done)) rfl (by first | with_reducible rfl | (simp only [oI_s, oI_0, bI_1, bI_0, and_self, reduceIte]; done) | rfl) ?_
        exact ih_p (by omega)
  have e_3 : (ahF Hp b s 0) = 0 := by first | with_reducible rfl | (rfl)
  refine go_eq (lv' := [(4, .int (nI 0)), (3, .int (nI (ahF Hp b s 0))), (0, .ref n0), (1, .int (nI b)), (2, .int (nI s))]) (ws' := [ob n0 2 [.int (nI lk), .int (nI lp), .ref qo, .ref qc, .int (bI sl), .int (oI s2)], aN (eY E) qo 55 Hp]) (by first | with_reducible rfl | (simp only [e_3, oI_s, oI_0, bI_1, bI_0, and_self, reduceIte]; done)) rfl (by first | with_reducible rfl | (simp only [oI_s, oI_0, bI_1, bI_0, and_self, reduceIte]; done) | rfl) ?_
  exact L5 0 (by omega)
set_option maxHeartbeats 4000000 in
set_option maxRecDepth 100000 in
theorem c_X2_holds (l : Launch) (D : va_G) (cy : Nat → ClassId) (n0 : Nat) (lk : Nat) (lp : Nat) (qo : Nat) (qc : Nat) (sl : Bool) (s2 : Nat) (Hp : Nat → Nat) (g0 : Nat) (c : Nat) (h : Nat) (qs : Nat) (Sg : Nat → Nat) (hHp : ∀ k, Hp k < 64) (hlp : lp < 2 ^ 11) (hc : c < 5) (hh : h ≤ 60) (hS : ∀ i, Sg i < 5) : CoI l yX2_holds wsX2_holds 2 45 D cy [ob n0 2 [.int (nI lk), .int (nI lp), .ref qo, .ref qc, .int (bI sl), .int (oI s2)], aN cy qo 55 Hp, ob g0 5 [.int (nI c), .int (nI h), .ref qs], aN cy qs 60 Sg] [.ref n0, .ref g0] [ob n0 2 [.int (nI lk), .int (nI lp), .ref qo, .ref qc, .int (bI sl), .int (oI s2)], aN cy qo 55 Hp, ob g0 5 [.int (nI c), .int (nI h), .ref qs], aN cy qs 60 Sg] (bI (decide (¬ (hoF Hp Sg h (1 * 2 ^ c) &&& lp) = 0))) := by
  refine met_z (cc := cX2_holds) (maxL := 4) (own := RX2) (lv := [(0, .ref n0), (1, .ref g0)]) (by decide) rfl rfl rfl (Nat.le_of_ble_eq_true rfl) (fun E e1 e2 e3 C hret => ?_)
  subst e1; subst e2; subst e3
  have iX2 : ∀ w ∈ wsX20, w ∈ wsX2_holds := fun _ h => List.mem_cons_of_mem _ (List.mem_append_right _ h)
  have iX5 : ∀ w ∈ wsX50, w ∈ wsX2_holds := fun _ h => List.mem_cons_of_mem _ (List.mem_append_left _ (List.mem_append_right _ h))
  refine g_iconst (v := nI 1) C dX2_holds_0 (by decide) 1 rfl ?_
  refine g_aload_n C dX2_holds_1 rfl 2 rfl 1 rfl ?_
  refine g_getN C iX5 2 rfl rfl 0 (by decide) (nf_RX2_47 C.2.2.1 _) rfl dX2_holds_2 5 rfl ?_
  refine g_ishl (z := nI (1 * 2 ^ c)) C dX2_holds_5 6 rfl (z_shl (by omega) (by have := pow_lt_32 hc; omega)) ?_
  refine g_istore_n (lv' := [(2, .int (nI (1 * 2 ^ c))), (0, .ref n0), (1, .ref g0)]) C dX2_holds_6 rfl 7 rfl (by decide) rfl ?_
  refine g_aload_n C dX2_holds_7 rfl 8 rfl 2 rfl ?_
  refine g_getN C iX5 2 rfl rfl 1 (by decide) (nf_RX2_52 C.2.2.1 _) rfl dX2_holds_8 11 rfl ?_
  refine g_iconst (v := nI 1) C dX2_holds_11 (by decide) 12 rfl ?_
  refine g_isub (z := (oI h)) C dX2_holds_12 13 rfl (by exact oI_sub h) ?_
  refine g_istore_n (lv' := [(3, .int (oI h)), (2, .int (nI (1 * 2 ^ c))), (0, .ref n0), (1, .ref g0)]) C dX2_holds_13 rfl 14 rfl (by decide) rfl ?_
  have L14 : ∀ a, ∀ (P : Nat), (a ≤ 60) → (P < 2 ^ 11) → (hoF Hp Sg a P = hoF Hp Sg h (1 * 2 ^ c)) → Go E 0 0 14 [(3, .int (oI a)), (2, .int (nI P)), (0, .ref n0), (1, .ref g0)] [] [ob n0 2 [.int (nI lk), .int (nI lp), .ref qo, .ref qc, .int (bI sl), .int (oI s2)], aN (eY E) qo 55 Hp, ob g0 5 [.int (nI c), .int (nI h), .ref qs], aN (eY E) qs 60 Sg] := by
    refine go_down (fun a => ∀ (P : Nat), (a ≤ 60) → (P < 2 ^ 11) → (hoF Hp Sg a P = hoF Hp Sg h (1 * 2 ^ c)) → Go E 0 0 14 [(3, .int (oI a)), (2, .int (nI P)), (0, .ref n0), (1, .ref g0)] [] [ob n0 2 [.int (nI lk), .int (nI lp), .ref qo, .ref qc, .int (bI sl), .int (oI s2)], aN (eY E) qo 55 Hp, ob g0 5 [.int (nI c), .int (nI h), .ref qs], aN (eY E) qs 60 Sg]) (fun a ih_a => ?_)
    intro P ha hP hF
    refine g_iload_n C dX2_holds_14 rfl 15 rfl 0 rfl ?_
    refine g_if_lt (X := a = 0) C dX2_holds_15 38 (by decide) 18 rfl (oI_lt0 (by omega)) ?_ ?_
    · intro h15
      have ea : a = 0 := by omega
      rw [ea] at hF
      have hF2 : P = hoF Hp Sg h (1 * 2 ^ c) := hF
      refine g_iload_n C dX2_holds_38 rfl 39 rfl 1 rfl ?_
      refine g_aload_n C dX2_holds_39 rfl 40 rfl 2 rfl ?_
      refine g_get C iX2 0 rfl rfl 1 (by decide) (C.1.2.2.2.2 (.fieldLink RX2 15 "StackRuns$Net" "lastPlaces" "I") (List.mem_of_getElem? (i := 1) rfl)) rfl dX2_holds_40 43 rfl ?_
      refine g_iand (z := nI (P &&& lp)) C dX2_holds_43 44 rfl (z_and _ _) ?_
      refine g_if_eq (X := P &&& lp = 0) C dX2_holds_44 51 (by decide) 47 rfl (nI_eq0 (by exact Nat.lt_of_le_of_lt Nat.and_le_left (by omega))) ?_ ?_
      · intro h44
        refine g_iconst (v := nI 0) C dX2_holds_51 (by decide) 52 rfl ?_
        have e_1 : (decide (¬ (hoF Hp Sg h (1 * 2 ^ c) &&& lp) = 0)) = false := by first | with_reducible rfl | (rw [← hF2]; simp [h44])
        refine go_eq rfl (st' := [.int (bI (decide (¬ (hoF Hp Sg h (1 * 2 ^ c) &&& lp) = 0)))]) (ws' := [ob n0 2 [.int (nI lk), .int (nI lp), .ref qo, .ref qc, .int (bI sl), .int (oI s2)], aN (eY E) qo 55 Hp, ob g0 5 [.int (nI c), .int (nI h), .ref qs], aN (eY E) qs 60 Sg]) (by first | with_reducible rfl | (simp only [e_1, oI_s, oI_0, bI_1, bI_0, and_self, reduceIte]; done)) (by first | with_reducible rfl | (simp only [e_1, oI_s, oI_0, bI_1, bI_0, and_self, reduceIte]; done)) ?_
        exact hret _ _ dX2_holds_52
      · intro h44
        refine g_iconst (v := nI 1) C dX2_holds_47 (by decide) 48 rfl ?_
        refine g_goto C dX2_holds_48 52 (by decide) ?_
        have e_2 : (decide (¬ (hoF Hp Sg h (1 * 2 ^ c) &&& lp) = 0)) = true := by first | with_reducible rfl | (rw [← hF2]; simp [h44])
        refine go_eq rfl (st' := [.int (bI (decide (¬ (hoF Hp Sg h (1 * 2 ^ c) &&& lp) = 0)))]) (ws' := [ob n0 2 [.int (nI lk), .int (nI lp), .ref qo, .ref qc, .int (bI sl), .int (oI s2)], aN (eY E) qo 55 Hp, ob g0 5 [.int (nI c), .int (nI h), .ref qs], aN (eY E) qs 60 Sg]) (by first | with_reducible rfl | (simp only [e_2, oI_s, oI_0, bI_1, bI_0, and_self, reduceIte]; done)) (by first | with_reducible rfl | (simp only [e_2, oI_s, oI_0, bI_1, bI_0, and_self, reduceIte]; done)) ?_
        exact hret _ _ dX2_holds_52
    · intro h15
      have hS1 := hS (a - 1)
      refine g_aload_n C dX2_holds_18 rfl 19 rfl 2 rfl ?_
      refine g_iload_n C dX2_holds_19 rfl 20 rfl 1 rfl ?_
      refine g_aload_n C dX2_holds_20 rfl 21 rfl 3 rfl ?_
      refine g_getN C iX5 2 rfl rfl 2 (by decide) (nf_RX2_55 C.2.2.1 _) rfl dX2_holds_21 24 rfl ?_
      refine g_iload_n C dX2_holds_24 rfl 25 rfl 0 rfl ?_
      refine go_st (show Value.int (oI a) = .int (nI (a - 1)) from by rw [oI_pos (by omega)]) ?_
      refine g_iald (i := (a - 1)) C 3 rfl (by omega) (by decide) dX2_holds_25 26 rfl ?_
      refine g_cVi (ws2 := [ob n0 2 [.int (nI lk), .int (nI lp), .ref qo, .ref qc, .int (bI sl), .int (oI s2)], aN (eY E) qo 55 Hp, ob g0 5 [.int (nI c), .int (nI h), .ref qs], aN (eY E) qs 60 Sg]) (As := [.int (nI P), .int (nI (Sg (a - 1)))]) (st := []) (wsc := [ob n0 2 [.int (nI lk), .int (nI lp), .ref qo, .ref qc, .int (bI sl), .int (oI s2)], aN (eY E) qo 55 Hp]) (wr := [ob g0 5 [.int (nI c), .int (nI h), .ref qs], aN (eY E) qs 60 Sg]) C (c_X2_allHops (eL E) (eD E) (eY E) n0 lk lp qo qc sl s2 Hp P (Sg (a - 1)) (by assumption) (by omega) (by omega)) 2 gX2_holds_X2_allHops rfl (by decide +kernel) (by decide) ⟨Nat.zero_le _, Nat.zero_le _⟩ rfl 0 rfl rfl rfl (Nat.le_of_ble_eq_true rfl) [0, 1] [2, 3] [2, 3, 0, 1] rfl rfl (by decide) (by decide) rfl (by decide) dX2_holds_26 29 rfl ?_
      have hA1 := ahF_lt hHp P (Sg (a - 1)) 11
      refine g_iconst (v := nI 5) C dX2_holds_29 (by decide) 30 rfl ?_
      refine g_ishl (z := nI ((ahF Hp P (Sg (a - 1)) 11) * 32)) C dX2_holds_30 31 rfl (z_shl (by omega) (by omega)) ?_
      refine g_istore_n (lv' := [(2, .int (nI ((ahF Hp P (Sg (a - 1)) 11) * 32))), (3, .int (oI a)), (0, .ref n0), (1, .ref g0)]) C dX2_holds_31 rfl 32 rfl (by decide) rfl ?_
      rw [show oI a = oI ((a - 1) + 1) from by rw [show a - 1 + 1 = a from by omega]]
      refine g_idec (lv' := [(3, .int (oI (a - 1))), (2, .int (nI ((ahF Hp P (Sg (a - 1)) 11) * 32))), (0, .ref n0), (1, .ref g0)]) C dX2_holds_32 35 rfl 1 rfl (by decide) rfl ?_
      refine g_goto C dX2_holds_35 14 (by decide) ?_
      exact ih_a (a - 1) (by omega) ((ahF Hp P (Sg (a - 1)) 11) * 32) (by omega) (by have := ahF_lt hHp P (Sg (a - 1)) 11; omega) (by rw [← hF, hoF_pos (a := a) (by omega)])
  exact L14 h (1 * 2 ^ c) (by omega) (by have := pow_lt_32 hc; omega) (by rfl)
set_option maxHeartbeats 4000000 in
set_option maxRecDepth 100000 in
theorem c_X2_lower (l : Launch) (D : va_G) (cy : Nat → ClassId) (n0 : Nat) (lk : Nat) (lp : Nat) (qo : Nat) (qc : Nat) (sl : Bool) (s2 : Nat) (Kc : Nat → Nat) (hd : Nat) (p : Nat) (v : Nat) (hK : okf Kc) (hhd : hd < 25) (hp : p < 11) (hv : v ≤ 1000000000000000 ∨ v = 9000000000000000000) : CoI l yX2_lower wsX2_lower 0 0 D cy [ob n0 2 [.int (nI lk), .int (nI lp), .ref qo, .ref qc, .int (bI sl), .int (oI s2)], aL cy qc 275 Kc] [.ref n0, .int (nI hd), .int (nI p), .long (lN v)] [ob n0 2 [.int (nI lk), .int (nI lp), .ref qo, .ref qc, .int (bI sl), .int (oI s2)], aL cy qc 275 (lowC Kc (hd * 11 + p) v)] (bI (lowB Kc (hd * 11 + p) v)) := by
  refine met_z (cc := cX2_lower) (maxL := 5) (own := RX2) (lv := [(0, .ref n0), (1, .int (nI hd)), (2, .int (nI p)), (3, .long (lN v))]) (by decide) rfl rfl rfl (Nat.le_of_ble_eq_true rfl) (fun E e1 e2 e3 C hret => ?_)
  subst e1; subst e2; subst e3
  have iX2 : ∀ w ∈ wsX20, w ∈ wsX2_lower := fun _ h => List.mem_cons_of_mem _ (List.mem_append_right _ h)
  have hK1 := hK (hd * 11 + p)
  refine g_lload_n C dX2_lower_0 rfl 1 rfl 3 rfl ?_
  refine g_aload_n C dX2_lower_1 rfl 2 rfl 0 rfl ?_
  refine g_get C iX2 0 rfl rfl 3 (by decide) (C.1.2.2.2.2 (.fieldLink RX2 22 "StackRuns$Net" "cost" "[J") (List.mem_of_getElem? (i := 1) rfl)) rfl dX2_lower_2 5 rfl ?_
  refine g_iload_n C dX2_lower_5 rfl 6 rfl 1 rfl ?_
  refine g_bipush (v := nI 11) C dX2_lower_6 (by decide) 8 rfl ?_
  refine g_imul (z := nI (hd * 11)) C dX2_lower_8 9 rfl (pk_mul _ _) ?_
  refine g_iload_n C dX2_lower_9 rfl 10 rfl 2 rfl ?_
  refine g_iadd (z := nI ((hd * 11) + p)) C dX2_lower_10 11 rfl (nI_add _ _) ?_
  refine g_lald (i := ((hd * 11) + p)) C 1 rfl (by omega) (by decide) dX2_lower_11 12 rfl ?_
  refine g_lcmp_lt (X := v < Kc ((hd * 11) + p)) C dX2_lower_12 rfl dX2_lower_13 18 (by decide) 16 rfl (pk_lLT (by omega) (by omega)) ?_ ?_
  · intro h12
    refine g_aload_n C dX2_lower_18 rfl 19 rfl 0 rfl ?_
    refine g_get C iX2 0 rfl rfl 3 (by decide) (C.1.2.2.2.2 (.fieldLink RX2 22 "StackRuns$Net" "cost" "[J") (List.mem_of_getElem? (i := 1) rfl)) rfl dX2_lower_19 22 rfl ?_
    refine g_iload_n C dX2_lower_22 rfl 23 rfl 1 rfl ?_
    refine g_bipush (v := nI 11) C dX2_lower_23 (by decide) 25 rfl ?_
    refine g_imul (z := nI (hd * 11)) C dX2_lower_25 26 rfl (pk_mul _ _) ?_
    refine g_iload_n C dX2_lower_26 rfl 27 rfl 2 rfl ?_
    refine g_iadd (z := nI ((hd * 11) + p)) C dX2_lower_27 28 rfl (nI_add _ _) ?_
    refine g_lload_n C dX2_lower_28 rfl 29 rfl 3 rfl ?_
    refine g_last (ws' := [ob n0 2 [.int (nI lk), .int (nI lp), .ref qo, .ref qc, .int (bI sl), .int (oI s2)], aL (eY E) qc 275 (up Kc ((hd * 11) + p) v)]) (i := ((hd * 11) + p)) C 1 rfl (by omega) (by decide) dX2_lower_29 30 rfl (upd_L _ _ _) rfl ?_
    refine g_iconst (v := nI 1) C dX2_lower_30 (by decide) 31 rfl ?_
    have e_1 : (lowB Kc (hd * 11 + p) v) = true := by first | with_reducible rfl | (simp [lowC, lowB, *])
    have e_2 : (lowC Kc (hd * 11 + p) v) = (up Kc ((hd * 11) + p) v) := by first | with_reducible rfl | (simp [lowC, lowB, *])
    refine go_eq rfl (st' := [.int (bI (lowB Kc (hd * 11 + p) v))]) (ws' := [ob n0 2 [.int (nI lk), .int (nI lp), .ref qo, .ref qc, .int (bI sl), .int (oI s2)], aL (eY E) qc 275 (lowC Kc (hd * 11 + p) v)]) (by first | with_reducible rfl | (simp only [e_1, e_2, oI_s, oI_0, bI_1, bI_0, and_self, reduceIte]; done)) (by first | with_reducible rfl | (simp only [e_1, e_2, oI_s, oI_0, bI_1, bI_0, and_self, reduceIte]; done)) ?_
    exact hret _ _ dX2_lower_31
  · intro h12
    refine g_iconst (v := nI 0) C dX2_lower_16 (by decide) 17 rfl ?_
    have e_3 : (lowB Kc (hd * 11 + p) v) = false := by first | with_reducible rfl | (simp [lowC, lowB, *])
    have e_4 : (lowC Kc (hd * 11 + p) v) = Kc := by first | with_reducible rfl | (simp [lowC, lowB, *])
    refine go_eq rfl (st' := [.int (bI (lowB Kc (hd * 11 + p) v))]) (ws' := [ob n0 2 [.int (nI lk), .int (nI lp), .ref qo, .ref qc, .int (bI sl), .int (oI s2)], aL (eY E) qc 275 (lowC Kc (hd * 11 + p) v)]) (by first | with_reducible rfl | (simp only [e_3, e_4, oI_s, oI_0, bI_1, bI_0, and_self, reduceIte]; done)) (by first | with_reducible rfl | (simp only [e_3, e_4, oI_s, oI_0, bI_1, bI_0, and_self, reduceIte]; done)) ?_
    exact hret _ _ dX2_lower_17
set_option maxHeartbeats 4000000 in
set_option maxRecDepth 100000 in
theorem c_X2_through (l : Launch) (D : va_G) (cy : Nat → ClassId) (n0 : Nat) (lk : Nat) (lp : Nat) (qo : Nat) (qc : Nat) (sl : Bool) (s2 : Nat) (Hp : Nat → Nat) (Kc : Nat → Nat) (p : Nat) (s : Nat) (x : Nat) (hHp : ∀ k, Hp k < 64) (hp : p < 11) (hs : s < 5) (hx : x < 11) : CoL l yX2_through wsX2_through 2 44 D cy [ob n0 2 [.int (nI lk), .int (nI lp), .ref qo, .ref qc, .int (bI sl), .int (oI s2)], aN cy qo 55 Hp, aL cy qc 275 Kc] [.ref n0, .int (nI p), .int (nI s), .int (nI x)] [ob n0 2 [.int (nI lk), .int (nI lp), .ref qo, .ref qc, .int (bI sl), .int (oI s2)], aN cy qo 55 Hp, aL cy qc 275 Kc] (lN (thF Hp Kc p s x)) := by
  refine met_l (cc := cX2_through) (maxL := 4) (own := RX2) (lv := [(0, .ref n0), (1, .int (nI p)), (2, .int (nI s)), (3, .int (nI x))]) (by decide) rfl rfl rfl (Nat.le_of_ble_eq_true rfl) (fun E e1 e2 e3 C hret => ?_)
  subst e1; subst e2; subst e3
  have iX2 : ∀ w ∈ wsX20, w ∈ wsX2_through := fun _ h => List.mem_cons_of_mem _ (List.mem_append_right _ h)
  refine g_iload_n C dX2_through_0 rfl 1 rfl 1 rfl ?_
  refine g_iconst (v := nI 5) C dX2_through_1 (by decide) 2 rfl ?_
  refine g_icmp_ge (X := 5 ≤ p) C dX2_through_2 21 (by decide) 5 rfl (nI_leI (by omega) (by omega)) ?_ ?_
  · intro h2
    refine g_iload_n C dX2_through_21 rfl 22 rfl 3 rfl ?_
    refine g_iconst (v := nI 5) C dX2_through_22 (by decide) 23 rfl ?_
    refine g_icmp_lt (X := x < 5) C dX2_through_23 42 (by decide) 26 rfl (nI_ltI (by omega) (by omega)) ?_ ?_
    · intro h23
      refine g_ldc2 (v' := (lN 9000000000000000000)) C (C.1.2.2.2.2 (.constantLong RX2 87 (9000000000000000000)) (List.mem_of_getElem? (i := 2) rfl)) (by decide) dX2_through_42 45 rfl ?_
      have e_1 : (thF Hp Kc p s x) = 9000000000000000000 := by first | with_reducible rfl | (first | (simp only [thF]; rw [if_pos (by omega)]; done) | (simp only [thF]; rw [if_neg (by omega), if_pos ⟨by omega, by assumption⟩]; done) | (simp only [thF]; rw [if_neg (by omega), if_neg (fun q => Bool.noConfusion (h35.symm.trans q.2))]; done) | (simp only [thF]; rw [if_neg (by omega), if_neg (fun q => by omega)]))
      refine go_eq rfl (st' := [.long (lN (thF Hp Kc p s x))]) (ws' := [ob n0 2 [.int (nI lk), .int (nI lp), .ref qo, .ref qc, .int (bI sl), .int (oI s2)], aN (eY E) qo 55 Hp, aL (eY E) qc 275 Kc]) (by first | with_reducible rfl | (simp only [e_1, oI_s, oI_0, bI_1, bI_0, and_self, reduceIte]; done)) (by first | with_reducible rfl | (simp only [e_1, oI_s, oI_0, bI_1, bI_0, and_self, reduceIte]; done)) ?_
      exact hret _ _ dX2_through_45
    · intro h23
      refine g_aload_n C dX2_through_26 rfl 27 rfl 0 rfl ?_
      refine g_iload_n C dX2_through_27 rfl 28 rfl 1 rfl ?_
      refine g_iload_n C dX2_through_28 rfl 29 rfl 2 rfl ?_
      refine g_iload_n C dX2_through_29 rfl 30 rfl 3 rfl ?_
      refine g_iconst (v := nI 5) C dX2_through_30 (by decide) 31 rfl ?_
      refine g_isub (z := nI (x - 5)) C dX2_through_31 32 rfl (pk_sub (by omega)) ?_
      refine g_cVi (ws2 := [ob n0 2 [.int (nI lk), .int (nI lp), .ref qo, .ref qc, .int (bI sl), .int (oI s2)], aN (eY E) qo 55 Hp, aL (eY E) qc 275 Kc]) (As := [.int (nI p), .int (nI s), .int (nI (x - 5))]) (st := []) (wsc := [ob n0 2 [.int (nI lk), .int (nI lp), .ref qo, .ref qc, .int (bI sl), .int (oI s2)], aN (eY E) qo 55 Hp]) (wr := [aL (eY E) qc 275 Kc]) C (c_X2_hasHop (eL E) (eD E) (eY E) n0 lk lp qo qc sl s2 Hp p s (x - 5) (by assumption) (by omega) (by omega) (by omega)) 3 gX2_through_X2_hasHop rfl (by decide +kernel) (by decide) ⟨Nat.zero_le _, Nat.zero_le _⟩ rfl 0 rfl rfl rfl (Nat.le_of_ble_eq_true rfl) [0, 1] [2] [1, 2, 0] rfl rfl (by decide) (by decide) rfl (by decide) dX2_through_32 35 rfl ?_
      refine g_if_eq (X := (Hp (p * 5 + s)).testBit (x - 5) = false) C dX2_through_35 42 (by decide) 38 rfl (bI_eq0 _) ?_ ?_
      · intro h35
        refine g_ldc2 (v' := (lN 9000000000000000000)) C (C.1.2.2.2.2 (.constantLong RX2 87 (9000000000000000000)) (List.mem_of_getElem? (i := 2) rfl)) (by decide) dX2_through_42 45 rfl ?_
        have e_2 : (thF Hp Kc p s x) = 9000000000000000000 := by first | with_reducible rfl | (first | (simp only [thF]; rw [if_pos (by omega)]; done) | (simp only [thF]; rw [if_neg (by omega), if_pos ⟨by omega, by assumption⟩]; done) | (simp only [thF]; rw [if_neg (by omega), if_neg (fun q => Bool.noConfusion (h35.symm.trans q.2))]; done) | (simp only [thF]; rw [if_neg (by omega), if_neg (fun q => by omega)]))
        refine go_eq rfl (st' := [.long (lN (thF Hp Kc p s x))]) (ws' := [ob n0 2 [.int (nI lk), .int (nI lp), .ref qo, .ref qc, .int (bI sl), .int (oI s2)], aN (eY E) qo 55 Hp, aL (eY E) qc 275 Kc]) (by first | with_reducible rfl | (simp only [e_2, oI_s, oI_0, bI_1, bI_0, and_self, reduceIte]; done)) (by first | with_reducible rfl | (simp only [e_2, oI_s, oI_0, bI_1, bI_0, and_self, reduceIte]; done)) ?_
        exact hret _ _ dX2_through_45
      · intro h35
        have h35 : (Hp (p * 5 + s)).testBit (x - 5) = true := by simpa using h35
        refine g_lconst (v := lN 0) C dX2_through_38 (by decide) 39 rfl ?_
        refine g_goto C dX2_through_39 45 (by decide) ?_
        have e_3 : (thF Hp Kc p s x) = 0 := by first | with_reducible rfl | (first | (simp only [thF]; rw [if_pos (by omega)]; done) | (simp only [thF]; rw [if_neg (by omega), if_pos ⟨by omega, by assumption⟩]; done) | (simp only [thF]; rw [if_neg (by omega), if_neg (fun q => Bool.noConfusion (h35.symm.trans q.2))]; done) | (simp only [thF]; rw [if_neg (by omega), if_neg (fun q => by omega)]))
        refine go_eq rfl (st' := [.long (lN (thF Hp Kc p s x))]) (ws' := [ob n0 2 [.int (nI lk), .int (nI lp), .ref qo, .ref qc, .int (bI sl), .int (oI s2)], aN (eY E) qo 55 Hp, aL (eY E) qc 275 Kc]) (by first | with_reducible rfl | (simp only [e_3, oI_s, oI_0, bI_1, bI_0, and_self, reduceIte]; done)) (by first | with_reducible rfl | (simp only [e_3, oI_s, oI_0, bI_1, bI_0, and_self, reduceIte]; done)) ?_
        exact hret _ _ dX2_through_45
  · intro h2
    refine g_aload_n C dX2_through_5 rfl 6 rfl 0 rfl ?_
    refine g_get C iX2 0 rfl rfl 3 (by decide) (C.1.2.2.2.2 (.fieldLink RX2 22 "StackRuns$Net" "cost" "[J") (List.mem_of_getElem? (i := 1) rfl)) rfl dX2_through_6 9 rfl ?_
    refine g_iload_n C dX2_through_9 rfl 10 rfl 1 rfl ?_
    refine g_iload_n C dX2_through_10 rfl 11 rfl 2 rfl ?_
    refine g_cSNi (ws2 := [ob n0 2 [.int (nI lk), .int (nI lp), .ref qo, .ref qc, .int (bI sl), .int (oI s2)], aN (eY E) qo 55 Hp, aL (eY E) qc 275 Kc]) (As := [.int (nI p), .int (nI s)]) (st := [.ref qc]) (wsc := []) (wr := [ob n0 2 [.int (nI lk), .int (nI lp), .ref qo, .ref qc, .int (bI sl), .int (oI s2)], aN (eY E) qo 55 Hp, aL (eY E) qc 275 Kc]) C (c_X6_headOf (eL E) (eD E) (eY E) p s ) 2 ggX2_through_X6_headOf (nm_RX2_95 C.2.2.1) (List.mem_of_getElem? (i := 4) rfl) (List.mem_of_getElem? (i := 3) rfl) rfl (by decide +kernel) (by decide) ⟨Nat.zero_le _, Nat.zero_le _⟩ rfl rfl (Nat.le_of_ble_eq_true rfl) [] [0, 1, 2] [0, 1, 2] rfl rfl (by decide) (by decide) rfl (by decide) dX2_through_11 14 rfl ?_
    refine g_bipush (v := nI 11) C dX2_through_14 (by decide) 16 rfl ?_
    refine g_imul (z := nI ((p * 5 + s) * 11)) C dX2_through_16 17 rfl (pk_mul _ _) ?_
    refine g_iload_n C dX2_through_17 rfl 18 rfl 3 rfl ?_
    refine g_iadd (z := nI (((p * 5 + s) * 11) + x)) C dX2_through_18 19 rfl (nI_add _ _) ?_
    refine g_lald (i := (((p * 5 + s) * 11) + x)) C 2 rfl (by omega) (by decide) dX2_through_19 20 rfl ?_
    have e_4 : (thF Hp Kc p s x) = (Kc (((p * 5 + s) * 11) + x)) := by first | with_reducible rfl | (first | (simp only [thF]; rw [if_pos (by omega)]; done) | (simp only [thF]; rw [if_neg (by omega), if_pos ⟨by omega, by assumption⟩]; done) | (simp only [thF]; rw [if_neg (by omega), if_neg (fun q => Bool.noConfusion (h35.symm.trans q.2))]; done) | (simp only [thF]; rw [if_neg (by omega), if_neg (fun q => by omega)]))
    refine go_eq rfl (st' := [.long (lN (thF Hp Kc p s x))]) (ws' := [ob n0 2 [.int (nI lk), .int (nI lp), .ref qo, .ref qc, .int (bI sl), .int (oI s2)], aN (eY E) qo 55 Hp, aL (eY E) qc 275 Kc]) (by first | with_reducible rfl | (simp only [e_4, oI_s, oI_0, bI_1, bI_0, and_self, reduceIte]; done)) (by first | with_reducible rfl | (simp only [e_4, oI_s, oI_0, bI_1, bI_0, and_self, reduceIte]; done)) ?_
    exact hret _ _ dX2_through_20
set_option maxHeartbeats 4000000 in
set_option maxRecDepth 100000 in
theorem c_X2_lowerRow (l : Launch) (D : va_G) (cy : Nat → ClassId) (n0 : Nat) (lk : Nat) (lp : Nat) (qo : Nat) (qc : Nat) (sl : Bool) (s2 : Nat) (Hp : Nat → Nat) (Kc : Nat → Nat) (hd : Nat) (f : Nat) (p : Nat) (s : Nat) (hHp : ∀ k, Hp k < 64) (hK : okf Kc) (hhd : hd < 25) (hf : f ≤ 1000000000000000 ∨ f = 9000000000000000000) (hp : p < 11) (hs : s < 5) : CoI l yX2_lowerRow wsX2_lowerRow 3 67 D cy [ob n0 2 [.int (nI lk), .int (nI lp), .ref qo, .ref qc, .int (bI sl), .int (oI s2)], aN cy qo 55 Hp, aL cy qc 275 Kc] [.ref n0, .int (nI hd), .long (lN f), .int (nI p), .int (nI s)] [ob n0 2 [.int (nI lk), .int (nI lp), .ref qo, .ref qc, .int (bI sl), .int (oI s2)], aN cy qo 55 Hp, aL cy qc 275 (nrC Hp Kc hd f p s 6)] (bI (nrB Hp Kc hd f p s 6)) := by
  refine met_z (cc := cX2_lowerRow) (maxL := 8) (own := RX2) (lv := [(0, .ref n0), (1, .int (nI hd)), (2, .long (lN f)), (4, .int (nI p)), (5, .int (nI s))]) (by decide) rfl rfl rfl (Nat.le_of_ble_eq_true rfl) (fun E e1 e2 e3 C hret => ?_)
  subst e1; subst e2; subst e3
  refine g_iconst (v := nI 0) C dX2_lowerRow_0 (by decide) 1 rfl ?_
  refine g_istore (lv' := [(6, .int (nI 0)), (0, .ref n0), (1, .int (nI hd)), (2, .long (lN f)), (4, .int (nI p)), (5, .int (nI s))]) C dX2_lowerRow_1 3 rfl (by decide) rfl ?_
  refine g_iconst (v := nI 5) C dX2_lowerRow_3 (by decide) 4 rfl ?_
  refine g_istore (lv' := [(7, .int (nI 5)), (6, .int (nI 0)), (0, .ref n0), (1, .int (nI hd)), (2, .long (lN f)), (4, .int (nI p)), (5, .int (nI s))]) C dX2_lowerRow_4 6 rfl (by decide) rfl ?_
  have L6 : ∀ i, i ≤ 6 → Go E 0 0 6 [(7, .int (nI (5 + i))), (6, .int (bI (nrB Hp Kc hd f p s i))), (0, .ref n0), (1, .int (nI hd)), (2, .long (lN f)), (4, .int (nI p)), (5, .int (nI s))] [] [ob n0 2 [.int (nI lk), .int (nI lp), .ref qo, .ref qc, .int (bI sl), .int (oI s2)], aN (eY E) qo 55 Hp, aL (eY E) qc 275 (nrC Hp Kc hd f p s i)] := by
    refine go_for 6 (fun i => Go E 0 0 6 [(7, .int (nI (5 + i))), (6, .int (bI (nrB Hp Kc hd f p s i))), (0, .ref n0), (1, .int (nI hd)), (2, .long (lN f)), (4, .int (nI p)), (5, .int (nI s))] [] [ob n0 2 [.int (nI lk), .int (nI lp), .ref qo, .ref qc, .int (bI sl), .int (oI s2)], aN (eY E) qo 55 Hp, aL (eY E) qc 275 (nrC Hp Kc hd f p s i)]) (fun i hi_i ih_i => ?_)
    have hX := nrC_ok (Hp := Hp) hK hd f p s i
    refine g_iload C dX2_lowerRow_6 8 rfl 0 rfl ?_
    refine g_bipush (v := nI 11) C dX2_lowerRow_8 (by decide) 10 rfl ?_
    refine g_icmp_ge (X := 11 ≤ 5 + i) C dX2_lowerRow_10 55 (by decide) 13 rfl (nI_leI (by omega) (by omega)) ?_ ?_
    · intro h10
      have x_i : i = 6 := by omega
      try rw [x_i]
      refine g_iload C dX2_lowerRow_55 57 rfl 1 rfl ?_
      exact hret _ _ dX2_lowerRow_57
    · intro h10
      refine g_aload_n C dX2_lowerRow_13 rfl 14 rfl 2 rfl ?_
      refine g_iload_n C dX2_lowerRow_14 rfl 15 rfl 3 rfl ?_
      refine g_iload C dX2_lowerRow_15 17 rfl 0 rfl ?_
      refine g_lload_n C dX2_lowerRow_17 rfl 18 rfl 4 rfl ?_
      refine g_aload_n C dX2_lowerRow_18 rfl 19 rfl 2 rfl ?_
      refine g_iload C dX2_lowerRow_19 21 rfl 5 rfl ?_
      refine g_iload C dX2_lowerRow_21 23 rfl 6 rfl ?_
      refine g_iload C dX2_lowerRow_23 25 rfl 0 rfl ?_
      refine g_cVl (ws2 := [ob n0 2 [.int (nI lk), .int (nI lp), .ref qo, .ref qc, .int (bI sl), .int (oI s2)], aN (eY E) qo 55 Hp, aL (eY E) qc 275 (nrC Hp Kc hd f p s i)]) (As := [.int (nI p), .int (nI s), .int (nI (5 + i))]) (st := [.long (lN f), .int (nI (5 + i)), .int (nI hd), .ref n0]) (wsc := [ob n0 2 [.int (nI lk), .int (nI lp), .ref qo, .ref qc, .int (bI sl), .int (oI s2)], aN (eY E) qo 55 Hp, aL (eY E) qc 275 (nrC Hp Kc hd f p s i)]) (wr := []) C (c_X2_through (eL E) (eD E) (eY E) n0 lk lp qo qc sl s2 Hp (nrC Hp Kc hd f p s i) p s (5 + i) (by assumption) (by omega) (by omega) (by omega)) 3 gX2_lowerRow_X2_through rfl (by decide +kernel) (by decide) ⟨Nat.zero_le _, Nat.zero_le _⟩ rfl 0 rfl rfl rfl (Nat.le_of_ble_eq_true rfl) [0, 1, 2] [] [0, 1, 2] rfl rfl (by decide) (by decide) rfl (by decide) dX2_lowerRow_25 28 rfl ?_
      refine g_cSNl (ws2 := [ob n0 2 [.int (nI lk), .int (nI lp), .ref qo, .ref qc, .int (bI sl), .int (oI s2)], aN (eY E) qo 55 Hp, aL (eY E) qc 275 (nrC Hp Kc hd f p s i)]) (As := [.long (lN f), .long (lN (thF Hp (nrC Hp Kc hd f p s i) p s (5 + i)))]) (st := [.int (nI (5 + i)), .int (nI hd), .ref n0]) (wsc := []) (wr := [ob n0 2 [.int (nI lk), .int (nI lp), .ref qo, .ref qc, .int (bI sl), .int (oI s2)], aN (eY E) qo 55 Hp, aL (eY E) qc 275 (nrC Hp Kc hd f p s i)]) C (c_X6_sum (eL E) (eD E) (eY E) f (thF Hp (nrC Hp Kc hd f p s i) p s (5 + i)) (by exact hf) (by exact thF_ok hX _ _ _)) 2 ggX2_lowerRow_X6_sum (nm_RX2_98 C.2.2.1) (List.mem_of_getElem? (i := 9) rfl) (List.mem_of_getElem? (i := 18) rfl) rfl (by decide +kernel) (by decide) ⟨Nat.zero_le _, Nat.zero_le _⟩ rfl rfl (Nat.le_of_ble_eq_true rfl) [] [0, 1, 2] [0, 1, 2] rfl rfl (by decide) (by decide) rfl (by decide) dX2_lowerRow_28 31 rfl ?_
      refine g_cVi (ws2 := [ob n0 2 [.int (nI lk), .int (nI lp), .ref qo, .ref qc, .int (bI sl), .int (oI s2)], aN (eY E) qo 55 Hp, aL (eY E) qc 275 (lowC (nrC Hp Kc hd f p s i) (hd * 11 + (5 + i)) (sm f (thF Hp (nrC Hp Kc hd f p s i) p s (5 + i))))]) (As := [.int (nI hd), .int (nI (5 + i)), .long (lN (sm f (thF Hp (nrC Hp Kc hd f p s i) p s (5 + i))))]) (st := []) (wsc := [ob n0 2 [.int (nI lk), .int (nI lp), .ref qo, .ref qc, .int (bI sl), .int (oI s2)], aL (eY E) qc 275 (nrC Hp Kc hd f p s i)]) (wr := [aN (eY E) qo 55 Hp]) C (c_X2_lower (eL E) (eD E) (eY E) n0 lk lp qo qc sl s2 (nrC Hp Kc hd f p s i) hd (5 + i) (sm f (thF Hp (nrC Hp Kc hd f p s i) p s (5 + i))) (by first | assumption | exact nrC_ok (by assumption) _ _ _ _ _ | exact nbC_ok (by assumption) _ _ _ _ | exact ndC_ok (by assumption) _ | exact niC_ok (by assumption) _) (by omega) (by omega) (by first | exact sm_ok _ _ | omega)) 3 gX2_lowerRow_X2_lower rfl (by decide +kernel) (by decide) ⟨Nat.zero_le _, Nat.zero_le _⟩ rfl 0 rfl rfl rfl (Nat.le_of_ble_eq_true rfl) [0, 2] [1] [1, 0, 2] rfl rfl (by decide) (by decide) rfl (by decide) dX2_lowerRow_31 34 rfl ?_
      refine g_if_ne (X := lowB (nrC Hp Kc hd f p s i) (hd * 11 + (5 + i)) (sm f (thF Hp (nrC Hp Kc hd f p s i) p s (5 + i))) = true) C dX2_lowerRow_34 42 (by decide) 37 rfl (bI_ne0 _) ?_ ?_
      · intro h34
        refine g_iconst (v := nI 1) C dX2_lowerRow_42 (by decide) 43 rfl ?_
        refine g_goto C dX2_lowerRow_43 47 (by decide) ?_
        refine g_istore (lv' := [(6, .int (nI 1)), (7, .int (nI (5 + i))), (0, .ref n0), (1, .int (nI hd)), (2, .long (lN f)), (4, .int (nI p)), (5, .int (nI s))]) C dX2_lowerRow_47 49 rfl (by decide) rfl ?_
        refine g_iinc (lv' := [(7, .int (nI ((5 + i) + 1))), (6, .int (nI 1)), (0, .ref n0), (1, .int (nI hd)), (2, .long (lN f)), (4, .int (nI p)), (5, .int (nI s))]) C dX2_lowerRow_49 52 rfl 1 rfl (by decide) rfl ?_
        refine g_goto C dX2_lowerRow_52 6 (by decide) ?_
        have e_1 : (5 + (i + 1)) = ((5 + i) + 1) := by first | with_reducible rfl | (first | rfl | (simp only [nrC, nrB]; done) | (simp only [nrC, nrB, *, Bool.true_or, Bool.or_true, Bool.false_or, Bool.or_false, Bool.or_self]; done) | simp [nrC, nrB, *])
        have e_2 : (nrB Hp Kc hd f p s (i + 1)) = true := by first | with_reducible rfl | (first | rfl | (simp only [nrC, nrB]; done) | (simp only [nrC, nrB, *, Bool.true_or, Bool.or_true, Bool.false_or, Bool.or_false, Bool.or_self]; done) | simp [nrC, nrB, *])
        have e_3 : (nrC Hp Kc hd f p s (i + 1)) = (lowC (nrC Hp Kc hd f p s i) (hd * 11 + (5 + i)) (sm f (thF Hp (nrC Hp Kc hd f p s i) p s (5 + i)))) := by first | with_reducible rfl | (first | rfl | (simp only [nrC, nrB]; done) | (simp only [nrC, nrB, *, Bool.true_or, Bool.or_true, Bool.false_or, Bool.or_false, Bool.or_self]; done) | simp [nrC, nrB, *])
        refine go_eq (lv' := [(7, .int (nI (5 + (i + 1)))), (6, .int (bI (nrB Hp Kc hd f p s (i + 1)))), (0, .ref n0), (1, .int (nI hd)), (2, .long (lN f)), (4, .int (nI p)), (5, .int (nI s))]) (ws' := [ob n0 2 [.int (nI lk), .int (nI lp), .ref qo, .ref qc, .int (bI sl), .int (oI s2)], aN (eY E) qo 55 Hp, aL (eY E) qc 275 (nrC Hp Kc hd f p s (i + 1))]) (by first | with_reducible rfl | (simp only [e_1, e_2, oI_s, oI_0, bI_1, bI_0, and_self, reduceIte]; done)) rfl (by first | with_reducible rfl | (simp only [e_3, oI_s, oI_0, bI_1, bI_0, and_self, reduceIte]; done)) ?_
        exact ih_i (by omega)
      · intro h34
        have h34 : lowB (nrC Hp Kc hd f p s i) (hd * 11 + (5 + i)) (sm f (thF Hp (nrC Hp Kc hd f p s i) p s (5 + i))) = false := by simpa using h34
        refine g_iload C dX2_lowerRow_37 39 rfl 1 rfl ?_
        refine g_if_eq (X := nrB Hp Kc hd f p s i = false) C dX2_lowerRow_39 46 (by decide) 42 rfl (bI_eq0 _) ?_ ?_
        · intro h39
          refine g_iconst (v := nI 0) C dX2_lowerRow_46 (by decide) 47 rfl ?_
          refine g_istore (lv' := [(6, .int (nI 0)), (7, .int (nI (5 + i))), (0, .ref n0), (1, .int (nI hd)), (2, .long (lN f)), (4, .int (nI p)), (5, .int (nI s))]) C dX2_lowerRow_47 49 rfl (by decide) rfl ?_
          refine g_iinc (lv' := [(7, .int (nI ((5 + i) + 1))), (6, .int (nI 0)), (0, .ref n0), (1, .int (nI hd)), (2, .long (lN f)), (4, .int (nI p)), (5, .int (nI s))]) C dX2_lowerRow_49 52 rfl 1 rfl (by decide) rfl ?_
          refine g_goto C dX2_lowerRow_52 6 (by decide) ?_
          have e_4 : (5 + (i + 1)) = ((5 + i) + 1) := by first | with_reducible rfl | (first | rfl | (simp only [nrC, nrB]; done) | (simp only [nrC, nrB, *, Bool.true_or, Bool.or_true, Bool.false_or, Bool.or_false, Bool.or_self]; done) | simp [nrC, nrB, *])
          have e_5 : (nrB Hp Kc hd f p s (i + 1)) = false := by first | with_reducible rfl | (first | rfl | (simp only [nrC, nrB]; done) | (simp only [nrC, nrB, *, Bool.true_or, Bool.or_true, Bool.false_or, Bool.or_false, Bool.or_self]; done) | simp [nrC, nrB, *])
          have e_6 : (nrC Hp Kc hd f p s (i + 1)) = (lowC (nrC Hp Kc hd f p s i) (hd * 11 + (5 + i)) (sm f (thF Hp (nrC Hp Kc hd f p s i) p s (5 + i)))) := by first | with_reducible rfl | (first | rfl | (simp only [nrC, nrB]; done) | (simp only [nrC, nrB, *, Bool.true_or, Bool.or_true, Bool.false_or, Bool.or_false, Bool.or_self]; done) | simp [nrC, nrB, *])
          refine go_eq (lv' := [(7, .int (nI (5 + (i + 1)))), (6, .int (bI (nrB Hp Kc hd f p s (i + 1)))), (0, .ref n0), (1, .int (nI hd)), (2, .long (lN f)), (4, .int (nI p)), (5, .int (nI s))]) (ws' := [ob n0 2 [.int (nI lk), .int (nI lp), .ref qo, .ref qc, .int (bI sl), .int (oI s2)], aN (eY E) qo 55 Hp, aL (eY E) qc 275 (nrC Hp Kc hd f p s (i + 1))]) (by first | with_reducible rfl | (simp only [e_4, e_5, oI_s, oI_0, bI_1, bI_0, and_self, reduceIte]; done)) rfl (by first | with_reducible rfl | (simp only [e_6, oI_s, oI_0, bI_1, bI_0, and_self, reduceIte]; done)) ?_
          exact ih_i (by omega)
        · intro h39
          have h39 : nrB Hp Kc hd f p s i = true := by simpa using h39
          refine g_iconst (v := nI 1) C dX2_lowerRow_42 (by decide) 43 rfl ?_
          refine g_goto C dX2_lowerRow_43 47 (by decide) ?_
          refine g_istore (lv' := [(6, .int (nI 1)), (7, .int (nI (5 + i))), (0, .ref n0), (1, .int (nI hd)), (2, .long (lN f)), (4, .int (nI p)), (5, .int (nI s))]) C dX2_lowerRow_47 49 rfl (by decide) rfl ?_
          refine g_iinc (lv' := [(7, .int (nI ((5 + i) + 1))), (6, .int (nI 1)), (0, .ref n0), (1, .int (nI hd)), (2, .long (lN f)), (4, .int (nI p)), (5, .int (nI s))]) C dX2_lowerRow_49 52 rfl 1 rfl (by decide) rfl ?_
          refine g_goto C dX2_lowerRow_52 6 (by decide) ?_
          have e_7 : (5 + (i + 1)) = ((5 + i) + 1) := by first | with_reducible rfl | (first | rfl | (simp only [nrC, nrB]; done) | (simp only [nrC, nrB, *, Bool.true_or, Bool.or_true, Bool.false_or, Bool.or_false, Bool.or_self]; done) | simp [nrC, nrB, *])
          have e_8 : (nrB Hp Kc hd f p s (i + 1)) = true := by first | with_reducible rfl | (first | rfl | (simp only [nrC, nrB]; done) | (simp only [nrC, nrB, *, Bool.true_or, Bool.or_true, Bool.false_or, Bool.or_false, Bool.or_self]; done) | simp [nrC, nrB, *])
          have e_9 : (nrC Hp Kc hd f p s (i + 1)) = (lowC (nrC Hp Kc hd f p s i) (hd * 11 + (5 + i)) (sm f (thF Hp (nrC Hp Kc hd f p s i) p s (5 + i)))) := by first | with_reducible rfl | (first | rfl | (simp only [nrC, nrB]; done) | (simp only [nrC, nrB, *, Bool.true_or, Bool.or_true, Bool.false_or, Bool.or_false, Bool.or_self]; done) | simp [nrC, nrB, *])
          refine go_eq (lv' := [(7, .int (nI (5 + (i + 1)))), (6, .int (bI (nrB Hp Kc hd f p s (i + 1)))), (0, .ref n0), (1, .int (nI hd)), (2, .long (lN f)), (4, .int (nI p)), (5, .int (nI s))]) (ws' := [ob n0 2 [.int (nI lk), .int (nI lp), .ref qo, .ref qc, .int (bI sl), .int (oI s2)], aN (eY E) qo 55 Hp, aL (eY E) qc 275 (nrC Hp Kc hd f p s (i + 1))]) (by first | with_reducible rfl | (simp only [e_7, e_8, oI_s, oI_0, bI_1, bI_0, and_self, reduceIte]; done)) rfl (by first | with_reducible rfl | (simp only [e_9, oI_s, oI_0, bI_1, bI_0, and_self, reduceIte]; done)) ?_
          exact ih_i (by omega)
  have e_10 : (5 + 0) = 5 := by first | with_reducible rfl | (rfl)
  have e_11 : (nrB Hp Kc hd f p s 0) = false := by first | with_reducible rfl | (rfl)
  have e_12 : (nrC Hp Kc hd f p s 0) = Kc := by first | with_reducible rfl | (rfl)
  refine go_eq (lv' := [(7, .int (nI (5 + 0))), (6, .int (bI (nrB Hp Kc hd f p s 0))), (0, .ref n0), (1, .int (nI hd)), (2, .long (lN f)), (4, .int (nI p)), (5, .int (nI s))]) (ws' := [ob n0 2 [.int (nI lk), .int (nI lp), .ref qo, .ref qc, .int (bI sl), .int (oI s2)], aN (eY E) qo 55 Hp, aL (eY E) qc 275 (nrC Hp Kc hd f p s 0)]) (by first | with_reducible rfl | (simp only [e_10, e_11, oI_s, oI_0, bI_1, bI_0, and_self, reduceIte]; done)) rfl (by first | with_reducible rfl | (simp only [e_12, oI_s, oI_0, bI_1, bI_0, and_self, reduceIte]; done)) ?_
  exact L6 0 (by omega)
set_option maxHeartbeats 4000000 in
set_option maxRecDepth 100000 in
theorem c_X2_lowerBy (l : Launch) (D : va_G) (cy : Nat → ClassId) (n0 : Nat) (lk : Nat) (lp : Nat) (qo : Nat) (qc : Nat) (sl : Bool) (s2 : Nat) (Hp : Nat → Nat) (Kc : Nat → Nat) (h0 : Nat) (n : Nat) (m : Nat) (z : Nat) (st : Nat) (qh : Nat) (qt : Nat) (qp : Nat) (qb : Nat) (Hd : Nat → Nat) (To : Nat → Nat) (Tp : Nat → Nat) (Bl : Nat → Nat) (r : Nat) (hHp : ∀ k, Hp k < 64) (hK : okf Kc) (hru : ruOK n z Hd To Tp Bl) (hr : r < 30) : CoI l yX2_lowerBy wsX2_lowerBy 4 94 D cy [ob n0 2 [.int (nI lk), .int (nI lp), .ref qo, .ref qc, .int (bI sl), .int (oI s2)], aN cy qo 55 Hp, aL cy qc 275 Kc, ob h0 4 [.int (nI n), .int (nI m), .int (nI z), .int (nI st), .ref qh, .ref qt, .ref qp, .ref qb], aN cy qh 30 Hd, aN cy qt 30 To, aO cy qp 30 Tp, aO cy qb 30 Bl] [.ref n0, .ref h0, .int (nI r)] [ob n0 2 [.int (nI lk), .int (nI lp), .ref qo, .ref qc, .int (bI sl), .int (oI s2)], aN cy qo 55 Hp, aL cy qc 275 (nyC Hp Hd To Tp Bl Kc r), ob h0 4 [.int (nI n), .int (nI m), .int (nI z), .int (nI st), .ref qh, .ref qt, .ref qp, .ref qb], aN cy qh 30 Hd, aN cy qt 30 To, aO cy qp 30 Tp, aO cy qb 30 Bl] (bI (nyB Hp Hd To Tp Bl Kc r)) := by
  refine met_z (cc := cX2_lowerBy) (maxL := 9) (own := RX2) (lv := [(0, .ref n0), (1, .ref h0), (2, .int (nI r))]) (by decide) rfl rfl rfl (Nat.le_of_ble_eq_true rfl) (fun E e1 e2 e3 C hret => ?_)
  subst e1; subst e2; subst e3
  have iX2 : ∀ w ∈ wsX20, w ∈ wsX2_lowerBy := fun _ h => List.mem_cons_of_mem _ (List.mem_append_right _ h)
  have iX4 : ∀ w ∈ wsX40, w ∈ wsX2_lowerBy := fun _ h => List.mem_cons_of_mem _ (List.mem_append_left _ (List.mem_append_right _ h))
  obtain ⟨hn, hz, hR⟩ := hru
  have hR1 := hR r
  refine g_aload_n C dX2_lowerBy_0 rfl 1 rfl 1 rfl ?_
  refine g_getN C iX4 3 rfl rfl 6 (by decide) (nf_RX2_89 C.2.2.1 _) rfl dX2_lowerBy_1 4 rfl ?_
  refine g_iload_n C dX2_lowerBy_4 rfl 5 rfl 2 rfl ?_
  refine g_iald (i := r) C 6 rfl (by omega) (by decide) dX2_lowerBy_5 6 rfl ?_
  refine g_iconst (v := (-1)) C dX2_lowerBy_6 (by decide) 7 rfl ?_
  refine g_icmp_ne (X := ¬ Tp r = 0) C dX2_lowerBy_7 12 (by decide) 10 rfl (not_congr (oI_eq (by omega))) ?_ ?_
  · intro h7
    refine g_aload_n C dX2_lowerBy_12 rfl 13 rfl 1 rfl ?_
    refine g_getN C iX4 3 rfl rfl 5 (by decide) (nf_RX2_92 C.2.2.1 _) rfl dX2_lowerBy_13 16 rfl ?_
    refine g_iload_n C dX2_lowerBy_16 rfl 17 rfl 2 rfl ?_
    refine g_iald (i := r) C 5 rfl (by omega) (by decide) dX2_lowerBy_17 18 rfl ?_
    refine g_aload_n C dX2_lowerBy_18 rfl 19 rfl 1 rfl ?_
    refine g_getN C iX4 3 rfl rfl 6 (by decide) (nf_RX2_89 C.2.2.1 _) rfl dX2_lowerBy_19 22 rfl ?_
    refine g_iload_n C dX2_lowerBy_22 rfl 23 rfl 2 rfl ?_
    refine g_iald (i := r) C 6 rfl (by omega) (by decide) dX2_lowerBy_23 24 rfl ?_
    refine go_eq rfl (st' := [.int (nI ((Tp r) - 1)), .int (nI (To r))]) (ws' := [ob n0 2 [.int (nI lk), .int (nI lp), .ref qo, .ref qc, .int (bI sl), .int (oI s2)], aN (eY E) qo 55 Hp, aL (eY E) qc 275 Kc, ob h0 4 [.int (nI n), .int (nI m), .int (nI z), .int (nI st), .ref qh, .ref qt, .ref qp, .ref qb], aN (eY E) qh 30 Hd, aN (eY E) qt 30 To, aO (eY E) qp 30 Tp, aO (eY E) qb 30 Bl]) (by rw [oI_pos (a := (Tp r)) (by omega)]) (by rfl) ?_
    refine g_cSNi (ws2 := [ob n0 2 [.int (nI lk), .int (nI lp), .ref qo, .ref qc, .int (bI sl), .int (oI s2)], aN (eY E) qo 55 Hp, aL (eY E) qc 275 Kc, ob h0 4 [.int (nI n), .int (nI m), .int (nI z), .int (nI st), .ref qh, .ref qt, .ref qp, .ref qb], aN (eY E) qh 30 Hd, aN (eY E) qt 30 To, aO (eY E) qp 30 Tp, aO (eY E) qb 30 Bl]) (As := [.int (nI (To r)), .int (nI ((Tp r) - 1))]) (st := []) (wsc := []) (wr := [ob n0 2 [.int (nI lk), .int (nI lp), .ref qo, .ref qc, .int (bI sl), .int (oI s2)], aN (eY E) qo 55 Hp, aL (eY E) qc 275 Kc, ob h0 4 [.int (nI n), .int (nI m), .int (nI z), .int (nI st), .ref qh, .ref qt, .ref qp, .ref qb], aN (eY E) qh 30 Hd, aN (eY E) qt 30 To, aO (eY E) qp 30 Tp, aO (eY E) qb 30 Bl]) C (c_X6_headOf (eL E) (eD E) (eY E) (To r) ((Tp r) - 1) ) 2 ggX2_lowerBy_X6_headOf (nm_RX2_95 C.2.2.1) (List.mem_of_getElem? (i := 4) rfl) (List.mem_of_getElem? (i := 3) rfl) rfl (by decide +kernel) (by decide) ⟨Nat.zero_le _, Nat.zero_le _⟩ rfl rfl (Nat.le_of_ble_eq_true rfl) [] [0, 1, 2, 3, 4, 5, 6, 7] [0, 1, 2, 3, 4, 5, 6, 7] rfl rfl (by decide) (by decide) rfl (by decide) dX2_lowerBy_24 27 rfl ?_
    refine g_bipush (v := nI 11) C dX2_lowerBy_27 (by decide) 29 rfl ?_
    refine g_imul (z := nI (((To r) * 5 + ((Tp r) - 1)) * 11)) C dX2_lowerBy_29 30 rfl (pk_mul _ _) ?_
    refine g_istore_n (lv' := [(3, .int (nI (((To r) * 5 + ((Tp r) - 1)) * 11))), (0, .ref n0), (1, .ref h0), (2, .int (nI r))]) C dX2_lowerBy_30 rfl 31 rfl (by decide) rfl ?_
    refine g_iconst (v := nI 0) C dX2_lowerBy_31 (by decide) 32 rfl ?_
    refine g_istore (lv' := [(4, .int (nI 0)), (3, .int (nI (((To r) * 5 + ((Tp r) - 1)) * 11))), (0, .ref n0), (1, .ref h0), (2, .int (nI r))]) C dX2_lowerBy_32 34 rfl (by decide) rfl ?_
    refine g_iconst (v := nI 0) C dX2_lowerBy_34 (by decide) 35 rfl ?_
    refine g_istore (lv' := [(5, .int (nI 0)), (4, .int (nI 0)), (3, .int (nI (((To r) * 5 + ((Tp r) - 1)) * 11))), (0, .ref n0), (1, .ref h0), (2, .int (nI r))]) C dX2_lowerBy_35 37 rfl (by decide) rfl ?_
    have L37 : ∀ x, x ≤ 11 → Go E 0 0 37 [(5, .int (nI x)), (4, .int (bI (nbB Hp Kc (Hd r) ((((To r) * 5) + ((Tp r) - 1)) * 11) (Bl r) x))), (3, .int (nI (((To r) * 5 + ((Tp r) - 1)) * 11))), (0, .ref n0), (1, .ref h0), (2, .int (nI r))] [] [ob n0 2 [.int (nI lk), .int (nI lp), .ref qo, .ref qc, .int (bI sl), .int (oI s2)], aN (eY E) qo 55 Hp, aL (eY E) qc 275 (nbC Hp Kc (Hd r) ((((To r) * 5) + ((Tp r) - 1)) * 11) (Bl r) x), ob h0 4 [.int (nI n), .int (nI m), .int (nI z), .int (nI st), .ref qh, .ref qt, .ref qp, .ref qb], aN (eY E) qh 30 Hd, aN (eY E) qt 30 To, aO (eY E) qp 30 Tp, aO (eY E) qb 30 Bl] := by
      refine go_for 11 (fun x => Go E 0 0 37 [(5, .int (nI x)), (4, .int (bI (nbB Hp Kc (Hd r) ((((To r) * 5) + ((Tp r) - 1)) * 11) (Bl r) x))), (3, .int (nI (((To r) * 5 + ((Tp r) - 1)) * 11))), (0, .ref n0), (1, .ref h0), (2, .int (nI r))] [] [ob n0 2 [.int (nI lk), .int (nI lp), .ref qo, .ref qc, .int (bI sl), .int (oI s2)], aN (eY E) qo 55 Hp, aL (eY E) qc 275 (nbC Hp Kc (Hd r) ((((To r) * 5) + ((Tp r) - 1)) * 11) (Bl r) x), ob h0 4 [.int (nI n), .int (nI m), .int (nI z), .int (nI st), .ref qh, .ref qt, .ref qp, .ref qb], aN (eY E) qh 30 Hd, aN (eY E) qt 30 To, aO (eY E) qp 30 Tp, aO (eY E) qb 30 Bl]) (fun x hi_x ih_x => ?_)
      have hX := nbC_ok (Hp := Hp) hK (Hd r) ((((To r) * 5) + ((Tp r) - 1)) * 11) (Bl r) x
      refine g_iload C dX2_lowerBy_37 39 rfl 0 rfl ?_
      refine g_bipush (v := nI 11) C dX2_lowerBy_39 (by decide) 41 rfl ?_
      refine g_icmp_ge (X := 11 ≤ x) C dX2_lowerBy_41 140 (by decide) 44 rfl (nI_leI (by omega) (by omega)) ?_ ?_
      · intro h41
        have x_x : x = 11 := by omega
        try rw [x_x]
        refine g_iload C dX2_lowerBy_140 142 rfl 1 rfl ?_
        have e_1 : (nyB Hp Hd To Tp Bl Kc r) = (nbB Hp Kc (Hd r) ((((To r) * 5) + ((Tp r) - 1)) * 11) (Bl r) 11) := by first | with_reducible rfl | (simp [nyC, nyB, *])
        have e_2 : (nyC Hp Hd To Tp Bl Kc r) = (nbC Hp Kc (Hd r) ((((To r) * 5) + ((Tp r) - 1)) * 11) (Bl r) 11) := by first | with_reducible rfl | (simp [nyC, nyB, *])
        refine go_eq rfl (st' := [.int (bI (nyB Hp Hd To Tp Bl Kc r))]) (ws' := [ob n0 2 [.int (nI lk), .int (nI lp), .ref qo, .ref qc, .int (bI sl), .int (oI s2)], aN (eY E) qo 55 Hp, aL (eY E) qc 275 (nyC Hp Hd To Tp Bl Kc r), ob h0 4 [.int (nI n), .int (nI m), .int (nI z), .int (nI st), .ref qh, .ref qt, .ref qp, .ref qb], aN (eY E) qh 30 Hd, aN (eY E) qt 30 To, aO (eY E) qp 30 Tp, aO (eY E) qb 30 Bl]) (by first | with_reducible rfl | (simp only [e_1, e_2, oI_s, oI_0, bI_1, bI_0, and_self, reduceIte]; done)) (by first | with_reducible rfl | (simp only [e_1, e_2, oI_s, oI_0, bI_1, bI_0, and_self, reduceIte]; done)) ?_
        exact hret _ _ dX2_lowerBy_142
      · intro h41
        refine g_lconst (v := lN 1) C dX2_lowerBy_44 (by decide) 45 rfl ?_
        refine g_aload_n C dX2_lowerBy_45 rfl 46 rfl 3 rfl ?_
        refine g_get C iX2 0 rfl rfl 3 (by decide) (C.1.2.2.2.2 (.fieldLink RX2 22 "StackRuns$Net" "cost" "[J") (List.mem_of_getElem? (i := 1) rfl)) rfl dX2_lowerBy_46 49 rfl ?_
        refine g_iload_n C dX2_lowerBy_49 rfl 50 rfl 2 rfl ?_
        refine g_iload C dX2_lowerBy_50 52 rfl 0 rfl ?_
        refine g_iadd (z := nI ((((To r) * 5 + ((Tp r) - 1)) * 11) + x)) C dX2_lowerBy_52 53 rfl (nI_add _ _) ?_
        refine g_lald (i := ((((To r) * 5 + ((Tp r) - 1)) * 11) + x)) C 2 rfl (by omega) (by decide) dX2_lowerBy_53 54 rfl ?_
        refine g_cSNl (ws2 := [ob n0 2 [.int (nI lk), .int (nI lp), .ref qo, .ref qc, .int (bI sl), .int (oI s2)], aN (eY E) qo 55 Hp, aL (eY E) qc 275 (nbC Hp Kc (Hd r) ((((To r) * 5) + ((Tp r) - 1)) * 11) (Bl r) x), ob h0 4 [.int (nI n), .int (nI m), .int (nI z), .int (nI st), .ref qh, .ref qt, .ref qp, .ref qb], aN (eY E) qh 30 Hd, aN (eY E) qt 30 To, aO (eY E) qp 30 Tp, aO (eY E) qb 30 Bl]) (As := [.long (lN 1), .long (lN ((nbC Hp Kc (Hd r) ((((To r) * 5) + ((Tp r) - 1)) * 11) (Bl r) x) ((((To r) * 5 + ((Tp r) - 1)) * 11) + x)))]) (st := []) (wsc := []) (wr := [ob n0 2 [.int (nI lk), .int (nI lp), .ref qo, .ref qc, .int (bI sl), .int (oI s2)], aN (eY E) qo 55 Hp, aL (eY E) qc 275 (nbC Hp Kc (Hd r) ((((To r) * 5) + ((Tp r) - 1)) * 11) (Bl r) x), ob h0 4 [.int (nI n), .int (nI m), .int (nI z), .int (nI st), .ref qh, .ref qt, .ref qp, .ref qb], aN (eY E) qh 30 Hd, aN (eY E) qt 30 To, aO (eY E) qp 30 Tp, aO (eY E) qb 30 Bl]) C (c_X6_sum (eL E) (eD E) (eY E) 1 ((nbC Hp Kc (Hd r) ((((To r) * 5) + ((Tp r) - 1)) * 11) (Bl r) x) ((((To r) * 5 + ((Tp r) - 1)) * 11) + x)) (by omega) (by exact hX _)) 2 ggX2_lowerBy_X6_sum (nm_RX2_98 C.2.2.1) (List.mem_of_getElem? (i := 4) rfl) (List.mem_of_getElem? (i := 6) rfl) rfl (by decide +kernel) (by decide) ⟨Nat.zero_le _, Nat.zero_le _⟩ rfl rfl (Nat.le_of_ble_eq_true rfl) [] [0, 1, 2, 3, 4, 5, 6, 7] [0, 1, 2, 3, 4, 5, 6, 7] rfl rfl (by decide) (by decide) rfl (by decide) dX2_lowerBy_54 57 rfl ?_
        refine g_lstore (lv' := [(6, .long (lN (sm 1 ((nbC Hp Kc (Hd r) ((((To r) * 5) + ((Tp r) - 1)) * 11) (Bl r) x) ((((To r) * 5 + ((Tp r) - 1)) * 11) + x))))), (5, .int (nI x)), (4, .int (bI (nbB Hp Kc (Hd r) ((((To r) * 5) + ((Tp r) - 1)) * 11) (Bl r) x))), (3, .int (nI (((To r) * 5 + ((Tp r) - 1)) * 11))), (0, .ref n0), (1, .ref h0), (2, .int (nI r))]) C dX2_lowerBy_57 59 rfl (by decide) rfl ?_
        refine g_lload C dX2_lowerBy_59 61 rfl 0 rfl ?_
        refine g_ldc2 (v' := (lN 9000000000000000000)) C (C.1.2.2.2.2 (.constantLong RX2 87 (9000000000000000000)) (List.mem_of_getElem? (i := 2) rfl)) (by decide) dX2_lowerBy_61 64 rfl ?_
        refine g_lcmp_eq (X := sm 1 (nbC Hp Kc (Hd r) ((((To r) * 5) + ((Tp r) - 1)) * 11) (Bl r) x (((((To r) * 5) + ((Tp r) - 1)) * 11) + x)) = 9000000000000000000) C dX2_lowerBy_64 rfl dX2_lowerBy_65 134 (by decide) 68 rfl (pk_lEQ (by have := sm_ok 1 (nbC Hp Kc (Hd r) ((((To r) * 5) + ((Tp r) - 1)) * 11) (Bl r) x (((((To r) * 5) + ((Tp r) - 1)) * 11) + x)); omega) (by decide)) ?_ ?_
        · intro h64
          refine g_iinc (lv' := [(5, .int (nI (x + 1))), (6, .long (lN (sm 1 ((nbC Hp Kc (Hd r) ((((To r) * 5) + ((Tp r) - 1)) * 11) (Bl r) x) ((((To r) * 5 + ((Tp r) - 1)) * 11) + x))))), (4, .int (bI (nbB Hp Kc (Hd r) ((((To r) * 5) + ((Tp r) - 1)) * 11) (Bl r) x))), (3, .int (nI (((To r) * 5 + ((Tp r) - 1)) * 11))), (0, .ref n0), (1, .ref h0), (2, .int (nI r))]) C dX2_lowerBy_134 137 rfl 1 rfl (by decide) rfl ?_
          refine g_goto C dX2_lowerBy_137 37 (by decide) ?_
          refine go_lv (lv' := [(5, .int (nI (x + 1))), (4, .int (bI (nbB Hp Kc (Hd r) ((((To r) * 5) + ((Tp r) - 1)) * 11) (Bl r) x))), (3, .int (nI (((To r) * 5 + ((Tp r) - 1)) * 11))), (0, .ref n0), (1, .ref h0), (2, .int (nI r))]) [0, 2, 3, 4, 5, 6] rfl ?_
          have e_3 : (nbB Hp Kc (Hd r) ((((To r) * 5) + ((Tp r) - 1)) * 11) (Bl r) (x + 1)) = (nbB Hp Kc (Hd r) ((((To r) * 5) + ((Tp r) - 1)) * 11) (Bl r) x) := by first | with_reducible rfl | (simp only [nbC, nbB]; repeat (first | rw [if_pos (by assumption)] | rw [if_neg (by assumption)]); try (first | with_reducible rfl | (simp only [h119, Bool.true_or]; done) | (simp only [h119, h124, Bool.or_self]; done) | (simp only [h119, h124, Bool.or_true, Bool.false_or]; done)))
          have e_4 : (nbC Hp Kc (Hd r) ((((To r) * 5) + ((Tp r) - 1)) * 11) (Bl r) (x + 1)) = (nbC Hp Kc (Hd r) ((((To r) * 5) + ((Tp r) - 1)) * 11) (Bl r) x) := by first | with_reducible rfl | (simp only [nbC, nbB]; repeat (first | rw [if_pos (by assumption)] | rw [if_neg (by assumption)]); try (first | with_reducible rfl | (simp only [h119, Bool.true_or]; done) | (simp only [h119, h124, Bool.or_self]; done) | (simp only [h119, h124, Bool.or_true, Bool.false_or]; done)))
          refine go_eq (lv' := [(5, .int (nI (x + 1))), (4, .int (bI (nbB Hp Kc (Hd r) ((((To r) * 5) + ((Tp r) - 1)) * 11) (Bl r) (x + 1)))), (3, .int (nI (((To r) * 5 + ((Tp r) - 1)) * 11))), (0, .ref n0), (1, .ref h0), (2, .int (nI r))]) (ws' := [ob n0 2 [.int (nI lk), .int (nI lp), .ref qo, .ref qc, .int (bI sl), .int (oI s2)], aN (eY E) qo 55 Hp, aL (eY E) qc 275 (nbC Hp Kc (Hd r) ((((To r) * 5) + ((Tp r) - 1)) * 11) (Bl r) (x + 1)), ob h0 4 [.int (nI n), .int (nI m), .int (nI z), .int (nI st), .ref qh, .ref qt, .ref qp, .ref qb], aN (eY E) qh 30 Hd, aN (eY E) qt 30 To, aO (eY E) qp 30 Tp, aO (eY E) qb 30 Bl]) (by first | with_reducible rfl | (simp only [e_3, oI_s, oI_0, bI_1, bI_0, and_self, reduceIte]; done)) rfl (by first | with_reducible rfl | (simp only [e_4, oI_s, oI_0, bI_1, bI_0, and_self, reduceIte]; done)) ?_
          exact ih_x (by omega)
        · intro h64
          refine g_aload_n C dX2_lowerBy_68 rfl 69 rfl 5 rfl ?_
          refine g_getN C iX4 3 rfl rfl 7 (by decide) (nf_RX2_102 C.2.2.1 _) rfl dX2_lowerBy_69 72 rfl ?_
          refine g_iload_n C dX2_lowerBy_72 rfl 73 rfl 6 rfl ?_
          refine g_iald (i := r) C 7 rfl (by omega) (by decide) dX2_lowerBy_73 74 rfl ?_
          refine g_iconst (v := (-1)) C dX2_lowerBy_74 (by decide) 75 rfl ?_
          refine g_icmp_ne (X := ¬ Bl r = 0) C dX2_lowerBy_75 95 (by decide) 78 rfl (not_congr (oI_eq (by omega))) ?_ ?_
          · intro h75
            refine g_aload_n C dX2_lowerBy_95 rfl 96 rfl 4 rfl ?_
            refine g_aload_n C dX2_lowerBy_96 rfl 97 rfl 5 rfl ?_
            refine g_getN C iX4 3 rfl rfl 4 (by decide) (nf_RX2_105 C.2.2.1 _) rfl dX2_lowerBy_97 100 rfl ?_
            refine g_iload_n C dX2_lowerBy_100 rfl 101 rfl 6 rfl ?_
            refine g_iald (i := r) C 4 rfl (by omega) (by decide) dX2_lowerBy_101 102 rfl ?_
            refine g_lload C dX2_lowerBy_102 104 rfl 0 rfl ?_
            refine g_iload C dX2_lowerBy_104 106 rfl 1 rfl ?_
            refine g_aload_n C dX2_lowerBy_106 rfl 107 rfl 5 rfl ?_
            refine g_getN C iX4 3 rfl rfl 7 (by decide) (nf_RX2_102 C.2.2.1 _) rfl dX2_lowerBy_107 110 rfl ?_
            refine g_iload_n C dX2_lowerBy_110 rfl 111 rfl 6 rfl ?_
            refine g_iald (i := r) C 7 rfl (by omega) (by decide) dX2_lowerBy_111 112 rfl ?_
            refine go_eq rfl (st' := [.int (nI ((Bl r) - 1)), .int (nI x), .long (lN (sm 1 ((nbC Hp Kc (Hd r) ((((To r) * 5) + ((Tp r) - 1)) * 11) (Bl r) x) ((((To r) * 5 + ((Tp r) - 1)) * 11) + x)))), .int (nI (Hd r)), .ref n0]) (ws' := [ob n0 2 [.int (nI lk), .int (nI lp), .ref qo, .ref qc, .int (bI sl), .int (oI s2)], aN (eY E) qo 55 Hp, aL (eY E) qc 275 (nbC Hp Kc (Hd r) ((((To r) * 5) + ((Tp r) - 1)) * 11) (Bl r) x), ob h0 4 [.int (nI n), .int (nI m), .int (nI z), .int (nI st), .ref qh, .ref qt, .ref qp, .ref qb], aN (eY E) qh 30 Hd, aN (eY E) qt 30 To, aO (eY E) qp 30 Tp, aO (eY E) qb 30 Bl]) (by rw [oI_pos (a := (Bl r)) (by omega)]) (by rfl) ?_
            refine g_cVi (ws2 := [ob n0 2 [.int (nI lk), .int (nI lp), .ref qo, .ref qc, .int (bI sl), .int (oI s2)], aN (eY E) qo 55 Hp, aL (eY E) qc 275 (nrC Hp (nbC Hp Kc (Hd r) ((((To r) * 5) + ((Tp r) - 1)) * 11) (Bl r) x) (Hd r) (sm 1 ((nbC Hp Kc (Hd r) ((((To r) * 5) + ((Tp r) - 1)) * 11) (Bl r) x) ((((To r) * 5 + ((Tp r) - 1)) * 11) + x))) x ((Bl r) - 1) 6), ob h0 4 [.int (nI n), .int (nI m), .int (nI z), .int (nI st), .ref qh, .ref qt, .ref qp, .ref qb], aN (eY E) qh 30 Hd, aN (eY E) qt 30 To, aO (eY E) qp 30 Tp, aO (eY E) qb 30 Bl]) (As := [.int (nI (Hd r)), .long (lN (sm 1 ((nbC Hp Kc (Hd r) ((((To r) * 5) + ((Tp r) - 1)) * 11) (Bl r) x) ((((To r) * 5 + ((Tp r) - 1)) * 11) + x)))), .int (nI x), .int (nI ((Bl r) - 1))]) (st := []) (wsc := [ob n0 2 [.int (nI lk), .int (nI lp), .ref qo, .ref qc, .int (bI sl), .int (oI s2)], aN (eY E) qo 55 Hp, aL (eY E) qc 275 (nbC Hp Kc (Hd r) ((((To r) * 5) + ((Tp r) - 1)) * 11) (Bl r) x)]) (wr := [ob h0 4 [.int (nI n), .int (nI m), .int (nI z), .int (nI st), .ref qh, .ref qt, .ref qp, .ref qb], aN (eY E) qh 30 Hd, aN (eY E) qt 30 To, aO (eY E) qp 30 Tp, aO (eY E) qb 30 Bl]) C (c_X2_lowerRow (eL E) (eD E) (eY E) n0 lk lp qo qc sl s2 Hp (nbC Hp Kc (Hd r) ((((To r) * 5) + ((Tp r) - 1)) * 11) (Bl r) x) (Hd r) (sm 1 ((nbC Hp Kc (Hd r) ((((To r) * 5) + ((Tp r) - 1)) * 11) (Bl r) x) ((((To r) * 5 + ((Tp r) - 1)) * 11) + x))) x ((Bl r) - 1) (by assumption) (by first | assumption | exact nrC_ok (by assumption) _ _ _ _ _ | exact nbC_ok (by assumption) _ _ _ _ | exact ndC_ok (by assumption) _ | exact niC_ok (by assumption) _) (by omega) (by first | exact sm_ok _ _ | omega) (by omega) (by omega)) 4 gX2_lowerBy_X2_lowerRow rfl (by decide +kernel) (by decide) ⟨Nat.zero_le _, Nat.zero_le _⟩ rfl 0 rfl rfl rfl (Nat.le_of_ble_eq_true rfl) [0, 1, 2] [3, 4, 5, 6, 7] [5, 6, 7, 0, 1, 2, 3, 4] rfl rfl (by decide) (by decide) rfl (by decide) dX2_lowerBy_112 115 rfl ?_
            refine g_istore (lv' := [(8, .int (bI (nrB Hp (nbC Hp Kc (Hd r) ((((To r) * 5) + ((Tp r) - 1)) * 11) (Bl r) x) (Hd r) (sm 1 ((nbC Hp Kc (Hd r) ((((To r) * 5) + ((Tp r) - 1)) * 11) (Bl r) x) ((((To r) * 5 + ((Tp r) - 1)) * 11) + x))) x ((Bl r) - 1) 6))), (6, .long (lN (sm 1 ((nbC Hp Kc (Hd r) ((((To r) * 5) + ((Tp r) - 1)) * 11) (Bl r) x) ((((To r) * 5 + ((Tp r) - 1)) * 11) + x))))), (5, .int (nI x)), (4, .int (bI (nbB Hp Kc (Hd r) ((((To r) * 5) + ((Tp r) - 1)) * 11) (Bl r) x))), (3, .int (nI (((To r) * 5 + ((Tp r) - 1)) * 11))), (0, .ref n0), (1, .ref h0), (2, .int (nI r))]) C dX2_lowerBy_115 117 rfl (by decide) rfl ?_
            refine g_iload C dX2_lowerBy_117 119 rfl 0 rfl ?_
            refine g_if_ne (X := nrB Hp (nbC Hp Kc (Hd r) ((((To r) * 5) + ((Tp r) - 1)) * 11) (Bl r) x) (Hd r) (sm 1 ((nbC Hp Kc (Hd r) ((((To r) * 5) + ((Tp r) - 1)) * 11) (Bl r) x) ((((To r) * 5 + ((Tp r) - 1)) * 11) + x))) x ((Bl r) - 1) 6 = true) C dX2_lowerBy_119 127 (by decide) 122 rfl (bI_ne0 _) ?_ ?_
            · intro h119
              refine g_iconst (v := nI 1) C dX2_lowerBy_127 (by decide) 128 rfl ?_
              refine g_goto C dX2_lowerBy_128 132 (by decide) ?_
              refine g_istore (lv' := [(4, .int (nI 1)), (8, .int (bI (nrB Hp (nbC Hp Kc (Hd r) ((((To r) * 5) + ((Tp r) - 1)) * 11) (Bl r) x) (Hd r) (sm 1 ((nbC Hp Kc (Hd r) ((((To r) * 5) + ((Tp r) - 1)) * 11) (Bl r) x) ((((To r) * 5 + ((Tp r) - 1)) * 11) + x))) x ((Bl r) - 1) 6))), (6, .long (lN (sm 1 ((nbC Hp Kc (Hd r) ((((To r) * 5) + ((Tp r) - 1)) * 11) (Bl r) x) ((((To r) * 5 + ((Tp r) - 1)) * 11) + x))))), (5, .int (nI x)), (3, .int (nI (((To r) * 5 + ((Tp r) - 1)) * 11))), (0, .ref n0), (1, .ref h0), (2, .int (nI r))]) C dX2_lowerBy_132 134 rfl (by decide) rfl ?_
              refine g_iinc (lv' := [(5, .int (nI (x + 1))), (4, .int (nI 1)), (8, .int (bI (nrB Hp (nbC Hp Kc (Hd r) ((((To r) * 5) + ((Tp r) - 1)) * 11) (Bl r) x) (Hd r) (sm 1 ((nbC Hp Kc (Hd r) ((((To r) * 5) + ((Tp r) - 1)) * 11) (Bl r) x) ((((To r) * 5 + ((Tp r) - 1)) * 11) + x))) x ((Bl r) - 1) 6))), (6, .long (lN (sm 1 ((nbC Hp Kc (Hd r) ((((To r) * 5) + ((Tp r) - 1)) * 11) (Bl r) x) ((((To r) * 5 + ((Tp r) - 1)) * 11) + x))))), (3, .int (nI (((To r) * 5 + ((Tp r) - 1)) * 11))), (0, .ref n0), (1, .ref h0), (2, .int (nI r))]) C dX2_lowerBy_134 137 rfl 3 rfl (by decide) rfl ?_
              refine g_goto C dX2_lowerBy_137 37 (by decide) ?_
              refine go_lv (lv' := [(5, .int (nI (x + 1))), (4, .int (nI 1)), (3, .int (nI (((To r) * 5 + ((Tp r) - 1)) * 11))), (0, .ref n0), (1, .ref h0), (2, .int (nI r))]) [0, 1, 4, 5, 6, 7] rfl ?_
              have e_5 : (nbB Hp Kc (Hd r) ((((To r) * 5) + ((Tp r) - 1)) * 11) (Bl r) (x + 1)) = true := by first | with_reducible rfl | (simp only [nbC, nbB]; repeat (first | rw [if_pos (by assumption)] | rw [if_neg (by assumption)]); try (first | with_reducible rfl | (simp only [h119, Bool.true_or]; done) | (simp only [h119, h124, Bool.or_self]; done) | (simp only [h119, h124, Bool.or_true, Bool.false_or]; done)))
              have e_6 : (nbC Hp Kc (Hd r) ((((To r) * 5) + ((Tp r) - 1)) * 11) (Bl r) (x + 1)) = (nrC Hp (nbC Hp Kc (Hd r) ((((To r) * 5) + ((Tp r) - 1)) * 11) (Bl r) x) (Hd r) (sm 1 ((nbC Hp Kc (Hd r) ((((To r) * 5) + ((Tp r) - 1)) * 11) (Bl r) x) ((((To r) * 5 + ((Tp r) - 1)) * 11) + x))) x ((Bl r) - 1) 6) := by first | with_reducible rfl | (simp only [nbC, nbB]; repeat (first | rw [if_pos (by assumption)] | rw [if_neg (by assumption)]); try (first | with_reducible rfl | (simp only [h119, Bool.true_or]; done) | (simp only [h119, h124, Bool.or_self]; done) | (simp only [h119, h124, Bool.or_true, Bool.false_or]; done)))
              refine go_eq (lv' := [(5, .int (nI (x + 1))), (4, .int (bI (nbB Hp Kc (Hd r) ((((To r) * 5) + ((Tp r) - 1)) * 11) (Bl r) (x + 1)))), (3, .int (nI (((To r) * 5 + ((Tp r) - 1)) * 11))), (0, .ref n0), (1, .ref h0), (2, .int (nI r))]) (ws' := [ob n0 2 [.int (nI lk), .int (nI lp), .ref qo, .ref qc, .int (bI sl), .int (oI s2)], aN (eY E) qo 55 Hp, aL (eY E) qc 275 (nbC Hp Kc (Hd r) ((((To r) * 5) + ((Tp r) - 1)) * 11) (Bl r) (x + 1)), ob h0 4 [.int (nI n), .int (nI m), .int (nI z), .int (nI st), .ref qh, .ref qt, .ref qp, .ref qb], aN (eY E) qh 30 Hd, aN (eY E) qt 30 To, aO (eY E) qp 30 Tp, aO (eY E) qb 30 Bl]) (by first | with_reducible rfl | (simp only [e_5, oI_s, oI_0, bI_1, bI_0, and_self, reduceIte]; done)) rfl (by first | with_reducible rfl | (simp only [e_6, oI_s, oI_0, bI_1, bI_0, and_self, reduceIte]; done)) ?_
              exact ih_x (by omega)
            · intro h119
              have h119 : nrB Hp (nbC Hp Kc (Hd r) ((((To r) * 5) + ((Tp r) - 1)) * 11) (Bl r) x) (Hd r) (sm 1 ((nbC Hp Kc (Hd r) ((((To r) * 5) + ((Tp r) - 1)) * 11) (Bl r) x) ((((To r) * 5 + ((Tp r) - 1)) * 11) + x))) x ((Bl r) - 1) 6 = false := by simpa using h119
              refine g_iload C dX2_lowerBy_122 124 rfl 3 rfl ?_
              refine g_if_eq (X := nbB Hp Kc (Hd r) ((((To r) * 5) + ((Tp r) - 1)) * 11) (Bl r) x = false) C dX2_lowerBy_124 131 (by decide) 127 rfl (bI_eq0 _) ?_ ?_
              · intro h124
                refine g_iconst (v := nI 0) C dX2_lowerBy_131 (by decide) 132 rfl ?_
                refine g_istore (lv' := [(4, .int (nI 0)), (8, .int (bI (nrB Hp (nbC Hp Kc (Hd r) ((((To r) * 5) + ((Tp r) - 1)) * 11) (Bl r) x) (Hd r) (sm 1 ((nbC Hp Kc (Hd r) ((((To r) * 5) + ((Tp r) - 1)) * 11) (Bl r) x) ((((To r) * 5 + ((Tp r) - 1)) * 11) + x))) x ((Bl r) - 1) 6))), (6, .long (lN (sm 1 ((nbC Hp Kc (Hd r) ((((To r) * 5) + ((Tp r) - 1)) * 11) (Bl r) x) ((((To r) * 5 + ((Tp r) - 1)) * 11) + x))))), (5, .int (nI x)), (3, .int (nI (((To r) * 5 + ((Tp r) - 1)) * 11))), (0, .ref n0), (1, .ref h0), (2, .int (nI r))]) C dX2_lowerBy_132 134 rfl (by decide) rfl ?_
                refine g_iinc (lv' := [(5, .int (nI (x + 1))), (4, .int (nI 0)), (8, .int (bI (nrB Hp (nbC Hp Kc (Hd r) ((((To r) * 5) + ((Tp r) - 1)) * 11) (Bl r) x) (Hd r) (sm 1 ((nbC Hp Kc (Hd r) ((((To r) * 5) + ((Tp r) - 1)) * 11) (Bl r) x) ((((To r) * 5 + ((Tp r) - 1)) * 11) + x))) x ((Bl r) - 1) 6))), (6, .long (lN (sm 1 ((nbC Hp Kc (Hd r) ((((To r) * 5) + ((Tp r) - 1)) * 11) (Bl r) x) ((((To r) * 5 + ((Tp r) - 1)) * 11) + x))))), (3, .int (nI (((To r) * 5 + ((Tp r) - 1)) * 11))), (0, .ref n0), (1, .ref h0), (2, .int (nI r))]) C dX2_lowerBy_134 137 rfl 3 rfl (by decide) rfl ?_
                refine g_goto C dX2_lowerBy_137 37 (by decide) ?_
                refine go_lv (lv' := [(5, .int (nI (x + 1))), (4, .int (nI 0)), (3, .int (nI (((To r) * 5 + ((Tp r) - 1)) * 11))), (0, .ref n0), (1, .ref h0), (2, .int (nI r))]) [0, 1, 4, 5, 6, 7] rfl ?_
                have e_7 : (nbB Hp Kc (Hd r) ((((To r) * 5) + ((Tp r) - 1)) * 11) (Bl r) (x + 1)) = false := by first | with_reducible rfl | (simp only [nbC, nbB]; repeat (first | rw [if_pos (by assumption)] | rw [if_neg (by assumption)]); try (first | with_reducible rfl | (simp only [h119, Bool.true_or]; done) | (simp only [h119, h124, Bool.or_self]; done) | (simp only [h119, h124, Bool.or_true, Bool.false_or]; done)))
                have e_8 : (nbC Hp Kc (Hd r) ((((To r) * 5) + ((Tp r) - 1)) * 11) (Bl r) (x + 1)) = (nrC Hp (nbC Hp Kc (Hd r) ((((To r) * 5) + ((Tp r) - 1)) * 11) (Bl r) x) (Hd r) (sm 1 ((nbC Hp Kc (Hd r) ((((To r) * 5) + ((Tp r) - 1)) * 11) (Bl r) x) ((((To r) * 5 + ((Tp r) - 1)) * 11) + x))) x ((Bl r) - 1) 6) := by first | with_reducible rfl | (simp only [nbC, nbB]; repeat (first | rw [if_pos (by assumption)] | rw [if_neg (by assumption)]); try (first | with_reducible rfl | (simp only [h119, Bool.true_or]; done) | (simp only [h119, h124, Bool.or_self]; done) | (simp only [h119, h124, Bool.or_true, Bool.false_or]; done)))
                refine go_eq (lv' := [(5, .int (nI (x + 1))), (4, .int (bI (nbB Hp Kc (Hd r) ((((To r) * 5) + ((Tp r) - 1)) * 11) (Bl r) (x + 1)))), (3, .int (nI (((To r) * 5 + ((Tp r) - 1)) * 11))), (0, .ref n0), (1, .ref h0), (2, .int (nI r))]) (ws' := [ob n0 2 [.int (nI lk), .int (nI lp), .ref qo, .ref qc, .int (bI sl), .int (oI s2)], aN (eY E) qo 55 Hp, aL (eY E) qc 275 (nbC Hp Kc (Hd r) ((((To r) * 5) + ((Tp r) - 1)) * 11) (Bl r) (x + 1)), ob h0 4 [.int (nI n), .int (nI m), .int (nI z), .int (nI st), .ref qh, .ref qt, .ref qp, .ref qb], aN (eY E) qh 30 Hd, aN (eY E) qt 30 To, aO (eY E) qp 30 Tp, aO (eY E) qb 30 Bl]) (by first | with_reducible rfl | (simp only [e_7, oI_s, oI_0, bI_1, bI_0, and_self, reduceIte]; done)) rfl (by first | with_reducible rfl | (simp only [e_8, oI_s, oI_0, bI_1, bI_0, and_self, reduceIte]; done)) ?_
                exact ih_x (by omega)
              · intro h124
                have h124 : nbB Hp Kc (Hd r) ((((To r) * 5) + ((Tp r) - 1)) * 11) (Bl r) x = true := by simpa using h124
                refine g_iconst (v := nI 1) C dX2_lowerBy_127 (by decide) 128 rfl ?_
                refine g_goto C dX2_lowerBy_128 132 (by decide) ?_
                refine g_istore (lv' := [(4, .int (nI 1)), (8, .int (bI (nrB Hp (nbC Hp Kc (Hd r) ((((To r) * 5) + ((Tp r) - 1)) * 11) (Bl r) x) (Hd r) (sm 1 ((nbC Hp Kc (Hd r) ((((To r) * 5) + ((Tp r) - 1)) * 11) (Bl r) x) ((((To r) * 5 + ((Tp r) - 1)) * 11) + x))) x ((Bl r) - 1) 6))), (6, .long (lN (sm 1 ((nbC Hp Kc (Hd r) ((((To r) * 5) + ((Tp r) - 1)) * 11) (Bl r) x) ((((To r) * 5 + ((Tp r) - 1)) * 11) + x))))), (5, .int (nI x)), (3, .int (nI (((To r) * 5 + ((Tp r) - 1)) * 11))), (0, .ref n0), (1, .ref h0), (2, .int (nI r))]) C dX2_lowerBy_132 134 rfl (by decide) rfl ?_
                refine g_iinc (lv' := [(5, .int (nI (x + 1))), (4, .int (nI 1)), (8, .int (bI (nrB Hp (nbC Hp Kc (Hd r) ((((To r) * 5) + ((Tp r) - 1)) * 11) (Bl r) x) (Hd r) (sm 1 ((nbC Hp Kc (Hd r) ((((To r) * 5) + ((Tp r) - 1)) * 11) (Bl r) x) ((((To r) * 5 + ((Tp r) - 1)) * 11) + x))) x ((Bl r) - 1) 6))), (6, .long (lN (sm 1 ((nbC Hp Kc (Hd r) ((((To r) * 5) + ((Tp r) - 1)) * 11) (Bl r) x) ((((To r) * 5 + ((Tp r) - 1)) * 11) + x))))), (3, .int (nI (((To r) * 5 + ((Tp r) - 1)) * 11))), (0, .ref n0), (1, .ref h0), (2, .int (nI r))]) C dX2_lowerBy_134 137 rfl 3 rfl (by decide) rfl ?_
                refine g_goto C dX2_lowerBy_137 37 (by decide) ?_
                refine go_lv (lv' := [(5, .int (nI (x + 1))), (4, .int (nI 1)), (3, .int (nI (((To r) * 5 + ((Tp r) - 1)) * 11))), (0, .ref n0), (1, .ref h0), (2, .int (nI r))]) [0, 1, 4, 5, 6, 7] rfl ?_
                have e_9 : (nbB Hp Kc (Hd r) ((((To r) * 5) + ((Tp r) - 1)) * 11) (Bl r) (x + 1)) = true := by first | with_reducible rfl | (simp only [nbC, nbB]; repeat (first | rw [if_pos (by assumption)] | rw [if_neg (by assumption)]); try (first | with_reducible rfl | (simp only [h119, Bool.true_or]; done) | (simp only [h119, h124, Bool.or_self]; done) | (simp only [h119, h124, Bool.or_true, Bool.false_or]; done)))
                have e_10 : (nbC Hp Kc (Hd r) ((((To r) * 5) + ((Tp r) - 1)) * 11) (Bl r) (x + 1)) = (nrC Hp (nbC Hp Kc (Hd r) ((((To r) * 5) + ((Tp r) - 1)) * 11) (Bl r) x) (Hd r) (sm 1 ((nbC Hp Kc (Hd r) ((((To r) * 5) + ((Tp r) - 1)) * 11) (Bl r) x) ((((To r) * 5 + ((Tp r) - 1)) * 11) + x))) x ((Bl r) - 1) 6) := by first | with_reducible rfl | (simp only [nbC, nbB]; repeat (first | rw [if_pos (by assumption)] | rw [if_neg (by assumption)]); try (first | with_reducible rfl | (simp only [h119, Bool.true_or]; done) | (simp only [h119, h124, Bool.or_self]; done) | (simp only [h119, h124, Bool.or_true, Bool.false_or]; done)))
                refine go_eq (lv' := [(5, .int (nI (x + 1))), (4, .int (bI (nbB Hp Kc (Hd r) ((((To r) * 5) + ((Tp r) - 1)) * 11) (Bl r) (x + 1)))), (3, .int (nI (((To r) * 5 + ((Tp r) - 1)) * 11))), (0, .ref n0), (1, .ref h0), (2, .int (nI r))]) (ws' := [ob n0 2 [.int (nI lk), .int (nI lp), .ref qo, .ref qc, .int (bI sl), .int (oI s2)], aN (eY E) qo 55 Hp, aL (eY E) qc 275 (nbC Hp Kc (Hd r) ((((To r) * 5) + ((Tp r) - 1)) * 11) (Bl r) (x + 1)), ob h0 4 [.int (nI n), .int (nI m), .int (nI z), .int (nI st), .ref qh, .ref qt, .ref qp, .ref qb], aN (eY E) qh 30 Hd, aN (eY E) qt 30 To, aO (eY E) qp 30 Tp, aO (eY E) qb 30 Bl]) (by first | with_reducible rfl | (simp only [e_9, oI_s, oI_0, bI_1, bI_0, and_self, reduceIte]; done)) rfl (by first | with_reducible rfl | (simp only [e_10, oI_s, oI_0, bI_1, bI_0, and_self, reduceIte]; done)) ?_
                exact ih_x (by omega)
          · intro h75
            have h75 : Bl r = 0 := Decidable.not_not.mp h75
            refine g_aload_n C dX2_lowerBy_78 rfl 79 rfl 4 rfl ?_
            refine g_aload_n C dX2_lowerBy_79 rfl 80 rfl 5 rfl ?_
            refine g_getN C iX4 3 rfl rfl 4 (by decide) (nf_RX2_105 C.2.2.1 _) rfl dX2_lowerBy_80 83 rfl ?_
            refine g_iload_n C dX2_lowerBy_83 rfl 84 rfl 6 rfl ?_
            refine g_iald (i := r) C 4 rfl (by omega) (by decide) dX2_lowerBy_84 85 rfl ?_
            refine g_iload C dX2_lowerBy_85 87 rfl 1 rfl ?_
            refine g_lload C dX2_lowerBy_87 89 rfl 0 rfl ?_
            refine g_cVi (ws2 := [ob n0 2 [.int (nI lk), .int (nI lp), .ref qo, .ref qc, .int (bI sl), .int (oI s2)], aN (eY E) qo 55 Hp, aL (eY E) qc 275 (lowC (nbC Hp Kc (Hd r) ((((To r) * 5) + ((Tp r) - 1)) * 11) (Bl r) x) ((Hd r) * 11 + x) (sm 1 ((nbC Hp Kc (Hd r) ((((To r) * 5) + ((Tp r) - 1)) * 11) (Bl r) x) ((((To r) * 5 + ((Tp r) - 1)) * 11) + x)))), ob h0 4 [.int (nI n), .int (nI m), .int (nI z), .int (nI st), .ref qh, .ref qt, .ref qp, .ref qb], aN (eY E) qh 30 Hd, aN (eY E) qt 30 To, aO (eY E) qp 30 Tp, aO (eY E) qb 30 Bl]) (As := [.int (nI (Hd r)), .int (nI x), .long (lN (sm 1 ((nbC Hp Kc (Hd r) ((((To r) * 5) + ((Tp r) - 1)) * 11) (Bl r) x) ((((To r) * 5 + ((Tp r) - 1)) * 11) + x))))]) (st := []) (wsc := [ob n0 2 [.int (nI lk), .int (nI lp), .ref qo, .ref qc, .int (bI sl), .int (oI s2)], aL (eY E) qc 275 (nbC Hp Kc (Hd r) ((((To r) * 5) + ((Tp r) - 1)) * 11) (Bl r) x)]) (wr := [aN (eY E) qo 55 Hp, ob h0 4 [.int (nI n), .int (nI m), .int (nI z), .int (nI st), .ref qh, .ref qt, .ref qp, .ref qb], aN (eY E) qh 30 Hd, aN (eY E) qt 30 To, aO (eY E) qp 30 Tp, aO (eY E) qb 30 Bl]) C (c_X2_lower (eL E) (eD E) (eY E) n0 lk lp qo qc sl s2 (nbC Hp Kc (Hd r) ((((To r) * 5) + ((Tp r) - 1)) * 11) (Bl r) x) (Hd r) x (sm 1 ((nbC Hp Kc (Hd r) ((((To r) * 5) + ((Tp r) - 1)) * 11) (Bl r) x) ((((To r) * 5 + ((Tp r) - 1)) * 11) + x))) (by first | assumption | exact nrC_ok (by assumption) _ _ _ _ _ | exact nbC_ok (by assumption) _ _ _ _ | exact ndC_ok (by assumption) _ | exact niC_ok (by assumption) _) (by omega) (by omega) (by first | exact sm_ok _ _ | omega)) 3 gX2_lowerBy_X2_lower rfl (by decide +kernel) (by decide) ⟨Nat.zero_le _, Nat.zero_le _⟩ rfl 0 rfl rfl rfl (Nat.le_of_ble_eq_true rfl) [0, 2] [1, 3, 4, 5, 6, 7] [6, 0, 7, 1, 2, 3, 4, 5] rfl rfl (by decide) (by decide) rfl (by decide) dX2_lowerBy_89 92 rfl ?_
            refine g_goto C dX2_lowerBy_92 115 (by decide) ?_
            refine g_istore (lv' := [(8, .int (bI (lowB (nbC Hp Kc (Hd r) ((((To r) * 5) + ((Tp r) - 1)) * 11) (Bl r) x) ((Hd r) * 11 + x) (sm 1 ((nbC Hp Kc (Hd r) ((((To r) * 5) + ((Tp r) - 1)) * 11) (Bl r) x) ((((To r) * 5 + ((Tp r) - 1)) * 11) + x)))))), (6, .long (lN (sm 1 ((nbC Hp Kc (Hd r) ((((To r) * 5) + ((Tp r) - 1)) * 11) (Bl r) x) ((((To r) * 5 + ((Tp r) - 1)) * 11) + x))))), (5, .int (nI x)), (4, .int (bI (nbB Hp Kc (Hd r) ((((To r) * 5) + ((Tp r) - 1)) * 11) (Bl r) x))), (3, .int (nI (((To r) * 5 + ((Tp r) - 1)) * 11))), (0, .ref n0), (1, .ref h0), (2, .int (nI r))]) C dX2_lowerBy_115 117 rfl (by decide) rfl ?_
            refine g_iload C dX2_lowerBy_117 119 rfl 0 rfl ?_
            refine g_if_ne (X := lowB (nbC Hp Kc (Hd r) ((((To r) * 5) + ((Tp r) - 1)) * 11) (Bl r) x) ((Hd r) * 11 + x) (sm 1 ((nbC Hp Kc (Hd r) ((((To r) * 5) + ((Tp r) - 1)) * 11) (Bl r) x) ((((To r) * 5 + ((Tp r) - 1)) * 11) + x))) = true) C dX2_lowerBy_119 127 (by decide) 122 rfl (bI_ne0 _) ?_ ?_
            · intro h119
              refine g_iconst (v := nI 1) C dX2_lowerBy_127 (by decide) 128 rfl ?_
              refine g_goto C dX2_lowerBy_128 132 (by decide) ?_
              refine g_istore (lv' := [(4, .int (nI 1)), (8, .int (bI (lowB (nbC Hp Kc (Hd r) ((((To r) * 5) + ((Tp r) - 1)) * 11) (Bl r) x) ((Hd r) * 11 + x) (sm 1 ((nbC Hp Kc (Hd r) ((((To r) * 5) + ((Tp r) - 1)) * 11) (Bl r) x) ((((To r) * 5 + ((Tp r) - 1)) * 11) + x)))))), (6, .long (lN (sm 1 ((nbC Hp Kc (Hd r) ((((To r) * 5) + ((Tp r) - 1)) * 11) (Bl r) x) ((((To r) * 5 + ((Tp r) - 1)) * 11) + x))))), (5, .int (nI x)), (3, .int (nI (((To r) * 5 + ((Tp r) - 1)) * 11))), (0, .ref n0), (1, .ref h0), (2, .int (nI r))]) C dX2_lowerBy_132 134 rfl (by decide) rfl ?_
              refine g_iinc (lv' := [(5, .int (nI (x + 1))), (4, .int (nI 1)), (8, .int (bI (lowB (nbC Hp Kc (Hd r) ((((To r) * 5) + ((Tp r) - 1)) * 11) (Bl r) x) ((Hd r) * 11 + x) (sm 1 ((nbC Hp Kc (Hd r) ((((To r) * 5) + ((Tp r) - 1)) * 11) (Bl r) x) ((((To r) * 5 + ((Tp r) - 1)) * 11) + x)))))), (6, .long (lN (sm 1 ((nbC Hp Kc (Hd r) ((((To r) * 5) + ((Tp r) - 1)) * 11) (Bl r) x) ((((To r) * 5 + ((Tp r) - 1)) * 11) + x))))), (3, .int (nI (((To r) * 5 + ((Tp r) - 1)) * 11))), (0, .ref n0), (1, .ref h0), (2, .int (nI r))]) C dX2_lowerBy_134 137 rfl 3 rfl (by decide) rfl ?_
              refine g_goto C dX2_lowerBy_137 37 (by decide) ?_
              refine go_lv (lv' := [(5, .int (nI (x + 1))), (4, .int (nI 1)), (3, .int (nI (((To r) * 5 + ((Tp r) - 1)) * 11))), (0, .ref n0), (1, .ref h0), (2, .int (nI r))]) [0, 1, 4, 5, 6, 7] rfl ?_
              have e_11 : (nbB Hp Kc (Hd r) ((((To r) * 5) + ((Tp r) - 1)) * 11) (Bl r) (x + 1)) = true := by first | with_reducible rfl | (simp only [nbC, nbB]; repeat (first | rw [if_pos (by assumption)] | rw [if_neg (by assumption)]); try (first | with_reducible rfl | (simp only [h119, Bool.true_or]; done) | (simp only [h119, h124, Bool.or_self]; done) | (simp only [h119, h124, Bool.or_true, Bool.false_or]; done)))
              have e_12 : (nbC Hp Kc (Hd r) ((((To r) * 5) + ((Tp r) - 1)) * 11) (Bl r) (x + 1)) = (lowC (nbC Hp Kc (Hd r) ((((To r) * 5) + ((Tp r) - 1)) * 11) (Bl r) x) ((Hd r) * 11 + x) (sm 1 ((nbC Hp Kc (Hd r) ((((To r) * 5) + ((Tp r) - 1)) * 11) (Bl r) x) ((((To r) * 5 + ((Tp r) - 1)) * 11) + x)))) := by first | with_reducible rfl | (simp only [nbC, nbB]; repeat (first | rw [if_pos (by assumption)] | rw [if_neg (by assumption)]); try (first | with_reducible rfl | (simp only [h119, Bool.true_or]; done) | (simp only [h119, h124, Bool.or_self]; done) | (simp only [h119, h124, Bool.or_true, Bool.false_or]; done)))
              refine go_eq (lv' := [(5, .int (nI (x + 1))), (4, .int (bI (nbB Hp Kc (Hd r) ((((To r) * 5) + ((Tp r) - 1)) * 11) (Bl r) (x + 1)))), (3, .int (nI (((To r) * 5 + ((Tp r) - 1)) * 11))), (0, .ref n0), (1, .ref h0), (2, .int (nI r))]) (ws' := [ob n0 2 [.int (nI lk), .int (nI lp), .ref qo, .ref qc, .int (bI sl), .int (oI s2)], aN (eY E) qo 55 Hp, aL (eY E) qc 275 (nbC Hp Kc (Hd r) ((((To r) * 5) + ((Tp r) - 1)) * 11) (Bl r) (x + 1)), ob h0 4 [.int (nI n), .int (nI m), .int (nI z), .int (nI st), .ref qh, .ref qt, .ref qp, .ref qb], aN (eY E) qh 30 Hd, aN (eY E) qt 30 To, aO (eY E) qp 30 Tp, aO (eY E) qb 30 Bl]) (by first | with_reducible rfl | (simp only [e_11, oI_s, oI_0, bI_1, bI_0, and_self, reduceIte]; done)) rfl (by first | with_reducible rfl | (simp only [e_12, oI_s, oI_0, bI_1, bI_0, and_self, reduceIte]; done)) ?_
              exact ih_x (by omega)
            · intro h119
              have h119 : lowB (nbC Hp Kc (Hd r) ((((To r) * 5) + ((Tp r) - 1)) * 11) (Bl r) x) ((Hd r) * 11 + x) (sm 1 ((nbC Hp Kc (Hd r) ((((To r) * 5) + ((Tp r) - 1)) * 11) (Bl r) x) ((((To r) * 5 + ((Tp r) - 1)) * 11) + x))) = false := by simpa using h119
              refine g_iload C dX2_lowerBy_122 124 rfl 3 rfl ?_
              refine g_if_eq (X := nbB Hp Kc (Hd r) ((((To r) * 5) + ((Tp r) - 1)) * 11) (Bl r) x = false) C dX2_lowerBy_124 131 (by decide) 127 rfl (bI_eq0 _) ?_ ?_
              · intro h124
                refine g_iconst (v := nI 0) C dX2_lowerBy_131 (by decide) 132 rfl ?_
                refine g_istore (lv' := [(4, .int (nI 0)), (8, .int (bI (lowB (nbC Hp Kc (Hd r) ((((To r) * 5) + ((Tp r) - 1)) * 11) (Bl r) x) ((Hd r) * 11 + x) (sm 1 ((nbC Hp Kc (Hd r) ((((To r) * 5) + ((Tp r) - 1)) * 11) (Bl r) x) ((((To r) * 5 + ((Tp r) - 1)) * 11) + x)))))), (6, .long (lN (sm 1 ((nbC Hp Kc (Hd r) ((((To r) * 5) + ((Tp r) - 1)) * 11) (Bl r) x) ((((To r) * 5 + ((Tp r) - 1)) * 11) + x))))), (5, .int (nI x)), (3, .int (nI (((To r) * 5 + ((Tp r) - 1)) * 11))), (0, .ref n0), (1, .ref h0), (2, .int (nI r))]) C dX2_lowerBy_132 134 rfl (by decide) rfl ?_
                refine g_iinc (lv' := [(5, .int (nI (x + 1))), (4, .int (nI 0)), (8, .int (bI (lowB (nbC Hp Kc (Hd r) ((((To r) * 5) + ((Tp r) - 1)) * 11) (Bl r) x) ((Hd r) * 11 + x) (sm 1 ((nbC Hp Kc (Hd r) ((((To r) * 5) + ((Tp r) - 1)) * 11) (Bl r) x) ((((To r) * 5 + ((Tp r) - 1)) * 11) + x)))))), (6, .long (lN (sm 1 ((nbC Hp Kc (Hd r) ((((To r) * 5) + ((Tp r) - 1)) * 11) (Bl r) x) ((((To r) * 5 + ((Tp r) - 1)) * 11) + x))))), (3, .int (nI (((To r) * 5 + ((Tp r) - 1)) * 11))), (0, .ref n0), (1, .ref h0), (2, .int (nI r))]) C dX2_lowerBy_134 137 rfl 3 rfl (by decide) rfl ?_
                refine g_goto C dX2_lowerBy_137 37 (by decide) ?_
                refine go_lv (lv' := [(5, .int (nI (x + 1))), (4, .int (nI 0)), (3, .int (nI (((To r) * 5 + ((Tp r) - 1)) * 11))), (0, .ref n0), (1, .ref h0), (2, .int (nI r))]) [0, 1, 4, 5, 6, 7] rfl ?_
                have e_13 : (nbB Hp Kc (Hd r) ((((To r) * 5) + ((Tp r) - 1)) * 11) (Bl r) (x + 1)) = false := by first | with_reducible rfl | (simp only [nbC, nbB]; repeat (first | rw [if_pos (by assumption)] | rw [if_neg (by assumption)]); try (first | with_reducible rfl | (simp only [h119, Bool.true_or]; done) | (simp only [h119, h124, Bool.or_self]; done) | (simp only [h119, h124, Bool.or_true, Bool.false_or]; done)))
                have e_14 : (nbC Hp Kc (Hd r) ((((To r) * 5) + ((Tp r) - 1)) * 11) (Bl r) (x + 1)) = (lowC (nbC Hp Kc (Hd r) ((((To r) * 5) + ((Tp r) - 1)) * 11) (Bl r) x) ((Hd r) * 11 + x) (sm 1 ((nbC Hp Kc (Hd r) ((((To r) * 5) + ((Tp r) - 1)) * 11) (Bl r) x) ((((To r) * 5 + ((Tp r) - 1)) * 11) + x)))) := by first | with_reducible rfl | (simp only [nbC, nbB]; repeat (first | rw [if_pos (by assumption)] | rw [if_neg (by assumption)]); try (first | with_reducible rfl | (simp only [h119, Bool.true_or]; done) | (simp only [h119, h124, Bool.or_self]; done) | (simp only [h119, h124, Bool.or_true, Bool.false_or]; done)))
                refine go_eq (lv' := [(5, .int (nI (x + 1))), (4, .int (bI (nbB Hp Kc (Hd r) ((((To r) * 5) + ((Tp r) - 1)) * 11) (Bl r) (x + 1)))), (3, .int (nI (((To r) * 5 + ((Tp r) - 1)) * 11))), (0, .ref n0), (1, .ref h0), (2, .int (nI r))]) (ws' := [ob n0 2 [.int (nI lk), .int (nI lp), .ref qo, .ref qc, .int (bI sl), .int (oI s2)], aN (eY E) qo 55 Hp, aL (eY E) qc 275 (nbC Hp Kc (Hd r) ((((To r) * 5) + ((Tp r) - 1)) * 11) (Bl r) (x + 1)), ob h0 4 [.int (nI n), .int (nI m), .int (nI z), .int (nI st), .ref qh, .ref qt, .ref qp, .ref qb], aN (eY E) qh 30 Hd, aN (eY E) qt 30 To, aO (eY E) qp 30 Tp, aO (eY E) qb 30 Bl]) (by first | with_reducible rfl | (simp only [e_13, oI_s, oI_0, bI_1, bI_0, and_self, reduceIte]; done)) rfl (by first | with_reducible rfl | (simp only [e_14, oI_s, oI_0, bI_1, bI_0, and_self, reduceIte]; done)) ?_
                exact ih_x (by omega)
              · intro h124
                have h124 : nbB Hp Kc (Hd r) ((((To r) * 5) + ((Tp r) - 1)) * 11) (Bl r) x = true := by simpa using h124
                refine g_iconst (v := nI 1) C dX2_lowerBy_127 (by decide) 128 rfl ?_
                refine g_goto C dX2_lowerBy_128 132 (by decide) ?_
                refine g_istore (lv' := [(4, .int (nI 1)), (8, .int (bI (lowB (nbC Hp Kc (Hd r) ((((To r) * 5) + ((Tp r) - 1)) * 11) (Bl r) x) ((Hd r) * 11 + x) (sm 1 ((nbC Hp Kc (Hd r) ((((To r) * 5) + ((Tp r) - 1)) * 11) (Bl r) x) ((((To r) * 5 + ((Tp r) - 1)) * 11) + x)))))), (6, .long (lN (sm 1 ((nbC Hp Kc (Hd r) ((((To r) * 5) + ((Tp r) - 1)) * 11) (Bl r) x) ((((To r) * 5 + ((Tp r) - 1)) * 11) + x))))), (5, .int (nI x)), (3, .int (nI (((To r) * 5 + ((Tp r) - 1)) * 11))), (0, .ref n0), (1, .ref h0), (2, .int (nI r))]) C dX2_lowerBy_132 134 rfl (by decide) rfl ?_
                refine g_iinc (lv' := [(5, .int (nI (x + 1))), (4, .int (nI 1)), (8, .int (bI (lowB (nbC Hp Kc (Hd r) ((((To r) * 5) + ((Tp r) - 1)) * 11) (Bl r) x) ((Hd r) * 11 + x) (sm 1 ((nbC Hp Kc (Hd r) ((((To r) * 5) + ((Tp r) - 1)) * 11) (Bl r) x) ((((To r) * 5 + ((Tp r) - 1)) * 11) + x)))))), (6, .long (lN (sm 1 ((nbC Hp Kc (Hd r) ((((To r) * 5) + ((Tp r) - 1)) * 11) (Bl r) x) ((((To r) * 5 + ((Tp r) - 1)) * 11) + x))))), (3, .int (nI (((To r) * 5 + ((Tp r) - 1)) * 11))), (0, .ref n0), (1, .ref h0), (2, .int (nI r))]) C dX2_lowerBy_134 137 rfl 3 rfl (by decide) rfl ?_
                refine g_goto C dX2_lowerBy_137 37 (by decide) ?_
                refine go_lv (lv' := [(5, .int (nI (x + 1))), (4, .int (nI 1)), (3, .int (nI (((To r) * 5 + ((Tp r) - 1)) * 11))), (0, .ref n0), (1, .ref h0), (2, .int (nI r))]) [0, 1, 4, 5, 6, 7] rfl ?_
                have e_15 : (nbB Hp Kc (Hd r) ((((To r) * 5) + ((Tp r) - 1)) * 11) (Bl r) (x + 1)) = true := by first | with_reducible rfl | (simp only [nbC, nbB]; repeat (first | rw [if_pos (by assumption)] | rw [if_neg (by assumption)]); try (first | with_reducible rfl | (simp only [h119, Bool.true_or]; done) | (simp only [h119, h124, Bool.or_self]; done) | (simp only [h119, h124, Bool.or_true, Bool.false_or]; done)))
                have e_16 : (nbC Hp Kc (Hd r) ((((To r) * 5) + ((Tp r) - 1)) * 11) (Bl r) (x + 1)) = (lowC (nbC Hp Kc (Hd r) ((((To r) * 5) + ((Tp r) - 1)) * 11) (Bl r) x) ((Hd r) * 11 + x) (sm 1 ((nbC Hp Kc (Hd r) ((((To r) * 5) + ((Tp r) - 1)) * 11) (Bl r) x) ((((To r) * 5 + ((Tp r) - 1)) * 11) + x)))) := by first | with_reducible rfl | (simp only [nbC, nbB]; repeat (first | rw [if_pos (by assumption)] | rw [if_neg (by assumption)]); try (first | with_reducible rfl | (simp only [h119, Bool.true_or]; done) | (simp only [h119, h124, Bool.or_self]; done) | (simp only [h119, h124, Bool.or_true, Bool.false_or]; done)))
                refine go_eq (lv' := [(5, .int (nI (x + 1))), (4, .int (bI (nbB Hp Kc (Hd r) ((((To r) * 5) + ((Tp r) - 1)) * 11) (Bl r) (x + 1)))), (3, .int (nI (((To r) * 5 + ((Tp r) - 1)) * 11))), (0, .ref n0), (1, .ref h0), (2, .int (nI r))]) (ws' := [ob n0 2 [.int (nI lk), .int (nI lp), .ref qo, .ref qc, .int (bI sl), .int (oI s2)], aN (eY E) qo 55 Hp, aL (eY E) qc 275 (nbC Hp Kc (Hd r) ((((To r) * 5) + ((Tp r) - 1)) * 11) (Bl r) (x + 1)), ob h0 4 [.int (nI n), .int (nI m), .int (nI z), .int (nI st), .ref qh, .ref qt, .ref qp, .ref qb], aN (eY E) qh 30 Hd, aN (eY E) qt 30 To, aO (eY E) qp 30 Tp, aO (eY E) qb 30 Bl]) (by first | with_reducible rfl | (simp only [e_15, oI_s, oI_0, bI_1, bI_0, and_self, reduceIte]; done)) rfl (by first | with_reducible rfl | (simp only [e_16, oI_s, oI_0, bI_1, bI_0, and_self, reduceIte]; done)) ?_
                exact ih_x (by omega)
    have e_17 : (nbB Hp Kc (Hd r) ((((To r) * 5) + ((Tp r) - 1)) * 11) (Bl r) 0) = false := by first | with_reducible rfl | (rfl)
    have e_18 : (nbC Hp Kc (Hd r) ((((To r) * 5) + ((Tp r) - 1)) * 11) (Bl r) 0) = Kc := by first | with_reducible rfl | (rfl)
    refine go_eq (lv' := [(5, .int (nI 0)), (4, .int (bI (nbB Hp Kc (Hd r) ((((To r) * 5) + ((Tp r) - 1)) * 11) (Bl r) 0))), (3, .int (nI (((To r) * 5 + ((Tp r) - 1)) * 11))), (0, .ref n0), (1, .ref h0), (2, .int (nI r))]) (ws' := [ob n0 2 [.int (nI lk), .int (nI lp), .ref qo, .ref qc, .int (bI sl), .int (oI s2)], aN (eY E) qo 55 Hp, aL (eY E) qc 275 (nbC Hp Kc (Hd r) ((((To r) * 5) + ((Tp r) - 1)) * 11) (Bl r) 0), ob h0 4 [.int (nI n), .int (nI m), .int (nI z), .int (nI st), .ref qh, .ref qt, .ref qp, .ref qb], aN (eY E) qh 30 Hd, aN (eY E) qt 30 To, aO (eY E) qp 30 Tp, aO (eY E) qb 30 Bl]) (by first | with_reducible rfl | (simp only [e_17, oI_s, oI_0, bI_1, bI_0, and_self, reduceIte]; done)) rfl (by first | with_reducible rfl | (simp only [e_18, oI_s, oI_0, bI_1, bI_0, and_self, reduceIte]; done)) ?_
    exact L37 0 (by omega)
  · intro h7
    have h7 : Tp r = 0 := Decidable.not_not.mp h7
    refine g_iconst (v := nI 0) C dX2_lowerBy_10 (by decide) 11 rfl ?_
    have e_19 : (nyB Hp Hd To Tp Bl Kc r) = false := by first | with_reducible rfl | (simp [nyC, nyB, *])
    have e_20 : (nyC Hp Hd To Tp Bl Kc r) = Kc := by first | with_reducible rfl | (simp [nyC, nyB, *])
    refine go_eq rfl (st' := [.int (bI (nyB Hp Hd To Tp Bl Kc r))]) (ws' := [ob n0 2 [.int (nI lk), .int (nI lp), .ref qo, .ref qc, .int (bI sl), .int (oI s2)], aN (eY E) qo 55 Hp, aL (eY E) qc 275 (nyC Hp Hd To Tp Bl Kc r), ob h0 4 [.int (nI n), .int (nI m), .int (nI z), .int (nI st), .ref qh, .ref qt, .ref qp, .ref qb], aN (eY E) qh 30 Hd, aN (eY E) qt 30 To, aO (eY E) qp 30 Tp, aO (eY E) qb 30 Bl]) (by first | with_reducible rfl | (simp only [e_19, e_20, oI_s, oI_0, bI_1, bI_0, and_self, reduceIte]; done)) (by first | with_reducible rfl | (simp only [e_19, e_20, oI_s, oI_0, bI_1, bI_0, and_self, reduceIte]; done)) ?_
    exact hret _ _ dX2_lowerBy_11
set_option maxHeartbeats 4000000 in
set_option maxRecDepth 100000 in
theorem c_X2_startFrom (l : Launch) (D : va_G) (cy : Nat → ClassId) (n0 : Nat) (lk : Nat) (lp : Nat) (qo : Nat) (qc : Nat) (sl : Bool) (s2 : Nat) (Hp : Nat → Nat) (Kc : Nat → Nat) (k0 : Nat) (ql : Nat) (sn : Nat) (Cv : Nat → Nat) (hHp : ∀ k, Hp k < 64) : CoV l yX2_startFrom wsX2_startFrom 2 44 D cy [ob n0 2 [.int (nI lk), .int (nI lp), .ref qo, .ref qc, .int (bI sl), .int (oI s2)], aN cy qo 55 Hp, aL cy qc 275 Kc, ob k0 3 [.ref ql, .int (oI sn)], aL cy ql 125 Cv] [.ref n0, .ref k0] [ob n0 2 [.int (nI lk), .int (nI lp), .ref qo, .ref qc, .int (bI sl), .int (oI s2)], aN cy qo 55 Hp, aL cy qc 275 (sfF Hp Cv), ob k0 3 [.ref ql, .int (oI sn)], aL cy ql 125 Cv] := by
  refine met_v (cc := cX2_startFrom) (maxL := 5) (own := RX2) (lv := [(0, .ref n0), (1, .ref k0)]) (by decide) rfl rfl rfl (Nat.le_of_ble_eq_true rfl) (fun E e1 e2 e3 C hret => ?_)
  subst e1; subst e2; subst e3
  have iX2 : ∀ w ∈ wsX20, w ∈ wsX2_startFrom := fun _ h => List.mem_cons_of_mem _ (List.mem_append_left _ (List.mem_append_right _ h))
  have iX3 : ∀ w ∈ wsX30, w ∈ wsX2_startFrom := fun _ h => List.mem_cons_of_mem _ (List.mem_append_right _ h)
  refine g_iconst (v := nI 0) C dX2_startFrom_0 (by decide) 1 rfl ?_
  refine g_istore_n (lv' := [(2, .int (nI 0)), (0, .ref n0), (1, .ref k0)]) C dX2_startFrom_1 rfl 2 rfl (by decide) rfl ?_
  have L2 : ∀ hd, hd ≤ 25 → Go E 0 0 2 [(2, .int (nI hd)), (0, .ref n0), (1, .ref k0)] [] [ob n0 2 [.int (nI lk), .int (nI lp), .ref qo, .ref qc, .int (bI sl), .int (oI s2)], aN (eY E) qo 55 Hp, aL (eY E) qc 275 (fillG Kc (sfF Hp Cv) (hd * 11)), ob k0 3 [.ref ql, .int (oI sn)], aL (eY E) ql 125 Cv] := by
    refine go_for 25 (fun hd => Go E 0 0 2 [(2, .int (nI hd)), (0, .ref n0), (1, .ref k0)] [] [ob n0 2 [.int (nI lk), .int (nI lp), .ref qo, .ref qc, .int (bI sl), .int (oI s2)], aN (eY E) qo 55 Hp, aL (eY E) qc 275 (fillG Kc (sfF Hp Cv) (hd * 11)), ob k0 3 [.ref ql, .int (oI sn)], aL (eY E) ql 125 Cv]) (fun hd hi_hd ih_hd => ?_)
    refine g_iload_n C dX2_startFrom_2 rfl 3 rfl 0 rfl ?_
    refine g_bipush (v := nI 25) C dX2_startFrom_3 (by decide) 5 rfl ?_
    refine g_icmp_ge (X := 25 ≤ hd) C dX2_startFrom_5 100 (by decide) 8 rfl (nI_leI (by omega) (by omega)) ?_ ?_
    · intro h5
      have x_hd : hd = 25 := by omega
      try rw [x_hd]
      refine go_swap (ws' := [ob n0 2 [.int (nI lk), .int (nI lp), .ref qo, .ref qc, .int (bI sl), .int (oI s2)], aN (eY E) qo 55 Hp, aL (eY E) qc 275 (sfF Hp Cv), ob k0 3 [.ref ql, .int (oI sn)], aL (eY E) ql 125 Cv]) 2 rfl (cell_L _ _ (fillG Kc (sfF Hp Cv) (25 * 11)) (sfF Hp Cv) (fun k_ hk_ => by exact fillG_in _ _ (by omega))) rfl ?_
      exact hret _ _ dX2_startFrom_100
    · intro h5
      refine g_iconst (v := nI 0) C dX2_startFrom_8 (by decide) 9 rfl ?_
      refine g_istore_n (lv' := [(3, .int (nI 0)), (2, .int (nI hd)), (0, .ref n0), (1, .ref k0)]) C dX2_startFrom_9 rfl 10 rfl (by decide) rfl ?_
      have L10 : ∀ q, q ≤ 5 → Go E 0 0 10 [(3, .int (nI q)), (2, .int (nI hd)), (0, .ref n0), (1, .ref k0)] [] [ob n0 2 [.int (nI lk), .int (nI lp), .ref qo, .ref qc, .int (bI sl), .int (oI s2)], aN (eY E) qo 55 Hp, aL (eY E) qc 275 (fillG Kc (sfF Hp Cv) (hd * 11 + q)), ob k0 3 [.ref ql, .int (oI sn)], aL (eY E) ql 125 Cv] := by
        refine go_for 5 (fun q => Go E 0 0 10 [(3, .int (nI q)), (2, .int (nI hd)), (0, .ref n0), (1, .ref k0)] [] [ob n0 2 [.int (nI lk), .int (nI lp), .ref qo, .ref qc, .int (bI sl), .int (oI s2)], aN (eY E) qo 55 Hp, aL (eY E) qc 275 (fillG Kc (sfF Hp Cv) (hd * 11 + q)), ob k0 3 [.ref ql, .int (oI sn)], aL (eY E) ql 125 Cv]) (fun q hi_q ih_q => ?_)
        refine g_iload_n C dX2_startFrom_10 rfl 11 rfl 0 rfl ?_
        refine g_iconst (v := nI 5) C dX2_startFrom_11 (by decide) 12 rfl ?_
        refine g_icmp_ge (X := 5 ≤ q) C dX2_startFrom_12 42 (by decide) 15 rfl (nI_leI (by omega) (by omega)) ?_ ?_
        · intro h12
          have x_q : q = 5 := by omega
          try rw [x_q]
          refine g_iconst (v := nI 0) C dX2_startFrom_42 (by decide) 43 rfl ?_
          refine g_istore_n (lv' := [(3, .int (nI 0)), (2, .int (nI hd)), (0, .ref n0), (1, .ref k0)]) C dX2_startFrom_43 rfl 44 rfl (by decide) rfl ?_
          have L44 : ∀ nd, nd ≤ 6 → Go E 0 0 44 [(3, .int (nI nd)), (2, .int (nI hd)), (0, .ref n0), (1, .ref k0)] [] [ob n0 2 [.int (nI lk), .int (nI lp), .ref qo, .ref qc, .int (bI sl), .int (oI s2)], aN (eY E) qo 55 Hp, aL (eY E) qc 275 (fillG Kc (sfF Hp Cv) (hd * 11 + 5 + nd)), ob k0 3 [.ref ql, .int (oI sn)], aL (eY E) ql 125 Cv] := by
            refine go_for 6 (fun nd => Go E 0 0 44 [(3, .int (nI nd)), (2, .int (nI hd)), (0, .ref n0), (1, .ref k0)] [] [ob n0 2 [.int (nI lk), .int (nI lp), .ref qo, .ref qc, .int (bI sl), .int (oI s2)], aN (eY E) qo 55 Hp, aL (eY E) qc 275 (fillG Kc (sfF Hp Cv) (hd * 11 + 5 + nd)), ob k0 3 [.ref ql, .int (oI sn)], aL (eY E) ql 125 Cv]) (fun nd hi_nd ih_nd => ?_)
            refine g_iload_n C dX2_startFrom_44 rfl 45 rfl 0 rfl ?_
            refine g_bipush (v := nI 6) C dX2_startFrom_45 (by decide) 47 rfl ?_
            refine g_icmp_ge (X := 6 ≤ nd) C dX2_startFrom_47 94 (by decide) 50 rfl (nI_leI (by omega) (by omega)) ?_ ?_
            · intro h47
              have x_nd : nd = 6 := by omega
              try rw [x_nd]
              refine g_iinc (lv' := [(2, .int (nI (hd + 1))), (3, .int (nI 6)), (0, .ref n0), (1, .ref k0)]) C dX2_startFrom_94 97 rfl 1 rfl (by decide) rfl ?_
              refine g_goto C dX2_startFrom_97 2 (by decide) ?_
              refine go_lv (lv' := [(2, .int (nI (hd + 1))), (0, .ref n0), (1, .ref k0)]) [0, 2, 3] rfl ?_
              have e_1 : (fillG Kc (sfF Hp Cv) ((hd + 1) * 11)) = (fillG Kc (sfF Hp Cv) (hd * 11 + 5 + 6)) := by first | with_reducible rfl | (first | rfl | (congr 1; omega) | omega)
              refine go_eq (lv' := [(2, .int (nI (hd + 1))), (0, .ref n0), (1, .ref k0)]) (ws' := [ob n0 2 [.int (nI lk), .int (nI lp), .ref qo, .ref qc, .int (bI sl), .int (oI s2)], aN (eY E) qo 55 Hp, aL (eY E) qc 275 (fillG Kc (sfF Hp Cv) ((hd + 1) * 11)), ob k0 3 [.ref ql, .int (oI sn)], aL (eY E) ql 125 Cv]) (by first | with_reducible rfl | (simp only [oI_s, oI_0, bI_1, bI_0, and_self, reduceIte]; done) | rfl) rfl (by first | with_reducible rfl | (simp only [e_1, oI_s, oI_0, bI_1, bI_0, and_self, reduceIte]; done)) ?_
              exact ih_hd (by omega)
            · intro h47
              refine g_aload_n C dX2_startFrom_50 rfl 51 rfl 2 rfl ?_
              refine g_iload_n C dX2_startFrom_51 rfl 52 rfl 1 rfl ?_
              refine g_iconst (v := nI 5) C dX2_startFrom_52 (by decide) 53 rfl ?_
              refine g_idiv (z := nI (hd / 5)) C dX2_startFrom_53 (by decide) 54 rfl (pk_div (by omega) (by omega) (by omega)) ?_
              refine g_iload_n C dX2_startFrom_54 rfl 55 rfl 1 rfl ?_
              refine g_iconst (v := nI 5) C dX2_startFrom_55 (by decide) 56 rfl ?_
              refine g_irem (z := nI (hd % 5)) C dX2_startFrom_56 (by decide) 57 rfl (pk_rem (by omega) (by omega) (by omega)) ?_
              refine g_iload_n C dX2_startFrom_57 rfl 58 rfl 0 rfl ?_
              have ed : hd / 5 * 5 + hd % 5 = hd := by omega
              refine g_cVi (ws2 := [ob n0 2 [.int (nI lk), .int (nI lp), .ref qo, .ref qc, .int (bI sl), .int (oI s2)], aN (eY E) qo 55 Hp, aL (eY E) qc 275 (fillG Kc (sfF Hp Cv) (hd * 11 + 5 + nd)), ob k0 3 [.ref ql, .int (oI sn)], aL (eY E) ql 125 Cv]) (As := [.int (nI (hd / 5)), .int (nI (hd % 5)), .int (nI nd)]) (st := []) (wsc := [ob n0 2 [.int (nI lk), .int (nI lp), .ref qo, .ref qc, .int (bI sl), .int (oI s2)], aN (eY E) qo 55 Hp]) (wr := [aL (eY E) qc 275 (fillG Kc (sfF Hp Cv) (hd * 11 + 5 + nd)), ob k0 3 [.ref ql, .int (oI sn)], aL (eY E) ql 125 Cv]) C (c_X2_hasHop (eL E) (eD E) (eY E) n0 lk lp qo qc sl s2 Hp (hd / 5) (hd % 5) nd (by assumption) (by omega) (by omega) (by omega)) 3 gX2_startFrom_X2_hasHop rfl (by decide +kernel) (by decide) ⟨Nat.zero_le _, Nat.zero_le _⟩ rfl 0 rfl rfl rfl (Nat.le_of_ble_eq_true rfl) [0, 1] [2, 3, 4] [3, 4, 0, 1, 2] rfl rfl (by decide) (by decide) rfl (by decide) dX2_startFrom_58 61 rfl ?_
              refine g_istore (lv' := [(4, .int (bI ((Hp ((hd / 5) * 5 + (hd % 5))).testBit nd))), (3, .int (nI nd)), (2, .int (nI hd)), (0, .ref n0), (1, .ref k0)]) C dX2_startFrom_61 63 rfl (by decide) rfl ?_
              refine g_aload_n C dX2_startFrom_63 rfl 64 rfl 3 rfl ?_
              refine g_get C iX2 0 rfl rfl 3 (by decide) (C.1.2.2.2.2 (.fieldLink RX2 22 "StackRuns$Net" "cost" "[J") (List.mem_of_getElem? (i := 1) rfl)) rfl dX2_startFrom_64 67 rfl ?_
              refine g_iload_n C dX2_startFrom_67 rfl 68 rfl 2 rfl ?_
              refine g_bipush (v := nI 11) C dX2_startFrom_68 (by decide) 70 rfl ?_
              refine g_imul (z := nI (hd * 11)) C dX2_startFrom_70 71 rfl (pk_mul _ _) ?_
              refine g_iconst (v := nI 5) C dX2_startFrom_71 (by decide) 72 rfl ?_
              refine g_iadd (z := nI ((hd * 11) + 5)) C dX2_startFrom_72 73 rfl (nI_add _ _) ?_
              refine g_iload_n C dX2_startFrom_73 rfl 74 rfl 1 rfl ?_
              refine g_iadd (z := nI (((hd * 11) + 5) + nd)) C dX2_startFrom_74 75 rfl (nI_add _ _) ?_
              refine g_iload C dX2_startFrom_75 77 rfl 0 rfl ?_
              refine g_if_eq (X := (Hp ((hd / 5) * 5 + (hd % 5))).testBit nd = false) C dX2_startFrom_77 84 (by decide) 80 rfl (bI_eq0 _) ?_ ?_
              · intro h77
                refine g_ldc2 (v' := (lN 9000000000000000000)) C (C.1.2.2.2.2 (.constantLong RX2 87 (9000000000000000000)) (List.mem_of_getElem? (i := 2) rfl)) (by decide) dX2_startFrom_84 87 rfl ?_
                refine g_last (ws' := [ob n0 2 [.int (nI lk), .int (nI lp), .ref qo, .ref qc, .int (bI sl), .int (oI s2)], aN (eY E) qo 55 Hp, aL (eY E) qc 275 (up (fillG Kc (sfF Hp Cv) (hd * 11 + 5 + nd)) (((hd * 11) + 5) + nd) 9000000000000000000), ob k0 3 [.ref ql, .int (oI sn)], aL (eY E) ql 125 Cv]) (i := (((hd * 11) + 5) + nd)) C 2 rfl (by omega) (by decide) dX2_startFrom_87 88 rfl (upd_L _ _ _) rfl ?_
                refine g_iinc (lv' := [(3, .int (nI (nd + 1))), (4, .int (bI ((Hp ((hd / 5) * 5 + (hd % 5))).testBit nd))), (2, .int (nI hd)), (0, .ref n0), (1, .ref k0)]) C dX2_startFrom_88 91 rfl 1 rfl (by decide) rfl ?_
                refine g_goto C dX2_startFrom_91 44 (by decide) ?_
                refine go_lv (lv' := [(3, .int (nI (nd + 1))), (2, .int (nI hd)), (0, .ref n0), (1, .ref k0)]) [0, 2, 3, 4] rfl ?_
                have e_2 : (fillG Kc (sfF Hp Cv) (hd * 11 + 5 + (nd + 1))) = (up (fillG Kc (sfF Hp Cv) (hd * 11 + 5 + nd)) (((hd * 11) + 5) + nd) 9000000000000000000) := by first | with_reducible rfl | (rw [← Nat.add_assoc, fillG_s, sfF_hi (by omega)]; rw [ed] at h77; simp [h77])
                refine go_eq (lv' := [(3, .int (nI (nd + 1))), (2, .int (nI hd)), (0, .ref n0), (1, .ref k0)]) (ws' := [ob n0 2 [.int (nI lk), .int (nI lp), .ref qo, .ref qc, .int (bI sl), .int (oI s2)], aN (eY E) qo 55 Hp, aL (eY E) qc 275 (fillG Kc (sfF Hp Cv) (hd * 11 + 5 + (nd + 1))), ob k0 3 [.ref ql, .int (oI sn)], aL (eY E) ql 125 Cv]) (by first | with_reducible rfl | (simp only [oI_s, oI_0, bI_1, bI_0, and_self, reduceIte]; done) | rfl) rfl (by first | with_reducible rfl | (simp only [e_2, oI_s, oI_0, bI_1, bI_0, and_self, reduceIte]; done)) ?_
                exact ih_nd (by omega)
              · intro h77
                have h77 : (Hp ((hd / 5) * 5 + (hd % 5))).testBit nd = true := by simpa using h77
                refine g_lconst (v := lN 0) C dX2_startFrom_80 (by decide) 81 rfl ?_
                refine g_goto C dX2_startFrom_81 87 (by decide) ?_
                refine g_last (ws' := [ob n0 2 [.int (nI lk), .int (nI lp), .ref qo, .ref qc, .int (bI sl), .int (oI s2)], aN (eY E) qo 55 Hp, aL (eY E) qc 275 (up (fillG Kc (sfF Hp Cv) (hd * 11 + 5 + nd)) (((hd * 11) + 5) + nd) 0), ob k0 3 [.ref ql, .int (oI sn)], aL (eY E) ql 125 Cv]) (i := (((hd * 11) + 5) + nd)) C 2 rfl (by omega) (by decide) dX2_startFrom_87 88 rfl (upd_L _ _ _) rfl ?_
                refine g_iinc (lv' := [(3, .int (nI (nd + 1))), (4, .int (bI ((Hp ((hd / 5) * 5 + (hd % 5))).testBit nd))), (2, .int (nI hd)), (0, .ref n0), (1, .ref k0)]) C dX2_startFrom_88 91 rfl 1 rfl (by decide) rfl ?_
                refine g_goto C dX2_startFrom_91 44 (by decide) ?_
                refine go_lv (lv' := [(3, .int (nI (nd + 1))), (2, .int (nI hd)), (0, .ref n0), (1, .ref k0)]) [0, 2, 3, 4] rfl ?_
                have e_3 : (fillG Kc (sfF Hp Cv) (hd * 11 + 5 + (nd + 1))) = (up (fillG Kc (sfF Hp Cv) (hd * 11 + 5 + nd)) (((hd * 11) + 5) + nd) 0) := by first | with_reducible rfl | (rw [← Nat.add_assoc, fillG_s, sfF_hi (by omega)]; rw [ed] at h77; simp [h77])
                refine go_eq (lv' := [(3, .int (nI (nd + 1))), (2, .int (nI hd)), (0, .ref n0), (1, .ref k0)]) (ws' := [ob n0 2 [.int (nI lk), .int (nI lp), .ref qo, .ref qc, .int (bI sl), .int (oI s2)], aN (eY E) qo 55 Hp, aL (eY E) qc 275 (fillG Kc (sfF Hp Cv) (hd * 11 + 5 + (nd + 1))), ob k0 3 [.ref ql, .int (oI sn)], aL (eY E) ql 125 Cv]) (by first | with_reducible rfl | (simp only [oI_s, oI_0, bI_1, bI_0, and_self, reduceIte]; done) | rfl) rfl (by first | with_reducible rfl | (simp only [e_3, oI_s, oI_0, bI_1, bI_0, and_self, reduceIte]; done)) ?_
                exact ih_nd (by omega)
          have e_4 : (fillG Kc (sfF Hp Cv) (hd * 11 + 5 + 0)) = (fillG Kc (sfF Hp Cv) (hd * 11 + 5)) := by first | with_reducible rfl | (first | rfl | (simp; done))
          refine go_eq (lv' := [(3, .int (nI 0)), (2, .int (nI hd)), (0, .ref n0), (1, .ref k0)]) (ws' := [ob n0 2 [.int (nI lk), .int (nI lp), .ref qo, .ref qc, .int (bI sl), .int (oI s2)], aN (eY E) qo 55 Hp, aL (eY E) qc 275 (fillG Kc (sfF Hp Cv) (hd * 11 + 5 + 0)), ob k0 3 [.ref ql, .int (oI sn)], aL (eY E) ql 125 Cv]) (by first | with_reducible rfl | (simp only [oI_s, oI_0, bI_1, bI_0, and_self, reduceIte]; done) | rfl) rfl (by first | with_reducible rfl | (simp only [e_4, oI_s, oI_0, bI_1, bI_0, and_self, reduceIte]; done)) ?_
          exact L44 0 (by omega)
        · intro h12
          refine g_aload_n C dX2_startFrom_15 rfl 16 rfl 2 rfl ?_
          refine g_get C iX2 0 rfl rfl 3 (by decide) (C.1.2.2.2.2 (.fieldLink RX2 22 "StackRuns$Net" "cost" "[J") (List.mem_of_getElem? (i := 1) rfl)) rfl dX2_startFrom_16 19 rfl ?_
          refine g_iload_n C dX2_startFrom_19 rfl 20 rfl 1 rfl ?_
          refine g_bipush (v := nI 11) C dX2_startFrom_20 (by decide) 22 rfl ?_
          refine g_imul (z := nI (hd * 11)) C dX2_startFrom_22 23 rfl (pk_mul _ _) ?_
          refine g_iload_n C dX2_startFrom_23 rfl 24 rfl 0 rfl ?_
          refine g_iadd (z := nI ((hd * 11) + q)) C dX2_startFrom_24 25 rfl (nI_add _ _) ?_
          refine g_aload_n C dX2_startFrom_25 rfl 26 rfl 3 rfl ?_
          refine g_getN C iX3 3 rfl rfl 0 (by decide) (nf_RX2_78 C.2.2.1 _) rfl dX2_startFrom_26 29 rfl ?_
          refine g_iload_n C dX2_startFrom_29 rfl 30 rfl 1 rfl ?_
          refine g_iconst (v := nI 5) C dX2_startFrom_30 (by decide) 31 rfl ?_
          refine g_imul (z := nI (hd * 5)) C dX2_startFrom_31 32 rfl (pk_mul _ _) ?_
          refine g_iload_n C dX2_startFrom_32 rfl 33 rfl 0 rfl ?_
          refine g_iadd (z := nI ((hd * 5) + q)) C dX2_startFrom_33 34 rfl (nI_add _ _) ?_
          refine g_lald (i := ((hd * 5) + q)) C 4 rfl (by omega) (by decide) dX2_startFrom_34 35 rfl ?_
          refine g_last (ws' := [ob n0 2 [.int (nI lk), .int (nI lp), .ref qo, .ref qc, .int (bI sl), .int (oI s2)], aN (eY E) qo 55 Hp, aL (eY E) qc 275 (up (fillG Kc (sfF Hp Cv) (hd * 11 + q)) ((hd * 11) + q) (Cv ((hd * 5) + q))), ob k0 3 [.ref ql, .int (oI sn)], aL (eY E) ql 125 Cv]) (i := ((hd * 11) + q)) C 2 rfl (by omega) (by decide) dX2_startFrom_35 36 rfl (upd_L _ _ _) rfl ?_
          refine g_iinc (lv' := [(3, .int (nI (q + 1))), (2, .int (nI hd)), (0, .ref n0), (1, .ref k0)]) C dX2_startFrom_36 39 rfl 0 rfl (by decide) rfl ?_
          refine g_goto C dX2_startFrom_39 10 (by decide) ?_
          have e_5 : (fillG Kc (sfF Hp Cv) (hd * 11 + (q + 1))) = (up (fillG Kc (sfF Hp Cv) (hd * 11 + q)) ((hd * 11) + q) (Cv ((hd * 5) + q))) := by first | with_reducible rfl | (rw [← Nat.add_assoc, fillG_s, sfF_lo (by omega)])
          refine go_eq (lv' := [(3, .int (nI (q + 1))), (2, .int (nI hd)), (0, .ref n0), (1, .ref k0)]) (ws' := [ob n0 2 [.int (nI lk), .int (nI lp), .ref qo, .ref qc, .int (bI sl), .int (oI s2)], aN (eY E) qo 55 Hp, aL (eY E) qc 275 (fillG Kc (sfF Hp Cv) (hd * 11 + (q + 1))), ob k0 3 [.ref ql, .int (oI sn)], aL (eY E) ql 125 Cv]) (by first | with_reducible rfl | (simp only [oI_s, oI_0, bI_1, bI_0, and_self, reduceIte]; done) | rfl) rfl (by first | with_reducible rfl | (simp only [e_5, oI_s, oI_0, bI_1, bI_0, and_self, reduceIte]; done)) ?_
          exact ih_q (by omega)
      have e_6 : (fillG Kc (sfF Hp Cv) (hd * 11 + 0)) = (fillG Kc (sfF Hp Cv) (hd * 11)) := by first | with_reducible rfl | (first | rfl | (simp; done))
      refine go_eq (lv' := [(3, .int (nI 0)), (2, .int (nI hd)), (0, .ref n0), (1, .ref k0)]) (ws' := [ob n0 2 [.int (nI lk), .int (nI lp), .ref qo, .ref qc, .int (bI sl), .int (oI s2)], aN (eY E) qo 55 Hp, aL (eY E) qc 275 (fillG Kc (sfF Hp Cv) (hd * 11 + 0)), ob k0 3 [.ref ql, .int (oI sn)], aL (eY E) ql 125 Cv]) (by first | with_reducible rfl | (simp only [oI_s, oI_0, bI_1, bI_0, and_self, reduceIte]; done) | rfl) rfl (by first | with_reducible rfl | (simp only [e_6, oI_s, oI_0, bI_1, bI_0, and_self, reduceIte]; done)) ?_
      exact L10 0 (by omega)
  have e_7 : (fillG Kc (sfF Hp Cv) (0 * 11)) = Kc := by first | with_reducible rfl | (rw [Nat.zero_mul, fillG_0])
  refine go_eq (lv' := [(2, .int (nI 0)), (0, .ref n0), (1, .ref k0)]) (ws' := [ob n0 2 [.int (nI lk), .int (nI lp), .ref qo, .ref qc, .int (bI sl), .int (oI s2)], aN (eY E) qo 55 Hp, aL (eY E) qc 275 (fillG Kc (sfF Hp Cv) (0 * 11)), ob k0 3 [.ref ql, .int (oI sn)], aL (eY E) ql 125 Cv]) (by first | with_reducible rfl | (simp only [oI_s, oI_0, bI_1, bI_0, and_self, reduceIte]; done) | rfl) rfl (by first | with_reducible rfl | (simp only [e_7, oI_s, oI_0, bI_1, bI_0, and_self, reduceIte]; done)) ?_
  exact L2 0 (by omega)
set_option maxHeartbeats 4000000 in
set_option maxRecDepth 100000 in
theorem c_X2_renew (l : Launch) (D : va_G) (cy : Nat → ClassId) (n0 : Nat) (lk : Nat) (lp : Nat) (qo : Nat) (qc : Nat) (sl : Bool) (s2 : Nat) (Hp : Nat → Nat) (Kc : Nat → Nat) (h0 : Nat) (n : Nat) (m : Nat) (z : Nat) (st : Nat) (qh : Nat) (qt : Nat) (qp : Nat) (qb : Nat) (Hd : Nat → Nat) (To : Nat → Nat) (Tp : Nat → Nat) (Bl : Nat → Nat) (k0 : Nat) (ql : Nat) (sn : Nat) (Cv : Nat → Nat) (hHp : ∀ k, Hp k < 64) (hK : okf Kc) (hC : okf Cv) (hru : ruOK n z Hd To Tp Bl) (hs : s2 < 1000) (hst : st < 1000) : CoV l yX2_renew wsX2_renew 5 122 D cy [ob n0 2 [.int (nI lk), .int (nI lp), .ref qo, .ref qc, .int (bI sl), .int (oI s2)], aN cy qo 55 Hp, aL cy qc 275 Kc, ob h0 4 [.int (nI n), .int (nI m), .int (nI z), .int (nI st), .ref qh, .ref qt, .ref qp, .ref qb], aN cy qh 30 Hd, aN cy qt 30 To, aO cy qp 30 Tp, aO cy qb 30 Bl, ob k0 3 [.ref ql, .int (oI sn)], aL cy ql 125 Cv] [.ref n0, .ref h0, .ref k0] [ob n0 2 [.int (nI lk), .int (nI lp), .ref qo, .ref qc, .int (bI false), .int (oI (st + 1))], aN cy qo 55 Hp, aL cy qc 275 (if sl = false ∧ s2 = st + 1 then Kc else niC z Hp Hd To Tp Bl Cv 276), ob h0 4 [.int (nI n), .int (nI m), .int (nI z), .int (nI st), .ref qh, .ref qt, .ref qp, .ref qb], aN cy qh 30 Hd, aN cy qt 30 To, aO cy qp 30 Tp, aO cy qb 30 Bl, ob k0 3 [.ref ql, .int (oI sn)], aL cy ql 125 Cv] := by
  refine met_v (cc := cX2_renew) (maxL := 6) (own := RX2) (lv := [(0, .ref n0), (1, .ref h0), (2, .ref k0)]) (by decide) rfl rfl rfl (Nat.le_of_ble_eq_true rfl) (fun E e1 e2 e3 C hret => ?_)
  subst e1; subst e2; subst e3
  have iX2 : ∀ w ∈ wsX20, w ∈ wsX2_renew := fun _ h => List.mem_cons_of_mem _ (List.mem_append_left _ (List.mem_append_left _ (List.mem_append_right _ h)))
  have iX4 : ∀ w ∈ wsX40, w ∈ wsX2_renew := fun _ h => List.mem_cons_of_mem _ (List.mem_append_left _ (List.mem_append_right _ h))
  obtain ⟨hn, hz, hR⟩ := id hru
  refine g_aload_n C dX2_renew_0 rfl 1 rfl 0 rfl ?_
  refine g_get C iX2 0 rfl rfl 4 (by decide) (C.1.2.2.2.2 (.fieldLink RX2 26 "StackRuns$Net" "stale" "Z") (List.mem_of_getElem? (i := 1) rfl)) rfl dX2_renew_1 4 rfl ?_
  refine g_if_ne (X := sl = true) C dX2_renew_4 19 (by decide) 7 rfl (bI_ne0 _) ?_ ?_
  · intro h4
    refine g_aload_n C dX2_renew_19 rfl 20 rfl 0 rfl ?_
    refine g_iconst (v := nI 0) C dX2_renew_20 (by decide) 21 rfl ?_
    refine go_st (show Value.int (nI 0) = .int (bI false) from rfl) ?_
    refine g_put (ws' := [ob n0 2 [.int (nI lk), .int (nI lp), .ref qo, .ref qc, .int (bI false), .int (oI s2)], aN (eY E) qo 55 Hp, aL (eY E) qc 275 Kc, ob h0 4 [.int (nI n), .int (nI m), .int (nI z), .int (nI st), .ref qh, .ref qt, .ref qp, .ref qb], aN (eY E) qh 30 Hd, aN (eY E) qt 30 To, aO (eY E) qp 30 Tp, aO (eY E) qb 30 Bl, ob k0 3 [.ref ql, .int (oI sn)], aL (eY E) ql 125 Cv]) (ty := .boolean) C iX2 tyX2_ok nmX2 0 rfl rfl 4 (by decide) (C.1.2.2.2.2 (.fieldLink RX2 26 "StackRuns$Net" "stale" "Z") (List.mem_of_getElem? (i := 1) rfl)) rfl (by decide +kernel) (narb_bI _) (fitb_bI _) (Nat.le_of_ble_eq_true rfl) dX2_renew_21 24 rfl rfl ?_
    refine g_aload_n C dX2_renew_24 rfl 25 rfl 0 rfl ?_
    refine g_aload_n C dX2_renew_25 rfl 26 rfl 1 rfl ?_
    refine g_getN C iX4 3 rfl rfl 3 (by decide) (nf_RX2_62 C.2.2.1 _) rfl dX2_renew_26 29 rfl ?_
    refine go_st (show Value.int (nI st) = .int (oI (st + 1)) from (by rw [oI_s])) ?_
    refine g_put (ws' := [ob n0 2 [.int (nI lk), .int (nI lp), .ref qo, .ref qc, .int (bI false), .int (oI (st + 1))], aN (eY E) qo 55 Hp, aL (eY E) qc 275 Kc, ob h0 4 [.int (nI n), .int (nI m), .int (nI z), .int (nI st), .ref qh, .ref qt, .ref qp, .ref qb], aN (eY E) qh 30 Hd, aN (eY E) qt 30 To, aO (eY E) qp 30 Tp, aO (eY E) qb 30 Bl, ob k0 3 [.ref ql, .int (oI sn)], aL (eY E) ql 125 Cv]) (ty := .int) C iX2 tyX2_ok nmX2 0 rfl rfl 5 (by decide) (C.1.2.2.2.2 (.fieldLink RX2 30 "StackRuns$Net" "seen" "I") (List.mem_of_getElem? (i := 2) rfl)) rfl (by decide +kernel) rfl rfl (Nat.le_of_ble_eq_true rfl) dX2_renew_29 32 rfl rfl ?_
    refine g_aload_n C dX2_renew_32 rfl 33 rfl 0 rfl ?_
    refine g_aload_n C dX2_renew_33 rfl 34 rfl 2 rfl ?_
    refine g_cVv (ws2 := [ob n0 2 [.int (nI lk), .int (nI lp), .ref qo, .ref qc, .int (bI false), .int (oI (st + 1))], aN (eY E) qo 55 Hp, aL (eY E) qc 275 (sfF Hp Cv), ob h0 4 [.int (nI n), .int (nI m), .int (nI z), .int (nI st), .ref qh, .ref qt, .ref qp, .ref qb], aN (eY E) qh 30 Hd, aN (eY E) qt 30 To, aO (eY E) qp 30 Tp, aO (eY E) qb 30 Bl, ob k0 3 [.ref ql, .int (oI sn)], aL (eY E) ql 125 Cv]) (As := [.ref k0]) (st := []) (wsc := [ob n0 2 [.int (nI lk), .int (nI lp), .ref qo, .ref qc, .int (bI false), .int (oI (st + 1))], aN (eY E) qo 55 Hp, aL (eY E) qc 275 Kc, ob k0 3 [.ref ql, .int (oI sn)], aL (eY E) ql 125 Cv]) (wr := [ob h0 4 [.int (nI n), .int (nI m), .int (nI z), .int (nI st), .ref qh, .ref qt, .ref qp, .ref qb], aN (eY E) qh 30 Hd, aN (eY E) qt 30 To, aO (eY E) qp 30 Tp, aO (eY E) qb 30 Bl]) C (c_X2_startFrom (eL E) (eD E) (eY E) n0 lk lp qo qc false (st + 1) Hp Kc k0 ql sn Cv (by assumption)) 1 gX2_renew_X2_startFrom rfl (by decide +kernel) (by decide) ⟨Nat.zero_le _, Nat.zero_le _⟩ rfl 0 rfl rfl rfl (Nat.le_of_ble_eq_true rfl) [0, 1, 2, 8, 9] [3, 4, 5, 6, 7] [5, 6, 7, 0, 1, 2, 3, 4, 8, 9] rfl rfl (by decide) (by decide) rfl (by decide) dX2_renew_34 37 rfl ?_
    refine g_iconst (v := nI 1) C dX2_renew_37 (by decide) 38 rfl ?_
    refine g_istore_n (lv' := [(3, .int (nI 1)), (0, .ref n0), (1, .ref h0), (2, .ref k0)]) C dX2_renew_38 rfl 39 rfl (by decide) rfl ?_
    refine g_iconst (v := nI 0) C dX2_renew_39 (by decide) 40 rfl ?_
    refine g_istore (lv' := [(4, .int (nI 0)), (3, .int (nI 1)), (0, .ref n0), (1, .ref h0), (2, .ref k0)]) C dX2_renew_40 42 rfl (by decide) rfl ?_
    have L42 : ∀ t, t ≤ 276 → Go E 0 0 42 [(4, .int (nI t)), (3, .int (bI (niB z Hp Hd To Tp Bl Cv t))), (0, .ref n0), (1, .ref h0), (2, .ref k0)] [] [ob n0 2 [.int (nI lk), .int (nI lp), .ref qo, .ref qc, .int (bI false), .int (oI (st + 1))], aN (eY E) qo 55 Hp, aL (eY E) qc 275 (niC z Hp Hd To Tp Bl Cv t), ob h0 4 [.int (nI n), .int (nI m), .int (nI z), .int (nI st), .ref qh, .ref qt, .ref qp, .ref qb], aN (eY E) qh 30 Hd, aN (eY E) qt 30 To, aO (eY E) qp 30 Tp, aO (eY E) qb 30 Bl, ob k0 3 [.ref ql, .int (oI sn)], aL (eY E) ql 125 Cv] := by
      refine go_for 276 (fun t => Go E 0 0 42 [(4, .int (nI t)), (3, .int (bI (niB z Hp Hd To Tp Bl Cv t))), (0, .ref n0), (1, .ref h0), (2, .ref k0)] [] [ob n0 2 [.int (nI lk), .int (nI lp), .ref qo, .ref qc, .int (bI false), .int (oI (st + 1))], aN (eY E) qo 55 Hp, aL (eY E) qc 275 (niC z Hp Hd To Tp Bl Cv t), ob h0 4 [.int (nI n), .int (nI m), .int (nI z), .int (nI st), .ref qh, .ref qt, .ref qp, .ref qb], aN (eY E) qh 30 Hd, aN (eY E) qt 30 To, aO (eY E) qp 30 Tp, aO (eY E) qb 30 Bl, ob k0 3 [.ref ql, .int (oI sn)], aL (eY E) ql 125 Cv]) (fun t hi_t ih_t => ?_)
      have hX := niC_ok (z := z) (Hp := Hp) (Hd := Hd) (To := To) (Tp := Tp) (Bl := Bl) hC t
      refine g_iload_n C dX2_renew_42 rfl 43 rfl 1 rfl ?_
      refine g_if_eq (X := niB z Hp Hd To Tp Bl Cv t = false) C dX2_renew_43 102 (by decide) 46 rfl (bI_eq0 _) ?_ ?_
      · intro h43
        have e_1 : (if sl = false ∧ s2 = st + 1 then Kc else niC z Hp Hd To Tp Bl Cv 276) = (niC z Hp Hd To Tp Bl Cv t) := by first | with_reducible rfl | (first | (rw [if_neg (by simp [*]), niC_stop (t := t) hi_t h43]; done) | (rw [if_neg (by simp [*]), show t = 276 from by omega]))
        refine go_eq rfl (st' := []) (ws' := [ob n0 2 [.int (nI lk), .int (nI lp), .ref qo, .ref qc, .int (bI false), .int (oI (st + 1))], aN (eY E) qo 55 Hp, aL (eY E) qc 275 (if sl = false ∧ s2 = st + 1 then Kc else niC z Hp Hd To Tp Bl Cv 276), ob h0 4 [.int (nI n), .int (nI m), .int (nI z), .int (nI st), .ref qh, .ref qt, .ref qp, .ref qb], aN (eY E) qh 30 Hd, aN (eY E) qt 30 To, aO (eY E) qp 30 Tp, aO (eY E) qb 30 Bl, ob k0 3 [.ref ql, .int (oI sn)], aL (eY E) ql 125 Cv]) (by first | with_reducible rfl | (simp only [e_1, oI_s, oI_0, bI_1, bI_0, and_self, reduceIte]; done)) (by first | with_reducible rfl | (simp only [e_1, oI_s, oI_0, bI_1, bI_0, and_self, reduceIte]; done)) ?_
        exact hret _ _ dX2_renew_102
      · intro h43
        have h43 : niB z Hp Hd To Tp Bl Cv t = true := by simpa using h43
        refine g_iload C dX2_renew_46 48 rfl 0 rfl ?_
        refine g_aload_n C dX2_renew_48 rfl 49 rfl 2 rfl ?_
        refine g_get C iX2 0 rfl rfl 3 (by decide) (C.1.2.2.2.2 (.fieldLink RX2 22 "StackRuns$Net" "cost" "[J") (List.mem_of_getElem? (i := 3) rfl)) rfl dX2_renew_49 52 rfl ?_
        refine g_alenL C 2 rfl dX2_renew_52 53 rfl ?_
        refine g_icmp_gt (X := 275 < t) C dX2_renew_53 102 (by decide) 56 rfl (nI_ltI (by omega) (by omega)) ?_ ?_
        · intro h53
          have e_2 : (if sl = false ∧ s2 = st + 1 then Kc else niC z Hp Hd To Tp Bl Cv 276) = (niC z Hp Hd To Tp Bl Cv t) := by first | with_reducible rfl | (first | (rw [if_neg (by simp [*]), niC_stop (t := t) hi_t h43]; done) | (rw [if_neg (by simp [*]), show t = 276 from by omega]))
          refine go_eq rfl (st' := []) (ws' := [ob n0 2 [.int (nI lk), .int (nI lp), .ref qo, .ref qc, .int (bI false), .int (oI (st + 1))], aN (eY E) qo 55 Hp, aL (eY E) qc 275 (if sl = false ∧ s2 = st + 1 then Kc else niC z Hp Hd To Tp Bl Cv 276), ob h0 4 [.int (nI n), .int (nI m), .int (nI z), .int (nI st), .ref qh, .ref qt, .ref qp, .ref qb], aN (eY E) qh 30 Hd, aN (eY E) qt 30 To, aO (eY E) qp 30 Tp, aO (eY E) qb 30 Bl, ob k0 3 [.ref ql, .int (oI sn)], aL (eY E) ql 125 Cv]) (by first | with_reducible rfl | (simp only [e_2, oI_s, oI_0, bI_1, bI_0, and_self, reduceIte]; done)) (by first | with_reducible rfl | (simp only [e_2, oI_s, oI_0, bI_1, bI_0, and_self, reduceIte]; done)) ?_
          exact hret _ _ dX2_renew_102
        · intro h53
          refine g_iconst (v := nI 0) C dX2_renew_56 (by decide) 57 rfl ?_
          refine g_istore_n (lv' := [(3, .int (nI 0)), (4, .int (nI t)), (0, .ref n0), (1, .ref h0), (2, .ref k0)]) C dX2_renew_57 rfl 58 rfl (by decide) rfl ?_
          refine g_iconst (v := nI 0) C dX2_renew_58 (by decide) 59 rfl ?_
          refine g_istore (lv' := [(5, .int (nI 0)), (3, .int (nI 0)), (4, .int (nI t)), (0, .ref n0), (1, .ref h0), (2, .ref k0)]) C dX2_renew_59 61 rfl (by decide) rfl ?_
          have L61 : ∀ r, r ≤ z → Go E 0 0 61 [(5, .int (nI r)), (3, .int (bI (ndB Hp Hd To Tp Bl (niC z Hp Hd To Tp Bl Cv t) r))), (4, .int (nI t)), (0, .ref n0), (1, .ref h0), (2, .ref k0)] [] [ob n0 2 [.int (nI lk), .int (nI lp), .ref qo, .ref qc, .int (bI false), .int (oI (st + 1))], aN (eY E) qo 55 Hp, aL (eY E) qc 275 (ndC Hp Hd To Tp Bl (niC z Hp Hd To Tp Bl Cv t) r), ob h0 4 [.int (nI n), .int (nI m), .int (nI z), .int (nI st), .ref qh, .ref qt, .ref qp, .ref qb], aN (eY E) qh 30 Hd, aN (eY E) qt 30 To, aO (eY E) qp 30 Tp, aO (eY E) qb 30 Bl, ob k0 3 [.ref ql, .int (oI sn)], aL (eY E) ql 125 Cv] := by
            refine go_for z (fun r => Go E 0 0 61 [(5, .int (nI r)), (3, .int (bI (ndB Hp Hd To Tp Bl (niC z Hp Hd To Tp Bl Cv t) r))), (4, .int (nI t)), (0, .ref n0), (1, .ref h0), (2, .ref k0)] [] [ob n0 2 [.int (nI lk), .int (nI lp), .ref qo, .ref qc, .int (bI false), .int (oI (st + 1))], aN (eY E) qo 55 Hp, aL (eY E) qc 275 (ndC Hp Hd To Tp Bl (niC z Hp Hd To Tp Bl Cv t) r), ob h0 4 [.int (nI n), .int (nI m), .int (nI z), .int (nI st), .ref qh, .ref qt, .ref qp, .ref qb], aN (eY E) qh 30 Hd, aN (eY E) qt 30 To, aO (eY E) qp 30 Tp, aO (eY E) qb 30 Bl, ob k0 3 [.ref ql, .int (oI sn)], aL (eY E) ql 125 Cv]) (fun r hi_r ih_r => ?_)
            have hY := ndC_ok (Hp := Hp) (Hd := Hd) (To := To) (Tp := Tp) (Bl := Bl) hX r
            refine g_iload C dX2_renew_61 63 rfl 0 rfl ?_
            refine g_aload_n C dX2_renew_63 rfl 64 rfl 4 rfl ?_
            refine g_getN C iX4 3 rfl rfl 2 (by decide) (nf_RX2_71 C.2.2.1 _) rfl dX2_renew_64 67 rfl ?_
            refine g_icmp_ge (X := z ≤ r) C dX2_renew_67 96 (by decide) 70 rfl (nI_leI (by omega) (by omega)) ?_ ?_
            · intro h67
              have x_r : r = z := by omega
              try rw [x_r]
              refine g_iinc (lv' := [(4, .int (nI (t + 1))), (5, .int (nI z)), (3, .int (bI (ndB Hp Hd To Tp Bl (niC z Hp Hd To Tp Bl Cv t) z))), (0, .ref n0), (1, .ref h0), (2, .ref k0)]) C dX2_renew_96 99 rfl 2 rfl (by decide) rfl ?_
              refine g_goto C dX2_renew_99 42 (by decide) ?_
              refine go_lv (lv' := [(4, .int (nI (t + 1))), (3, .int (bI (ndB Hp Hd To Tp Bl (niC z Hp Hd To Tp Bl Cv t) z))), (0, .ref n0), (1, .ref h0), (2, .ref k0)]) [0, 2, 3, 4, 5] rfl ?_
              have e_3 : (niB z Hp Hd To Tp Bl Cv (t + 1)) = (ndB Hp Hd To Tp Bl (niC z Hp Hd To Tp Bl Cv t) z) := by first | with_reducible rfl | (simp [niC, niB, *])
              have e_4 : (niC z Hp Hd To Tp Bl Cv (t + 1)) = (ndC Hp Hd To Tp Bl (niC z Hp Hd To Tp Bl Cv t) z) := by first | with_reducible rfl | (simp [niC, niB, *])
              refine go_eq (lv' := [(4, .int (nI (t + 1))), (3, .int (bI (niB z Hp Hd To Tp Bl Cv (t + 1)))), (0, .ref n0), (1, .ref h0), (2, .ref k0)]) (ws' := [ob n0 2 [.int (nI lk), .int (nI lp), .ref qo, .ref qc, .int (bI false), .int (oI (st + 1))], aN (eY E) qo 55 Hp, aL (eY E) qc 275 (niC z Hp Hd To Tp Bl Cv (t + 1)), ob h0 4 [.int (nI n), .int (nI m), .int (nI z), .int (nI st), .ref qh, .ref qt, .ref qp, .ref qb], aN (eY E) qh 30 Hd, aN (eY E) qt 30 To, aO (eY E) qp 30 Tp, aO (eY E) qb 30 Bl, ob k0 3 [.ref ql, .int (oI sn)], aL (eY E) ql 125 Cv]) (by first | with_reducible rfl | (simp only [e_3, oI_s, oI_0, bI_1, bI_0, and_self, reduceIte]; done)) rfl (by first | with_reducible rfl | (simp only [e_4, oI_s, oI_0, bI_1, bI_0, and_self, reduceIte]; done)) ?_
              exact ih_t (by omega)
            · intro h67
              refine g_aload_n C dX2_renew_70 rfl 71 rfl 3 rfl ?_
              refine g_aload_n C dX2_renew_71 rfl 72 rfl 4 rfl ?_
              refine g_iload C dX2_renew_72 74 rfl 0 rfl ?_
              refine g_cVi (ws2 := [ob n0 2 [.int (nI lk), .int (nI lp), .ref qo, .ref qc, .int (bI false), .int (oI (st + 1))], aN (eY E) qo 55 Hp, aL (eY E) qc 275 (nyC Hp Hd To Tp Bl (ndC Hp Hd To Tp Bl (niC z Hp Hd To Tp Bl Cv t) r) r), ob h0 4 [.int (nI n), .int (nI m), .int (nI z), .int (nI st), .ref qh, .ref qt, .ref qp, .ref qb], aN (eY E) qh 30 Hd, aN (eY E) qt 30 To, aO (eY E) qp 30 Tp, aO (eY E) qb 30 Bl, ob k0 3 [.ref ql, .int (oI sn)], aL (eY E) ql 125 Cv]) (As := [.ref h0, .int (nI r)]) (st := []) (wsc := [ob n0 2 [.int (nI lk), .int (nI lp), .ref qo, .ref qc, .int (bI false), .int (oI (st + 1))], aN (eY E) qo 55 Hp, aL (eY E) qc 275 (ndC Hp Hd To Tp Bl (niC z Hp Hd To Tp Bl Cv t) r), ob h0 4 [.int (nI n), .int (nI m), .int (nI z), .int (nI st), .ref qh, .ref qt, .ref qp, .ref qb], aN (eY E) qh 30 Hd, aN (eY E) qt 30 To, aO (eY E) qp 30 Tp, aO (eY E) qb 30 Bl]) (wr := [ob k0 3 [.ref ql, .int (oI sn)], aL (eY E) ql 125 Cv]) C (c_X2_lowerBy (eL E) (eD E) (eY E) n0 lk lp qo qc false (st + 1) Hp (ndC Hp Hd To Tp Bl (niC z Hp Hd To Tp Bl Cv t) r) h0 n m z st qh qt qp qb Hd To Tp Bl r (by assumption) (by first | assumption | exact nrC_ok (by assumption) _ _ _ _ _ | exact nbC_ok (by assumption) _ _ _ _ | exact ndC_ok (by assumption) _ | exact niC_ok (by assumption) _) (by assumption) (by omega)) 2 gX2_renew_X2_lowerBy rfl (by decide +kernel) (by decide) ⟨Nat.zero_le _, Nat.zero_le _⟩ rfl 0 rfl rfl rfl (Nat.le_of_ble_eq_true rfl) [0, 1, 2, 3, 4, 5, 6, 7] [8, 9] [2, 3, 4, 5, 6, 7, 8, 9, 0, 1] rfl rfl (by decide) (by decide) rfl (by decide) dX2_renew_74 77 rfl ?_
              refine g_if_ne (X := nyB Hp Hd To Tp Bl (ndC Hp Hd To Tp Bl (niC z Hp Hd To Tp Bl Cv t) r) r = true) C dX2_renew_77 84 (by decide) 80 rfl (bI_ne0 _) ?_ ?_
              · intro h77
                refine g_iconst (v := nI 1) C dX2_renew_84 (by decide) 85 rfl ?_
                refine g_goto C dX2_renew_85 89 (by decide) ?_
                refine g_istore_n (lv' := [(3, .int (nI 1)), (5, .int (nI r)), (4, .int (nI t)), (0, .ref n0), (1, .ref h0), (2, .ref k0)]) C dX2_renew_89 rfl 90 rfl (by decide) rfl ?_
                refine g_iinc (lv' := [(5, .int (nI (r + 1))), (3, .int (nI 1)), (4, .int (nI t)), (0, .ref n0), (1, .ref h0), (2, .ref k0)]) C dX2_renew_90 93 rfl 1 rfl (by decide) rfl ?_
                refine g_goto C dX2_renew_93 61 (by decide) ?_
                have e_5 : (ndB Hp Hd To Tp Bl (niC z Hp Hd To Tp Bl Cv t) (r + 1)) = true := by first | with_reducible rfl | (simp [ndC, ndB, *])
                have e_6 : (ndC Hp Hd To Tp Bl (niC z Hp Hd To Tp Bl Cv t) (r + 1)) = (nyC Hp Hd To Tp Bl (ndC Hp Hd To Tp Bl (niC z Hp Hd To Tp Bl Cv t) r) r) := by first | with_reducible rfl | (simp [ndC, ndB, *])
                refine go_eq (lv' := [(5, .int (nI (r + 1))), (3, .int (bI (ndB Hp Hd To Tp Bl (niC z Hp Hd To Tp Bl Cv t) (r + 1)))), (4, .int (nI t)), (0, .ref n0), (1, .ref h0), (2, .ref k0)]) (ws' := [ob n0 2 [.int (nI lk), .int (nI lp), .ref qo, .ref qc, .int (bI false), .int (oI (st + 1))], aN (eY E) qo 55 Hp, aL (eY E) qc 275 (ndC Hp Hd To Tp Bl (niC z Hp Hd To Tp Bl Cv t) (r + 1)), ob h0 4 [.int (nI n), .int (nI m), .int (nI z), .int (nI st), .ref qh, .ref qt, .ref qp, .ref qb], aN (eY E) qh 30 Hd, aN (eY E) qt 30 To, aO (eY E) qp 30 Tp, aO (eY E) qb 30 Bl, ob k0 3 [.ref ql, .int (oI sn)], aL (eY E) ql 125 Cv]) (by first | with_reducible rfl | (simp only [e_5, oI_s, oI_0, bI_1, bI_0, and_self, reduceIte]; done)) rfl (by first | with_reducible rfl | (simp only [e_6, oI_s, oI_0, bI_1, bI_0, and_self, reduceIte]; done)) ?_
                exact ih_r (by omega)
              · intro h77
                have h77 : nyB Hp Hd To Tp Bl (ndC Hp Hd To Tp Bl (niC z Hp Hd To Tp Bl Cv t) r) r = false := by simpa using h77
                refine g_iload_n C dX2_renew_80 rfl 81 rfl 1 rfl ?_
                refine g_if_eq (X := ndB Hp Hd To Tp Bl (niC z Hp Hd To Tp Bl Cv t) r = false) C dX2_renew_81 88 (by decide) 84 rfl (bI_eq0 _) ?_ ?_
                · intro h81
                  refine g_iconst (v := nI 0) C dX2_renew_88 (by decide) 89 rfl ?_
                  refine g_istore_n (lv' := [(3, .int (nI 0)), (5, .int (nI r)), (4, .int (nI t)), (0, .ref n0), (1, .ref h0), (2, .ref k0)]) C dX2_renew_89 rfl 90 rfl (by decide) rfl ?_
                  refine g_iinc (lv' := [(5, .int (nI (r + 1))), (3, .int (nI 0)), (4, .int (nI t)), (0, .ref n0), (1, .ref h0), (2, .ref k0)]) C dX2_renew_90 93 rfl 1 rfl (by decide) rfl ?_
                  refine g_goto C dX2_renew_93 61 (by decide) ?_
                  have e_7 : (ndB Hp Hd To Tp Bl (niC z Hp Hd To Tp Bl Cv t) (r + 1)) = false := by first | with_reducible rfl | (simp [ndC, ndB, *])
                  have e_8 : (ndC Hp Hd To Tp Bl (niC z Hp Hd To Tp Bl Cv t) (r + 1)) = (nyC Hp Hd To Tp Bl (ndC Hp Hd To Tp Bl (niC z Hp Hd To Tp Bl Cv t) r) r) := by first | with_reducible rfl | (simp [ndC, ndB, *])
                  refine go_eq (lv' := [(5, .int (nI (r + 1))), (3, .int (bI (ndB Hp Hd To Tp Bl (niC z Hp Hd To Tp Bl Cv t) (r + 1)))), (4, .int (nI t)), (0, .ref n0), (1, .ref h0), (2, .ref k0)]) (ws' := [ob n0 2 [.int (nI lk), .int (nI lp), .ref qo, .ref qc, .int (bI false), .int (oI (st + 1))], aN (eY E) qo 55 Hp, aL (eY E) qc 275 (ndC Hp Hd To Tp Bl (niC z Hp Hd To Tp Bl Cv t) (r + 1)), ob h0 4 [.int (nI n), .int (nI m), .int (nI z), .int (nI st), .ref qh, .ref qt, .ref qp, .ref qb], aN (eY E) qh 30 Hd, aN (eY E) qt 30 To, aO (eY E) qp 30 Tp, aO (eY E) qb 30 Bl, ob k0 3 [.ref ql, .int (oI sn)], aL (eY E) ql 125 Cv]) (by first | with_reducible rfl | (simp only [e_7, oI_s, oI_0, bI_1, bI_0, and_self, reduceIte]; done)) rfl (by first | with_reducible rfl | (simp only [e_8, oI_s, oI_0, bI_1, bI_0, and_self, reduceIte]; done)) ?_
                  exact ih_r (by omega)
                · intro h81
                  have h81 : ndB Hp Hd To Tp Bl (niC z Hp Hd To Tp Bl Cv t) r = true := by simpa using h81
                  refine g_iconst (v := nI 1) C dX2_renew_84 (by decide) 85 rfl ?_
                  refine g_goto C dX2_renew_85 89 (by decide) ?_
                  refine g_istore_n (lv' := [(3, .int (nI 1)), (5, .int (nI r)), (4, .int (nI t)), (0, .ref n0), (1, .ref h0), (2, .ref k0)]) C dX2_renew_89 rfl 90 rfl (by decide) rfl ?_
                  refine g_iinc (lv' := [(5, .int (nI (r + 1))), (3, .int (nI 1)), (4, .int (nI t)), (0, .ref n0), (1, .ref h0), (2, .ref k0)]) C dX2_renew_90 93 rfl 1 rfl (by decide) rfl ?_
                  refine g_goto C dX2_renew_93 61 (by decide) ?_
                  have e_9 : (ndB Hp Hd To Tp Bl (niC z Hp Hd To Tp Bl Cv t) (r + 1)) = true := by first | with_reducible rfl | (simp [ndC, ndB, *])
                  have e_10 : (ndC Hp Hd To Tp Bl (niC z Hp Hd To Tp Bl Cv t) (r + 1)) = (nyC Hp Hd To Tp Bl (ndC Hp Hd To Tp Bl (niC z Hp Hd To Tp Bl Cv t) r) r) := by first | with_reducible rfl | (simp [ndC, ndB, *])
                  refine go_eq (lv' := [(5, .int (nI (r + 1))), (3, .int (bI (ndB Hp Hd To Tp Bl (niC z Hp Hd To Tp Bl Cv t) (r + 1)))), (4, .int (nI t)), (0, .ref n0), (1, .ref h0), (2, .ref k0)]) (ws' := [ob n0 2 [.int (nI lk), .int (nI lp), .ref qo, .ref qc, .int (bI false), .int (oI (st + 1))], aN (eY E) qo 55 Hp, aL (eY E) qc 275 (ndC Hp Hd To Tp Bl (niC z Hp Hd To Tp Bl Cv t) (r + 1)), ob h0 4 [.int (nI n), .int (nI m), .int (nI z), .int (nI st), .ref qh, .ref qt, .ref qp, .ref qb], aN (eY E) qh 30 Hd, aN (eY E) qt 30 To, aO (eY E) qp 30 Tp, aO (eY E) qb 30 Bl, ob k0 3 [.ref ql, .int (oI sn)], aL (eY E) ql 125 Cv]) (by first | with_reducible rfl | (simp only [e_9, oI_s, oI_0, bI_1, bI_0, and_self, reduceIte]; done)) rfl (by first | with_reducible rfl | (simp only [e_10, oI_s, oI_0, bI_1, bI_0, and_self, reduceIte]; done)) ?_
                  exact ih_r (by omega)
          have e_11 : (ndB Hp Hd To Tp Bl (niC z Hp Hd To Tp Bl Cv t) 0) = false := by first | with_reducible rfl | (rfl)
          have e_12 : (ndC Hp Hd To Tp Bl (niC z Hp Hd To Tp Bl Cv t) 0) = (niC z Hp Hd To Tp Bl Cv t) := by first | with_reducible rfl | (rfl)
          refine go_eq (lv' := [(5, .int (nI 0)), (3, .int (bI (ndB Hp Hd To Tp Bl (niC z Hp Hd To Tp Bl Cv t) 0))), (4, .int (nI t)), (0, .ref n0), (1, .ref h0), (2, .ref k0)]) (ws' := [ob n0 2 [.int (nI lk), .int (nI lp), .ref qo, .ref qc, .int (bI false), .int (oI (st + 1))], aN (eY E) qo 55 Hp, aL (eY E) qc 275 (ndC Hp Hd To Tp Bl (niC z Hp Hd To Tp Bl Cv t) 0), ob h0 4 [.int (nI n), .int (nI m), .int (nI z), .int (nI st), .ref qh, .ref qt, .ref qp, .ref qb], aN (eY E) qh 30 Hd, aN (eY E) qt 30 To, aO (eY E) qp 30 Tp, aO (eY E) qb 30 Bl, ob k0 3 [.ref ql, .int (oI sn)], aL (eY E) ql 125 Cv]) (by first | with_reducible rfl | (simp only [e_11, oI_s, oI_0, bI_1, bI_0, and_self, reduceIte]; done)) rfl (by first | with_reducible rfl | (simp only [e_12, oI_s, oI_0, bI_1, bI_0, and_self, reduceIte]; done)) ?_
          exact L61 0 (by omega)
    have e_13 : (niB z Hp Hd To Tp Bl Cv 0) = true := by first | with_reducible rfl | (rfl)
    have e_14 : (niC z Hp Hd To Tp Bl Cv 0) = (sfF Hp Cv) := by first | with_reducible rfl | (rfl)
    refine go_eq (lv' := [(4, .int (nI 0)), (3, .int (bI (niB z Hp Hd To Tp Bl Cv 0))), (0, .ref n0), (1, .ref h0), (2, .ref k0)]) (ws' := [ob n0 2 [.int (nI lk), .int (nI lp), .ref qo, .ref qc, .int (bI false), .int (oI (st + 1))], aN (eY E) qo 55 Hp, aL (eY E) qc 275 (niC z Hp Hd To Tp Bl Cv 0), ob h0 4 [.int (nI n), .int (nI m), .int (nI z), .int (nI st), .ref qh, .ref qt, .ref qp, .ref qb], aN (eY E) qh 30 Hd, aN (eY E) qt 30 To, aO (eY E) qp 30 Tp, aO (eY E) qb 30 Bl, ob k0 3 [.ref ql, .int (oI sn)], aL (eY E) ql 125 Cv]) (by first | with_reducible rfl | (simp only [e_13, oI_s, oI_0, bI_1, bI_0, and_self, reduceIte]; done)) rfl (by first | with_reducible rfl | (simp only [e_14, oI_s, oI_0, bI_1, bI_0, and_self, reduceIte]; done)) ?_
    exact L42 0 (by omega)
  · intro h4
    have h4 : sl = false := by simpa using h4
    refine g_aload_n C dX2_renew_7 rfl 8 rfl 0 rfl ?_
    refine g_get C iX2 0 rfl rfl 5 (by decide) (C.1.2.2.2.2 (.fieldLink RX2 30 "StackRuns$Net" "seen" "I") (List.mem_of_getElem? (i := 2) rfl)) rfl dX2_renew_8 11 rfl ?_
    refine g_aload_n C dX2_renew_11 rfl 12 rfl 1 rfl ?_
    refine g_getN C iX4 3 rfl rfl 3 (by decide) (nf_RX2_62 C.2.2.1 _) rfl dX2_renew_12 15 rfl ?_
    refine g_icmp_ne (X := ¬ s2 = st + 1) C dX2_renew_15 19 (by decide) 18 rfl (not_congr (oI_nI (by omega) (by omega))) ?_ ?_
    · intro h15
      refine g_aload_n C dX2_renew_19 rfl 20 rfl 0 rfl ?_
      refine g_iconst (v := nI 0) C dX2_renew_20 (by decide) 21 rfl ?_
      refine go_st (show Value.int (nI 0) = .int (bI false) from rfl) ?_
      refine g_put (ws' := [ob n0 2 [.int (nI lk), .int (nI lp), .ref qo, .ref qc, .int (bI false), .int (oI s2)], aN (eY E) qo 55 Hp, aL (eY E) qc 275 Kc, ob h0 4 [.int (nI n), .int (nI m), .int (nI z), .int (nI st), .ref qh, .ref qt, .ref qp, .ref qb], aN (eY E) qh 30 Hd, aN (eY E) qt 30 To, aO (eY E) qp 30 Tp, aO (eY E) qb 30 Bl, ob k0 3 [.ref ql, .int (oI sn)], aL (eY E) ql 125 Cv]) (ty := .boolean) C iX2 tyX2_ok nmX2 0 rfl rfl 4 (by decide) (C.1.2.2.2.2 (.fieldLink RX2 26 "StackRuns$Net" "stale" "Z") (List.mem_of_getElem? (i := 1) rfl)) rfl (by decide +kernel) (narb_bI _) (fitb_bI _) (Nat.le_of_ble_eq_true rfl) dX2_renew_21 24 rfl rfl ?_
      refine g_aload_n C dX2_renew_24 rfl 25 rfl 0 rfl ?_
      refine g_aload_n C dX2_renew_25 rfl 26 rfl 1 rfl ?_
      refine g_getN C iX4 3 rfl rfl 3 (by decide) (nf_RX2_62 C.2.2.1 _) rfl dX2_renew_26 29 rfl ?_
      refine go_st (show Value.int (nI st) = .int (oI (st + 1)) from (by rw [oI_s])) ?_
      refine g_put (ws' := [ob n0 2 [.int (nI lk), .int (nI lp), .ref qo, .ref qc, .int (bI false), .int (oI (st + 1))], aN (eY E) qo 55 Hp, aL (eY E) qc 275 Kc, ob h0 4 [.int (nI n), .int (nI m), .int (nI z), .int (nI st), .ref qh, .ref qt, .ref qp, .ref qb], aN (eY E) qh 30 Hd, aN (eY E) qt 30 To, aO (eY E) qp 30 Tp, aO (eY E) qb 30 Bl, ob k0 3 [.ref ql, .int (oI sn)], aL (eY E) ql 125 Cv]) (ty := .int) C iX2 tyX2_ok nmX2 0 rfl rfl 5 (by decide) (C.1.2.2.2.2 (.fieldLink RX2 30 "StackRuns$Net" "seen" "I") (List.mem_of_getElem? (i := 2) rfl)) rfl (by decide +kernel) rfl rfl (Nat.le_of_ble_eq_true rfl) dX2_renew_29 32 rfl rfl ?_
      refine g_aload_n C dX2_renew_32 rfl 33 rfl 0 rfl ?_
      refine g_aload_n C dX2_renew_33 rfl 34 rfl 2 rfl ?_
      refine g_cVv (ws2 := [ob n0 2 [.int (nI lk), .int (nI lp), .ref qo, .ref qc, .int (bI false), .int (oI (st + 1))], aN (eY E) qo 55 Hp, aL (eY E) qc 275 (sfF Hp Cv), ob h0 4 [.int (nI n), .int (nI m), .int (nI z), .int (nI st), .ref qh, .ref qt, .ref qp, .ref qb], aN (eY E) qh 30 Hd, aN (eY E) qt 30 To, aO (eY E) qp 30 Tp, aO (eY E) qb 30 Bl, ob k0 3 [.ref ql, .int (oI sn)], aL (eY E) ql 125 Cv]) (As := [.ref k0]) (st := []) (wsc := [ob n0 2 [.int (nI lk), .int (nI lp), .ref qo, .ref qc, .int (bI false), .int (oI (st + 1))], aN (eY E) qo 55 Hp, aL (eY E) qc 275 Kc, ob k0 3 [.ref ql, .int (oI sn)], aL (eY E) ql 125 Cv]) (wr := [ob h0 4 [.int (nI n), .int (nI m), .int (nI z), .int (nI st), .ref qh, .ref qt, .ref qp, .ref qb], aN (eY E) qh 30 Hd, aN (eY E) qt 30 To, aO (eY E) qp 30 Tp, aO (eY E) qb 30 Bl]) C (c_X2_startFrom (eL E) (eD E) (eY E) n0 lk lp qo qc false (st + 1) Hp Kc k0 ql sn Cv (by assumption)) 1 gX2_renew_X2_startFrom rfl (by decide +kernel) (by decide) ⟨Nat.zero_le _, Nat.zero_le _⟩ rfl 0 rfl rfl rfl (Nat.le_of_ble_eq_true rfl) [0, 1, 2, 8, 9] [3, 4, 5, 6, 7] [5, 6, 7, 0, 1, 2, 3, 4, 8, 9] rfl rfl (by decide) (by decide) rfl (by decide) dX2_renew_34 37 rfl ?_
      refine g_iconst (v := nI 1) C dX2_renew_37 (by decide) 38 rfl ?_
      refine g_istore_n (lv' := [(3, .int (nI 1)), (0, .ref n0), (1, .ref h0), (2, .ref k0)]) C dX2_renew_38 rfl 39 rfl (by decide) rfl ?_
      refine g_iconst (v := nI 0) C dX2_renew_39 (by decide) 40 rfl ?_
      refine g_istore (lv' := [(4, .int (nI 0)), (3, .int (nI 1)), (0, .ref n0), (1, .ref h0), (2, .ref k0)]) C dX2_renew_40 42 rfl (by decide) rfl ?_
      have L42 : ∀ t, t ≤ 276 → Go E 0 0 42 [(4, .int (nI t)), (3, .int (bI (niB z Hp Hd To Tp Bl Cv t))), (0, .ref n0), (1, .ref h0), (2, .ref k0)] [] [ob n0 2 [.int (nI lk), .int (nI lp), .ref qo, .ref qc, .int (bI false), .int (oI (st + 1))], aN (eY E) qo 55 Hp, aL (eY E) qc 275 (niC z Hp Hd To Tp Bl Cv t), ob h0 4 [.int (nI n), .int (nI m), .int (nI z), .int (nI st), .ref qh, .ref qt, .ref qp, .ref qb], aN (eY E) qh 30 Hd, aN (eY E) qt 30 To, aO (eY E) qp 30 Tp, aO (eY E) qb 30 Bl, ob k0 3 [.ref ql, .int (oI sn)], aL (eY E) ql 125 Cv] := by
        refine go_for 276 (fun t => Go E 0 0 42 [(4, .int (nI t)), (3, .int (bI (niB z Hp Hd To Tp Bl Cv t))), (0, .ref n0), (1, .ref h0), (2, .ref k0)] [] [ob n0 2 [.int (nI lk), .int (nI lp), .ref qo, .ref qc, .int (bI false), .int (oI (st + 1))], aN (eY E) qo 55 Hp, aL (eY E) qc 275 (niC z Hp Hd To Tp Bl Cv t), ob h0 4 [.int (nI n), .int (nI m), .int (nI z), .int (nI st), .ref qh, .ref qt, .ref qp, .ref qb], aN (eY E) qh 30 Hd, aN (eY E) qt 30 To, aO (eY E) qp 30 Tp, aO (eY E) qb 30 Bl, ob k0 3 [.ref ql, .int (oI sn)], aL (eY E) ql 125 Cv]) (fun t hi_t ih_t => ?_)
        have hX := niC_ok (z := z) (Hp := Hp) (Hd := Hd) (To := To) (Tp := Tp) (Bl := Bl) hC t
        refine g_iload_n C dX2_renew_42 rfl 43 rfl 1 rfl ?_
        refine g_if_eq (X := niB z Hp Hd To Tp Bl Cv t = false) C dX2_renew_43 102 (by decide) 46 rfl (bI_eq0 _) ?_ ?_
        · intro h43
          have e_15 : (if sl = false ∧ s2 = st + 1 then Kc else niC z Hp Hd To Tp Bl Cv 276) = (niC z Hp Hd To Tp Bl Cv t) := by first | with_reducible rfl | (first | (rw [if_neg (by simp [*]), niC_stop (t := t) hi_t h43]; done) | (rw [if_neg (by simp [*]), show t = 276 from by omega]))
          refine go_eq rfl (st' := []) (ws' := [ob n0 2 [.int (nI lk), .int (nI lp), .ref qo, .ref qc, .int (bI false), .int (oI (st + 1))], aN (eY E) qo 55 Hp, aL (eY E) qc 275 (if sl = false ∧ s2 = st + 1 then Kc else niC z Hp Hd To Tp Bl Cv 276), ob h0 4 [.int (nI n), .int (nI m), .int (nI z), .int (nI st), .ref qh, .ref qt, .ref qp, .ref qb], aN (eY E) qh 30 Hd, aN (eY E) qt 30 To, aO (eY E) qp 30 Tp, aO (eY E) qb 30 Bl, ob k0 3 [.ref ql, .int (oI sn)], aL (eY E) ql 125 Cv]) (by first | with_reducible rfl | (simp only [e_15, oI_s, oI_0, bI_1, bI_0, and_self, reduceIte]; done)) (by first | with_reducible rfl | (simp only [e_15, oI_s, oI_0, bI_1, bI_0, and_self, reduceIte]; done)) ?_
          exact hret _ _ dX2_renew_102
        · intro h43
          have h43 : niB z Hp Hd To Tp Bl Cv t = true := by simpa using h43
          refine g_iload C dX2_renew_46 48 rfl 0 rfl ?_
          refine g_aload_n C dX2_renew_48 rfl 49 rfl 2 rfl ?_
          refine g_get C iX2 0 rfl rfl 3 (by decide) (C.1.2.2.2.2 (.fieldLink RX2 22 "StackRuns$Net" "cost" "[J") (List.mem_of_getElem? (i := 3) rfl)) rfl dX2_renew_49 52 rfl ?_
          refine g_alenL C 2 rfl dX2_renew_52 53 rfl ?_
          refine g_icmp_gt (X := 275 < t) C dX2_renew_53 102 (by decide) 56 rfl (nI_ltI (by omega) (by omega)) ?_ ?_
          · intro h53
            have e_16 : (if sl = false ∧ s2 = st + 1 then Kc else niC z Hp Hd To Tp Bl Cv 276) = (niC z Hp Hd To Tp Bl Cv t) := by first | with_reducible rfl | (first | (rw [if_neg (by simp [*]), niC_stop (t := t) hi_t h43]; done) | (rw [if_neg (by simp [*]), show t = 276 from by omega]))
            refine go_eq rfl (st' := []) (ws' := [ob n0 2 [.int (nI lk), .int (nI lp), .ref qo, .ref qc, .int (bI false), .int (oI (st + 1))], aN (eY E) qo 55 Hp, aL (eY E) qc 275 (if sl = false ∧ s2 = st + 1 then Kc else niC z Hp Hd To Tp Bl Cv 276), ob h0 4 [.int (nI n), .int (nI m), .int (nI z), .int (nI st), .ref qh, .ref qt, .ref qp, .ref qb], aN (eY E) qh 30 Hd, aN (eY E) qt 30 To, aO (eY E) qp 30 Tp, aO (eY E) qb 30 Bl, ob k0 3 [.ref ql, .int (oI sn)], aL (eY E) ql 125 Cv]) (by first | with_reducible rfl | (simp only [e_16, oI_s, oI_0, bI_1, bI_0, and_self, reduceIte]; done)) (by first | with_reducible rfl | (simp only [e_16, oI_s, oI_0, bI_1, bI_0, and_self, reduceIte]; done)) ?_
            exact hret _ _ dX2_renew_102
          · intro h53
            refine g_iconst (v := nI 0) C dX2_renew_56 (by decide) 57 rfl ?_
            refine g_istore_n (lv' := [(3, .int (nI 0)), (4, .int (nI t)), (0, .ref n0), (1, .ref h0), (2, .ref k0)]) C dX2_renew_57 rfl 58 rfl (by decide) rfl ?_
            refine g_iconst (v := nI 0) C dX2_renew_58 (by decide) 59 rfl ?_
            refine g_istore (lv' := [(5, .int (nI 0)), (3, .int (nI 0)), (4, .int (nI t)), (0, .ref n0), (1, .ref h0), (2, .ref k0)]) C dX2_renew_59 61 rfl (by decide) rfl ?_
            have L61 : ∀ r, r ≤ z → Go E 0 0 61 [(5, .int (nI r)), (3, .int (bI (ndB Hp Hd To Tp Bl (niC z Hp Hd To Tp Bl Cv t) r))), (4, .int (nI t)), (0, .ref n0), (1, .ref h0), (2, .ref k0)] [] [ob n0 2 [.int (nI lk), .int (nI lp), .ref qo, .ref qc, .int (bI false), .int (oI (st + 1))], aN (eY E) qo 55 Hp, aL (eY E) qc 275 (ndC Hp Hd To Tp Bl (niC z Hp Hd To Tp Bl Cv t) r), ob h0 4 [.int (nI n), .int (nI m), .int (nI z), .int (nI st), .ref qh, .ref qt, .ref qp, .ref qb], aN (eY E) qh 30 Hd, aN (eY E) qt 30 To, aO (eY E) qp 30 Tp, aO (eY E) qb 30 Bl, ob k0 3 [.ref ql, .int (oI sn)], aL (eY E) ql 125 Cv] := by
              refine go_for z (fun r => Go E 0 0 61 [(5, .int (nI r)), (3, .int (bI (ndB Hp Hd To Tp Bl (niC z Hp Hd To Tp Bl Cv t) r))), (4, .int (nI t)), (0, .ref n0), (1, .ref h0), (2, .ref k0)] [] [ob n0 2 [.int (nI lk), .int (nI lp), .ref qo, .ref qc, .int (bI false), .int (oI (st + 1))], aN (eY E) qo 55 Hp, aL (eY E) qc 275 (ndC Hp Hd To Tp Bl (niC z Hp Hd To Tp Bl Cv t) r), ob h0 4 [.int (nI n), .int (nI m), .int (nI z), .int (nI st), .ref qh, .ref qt, .ref qp, .ref qb], aN (eY E) qh 30 Hd, aN (eY E) qt 30 To, aO (eY E) qp 30 Tp, aO (eY E) qb 30 Bl, ob k0 3 [.ref ql, .int (oI sn)], aL (eY E) ql 125 Cv]) (fun r hi_r ih_r => ?_)
              have hY := ndC_ok (Hp := Hp) (Hd := Hd) (To := To) (Tp := Tp) (Bl := Bl) hX r
              refine g_iload C dX2_renew_61 63 rfl 0 rfl ?_
              refine g_aload_n C dX2_renew_63 rfl 64 rfl 4 rfl ?_
              refine g_getN C iX4 3 rfl rfl 2 (by decide) (nf_RX2_71 C.2.2.1 _) rfl dX2_renew_64 67 rfl ?_
              refine g_icmp_ge (X := z ≤ r) C dX2_renew_67 96 (by decide) 70 rfl (nI_leI (by omega) (by omega)) ?_ ?_
              · intro h67
                have x_r : r = z := by omega
                try rw [x_r]
                refine g_iinc (lv' := [(4, .int (nI (t + 1))), (5, .int (nI z)), (3, .int (bI (ndB Hp Hd To Tp Bl (niC z Hp Hd To Tp Bl Cv t) z))), (0, .ref n0), (1, .ref h0), (2, .ref k0)]) C dX2_renew_96 99 rfl 2 rfl (by decide) rfl ?_
                refine g_goto C dX2_renew_99 42 (by decide) ?_
                refine go_lv (lv' := [(4, .int (nI (t + 1))), (3, .int (bI (ndB Hp Hd To Tp Bl (niC z Hp Hd To Tp Bl Cv t) z))), (0, .ref n0), (1, .ref h0), (2, .ref k0)]) [0, 2, 3, 4, 5] rfl ?_
                have e_17 : (niB z Hp Hd To Tp Bl Cv (t + 1)) = (ndB Hp Hd To Tp Bl (niC z Hp Hd To Tp Bl Cv t) z) := by first | with_reducible rfl | (simp [niC, niB, *])
                have e_18 : (niC z Hp Hd To Tp Bl Cv (t + 1)) = (ndC Hp Hd To Tp Bl (niC z Hp Hd To Tp Bl Cv t) z) := by first | with_reducible rfl | (simp [niC, niB, *])
                refine go_eq (lv' := [(4, .int (nI (t + 1))), (3, .int (bI (niB z Hp Hd To Tp Bl Cv (t + 1)))), (0, .ref n0), (1, .ref h0), (2, .ref k0)]) (ws' := [ob n0 2 [.int (nI lk), .int (nI lp), .ref qo, .ref qc, .int (bI false), .int (oI (st + 1))], aN (eY E) qo 55 Hp, aL (eY E) qc 275 (niC z Hp Hd To Tp Bl Cv (t + 1)), ob h0 4 [.int (nI n), .int (nI m), .int (nI z), .int (nI st), .ref qh, .ref qt, .ref qp, .ref qb], aN (eY E) qh 30 Hd, aN (eY E) qt 30 To, aO (eY E) qp 30 Tp, aO (eY E) qb 30 Bl, ob k0 3 [.ref ql, .int (oI sn)], aL (eY E) ql 125 Cv]) (by first | with_reducible rfl | (simp only [e_17, oI_s, oI_0, bI_1, bI_0, and_self, reduceIte]; done)) rfl (by first | with_reducible rfl | (simp only [e_18, oI_s, oI_0, bI_1, bI_0, and_self, reduceIte]; done)) ?_
                exact ih_t (by omega)
              · intro h67
                refine g_aload_n C dX2_renew_70 rfl 71 rfl 3 rfl ?_
                refine g_aload_n C dX2_renew_71 rfl 72 rfl 4 rfl ?_
                refine g_iload C dX2_renew_72 74 rfl 0 rfl ?_
                refine g_cVi (ws2 := [ob n0 2 [.int (nI lk), .int (nI lp), .ref qo, .ref qc, .int (bI false), .int (oI (st + 1))], aN (eY E) qo 55 Hp, aL (eY E) qc 275 (nyC Hp Hd To Tp Bl (ndC Hp Hd To Tp Bl (niC z Hp Hd To Tp Bl Cv t) r) r), ob h0 4 [.int (nI n), .int (nI m), .int (nI z), .int (nI st), .ref qh, .ref qt, .ref qp, .ref qb], aN (eY E) qh 30 Hd, aN (eY E) qt 30 To, aO (eY E) qp 30 Tp, aO (eY E) qb 30 Bl, ob k0 3 [.ref ql, .int (oI sn)], aL (eY E) ql 125 Cv]) (As := [.ref h0, .int (nI r)]) (st := []) (wsc := [ob n0 2 [.int (nI lk), .int (nI lp), .ref qo, .ref qc, .int (bI false), .int (oI (st + 1))], aN (eY E) qo 55 Hp, aL (eY E) qc 275 (ndC Hp Hd To Tp Bl (niC z Hp Hd To Tp Bl Cv t) r), ob h0 4 [.int (nI n), .int (nI m), .int (nI z), .int (nI st), .ref qh, .ref qt, .ref qp, .ref qb], aN (eY E) qh 30 Hd, aN (eY E) qt 30 To, aO (eY E) qp 30 Tp, aO (eY E) qb 30 Bl]) (wr := [ob k0 3 [.ref ql, .int (oI sn)], aL (eY E) ql 125 Cv]) C (c_X2_lowerBy (eL E) (eD E) (eY E) n0 lk lp qo qc false (st + 1) Hp (ndC Hp Hd To Tp Bl (niC z Hp Hd To Tp Bl Cv t) r) h0 n m z st qh qt qp qb Hd To Tp Bl r (by assumption) (by first | assumption | exact nrC_ok (by assumption) _ _ _ _ _ | exact nbC_ok (by assumption) _ _ _ _ | exact ndC_ok (by assumption) _ | exact niC_ok (by assumption) _) (by assumption) (by omega)) 2 gX2_renew_X2_lowerBy rfl (by decide +kernel) (by decide) ⟨Nat.zero_le _, Nat.zero_le _⟩ rfl 0 rfl rfl rfl (Nat.le_of_ble_eq_true rfl) [0, 1, 2, 3, 4, 5, 6, 7] [8, 9] [2, 3, 4, 5, 6, 7, 8, 9, 0, 1] rfl rfl (by decide) (by decide) rfl (by decide) dX2_renew_74 77 rfl ?_
                refine g_if_ne (X := nyB Hp Hd To Tp Bl (ndC Hp Hd To Tp Bl (niC z Hp Hd To Tp Bl Cv t) r) r = true) C dX2_renew_77 84 (by decide) 80 rfl (bI_ne0 _) ?_ ?_
                · intro h77
                  refine g_iconst (v := nI 1) C dX2_renew_84 (by decide) 85 rfl ?_
                  refine g_goto C dX2_renew_85 89 (by decide) ?_
                  refine g_istore_n (lv' := [(3, .int (nI 1)), (5, .int (nI r)), (4, .int (nI t)), (0, .ref n0), (1, .ref h0), (2, .ref k0)]) C dX2_renew_89 rfl 90 rfl (by decide) rfl ?_
                  refine g_iinc (lv' := [(5, .int (nI (r + 1))), (3, .int (nI 1)), (4, .int (nI t)), (0, .ref n0), (1, .ref h0), (2, .ref k0)]) C dX2_renew_90 93 rfl 1 rfl (by decide) rfl ?_
                  refine g_goto C dX2_renew_93 61 (by decide) ?_
                  have e_19 : (ndB Hp Hd To Tp Bl (niC z Hp Hd To Tp Bl Cv t) (r + 1)) = true := by first | with_reducible rfl | (simp [ndC, ndB, *])
                  have e_20 : (ndC Hp Hd To Tp Bl (niC z Hp Hd To Tp Bl Cv t) (r + 1)) = (nyC Hp Hd To Tp Bl (ndC Hp Hd To Tp Bl (niC z Hp Hd To Tp Bl Cv t) r) r) := by first | with_reducible rfl | (simp [ndC, ndB, *])
                  refine go_eq (lv' := [(5, .int (nI (r + 1))), (3, .int (bI (ndB Hp Hd To Tp Bl (niC z Hp Hd To Tp Bl Cv t) (r + 1)))), (4, .int (nI t)), (0, .ref n0), (1, .ref h0), (2, .ref k0)]) (ws' := [ob n0 2 [.int (nI lk), .int (nI lp), .ref qo, .ref qc, .int (bI false), .int (oI (st + 1))], aN (eY E) qo 55 Hp, aL (eY E) qc 275 (ndC Hp Hd To Tp Bl (niC z Hp Hd To Tp Bl Cv t) (r + 1)), ob h0 4 [.int (nI n), .int (nI m), .int (nI z), .int (nI st), .ref qh, .ref qt, .ref qp, .ref qb], aN (eY E) qh 30 Hd, aN (eY E) qt 30 To, aO (eY E) qp 30 Tp, aO (eY E) qb 30 Bl, ob k0 3 [.ref ql, .int (oI sn)], aL (eY E) ql 125 Cv]) (by first | with_reducible rfl | (simp only [e_19, oI_s, oI_0, bI_1, bI_0, and_self, reduceIte]; done)) rfl (by first | with_reducible rfl | (simp only [e_20, oI_s, oI_0, bI_1, bI_0, and_self, reduceIte]; done)) ?_
                  exact ih_r (by omega)
                · intro h77
                  have h77 : nyB Hp Hd To Tp Bl (ndC Hp Hd To Tp Bl (niC z Hp Hd To Tp Bl Cv t) r) r = false := by simpa using h77
                  refine g_iload_n C dX2_renew_80 rfl 81 rfl 1 rfl ?_
                  refine g_if_eq (X := ndB Hp Hd To Tp Bl (niC z Hp Hd To Tp Bl Cv t) r = false) C dX2_renew_81 88 (by decide) 84 rfl (bI_eq0 _) ?_ ?_
                  · intro h81
                    refine g_iconst (v := nI 0) C dX2_renew_88 (by decide) 89 rfl ?_
                    refine g_istore_n (lv' := [(3, .int (nI 0)), (5, .int (nI r)), (4, .int (nI t)), (0, .ref n0), (1, .ref h0), (2, .ref k0)]) C dX2_renew_89 rfl 90 rfl (by decide) rfl ?_
                    refine g_iinc (lv' := [(5, .int (nI (r + 1))), (3, .int (nI 0)), (4, .int (nI t)), (0, .ref n0), (1, .ref h0), (2, .ref k0)]) C dX2_renew_90 93 rfl 1 rfl (by decide) rfl ?_
                    refine g_goto C dX2_renew_93 61 (by decide) ?_
                    have e_21 : (ndB Hp Hd To Tp Bl (niC z Hp Hd To Tp Bl Cv t) (r + 1)) = false := by first | with_reducible rfl | (simp [ndC, ndB, *])
                    have e_22 : (ndC Hp Hd To Tp Bl (niC z Hp Hd To Tp Bl Cv t) (r + 1)) = (nyC Hp Hd To Tp Bl (ndC Hp Hd To Tp Bl (niC z Hp Hd To Tp Bl Cv t) r) r) := by first | with_reducible rfl | (simp [ndC, ndB, *])
                    refine go_eq (lv' := [(5, .int (nI (r + 1))), (3, .int (bI (ndB Hp Hd To Tp Bl (niC z Hp Hd To Tp Bl Cv t) (r + 1)))), (4, .int (nI t)), (0, .ref n0), (1, .ref h0), (2, .ref k0)]) (ws' := [ob n0 2 [.int (nI lk), .int (nI lp), .ref qo, .ref qc, .int (bI false), .int (oI (st + 1))], aN (eY E) qo 55 Hp, aL (eY E) qc 275 (ndC Hp Hd To Tp Bl (niC z Hp Hd To Tp Bl Cv t) (r + 1)), ob h0 4 [.int (nI n), .int (nI m), .int (nI z), .int (nI st), .ref qh, .ref qt, .ref qp, .ref qb], aN (eY E) qh 30 Hd, aN (eY E) qt 30 To, aO (eY E) qp 30 Tp, aO (eY E) qb 30 Bl, ob k0 3 [.ref ql, .int (oI sn)], aL (eY E) ql 125 Cv]) (by first | with_reducible rfl | (simp only [e_21, oI_s, oI_0, bI_1, bI_0, and_self, reduceIte]; done)) rfl (by first | with_reducible rfl | (simp only [e_22, oI_s, oI_0, bI_1, bI_0, and_self, reduceIte]; done)) ?_
                    exact ih_r (by omega)
                  · intro h81
                    have h81 : ndB Hp Hd To Tp Bl (niC z Hp Hd To Tp Bl Cv t) r = true := by simpa using h81
                    refine g_iconst (v := nI 1) C dX2_renew_84 (by decide) 85 rfl ?_
                    refine g_goto C dX2_renew_85 89 (by decide) ?_
                    refine g_istore_n (lv' := [(3, .int (nI 1)), (5, .int (nI r)), (4, .int (nI t)), (0, .ref n0), (1, .ref h0), (2, .ref k0)]) C dX2_renew_89 rfl 90 rfl (by decide) rfl ?_
                    refine g_iinc (lv' := [(5, .int (nI (r + 1))), (3, .int (nI 1)), (4, .int (nI t)), (0, .ref n0), (1, .ref h0), (2, .ref k0)]) C dX2_renew_90 93 rfl 1 rfl (by decide) rfl ?_
                    refine g_goto C dX2_renew_93 61 (by decide) ?_
                    have e_23 : (ndB Hp Hd To Tp Bl (niC z Hp Hd To Tp Bl Cv t) (r + 1)) = true := by first | with_reducible rfl | (simp [ndC, ndB, *])
                    have e_24 : (ndC Hp Hd To Tp Bl (niC z Hp Hd To Tp Bl Cv t) (r + 1)) = (nyC Hp Hd To Tp Bl (ndC Hp Hd To Tp Bl (niC z Hp Hd To Tp Bl Cv t) r) r) := by first | with_reducible rfl | (simp [ndC, ndB, *])
                    refine go_eq (lv' := [(5, .int (nI (r + 1))), (3, .int (bI (ndB Hp Hd To Tp Bl (niC z Hp Hd To Tp Bl Cv t) (r + 1)))), (4, .int (nI t)), (0, .ref n0), (1, .ref h0), (2, .ref k0)]) (ws' := [ob n0 2 [.int (nI lk), .int (nI lp), .ref qo, .ref qc, .int (bI false), .int (oI (st + 1))], aN (eY E) qo 55 Hp, aL (eY E) qc 275 (ndC Hp Hd To Tp Bl (niC z Hp Hd To Tp Bl Cv t) (r + 1)), ob h0 4 [.int (nI n), .int (nI m), .int (nI z), .int (nI st), .ref qh, .ref qt, .ref qp, .ref qb], aN (eY E) qh 30 Hd, aN (eY E) qt 30 To, aO (eY E) qp 30 Tp, aO (eY E) qb 30 Bl, ob k0 3 [.ref ql, .int (oI sn)], aL (eY E) ql 125 Cv]) (by first | with_reducible rfl | (simp only [e_23, oI_s, oI_0, bI_1, bI_0, and_self, reduceIte]; done)) rfl (by first | with_reducible rfl | (simp only [e_24, oI_s, oI_0, bI_1, bI_0, and_self, reduceIte]; done)) ?_
                    exact ih_r (by omega)
            have e_25 : (ndB Hp Hd To Tp Bl (niC z Hp Hd To Tp Bl Cv t) 0) = false := by first | with_reducible rfl | (rfl)
            have e_26 : (ndC Hp Hd To Tp Bl (niC z Hp Hd To Tp Bl Cv t) 0) = (niC z Hp Hd To Tp Bl Cv t) := by first | with_reducible rfl | (rfl)
            refine go_eq (lv' := [(5, .int (nI 0)), (3, .int (bI (ndB Hp Hd To Tp Bl (niC z Hp Hd To Tp Bl Cv t) 0))), (4, .int (nI t)), (0, .ref n0), (1, .ref h0), (2, .ref k0)]) (ws' := [ob n0 2 [.int (nI lk), .int (nI lp), .ref qo, .ref qc, .int (bI false), .int (oI (st + 1))], aN (eY E) qo 55 Hp, aL (eY E) qc 275 (ndC Hp Hd To Tp Bl (niC z Hp Hd To Tp Bl Cv t) 0), ob h0 4 [.int (nI n), .int (nI m), .int (nI z), .int (nI st), .ref qh, .ref qt, .ref qp, .ref qb], aN (eY E) qh 30 Hd, aN (eY E) qt 30 To, aO (eY E) qp 30 Tp, aO (eY E) qb 30 Bl, ob k0 3 [.ref ql, .int (oI sn)], aL (eY E) ql 125 Cv]) (by first | with_reducible rfl | (simp only [e_25, oI_s, oI_0, bI_1, bI_0, and_self, reduceIte]; done)) rfl (by first | with_reducible rfl | (simp only [e_26, oI_s, oI_0, bI_1, bI_0, and_self, reduceIte]; done)) ?_
            exact L61 0 (by omega)
      have e_27 : (niB z Hp Hd To Tp Bl Cv 0) = true := by first | with_reducible rfl | (rfl)
      have e_28 : (niC z Hp Hd To Tp Bl Cv 0) = (sfF Hp Cv) := by first | with_reducible rfl | (rfl)
      refine go_eq (lv' := [(4, .int (nI 0)), (3, .int (bI (niB z Hp Hd To Tp Bl Cv 0))), (0, .ref n0), (1, .ref h0), (2, .ref k0)]) (ws' := [ob n0 2 [.int (nI lk), .int (nI lp), .ref qo, .ref qc, .int (bI false), .int (oI (st + 1))], aN (eY E) qo 55 Hp, aL (eY E) qc 275 (niC z Hp Hd To Tp Bl Cv 0), ob h0 4 [.int (nI n), .int (nI m), .int (nI z), .int (nI st), .ref qh, .ref qt, .ref qp, .ref qb], aN (eY E) qh 30 Hd, aN (eY E) qt 30 To, aO (eY E) qp 30 Tp, aO (eY E) qb 30 Bl, ob k0 3 [.ref ql, .int (oI sn)], aL (eY E) ql 125 Cv]) (by first | with_reducible rfl | (simp only [e_27, oI_s, oI_0, bI_1, bI_0, and_self, reduceIte]; done)) rfl (by first | with_reducible rfl | (simp only [e_28, oI_s, oI_0, bI_1, bI_0, and_self, reduceIte]; done)) ?_
      exact L42 0 (by omega)
    · intro h15
      have h15 : s2 = st + 1 := Decidable.not_not.mp h15
      have e_29 : false = sl := by first | with_reducible rfl | (first | assumption | exact Eq.symm (by assumption) | (rw [if_pos ⟨by assumption, by assumption⟩]) | omega)
      have e_30 : (st + 1) = s2 := by first | with_reducible rfl | (first | assumption | exact Eq.symm (by assumption) | (rw [if_pos ⟨by assumption, by assumption⟩]) | omega)
      have e_31 : (if sl = false ∧ s2 = st + 1 then Kc else niC z Hp Hd To Tp Bl Cv 276) = Kc := by first | with_reducible rfl | (first | assumption | exact Eq.symm (by assumption) | (rw [if_pos ⟨by assumption, by assumption⟩]) | omega)
      refine go_eq rfl (st' := []) (ws' := [ob n0 2 [.int (nI lk), .int (nI lp), .ref qo, .ref qc, .int (bI false), .int (oI (st + 1))], aN (eY E) qo 55 Hp, aL (eY E) qc 275 (if sl = false ∧ s2 = st + 1 then Kc else niC z Hp Hd To Tp Bl Cv 276), ob h0 4 [.int (nI n), .int (nI m), .int (nI z), .int (nI st), .ref qh, .ref qt, .ref qp, .ref qb], aN (eY E) qh 30 Hd, aN (eY E) qt 30 To, aO (eY E) qp 30 Tp, aO (eY E) qb 30 Bl, ob k0 3 [.ref ql, .int (oI sn)], aL (eY E) ql 125 Cv]) (by first | with_reducible rfl | (simp only [e_29, e_30, e_31, oI_s, oI_0, bI_1, bI_0, and_self, reduceIte]; done)) (by first | with_reducible rfl | (simp only [e_29, e_30, e_31, oI_s, oI_0, bI_1, bI_0, and_self, reduceIte]; done)) ?_
      exact hret _ _ dX2_renew_18
