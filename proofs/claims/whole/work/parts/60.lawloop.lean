section
theorem sub6 {L t : Nat} (hL : L ≤ 3072) (ht : t ≤ 600) : nI L - nI 6 < nI (6 * t) ↔ L < 6 * t + 6 := by
  rw [Int32.lt_iff_toInt_lt, nI_toInt (show 6 * t < 2 ^ 31 by omega)]
  by_cases h : 6 ≤ L
  · have e : nI L - nI 6 = nI (L - 6) := by
      have := nI_add (L - 6) 6
      rw [show L - 6 + 6 = L from by omega] at this
      rw [← this]
      apply Int32.toBitVec_inj.mp
      simp [BitVec.add_sub_cancel]
    rw [e, nI_toInt (by omega)]; omega
  · have : (nI L - nI 6).toInt < 0 := by
      rcases (show L = 0 ∨ L = 1 ∨ L = 2 ∨ L = 3 ∨ L = 4 ∨ L = 5 by omega) with q | q | q | q | q | q <;> subst q <;> decide
    omega
set_option maxRecDepth 20000 in
theorem law_loop {E : Ev} {b L o o7 k n : Nat} {xs : Nat → Int32} (C : Cx E cL_law wsL_law RL room_1 4) (hX : LX E b L xs) (hkn : k ≤ room_1.cells ∧ n ≤ room_1.slots) (hend : ∀ lv ws, Go E k n 685 lv [] ws) : ∀ t, t ≤ L / 6 → ∀ wc wm, INV t (eY E) o o7 wc wm → Go E k n 18 (lvL b o o7 (6 * t)) [] (wc ++ wm) := by
  refine go_for (L / 6) (fun t => ∀ wc wm, INV t (eY E) o o7 wc wm → Go E k n 18 (lvL b o o7 (6 * t)) [] (wc ++ wm)) (fun t ht ih wc wm hI => ?_)
  have hL := hX.2.2.2
  refine g_iload_n C dL_law_18 rfl 19 rfl 0 rfl ?_
  refine g_aload_n C dL_law_19 rfl 20 rfl 3 rfl ?_
  refine g_slen C hX dL_law_20 21 rfl ?_
  refine g_bipush C (v := nI 6) dL_law_21 rfl 23 rfl ?_
  refine g_isub C dL_law_23 24 rfl rfl ?_
  refine g_icmp_gt C (X := L < 6 * t + 6) dL_law_24 685 (by decide) 27 rfl (sub6 hL (by omega)) (fun _ => hend _ _) (fun hi0 => ?_)
  have hi : 6 * t + 6 ≤ L := by omega
  refine g_aload_n C dL_law_27 rfl 28 rfl 3 rfl ?_
  refine g_iload_n C dL_law_28 rfl 29 rfl 0 rfl ?_
  refine g_sld C hX (show 6 * t < L by omega) dL_law_29 30 rfl ?_
  refine g_bipush C (v := nI 31) dL_law_30 rfl 32 rfl ?_
  refine g_iand C dL_law_32 33 rfl rfl ?_
  have tail : ∀ wc' wm', INV (t + 1) (eY E) o o7 wc' wm' → Go E k n 679 (lvL b o o7 (6 * t)) [] (wc' ++ wm') := by
    intro wc' wm' hI'
    refine g_iinc6 C dL_law_679 682 rfl 0 rfl (by decide) rfl ?_
    refine g_goto C dL_law_682 18 (by decide) ?_
    have := ih (by omega) wc' wm' hI'
    rw [show 6 * (t + 1) = 6 * t + 6 from by omega] at this
    exact this
  by_cases hr : rg (xs (6 * t) &&& nI 31) 0 18 = true
  · obtain ⟨j, _, hj, ej⟩ := rg_of hr
    rw [ej]
    rcases (show j = 0 ∨ j = 1 ∨ j = 2 ∨ j = 3 ∨ j = 4 ∨ j = 5 ∨ j = 6 ∨ j = 7 ∨ j = 8 ∨ j = 9 ∨ j = 10 ∨ j = 11 ∨ j = 12 ∨ j = 13 ∨ j = 14 ∨ j = 15 ∨ j = 16 ∨ j = 17 ∨ j = 18 by omega) with q | q | q | q | q | q | q | q | q | q | q | q | q | q | q | q | q | q | q <;> subst q
    · exact g_tabIn C dL_law_33 (by decide) (by decide) rfl 124 (by decide) (law_machine C hX hi hkn hI tail)
    · exact g_tabIn C dL_law_33 (by decide) (by decide) rfl 157 (by decide) (law_rule C hX hi hkn hI tail)
    · exact g_tabIn C dL_law_33 (by decide) (by decide) rfl 220 (by decide) (law_unrule C hX hi hkn hI tail)
    · exact g_tabIn C dL_law_33 (by decide) (by decide) rfl 233 (by decide) (law_stand C hX hi hkn hI tail)
    · exact g_tabIn C dL_law_33 (by decide) (by decide) rfl 256 (by decide) (law_push C hX hi hkn hI tail)
    · exact g_tabIn C dL_law_33 (by decide) (by decide) rfl 279 (by decide) (law_at C hX hi hkn hI tail)
    · exact g_tabIn C dL_law_33 (by decide) (by decide) rfl 302 (by decide) (law_go C hX hi hkn hI tail)
    · exact g_tabIn C dL_law_33 (by decide) (by decide) rfl 325 (by decide) (law_set C hX hi hkn hI tail)
    · exact g_tabIn C dL_law_33 (by decide) (by decide) rfl 338 (by decide) (law_link C hX hi hkn hI tail)
    · exact g_tabIn C dL_law_33 (by decide) (by decide) rfl 401 (by decide) (law_last C hX hi hkn hI tail)
    · exact g_tabIn C dL_law_33 (by decide) (by decide) rfl 470 (by decide) (law_unset C hX hi hkn hI tail)
    · exact g_tabIn C dL_law_33 (by decide) (by decide) rfl 483 (by decide) (law_in C hX hi hkn hI tail)
    · exact g_tabIn C dL_law_33 (by decide) (by decide) rfl 506 (by decide) (law_far C hX hi hkn hI tail)
    · exact g_tabIn C dL_law_33 (by decide) (by decide) rfl 530 (by decide) (law_step C hX hi hkn hI tail)
    · exact g_tabIn C dL_law_33 (by decide) (by decide) rfl 553 (by decide) (law_run C hX hi hkn hI tail)
    · exact g_tabIn C dL_law_33 (by decide) (by decide) rfl 586 (by decide) (law_pop C hX hi hkn hI tail)
    · exact g_tabIn C dL_law_33 (by decide) (by decide) rfl 630 (by decide) (law_endless C hX hi hkn hI tail)
    · exact g_tabIn C dL_law_33 (by decide) (by decide) rfl 643 (by decide) (law_high C hX hi hkn hI tail)
    · exact g_tabIn C dL_law_33 (by decide) (by decide) rfl 656 (by decide) (law_count C hX hi hkn hI tail)
  · exact g_tabOut C dL_law_33 (rg_out (Bool.eq_false_iff.mpr hr)) 679 (by decide) (tail wc wm (INV_t hI))
end
