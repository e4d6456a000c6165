def R_law : String := "StackRunsLaw"
def lw_P (b : Addr) (xs : List Int32) (args : Array Value) (s : State) : Prop := args = #[.ref b] ∧ s.IntsAt b xs ∧ xs.length ≤ 3072 ∧ (Jvm.Cond.and given_1 narrow_1).before args s = true
def lw_Q (_ : Array Value) (s : State) (o : Outcome) (t : State) : Prop := o = .returned (some (.int 1)) ∧ Framed s o t [] 600000 7302250
def lw_Z (below : List Frame) (a : Array Value) (s : State) : State → Prop := fun t => ∃ o, t.status = .running ∧ Ended t below o ∧ lw_Q a s o t
/-- the law's own end, with 1 on the stack, nothing written that was there before, its room as the claim has it -/
theorem lw_ret {p : Program} {l : Launch} {e : Env} {s : State} {m : MethodId} {below : List Frame} {meth : Method} {c : Code} {b : Nat} (hx : p.tables.exec = Jvm.exec) (hb : c.code = code) (hr : meth.sig.returnType = ret) (hlocks : meth.locks = false) {pc : Nat} {H : Heap} {ls : Array Slot} (hdg : decode code pc = .ok (.ireturn, 1)) : W p l e room_1 s m #[Value.ref b] below meth c H [] 600000 7302250 (lw_Z below #[Value.ref b] s) (F0 m pc ls [.int 1]) := by
  intro T hT X
  obtain ⟨fs, hret, hrun, hended, hW, hframe⟩ := X.leave (v := some (.int 1)) (hlocks := hlocks) (fun h => by rw [hr] at h; cases h)
  have hmeth' : T.vm.method? m = some meth := X.method'
  refine ⟨T.setFrames fs, ?_, .returned (some (.int 1)), hrun, hended, rfl, ⟨_, rfl⟩, hW, hframe⟩
  jvm_step X.here [X.here.top, hx, hb, hdg, hmeth', hr, ret, narrow_b1]
  (try refine ⟨rfl, ?_⟩); (try refine ⟨rfl, ?_⟩)
  first | (intro acts; rw [hret _ acts rfl rfl rfl]) | rw [hret _ _ rfl rfl rfl]
  exact Steps.refl _
/-- what holds at the law's entry: the machine, the code, the tables' words (any of lw_tbl by 'hts w (by decide +kernel)'), the script of L ints xs at the cell b, what the Statement gives of the start (any of its parts by flat_of_before) -/
def lw_At (p : Program) (s : State) (m : MethodId) (meth : Method) (c : Code) (b L : Nat) (xs : Nat → Int32) : Prop :=
  p.tables.exec = Jvm.exec ∧ c.code = code ∧ meth.sig.returnType = ret ∧ c.maxLocals = 4 ∧ s.vm.findClass R_law = some m.cls ∧ (∀ w ∈ lw_tbl, w.before #[Value.ref b] s = true) ∧ va_X b L xs s s.heap ∧ b < s.heap.size ∧ meth.locks = false ∧ (Jvm.Cond.and given_1 narrow_1).before #[Value.ref b] s = true
section
theorem nwF_in : ∀ q ∈ nwF, Cond.fieldLinkNest q.1 q.2.1 q.2.2.1 q.2.2.2.1 q.2.2.2.2.1 q.2.2.2.2.2 ∈ lw_tbl := by decide +kernel
theorem nwM_in : ∀ q ∈ nwM, Cond.methodLinkNest q.1 q.2.1 q.2.2.1 q.2.2.2 ∈ lw_tbl := by decide +kernel
theorem NW_of {s : State} {a : Array Value} (hts : ∀ w ∈ lw_tbl, w.before a s = true) : NW s := ⟨fun q hq => va_Nw.of rfl (hts _ (nwF_in q hq)), fun q hq => va_Nw.of rfl (hts _ (nwM_in q hq)), va_AO.of (hts (.arrayOver (.object RX2)) (by decide +kernel))⟩
theorem K_arr {s : State} {a : Array Value} {ty : FieldType} (h : (Cond.arrayClass ty).before a s = true) (hty : ∀ c, s.vm.findClass ("[" ++ ty.toString) = some c → va_RA s c ty) : ∃ c, ArrOfT s c ty ∧ va_RA s c ty := by
  obtain ⟨cA, kA, comp, hf, hk, hkind⟩ := Cond.arrayClass_spec h
  exact ⟨cA, fun n z => ⟨fun k h => (by cases h), kA, hk, comp, hkind⟩, hty cA hf⟩
theorem K_net {s : State} (h : va_AO RX2 s) : ∃ c, ArrOfT s c (.object RX2) ∧ va_RA s c (.object RX2) := by
  obtain ⟨comp, c, k, h1, h2, h3, h4, h5⟩ := Cond.arrayOver_spec h
  exact ⟨c, fun n z => ⟨fun k h => (by cases h), k, h3, comp, h4⟩, k, comp, h3, h4, h1, h5⟩
theorem K_of {s : State} {a : Array Value} (hts : ∀ w ∈ lw_tbl, w.before a s = true) : ∃ (D : va_G) (cy : Nat → ClassId), va_K D vwCl (tysOf cy) s := by
  obtain ⟨c0, i0, hk0⟩ := u_known (C := RX0) (T := TX0) (N := 6) (n := 6) hts inX0 (hts (.instantiable RX0 6) (by decide +kernel))
  obtain ⟨c1, i1, hk1⟩ := u_known (C := RX1) (T := TX1) (N := 1) (n := 1) hts inX1 (hts (.instantiable RX1 1) (by decide +kernel))
  obtain ⟨c2, i2, hk2⟩ := u_known (C := RX2) (T := TX2) (N := 6) (n := 6) hts inX2 (hts (.instantiable RX2 6) (by decide +kernel))
  obtain ⟨c3, i3, hk3⟩ := u_known (C := RX3) (T := TX3) (N := 2) (n := 2) hts inX3 (hts (.instantiable RX3 2) (by decide +kernel))
  obtain ⟨c4, i4, hk4⟩ := u_known (C := RX4) (T := TX4) (N := 8) (n := 8) hts inX4 (hts (.instantiable RX4 8) (by decide +kernel))
  obtain ⟨c5, i5, hk5⟩ := u_known (C := RX5) (T := TX5) (N := 3) (n := 3) hts inX5 (hts (.instantiable RX5 3) (by decide +kernel))
  obtain ⟨c6, i6, hk6⟩ := u_known (C := RX6) (T := TX6) (N := 7) (n := 7) hts inX6 (hts (.instantiable RX6 7) (by decide +kernel))
  obtain ⟨c7, i7, hk7⟩ := u_known (C := RX7) (T := TX7) (N := 25) (n := 25) hts inX7 (hts (.instantiable RX7 25) (by decide +kernel))
  obtain ⟨a0, ha0⟩ := K_arr (hts (.arrayClass .int) (by decide +kernel)) (fun c h => h)
  obtain ⟨a1, ha1⟩ := K_arr (hts (.arrayClass .long) (by decide +kernel)) (fun c h => h)
  obtain ⟨a2, ha2⟩ := K_arr (hts (.arrayClass .boolean) (by decide +kernel)) (fun c h => h)
  obtain ⟨a3, ha3⟩ := K_net (NW_of hts).2.2
  refine ⟨(fun k => [c0, c1, c2, c3, c4, c5, c6, c7].getD k c0, fun k => [i0, i1, i2, i3, i4, i5, i6, i7].getD k i0), fun k => [a0, a1, a2, a3].getD k a0, fun k q hq => ?_, fun k q hq => ?_⟩
  · match k, hq with
    | 0, hq => cases hq; exact hk0
    | 1, hq => cases hq; exact hk1
    | 2, hq => cases hq; exact hk2
    | 3, hq => cases hq; exact hk3
    | 4, hq => cases hq; exact hk4
    | 5, hq => cases hq; exact hk5
    | 6, hq => cases hq; exact hk6
    | 7, hq => cases hq; exact hk7
    | k + 8, hq => simp at hq
  · match k, hq with
    | 0, hq => cases hq; exact ha0
    | 1, hq => cases hq; exact ha1
    | 2, hq => cases hq; exact ha2
    | 3, hq => cases hq; exact ha3
    | k + 4, hq => simp at hq
set_option maxRecDepth 20000 in
theorem INV_0 (cy : Nat → ClassId) (o o7 : Nat) (ad ud : Nat → Nat) : INV 0 cy o o7 (wC cy o ad 2 2 0 0 (fun _ => 0) (fun _ => 0) (fun _ => 1) (fun _ => 1) 0 0 (fun _ => 0) 0 0 (fun _ => 0) 0 0 0 (fun _ => 0) (fun _ => 0) (fun _ => 0) (fun _ => 0) (fun _ => (0, 0, true, 0, fun _ => 0, fun _ => 0))) (wM cy o7 ud 2 2 0 0 0 0 1 (fun _ => 0) (fun _ => 0) (fun _ => 0) (fun _ => 1) (fun _ => 1) (fun _ => 0) (fun _ => 0) (fun _ => 0) (fun _ => 0) (fun _ => 0) (fun _ => false) (fun _ => 0) (fun _ => false) (fun _ => false) (fun _ => 0) (fun _ => 0) (fun _ => 0) (fun _ => 0)) := by
  have h0 : okf (fun _ => 0) := fun _ => Or.inl (Nat.zero_le _)
  refine INV_mk (Pp := fun _ => 0) (Ps := fun _ => 0) ⟨by decide, fun r => ⟨show (0 : Nat) < 5 from by decide, show (0 : Nat) < 5 from by decide, show (0 : Nat) < 5 from by decide, show (1 : Nat) ≤ 5 from by decide, show (1 : Nat) ≤ 5 from by decide⟩, fun r h => absurd (show (1 : Nat) = 0 from h) (by decide), fun r h => absurd h (Nat.not_lt_zero r)⟩ ⟨by decide, by decide, fun _ => show (0 : Nat) < 5 from by decide⟩ ⟨Nat.le_refl _, by decide, h0, fun h => absurd h (by decide), by decide, fun h => absurd h (by decide), h0⟩ ⟨by decide, fun j _ => ⟨Nat.zero_le _, h0, fun _ => show (0 : Nat) < 64 from by decide, show (0 : Nat) < 2 ^ 11 from by decide, fun h => Bool.noConfusion (show true = false from h)⟩, fun j h => absurd h (Nat.not_lt_zero j), fun k => ⟨show (0 : Nat) < 11 from by decide, show (0 : Nat) < 5 from by decide, show (0 : Nat) < 11 from by decide⟩, fun k => Nat.zero_le _⟩ h0
set_option maxRecDepth 40000 in
theorem law_top {E : Ev} {b L : Nat} {xs : Nat → Int32} (C : Cx E cL_law wsL_law RL room_1 4) (hX : LX E b L xs) (hend : ∀ lv ws, Go E 54 5715 685 lv [] ws) : Go E 0 0 0 [(0, .ref b)] [] [] := by
  refine g_new (ci := 6) (fs := [.null, .null, .null, .null, .null, .null, .int (nI 0)]) C inlX6 tyX6_ok (List.mem_of_getElem? (i := 0) rfl) (List.mem_of_getElem? (i := 1) rfl) (List.mem_of_getElem? (i := 2) rfl) rfl (fun j hj => by rcases (show j = 0 ∨ j = 1 ∨ j = 2 ∨ j = 3 ∨ j = 4 ∨ j = 5 ∨ j = 6 by omega) with rfl | rfl | rfl | rfl | rfl | rfl | rfl <;> rfl) (by decide) (by decide) dL_law_0 3 rfl (fun o => ?_)
  refine g_dup C dL_law_3 rfl 4 rfl ?_
  refine g_cI (wsc := [ob o 6 [.null, .null, .null, .null, .null, .null, .int (nI 0)]]) (wr := []) C (c_X6_init (eL E) (eD E) (eY E) o) gL_law_X6_init (List.mem_of_getElem? (i := 6) rfl) (List.mem_of_getElem? (i := 2) rfl) (List.mem_of_getElem? (i := 7) rfl) rfl rfl (by decide +kernel) (by decide) (by decide) (Nat.le_of_ble_eq_true rfl) [0] [] rfl rfl (by decide) (by decide) dL_law_4 7 rfl (fun ad => ?_)
  refine g_astore_n C dL_law_7 rfl 8 rfl (by decide) rfl ?_
  refine g_new (ci := 7) (fs := [.int (nI 0), .int (nI 0), .int (nI 0), .null, .null, .null, .null, .null, .int (nI 0), .null, .int (nI 0), .int (nI 0), .null, .null, .null, .null, .null, .null, .null, .int (nI 0), .null, .null, .null, .null, .null]) C inlX7 tyX7_ok (List.mem_of_getElem? (i := 3) rfl) (List.mem_of_getElem? (i := 4) rfl) (List.mem_of_getElem? (i := 5) rfl) rfl (fun j hj => by rcases (show j = 0 ∨ j = 1 ∨ j = 2 ∨ j = 3 ∨ j = 4 ∨ j = 5 ∨ j = 6 ∨ j = 7 ∨ j = 8 ∨ j = 9 ∨ j = 10 ∨ j = 11 ∨ j = 12 ∨ j = 13 ∨ j = 14 ∨ j = 15 ∨ j = 16 ∨ j = 17 ∨ j = 18 ∨ j = 19 ∨ j = 20 ∨ j = 21 ∨ j = 22 ∨ j = 23 ∨ j = 24 by omega) with rfl | rfl | rfl | rfl | rfl | rfl | rfl | rfl | rfl | rfl | rfl | rfl | rfl | rfl | rfl | rfl | rfl | rfl | rfl | rfl | rfl | rfl | rfl | rfl | rfl <;> rfl) (by decide) (by decide) dL_law_8 11 rfl (fun o7 => ?_)
  refine g_dup C dL_law_11 rfl 12 rfl ?_
  refine go_eq (st' := [.ref o7, .ref o7]) (ws' := wC (eY E) o ad 2 2 0 0 (fun _ => 0) (fun _ => 0) (fun _ => 1) (fun _ => 1) 0 0 (fun _ => 0) 0 0 (fun _ => 0) 0 0 0 (fun _ => 0) (fun _ => 0) (fun _ => 0) (fun _ => 0) (fun _ => (0, 0, true, 0, fun _ => 0, fun _ => 0)) ++ [ob o7 7 [.int (nI 0), .int (nI 0), .int (nI 0), .null, .null, .null, .null, .null, .int (nI 0), .null, .int (nI 0), .int (nI 0), .null, .null, .null, .null, .null, .null, .null, .int (nI 0), .null, .null, .null, .null, .null]]) rfl rfl rfl ?_
  refine g_cI (wsc := [ob o7 7 [.int (nI 0), .int (nI 0), .int (nI 0), .null, .null, .null, .null, .null, .int (nI 0), .null, .int (nI 0), .int (nI 0), .null, .null, .null, .null, .null, .null, .null, .int (nI 0), .null, .null, .null, .null, .null]]) (wr := wC (eY E) o ad 2 2 0 0 (fun _ => 0) (fun _ => 0) (fun _ => 1) (fun _ => 1) 0 0 (fun _ => 0) 0 0 (fun _ => 0) 0 0 0 (fun _ => 0) (fun _ => 0) (fun _ => 0) (fun _ => 0) (fun _ => (0, 0, true, 0, fun _ => 0, fun _ => 0))) C (c_X7_init (eL E) (eD E) (eY E) o7) gL_law_X7_init (List.mem_of_getElem? (i := 83) rfl) (List.mem_of_getElem? (i := 5) rfl) (List.mem_of_getElem? (i := 84) rfl) rfl rfl (by decide +kernel) (by decide) (by decide) (Nat.le_of_ble_eq_true rfl) [35] (List.range 35) rfl (rg_left rfl) ⟨by decide, nd_35.1⟩ (by decide) dL_law_12 15 rfl (fun ud => ?_)
  refine g_astore_n C dL_law_15 rfl 16 rfl (by decide) rfl ?_
  refine g_iconst C (v := nI 0) dL_law_16 rfl 17 rfl ?_
  refine g_istore_n C dL_law_17 rfl 18 rfl (by decide) rfl ?_
  refine g_wid (k' := 54) (n' := 5715) (by decide) (by decide) ?_
  exact law_loop C hX ⟨by decide, by decide⟩ hend 0 (Nat.zero_le _) _ _ (INV_0 (eY E) o o7 ad ud)
/-- THE LAW, from its entry -/
theorem whole_start {p : Program} {e : Env} {s : State} {m : MethodId} {below : List Frame} {meth : Method} {c : Code} (l : Launch) {b L : Nat} {xs : Nat → Int32} (hL : L ≤ 3072) (C0 : lw_At p s m meth c b L xs) : W p l e room_1 s m #[Value.ref b] below meth c s.heap [] 0 0 (lw_Z below #[Value.ref b] s) (entryFrame m ([Value.ref b] : List Value).toArray 4) := by
  obtain ⟨hx, hb, hr, hml, hown, hts, hX, hbl, hlocks, hgv⟩ := id C0
  obtain ⟨D, cy, hK⟩ := K_of hts
  have hl := lv_entry ([.ref b]) (n := 4) (Nat.le_of_ble_eq_true rfl)
  rw [lg_entry_eq]
  generalize (lg_sl ([.ref b]) ++ List.replicate (4 - (lg_sl ([.ref b])).length) Slot.unset).toArray = ls at hl ⊢
  have hl : lv_has ls 4 [(0, .ref b)] := hl
  have C : Cx (p, l, e, room_1, s, m, #[Value.ref b], below, meth, c, lw_Z below #[Value.ref b] s, D, cy, (fun q => s.heap.size ≤ q), s.heap, 4) cL_law wsL_law RL room_1 4 := ⟨⟨hx, hb, hml, hown, fun w hw => hts w (wsL_law_in w hw)⟩, hK, NW_of hts, fun q h => h, rfl, rfl⟩
  have G := law_top (b := b) (L := L) (xs := xs) C ⟨hX, hbl, Nat.not_le.mpr hbl, hL⟩ (fun lv ws => g_iconst C (v := 1) dL_law_685 rfl 686 rfl (fun H locs ls hl hP hD hS => va_forget (fun q hq => hS.2.2 q hq) (W.widen (by decide) (by decide) (lw_ret hx hb hr hlocks dL_law_686))))
  exact G s.heap [] ls hl (fun k q h => by simp at h) ⟨fun i j p q h => by simp at h, fun k q h => by simp at h⟩ va_S.rf
end
