theorem ra_int {U : State} {c c' : ClassId} (h : va_RA U c .int) (h' : va_RA U c' .int) : c = c' := Option.some.inj (h.symm.trans h')
theorem ra_long {U : State} {c c' : ClassId} (h : va_RA U c .long) (h' : va_RA U c' .long) : c = c' := Option.some.inj (h.symm.trans h')
theorem ra_bool {U : State} {c c' : ClassId} (h : va_RA U c .boolean) (h' : va_RA U c' .boolean) : c = c' := Option.some.inj (h.symm.trans h')
theorem ra_net {U : State} {c c' : ClassId} (h : va_RA U c (.object RX2)) (h' : va_RA U c' (.object RX2)) : c = c' := by
  obtain ⟨_, _, _, _, _, h4⟩ := h
  obtain ⟨_, _, _, _, _, h4'⟩ := h'
  exact Option.some.inj (h4.symm.trans h4')
abbrev aU (cy : Nat → ClassId) (a n : Nat) (f : Nat → Option Nat) : Nat × va_E := (a, .inl (cy 3, n, .inr (.inr (.inr (.inr f)))))
section GN
variable {E : Ev} {cc : ByteArray} {Ts : List Cond} {own : String} {rm : Room} {nL k n pc : Nat} {lv : List (Nat × Value)} {st : List Value} {ws : va_W}
theorem g_newa (C : Cx E cc Ts own rm nL) {atype : ArrayType} {ty : FieldType} (t0 : Nat) {a0 : vp_A} {N : Nat} (hty : newarray.typeOf atype = ty) (harr : Cond.arrayClass (newarray.typeOf atype) ∈ Ts) (ht : (tysOf (eY E))[t0]? = some ((eY E) t0, ty)) (hu : ∀ {U : State} {c c' : ClassId}, va_RA U c ty → va_RA U c' ty → c = c') (ha : ∀ cA : ClassId, vp_cell cA a0 = arrV cA N (fun _ => defaultValue ty)) (hN : N < 2 ^ 31) (hb : N * componentBytes ty ≤ 536870912) (hc : k + 1 ≤ rm.cells) (hs : n + N ≤ rm.slots) (d : decode cc pc = .ok (.newarray atype, 2)) (q : Nat) (hq : pc + 2 = q) (kk : ∀ b, Go E (k + 1) (n + N) q lv (.ref b :: st) (ws ++ [(b, .inl ((eY E) t0, a0))])) : Go E k n pc lv (.int (nI N) :: st) ws := by
  subst hq
  intro H locs ls hl hP hD hS
  refine va_newa C.1.1 C.1.2.1 (C.1.2.2.2.2 _ harr) hty C.2.1 hP hD hS C.2.2.2.1 ha (nI_pos hN) (nI_clamp hN) hb (by rw [C.2.2.2.2.1]; exact hc) (by rw [C.2.2.2.2.1]; exact hs) d (fun b cA H1 hK hP hD hS => ?_)
  have e : cA = (eY E) t0 := hu (hK.2 4 _ rfl).2 (C.2.1.2 t0 _ ht).2
  subst e
  exact kk b H1 locs ls hl hP hD hS
theorem g_new (C : Cx E cc Ts own rm nL) {cC : String} {T : u_T} {N ci i : Nat} {fs : List Value} (hin : ∀ w ∈ u_ws cC T N, w ∈ Ts) {ty : Nat → FieldType} (hty : ∀ k, k < N → parseFieldDescriptor (T k).2.2.1 = some (ty k)) (hcl : Cond.classLink own i cC ∈ Ts) (hinst : Cond.instantiable cC N ∈ Ts) (hini : Cond.initialized cC ∈ Ts) (hc : vwCl[ci]? = some (cC, T, N)) (hfs : ∀ j, j < N → defaultValue (ty j) = vp_V fs j) (hk : k + 1 ≤ rm.cells) (hs : n + N ≤ rm.slots) (d : decode cc pc = .ok (.new i, 3)) (q : Nat) (hq : pc + 3 = q) (kk : ∀ b, Go E (k + 1) (n + N) q lv (.ref b :: st) (ws ++ [(b, .inr (ci, fs))])) : Go E k n pc lv st ws := by
  subst hq
  intro H locs ls hl hP hD hS
  exact va_new C.1.1 C.1.2.1 C.1.2.2.2.2 hin ty hty C.1.2.2.2.1 (C.1.2.2.2.2 _ hcl) (C.1.2.2.2.2 _ hinst) (C.1.2.2.2.2 _ hini) C.2.1 hP hD hS C.2.2.2.1 hc hfs (by rw [C.2.2.2.2.1]; exact hk) (by rw [C.2.2.2.2.1]; exact hs) d (fun b H1 hP hD hS => kk b H1 locs ls hl hP hD hS)
theorem g_newq (C : Cx E cc Ts own rm nL) {i N : Nat} (hcl : Cond.classLink own i RX2 ∈ Ts) (hov : va_AO RX2 (eS E)) (hN : N < 2 ^ 31) (hb : N * 4 ≤ 536870912) (hk : k + 1 ≤ rm.cells) (hs : n + N ≤ rm.slots) (d : decode cc pc = .ok (.anewarray i, 3)) (q : Nat) (hq : pc + 3 = q) (kk : ∀ b, Go E (k + 1) (n + N) q lv (.ref b :: st) (ws ++ [aU (eY E) b N (fun _ => none)])) : Go E k n pc lv (.int (nI N) :: st) ws := by
  subst hq
  intro H locs ls hl hP hD hS
  refine va_newq C.1.1 C.1.2.1 C.1.2.2.2.1 (C.1.2.2.2.2 _ hcl) hov C.2.1 hP hD hS C.2.2.2.1 (nI_pos hN) (nI_clamp hN) hb (by rw [C.2.2.2.2.1]; exact hk) (by rw [C.2.2.2.2.1]; exact hs) d (fun b cA H1 hK hP hD hS => ?_)
  have e : cA = (eY E) 3 := ra_net (hK.2 4 _ rfl).2 (C.2.1.2 3 _ rfl).2
  subst e
  exact kk b H1 locs ls hl hP hD hS
theorem g_aast (C : Cx E cc Ts own rm nL) (q0 qk : Nat) {a N i v : Nat} {vs : List Value} {f f' : Nat → Option Nat} (ha : ws[q0]? = some (aU (eY E) a N f)) (hv : ws[qk]? = some (v, .inr (2, vs))) (hi : i < N) (hN : N < 2 ^ 31) (d : decode cc pc = .ok (.aastore, 1)) (q : Nat) (hq : pc + 1 = q) {ws' : va_W} (hf : va_up f i (some v) = f') (hw : ws.set q0 (aU (eY E) a N f') = ws') (kk : Go E k n q lv st ws') : Go E k n pc lv (.ref v :: .int (nI i) :: .ref a :: st) ws := by
  subst hq; subst hf; subst hw
  exact fun H locs ls hl hP hD hS => va_astq (r := (RX2, TX2, 6)) C.1.1 C.1.2.1 C.2.1 hP hD hS q0 3 qk 2 ha rfl hv rfl (vp_in_nI hi hN) d (by rw [nI_clamp (Nat.lt_trans hi hN)]; exact fun H1 locs1 hP hD hS => kk H1 locs1 ls hl hP hD hS)
theorem g_obj (C : Cx E cc Ts own rm nL) {i a : Nat} (h1 : Cond.methodLink own i Lib.objectInit ∈ Ts) (h2 : Cond.instanceMethod Lib.objectInit ∈ Ts) (h3 : Cond.code Lib.objectInit ⟨#[0xb1]⟩ 1 none ∈ Ts) (hf : 1 ≤ rm.frames) (hl : (st.map fun v => v.category).sum + 12 ≤ rm.locals) (d : decode cc pc = .ok (.invokespecial i, 3)) (q : Nat) (hq : pc + 3 = q) (kk : Go E k n q lv st ws) : Go E k n pc lv (.ref a :: st) ws := by
  subst hq
  intro H locs ls hl0 hP hD hS
  refine W.objInit C.1.1 C.1.2.1 C.1.2.2.2.1 (C.1.2.2.2.2 _ h1) (C.1.2.2.2.2 _ h2) (C.1.2.2.2.2 _ h3) rfl (by rw [C.1.2.2.1]; exact hl0.1) rfl d (by rw [C.2.2.2.2.1]; exact hf) (by rw [C.2.2.2.2.1]; show 2 * 0 + _ + 12 ≤ _; omega) ?_
  exact kk H locs ls hl0 hP hD hS
theorem g_wid {k' n' : Nat} (h1 : k ≤ k') (h2 : n ≤ n') (kk : Go E k' n' pc lv st ws) : Go E k n pc lv st ws := fun H locs ls hl hP hD hS => W.widen h1 h2 (kk H locs ls hl hP hD hS)
end GN
def CoN (l : Launch) (y : MethodName) (wc : List Cond) (f L mc ms : Nat) (D : va_G) (cy : Nat → ClassId) (ws : va_W) (av : List Value) (Wn : (Nat → Nat) → va_W) : Prop := ∀ sz, Met l y wc { frames := f, cells := mc, slots := ms, locals := L } (PreM D cy ws sz av) (va_Qv (fun (_ : Nat → Nat) => True) (fun a t => va_P D vwCl (Wn a) t.heap ∧ va_D (va_A ws sz) (Wn a)) (va_A ws sz)) mc ms (va_A ws sz)
theorem met_n {l : Launch} {y : MethodName} {wc wc' : List Cond} {cc : ByteArray} {maxL f L mc ms : Nat} {own : String} {D : va_G} {cy : Nat → ClassId} {ws : va_W} {av : List Value} {Wn : (Nat → Nat) → va_W} {lv : List (Nat × Value)} (hy : plainName y.cls = true) (hyn : y.name = "<init>") (hw : wc = Cond.code y cc maxL none :: wc') (hown : y.cls = own) (hlv : lv_args 0 av = lv) (hlen : (lg_sl av).length ≤ maxL)
    (body : ∀ E : Ev, eL E = l → eD E = D → eY E = cy → (eT E).name = "<init>" → Cx E cc wc own { frames := f, cells := mc, slots := ms, locals := L } maxL → (∀ pc lv a, decode cc pc = .ok (.return_, 1) → Go E mc ms pc lv [] (Wn a)) → Go E 0 0 0 lv [] ws) : CoN l y wc f L mc ms D cy ws av Wn := by
  intro sz
  refine Met.ofW (cc := cc) (maxL := maxL) (ret := none) hy hw ?_
  intro p e s m args below meth c s₁ B hml hv
  obtain ⟨rfl, hsz, hP, hK, hN, hD0⟩ := hv
  have hin : meth.name = "<init>" := ((name_of_methodNamed B.named B.method).1).trans hyn
  subst hown
  subst hsz
  have hD := hD0.self (sz := s.heap.size)
  have hl := lv_entry av (n := maxL) hlen
  rw [lg_entry_eq]
  generalize (lg_sl av ++ List.replicate (maxL - (lg_sl av).length) Slot.unset).toArray = ls at hl ⊢
  rw [hlv] at hl
  have G := body (p, l, e, (headSpec wc { frames := f, cells := mc, slots := ms, locals := L }).room, s, m, av.toArray, below, meth, c, MQ below (va_Qv (fun (_ : Nat → Nat) => True) (fun a t => va_P D vwCl (Wn a) t.heap ∧ va_D (va_A ws s.heap.size) (Wn a)) (va_A ws s.heap.size)) av.toArray s mc ms (va_A ws s.heap.size), D, cy, va_A ws s.heap.size, s.heap, maxL) rfl rfl rfl hin ⟨⟨B.exec, B.bytes, hml, findClass_of_methodNamed B.named, atoms_spec (ws := wc) B.pre⟩, hK, hN, fun q h => Or.inr h, rfl, rfl⟩
    (fun pc lv a d H locs ls hl hP hD hS => W.vret B.exec B.bytes B.returns (fun t ht hW => ⟨⟨a, rfl, trivial, by rw [ht]; exact hP, hD⟩, hS.F ht⟩) hS.2.2 d (hlocks := B.notSynchronized))
  exact G s.heap [] ls hl hP hD va_S.rf
section GNC
variable {E : Ev} {cc : ByteArray} {Ts : List Cond} {own : String} {rm : Room} {nL k n pc : Nat} {lv : List (Nat × Value)} {st st0 : List Value} {ws : va_W}
  {y : MethodName} {bytes : ByteArray} {maxL f L mc ms b i : Nat} {wc wc' : List Cond} {wsc wr : va_W} {Wn : (Nat → Nat) → va_W} {host : String}
theorem g_cIN (C : Cx E cc Ts own rm nL) (hM : CoN (eL E) y wc f L mc ms (eD E) (eY E) wsc [.ref b] Wn) (hG : GoodIn Ts wc) (hl : va_Nw (.methodLinkNest own i y host) (eS E)) (hini : Cond.initialized y.cls ∈ Ts) (hin : Cond.instanceMethod y ∈ Ts) (hyn : y.name = "<init>") (hw : wc = Cond.code y bytes maxL none :: wc') (hd : y.cls ≠ "java/lang/invoke/MethodHandle" ∧ y.cls ≠ "java/lang/invoke/VarHandle" ∧ (parseMethodDescriptor y.desc).map (fun d => d.parameters.length) = some 0) (hR : f + 1 ≤ rm.frames ∧ 8 + (maxL + 11) + L ≤ rm.locals) (hk : k + mc ≤ rm.cells ∧ n + ms ≤ rm.slots) (hsum : (st.map fun v => v.category).sum ≤ 8) (isC isR : List Nat) (hC : isC.map (fun i => ws[i]?) = wsc.map some) (hRr : isR.map (fun i => ws[i]?) = wr.map some) (hnd : va_nd isC = true ∧ va_nd isR = true) (hdis : ∀ i ∈ isR, i ∉ isC) (d : decode cc pc = .ok (.invokespecial i, 3)) (q : Nat) (hq : pc + 3 = q) (kk : ∀ a, Go E (k + mc) (n + ms) q lv st (wr ++ Wn a)) : Go E k n pc lv (.ref b :: st) ws := by
  subst hq
  intro H locs ls hl0 hP hD hS
  have hPc : va_P (eD E) vwCl wsc H := sub_P hP isC hC
  have hDc := hD.sub (ws' := wsc) isC hnd.1 hC
  have hFc := va_free (wc := wsc) hD hS C.2.2.2.1 isC hC
  refine va_callv (va_runIN (As := []) (rest := st) C.1 (hM H.size) ⟨va_cnB 0 C.1.2.2.2.2 hG hw rfl rfl hl (C.1.2.2.2.2 _ hini) hd (by rw [C.2.2.2.2.1]; exact hR), hyn, C.1.2.2.2.2 _ hin⟩ ⟨PreM.blind _ _ _ _ _, fun U hU hW => ⟨rfl, by rw [hU], by rw [hU]; exact hPc, va_K.moved hW.alike C.2.1, C.2.2.1.warm hW, hDc.weaken (fun _ _ _ _ => trivial)⟩⟩ rfl rfl (hl0.1) rfl (lv_room hsum) d ⟨by rw [C.2.2.2.2.1]; exact hk.1, by rw [C.2.2.2.2.1]; exact hk.2⟩) hS (fun q _ h => hFc q h) hFc (fun a t H1 locs1 ht hvm hw hB hz1 hk1 hS => ?_)
  obtain ⟨hP1, hD1⟩ := hB
  rw [ht] at hP1
  obtain ⟨hP2, hD2⟩ := va_join (wr := wr) (w1 := Wn a) hP hD isC isR hC hRr hnd.2 hdis hk1 hFc hP1 hD1
  exact kk a H1 locs1 ls hl0 hP2 hD2 hS
theorem g_cI (C : Cx E cc Ts own rm nL) (hM : CoN (eL E) y wc f L mc ms (eD E) (eY E) wsc [.ref b] Wn) (hG : GoodIn Ts wc) (hl : Cond.methodLink own i y ∈ Ts) (hini : Cond.initialized y.cls ∈ Ts) (hin : Cond.instanceMethod y ∈ Ts) (hyn : y.name = "<init>") (hw : wc = Cond.code y bytes maxL none :: wc') (hd : y.cls ≠ "java/lang/invoke/MethodHandle" ∧ y.cls ≠ "java/lang/invoke/VarHandle" ∧ (parseMethodDescriptor y.desc).map (fun d => d.parameters.length) = some 0) (hR : f + 1 ≤ rm.frames ∧ 8 + (maxL + 11) + L ≤ rm.locals) (hk : k + mc ≤ rm.cells ∧ n + ms ≤ rm.slots) (hsum : (st.map fun v => v.category).sum ≤ 8) (isC isR : List Nat) (hC : isC.map (fun i => ws[i]?) = wsc.map some) (hRr : isR.map (fun i => ws[i]?) = wr.map some) (hnd : va_nd isC = true ∧ va_nd isR = true) (hdis : ∀ i ∈ isR, i ∉ isC) (d : decode cc pc = .ok (.invokespecial i, 3)) (q : Nat) (hq : pc + 3 = q) (kk : ∀ a, Go E (k + mc) (n + ms) q lv st (wr ++ Wn a)) : Go E k n pc lv (.ref b :: st) ws := by
  subst hq
  intro H locs ls hl0 hP hD hS
  have hPc : va_P (eD E) vwCl wsc H := sub_P hP isC hC
  have hDc := hD.sub (ws' := wsc) isC hnd.1 hC
  have hFc := va_free (wc := wsc) hD hS C.2.2.2.1 isC hC
  refine va_callv (va_runI (As := []) (rest := st) C.1 (hM H.size) (cwI 0 C.1.2.2.2.2 hG hw rfl rfl (C.1.2.2.2.2 _ hini) (C.1.2.2.2.2 _ hl) (C.1.2.2.2.2 _ hin) hyn hd (by rw [C.2.2.2.2.1]; exact hR)) ⟨PreM.blind _ _ _ _ _, fun U hU hW => ⟨rfl, by rw [hU], by rw [hU]; exact hPc, va_K.moved hW.alike C.2.1, C.2.2.1.warm hW, hDc.weaken (fun _ _ _ _ => trivial)⟩⟩ rfl rfl (hl0.1) rfl (lv_room hsum) d ⟨by rw [C.2.2.2.2.1]; exact hk.1, by rw [C.2.2.2.2.1]; exact hk.2⟩) hS (fun q _ h => hFc q h) hFc (fun a t H1 locs1 ht hvm hw hB hz1 hk1 hS => ?_)
  obtain ⟨hP1, hD1⟩ := hB
  rw [ht] at hP1
  obtain ⟨hP2, hD2⟩ := va_join (wr := wr) (w1 := Wn a) hP hD isC isR hC hRr hnd.2 hdis hk1 hFc hP1 hD1
  exact kk a H1 locs1 ls hl0 hP2 hD2 hS
theorem go_ws {ws' : va_W} (is : List Nat) (hn : va_nd is = true) (h : is.map (fun i => ws[i]?) = ws'.map some) (kk : Go E k n pc lv st ws') : Go E k n pc lv st ws := fun H locs ls hl hP hD hS => kk H locs ls hl (sub_P hP is h) (hD.sub is hn h) hS
end GNC
theorem z_oI1 : oI 1 = nI 0 := by decide
theorem z_rv0 : rv 0 = lN 0 := by decide
theorem ha_N (N : Nat) (cA : ClassId) : vp_cell cA (N, .inl (fun r => nI ((fun _ => 0) r))) = arrV cA N (fun _ => defaultValue .int) := rfl
theorem ha_O (N : Nat) (cA : ClassId) : vp_cell cA (N, .inl (fun r => oI ((fun _ => 1) r))) = arrV cA N (fun _ => defaultValue .int) := by
  rw [vp_cell_i]; exact arrV_congr cA N _ _ (fun k _ => by rw [z_oI1]; rfl)
theorem ha_Z (N : Nat) (cA : ClassId) : vp_cell cA (N, .inl (fun r => bI ((fun _ => false) r))) = arrV cA N (fun _ => defaultValue .boolean) := rfl
theorem ha_L (N : Nat) (cA : ClassId) : vp_cell cA (N, .inr (.inl (fun r => lN ((fun _ => 0) r)))) = arrV cA N (fun _ => defaultValue .long) := rfl
theorem ha_R (N : Nat) (cA : ClassId) : vp_cell cA (N, .inr (.inl (fun r => rv ((fun _ => 0) r)))) = arrV cA N (fun _ => defaultValue .long) := by
  rw [vp_cell_l]; exact arrV_congr cA N _ _ (fun k _ => by rw [z_rv0]; rfl)
theorem cell_Q6 (c : ClassId) (f : Nat → Option Nat) (X : Nat → Nat) (h0 : f 0 = some (X 0)) (h1 : f 1 = some (X 1)) (h2 : f 2 = some (X 2)) (h3 : f 3 = some (X 3)) (h4 : f 4 = some (X 4)) (h5 : f 5 = some (X 5)) : vp_cell c (6, .inr (.inr (.inr (.inr f)))) = vp_cell c (6, .inr (.inr (.inr (.inr (fun r => some (X r)))))) := by
  rw [vp_cell_q, vp_cell_q]
  refine arrV_congr c 6 _ _ (fun k hk => ?_)
  have : k = 0 ∨ k = 1 ∨ k = 2 ∨ k = 3 ∨ k = 4 ∨ k = 5 := by omega
  rcases this with rfl | rfl | rfl | rfl | rfl | rfl
  · rw [h0]
  · rw [h1]
  · rw [h2]
  · rw [h3]
  · rw [h4]
  · rw [h5]
