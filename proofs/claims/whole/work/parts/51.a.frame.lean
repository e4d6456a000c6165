section
/-! a contract over a part of a world is one over the whole -/
def sets (ws : va_W) : List (Nat × (Nat × va_E)) → va_W
  | [] => ws
  | q :: r => sets (ws.set q.1 q.2) r
theorem sets_len : ∀ (r : List (Nat × (Nat × va_E))) (ws : va_W), (sets ws r).length = ws.length
  | [], _ => rfl
  | q :: r, ws => by rw [sets, sets_len r, List.length_set]
theorem sets_out : ∀ (r : List (Nat × (Nat × va_E))) (ws : va_W) (k : Nat), (∀ q ∈ r, q.1 ≠ k) → (sets ws r)[k]? = ws[k]?
  | [], _, _, _ => rfl
  | q :: r, ws, k, h => by
    rw [sets, sets_out r _ k (fun x hx => h x (List.mem_cons_of_mem _ hx)), List.getElem?_set_ne (h q List.mem_cons_self)]
theorem sets_in : ∀ (r : List (Nat × (Nat × va_E))) (ws : va_W), (r.map (fun q => q.1)).Nodup → (∀ q ∈ r, q.1 < ws.length) → ∀ q ∈ r, (sets ws r)[q.1]? = some q.2
  | [], _, _, _, q, hq => absurd hq List.not_mem_nil
  | x :: r, ws, hn, hl, q, hq => by
    rw [List.map_cons, List.nodup_cons] at hn
    rw [sets]
    rcases List.mem_cons.mp hq with e | e
    · subst e
      rw [sets_out r _ _ (fun y hy w => hn.1 (by rw [← w]; exact List.mem_map.mpr ⟨y, hy, rfl⟩)), List.getElem?_set_self (hl q List.mem_cons_self)]
    · exact sets_in r _ hn.2 (fun y hy => by rw [List.length_set]; exact hl y (List.mem_cons_of_mem _ hy)) q e
theorem fr_join {A0 : Nat → Prop} {D : va_G} {cl : List vw_C} {ws wsc wsc' : va_W} {H H1 : Heap} (isC : List Nat) (hC : isC.map (fun i => ws[i]?) = wsc.map some) (hl : wsc'.length = isC.length) (hnd : isC.Nodup) (hP : va_P D cl ws H) (hD : va_D A0 ws)
    (hk : ∀ q : Nat, q < H.size → ¬ va_A wsc H.size q → H1[q]? = H[q]?) (hF : ∀ q, va_A wsc H.size q → A0 q) (hP1 : va_P D cl wsc' H1) (hD1 : va_D (va_A wsc H.size) wsc') : va_P D cl (sets ws (isC.zip wsc')) H1 ∧ va_D A0 (sets ws (isC.zip wsc')) := by
  have hfst : (isC.zip wsc').map (fun q => q.1) = isC := List.map_fst_zip (by omega)
  have atC : ∀ (k : Nat) (q : Nat × va_E), wsc[k]? = some q → ∃ i : Nat, isC[k]? = some i ∧ ws[i]? = some q := by
    intro k q hq
    have h1 : (isC.map (fun i => ws[i]?))[k]? = some (some q) := by rw [hC, List.getElem?_map, hq]; rfl
    rw [List.getElem?_map] at h1
    cases hi : isC[k]? with
    | none => rw [hi] at h1; cases h1
    | some i => rw [hi] at h1; exact ⟨i, rfl, Option.some.inj h1⟩
  have inC : ∀ i ∈ isC, i < ws.length := by
    intro i hi
    obtain ⟨k, hk⟩ := List.mem_iff_getElem?.mp hi
    have h1 : (isC.map (fun i => ws[i]?))[k]? = some (ws[i]?) := by rw [List.getElem?_map, hk]; rfl
    rw [hC, List.getElem?_map] at h1
    cases hw : ws[i]? with
    | some q => exact (List.getElem?_eq_some_iff.mp hw).1
    | none =>
      rw [hw] at h1
      cases hc : wsc[k]? with
      | none => rw [hc] at h1; cases h1
      | some q => rw [hc] at h1; cases h1
  have cls : ∀ (k : Nat) (q : Nat × va_E), (sets ws (isC.zip wsc'))[k]? = some q → (∃ i : Nat, isC[i]? = some k ∧ wsc'[i]? = some q) ∨ (k ∉ isC ∧ ws[k]? = some q) := by
    intro k q h
    by_cases hk : k ∈ isC
    · left
      obtain ⟨i, hi⟩ := List.mem_iff_getElem?.mp hk
      have hi1 : i < isC.length := (List.getElem?_eq_some_iff.mp hi).1
      have hi2 : wsc'[i]? = some (wsc'[i]'(by omega)) := List.getElem?_eq_getElem (by omega)
      have hm : (k, wsc'[i]'(by omega)) ∈ isC.zip wsc' := List.mem_iff_getElem?.mpr ⟨i, List.getElem?_zip_eq_some.mpr ⟨hi, hi2⟩⟩
      have := sets_in (isC.zip wsc') ws (by rw [hfst]; exact hnd) (fun y hy => inC y.1 (by rw [← hfst]; exact List.mem_map.mpr ⟨y, hy, rfl⟩)) _ hm
      rw [this] at h
      exact ⟨i, hi, by rw [hi2]; exact h⟩
    · right
      rw [sets_out _ _ _ (fun y hy e => hk (by rw [← e, ← hfst]; exact List.mem_map.mpr ⟨y, hy, rfl⟩))] at h
      exact ⟨hk, h⟩
  have apart : ∀ (k : Nat) (q : Nat × va_E), k ∉ isC → ws[k]? = some q → q.1 < H.size ∧ ¬ va_A wsc H.size q.1 := by
    intro k q hk hq
    have hlt := (hP k q hq).lt
    refine ⟨hlt, fun h => ?_⟩
    rcases h with ⟨k2, e, h⟩ | h
    · obtain ⟨j, h3, h4⟩ := atC k2 (q.1, e) h
      have hij := hD.1 k j q (q.1, e) hq h4 rfl
      subst hij
      exact hk (List.mem_of_getElem? h3)
    · omega
  refine ⟨fun k q h => ?_, fun i j p q hi hj e => ?_, fun k q h => ?_⟩
  · rcases cls k q h with ⟨i, _, h2⟩ | ⟨h1, h2⟩
    · exact hP1 i q h2
    · obtain ⟨g1, g2⟩ := apart k q h1 h2
      exact (hP k q h2).kept (hk q.1 g1 g2)
  · rcases cls i p hi with ⟨x, x1, x2⟩ | ⟨x1, x2⟩
    · rcases cls j q hj with ⟨y, y1, y2⟩ | ⟨y1, y2⟩
      · have := hD1.1 x y p q x2 y2 e
        subst this
        rw [x1] at y1; exact Option.some.inj y1
      · exact absurd (by rw [← e]; exact hD1.2 x p x2) (apart j q y1 y2).2
    · rcases cls j q hj with ⟨y, y1, y2⟩ | ⟨y1, y2⟩
      · exact absurd (by rw [e]; exact hD1.2 y q y2) (apart i p x1 x2).2
      · exact hD.1 i j p q x2 y2 e
  · rcases cls k q h with ⟨i, _, h2⟩ | ⟨h1, h2⟩
    · exact hF _ (hD1.2 i q h2)
    · exact hD.2 k q h2
section FC
variable {l : Launch} {y : MethodName} {wc : List Cond} {f L : Nat} {D : va_G} {cy : Nat → ClassId} {ws wsc wsc' ws2 : va_W} {av : List Value}
theorem CoI_fr {v : Int32} (hM : CoI l y wc f L D cy wsc av wsc' v) (isC : List Nat) (hC : isC.map (fun i => ws[i]?) = wsc.map some) (hl : wsc'.length = isC.length) (hnd : isC.Nodup) (hw : sets ws (isC.zip wsc') = ws2) : CoI l y wc f L D cy ws av ws2 v := by
  subst hw
  intro sz p e ha hc hk s m args below hf happ hP hK
  obtain ⟨eav, hsz, hPw, hKk, hN, hD⟩ := hP
  subst hsz
  obtain ⟨n, o, h1, h2, h3, ⟨⟨r, u, ho, hpost, hP1, hD1⟩, hF⟩, Lc, hFE, hL⟩ := hM s.heap.size p e ha hc hk s m args below hf happ ⟨eav, rfl, sub_P hPw isC hC, hKk, hN, ⟨fun i j p q hi hj e => by
      have at' : ∀ (k : Nat) (q : Nat × va_E), wsc[k]? = some q → ∃ i : Nat, isC[k]? = some i ∧ ws[i]? = some q := by
        intro k q hq
        have h1 : (isC.map (fun i => ws[i]?))[k]? = some (some q) := by rw [hC, List.getElem?_map, hq]; rfl
        rw [List.getElem?_map] at h1
        cases hi : isC[k]? with
        | none => rw [hi] at h1; cases h1
        | some i => rw [hi] at h1; exact ⟨i, rfl, Option.some.inj h1⟩
      obtain ⟨x, x1, x2⟩ := at' i p hi
      obtain ⟨z, z1, z2⟩ := at' j q hj
      have := hD.1 x z p q x2 z2 e
      subst this
      exact (List.getElem?_inj (List.getElem?_eq_some_iff.mp x1).1 hnd).mp (x1.trans z1.symm), fun _ _ _ => trivial⟩⟩ hK
  have hfr := va_free (wc := wsc) (hD.self (sz := s.heap.size)) (va_S.rf (H0 := s.heap)) (fun q h => Or.inr h) isC hC
  obtain ⟨hP2, hD2⟩ := fr_join (A0 := va_A ws s.heap.size) isC hC hl hnd hPw hD.self hF.2 hfr hP1 hD1
  exact ⟨n, o, h1, h2, h3, ⟨⟨r, u, ho, hpost, hP2, hD2⟩, hF.1, fun q hq hn => hF.2 q hq (fun h => hn (hfr q h))⟩, Lc, hFE, fun q hq => hfr _ (hL q hq)⟩
theorem CoL_fr {v : Int64} (hM : CoL l y wc f L D cy wsc av wsc' v) (isC : List Nat) (hC : isC.map (fun i => ws[i]?) = wsc.map some) (hl : wsc'.length = isC.length) (hnd : isC.Nodup) (hw : sets ws (isC.zip wsc') = ws2) : CoL l y wc f L D cy ws av ws2 v := by
  subst hw
  intro sz p e ha hc hk s m args below hf happ hP hK
  obtain ⟨eav, hsz, hPw, hKk, hN, hD⟩ := hP
  subst hsz
  obtain ⟨n, o, h1, h2, h3, ⟨⟨r, u, ho, hpost, hP1, hD1⟩, hF⟩, Lc, hFE, hL⟩ := hM s.heap.size p e ha hc hk s m args below hf happ ⟨eav, rfl, sub_P hPw isC hC, hKk, hN, ⟨fun i j p q hi hj e => by
      have at' : ∀ (k : Nat) (q : Nat × va_E), wsc[k]? = some q → ∃ i : Nat, isC[k]? = some i ∧ ws[i]? = some q := by
        intro k q hq
        have h1 : (isC.map (fun i => ws[i]?))[k]? = some (some q) := by rw [hC, List.getElem?_map, hq]; rfl
        rw [List.getElem?_map] at h1
        cases hi : isC[k]? with
        | none => rw [hi] at h1; cases h1
        | some i => rw [hi] at h1; exact ⟨i, rfl, Option.some.inj h1⟩
      obtain ⟨x, x1, x2⟩ := at' i p hi
      obtain ⟨z, z1, z2⟩ := at' j q hj
      have := hD.1 x z p q x2 z2 e
      subst this
      exact (List.getElem?_inj (List.getElem?_eq_some_iff.mp x1).1 hnd).mp (x1.trans z1.symm), fun _ _ _ => trivial⟩⟩ hK
  have hfr := va_free (wc := wsc) (hD.self (sz := s.heap.size)) (va_S.rf (H0 := s.heap)) (fun q h => Or.inr h) isC hC
  obtain ⟨hP2, hD2⟩ := fr_join (A0 := va_A ws s.heap.size) isC hC hl hnd hPw hD.self hF.2 hfr hP1 hD1
  exact ⟨n, o, h1, h2, h3, ⟨⟨r, u, ho, hpost, hP2, hD2⟩, hF.1, fun q hq hn => hF.2 q hq (fun h => hn (hfr q h))⟩, Lc, hFE, fun q hq => hfr _ (hL q hq)⟩
end FC
theorem rg_map {α : Type} {w : List α} {n : Nat} (h : w.length = n) : (List.range n).map (fun i => w[i]?) = w.map some := by
  subst h
  apply List.ext_getElem?
  intro i
  rw [List.getElem?_map, List.getElem?_map]
  rcases Nat.lt_or_ge i w.length with q | q
  · rw [List.getElem?_range q, List.getElem?_eq_getElem q]; simp [q]
  · rw [List.getElem?_eq_none (by simpa using q), List.getElem?_eq_none q]; rfl
theorem rg_left {α : Type} {w1 w2 : List α} {n : Nat} (h : w1.length = n) : (List.range n).map (fun i => (w1 ++ w2)[i]?) = w1.map some := by
  rw [← rg_map h]
  apply List.map_congr_left
  intro i hi
  rw [List.getElem?_append_left (by rw [h]; exact List.mem_range.mp hi)]
theorem rg_right {α : Type} {w1 w2 : List α} {n1 n2 : Nat} (h1 : w1.length = n1) (h2 : w2.length = n2) : ((List.range n2).map (fun i => i + n1)).map (fun i => (w1 ++ w2)[i]?) = w2.map some := by
  rw [← rg_map h2, List.map_map]
  apply List.map_congr_left
  intro i hi
  show (w1 ++ w2)[i + n1]? = w2[i]?
  rw [List.getElem?_append_right (by omega)]
  congr 1; omega
section G2
variable {E : Ev} {cc : ByteArray} {Ts : List Cond} {own : String} {rm : Room} {nL k n pc : Nat} {lv : List (Nat × Value)} {st st0 : List Value}
  {y : MethodName} {bytes : ByteArray} {maxL f L nA b i ci N : Nat} {ret : Option FieldType} {wc wc' : List Cond} {As : List Value} {w1 w1' w2 : va_W} {cls : String} {T : u_T} {fs : List Value}
theorem nd_35 : va_nd (List.range 35) = true ∧ va_nd ((List.range 19).map (fun i => i + 35)) = true ∧ va_nd (List.range (19 + 35)) = true := ⟨by decide +kernel, by decide +kernel, by decide +kernel⟩
theorem nd_19 : va_nd (List.range 19) = true ∧ va_nd ((List.range 35).map (fun i => i + 19)) = true ∧ va_nd (List.range (35 + 19)) = true := ⟨by decide +kernel, by decide +kernel, by decide +kernel⟩
theorem dis_r (n1 n2 : Nat) : ∀ i ∈ (List.range n2).map (fun i => i + n1), i ∉ List.range n1 := by
  intro i hi h
  obtain ⟨j, _, e⟩ := List.mem_map.mp hi
  have := List.mem_range.mp h
  omega
/-- a call on the first of two worlds: it comes to stand behind the other -/
theorem g_c2i (C : Cx E cc Ts own rm nL) {v : Int32} (hM : CoI (eL E) y wc f L (eD E) (eY E) w1 (.ref b :: As) w1' v) (nA : Nat) (hG : GoodIn Ts (wsV own i cls y wc)) (hw : wc = Cond.code y bytes maxL ret :: wc') (hd : y.cls = cls ∧ y.cls ≠ "java/lang/invoke/MethodHandle" ∧ y.cls ≠ "java/lang/invoke/VarHandle" ∧ (parseMethodDescriptor y.desc).map (fun d => d.parameters.length) = some nA) (hR : f + 1 ≤ rm.frames ∧ 8 + (maxL + 11) + L ≤ rm.locals) (hk : k ≤ rm.cells ∧ n ≤ rm.slots) (hc : vwCl[ci]? = some (cls, T, N)) (he : w1[0]? = some (b, .inr (ci, fs))) (hn : As.length = nA) (hst : st0 = As.reverse ++ .ref b :: st) (hsum : (st.map fun v => v.category).sum ≤ 8) (n1 n2 : Nat) (hl1 : w1.length = n1) (hl2 : w2.length = n2) (hl3 : w1'.length = n1) (hnd : va_nd (List.range n1) = true ∧ va_nd ((List.range n2).map (fun i => i + n1)) = true ∧ va_nd (List.range (n2 + n1)) = true) (d : decode cc pc = .ok (.invokevirtual i, 3)) (q : Nat) (hq : pc + 3 = q) (kk : Go E k n q lv (.int v :: st) (w2 ++ w1')) : Go E k n pc lv st0 (w1 ++ w2) :=
  g_cVi C hM nA hG hw hd hR hk hc 0 he hn hst hsum (List.range n1) ((List.range n2).map (fun i => i + n1)) (List.range (n2 + n1)) (rg_left hl1) (rg_right hl1 hl2) ⟨hnd.1, hnd.2.1⟩ (dis_r n1 n2) (rg_map (by rw [List.length_append, hl2, hl3])) hnd.2.2 d q hq kk
theorem g_c2l (C : Cx E cc Ts own rm nL) {v : Int64} (hM : CoL (eL E) y wc f L (eD E) (eY E) w1 (.ref b :: As) w1' v) (nA : Nat) (hG : GoodIn Ts (wsV own i cls y wc)) (hw : wc = Cond.code y bytes maxL ret :: wc') (hd : y.cls = cls ∧ y.cls ≠ "java/lang/invoke/MethodHandle" ∧ y.cls ≠ "java/lang/invoke/VarHandle" ∧ (parseMethodDescriptor y.desc).map (fun d => d.parameters.length) = some nA) (hR : f + 1 ≤ rm.frames ∧ 8 + (maxL + 11) + L ≤ rm.locals) (hk : k ≤ rm.cells ∧ n ≤ rm.slots) (hc : vwCl[ci]? = some (cls, T, N)) (he : w1[0]? = some (b, .inr (ci, fs))) (hn : As.length = nA) (hst : st0 = As.reverse ++ .ref b :: st) (hsum : (st.map fun v => v.category).sum ≤ 8) (n1 n2 : Nat) (hl1 : w1.length = n1) (hl2 : w2.length = n2) (hl3 : w1'.length = n1) (hnd : va_nd (List.range n1) = true ∧ va_nd ((List.range n2).map (fun i => i + n1)) = true ∧ va_nd (List.range (n2 + n1)) = true) (d : decode cc pc = .ok (.invokevirtual i, 3)) (q : Nat) (hq : pc + 3 = q) (kk : Go E k n q lv (.long v :: st) (w2 ++ w1')) : Go E k n pc lv st0 (w1 ++ w2) :=
  g_cVl C hM nA hG hw hd hR hk hc 0 he hn hst hsum (List.range n1) ((List.range n2).map (fun i => i + n1)) (List.range (n2 + n1)) (rg_left hl1) (rg_right hl1 hl2) ⟨hnd.1, hnd.2.1⟩ (dis_r n1 n2) (rg_map (by rw [List.length_append, hl2, hl3])) hnd.2.2 d q hq kk
end G2
end
