section
/-! the same, with the changed places named -/
def pick (ws : va_W) (ps : List Nat) : List (Nat × (Nat × va_E)) := ps.filterMap (fun i => (ws[i]?).map (fun c => (i, c)))
theorem pick_in {ws : va_W} {ps : List Nat} {q : Nat × (Nat × va_E)} (h : q ∈ pick ws ps) : q.1 ∈ ps := by
  obtain ⟨i, hi, e⟩ := List.mem_filterMap.mp h
  obtain ⟨c, _, rfl⟩ := Option.map_eq_some_iff.mp e
  exact hi
theorem at_C {ws wsc : va_W} {isC : List Nat} (hC : isC.map (fun i => ws[i]?) = wsc.map some) (k : Nat) (q : Nat × va_E) (hq : wsc[k]? = some q) : ∃ i : Nat, isC[k]? = some i ∧ ws[i]? = some q := by
  have h1 : (isC.map (fun i => ws[i]?))[k]? = some (some q) := by rw [hC, List.getElem?_map, hq]; rfl
  rw [List.getElem?_map] at h1
  cases hi : isC[k]? with
  | none => rw [hi] at h1; cases h1
  | some i => rw [hi] at h1; exact ⟨i, rfl, Option.some.inj h1⟩
theorem at_D {A : Nat → Prop} {ws wsc : va_W} {isC : List Nat} (hC : isC.map (fun i => ws[i]?) = wsc.map some) (hnd : isC.Nodup) (hD : va_D A ws) : va_D (fun _ => True) wsc := ⟨fun i j p q hi hj e => by
  obtain ⟨x, x1, x2⟩ := at_C hC i p hi
  obtain ⟨z, z1, z2⟩ := at_C hC j q hj
  have := hD.1 x z p q x2 z2 e
  subst this
  exact (List.getElem?_inj (List.getElem?_eq_some_iff.mp x1).1 hnd).mp (x1.trans z1.symm), fun _ _ _ => trivial⟩
theorem fr_join2 {A0 : Nat → Prop} {D : va_G} {cl : List vw_C} {ws ws2 wsc wsc' : va_W} {H H1 : Heap} (isC ps : List Nat) (hC : isC.map (fun i => ws[i]?) = wsc.map some) (hC2 : isC.map (fun i => ws2[i]?) = wsc'.map some) (hw : sets ws (pick ws2 ps) = ws2) (hps : ∀ i ∈ ps, i ∈ isC) (hP : va_P D cl ws H) (hD : va_D A0 ws)
    (hk : ∀ q : Nat, q < H.size → ¬ va_A wsc H.size q → H1[q]? = H[q]?) (hF : ∀ q, va_A wsc H.size q → A0 q) (hP1 : va_P D cl wsc' H1) (hD1 : va_D (va_A wsc H.size) wsc') : va_P D cl ws2 H1 ∧ va_D A0 ws2 := by
  have cls : ∀ (k : Nat) (q : Nat × va_E), ws2[k]? = some q → (∃ i : Nat, isC[i]? = some k ∧ wsc'[i]? = some q) ∨ (k ∉ isC ∧ ws[k]? = some q) := by
    intro k q h
    by_cases hk : k ∈ isC
    · left
      obtain ⟨i, hi⟩ := List.mem_iff_getElem?.mp hk
      refine ⟨i, hi, ?_⟩
      have h1 : (isC.map (fun i => ws2[i]?))[i]? = some (ws2[k]?) := by rw [List.getElem?_map, hi]; rfl
      rw [hC2, List.getElem?_map, h] at h1
      cases hc : wsc'[i]? with
      | none => rw [hc] at h1; cases h1
      | some x => rw [hc] at h1; exact congrArg some (Option.some.inj (Option.some.inj h1))
    · right
      rw [← hw, sets_out _ _ _ (fun y hy e => hk (hps k (by rw [← e]; exact pick_in hy)))] at h
      exact ⟨hk, h⟩
  have apart : ∀ (k : Nat) (q : Nat × va_E), k ∉ isC → ws[k]? = some q → q.1 < H.size ∧ ¬ va_A wsc H.size q.1 := by
    intro k q hk hq
    have hlt := (hP k q hq).lt
    refine ⟨hlt, fun h => ?_⟩
    rcases h with ⟨k2, e, h⟩ | h
    · obtain ⟨j, h3, h4⟩ := at_C hC k2 (q.1, e) h
      have hij := hD.1 k j q (q.1, e) hq h4 rfl
      subst hij
      exact hk (List.mem_of_getElem? h3)
    · omega
  refine ⟨fun k q h => ?_, fun i j p q hi hj e => ?_, fun k q h => ?_⟩
  · rcases cls k q h with ⟨i, _, h2⟩ | ⟨h1, h2⟩
    · exact hP1 i q h2
    · obtain ⟨g1, g2⟩ := apart k q h1 h2
      exact (hP k q h2).kept (hk q.1 g1 g2)
  · rcases cls i p hi with ⟨x, x1, x2⟩ | ⟨x1, x2⟩
    · rcases cls j q hj with ⟨y, y1, y2⟩ | ⟨y1, y2⟩
      · have := hD1.1 x y p q x2 y2 e
        subst this
        rw [x1] at y1; exact Option.some.inj y1
      · exact absurd (by rw [← e]; exact hD1.2 x p x2) (apart j q y1 y2).2
    · rcases cls j q hj with ⟨y, y1, y2⟩ | ⟨y1, y2⟩
      · exact absurd (by rw [e]; exact hD1.2 y q y2) (apart i p x1 x2).2
      · exact hD.1 i j p q x2 y2 e
  · rcases cls k q h with ⟨i, _, h2⟩ | ⟨h1, h2⟩
    · exact hF _ (hD1.2 i q h2)
    · exact hD.2 k q h2
section FC
variable {l : Launch} {y : MethodName} {wc : List Cond} {f L : Nat} {D : va_G} {cy : Nat → ClassId} {ws wsc wsc' ws2 : va_W} {av : List Value}
theorem CoI_fs {v : Int32} (hM : CoI l y wc f L D cy wsc av wsc' v) (isC ps : List Nat) (hC : isC.map (fun i => ws[i]?) = wsc.map some) (hC2 : isC.map (fun i => ws2[i]?) = wsc'.map some) (hw : sets ws (pick ws2 ps) = ws2) (hd : isC.Nodup ∧ ∀ i ∈ ps, i ∈ isC) : CoI l y wc f L D cy ws av ws2 v := by
  intro sz p e ha hc hk s m args below hf happ hP hK
  obtain ⟨eav, hsz, hPw, hKk, hN, hD⟩ := hP
  subst hsz
  obtain ⟨n, o, h1, h2, h3, ⟨⟨r, u, ho, hpost, hP1, hD1⟩, hF⟩, Lc, hFE, hL⟩ := hM s.heap.size p e ha hc hk s m args below hf happ ⟨eav, rfl, sub_P hPw isC hC, hKk, hN, at_D hC hd.1 hD⟩ hK
  have hfr := va_free (wc := wsc) (hD.self (sz := s.heap.size)) (va_S.rf (H0 := s.heap)) (fun q h => Or.inr h) isC hC
  obtain ⟨hP2, hD2⟩ := fr_join2 (A0 := va_A ws s.heap.size) isC ps hC hC2 hw hd.2 hPw hD.self hF.2 hfr hP1 hD1
  exact ⟨n, o, h1, h2, h3, ⟨⟨r, u, ho, hpost, hP2, hD2⟩, hF.1, fun q hq hn => hF.2 q hq (fun h => hn (hfr q h))⟩, Lc, hFE, fun q hq => hfr _ (hL q hq)⟩
theorem CoL_fs {v : Int64} (hM : CoL l y wc f L D cy wsc av wsc' v) (isC ps : List Nat) (hC : isC.map (fun i => ws[i]?) = wsc.map some) (hC2 : isC.map (fun i => ws2[i]?) = wsc'.map some) (hw : sets ws (pick ws2 ps) = ws2) (hd : isC.Nodup ∧ ∀ i ∈ ps, i ∈ isC) : CoL l y wc f L D cy ws av ws2 v := by
  intro sz p e ha hc hk s m args below hf happ hP hK
  obtain ⟨eav, hsz, hPw, hKk, hN, hD⟩ := hP
  subst hsz
  obtain ⟨n, o, h1, h2, h3, ⟨⟨r, u, ho, hpost, hP1, hD1⟩, hF⟩, Lc, hFE, hL⟩ := hM s.heap.size p e ha hc hk s m args below hf happ ⟨eav, rfl, sub_P hPw isC hC, hKk, hN, at_D hC hd.1 hD⟩ hK
  have hfr := va_free (wc := wsc) (hD.self (sz := s.heap.size)) (va_S.rf (H0 := s.heap)) (fun q h => Or.inr h) isC hC
  obtain ⟨hP2, hD2⟩ := fr_join2 (A0 := va_A ws s.heap.size) isC ps hC hC2 hw hd.2 hPw hD.self hF.2 hfr hP1 hD1
  exact ⟨n, o, h1, h2, h3, ⟨⟨r, u, ho, hpost, hP2, hD2⟩, hF.1, fun q hq hn => hF.2 q hq (fun h => hn (hfr q h))⟩, Lc, hFE, fun q hq => hfr _ (hL q hq)⟩
end FC
end
