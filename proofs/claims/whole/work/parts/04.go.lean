def nwF : List (String × Nat × String × String × String × String) := [(RX3, 57, RX4, "controls", "I", "StackRuns"), (RX6, 175, RX4, "controls", "I", "StackRuns"), (RX6, 178, RX4, "alphabet", "I", "StackRuns"), (RX6, 55, RX4, "size", "I", "StackRuns"), (RX3, 32, RX4, "size", "I", "StackRuns"), (RX0, 64, RX4, "size", "I", "StackRuns"), (RX2, 71, RX4, "size", "I", "StackRuns"), (RX3, 19, RX4, "stamp", "I", "StackRuns"), (RX0, 31, RX4, "stamp", "I", "StackRuns"), (RX2, 62, RX4, "stamp", "I", "StackRuns"), (RX3, 39, RX4, "head", "[I", "StackRuns"), (RX0, 70, RX4, "head", "[I", "StackRuns"), (RX6, 97, RX4, "head", "[I", "StackRuns"), (RX2, 105, RX4, "head", "[I", "StackRuns"), (RX3, 46, RX4, "to", "[I", "StackRuns"), (RX0, 73, RX4, "to", "[I", "StackRuns"), (RX1, 50, RX4, "to", "[I", "StackRuns"), (RX5, 38, RX4, "to", "[I", "StackRuns"), (RX2, 92, RX4, "to", "[I", "StackRuns"), (RX3, 43, RX4, "top", "[I", "StackRuns"), (RX0, 67, RX4, "top", "[I", "StackRuns"), (RX1, 55, RX4, "top", "[I", "StackRuns"), (RX5, 35, RX4, "top", "[I", "StackRuns"), (RX2, 89, RX4, "top", "[I", "StackRuns"), (RX3, 64, RX4, "below", "[I", "StackRuns"), (RX5, 26, RX4, "below", "[I", "StackRuns"), (RX0, 88, RX4, "below", "[I", "StackRuns"), (RX1, 58, RX4, "below", "[I", "StackRuns"), (RX2, 102, RX4, "below", "[I", "StackRuns"), (RX2, 47, RX5, "control", "I", "StackRuns"), (RX6, 90, RX5, "control", "I", "StackRuns"), (RX0, 104, RX5, "control", "I", "StackRuns"), (RX1, 23, RX5, "height", "I", "StackRuns"), (RX6, 84, RX5, "height", "I", "StackRuns"), (RX2, 52, RX5, "height", "I", "StackRuns"), (RX0, 109, RX5, "height", "I", "StackRuns"), (RX1, 29, RX5, "signs", "[I", "StackRuns"), (RX2, 55, RX5, "signs", "[I", "StackRuns"), (RX6, 93, RX5, "signs", "[I", "StackRuns"), (RX0, 112, RX5, "signs", "[I", "StackRuns"), (RX0, 50, RX3, "least", "[J", "StackRuns"), (RX2, 78, RX3, "least", "[J", "StackRuns"), (RX6, 161, RX3, "least", "[J", "StackRuns"), (RX6, 200, RX1, "rows", "[J", "StackRuns"), (RX6, 119, RX2, "links", "I", "StackRuns")]
def nwM : List (String × Nat × MethodName × String) := [(RX6, 11, yX4_init, "StackRuns"), (RX6, 18, yX5_init, "StackRuns"), (RX6, 31, yX3_init, "StackRuns"), (RX6, 38, yX0_init, "StackRuns"), (RX6, 45, yX1_init, "StackRuns"), (RX6, 54, yX2_init, "StackRuns"), (RX5, 22, yX6_headOf, "StackRuns"), (RX2, 43, yX6_hasBit, "StackRuns"), (RX3, 53, yX6_headOf, "StackRuns"), (RX3, 60, yX6_sum, "StackRuns"), (RX2, 95, yX6_headOf, "StackRuns"), (RX2, 98, yX6_sum, "StackRuns"), (RX1, 41, yX6_sum, "StackRuns"), (RX0, 76, yX6_headOf, "StackRuns"), (RX0, 84, yX6_hasBit, "StackRuns")]
def NW (U : State) : Prop := (∀ q ∈ nwF, va_Nw (.fieldLinkNest q.1 q.2.1 q.2.2.1 q.2.2.2.1 q.2.2.2.2.1 q.2.2.2.2.2) U) ∧ (∀ q ∈ nwM, va_Nw (.methodLinkNest q.1 q.2.1 q.2.2.1 q.2.2.2) U) ∧ va_AO RX2 U
theorem NW.warm {s U : State} (h : NW s) (hW : s.WarmedH U.vm) : NW U := ⟨fun q hq => va_Nw.warmF hW (h.1 q hq), fun q hq => va_Nw.warmM hW (h.2.1 q hq), va_AO.moved hW.alike h.2.2⟩
theorem NW.same {u U : State} (e : u.vm = U.vm) (h : NW u) : NW U := ⟨fun q hq => va_Nw.same rfl e (h.1 q hq), fun q hq => va_Nw.same rfl e (h.2.1 q hq), va_AO.moved (e ▸ Vm.Alike.refl u.vm) h.2.2⟩
theorem nf_RX3_57 {U : State} (h : NW U) (A : Array Value) : (Cond.fieldLinkNest RX3 57 RX4 "controls" "I" "StackRuns").before A U = true := va_Nw.use rfl (h.1 (RX3, 57, RX4, "controls", "I", "StackRuns") (List.mem_of_getElem? (i := 0) rfl))
theorem nf_RX6_175 {U : State} (h : NW U) (A : Array Value) : (Cond.fieldLinkNest RX6 175 RX4 "controls" "I" "StackRuns").before A U = true := va_Nw.use rfl (h.1 (RX6, 175, RX4, "controls", "I", "StackRuns") (List.mem_of_getElem? (i := 1) rfl))
theorem nf_RX6_178 {U : State} (h : NW U) (A : Array Value) : (Cond.fieldLinkNest RX6 178 RX4 "alphabet" "I" "StackRuns").before A U = true := va_Nw.use rfl (h.1 (RX6, 178, RX4, "alphabet", "I", "StackRuns") (List.mem_of_getElem? (i := 2) rfl))
theorem nf_RX6_55 {U : State} (h : NW U) (A : Array Value) : (Cond.fieldLinkNest RX6 55 RX4 "size" "I" "StackRuns").before A U = true := va_Nw.use rfl (h.1 (RX6, 55, RX4, "size", "I", "StackRuns") (List.mem_of_getElem? (i := 3) rfl))
theorem nf_RX3_32 {U : State} (h : NW U) (A : Array Value) : (Cond.fieldLinkNest RX3 32 RX4 "size" "I" "StackRuns").before A U = true := va_Nw.use rfl (h.1 (RX3, 32, RX4, "size", "I", "StackRuns") (List.mem_of_getElem? (i := 4) rfl))
theorem nf_RX0_64 {U : State} (h : NW U) (A : Array Value) : (Cond.fieldLinkNest RX0 64 RX4 "size" "I" "StackRuns").before A U = true := va_Nw.use rfl (h.1 (RX0, 64, RX4, "size", "I", "StackRuns") (List.mem_of_getElem? (i := 5) rfl))
theorem nf_RX2_71 {U : State} (h : NW U) (A : Array Value) : (Cond.fieldLinkNest RX2 71 RX4 "size" "I" "StackRuns").before A U = true := va_Nw.use rfl (h.1 (RX2, 71, RX4, "size", "I", "StackRuns") (List.mem_of_getElem? (i := 6) rfl))
theorem nf_RX3_19 {U : State} (h : NW U) (A : Array Value) : (Cond.fieldLinkNest RX3 19 RX4 "stamp" "I" "StackRuns").before A U = true := va_Nw.use rfl (h.1 (RX3, 19, RX4, "stamp", "I", "StackRuns") (List.mem_of_getElem? (i := 7) rfl))
theorem nf_RX0_31 {U : State} (h : NW U) (A : Array Value) : (Cond.fieldLinkNest RX0 31 RX4 "stamp" "I" "StackRuns").before A U = true := va_Nw.use rfl (h.1 (RX0, 31, RX4, "stamp", "I", "StackRuns") (List.mem_of_getElem? (i := 8) rfl))
theorem nf_RX2_62 {U : State} (h : NW U) (A : Array Value) : (Cond.fieldLinkNest RX2 62 RX4 "stamp" "I" "StackRuns").before A U = true := va_Nw.use rfl (h.1 (RX2, 62, RX4, "stamp", "I", "StackRuns") (List.mem_of_getElem? (i := 9) rfl))
theorem nf_RX3_39 {U : State} (h : NW U) (A : Array Value) : (Cond.fieldLinkNest RX3 39 RX4 "head" "[I" "StackRuns").before A U = true := va_Nw.use rfl (h.1 (RX3, 39, RX4, "head", "[I", "StackRuns") (List.mem_of_getElem? (i := 10) rfl))
theorem nf_RX0_70 {U : State} (h : NW U) (A : Array Value) : (Cond.fieldLinkNest RX0 70 RX4 "head" "[I" "StackRuns").before A U = true := va_Nw.use rfl (h.1 (RX0, 70, RX4, "head", "[I", "StackRuns") (List.mem_of_getElem? (i := 11) rfl))
theorem nf_RX6_97 {U : State} (h : NW U) (A : Array Value) : (Cond.fieldLinkNest RX6 97 RX4 "head" "[I" "StackRuns").before A U = true := va_Nw.use rfl (h.1 (RX6, 97, RX4, "head", "[I", "StackRuns") (List.mem_of_getElem? (i := 12) rfl))
theorem nf_RX2_105 {U : State} (h : NW U) (A : Array Value) : (Cond.fieldLinkNest RX2 105 RX4 "head" "[I" "StackRuns").before A U = true := va_Nw.use rfl (h.1 (RX2, 105, RX4, "head", "[I", "StackRuns") (List.mem_of_getElem? (i := 13) rfl))
theorem nf_RX3_46 {U : State} (h : NW U) (A : Array Value) : (Cond.fieldLinkNest RX3 46 RX4 "to" "[I" "StackRuns").before A U = true := va_Nw.use rfl (h.1 (RX3, 46, RX4, "to", "[I", "StackRuns") (List.mem_of_getElem? (i := 14) rfl))
theorem nf_RX0_73 {U : State} (h : NW U) (A : Array Value) : (Cond.fieldLinkNest RX0 73 RX4 "to" "[I" "StackRuns").before A U = true := va_Nw.use rfl (h.1 (RX0, 73, RX4, "to", "[I", "StackRuns") (List.mem_of_getElem? (i := 15) rfl))
theorem nf_RX1_50 {U : State} (h : NW U) (A : Array Value) : (Cond.fieldLinkNest RX1 50 RX4 "to" "[I" "StackRuns").before A U = true := va_Nw.use rfl (h.1 (RX1, 50, RX4, "to", "[I", "StackRuns") (List.mem_of_getElem? (i := 16) rfl))
theorem nf_RX5_38 {U : State} (h : NW U) (A : Array Value) : (Cond.fieldLinkNest RX5 38 RX4 "to" "[I" "StackRuns").before A U = true := va_Nw.use rfl (h.1 (RX5, 38, RX4, "to", "[I", "StackRuns") (List.mem_of_getElem? (i := 17) rfl))
theorem nf_RX2_92 {U : State} (h : NW U) (A : Array Value) : (Cond.fieldLinkNest RX2 92 RX4 "to" "[I" "StackRuns").before A U = true := va_Nw.use rfl (h.1 (RX2, 92, RX4, "to", "[I", "StackRuns") (List.mem_of_getElem? (i := 18) rfl))
theorem nf_RX3_43 {U : State} (h : NW U) (A : Array Value) : (Cond.fieldLinkNest RX3 43 RX4 "top" "[I" "StackRuns").before A U = true := va_Nw.use rfl (h.1 (RX3, 43, RX4, "top", "[I", "StackRuns") (List.mem_of_getElem? (i := 19) rfl))
theorem nf_RX0_67 {U : State} (h : NW U) (A : Array Value) : (Cond.fieldLinkNest RX0 67 RX4 "top" "[I" "StackRuns").before A U = true := va_Nw.use rfl (h.1 (RX0, 67, RX4, "top", "[I", "StackRuns") (List.mem_of_getElem? (i := 20) rfl))
theorem nf_RX1_55 {U : State} (h : NW U) (A : Array Value) : (Cond.fieldLinkNest RX1 55 RX4 "top" "[I" "StackRuns").before A U = true := va_Nw.use rfl (h.1 (RX1, 55, RX4, "top", "[I", "StackRuns") (List.mem_of_getElem? (i := 21) rfl))
theorem nf_RX5_35 {U : State} (h : NW U) (A : Array Value) : (Cond.fieldLinkNest RX5 35 RX4 "top" "[I" "StackRuns").before A U = true := va_Nw.use rfl (h.1 (RX5, 35, RX4, "top", "[I", "StackRuns") (List.mem_of_getElem? (i := 22) rfl))
theorem nf_RX2_89 {U : State} (h : NW U) (A : Array Value) : (Cond.fieldLinkNest RX2 89 RX4 "top" "[I" "StackRuns").before A U = true := va_Nw.use rfl (h.1 (RX2, 89, RX4, "top", "[I", "StackRuns") (List.mem_of_getElem? (i := 23) rfl))
theorem nf_RX3_64 {U : State} (h : NW U) (A : Array Value) : (Cond.fieldLinkNest RX3 64 RX4 "below" "[I" "StackRuns").before A U = true := va_Nw.use rfl (h.1 (RX3, 64, RX4, "below", "[I", "StackRuns") (List.mem_of_getElem? (i := 24) rfl))
theorem nf_RX5_26 {U : State} (h : NW U) (A : Array Value) : (Cond.fieldLinkNest RX5 26 RX4 "below" "[I" "StackRuns").before A U = true := va_Nw.use rfl (h.1 (RX5, 26, RX4, "below", "[I", "StackRuns") (List.mem_of_getElem? (i := 25) rfl))
theorem nf_RX0_88 {U : State} (h : NW U) (A : Array Value) : (Cond.fieldLinkNest RX0 88 RX4 "below" "[I" "StackRuns").before A U = true := va_Nw.use rfl (h.1 (RX0, 88, RX4, "below", "[I", "StackRuns") (List.mem_of_getElem? (i := 26) rfl))
theorem nf_RX1_58 {U : State} (h : NW U) (A : Array Value) : (Cond.fieldLinkNest RX1 58 RX4 "below" "[I" "StackRuns").before A U = true := va_Nw.use rfl (h.1 (RX1, 58, RX4, "below", "[I", "StackRuns") (List.mem_of_getElem? (i := 27) rfl))
theorem nf_RX2_102 {U : State} (h : NW U) (A : Array Value) : (Cond.fieldLinkNest RX2 102 RX4 "below" "[I" "StackRuns").before A U = true := va_Nw.use rfl (h.1 (RX2, 102, RX4, "below", "[I", "StackRuns") (List.mem_of_getElem? (i := 28) rfl))
theorem nf_RX2_47 {U : State} (h : NW U) (A : Array Value) : (Cond.fieldLinkNest RX2 47 RX5 "control" "I" "StackRuns").before A U = true := va_Nw.use rfl (h.1 (RX2, 47, RX5, "control", "I", "StackRuns") (List.mem_of_getElem? (i := 29) rfl))
theorem nf_RX6_90 {U : State} (h : NW U) (A : Array Value) : (Cond.fieldLinkNest RX6 90 RX5 "control" "I" "StackRuns").before A U = true := va_Nw.use rfl (h.1 (RX6, 90, RX5, "control", "I", "StackRuns") (List.mem_of_getElem? (i := 30) rfl))
theorem nf_RX0_104 {U : State} (h : NW U) (A : Array Value) : (Cond.fieldLinkNest RX0 104 RX5 "control" "I" "StackRuns").before A U = true := va_Nw.use rfl (h.1 (RX0, 104, RX5, "control", "I", "StackRuns") (List.mem_of_getElem? (i := 31) rfl))
theorem nf_RX1_23 {U : State} (h : NW U) (A : Array Value) : (Cond.fieldLinkNest RX1 23 RX5 "height" "I" "StackRuns").before A U = true := va_Nw.use rfl (h.1 (RX1, 23, RX5, "height", "I", "StackRuns") (List.mem_of_getElem? (i := 32) rfl))
theorem nf_RX6_84 {U : State} (h : NW U) (A : Array Value) : (Cond.fieldLinkNest RX6 84 RX5 "height" "I" "StackRuns").before A U = true := va_Nw.use rfl (h.1 (RX6, 84, RX5, "height", "I", "StackRuns") (List.mem_of_getElem? (i := 33) rfl))
theorem nf_RX2_52 {U : State} (h : NW U) (A : Array Value) : (Cond.fieldLinkNest RX2 52 RX5 "height" "I" "StackRuns").before A U = true := va_Nw.use rfl (h.1 (RX2, 52, RX5, "height", "I", "StackRuns") (List.mem_of_getElem? (i := 34) rfl))
theorem nf_RX0_109 {U : State} (h : NW U) (A : Array Value) : (Cond.fieldLinkNest RX0 109 RX5 "height" "I" "StackRuns").before A U = true := va_Nw.use rfl (h.1 (RX0, 109, RX5, "height", "I", "StackRuns") (List.mem_of_getElem? (i := 35) rfl))
theorem nf_RX1_29 {U : State} (h : NW U) (A : Array Value) : (Cond.fieldLinkNest RX1 29 RX5 "signs" "[I" "StackRuns").before A U = true := va_Nw.use rfl (h.1 (RX1, 29, RX5, "signs", "[I", "StackRuns") (List.mem_of_getElem? (i := 36) rfl))
theorem nf_RX2_55 {U : State} (h : NW U) (A : Array Value) : (Cond.fieldLinkNest RX2 55 RX5 "signs" "[I" "StackRuns").before A U = true := va_Nw.use rfl (h.1 (RX2, 55, RX5, "signs", "[I", "StackRuns") (List.mem_of_getElem? (i := 37) rfl))
theorem nf_RX6_93 {U : State} (h : NW U) (A : Array Value) : (Cond.fieldLinkNest RX6 93 RX5 "signs" "[I" "StackRuns").before A U = true := va_Nw.use rfl (h.1 (RX6, 93, RX5, "signs", "[I", "StackRuns") (List.mem_of_getElem? (i := 38) rfl))
theorem nf_RX0_112 {U : State} (h : NW U) (A : Array Value) : (Cond.fieldLinkNest RX0 112 RX5 "signs" "[I" "StackRuns").before A U = true := va_Nw.use rfl (h.1 (RX0, 112, RX5, "signs", "[I", "StackRuns") (List.mem_of_getElem? (i := 39) rfl))
theorem nf_RX0_50 {U : State} (h : NW U) (A : Array Value) : (Cond.fieldLinkNest RX0 50 RX3 "least" "[J" "StackRuns").before A U = true := va_Nw.use rfl (h.1 (RX0, 50, RX3, "least", "[J", "StackRuns") (List.mem_of_getElem? (i := 40) rfl))
theorem nf_RX2_78 {U : State} (h : NW U) (A : Array Value) : (Cond.fieldLinkNest RX2 78 RX3 "least" "[J" "StackRuns").before A U = true := va_Nw.use rfl (h.1 (RX2, 78, RX3, "least", "[J", "StackRuns") (List.mem_of_getElem? (i := 41) rfl))
theorem nf_RX6_161 {U : State} (h : NW U) (A : Array Value) : (Cond.fieldLinkNest RX6 161 RX3 "least" "[J" "StackRuns").before A U = true := va_Nw.use rfl (h.1 (RX6, 161, RX3, "least", "[J", "StackRuns") (List.mem_of_getElem? (i := 42) rfl))
theorem nf_RX6_200 {U : State} (h : NW U) (A : Array Value) : (Cond.fieldLinkNest RX6 200 RX1 "rows" "[J" "StackRuns").before A U = true := va_Nw.use rfl (h.1 (RX6, 200, RX1, "rows", "[J", "StackRuns") (List.mem_of_getElem? (i := 43) rfl))
theorem nf_RX6_119 {U : State} (h : NW U) (A : Array Value) : (Cond.fieldLinkNest RX6 119 RX2 "links" "I" "StackRuns").before A U = true := va_Nw.use rfl (h.1 (RX6, 119, RX2, "links", "I", "StackRuns") (List.mem_of_getElem? (i := 44) rfl))
theorem nm_RX6_11 {U : State} (h : NW U) : va_Nw (.methodLinkNest RX6 11 yX4_init "StackRuns") U := h.2.1 (RX6, 11, yX4_init, "StackRuns") (List.mem_of_getElem? (i := 0) rfl)
theorem nm_RX6_18 {U : State} (h : NW U) : va_Nw (.methodLinkNest RX6 18 yX5_init "StackRuns") U := h.2.1 (RX6, 18, yX5_init, "StackRuns") (List.mem_of_getElem? (i := 1) rfl)
theorem nm_RX6_31 {U : State} (h : NW U) : va_Nw (.methodLinkNest RX6 31 yX3_init "StackRuns") U := h.2.1 (RX6, 31, yX3_init, "StackRuns") (List.mem_of_getElem? (i := 2) rfl)
theorem nm_RX6_38 {U : State} (h : NW U) : va_Nw (.methodLinkNest RX6 38 yX0_init "StackRuns") U := h.2.1 (RX6, 38, yX0_init, "StackRuns") (List.mem_of_getElem? (i := 3) rfl)
theorem nm_RX6_45 {U : State} (h : NW U) : va_Nw (.methodLinkNest RX6 45 yX1_init "StackRuns") U := h.2.1 (RX6, 45, yX1_init, "StackRuns") (List.mem_of_getElem? (i := 4) rfl)
theorem nm_RX6_54 {U : State} (h : NW U) : va_Nw (.methodLinkNest RX6 54 yX2_init "StackRuns") U := h.2.1 (RX6, 54, yX2_init, "StackRuns") (List.mem_of_getElem? (i := 5) rfl)
theorem nm_RX5_22 {U : State} (h : NW U) : va_Nw (.methodLinkNest RX5 22 yX6_headOf "StackRuns") U := h.2.1 (RX5, 22, yX6_headOf, "StackRuns") (List.mem_of_getElem? (i := 6) rfl)
theorem nm_RX2_43 {U : State} (h : NW U) : va_Nw (.methodLinkNest RX2 43 yX6_hasBit "StackRuns") U := h.2.1 (RX2, 43, yX6_hasBit, "StackRuns") (List.mem_of_getElem? (i := 7) rfl)
theorem nm_RX3_53 {U : State} (h : NW U) : va_Nw (.methodLinkNest RX3 53 yX6_headOf "StackRuns") U := h.2.1 (RX3, 53, yX6_headOf, "StackRuns") (List.mem_of_getElem? (i := 8) rfl)
theorem nm_RX3_60 {U : State} (h : NW U) : va_Nw (.methodLinkNest RX3 60 yX6_sum "StackRuns") U := h.2.1 (RX3, 60, yX6_sum, "StackRuns") (List.mem_of_getElem? (i := 9) rfl)
theorem nm_RX2_95 {U : State} (h : NW U) : va_Nw (.methodLinkNest RX2 95 yX6_headOf "StackRuns") U := h.2.1 (RX2, 95, yX6_headOf, "StackRuns") (List.mem_of_getElem? (i := 10) rfl)
theorem nm_RX2_98 {U : State} (h : NW U) : va_Nw (.methodLinkNest RX2 98 yX6_sum "StackRuns") U := h.2.1 (RX2, 98, yX6_sum, "StackRuns") (List.mem_of_getElem? (i := 11) rfl)
theorem nm_RX1_41 {U : State} (h : NW U) : va_Nw (.methodLinkNest RX1 41 yX6_sum "StackRuns") U := h.2.1 (RX1, 41, yX6_sum, "StackRuns") (List.mem_of_getElem? (i := 12) rfl)
theorem nm_RX0_76 {U : State} (h : NW U) : va_Nw (.methodLinkNest RX0 76 yX6_headOf "StackRuns") U := h.2.1 (RX0, 76, yX6_headOf, "StackRuns") (List.mem_of_getElem? (i := 13) rfl)
theorem nm_RX0_84 {U : State} (h : NW U) : va_Nw (.methodLinkNest RX0 84 yX6_hasBit "StackRuns") U := h.2.1 (RX0, 84, yX6_hasBit, "StackRuns") (List.mem_of_getElem? (i := 14) rfl)

abbrev Ev : Type := Program × Launch × Env × Room × State × MethodId × Array Value × List Frame × Method × Code × (State → Prop) × va_G × (Nat → ClassId) × (Nat → Prop) × Heap × Nat
abbrev eP (E : Ev) : Program := E.1
abbrev eL (E : Ev) : Launch := E.2.1
abbrev eE (E : Ev) : Env := E.2.2.1
abbrev eR (E : Ev) : Room := E.2.2.2.1
abbrev eS (E : Ev) : State := E.2.2.2.2.1
abbrev eM (E : Ev) : MethodId := E.2.2.2.2.2.1
abbrev eG (E : Ev) : Array Value := E.2.2.2.2.2.2.1
abbrev eB (E : Ev) : List Frame := E.2.2.2.2.2.2.2.1
abbrev eT (E : Ev) : Method := E.2.2.2.2.2.2.2.2.1
abbrev eC (E : Ev) : Code := E.2.2.2.2.2.2.2.2.2.1
abbrev eQ (E : Ev) : State → Prop := E.2.2.2.2.2.2.2.2.2.2.1
abbrev eD (E : Ev) : va_G := E.2.2.2.2.2.2.2.2.2.2.2.1
abbrev eY (E : Ev) : Nat → ClassId := E.2.2.2.2.2.2.2.2.2.2.2.2.1
abbrev eA (E : Ev) : Nat → Prop := E.2.2.2.2.2.2.2.2.2.2.2.2.2.1
abbrev eH (E : Ev) : Heap := E.2.2.2.2.2.2.2.2.2.2.2.2.2.2.1
abbrev eN (E : Ev) : Nat := E.2.2.2.2.2.2.2.2.2.2.2.2.2.2.2
abbrev tysOf (cy : Nat → ClassId) : List (ClassId × FieldType) := [(cy 0, .int), (cy 1, .long), (cy 2, .boolean), (cy 3, .object RX2)]
def Go (E : Ev) (k n pc : Nat) (lv : List (Nat × Value)) (st : List Value) (ws : va_W) : Prop :=
  ∀ (H : Heap) (locs : List Loc) (ls : Array Slot), lv_has ls (eN E) lv → va_P (eD E) vwCl ws H → va_D (eA E) ws → va_S (eA E) (eH E) H locs → W (eP E) (eL E) (eE E) (eR E) (eS E) (eM E) (eG E) (eB E) (eT E) (eC E) H locs k n (eQ E) (F0 (eM E) pc ls st)
def Cx (E : Ev) (cc : ByteArray) (Ts : List Cond) (own : String) (rm : Room) (nL : Nat) : Prop := CallFix (eP E) (eM E) (eC E) cc (eN E) (eS E) (eG E) Ts own ∧ va_K (eD E) vwCl (tysOf (eY E)) (eS E) ∧ NW (eS E) ∧ (∀ q, (eH E).size ≤ q → eA E q) ∧ eR E = rm ∧ eN E = nL
/- numbers -/
def oI (a : Nat) : Int32 := nI a - 1
def bI (b : Bool) : Int32 := if b then nI 1 else nI 0
def rv (a : Nat) : Int64 := if a = 9000000000000000000 then -1 else lN a
abbrev aN (cy : Nat → ClassId) (a n : Nat) (X : Nat → Nat) : Nat × va_E := (a, .inl (cy 0, n, .inl (fun r => nI (X r))))
abbrev aO (cy : Nat → ClassId) (a n : Nat) (X : Nat → Nat) : Nat × va_E := (a, .inl (cy 0, n, .inl (fun r => oI (X r))))
abbrev aZ (cy : Nat → ClassId) (a n : Nat) (X : Nat → Bool) : Nat × va_E := (a, .inl (cy 2, n, .inl (fun r => bI (X r))))
abbrev aL (cy : Nat → ClassId) (a n : Nat) (X : Nat → Nat) : Nat × va_E := (a, .inl (cy 1, n, .inr (.inl (fun r => lN (X r)))))
abbrev aR (cy : Nat → ClassId) (a n : Nat) (X : Nat → Nat) : Nat × va_E := (a, .inl (cy 1, n, .inr (.inl (fun r => rv (X r)))))
abbrev aQ (cy : Nat → ClassId) (a n : Nat) (X : Nat → Nat) : Nat × va_E := (a, .inl (cy 3, n, .inr (.inr (.inr (.inr (fun r => some (X r)))))))
abbrev ob (a ci : Nat) (fs : List Value) : Nat × va_E := (a, .inr (ci, fs))
def up {α : Type} (f : Nat → α) (k : Nat) (x : α) : Nat → α := fun j => if j = k then x else f j
theorem up_same {α : Type} (f : Nat → α) (k : Nat) (x : α) : up f k x k = x := by simp [up]
theorem up_ne {α : Type} (f : Nat → α) {k j : Nat} (x : α) (h : j ≠ k) : up f k x j = f j := by simp [up, h]
theorem upd_N (X : Nat → Nat) (k v : Nat) : upd (fun r => nI (X r)) k (nI v) = fun r => nI (up X k v r) := by
  funext j; simp only [upd, up]; split <;> rfl
theorem upd_O (X : Nat → Nat) (k v : Nat) : upd (fun r => oI (X r)) k (oI v) = fun r => oI (up X k v r) := by
  funext j; simp only [upd, up]; split <;> rfl
theorem upd_Z (X : Nat → Bool) (k : Nat) (v : Bool) : upd (fun r => bI (X r)) k (bI v) = fun r => bI (up X k v r) := by
  funext j; simp only [upd, up]; split <;> rfl
theorem upd_L (X : Nat → Nat) (k v : Nat) : vp_updL (fun r => lN (X r)) k (lN v) = fun r => lN (up X k v r) := by
  funext j; simp only [vp_updL, up]; split <;> rfl
theorem upd_R (X : Nat → Nat) (k v : Nat) : vp_updL (fun r => rv (X r)) k (rv v) = fun r => rv (up X k v r) := by
  funext j; simp only [vp_updL, up]; split <;> rfl
theorem bI_1 : bI true = nI 1 := rfl
theorem bI_0 : bI false = nI 0 := rfl
theorem bI_t {b : Bool} (h : b = true) : bI b = nI 1 := by rw [h]; rfl
theorem bI_f {b : Bool} (h : b = false) : bI b = nI 0 := by rw [h]; rfl
theorem oI_0 : oI 0 = -1 := by decide
theorem oI_s (a : Nat) : oI (a + 1) = nI a := nI_pred a
theorem oI_eq {a : Nat} (h : a < 1000) : oI a = -1 ↔ a = 0 := by
  cases a with
  | zero => simp [oI_0]
  | succ a =>
    rw [oI_s]
    constructor
    · intro e
      have := nI_toInt (n := a) (by omega)
      rw [e] at this
      have h2 : (-1 : Int32).toInt = -1 := by decide
      omega
    · intro e; omega
theorem bI_eq0 (b : Bool) : bI b = 0 ↔ b = false := by cases b <;> decide
theorem bI_ne0 (b : Bool) : ¬ bI b = 0 ↔ b = true := by cases b <;> decide
theorem nI_eq0 {a : Nat} (h : a < 2 ^ 31) : nI a = 0 ↔ a = 0 := by
  have := nI_eq (a := a) (b := 0) h (by decide)
  rw [nI_0] at this; exact this
theorem nI_le0 {a : Nat} (h : a < 2 ^ 31) : nI a ≤ 0 ↔ a = 0 := by
  have := nI_leI (a := a) (b := 0) h (by decide)
  rw [nI_0] at this; rw [this]; omega
theorem nI_gt0 {a : Nat} (h : a < 2 ^ 31) : 0 < nI a ↔ 0 < a := by
  have := nI_ltI (a := 0) (b := a) (by decide) h
  rw [nI_0] at this; exact this
section GO
variable {E : Ev} {cc : ByteArray} {Ts : List Cond} {own : String} {rm : Room} {nL k n pc : Nat} {lv : List (Nat × Value)} {st : List Value} {ws : va_W}
theorem go_lv {lv' : List (Nat × Value)} (ks : List Nat) (h : lv_pick lv ks = lv') (kk : Go E k n pc lv' st ws) : Go E k n pc lv st ws := fun H locs ls hl hP hD hS => kk H locs ls (lv_sub hl ks h) hP hD hS
theorem go_eq {lv' : List (Nat × Value)} {st' : List Value} {ws' : va_W} (h1 : lv = lv') (h2 : st = st') (h3 : ws = ws') (kk : Go E k n pc lv' st' ws') : Go E k n pc lv st ws := by
  subst h1; subst h2; subst h3; exact kk
theorem go_st {v v' : Value} (h : v = v') (kk : Go E k n pc lv (v' :: st) ws) : Go E k n pc lv (v :: st) ws := h ▸ kk
theorem go_for (N : Nat) (G : Nat → Prop) (hs : ∀ i, i ≤ N → (i < N → G (i + 1)) → G i) : ∀ i, i ≤ N → G i := by
  intro i hi
  obtain ⟨d, hd⟩ : ∃ d, i + d = N := ⟨N - i, by omega⟩
  induction d generalizing i with
  | zero => exact hs i hi (fun h => absurd h (by omega))
  | succ d ih => exact hs i hi (fun h => ih (i + 1) (by omega) (by omega))
theorem go_down (G : Nat → Prop) (hs : ∀ i, (∀ j, i = j + 1 → G j) → G i) : ∀ i, G i := by
  intro i
  induction i with
  | zero => exact hs 0 (fun j h => absurd h (by omega))
  | succ i ih => exact hs (i + 1) (fun j h => by have : i = j := by omega
                                                 subst this; exact ih)

theorem g_aload_n (C : Cx E cc Ts own rm nL) {f : Fin 4} {i : Nat} {x : Nat} (d : decode cc pc = .ok (.aload_n f, 1)) (hi : (f : Nat) = i) (q : Nat) (hq : pc + 1 = q) (j : Nat) (hj : lv[j]? = some (i, .ref x)) (kk : Go E k n q lv (.ref x :: st) ws) : Go E k n pc lv st ws := by
  subst hq; exact fun H locs ls hl hP hD hS => lv_aload_n C.1.1 C.1.2.1 d hi (lv_at hl j hj) (kk H locs ls hl hP hD hS)
theorem g_aload (C : Cx E cc Ts own rm nL) {i : Nat} {x : Nat} (d : decode cc pc = .ok (.aload i, 2)) (q : Nat) (hq : pc + 2 = q) (j : Nat) (hj : lv[j]? = some (i, .ref x)) (kk : Go E k n q lv (.ref x :: st) ws) : Go E k n pc lv st ws := by
  subst hq; exact fun H locs ls hl hP hD hS => lv_aload C.1.1 C.1.2.1 d (lv_at hl j hj) (kk H locs ls hl hP hD hS)
theorem g_iload_n (C : Cx E cc Ts own rm nL) {f : Fin 4} {i : Nat} {x : Int32} (d : decode cc pc = .ok (.iload_n f, 1)) (hi : (f : Nat) = i) (q : Nat) (hq : pc + 1 = q) (j : Nat) (hj : lv[j]? = some (i, .int x)) (kk : Go E k n q lv (.int x :: st) ws) : Go E k n pc lv st ws := by
  subst hq; exact fun H locs ls hl hP hD hS => lv_iload_n C.1.1 C.1.2.1 d hi (lv_at hl j hj) (kk H locs ls hl hP hD hS)
theorem g_iload (C : Cx E cc Ts own rm nL) {i : Nat} {x : Int32} (d : decode cc pc = .ok (.iload i, 2)) (q : Nat) (hq : pc + 2 = q) (j : Nat) (hj : lv[j]? = some (i, .int x)) (kk : Go E k n q lv (.int x :: st) ws) : Go E k n pc lv st ws := by
  subst hq; exact fun H locs ls hl hP hD hS => lv_iload C.1.1 C.1.2.1 d (lv_at hl j hj) (kk H locs ls hl hP hD hS)
theorem g_lload_n (C : Cx E cc Ts own rm nL) {f : Fin 4} {i : Nat} {x : Int64} (d : decode cc pc = .ok (.lload_n f, 1)) (hi : (f : Nat) = i) (q : Nat) (hq : pc + 1 = q) (j : Nat) (hj : lv[j]? = some (i, .long x)) (kk : Go E k n q lv (.long x :: st) ws) : Go E k n pc lv st ws := by
  subst hq; exact fun H locs ls hl hP hD hS => lv_lload_n C.1.1 C.1.2.1 d hi (lv_at hl j hj) (kk H locs ls hl hP hD hS)
theorem g_lload (C : Cx E cc Ts own rm nL) {i : Nat} {x : Int64} (d : decode cc pc = .ok (.lload i, 2)) (q : Nat) (hq : pc + 2 = q) (j : Nat) (hj : lv[j]? = some (i, .long x)) (kk : Go E k n q lv (.long x :: st) ws) : Go E k n pc lv st ws := by
  subst hq; exact fun H locs ls hl hP hD hS => lv_lload C.1.1 C.1.2.1 d (lv_at hl j hj) (kk H locs ls hl hP hD hS)
theorem g_astore_n (C : Cx E cc Ts own rm nL) {f : Fin 4} {i : Nat} {x : Nat} {lv' : List (Nat × Value)} (d : decode cc pc = .ok (.astore_n f, 1)) (hi : (f : Nat) = i) (q : Nat) (hq : pc + 1 = q) (hn : i < nL) (hl' : (i, Value.ref x) :: lv.filter (fun q => !(q.1 == i) && !(q.1 + 1 == i && q.2.category == 2)) = lv') (kk : Go E k n q lv' st ws) : Go E k n pc lv (.ref x :: st) ws := by
  subst hq; exact fun H locs ls hl hP hD hS => lv_astore_n C.1.1 C.1.2.1 d hi hl (by rw [C.2.2.2.2.2]; exact hn) hl' (fun ls2 hl2 => kk H locs ls2 hl2 hP hD hS)
theorem g_astore (C : Cx E cc Ts own rm nL) {i : Nat} {x : Nat} {lv' : List (Nat × Value)} (d : decode cc pc = .ok (.astore i, 2)) (q : Nat) (hq : pc + 2 = q) (hn : i < nL) (hl' : (i, Value.ref x) :: lv.filter (fun q => !(q.1 == i) && !(q.1 + 1 == i && q.2.category == 2)) = lv') (kk : Go E k n q lv' st ws) : Go E k n pc lv (.ref x :: st) ws := by
  subst hq; exact fun H locs ls hl hP hD hS => lv_astore C.1.1 C.1.2.1 d hl (by rw [C.2.2.2.2.2]; exact hn) hl' (fun ls2 hl2 => kk H locs ls2 hl2 hP hD hS)
theorem g_istore_n (C : Cx E cc Ts own rm nL) {f : Fin 4} {i : Nat} {x : Int32} {lv' : List (Nat × Value)} (d : decode cc pc = .ok (.istore_n f, 1)) (hi : (f : Nat) = i) (q : Nat) (hq : pc + 1 = q) (hn : i < nL) (hl' : (i, Value.int x) :: lv.filter (fun q => !(q.1 == i) && !(q.1 + 1 == i && q.2.category == 2)) = lv') (kk : Go E k n q lv' st ws) : Go E k n pc lv (.int x :: st) ws := by
  subst hq; exact fun H locs ls hl hP hD hS => lv_istore_n C.1.1 C.1.2.1 d hi hl (by rw [C.2.2.2.2.2]; exact hn) hl' (fun ls2 hl2 => kk H locs ls2 hl2 hP hD hS)
theorem g_istore (C : Cx E cc Ts own rm nL) {i : Nat} {x : Int32} {lv' : List (Nat × Value)} (d : decode cc pc = .ok (.istore i, 2)) (q : Nat) (hq : pc + 2 = q) (hn : i < nL) (hl' : (i, Value.int x) :: lv.filter (fun q => !(q.1 == i) && !(q.1 + 1 == i && q.2.category == 2)) = lv') (kk : Go E k n q lv' st ws) : Go E k n pc lv (.int x :: st) ws := by
  subst hq; exact fun H locs ls hl hP hD hS => lv_istore C.1.1 C.1.2.1 d hl (by rw [C.2.2.2.2.2]; exact hn) hl' (fun ls2 hl2 => kk H locs ls2 hl2 hP hD hS)
theorem g_lstore_n (C : Cx E cc Ts own rm nL) {f : Fin 4} {i : Nat} {x : Int64} {lv' : List (Nat × Value)} (d : decode cc pc = .ok (.lstore_n f, 1)) (hi : (f : Nat) = i) (q : Nat) (hq : pc + 1 = q) (hn : i + 1 < nL) (hl' : (i, Value.long x) :: lv.filter (fun q => !(q.1 == i) && (!(q.1 == i + 1) && !(q.1 + 1 == i && q.2.category == 2))) = lv') (kk : Go E k n q lv' st ws) : Go E k n pc lv (.long x :: st) ws := by
  subst hq; exact fun H locs ls hl hP hD hS => lv_lstore_n C.1.1 C.1.2.1 d hi hl (by rw [C.2.2.2.2.2]; exact hn) hl' (fun ls2 hl2 => kk H locs ls2 hl2 hP hD hS)
theorem g_lstore (C : Cx E cc Ts own rm nL) {i : Nat} {x : Int64} {lv' : List (Nat × Value)} (d : decode cc pc = .ok (.lstore i, 2)) (q : Nat) (hq : pc + 2 = q) (hn : i + 1 < nL) (hl' : (i, Value.long x) :: lv.filter (fun q => !(q.1 == i) && (!(q.1 == i + 1) && !(q.1 + 1 == i && q.2.category == 2))) = lv') (kk : Go E k n q lv' st ws) : Go E k n pc lv (.long x :: st) ws := by
  subst hq; exact fun H locs ls hl hP hD hS => lv_lstore C.1.1 C.1.2.1 d hl (by rw [C.2.2.2.2.2]; exact hn) hl' (fun ls2 hl2 => kk H locs ls2 hl2 hP hD hS)
theorem g_iinc (C : Cx E cc Ts own rm nL) {i a : Nat} {lv' : List (Nat × Value)} (d : decode cc pc = .ok (.iinc i 1, 3)) (q : Nat) (hq : pc + 3 = q) (j : Nat) (hj : lv[j]? = some (i, .int (nI a))) (hn : i < nL) (hl' : (i, Value.int (nI (a + 1))) :: lv.filter (fun q => !(q.1 == i) && !(q.1 + 1 == i && q.2.category == 2)) = lv') (kk : Go E k n q lv' st ws) : Go E k n pc lv st ws := by
  subst hq; exact fun H locs ls hl hP hD hS => lv_iinc (v := nI (a + 1)) C.1.1 C.1.2.1 d hl hj (by rw [← nI_1]; rfl) (by rw [C.2.2.2.2.2]; exact hn) hl' (fun ls2 hl2 => kk H locs ls2 hl2 hP hD hS)
theorem g_idec (C : Cx E cc Ts own rm nL) {i a : Nat} {lv' : List (Nat × Value)} (d : decode cc pc = .ok (.iinc i (-1), 3)) (q : Nat) (hq : pc + 3 = q) (j : Nat) (hj : lv[j]? = some (i, .int (oI (a + 1)))) (hn : i < nL) (hl' : (i, Value.int (oI a)) :: lv.filter (fun q => !(q.1 == i) && !(q.1 + 1 == i && q.2.category == 2)) = lv') (kk : Go E k n q lv' st ws) : Go E k n pc lv st ws := by
  subst hq; exact fun H locs ls hl hP hD hS => lv_iinc (v := oI a) C.1.1 C.1.2.1 d hl hj (by rw [oI_s]; show nI a + (-1) = nI a - 1; rw [Int32.sub_eq_add_neg]) (by rw [C.2.2.2.2.2]; exact hn) hl' (fun ls2 hl2 => kk H locs ls2 hl2 hP hD hS)
theorem g_iconst (C : Cx E cc Ts own rm nL) {z : Int} {v : Int32} (d : decode cc pc = .ok (.iconst z, 1)) (hv : Int32.ofInt z = v) (q : Nat) (hq : pc + 1 = q) (kk : Go E k n q lv (.int v :: st) ws) : Go E k n pc lv st ws := by
  subst hq; exact fun H locs ls hl hP hD hS => lv_iconst C.1.1 C.1.2.1 d hv (kk H locs ls hl hP hD hS)
theorem g_bipush (C : Cx E cc Ts own rm nL) {z : Int} {v : Int32} (d : decode cc pc = .ok (.bipush z, 2)) (hv : (Int8.ofInt z).toInt32 = v) (q : Nat) (hq : pc + 2 = q) (kk : Go E k n q lv (.int v :: st) ws) : Go E k n pc lv st ws := by
  subst hq; exact fun H locs ls hl hP hD hS => lv_bipush C.1.1 C.1.2.1 d hv (kk H locs ls hl hP hD hS)
theorem g_sipush (C : Cx E cc Ts own rm nL) {z : Int} {v : Int32} (d : decode cc pc = .ok (.sipush z, 3)) (hv : (Int16.ofInt z).toInt32 = v) (q : Nat) (hq : pc + 3 = q) (kk : Go E k n q lv (.int v :: st) ws) : Go E k n pc lv st ws := by
  subst hq; exact fun H locs ls hl hP hD hS => lv_sipush C.1.1 C.1.2.1 d hv (kk H locs ls hl hP hD hS)
theorem g_lconst (C : Cx E cc Ts own rm nL) {z : Fin 2} {v : Int64} (d : decode cc pc = .ok (.lconst z, 1)) (hv : Int64.ofNat (z : Nat) = v) (q : Nat) (hq : pc + 1 = q) (kk : Go E k n q lv (.long v :: st) ws) : Go E k n pc lv st ws := by
  subst hq; exact fun H locs ls hl hP hD hS => lv_lconst C.1.1 C.1.2.1 d hv (kk H locs ls hl hP hD hS)
theorem g_ldc2 (C : Cx E cc Ts own rm nL) {i : Nat} {v v' : Int64} (hc : (Jvm.Cond.constantLong own i v).before (eG E) (eS E) = true) (hv : v = v') (d : decode cc pc = .ok (.ldc2_w i, 3)) (q : Nat) (hq : pc + 3 = q) (kk : Go E k n q lv (.long v' :: st) ws) : Go E k n pc lv st ws := by
  subst hq; subst hv; exact fun H locs ls hl hP hD hS => lv_ldc2 C.1.1 C.1.2.1 C.1.2.2.2.1 hc d (kk H locs ls hl hP hD hS)
theorem g_iadd (C : Cx E cc Ts own rm nL) {x y z : Int32} (d : decode cc pc = .ok (.iadd, 1)) (q : Nat) (hq : pc + 1 = q) (hz : x + y = z) (kk : Go E k n q lv (.int z :: st) ws) : Go E k n pc lv (.int y :: .int x :: st) ws := by
  subst hq; subst hz; exact fun H locs ls hl hP hD hS => lv_iadd C.1.1 C.1.2.1 d (kk H locs ls hl hP hD hS)
theorem g_isub (C : Cx E cc Ts own rm nL) {x y z : Int32} (d : decode cc pc = .ok (.isub, 1)) (q : Nat) (hq : pc + 1 = q) (hz : x - y = z) (kk : Go E k n q lv (.int z :: st) ws) : Go E k n pc lv (.int y :: .int x :: st) ws := by
  subst hq; subst hz; exact fun H locs ls hl hP hD hS => lv_isub C.1.1 C.1.2.1 d (kk H locs ls hl hP hD hS)
theorem g_imul (C : Cx E cc Ts own rm nL) {x y z : Int32} (d : decode cc pc = .ok (.imul, 1)) (q : Nat) (hq : pc + 1 = q) (hz : x * y = z) (kk : Go E k n q lv (.int z :: st) ws) : Go E k n pc lv (.int y :: .int x :: st) ws := by
  subst hq; subst hz; exact fun H locs ls hl hP hD hS => lv_imul C.1.1 C.1.2.1 d (kk H locs ls hl hP hD hS)
theorem g_iand (C : Cx E cc Ts own rm nL) {x y z : Int32} (d : decode cc pc = .ok (.iand, 1)) (q : Nat) (hq : pc + 1 = q) (hz : x &&& y = z) (kk : Go E k n q lv (.int z :: st) ws) : Go E k n pc lv (.int y :: .int x :: st) ws := by
  subst hq; subst hz; exact fun H locs ls hl hP hD hS => lv_iand C.1.1 C.1.2.1 d (kk H locs ls hl hP hD hS)
theorem g_ior (C : Cx E cc Ts own rm nL) {x y z : Int32} (d : decode cc pc = .ok (.ior, 1)) (q : Nat) (hq : pc + 1 = q) (hz : x ||| y = z) (kk : Go E k n q lv (.int z :: st) ws) : Go E k n pc lv (.int y :: .int x :: st) ws := by
  subst hq; subst hz; exact fun H locs ls hl hP hD hS => lv_ior C.1.1 C.1.2.1 d (kk H locs ls hl hP hD hS)
theorem g_ixor (C : Cx E cc Ts own rm nL) {x y z : Int32} (d : decode cc pc = .ok (.ixor, 1)) (q : Nat) (hq : pc + 1 = q) (hz : x ^^^ y = z) (kk : Go E k n q lv (.int z :: st) ws) : Go E k n pc lv (.int y :: .int x :: st) ws := by
  subst hq; subst hz; exact fun H locs ls hl hP hD hS => lv_ixor C.1.1 C.1.2.1 d (kk H locs ls hl hP hD hS)
theorem g_ishl (C : Cx E cc Ts own rm nL) {x y z : Int32} (d : decode cc pc = .ok (.ishl, 1)) (q : Nat) (hq : pc + 1 = q) (hz : x <<< (y &&& 31) = z) (kk : Go E k n q lv (.int z :: st) ws) : Go E k n pc lv (.int y :: .int x :: st) ws := by
  subst hq; subst hz; exact fun H locs ls hl hP hD hS => lv_ishl C.1.1 C.1.2.1 d (kk H locs ls hl hP hD hS)
theorem g_ishr (C : Cx E cc Ts own rm nL) {x y z : Int32} (d : decode cc pc = .ok (.ishr, 1)) (q : Nat) (hq : pc + 1 = q) (hz : x >>> (y &&& 31) = z) (kk : Go E k n q lv (.int z :: st) ws) : Go E k n pc lv (.int y :: .int x :: st) ws := by
  subst hq; subst hz; exact fun H locs ls hl hP hD hS => lv_ishr C.1.1 C.1.2.1 d (kk H locs ls hl hP hD hS)
theorem g_idiv (C : Cx E cc Ts own rm nL) {x y z : Int32} (d : decode cc pc = .ok (.idiv, 1)) (hne : ¬ y = 0) (q : Nat) (hq : pc + 1 = q) (hz : x / y = z) (kk : Go E k n q lv (.int z :: st) ws) : Go E k n pc lv (.int y :: .int x :: st) ws := by
  subst hq; subst hz; exact fun H locs ls hl hP hD hS => lv_idiv C.1.1 C.1.2.1 d hne (kk H locs ls hl hP hD hS)
theorem g_irem (C : Cx E cc Ts own rm nL) {x y z : Int32} (d : decode cc pc = .ok (.irem, 1)) (hne : ¬ y = 0) (q : Nat) (hq : pc + 1 = q) (hz : x - x / y * y = z) (kk : Go E k n q lv (.int z :: st) ws) : Go E k n pc lv (.int y :: .int x :: st) ws := by
  subst hq; subst hz; exact fun H locs ls hl hP hD hS => lv_irem C.1.1 C.1.2.1 d hne (kk H locs ls hl hP hD hS)
theorem g_ladd (C : Cx E cc Ts own rm nL) {x y z : Int64} (d : decode cc pc = .ok (.ladd, 1)) (q : Nat) (hq : pc + 1 = q) (hz : x + y = z) (kk : Go E k n q lv (.long z :: st) ws) : Go E k n pc lv (.long y :: .long x :: st) ws := by
  subst hq; subst hz; exact fun H locs ls hl hP hD hS => lv_ladd C.1.1 C.1.2.1 d (kk H locs ls hl hP hD hS)
theorem g_lsub (C : Cx E cc Ts own rm nL) {x y z : Int64} (d : decode cc pc = .ok (.lsub, 1)) (q : Nat) (hq : pc + 1 = q) (hz : x - y = z) (kk : Go E k n q lv (.long z :: st) ws) : Go E k n pc lv (.long y :: .long x :: st) ws := by
  subst hq; subst hz; exact fun H locs ls hl hP hD hS => lv_lsub C.1.1 C.1.2.1 d (kk H locs ls hl hP hD hS)
theorem g_i2l (C : Cx E cc Ts own rm nL) {x : Int32} {v : Int64} (d : decode cc pc = .ok (.i2l, 1)) (hv : x.toInt64 = v) (q : Nat) (hq : pc + 1 = q) (kk : Go E k n q lv (.long v :: st) ws) : Go E k n pc lv (.int x :: st) ws := by
  subst hq; exact fun H locs ls hl hP hD hS => lv_i2l C.1.1 C.1.2.1 d hv (kk H locs ls hl hP hD hS)
theorem g_dup (C : Cx E cc Ts own rm nL) {v : Value} (d : decode cc pc = .ok (.dup, 1)) (hv : v.category = 1) (q : Nat) (hq : pc + 1 = q) (kk : Go E k n q lv (v :: v :: st) ws) : Go E k n pc lv (v :: st) ws := by
  subst hq; exact fun H locs ls hl hP hD hS => lv_dup C.1.1 C.1.2.1 d hv (kk H locs ls hl hP hD hS)
theorem g_dup2 (C : Cx E cc Ts own rm nL) {v u : Value} (d : decode cc pc = .ok (.dup2, 1)) (hv : v.category = 1) (hu : u.category = 1) (q : Nat) (hq : pc + 1 = q) (kk : Go E k n q lv (v :: u :: v :: u :: st) ws) : Go E k n pc lv (v :: u :: st) ws := by
  subst hq; exact fun H locs ls hl hP hD hS => lv_dup2_11 C.1.1 C.1.2.1 d hv hu (kk H locs ls hl hP hD hS)
theorem g_goto (C : Cx E cc Ts own rm nL) {off : Int} (d : decode cc pc = .ok (.goto off, 3)) (t : Nat) (ht : (pc : Int) + off = (t : Int)) (kk : Go E k n t lv st ws) : Go E k n pc lv st ws := fun H locs ls hl hP hD hS => lv_goto C.1.1 C.1.2.1 d ht (kk H locs ls hl hP hD hS)
theorem g_icmp_eq (C : Cx E cc Ts own rm nL) {x y : Int32} {off : Int} {X : Prop} (d : decode cc pc = .ok (.if_icmp .eq off, 3)) (t : Nat) (ht : (pc : Int) + off = (t : Int)) (q : Nat) (hq : pc + 3 = q) (hX : x = y ↔ X) (kt : X → Go E k n t lv st ws) (kf : ¬ X → Go E k n q lv st ws) : Go E k n pc lv (.int y :: .int x :: st) ws := by
  subst hq; exact fun H locs ls hl hP hD hS => lv_icmp_eq C.1.1 C.1.2.1 d ht (fun c => kt (hX.mp c) H locs ls hl hP hD hS) (fun c => kf (fun h => c (hX.mpr h)) H locs ls hl hP hD hS)
theorem g_if_eq (C : Cx E cc Ts own rm nL) {x : Int32} {off : Int} {X : Prop} (d : decode cc pc = .ok (.ifCond .eq off, 3)) (t : Nat) (ht : (pc : Int) + off = (t : Int)) (q : Nat) (hq : pc + 3 = q) (hX : x = 0 ↔ X) (kt : X → Go E k n t lv st ws) (kf : ¬ X → Go E k n q lv st ws) : Go E k n pc lv (.int x :: st) ws := by
  subst hq; exact fun H locs ls hl hP hD hS => lv_if_eq C.1.1 C.1.2.1 d ht (fun c => kt (hX.mp c) H locs ls hl hP hD hS) (fun c => kf (fun h => c (hX.mpr h)) H locs ls hl hP hD hS)
theorem g_lcmp_eq (C : Cx E cc Ts own rm nL) {x y : Int64} {off : Int} {X : Prop} (d1 : decode cc pc = .ok (.lcmp, 1)) {p1 : Nat} (h1 : pc + 1 = p1) (d : decode cc p1 = .ok (.ifCond .eq off, 3)) (t : Nat) (ht : (p1 : Int) + off = (t : Int)) (q : Nat) (hq : p1 + 3 = q) (hX : x = y ↔ X) (kt : X → Go E k n t lv st ws) (kf : ¬ X → Go E k n q lv st ws) : Go E k n pc lv (.long y :: .long x :: st) ws := by
  subst h1; exact fun H locs ls hl hP hD hS => W.lcmp C.1.1 C.1.2.1 d1 (g_if_eq (x := lg_cmp x y) C d t ht q hq ((lg_cmp_eq x y).trans hX) kt kf H locs ls hl hP hD hS)
theorem g_icmp_ne (C : Cx E cc Ts own rm nL) {x y : Int32} {off : Int} {X : Prop} (d : decode cc pc = .ok (.if_icmp .ne off, 3)) (t : Nat) (ht : (pc : Int) + off = (t : Int)) (q : Nat) (hq : pc + 3 = q) (hX : ¬ x = y ↔ X) (kt : X → Go E k n t lv st ws) (kf : ¬ X → Go E k n q lv st ws) : Go E k n pc lv (.int y :: .int x :: st) ws := by
  subst hq; exact fun H locs ls hl hP hD hS => lv_icmp_ne C.1.1 C.1.2.1 d ht (fun c => kt (hX.mp c) H locs ls hl hP hD hS) (fun c => kf (fun h => (hX.mpr h) c) H locs ls hl hP hD hS)
theorem g_if_ne (C : Cx E cc Ts own rm nL) {x : Int32} {off : Int} {X : Prop} (d : decode cc pc = .ok (.ifCond .ne off, 3)) (t : Nat) (ht : (pc : Int) + off = (t : Int)) (q : Nat) (hq : pc + 3 = q) (hX : ¬ x = 0 ↔ X) (kt : X → Go E k n t lv st ws) (kf : ¬ X → Go E k n q lv st ws) : Go E k n pc lv (.int x :: st) ws := by
  subst hq; exact fun H locs ls hl hP hD hS => lv_if_ne C.1.1 C.1.2.1 d ht (fun c => kt (hX.mp c) H locs ls hl hP hD hS) (fun c => kf (fun h => (hX.mpr h) c) H locs ls hl hP hD hS)
theorem g_lcmp_ne (C : Cx E cc Ts own rm nL) {x y : Int64} {off : Int} {X : Prop} (d1 : decode cc pc = .ok (.lcmp, 1)) {p1 : Nat} (h1 : pc + 1 = p1) (d : decode cc p1 = .ok (.ifCond .ne off, 3)) (t : Nat) (ht : (p1 : Int) + off = (t : Int)) (q : Nat) (hq : p1 + 3 = q) (hX : ¬ x = y ↔ X) (kt : X → Go E k n t lv st ws) (kf : ¬ X → Go E k n q lv st ws) : Go E k n pc lv (.long y :: .long x :: st) ws := by
  subst h1; exact fun H locs ls hl hP hD hS => W.lcmp C.1.1 C.1.2.1 d1 (g_if_ne (x := lg_cmp x y) C d t ht q hq ((not_congr (lg_cmp_eq x y)).trans hX) kt kf H locs ls hl hP hD hS)
theorem g_icmp_lt (C : Cx E cc Ts own rm nL) {x y : Int32} {off : Int} {X : Prop} (d : decode cc pc = .ok (.if_icmp .lt off, 3)) (t : Nat) (ht : (pc : Int) + off = (t : Int)) (q : Nat) (hq : pc + 3 = q) (hX : x < y ↔ X) (kt : X → Go E k n t lv st ws) (kf : ¬ X → Go E k n q lv st ws) : Go E k n pc lv (.int y :: .int x :: st) ws := by
  subst hq; exact fun H locs ls hl hP hD hS => lv_icmp_lt C.1.1 C.1.2.1 d ht (fun c => kt (hX.mp c) H locs ls hl hP hD hS) (fun c => kf (fun h => c (hX.mpr h)) H locs ls hl hP hD hS)
theorem g_if_lt (C : Cx E cc Ts own rm nL) {x : Int32} {off : Int} {X : Prop} (d : decode cc pc = .ok (.ifCond .lt off, 3)) (t : Nat) (ht : (pc : Int) + off = (t : Int)) (q : Nat) (hq : pc + 3 = q) (hX : x < 0 ↔ X) (kt : X → Go E k n t lv st ws) (kf : ¬ X → Go E k n q lv st ws) : Go E k n pc lv (.int x :: st) ws := by
  subst hq; exact fun H locs ls hl hP hD hS => lv_if_lt C.1.1 C.1.2.1 d ht (fun c => kt (hX.mp c) H locs ls hl hP hD hS) (fun c => kf (fun h => c (hX.mpr h)) H locs ls hl hP hD hS)
theorem g_lcmp_lt (C : Cx E cc Ts own rm nL) {x y : Int64} {off : Int} {X : Prop} (d1 : decode cc pc = .ok (.lcmp, 1)) {p1 : Nat} (h1 : pc + 1 = p1) (d : decode cc p1 = .ok (.ifCond .lt off, 3)) (t : Nat) (ht : (p1 : Int) + off = (t : Int)) (q : Nat) (hq : p1 + 3 = q) (hX : x < y ↔ X) (kt : X → Go E k n t lv st ws) (kf : ¬ X → Go E k n q lv st ws) : Go E k n pc lv (.long y :: .long x :: st) ws := by
  subst h1; exact fun H locs ls hl hP hD hS => W.lcmp C.1.1 C.1.2.1 d1 (g_if_lt (x := lg_cmp x y) C d t ht q hq ((lg_cmp_lt x y).trans hX) kt kf H locs ls hl hP hD hS)
theorem g_icmp_ge (C : Cx E cc Ts own rm nL) {x y : Int32} {off : Int} {X : Prop} (d : decode cc pc = .ok (.if_icmp .ge off, 3)) (t : Nat) (ht : (pc : Int) + off = (t : Int)) (q : Nat) (hq : pc + 3 = q) (hX : y ≤ x ↔ X) (kt : X → Go E k n t lv st ws) (kf : ¬ X → Go E k n q lv st ws) : Go E k n pc lv (.int y :: .int x :: st) ws := by
  subst hq; exact fun H locs ls hl hP hD hS => lv_icmp_ge C.1.1 C.1.2.1 d ht (fun c => kt (hX.mp c) H locs ls hl hP hD hS) (fun c => kf (fun h => c (hX.mpr h)) H locs ls hl hP hD hS)
theorem g_if_ge (C : Cx E cc Ts own rm nL) {x : Int32} {off : Int} {X : Prop} (d : decode cc pc = .ok (.ifCond .ge off, 3)) (t : Nat) (ht : (pc : Int) + off = (t : Int)) (q : Nat) (hq : pc + 3 = q) (hX : 0 ≤ x ↔ X) (kt : X → Go E k n t lv st ws) (kf : ¬ X → Go E k n q lv st ws) : Go E k n pc lv (.int x :: st) ws := by
  subst hq; exact fun H locs ls hl hP hD hS => lv_if_ge C.1.1 C.1.2.1 d ht (fun c => kt (hX.mp c) H locs ls hl hP hD hS) (fun c => kf (fun h => c (hX.mpr h)) H locs ls hl hP hD hS)
theorem g_lcmp_ge (C : Cx E cc Ts own rm nL) {x y : Int64} {off : Int} {X : Prop} (d1 : decode cc pc = .ok (.lcmp, 1)) {p1 : Nat} (h1 : pc + 1 = p1) (d : decode cc p1 = .ok (.ifCond .ge off, 3)) (t : Nat) (ht : (p1 : Int) + off = (t : Int)) (q : Nat) (hq : p1 + 3 = q) (hX : y ≤ x ↔ X) (kt : X → Go E k n t lv st ws) (kf : ¬ X → Go E k n q lv st ws) : Go E k n pc lv (.long y :: .long x :: st) ws := by
  subst h1; exact fun H locs ls hl hP hD hS => W.lcmp C.1.1 C.1.2.1 d1 (g_if_ge (x := lg_cmp x y) C d t ht q hq ((lg_cmp_ge x y).trans hX) kt kf H locs ls hl hP hD hS)
theorem g_icmp_gt (C : Cx E cc Ts own rm nL) {x y : Int32} {off : Int} {X : Prop} (d : decode cc pc = .ok (.if_icmp .gt off, 3)) (t : Nat) (ht : (pc : Int) + off = (t : Int)) (q : Nat) (hq : pc + 3 = q) (hX : y < x ↔ X) (kt : X → Go E k n t lv st ws) (kf : ¬ X → Go E k n q lv st ws) : Go E k n pc lv (.int y :: .int x :: st) ws := by
  subst hq; exact fun H locs ls hl hP hD hS => lv_icmp_gt C.1.1 C.1.2.1 d ht (fun c => kt (hX.mp c) H locs ls hl hP hD hS) (fun c => kf (fun h => c (hX.mpr h)) H locs ls hl hP hD hS)
theorem g_if_gt (C : Cx E cc Ts own rm nL) {x : Int32} {off : Int} {X : Prop} (d : decode cc pc = .ok (.ifCond .gt off, 3)) (t : Nat) (ht : (pc : Int) + off = (t : Int)) (q : Nat) (hq : pc + 3 = q) (hX : 0 < x ↔ X) (kt : X → Go E k n t lv st ws) (kf : ¬ X → Go E k n q lv st ws) : Go E k n pc lv (.int x :: st) ws := by
  subst hq; exact fun H locs ls hl hP hD hS => lv_if_gt C.1.1 C.1.2.1 d ht (fun c => kt (hX.mp c) H locs ls hl hP hD hS) (fun c => kf (fun h => c (hX.mpr h)) H locs ls hl hP hD hS)
theorem g_lcmp_gt (C : Cx E cc Ts own rm nL) {x y : Int64} {off : Int} {X : Prop} (d1 : decode cc pc = .ok (.lcmp, 1)) {p1 : Nat} (h1 : pc + 1 = p1) (d : decode cc p1 = .ok (.ifCond .gt off, 3)) (t : Nat) (ht : (p1 : Int) + off = (t : Int)) (q : Nat) (hq : p1 + 3 = q) (hX : y < x ↔ X) (kt : X → Go E k n t lv st ws) (kf : ¬ X → Go E k n q lv st ws) : Go E k n pc lv (.long y :: .long x :: st) ws := by
  subst h1; exact fun H locs ls hl hP hD hS => W.lcmp C.1.1 C.1.2.1 d1 (g_if_gt (x := lg_cmp x y) C d t ht q hq ((lg_cmp_gt x y).trans hX) kt kf H locs ls hl hP hD hS)
theorem g_icmp_le (C : Cx E cc Ts own rm nL) {x y : Int32} {off : Int} {X : Prop} (d : decode cc pc = .ok (.if_icmp .le off, 3)) (t : Nat) (ht : (pc : Int) + off = (t : Int)) (q : Nat) (hq : pc + 3 = q) (hX : x ≤ y ↔ X) (kt : X → Go E k n t lv st ws) (kf : ¬ X → Go E k n q lv st ws) : Go E k n pc lv (.int y :: .int x :: st) ws := by
  subst hq; exact fun H locs ls hl hP hD hS => lv_icmp_le C.1.1 C.1.2.1 d ht (fun c => kt (hX.mp c) H locs ls hl hP hD hS) (fun c => kf (fun h => c (hX.mpr h)) H locs ls hl hP hD hS)
theorem g_if_le (C : Cx E cc Ts own rm nL) {x : Int32} {off : Int} {X : Prop} (d : decode cc pc = .ok (.ifCond .le off, 3)) (t : Nat) (ht : (pc : Int) + off = (t : Int)) (q : Nat) (hq : pc + 3 = q) (hX : x ≤ 0 ↔ X) (kt : X → Go E k n t lv st ws) (kf : ¬ X → Go E k n q lv st ws) : Go E k n pc lv (.int x :: st) ws := by
  subst hq; exact fun H locs ls hl hP hD hS => lv_if_le C.1.1 C.1.2.1 d ht (fun c => kt (hX.mp c) H locs ls hl hP hD hS) (fun c => kf (fun h => c (hX.mpr h)) H locs ls hl hP hD hS)
theorem g_lcmp_le (C : Cx E cc Ts own rm nL) {x y : Int64} {off : Int} {X : Prop} (d1 : decode cc pc = .ok (.lcmp, 1)) {p1 : Nat} (h1 : pc + 1 = p1) (d : decode cc p1 = .ok (.ifCond .le off, 3)) (t : Nat) (ht : (p1 : Int) + off = (t : Int)) (q : Nat) (hq : p1 + 3 = q) (hX : x ≤ y ↔ X) (kt : X → Go E k n t lv st ws) (kf : ¬ X → Go E k n q lv st ws) : Go E k n pc lv (.long y :: .long x :: st) ws := by
  subst h1; exact fun H locs ls hl hP hD hS => W.lcmp C.1.1 C.1.2.1 d1 (g_if_le (x := lg_cmp x y) C d t ht q hq ((lg_cmp_le x y).trans hX) kt kf H locs ls hl hP hD hS)
theorem g_get (C : Cx E cc Ts own rm nL) {cC : String} {T : u_T} {N ci i : Nat} (hin : ∀ w ∈ u_ws cC T N, w ∈ Ts) (q0 : Nat) {a : Nat} {fs : List Value} (he : ws[q0]? = some (a, .inr (ci, fs))) (hc : vwCl[ci]? = some (cC, T, N)) (j : Nat) (hj : j < N) (hl : (Cond.fieldLink own i (T j).1 (T j).2.1 (T j).2.2.1).before (eG E) (eS E) = true) {v : Value} (hv : fs[j]? = some v) (d : decode cc pc = .ok (.getfield i, 3)) (q : Nat) (hq : pc + 3 = q) (kk : Go E k n q lv (v :: st) ws) : Go E k n pc lv (.ref a :: st) ws := by
  subst hq; exact fun H locs ls hl' hP hD hS => va_get C.1.1 C.1.2.1 C.1.2.2.2.2 hin C.1.2.2.2.1 C.2.1 hP q0 he hc j hj hl (fun _ h => h) hv d (kk H locs ls hl' hP hD hS)
theorem g_getN (C : Cx E cc Ts own rm nL) {cC host : String} {T : u_T} {N ci i : Nat} (hin : ∀ w ∈ u_ws cC T N, w ∈ Ts) (q0 : Nat) {a : Nat} {fs : List Value} (he : ws[q0]? = some (a, .inr (ci, fs))) (hc : vwCl[ci]? = some (cC, T, N)) (j : Nat) (hj : j < N) (hl : (Cond.fieldLinkNest own i (T j).1 (T j).2.1 (T j).2.2.1 host).before (eG E) (eS E) = true) {v : Value} (hv : fs[j]? = some v) (d : decode cc pc = .ok (.getfield i, 3)) (q : Nat) (hq : pc + 3 = q) (kk : Go E k n q lv (v :: st) ws) : Go E k n pc lv (.ref a :: st) ws := by
  subst hq; exact fun H locs ls hl' hP hD hS => va_getN C.1.1 C.1.2.1 C.1.2.2.2.2 hin C.1.2.2.2.1 C.2.1 hP q0 he hc j hj hl (fun _ h => h) hv d (kk H locs ls hl' hP hD hS)
theorem g_put (C : Cx E cc Ts own rm nL) {cC : String} {T : u_T} {N ci i : Nat} (hin : ∀ w ∈ u_ws cC T N, w ∈ Ts) {ty0 : Nat → FieldType} (hty : ∀ k, k < N → parseFieldDescriptor (T k).2.2.1 = some (ty0 k)) (hnm : ∀ a, a < N → ∀ b, b < N → a ≠ b → (T a).2.1 ≠ (T b).2.1) (q0 : Nat) {a : Nat} {fs : List Value} (he : ws[q0]? = some (a, .inr (ci, fs))) (hc : vwCl[ci]? = some (cC, T, N)) (j : Nat) (hj : j < N) (hl : (Cond.fieldLink own i (T j).1 (T j).2.1 (T j).2.2.1).before (eG E) (eS E) = true) (hfin : (T j).2.2.2 = false) {v : Value} {ty : FieldType} (hty2 : parseFieldDescriptor (T j).2.2.1 = some ty) (hna : narrow ty v = v) (hfit : fits ty v = true) (hlen : j < fs.length) (d : decode cc pc = .ok (.putfield i, 3)) (q : Nat) (hq : pc + 3 = q) {ws' : va_W} (hw : ws.set q0 (a, .inr (ci, fs.set j v)) = ws') (kk : Go E k n q lv st ws') : Go E k n pc lv (v :: .ref a :: st) ws := by
  subst hq; subst hw; exact fun H locs ls hl' hP hD hS => va_put C.1.1 C.1.2.1 C.1.2.2.2.2 hin ty0 hty hnm C.1.2.2.2.1 C.2.1 hP hD hS q0 he hc j hj hl (fun _ h => h) hfin hty2 hna hfit hlen d (fun H1 locs1 hP hD hS => kk H1 locs1 ls hl' hP hD hS)
theorem g_putF (C : Cx E cc Ts own rm nL) (hmn : (eT E).name = "<init>") {cC : String} {T : u_T} {N ci i : Nat} (hin : ∀ w ∈ u_ws cC T N, w ∈ Ts) {ty0 : Nat → FieldType} (hty : ∀ k, k < N → parseFieldDescriptor (T k).2.2.1 = some (ty0 k)) (hnm : ∀ a, a < N → ∀ b, b < N → a ≠ b → (T a).2.1 ≠ (T b).2.1) (q0 : Nat) {a : Nat} {fs : List Value} (he : ws[q0]? = some (a, .inr (ci, fs))) (hc : vwCl[ci]? = some (cC, T, N)) (j : Nat) (hj : j < N) (hl : (Cond.fieldLink own i (T j).1 (T j).2.1 (T j).2.2.1).before (eG E) (eS E) = true) (hfin : (T j).2.2.2 = true) (hown : (T j).1 = own) {v : Value} {ty : FieldType} (hty2 : parseFieldDescriptor (T j).2.2.1 = some ty) (hna : narrow ty v = v) (hfit : fits ty v = true) (hlen : j < fs.length) (d : decode cc pc = .ok (.putfield i, 3)) (q : Nat) (hq : pc + 3 = q) {ws' : va_W} (hw : ws.set q0 (a, .inr (ci, fs.set j v)) = ws') (kk : Go E k n q lv st ws') : Go E k n pc lv (v :: .ref a :: st) ws := by
  subst hq; subst hw; exact fun H locs ls hl' hP hD hS => va_putF C.1.1 C.1.2.1 C.1.2.2.2.2 hin ty0 hty hnm C.1.2.2.2.1 C.2.1 hP hD hS q0 he hc j hj hl (fun _ h => h) hfin hmn hown hty2 hna hfit hlen d (fun H1 locs1 hP hD hS => kk H1 locs1 ls hl' hP hD hS)
theorem g_iald (C : Cx E cc Ts own rm nL) (q0 : Nat) {a N i : Nat} {f : Nat → Int32} (ha : ws[q0]? = some (a, .inl ((eY E) 0, N, .inl f))) (hi : i < N) (hN : N < 2 ^ 31) (d : decode cc pc = .ok (.iaload, 1)) (q : Nat) (hq : pc + 1 = q) (kk : Go E k n q lv (.int (f i) :: st) ws) : Go E k n pc lv (.int (nI i) :: .ref a :: st) ws := by
  subst hq; exact fun H locs ls hl hP hD hS => va_iald C.1.1 C.1.2.1 C.2.1 hP q0 0 ha rfl (vp_in_nI hi hN) d (by rw [nI_clamp (Nat.lt_trans hi hN)]; exact kk H locs ls hl hP hD hS)
theorem g_zald (C : Cx E cc Ts own rm nL) (q0 : Nat) {a N i : Nat} {f : Nat → Int32} (ha : ws[q0]? = some (a, .inl ((eY E) 2, N, .inl f))) (hi : i < N) (hN : N < 2 ^ 31) (d : decode cc pc = .ok (.baload, 1)) (q : Nat) (hq : pc + 1 = q) (kk : Go E k n q lv (.int (f i) :: st) ws) : Go E k n pc lv (.int (nI i) :: .ref a :: st) ws := by
  subst hq; exact fun H locs ls hl hP hD hS => va_zald C.1.1 C.1.2.1 C.2.1 hP q0 2 ha rfl (vp_in_nI hi hN) d (by rw [nI_clamp (Nat.lt_trans hi hN)]; exact kk H locs ls hl hP hD hS)
theorem g_lald (C : Cx E cc Ts own rm nL) (q0 : Nat) {a N i : Nat} {f : Nat → Int64} (ha : ws[q0]? = some (a, .inl ((eY E) 1, N, .inr (.inl f)))) (hi : i < N) (hN : N < 2 ^ 31) (d : decode cc pc = .ok (.laload, 1)) (q : Nat) (hq : pc + 1 = q) (kk : Go E k n q lv (.long (f i) :: st) ws) : Go E k n pc lv (.int (nI i) :: .ref a :: st) ws := by
  subst hq; exact fun H locs ls hl hP hD hS => va_lald C.1.1 C.1.2.1 C.2.1 hP q0 1 ha rfl (vp_in_nI hi hN) d (by rw [nI_clamp (Nat.lt_trans hi hN)]; exact kk H locs ls hl hP hD hS)
theorem g_iast (C : Cx E cc Ts own rm nL) (q0 : Nat) {a N i : Nat} {x : Int32} {f : Nat → Int32} (ha : ws[q0]? = some (a, .inl ((eY E) 0, N, .inl f))) (hi : i < N) (hN : N < 2 ^ 31) (d : decode cc pc = .ok (.iastore, 1)) (q : Nat) (hq : pc + 1 = q) {ws' : va_W} {f' : Nat → Int32} (hf : upd f i x = f') (hw : ws.set q0 (a, .inl ((eY E) 0, N, .inl f')) = ws') (kk : Go E k n q lv st ws') : Go E k n pc lv (.int x :: .int (nI i) :: .ref a :: st) ws := by
  subst hq; subst hf; subst hw; exact fun H locs ls hl hP hD hS => va_iast C.1.1 C.1.2.1 C.2.1 hP hD hS q0 0 ha rfl (vp_in_nI hi hN) d (by rw [nI_clamp (Nat.lt_trans hi hN)]; exact fun H1 locs1 hP hD hS => kk H1 locs1 ls hl hP hD hS)
theorem g_last (C : Cx E cc Ts own rm nL) (q0 : Nat) {a N i : Nat} {x : Int64} {f : Nat → Int64} (ha : ws[q0]? = some (a, .inl ((eY E) 1, N, .inr (.inl f)))) (hi : i < N) (hN : N < 2 ^ 31) (d : decode cc pc = .ok (.lastore, 1)) (q : Nat) (hq : pc + 1 = q) {ws' : va_W} {f' : Nat → Int64} (hf : vp_updL f i x = f') (hw : ws.set q0 (a, .inl ((eY E) 1, N, .inr (.inl f'))) = ws') (kk : Go E k n q lv st ws') : Go E k n pc lv (.long x :: .int (nI i) :: .ref a :: st) ws := by
  subst hq; subst hf; subst hw; exact fun H locs ls hl hP hD hS => va_last C.1.1 C.1.2.1 C.2.1 hP hD hS q0 1 ha rfl (vp_in_nI hi hN) d (by rw [nI_clamp (Nat.lt_trans hi hN)]; exact fun H1 locs1 hP hD hS => kk H1 locs1 ls hl hP hD hS)
theorem nar_bI (b : Bool) : vp_nar .boolean (bI b) = bI b := by cases b <;> rfl
theorem narb_bI (b : Bool) : narrow .boolean (.int (bI b)) = .int (bI b) := by cases b <;> rfl
theorem fitb_bI (b : Bool) : fits .boolean (.int (bI b)) = true := by cases b <;> rfl
theorem g_zast (C : Cx E cc Ts own rm nL) (q0 : Nat) {a N i : Nat} {b : Bool} {f : Nat → Int32} (ha : ws[q0]? = some (a, .inl ((eY E) 2, N, .inl f))) (hi : i < N) (hN : N < 2 ^ 31) (d : decode cc pc = .ok (.bastore, 1)) (q : Nat) (hq : pc + 1 = q) {ws' : va_W} {f' : Nat → Int32} (hf : upd f i (bI b) = f') (hw : ws.set q0 (a, .inl ((eY E) 2, N, .inl f')) = ws') (kk : Go E k n q lv st ws') : Go E k n pc lv (.int (bI b) :: .int (nI i) :: .ref a :: st) ws := by
  subst hq; subst hf; subst hw; exact fun H locs ls hl hP hD hS => va_zast C.1.1 C.1.2.1 C.2.1 hP hD hS q0 2 ha rfl (vp_in_nI hi hN) d (by rw [nI_clamp (Nat.lt_trans hi hN), nar_bI]; exact fun H1 locs1 hP hD hS => kk H1 locs1 ls hl hP hD hS)
theorem g_alenI (C : Cx E cc Ts own rm nL) (q0 : Nat) {a N : Nat} {f : Nat → Int32} (ha : ws[q0]? = some (a, .inl ((eY E) 0, N, .inl f))) (d : decode cc pc = .ok (.arraylength, 1)) (q : Nat) (hq : pc + 1 = q) (kk : Go E k n q lv (.int (nI N) :: st) ws) : Go E k n pc lv (.ref a :: st) ws := by
  subst hq; exact fun H locs ls hl hP hD hS => va_alen C.1.1 C.1.2.1 C.2.1 hP q0 0 ha rfl (v := nI N) rfl d (kk H locs ls hl hP hD hS)
theorem g_alenL (C : Cx E cc Ts own rm nL) (q0 : Nat) {a N : Nat} {f : Nat → Int64} (ha : ws[q0]? = some (a, .inl ((eY E) 1, N, .inr (.inl f)))) (d : decode cc pc = .ok (.arraylength, 1)) (q : Nat) (hq : pc + 1 = q) (kk : Go E k n q lv (.int (nI N) :: st) ws) : Go E k n pc lv (.ref a :: st) ws := by
  subst hq; exact fun H locs ls hl hP hD hS => va_alen C.1.1 C.1.2.1 C.2.1 hP q0 1 ha rfl (v := nI N) rfl d (kk H locs ls hl hP hD hS)
theorem g_aald (C : Cx E cc Ts own rm nL) (q0 : Nat) {a N i : Nat} {X : Nat → Nat} (ha : ws[q0]? = some (aQ (eY E) a N X)) (hi : i < N) (hN : N < 2 ^ 31) (d : decode cc pc = .ok (.aaload, 1)) (q : Nat) (hq : pc + 1 = q) (kk : Go E k n q lv (.ref (X i) :: st) ws) : Go E k n pc lv (.int (nI i) :: .ref a :: st) ws := by
  subst hq; exact fun H locs ls hl hP hD hS => va_aldq C.1.1 C.1.2.1 C.2.1 hP q0 3 ha rfl (vp_in_nI hi hN) d (by rw [nI_clamp (Nat.lt_trans hi hN)]; exact kk H locs ls hl hP hD hS)
end GO
theorem sub_P {D : va_G} {cl : List vw_C} {ws ws' : va_W} {H : Heap} (h : va_P D cl ws H) (is : List Nat) (hs : is.map (fun i => ws[i]?) = ws'.map some) : va_P D cl ws' H := by
  intro k q hq
  have h1 : (is.map (fun i => ws[i]?))[k]? = some (some q) := by rw [hs, List.getElem?_map, hq]; rfl
  rw [List.getElem?_map] at h1
  obtain ⟨i, hi, h2⟩ := Option.map_eq_some_iff.mp h1
  exact h i q h2
/- contracts -/
def PreM (D : va_G) (cy : Nat → ClassId) (ws : va_W) (sz : Nat) (av : List Value) : Array Value → State → Prop := va_Pc av (fun U => U.heap.size = sz ∧ va_P D vwCl ws U.heap ∧ va_K D vwCl (tysOf cy) U ∧ NW U ∧ va_D (fun _ => True) ws)
theorem PreM.blind (D : va_G) (cy : Nat → ClassId) (ws : va_W) (sz : Nat) (av : List Value) : FrameBlind (PreM D cy ws sz av) := fun a U g mk q => by
  obtain ⟨q0, q1, qP, qK, qN, qD⟩ := q
  exact ⟨q0, q1, qP, va_K.moved (u := U) (U := U.calling g mk a) (Vm.Alike.refl U.vm) qK, NW.same rfl qN, qD⟩
def PostI (D : va_G) (ws ws' : va_W) (sz : Nat) (v : Int32) := va_Qi (fun r (_ : Unit) => r = v) (fun _ t => va_P D vwCl ws' t.heap ∧ va_D (va_A ws sz) ws') (va_A ws sz)
def PostL (D : va_G) (ws ws' : va_W) (sz : Nat) (v : Int64) := va_Ql (fun r (_ : Unit) => r = v) (fun _ t => va_P D vwCl ws' t.heap ∧ va_D (va_A ws sz) ws') (va_A ws sz)
def PostV (D : va_G) (ws ws' : va_W) (sz : Nat) := va_Qv (fun (_ : Unit) => True) (fun _ t => va_P D vwCl ws' t.heap ∧ va_D (va_A ws sz) ws') (va_A ws sz)
def CoI (l : Launch) (y : MethodName) (wc : List Cond) (f L : Nat) (D : va_G) (cy : Nat → ClassId) (ws : va_W) (av : List Value) (ws' : va_W) (v : Int32) : Prop := ∀ sz, Met l y wc { frames := f, cells := 0, slots := 0, locals := L } (PreM D cy ws sz av) (PostI D ws ws' sz v) 0 0 (va_A ws sz)
def CoL (l : Launch) (y : MethodName) (wc : List Cond) (f L : Nat) (D : va_G) (cy : Nat → ClassId) (ws : va_W) (av : List Value) (ws' : va_W) (v : Int64) : Prop := ∀ sz, Met l y wc { frames := f, cells := 0, slots := 0, locals := L } (PreM D cy ws sz av) (PostL D ws ws' sz v) 0 0 (va_A ws sz)
def CoV (l : Launch) (y : MethodName) (wc : List Cond) (f L : Nat) (D : va_G) (cy : Nat → ClassId) (ws : va_W) (av : List Value) (ws' : va_W) : Prop := ∀ sz, Met l y wc { frames := f, cells := 0, slots := 0, locals := L } (PreM D cy ws sz av) (PostV D ws ws' sz) 0 0 (va_A ws sz)

theorem met_i {l : Launch} {y : MethodName} {wc wc' : List Cond} {cc : ByteArray} {maxL f L : Nat} {own : String} {D : va_G} {cy : Nat → ClassId} {ws ws' : va_W} {av : List Value} {v : Int32} {lv : List (Nat × Value)} (hy : plainName y.cls = true) (hw : wc = Cond.code y cc maxL (some .int) :: wc') (hown : y.cls = own) (hlv : lv_args 0 av = lv) (hlen : (lg_sl av).length ≤ maxL)
    (body : ∀ E : Ev, eL E = l → eD E = D → eY E = cy → Cx E cc wc own { frames := f, cells := 0, slots := 0, locals := L } maxL → (∀ pc lv, decode cc pc = .ok (.ireturn, 1) → Go E 0 0 pc lv [.int v] ws') → Go E 0 0 0 lv [] ws) : CoI l y wc f L D cy ws av ws' v := by
  intro sz
  refine Met.ofW (cc := cc) (maxL := maxL) (ret := (some .int)) hy hw ?_
  intro p e s m args below meth c s₁ B hml hv
  obtain ⟨rfl, hsz, hP, hK, hN, hD0⟩ := hv
  subst hown
  subst hsz
  have hD := hD0.self (sz := s.heap.size)
  have hl := lv_entry av (n := maxL) hlen
  rw [lg_entry_eq]
  generalize (lg_sl av ++ List.replicate (maxL - (lg_sl av).length) Slot.unset).toArray = ls at hl ⊢
  rw [hlv] at hl
  have G := body (p, l, e, (headSpec wc { frames := f, cells := 0, slots := 0, locals := L }).room, s, m, av.toArray, below, meth, c, MQ below (PostI D ws ws' s.heap.size v) av.toArray s 0 0 (va_A ws s.heap.size), D, cy, va_A ws s.heap.size, s.heap, maxL) rfl rfl rfl ⟨⟨B.exec, B.bytes, hml, findClass_of_methodNamed B.named, atoms_spec (ws := wc) B.pre⟩, hK, hN, fun q h => Or.inr h, rfl, rfl⟩
    (fun pc lv d H locs ls hl hP hD hS => W.iret (v := v) B.exec B.bytes B.returns (fun t ht hW => ⟨⟨v, (), rfl, rfl, by rw [ht]; exact hP, hD⟩, hS.F ht⟩) hS.2.2 d (hlocks := B.notSynchronized))
  exact G s.heap [] ls hl hP hD va_S.rf
theorem met_z {l : Launch} {y : MethodName} {wc wc' : List Cond} {cc : ByteArray} {maxL f L : Nat} {own : String} {D : va_G} {cy : Nat → ClassId} {ws ws' : va_W} {av : List Value} {b : Bool} {lv : List (Nat × Value)} (hy : plainName y.cls = true) (hw : wc = Cond.code y cc maxL (some .boolean) :: wc') (hown : y.cls = own) (hlv : lv_args 0 av = lv) (hlen : (lg_sl av).length ≤ maxL)
    (body : ∀ E : Ev, eL E = l → eD E = D → eY E = cy → Cx E cc wc own { frames := f, cells := 0, slots := 0, locals := L } maxL → (∀ pc lv, decode cc pc = .ok (.ireturn, 1) → Go E 0 0 pc lv [.int (bI b)] ws') → Go E 0 0 0 lv [] ws) : CoI l y wc f L D cy ws av ws' (bI b) := by
  intro sz
  refine Met.ofW (cc := cc) (maxL := maxL) (ret := (some .boolean)) hy hw ?_
  intro p e s m args below meth c s₁ B hml hv
  obtain ⟨rfl, hsz, hP, hK, hN, hD0⟩ := hv
  subst hown
  subst hsz
  have hD := hD0.self (sz := s.heap.size)
  have hl := lv_entry av (n := maxL) hlen
  rw [lg_entry_eq]
  generalize (lg_sl av ++ List.replicate (maxL - (lg_sl av).length) Slot.unset).toArray = ls at hl ⊢
  rw [hlv] at hl
  have G := body (p, l, e, (headSpec wc { frames := f, cells := 0, slots := 0, locals := L }).room, s, m, av.toArray, below, meth, c, MQ below (PostI D ws ws' s.heap.size (bI b)) av.toArray s 0 0 (va_A ws s.heap.size), D, cy, va_A ws s.heap.size, s.heap, maxL) rfl rfl rfl ⟨⟨B.exec, B.bytes, hml, findClass_of_methodNamed B.named, atoms_spec (ws := wc) B.pre⟩, hK, hN, fun q h => Or.inr h, rfl, rfl⟩
    (fun pc lv d H locs ls hl hP hD hS => W.zret (v := bI b) B.exec B.bytes B.returns (narb_bI b) (fun t ht hW => ⟨⟨bI b, (), rfl, rfl, by rw [ht]; exact hP, hD⟩, hS.F ht⟩) hS.2.2 d (hlocks := B.notSynchronized))
  exact G s.heap [] ls hl hP hD va_S.rf
theorem met_l {l : Launch} {y : MethodName} {wc wc' : List Cond} {cc : ByteArray} {maxL f L : Nat} {own : String} {D : va_G} {cy : Nat → ClassId} {ws ws' : va_W} {av : List Value} {v : Int64} {lv : List (Nat × Value)} (hy : plainName y.cls = true) (hw : wc = Cond.code y cc maxL (some .long) :: wc') (hown : y.cls = own) (hlv : lv_args 0 av = lv) (hlen : (lg_sl av).length ≤ maxL)
    (body : ∀ E : Ev, eL E = l → eD E = D → eY E = cy → Cx E cc wc own { frames := f, cells := 0, slots := 0, locals := L } maxL → (∀ pc lv, decode cc pc = .ok (.lreturn, 1) → Go E 0 0 pc lv [.long v] ws') → Go E 0 0 0 lv [] ws) : CoL l y wc f L D cy ws av ws' v := by
  intro sz
  refine Met.ofW (cc := cc) (maxL := maxL) (ret := (some .long)) hy hw ?_
  intro p e s m args below meth c s₁ B hml hv
  obtain ⟨rfl, hsz, hP, hK, hN, hD0⟩ := hv
  subst hown
  subst hsz
  have hD := hD0.self (sz := s.heap.size)
  have hl := lv_entry av (n := maxL) hlen
  rw [lg_entry_eq]
  generalize (lg_sl av ++ List.replicate (maxL - (lg_sl av).length) Slot.unset).toArray = ls at hl ⊢
  rw [hlv] at hl
  have G := body (p, l, e, (headSpec wc { frames := f, cells := 0, slots := 0, locals := L }).room, s, m, av.toArray, below, meth, c, MQ below (PostL D ws ws' s.heap.size v) av.toArray s 0 0 (va_A ws s.heap.size), D, cy, va_A ws s.heap.size, s.heap, maxL) rfl rfl rfl ⟨⟨B.exec, B.bytes, hml, findClass_of_methodNamed B.named, atoms_spec (ws := wc) B.pre⟩, hK, hN, fun q h => Or.inr h, rfl, rfl⟩
    (fun pc lv d H locs ls hl hP hD hS => W.lret (v := v) B.exec B.bytes B.returns (fun t ht hW => ⟨⟨v, (), rfl, rfl, by rw [ht]; exact hP, hD⟩, hS.F ht⟩) hS.2.2 d (hlocks := B.notSynchronized))
  exact G s.heap [] ls hl hP hD va_S.rf
theorem met_v {l : Launch} {y : MethodName} {wc wc' : List Cond} {cc : ByteArray} {maxL f L : Nat} {own : String} {D : va_G} {cy : Nat → ClassId} {ws ws' : va_W} {av : List Value}  {lv : List (Nat × Value)} (hy : plainName y.cls = true) (hw : wc = Cond.code y cc maxL none :: wc') (hown : y.cls = own) (hlv : lv_args 0 av = lv) (hlen : (lg_sl av).length ≤ maxL)
    (body : ∀ E : Ev, eL E = l → eD E = D → eY E = cy → Cx E cc wc own { frames := f, cells := 0, slots := 0, locals := L } maxL → (∀ pc lv, decode cc pc = .ok (.return_, 1) → Go E 0 0 pc lv [] ws') → Go E 0 0 0 lv [] ws) : CoV l y wc f L D cy ws av ws' := by
  intro sz
  refine Met.ofW (cc := cc) (maxL := maxL) (ret := none) hy hw ?_
  intro p e s m args below meth c s₁ B hml hv
  obtain ⟨rfl, hsz, hP, hK, hN, hD0⟩ := hv
  subst hown
  subst hsz
  have hD := hD0.self (sz := s.heap.size)
  have hl := lv_entry av (n := maxL) hlen
  rw [lg_entry_eq]
  generalize (lg_sl av ++ List.replicate (maxL - (lg_sl av).length) Slot.unset).toArray = ls at hl ⊢
  rw [hlv] at hl
  have G := body (p, l, e, (headSpec wc { frames := f, cells := 0, slots := 0, locals := L }).room, s, m, av.toArray, below, meth, c, MQ below (PostV D ws ws' s.heap.size) av.toArray s 0 0 (va_A ws s.heap.size), D, cy, va_A ws s.heap.size, s.heap, maxL) rfl rfl rfl ⟨⟨B.exec, B.bytes, hml, findClass_of_methodNamed B.named, atoms_spec (ws := wc) B.pre⟩, hK, hN, fun q h => Or.inr h, rfl, rfl⟩
    (fun pc lv d H locs ls hl hP hD hS => W.vret B.exec B.bytes B.returns (fun t ht hW => ⟨⟨(), rfl, trivial, by rw [ht]; exact hP, hD⟩, hS.F ht⟩) hS.2.2 d (hlocks := B.notSynchronized))
  exact G s.heap [] ls hl hP hD va_S.rf
section GC
variable {E : Ev} {cc : ByteArray} {Ts : List Cond} {own : String} {rm : Room} {nL k n pc : Nat} {lv : List (Nat × Value)} {st st0 : List Value} {ws : va_W}
  {y : MethodName} {bytes : ByteArray} {maxL f L nA b i ci q0 N : Nat} {ret : Option FieldType} {wc wc' : List Cond} {As : List Value} {wsc wsc' wr ws2 : va_W} {cls host : String} {T : u_T} {fs : List Value}
theorem g_cVi (C : Cx E cc Ts own rm nL) {v : Int32} (hM : CoI (eL E) y wc f L (eD E) (eY E) wsc (.ref b :: As) wsc' v) (nA : Nat) (hG : GoodIn Ts (wsV own i cls y wc)) (hw : wc = Cond.code y bytes maxL ret :: wc') (hd : y.cls = cls ∧ y.cls ≠ "java/lang/invoke/MethodHandle" ∧ y.cls ≠ "java/lang/invoke/VarHandle" ∧ (parseMethodDescriptor y.desc).map (fun d => d.parameters.length) = some nA) (hR : f + 1 ≤ rm.frames ∧ 8 + (maxL + 11) + L ≤ rm.locals) (hk : k ≤ rm.cells ∧ n ≤ rm.slots) (hc : vwCl[ci]? = some (cls, T, N)) (q0 : Nat) (he : wsc[q0]? = some (b, .inr (ci, fs))) (hn : As.length = nA) (hst : st0 = As.reverse ++ .ref b :: st) (hsum : (st.map fun v => v.category).sum ≤ 8) (isC isR perm : List Nat) (hC : isC.map (fun i => ws[i]?) = wsc.map some) (hRr : isR.map (fun i => ws[i]?) = wr.map some) (hnd : va_nd isC = true ∧ va_nd isR = true) (hdis : ∀ i ∈ isR, i ∉ isC) (hp1 : perm.map (fun i => (wr ++ wsc')[i]?) = ws2.map some) (hp2 : va_nd perm = true) (d : decode cc pc = .ok (.invokevirtual i, 3)) (q : Nat) (hq : pc + 3 = q) (kk : Go E k n q lv (.int v :: st) ws2) : Go E k n pc lv st0 ws := by
  subst hq
  subst hst
  intro H locs ls hl0 hP hD hS
  have hPc : va_P (eD E) vwCl wsc H := sub_P hP isC hC
  have hDc := hD.sub (ws' := wsc) isC hnd.1 hC
  have hFc := va_free (wc := wsc) hD hS C.2.2.2.1 isC hC
  refine va_calli (va_runV (As := As) (rest := st) C.1 (hM H.size) (cwV nA C.1.2.2.2.2 hG hw rfl rfl hd (by rw [C.2.2.2.2.1]; exact hR)) ⟨PreM.blind _ _ _ _ _, va_recv C.2.1 hPc hc he, fun U hU hW => ⟨rfl, by rw [hU], by rw [hU]; exact hPc, va_K.moved hW.alike C.2.1, C.2.2.1.warm hW, hDc.weaken (fun _ _ _ _ => trivial)⟩⟩ rfl hn (hl0.1) rfl (lv_room hsum) d ⟨by rw [C.2.2.2.2.1]; exact hk.1, by rw [C.2.2.2.2.1]; exact hk.2⟩) hS (fun q _ h => hFc q h) hFc (fun r u t H1 locs1 ht hvm hw hB hz1 hk1 hS => ?_)
  obtain ⟨hP1, hD1⟩ := hB
  rw [ht] at hP1
  subst hw
  obtain ⟨hP2, hD2⟩ := va_join (wr := wr) (w1 := wsc') hP hD isC isR hC hRr hnd.2 hdis hk1 hFc hP1 hD1
  exact kk H1 locs1 ls hl0 (sub_P hP2 perm hp1) (hD2.sub perm hp2 hp1) hS
theorem g_cVNi (C : Cx E cc Ts own rm nL) {v : Int32} (hM : CoI (eL E) y wc f L (eD E) (eY E) wsc (.ref b :: As) wsc' v) (nA : Nat) (hG : GoodIn Ts wc) (hl : va_Nw (.methodLinkNest own i y host) (eS E)) (hini : Cond.initialized y.cls ∈ Ts) (hin : Cond.instanceMethod y ∈ Ts) (hsel : Cond.selects cls y y ∈ Ts) (hw : wc = Cond.code y bytes maxL ret :: wc') (hd : y.cls ≠ "java/lang/invoke/MethodHandle" ∧ y.cls ≠ "java/lang/invoke/VarHandle" ∧ (parseMethodDescriptor y.desc).map (fun d => d.parameters.length) = some nA) (hR : f + 1 ≤ rm.frames ∧ 8 + (maxL + 11) + L ≤ rm.locals) (hk : k ≤ rm.cells ∧ n ≤ rm.slots) (hc : vwCl[ci]? = some (cls, T, N)) (q0 : Nat) (he : wsc[q0]? = some (b, .inr (ci, fs))) (hn : As.length = nA) (hst : st0 = As.reverse ++ .ref b :: st) (hsum : (st.map fun v => v.category).sum ≤ 8) (isC isR perm : List Nat) (hC : isC.map (fun i => ws[i]?) = wsc.map some) (hRr : isR.map (fun i => ws[i]?) = wr.map some) (hnd : va_nd isC = true ∧ va_nd isR = true) (hdis : ∀ i ∈ isR, i ∉ isC) (hp1 : perm.map (fun i => (wr ++ wsc')[i]?) = ws2.map some) (hp2 : va_nd perm = true) (d : decode cc pc = .ok (.invokevirtual i, 3)) (q : Nat) (hq : pc + 3 = q) (kk : Go E k n q lv (.int v :: st) ws2) : Go E k n pc lv st0 ws := by
  subst hq
  subst hst
  intro H locs ls hl0 hP hD hS
  have hPc : va_P (eD E) vwCl wsc H := sub_P hP isC hC
  have hDc := hD.sub (ws' := wsc) isC hnd.1 hC
  have hFc := va_free (wc := wsc) hD hS C.2.2.2.1 isC hC
  refine va_calli (va_runVN (As := As) (rest := st) C.1 (hM H.size) ⟨va_cnB nA C.1.2.2.2.2 hG hw rfl rfl hl (C.1.2.2.2.2 _ hini) hd (by rw [C.2.2.2.2.1]; exact hR), C.1.2.2.2.2 _ hin, C.1.2.2.2.2 _ hsel⟩ ⟨PreM.blind _ _ _ _ _, va_recv C.2.1 hPc hc he, fun U hU hW => ⟨rfl, by rw [hU], by rw [hU]; exact hPc, va_K.moved hW.alike C.2.1, C.2.2.1.warm hW, hDc.weaken (fun _ _ _ _ => trivial)⟩⟩ rfl hn (hl0.1) rfl (lv_room hsum) d ⟨by rw [C.2.2.2.2.1]; exact hk.1, by rw [C.2.2.2.2.1]; exact hk.2⟩) hS (fun q _ h => hFc q h) hFc (fun r u t H1 locs1 ht hvm hw hB hz1 hk1 hS => ?_)
  obtain ⟨hP1, hD1⟩ := hB
  rw [ht] at hP1
  subst hw
  obtain ⟨hP2, hD2⟩ := va_join (wr := wr) (w1 := wsc') hP hD isC isR hC hRr hnd.2 hdis hk1 hFc hP1 hD1
  exact kk H1 locs1 ls hl0 (sub_P hP2 perm hp1) (hD2.sub perm hp2 hp1) hS
theorem g_cSi (C : Cx E cc Ts own rm nL) {v : Int32} (hM : CoI (eL E) y wc f L (eD E) (eY E) wsc As wsc' v) (nA : Nat) (hG : GoodIn Ts (va_wsS own i y wc)) (hw : wc = Cond.code y bytes maxL ret :: wc') (hd : y.cls ≠ "java/lang/invoke/MethodHandle" ∧ y.cls ≠ "java/lang/invoke/VarHandle" ∧ (parseMethodDescriptor y.desc).map (fun d => d.parameters.length) = some nA) (hR : f + 1 ≤ rm.frames ∧ 8 + (maxL + 11) + L ≤ rm.locals) (hk : k ≤ rm.cells ∧ n ≤ rm.slots) (hn : As.length = nA) (hst : st0 = As.reverse ++ st) (hsum : (st.map fun v => v.category).sum ≤ 8) (isC isR perm : List Nat) (hC : isC.map (fun i => ws[i]?) = wsc.map some) (hRr : isR.map (fun i => ws[i]?) = wr.map some) (hnd : va_nd isC = true ∧ va_nd isR = true) (hdis : ∀ i ∈ isR, i ∉ isC) (hp1 : perm.map (fun i => (wr ++ wsc')[i]?) = ws2.map some) (hp2 : va_nd perm = true) (d : decode cc pc = .ok (.invokestatic i, 3)) (q : Nat) (hq : pc + 3 = q) (kk : Go E k n q lv (.int v :: st) ws2) : Go E k n pc lv st0 ws := by
  subst hq
  subst hst
  intro H locs ls hl0 hP hD hS
  have hPc : va_P (eD E) vwCl wsc H := sub_P hP isC hC
  have hDc := hD.sub (ws' := wsc) isC hnd.1 hC
  have hFc := va_free (wc := wsc) hD hS C.2.2.2.1 isC hC
  refine va_calli (va_runS (As := As) (rest := st) C.1 (hM H.size) (va_cwS nA C.1.2.2.2.2 hG hw rfl rfl hd (by rw [C.2.2.2.2.1]; exact hR)) ⟨PreM.blind _ _ _ _ _, fun U hU hW => ⟨rfl, by rw [hU], by rw [hU]; exact hPc, va_K.moved hW.alike C.2.1, C.2.2.1.warm hW, hDc.weaken (fun _ _ _ _ => trivial)⟩⟩ rfl hn (hl0.1) rfl (lv_room hsum) d ⟨by rw [C.2.2.2.2.1]; exact hk.1, by rw [C.2.2.2.2.1]; exact hk.2⟩) hS (fun q _ h => hFc q h) hFc (fun r u t H1 locs1 ht hvm hw hB hz1 hk1 hS => ?_)
  obtain ⟨hP1, hD1⟩ := hB
  rw [ht] at hP1
  subst hw
  obtain ⟨hP2, hD2⟩ := va_join (wr := wr) (w1 := wsc') hP hD isC isR hC hRr hnd.2 hdis hk1 hFc hP1 hD1
  exact kk H1 locs1 ls hl0 (sub_P hP2 perm hp1) (hD2.sub perm hp2 hp1) hS
theorem g_cSNi (C : Cx E cc Ts own rm nL) {v : Int32} (hM : CoI (eL E) y wc f L (eD E) (eY E) wsc As wsc' v) (nA : Nat) (hG : GoodIn Ts wc) (hl : va_Nw (.methodLinkNest own i y host) (eS E)) (hini : Cond.initialized y.cls ∈ Ts) (hstt : Cond.static y ∈ Ts) (hw : wc = Cond.code y bytes maxL ret :: wc') (hd : y.cls ≠ "java/lang/invoke/MethodHandle" ∧ y.cls ≠ "java/lang/invoke/VarHandle" ∧ (parseMethodDescriptor y.desc).map (fun d => d.parameters.length) = some nA) (hR : f + 1 ≤ rm.frames ∧ 8 + (maxL + 11) + L ≤ rm.locals) (hk : k ≤ rm.cells ∧ n ≤ rm.slots) (hn : As.length = nA) (hst : st0 = As.reverse ++ st) (hsum : (st.map fun v => v.category).sum ≤ 8) (isC isR perm : List Nat) (hC : isC.map (fun i => ws[i]?) = wsc.map some) (hRr : isR.map (fun i => ws[i]?) = wr.map some) (hnd : va_nd isC = true ∧ va_nd isR = true) (hdis : ∀ i ∈ isR, i ∉ isC) (hp1 : perm.map (fun i => (wr ++ wsc')[i]?) = ws2.map some) (hp2 : va_nd perm = true) (d : decode cc pc = .ok (.invokestatic i, 3)) (q : Nat) (hq : pc + 3 = q) (kk : Go E k n q lv (.int v :: st) ws2) : Go E k n pc lv st0 ws := by
  subst hq
  subst hst
  intro H locs ls hl0 hP hD hS
  have hPc : va_P (eD E) vwCl wsc H := sub_P hP isC hC
  have hDc := hD.sub (ws' := wsc) isC hnd.1 hC
  have hFc := va_free (wc := wsc) hD hS C.2.2.2.1 isC hC
  refine va_calli (va_runSN (As := As) (rest := st) C.1 (hM H.size) ⟨va_cnB nA C.1.2.2.2.2 hG hw rfl rfl hl (C.1.2.2.2.2 _ hini) hd (by rw [C.2.2.2.2.1]; exact hR), C.1.2.2.2.2 _ hstt, trivial⟩ ⟨PreM.blind _ _ _ _ _, fun U hU hW => ⟨rfl, by rw [hU], by rw [hU]; exact hPc, va_K.moved hW.alike C.2.1, C.2.2.1.warm hW, hDc.weaken (fun _ _ _ _ => trivial)⟩⟩ rfl hn (hl0.1) rfl (lv_room hsum) d ⟨by rw [C.2.2.2.2.1]; exact hk.1, by rw [C.2.2.2.2.1]; exact hk.2⟩) hS (fun q _ h => hFc q h) hFc (fun r u t H1 locs1 ht hvm hw hB hz1 hk1 hS => ?_)
  obtain ⟨hP1, hD1⟩ := hB
  rw [ht] at hP1
  subst hw
  obtain ⟨hP2, hD2⟩ := va_join (wr := wr) (w1 := wsc') hP hD isC isR hC hRr hnd.2 hdis hk1 hFc hP1 hD1
  exact kk H1 locs1 ls hl0 (sub_P hP2 perm hp1) (hD2.sub perm hp2 hp1) hS
theorem g_cVl (C : Cx E cc Ts own rm nL) {v : Int64} (hM : CoL (eL E) y wc f L (eD E) (eY E) wsc (.ref b :: As) wsc' v) (nA : Nat) (hG : GoodIn Ts (wsV own i cls y wc)) (hw : wc = Cond.code y bytes maxL ret :: wc') (hd : y.cls = cls ∧ y.cls ≠ "java/lang/invoke/MethodHandle" ∧ y.cls ≠ "java/lang/invoke/VarHandle" ∧ (parseMethodDescriptor y.desc).map (fun d => d.parameters.length) = some nA) (hR : f + 1 ≤ rm.frames ∧ 8 + (maxL + 11) + L ≤ rm.locals) (hk : k ≤ rm.cells ∧ n ≤ rm.slots) (hc : vwCl[ci]? = some (cls, T, N)) (q0 : Nat) (he : wsc[q0]? = some (b, .inr (ci, fs))) (hn : As.length = nA) (hst : st0 = As.reverse ++ .ref b :: st) (hsum : (st.map fun v => v.category).sum ≤ 8) (isC isR perm : List Nat) (hC : isC.map (fun i => ws[i]?) = wsc.map some) (hRr : isR.map (fun i => ws[i]?) = wr.map some) (hnd : va_nd isC = true ∧ va_nd isR = true) (hdis : ∀ i ∈ isR, i ∉ isC) (hp1 : perm.map (fun i => (wr ++ wsc')[i]?) = ws2.map some) (hp2 : va_nd perm = true) (d : decode cc pc = .ok (.invokevirtual i, 3)) (q : Nat) (hq : pc + 3 = q) (kk : Go E k n q lv (.long v :: st) ws2) : Go E k n pc lv st0 ws := by
  subst hq
  subst hst
  intro H locs ls hl0 hP hD hS
  have hPc : va_P (eD E) vwCl wsc H := sub_P hP isC hC
  have hDc := hD.sub (ws' := wsc) isC hnd.1 hC
  have hFc := va_free (wc := wsc) hD hS C.2.2.2.1 isC hC
  refine va_calll (va_runV (As := As) (rest := st) C.1 (hM H.size) (cwV nA C.1.2.2.2.2 hG hw rfl rfl hd (by rw [C.2.2.2.2.1]; exact hR)) ⟨PreM.blind _ _ _ _ _, va_recv C.2.1 hPc hc he, fun U hU hW => ⟨rfl, by rw [hU], by rw [hU]; exact hPc, va_K.moved hW.alike C.2.1, C.2.2.1.warm hW, hDc.weaken (fun _ _ _ _ => trivial)⟩⟩ rfl hn (hl0.1) rfl (lv_room hsum) d ⟨by rw [C.2.2.2.2.1]; exact hk.1, by rw [C.2.2.2.2.1]; exact hk.2⟩) hS (fun q _ h => hFc q h) hFc (fun r u t H1 locs1 ht hvm hw hB hz1 hk1 hS => ?_)
  obtain ⟨hP1, hD1⟩ := hB
  rw [ht] at hP1
  subst hw
  obtain ⟨hP2, hD2⟩ := va_join (wr := wr) (w1 := wsc') hP hD isC isR hC hRr hnd.2 hdis hk1 hFc hP1 hD1
  exact kk H1 locs1 ls hl0 (sub_P hP2 perm hp1) (hD2.sub perm hp2 hp1) hS
theorem g_cVNl (C : Cx E cc Ts own rm nL) {v : Int64} (hM : CoL (eL E) y wc f L (eD E) (eY E) wsc (.ref b :: As) wsc' v) (nA : Nat) (hG : GoodIn Ts wc) (hl : va_Nw (.methodLinkNest own i y host) (eS E)) (hini : Cond.initialized y.cls ∈ Ts) (hin : Cond.instanceMethod y ∈ Ts) (hsel : Cond.selects cls y y ∈ Ts) (hw : wc = Cond.code y bytes maxL ret :: wc') (hd : y.cls ≠ "java/lang/invoke/MethodHandle" ∧ y.cls ≠ "java/lang/invoke/VarHandle" ∧ (parseMethodDescriptor y.desc).map (fun d => d.parameters.length) = some nA) (hR : f + 1 ≤ rm.frames ∧ 8 + (maxL + 11) + L ≤ rm.locals) (hk : k ≤ rm.cells ∧ n ≤ rm.slots) (hc : vwCl[ci]? = some (cls, T, N)) (q0 : Nat) (he : wsc[q0]? = some (b, .inr (ci, fs))) (hn : As.length = nA) (hst : st0 = As.reverse ++ .ref b :: st) (hsum : (st.map fun v => v.category).sum ≤ 8) (isC isR perm : List Nat) (hC : isC.map (fun i => ws[i]?) = wsc.map some) (hRr : isR.map (fun i => ws[i]?) = wr.map some) (hnd : va_nd isC = true ∧ va_nd isR = true) (hdis : ∀ i ∈ isR, i ∉ isC) (hp1 : perm.map (fun i => (wr ++ wsc')[i]?) = ws2.map some) (hp2 : va_nd perm = true) (d : decode cc pc = .ok (.invokevirtual i, 3)) (q : Nat) (hq : pc + 3 = q) (kk : Go E k n q lv (.long v :: st) ws2) : Go E k n pc lv st0 ws := by
  subst hq
  subst hst
  intro H locs ls hl0 hP hD hS
  have hPc : va_P (eD E) vwCl wsc H := sub_P hP isC hC
  have hDc := hD.sub (ws' := wsc) isC hnd.1 hC
  have hFc := va_free (wc := wsc) hD hS C.2.2.2.1 isC hC
  refine va_calll (va_runVN (As := As) (rest := st) C.1 (hM H.size) ⟨va_cnB nA C.1.2.2.2.2 hG hw rfl rfl hl (C.1.2.2.2.2 _ hini) hd (by rw [C.2.2.2.2.1]; exact hR), C.1.2.2.2.2 _ hin, C.1.2.2.2.2 _ hsel⟩ ⟨PreM.blind _ _ _ _ _, va_recv C.2.1 hPc hc he, fun U hU hW => ⟨rfl, by rw [hU], by rw [hU]; exact hPc, va_K.moved hW.alike C.2.1, C.2.2.1.warm hW, hDc.weaken (fun _ _ _ _ => trivial)⟩⟩ rfl hn (hl0.1) rfl (lv_room hsum) d ⟨by rw [C.2.2.2.2.1]; exact hk.1, by rw [C.2.2.2.2.1]; exact hk.2⟩) hS (fun q _ h => hFc q h) hFc (fun r u t H1 locs1 ht hvm hw hB hz1 hk1 hS => ?_)
  obtain ⟨hP1, hD1⟩ := hB
  rw [ht] at hP1
  subst hw
  obtain ⟨hP2, hD2⟩ := va_join (wr := wr) (w1 := wsc') hP hD isC isR hC hRr hnd.2 hdis hk1 hFc hP1 hD1
  exact kk H1 locs1 ls hl0 (sub_P hP2 perm hp1) (hD2.sub perm hp2 hp1) hS
theorem g_cSl (C : Cx E cc Ts own rm nL) {v : Int64} (hM : CoL (eL E) y wc f L (eD E) (eY E) wsc As wsc' v) (nA : Nat) (hG : GoodIn Ts (va_wsS own i y wc)) (hw : wc = Cond.code y bytes maxL ret :: wc') (hd : y.cls ≠ "java/lang/invoke/MethodHandle" ∧ y.cls ≠ "java/lang/invoke/VarHandle" ∧ (parseMethodDescriptor y.desc).map (fun d => d.parameters.length) = some nA) (hR : f + 1 ≤ rm.frames ∧ 8 + (maxL + 11) + L ≤ rm.locals) (hk : k ≤ rm.cells ∧ n ≤ rm.slots) (hn : As.length = nA) (hst : st0 = As.reverse ++ st) (hsum : (st.map fun v => v.category).sum ≤ 8) (isC isR perm : List Nat) (hC : isC.map (fun i => ws[i]?) = wsc.map some) (hRr : isR.map (fun i => ws[i]?) = wr.map some) (hnd : va_nd isC = true ∧ va_nd isR = true) (hdis : ∀ i ∈ isR, i ∉ isC) (hp1 : perm.map (fun i => (wr ++ wsc')[i]?) = ws2.map some) (hp2 : va_nd perm = true) (d : decode cc pc = .ok (.invokestatic i, 3)) (q : Nat) (hq : pc + 3 = q) (kk : Go E k n q lv (.long v :: st) ws2) : Go E k n pc lv st0 ws := by
  subst hq
  subst hst
  intro H locs ls hl0 hP hD hS
  have hPc : va_P (eD E) vwCl wsc H := sub_P hP isC hC
  have hDc := hD.sub (ws' := wsc) isC hnd.1 hC
  have hFc := va_free (wc := wsc) hD hS C.2.2.2.1 isC hC
  refine va_calll (va_runS (As := As) (rest := st) C.1 (hM H.size) (va_cwS nA C.1.2.2.2.2 hG hw rfl rfl hd (by rw [C.2.2.2.2.1]; exact hR)) ⟨PreM.blind _ _ _ _ _, fun U hU hW => ⟨rfl, by rw [hU], by rw [hU]; exact hPc, va_K.moved hW.alike C.2.1, C.2.2.1.warm hW, hDc.weaken (fun _ _ _ _ => trivial)⟩⟩ rfl hn (hl0.1) rfl (lv_room hsum) d ⟨by rw [C.2.2.2.2.1]; exact hk.1, by rw [C.2.2.2.2.1]; exact hk.2⟩) hS (fun q _ h => hFc q h) hFc (fun r u t H1 locs1 ht hvm hw hB hz1 hk1 hS => ?_)
  obtain ⟨hP1, hD1⟩ := hB
  rw [ht] at hP1
  subst hw
  obtain ⟨hP2, hD2⟩ := va_join (wr := wr) (w1 := wsc') hP hD isC isR hC hRr hnd.2 hdis hk1 hFc hP1 hD1
  exact kk H1 locs1 ls hl0 (sub_P hP2 perm hp1) (hD2.sub perm hp2 hp1) hS
theorem g_cSNl (C : Cx E cc Ts own rm nL) {v : Int64} (hM : CoL (eL E) y wc f L (eD E) (eY E) wsc As wsc' v) (nA : Nat) (hG : GoodIn Ts wc) (hl : va_Nw (.methodLinkNest own i y host) (eS E)) (hini : Cond.initialized y.cls ∈ Ts) (hstt : Cond.static y ∈ Ts) (hw : wc = Cond.code y bytes maxL ret :: wc') (hd : y.cls ≠ "java/lang/invoke/MethodHandle" ∧ y.cls ≠ "java/lang/invoke/VarHandle" ∧ (parseMethodDescriptor y.desc).map (fun d => d.parameters.length) = some nA) (hR : f + 1 ≤ rm.frames ∧ 8 + (maxL + 11) + L ≤ rm.locals) (hk : k ≤ rm.cells ∧ n ≤ rm.slots) (hn : As.length = nA) (hst : st0 = As.reverse ++ st) (hsum : (st.map fun v => v.category).sum ≤ 8) (isC isR perm : List Nat) (hC : isC.map (fun i => ws[i]?) = wsc.map some) (hRr : isR.map (fun i => ws[i]?) = wr.map some) (hnd : va_nd isC = true ∧ va_nd isR = true) (hdis : ∀ i ∈ isR, i ∉ isC) (hp1 : perm.map (fun i => (wr ++ wsc')[i]?) = ws2.map some) (hp2 : va_nd perm = true) (d : decode cc pc = .ok (.invokestatic i, 3)) (q : Nat) (hq : pc + 3 = q) (kk : Go E k n q lv (.long v :: st) ws2) : Go E k n pc lv st0 ws := by
  subst hq
  subst hst
  intro H locs ls hl0 hP hD hS
  have hPc : va_P (eD E) vwCl wsc H := sub_P hP isC hC
  have hDc := hD.sub (ws' := wsc) isC hnd.1 hC
  have hFc := va_free (wc := wsc) hD hS C.2.2.2.1 isC hC
  refine va_calll (va_runSN (As := As) (rest := st) C.1 (hM H.size) ⟨va_cnB nA C.1.2.2.2.2 hG hw rfl rfl hl (C.1.2.2.2.2 _ hini) hd (by rw [C.2.2.2.2.1]; exact hR), C.1.2.2.2.2 _ hstt, trivial⟩ ⟨PreM.blind _ _ _ _ _, fun U hU hW => ⟨rfl, by rw [hU], by rw [hU]; exact hPc, va_K.moved hW.alike C.2.1, C.2.2.1.warm hW, hDc.weaken (fun _ _ _ _ => trivial)⟩⟩ rfl hn (hl0.1) rfl (lv_room hsum) d ⟨by rw [C.2.2.2.2.1]; exact hk.1, by rw [C.2.2.2.2.1]; exact hk.2⟩) hS (fun q _ h => hFc q h) hFc (fun r u t H1 locs1 ht hvm hw hB hz1 hk1 hS => ?_)
  obtain ⟨hP1, hD1⟩ := hB
  rw [ht] at hP1
  subst hw
  obtain ⟨hP2, hD2⟩ := va_join (wr := wr) (w1 := wsc') hP hD isC isR hC hRr hnd.2 hdis hk1 hFc hP1 hD1
  exact kk H1 locs1 ls hl0 (sub_P hP2 perm hp1) (hD2.sub perm hp2 hp1) hS
theorem g_cVv (C : Cx E cc Ts own rm nL)  (hM : CoV (eL E) y wc f L (eD E) (eY E) wsc (.ref b :: As) wsc') (nA : Nat) (hG : GoodIn Ts (wsV own i cls y wc)) (hw : wc = Cond.code y bytes maxL ret :: wc') (hd : y.cls = cls ∧ y.cls ≠ "java/lang/invoke/MethodHandle" ∧ y.cls ≠ "java/lang/invoke/VarHandle" ∧ (parseMethodDescriptor y.desc).map (fun d => d.parameters.length) = some nA) (hR : f + 1 ≤ rm.frames ∧ 8 + (maxL + 11) + L ≤ rm.locals) (hk : k ≤ rm.cells ∧ n ≤ rm.slots) (hc : vwCl[ci]? = some (cls, T, N)) (q0 : Nat) (he : wsc[q0]? = some (b, .inr (ci, fs))) (hn : As.length = nA) (hst : st0 = As.reverse ++ .ref b :: st) (hsum : (st.map fun v => v.category).sum ≤ 8) (isC isR perm : List Nat) (hC : isC.map (fun i => ws[i]?) = wsc.map some) (hRr : isR.map (fun i => ws[i]?) = wr.map some) (hnd : va_nd isC = true ∧ va_nd isR = true) (hdis : ∀ i ∈ isR, i ∉ isC) (hp1 : perm.map (fun i => (wr ++ wsc')[i]?) = ws2.map some) (hp2 : va_nd perm = true) (d : decode cc pc = .ok (.invokevirtual i, 3)) (q : Nat) (hq : pc + 3 = q) (kk : Go E k n q lv (st) ws2) : Go E k n pc lv st0 ws := by
  subst hq
  subst hst
  intro H locs ls hl0 hP hD hS
  have hPc : va_P (eD E) vwCl wsc H := sub_P hP isC hC
  have hDc := hD.sub (ws' := wsc) isC hnd.1 hC
  have hFc := va_free (wc := wsc) hD hS C.2.2.2.1 isC hC
  refine va_callv (va_runV (As := As) (rest := st) C.1 (hM H.size) (cwV nA C.1.2.2.2.2 hG hw rfl rfl hd (by rw [C.2.2.2.2.1]; exact hR)) ⟨PreM.blind _ _ _ _ _, va_recv C.2.1 hPc hc he, fun U hU hW => ⟨rfl, by rw [hU], by rw [hU]; exact hPc, va_K.moved hW.alike C.2.1, C.2.2.1.warm hW, hDc.weaken (fun _ _ _ _ => trivial)⟩⟩ rfl hn (hl0.1) rfl (lv_room hsum) d ⟨by rw [C.2.2.2.2.1]; exact hk.1, by rw [C.2.2.2.2.1]; exact hk.2⟩) hS (fun q _ h => hFc q h) hFc (fun u t H1 locs1 ht hvm hw hB hz1 hk1 hS => ?_)
  obtain ⟨hP1, hD1⟩ := hB
  rw [ht] at hP1
  skip
  obtain ⟨hP2, hD2⟩ := va_join (wr := wr) (w1 := wsc') hP hD isC isR hC hRr hnd.2 hdis hk1 hFc hP1 hD1
  exact kk H1 locs1 ls hl0 (sub_P hP2 perm hp1) (hD2.sub perm hp2 hp1) hS
theorem g_cVNv (C : Cx E cc Ts own rm nL)  (hM : CoV (eL E) y wc f L (eD E) (eY E) wsc (.ref b :: As) wsc') (nA : Nat) (hG : GoodIn Ts wc) (hl : va_Nw (.methodLinkNest own i y host) (eS E)) (hini : Cond.initialized y.cls ∈ Ts) (hin : Cond.instanceMethod y ∈ Ts) (hsel : Cond.selects cls y y ∈ Ts) (hw : wc = Cond.code y bytes maxL ret :: wc') (hd : y.cls ≠ "java/lang/invoke/MethodHandle" ∧ y.cls ≠ "java/lang/invoke/VarHandle" ∧ (parseMethodDescriptor y.desc).map (fun d => d.parameters.length) = some nA) (hR : f + 1 ≤ rm.frames ∧ 8 + (maxL + 11) + L ≤ rm.locals) (hk : k ≤ rm.cells ∧ n ≤ rm.slots) (hc : vwCl[ci]? = some (cls, T, N)) (q0 : Nat) (he : wsc[q0]? = some (b, .inr (ci, fs))) (hn : As.length = nA) (hst : st0 = As.reverse ++ .ref b :: st) (hsum : (st.map fun v => v.category).sum ≤ 8) (isC isR perm : List Nat) (hC : isC.map (fun i => ws[i]?) = wsc.map some) (hRr : isR.map (fun i => ws[i]?) = wr.map some) (hnd : va_nd isC = true ∧ va_nd isR = true) (hdis : ∀ i ∈ isR, i ∉ isC) (hp1 : perm.map (fun i => (wr ++ wsc')[i]?) = ws2.map some) (hp2 : va_nd perm = true) (d : decode cc pc = .ok (.invokevirtual i, 3)) (q : Nat) (hq : pc + 3 = q) (kk : Go E k n q lv (st) ws2) : Go E k n pc lv st0 ws := by
  subst hq
  subst hst
  intro H locs ls hl0 hP hD hS
  have hPc : va_P (eD E) vwCl wsc H := sub_P hP isC hC
  have hDc := hD.sub (ws' := wsc) isC hnd.1 hC
  have hFc := va_free (wc := wsc) hD hS C.2.2.2.1 isC hC
  refine va_callv (va_runVN (As := As) (rest := st) C.1 (hM H.size) ⟨va_cnB nA C.1.2.2.2.2 hG hw rfl rfl hl (C.1.2.2.2.2 _ hini) hd (by rw [C.2.2.2.2.1]; exact hR), C.1.2.2.2.2 _ hin, C.1.2.2.2.2 _ hsel⟩ ⟨PreM.blind _ _ _ _ _, va_recv C.2.1 hPc hc he, fun U hU hW => ⟨rfl, by rw [hU], by rw [hU]; exact hPc, va_K.moved hW.alike C.2.1, C.2.2.1.warm hW, hDc.weaken (fun _ _ _ _ => trivial)⟩⟩ rfl hn (hl0.1) rfl (lv_room hsum) d ⟨by rw [C.2.2.2.2.1]; exact hk.1, by rw [C.2.2.2.2.1]; exact hk.2⟩) hS (fun q _ h => hFc q h) hFc (fun u t H1 locs1 ht hvm hw hB hz1 hk1 hS => ?_)
  obtain ⟨hP1, hD1⟩ := hB
  rw [ht] at hP1
  skip
  obtain ⟨hP2, hD2⟩ := va_join (wr := wr) (w1 := wsc') hP hD isC isR hC hRr hnd.2 hdis hk1 hFc hP1 hD1
  exact kk H1 locs1 ls hl0 (sub_P hP2 perm hp1) (hD2.sub perm hp2 hp1) hS
theorem g_cSv (C : Cx E cc Ts own rm nL)  (hM : CoV (eL E) y wc f L (eD E) (eY E) wsc As wsc') (nA : Nat) (hG : GoodIn Ts (va_wsS own i y wc)) (hw : wc = Cond.code y bytes maxL ret :: wc') (hd : y.cls ≠ "java/lang/invoke/MethodHandle" ∧ y.cls ≠ "java/lang/invoke/VarHandle" ∧ (parseMethodDescriptor y.desc).map (fun d => d.parameters.length) = some nA) (hR : f + 1 ≤ rm.frames ∧ 8 + (maxL + 11) + L ≤ rm.locals) (hk : k ≤ rm.cells ∧ n ≤ rm.slots) (hn : As.length = nA) (hst : st0 = As.reverse ++ st) (hsum : (st.map fun v => v.category).sum ≤ 8) (isC isR perm : List Nat) (hC : isC.map (fun i => ws[i]?) = wsc.map some) (hRr : isR.map (fun i => ws[i]?) = wr.map some) (hnd : va_nd isC = true ∧ va_nd isR = true) (hdis : ∀ i ∈ isR, i ∉ isC) (hp1 : perm.map (fun i => (wr ++ wsc')[i]?) = ws2.map some) (hp2 : va_nd perm = true) (d : decode cc pc = .ok (.invokestatic i, 3)) (q : Nat) (hq : pc + 3 = q) (kk : Go E k n q lv (st) ws2) : Go E k n pc lv st0 ws := by
  subst hq
  subst hst
  intro H locs ls hl0 hP hD hS
  have hPc : va_P (eD E) vwCl wsc H := sub_P hP isC hC
  have hDc := hD.sub (ws' := wsc) isC hnd.1 hC
  have hFc := va_free (wc := wsc) hD hS C.2.2.2.1 isC hC
  refine va_callv (va_runS (As := As) (rest := st) C.1 (hM H.size) (va_cwS nA C.1.2.2.2.2 hG hw rfl rfl hd (by rw [C.2.2.2.2.1]; exact hR)) ⟨PreM.blind _ _ _ _ _, fun U hU hW => ⟨rfl, by rw [hU], by rw [hU]; exact hPc, va_K.moved hW.alike C.2.1, C.2.2.1.warm hW, hDc.weaken (fun _ _ _ _ => trivial)⟩⟩ rfl hn (hl0.1) rfl (lv_room hsum) d ⟨by rw [C.2.2.2.2.1]; exact hk.1, by rw [C.2.2.2.2.1]; exact hk.2⟩) hS (fun q _ h => hFc q h) hFc (fun u t H1 locs1 ht hvm hw hB hz1 hk1 hS => ?_)
  obtain ⟨hP1, hD1⟩ := hB
  rw [ht] at hP1
  skip
  obtain ⟨hP2, hD2⟩ := va_join (wr := wr) (w1 := wsc') hP hD isC isR hC hRr hnd.2 hdis hk1 hFc hP1 hD1
  exact kk H1 locs1 ls hl0 (sub_P hP2 perm hp1) (hD2.sub perm hp2 hp1) hS
theorem g_cSNv (C : Cx E cc Ts own rm nL)  (hM : CoV (eL E) y wc f L (eD E) (eY E) wsc As wsc') (nA : Nat) (hG : GoodIn Ts wc) (hl : va_Nw (.methodLinkNest own i y host) (eS E)) (hini : Cond.initialized y.cls ∈ Ts) (hstt : Cond.static y ∈ Ts) (hw : wc = Cond.code y bytes maxL ret :: wc') (hd : y.cls ≠ "java/lang/invoke/MethodHandle" ∧ y.cls ≠ "java/lang/invoke/VarHandle" ∧ (parseMethodDescriptor y.desc).map (fun d => d.parameters.length) = some nA) (hR : f + 1 ≤ rm.frames ∧ 8 + (maxL + 11) + L ≤ rm.locals) (hk : k ≤ rm.cells ∧ n ≤ rm.slots) (hn : As.length = nA) (hst : st0 = As.reverse ++ st) (hsum : (st.map fun v => v.category).sum ≤ 8) (isC isR perm : List Nat) (hC : isC.map (fun i => ws[i]?) = wsc.map some) (hRr : isR.map (fun i => ws[i]?) = wr.map some) (hnd : va_nd isC = true ∧ va_nd isR = true) (hdis : ∀ i ∈ isR, i ∉ isC) (hp1 : perm.map (fun i => (wr ++ wsc')[i]?) = ws2.map some) (hp2 : va_nd perm = true) (d : decode cc pc = .ok (.invokestatic i, 3)) (q : Nat) (hq : pc + 3 = q) (kk : Go E k n q lv (st) ws2) : Go E k n pc lv st0 ws := by
  subst hq
  subst hst
  intro H locs ls hl0 hP hD hS
  have hPc : va_P (eD E) vwCl wsc H := sub_P hP isC hC
  have hDc := hD.sub (ws' := wsc) isC hnd.1 hC
  have hFc := va_free (wc := wsc) hD hS C.2.2.2.1 isC hC
  refine va_callv (va_runSN (As := As) (rest := st) C.1 (hM H.size) ⟨va_cnB nA C.1.2.2.2.2 hG hw rfl rfl hl (C.1.2.2.2.2 _ hini) hd (by rw [C.2.2.2.2.1]; exact hR), C.1.2.2.2.2 _ hstt, trivial⟩ ⟨PreM.blind _ _ _ _ _, fun U hU hW => ⟨rfl, by rw [hU], by rw [hU]; exact hPc, va_K.moved hW.alike C.2.1, C.2.2.1.warm hW, hDc.weaken (fun _ _ _ _ => trivial)⟩⟩ rfl hn (hl0.1) rfl (lv_room hsum) d ⟨by rw [C.2.2.2.2.1]; exact hk.1, by rw [C.2.2.2.2.1]; exact hk.2⟩) hS (fun q _ h => hFc q h) hFc (fun u t H1 locs1 ht hvm hw hB hz1 hk1 hS => ?_)
  obtain ⟨hP1, hD1⟩ := hB
  rw [ht] at hP1
  skip
  obtain ⟨hP2, hD2⟩ := va_join (wr := wr) (w1 := wsc') hP hD isC isR hC hRr hnd.2 hdis hk1 hFc hP1 hD1
  exact kk H1 locs1 ls hl0 (sub_P hP2 perm hp1) (hD2.sub perm hp2 hp1) hS
end GC
