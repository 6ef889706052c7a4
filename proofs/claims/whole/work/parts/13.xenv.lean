def gXW : List Cond := [.declares ⟨"java/lang/RuntimeException","<init>","(Ljava/lang/String;)V"⟩, .declares ⟨"java/lang/Exception","<init>","(Ljava/lang/String;)V"⟩, .declares ⟨"java/lang/Throwable","<init>","(Ljava/lang/String;)V"⟩, .castable "java/lang/IllegalArgumentException" "java/lang/IllegalArgumentException", .castable "java/lang/IllegalStateException" "java/lang/IllegalStateException", .castable "java/lang/IndexOutOfBoundsException" "java/lang/IndexOutOfBoundsException"]
def gXN : List (String × String) := [("java/lang/IllegalArgumentException", "java/lang/IllegalStateException"), ("java/lang/IllegalArgumentException", "java/lang/IndexOutOfBoundsException"), ("java/lang/IllegalStateException", "java/lang/IllegalArgumentException"), ("java/lang/IllegalStateException", "java/lang/IndexOutOfBoundsException"), ("java/lang/IndexOutOfBoundsException", "java/lang/IllegalArgumentException"), ("java/lang/IndexOutOfBoundsException", "java/lang/IllegalStateException")]
def gXS : List (Nat × String) := [(103, "the peg is in"), (89, "there are 16 pegs, or one is there"), (270, "x or y is not 0 to 9"), (280, "direction is not 0 to 3"), (284, "nights is not 1 to 30"), (272, "there is no such peg"), (282, "rain is not 0 to 9"), (278, "force is not 0 to 9"), (274, "there is no such tent"), (276, "there is no such what"), (108, "size is not 1 to 9"), (119, "there are 8 tents, or one is there"), (127, "the tent stands"), (32, "height is not 0 to 30, or firmness is not 1 to 9"), (53, "night is not 0 to 6"), (141, "the tent has 6 ropes")]
def gSup : List String := ["java/lang/RuntimeException", "java/lang/Exception"]
def EIA : String := "java/lang/IllegalArgumentException"
def EIS : String := "java/lang/IllegalStateException"
def EIO : String := "java/lang/IndexOutOfBoundsException"
set_option maxRecDepth 100000 in
theorem at_IS_91 : ∀ w ∈ (vx_atS RX6 91 EIS gSup).filter goodWord, w ∈ gWs := fun w hw => by
  have hg := (List.mem_filter.mp hw).2
  have h := goodIn_r (big := lw_tbl) ((vx_atS RX6 91 EIS gSup).filter goodWord) [40, 279, 288, 292, 295, 297, 280, 281, 55, 56, 282, 287, 293, 313, 269, 314, 271, 315, 273, 283, 285, 275, 309, 310, 312, 275, 507, 508, 509, 303, 303, 304, 305, 306, 306, 307, 308, 309, 506, 497, 499, 291, 500, 501, 502, 503, 278, 277, 504] (by decide +kernel) (by decide +kernel) w hw
  exact List.mem_filter.mpr ⟨h.1, hg⟩
theorem an_IS_91 : ∀ w ∈ (vx_atS RX6 91 EIS gSup).filter (fun w => !goodWord w), w ∈ gXW := by decide +kernel
theorem ag_IS_91 (ik : Nat) : ∀ w ∈ Cond.classLink RX6 ik EIS :: Cond.initialized EIS :: vx_atS RX6 91 EIS gSup, vx_ot w = true := by
  intro w hw
  rcases List.mem_cons.mp hw with rfl | hw
  · rfl
  rcases List.mem_cons.mp hw with rfl | hw
  · rfl
  have h : ∀ w ∈ vx_atS RX6 91 EIS gSup, vx_ot w = true := by decide +kernel
  exact h w hw
set_option maxRecDepth 100000 in
theorem at_IO_55 : ∀ w ∈ (vx_atS RX6 55 EIO gSup).filter goodWord, w ∈ gWs := fun w hw => by
  have hg := (List.mem_filter.mp hw).2
  have h := goodIn_r (big := lw_tbl) ((vx_atS RX6 55 EIO gSup).filter goodWord) [40, 279, 288, 292, 295, 297, 280, 281, 55, 56, 282, 287, 293, 313, 269, 314, 271, 315, 273, 283, 285, 275, 309, 310, 312, 275, 300, 301, 302, 303, 303, 304, 305, 306, 306, 307, 308, 309, 299, 258, 266, 267, 268, 270, 272, 274, 278, 277, 276] (by decide +kernel) (by decide +kernel) w hw
  exact List.mem_filter.mpr ⟨h.1, hg⟩
theorem an_IO_55 : ∀ w ∈ (vx_atS RX6 55 EIO gSup).filter (fun w => !goodWord w), w ∈ gXW := by decide +kernel
theorem ag_IO_55 (ik : Nat) : ∀ w ∈ Cond.classLink RX6 ik EIO :: Cond.initialized EIO :: vx_atS RX6 55 EIO gSup, vx_ot w = true := by
  intro w hw
  rcases List.mem_cons.mp hw with rfl | hw
  · rfl
  rcases List.mem_cons.mp hw with rfl | hw
  · rfl
  have h : ∀ w ∈ vx_atS RX6 55 EIO gSup, vx_ot w = true := by decide +kernel
  exact h w hw
set_option maxRecDepth 100000 in
theorem at_IA_34 : ∀ w ∈ (vx_atS RX6 34 EIA gSup).filter goodWord, w ∈ gWs := fun w hw => by
  have hg := (List.mem_filter.mp hw).2
  have h := goodIn_r (big := lw_tbl) ((vx_atS RX6 34 EIA gSup).filter goodWord) [40, 279, 288, 292, 295, 297, 280, 281, 55, 56, 282, 287, 293, 313, 269, 314, 271, 315, 273, 283, 285, 275, 309, 310, 312, 275, 447, 448, 449, 303, 303, 304, 305, 306, 306, 307, 308, 309, 446, 437, 439, 290, 440, 441, 442, 443, 278, 277, 444] (by decide +kernel) (by decide +kernel) w hw
  exact List.mem_filter.mpr ⟨h.1, hg⟩
theorem an_IA_34 : ∀ w ∈ (vx_atS RX6 34 EIA gSup).filter (fun w => !goodWord w), w ∈ gXW := by decide +kernel
theorem ag_IA_34 (ik : Nat) : ∀ w ∈ Cond.classLink RX6 ik EIA :: Cond.initialized EIA :: vx_atS RX6 34 EIA gSup, vx_ot w = true := by
  intro w hw
  rcases List.mem_cons.mp hw with rfl | hw
  · rfl
  rcases List.mem_cons.mp hw with rfl | hw
  · rfl
  have h : ∀ w ∈ vx_atS RX6 34 EIA gSup, vx_ot w = true := by decide +kernel
  exact h w hw
def gX (A : Nat → Prop) (U : State) (H : Heap) : Prop := (∀ w ∈ gXW, va_Nw w U) ∧ (∀ q ∈ gXN, va_Nc q.1 q.2 U) ∧ (∀ q ∈ gXS, ∃ a, vk_R RX6 q.1 q.2 a U) ∧ vx_Zq Bundle.tN "UNASSIGNED_STACK" Bundle.steD A U H ∧ vx_Zq Bundle.tN "SUPPRESSED_SENTINEL" Bundle.listD A U H
theorem gXW_warm {s U : State} (hW : s.WarmedH U.vm) (h : ∀ w ∈ gXW, va_Nw w s) : ∀ w ∈ gXW, va_Nw w U := fun w hw => by
  have h1 := h w hw
  simp only [gXW, List.mem_cons, List.not_mem_nil, or_false] at hw
  rcases hw with rfl | rfl | rfl | rfl | rfl | rfl
  · exact va_Nw.warmD hW h1
  · exact va_Nw.warmD hW h1
  · exact va_Nw.warmD hW h1
  · exact va_Nw.warmC hW h1
  · exact va_Nw.warmC hW h1
  · exact va_Nw.warmC hW h1
theorem gXW_on : ∀ w ∈ gXW, w.onTables = true := by decide +kernel
theorem gX.warm {A B : Nat → Prop} {s U : State} {H : Heap} (hW : s.WarmedH U.vm) (hAB : ∀ q, B q → A q) (h : gX A s H) : gX B U H := by
  obtain ⟨h1, h2, h3, h4, h5⟩ := h
  exact ⟨gXW_warm hW h1, fun q hq => (h2 q hq).moved hW.alike, fun q hq => (h3 q hq).elim (fun a ha => ⟨a, vk_R.warm hW ha⟩), (h4.moved hW.alike).narrow hAB, (h5.moved hW.alike).narrow hAB⟩
theorem gX.same {A : Nat → Prop} {u U : State} {H : Heap} (hv : u.vm = U.vm) (h : gX A u H) : gX A U H := by
  obtain ⟨h1, h2, h3, h4, h5⟩ := h
  have ha : u.vm.Alike U.vm := by rw [hv]; exact Vm.Alike.refl U.vm
  exact ⟨fun w hw => va_Nw.same (gXW_on w hw) hv (h1 w hw), fun q hq => (h2 q hq).moved ha, fun q hq => (h3 q hq).elim (fun a h => ⟨a, vk_R.same hv.symm h⟩), h4.moved ha, h5.moved ha⟩
theorem gX.kept {A : Nat → Prop} {U : State} {H H1 : Heap} (h : gX A U H) (hq : ∀ a : Nat, a < H.size → ¬ A a → H1[a]? = H[a]?) : gX A U H1 := by
  obtain ⟨h1, h2, h3, h4, h5⟩ := h
  exact ⟨h1, h2, h3, h4.kept hq, h5.kept hq⟩
theorem gX.at {A : Nat → Prop} {s : State} {H : Heap} {locs : List Loc} (h : gX A s s.heap) (hS : va_S A s.heap H locs) : gX A s H := h.kept (fun a h1 h2 => hS.2.1 a h1 h2)
def gPcX (D : va_G) (cI cZ : ClassId) (sz : Nat) (ws : va_W) (av : List Value) : Array Value → State → Prop :=
  va_Pc av (fun U => U.heap.size = sz ∧ va_P D vwCl ws U.heap ∧ va_K D vwCl (gT cI cZ) U ∧ va_D (fun _ => True) ws ∧ gE (va_A ws sz) U U.heap ∧ gX (va_A ws sz) U U.heap)
theorem gPcX.blind {D : va_G} {cI cZ : ClassId} {sz : Nat} {ws : va_W} {av : List Value} : FrameBlind (gPcX D cI cZ sz ws av) := fun a U g mk q => by
  obtain ⟨q0, q1, qP, qK, qD, qE, qX⟩ := q
  exact ⟨q0, q1, qP, va_K.moved (u := U) (U := U.calling g mk a) (Vm.Alike.refl U.vm) qK, qD, gE.same (U := U.calling g mk a) rfl qE, gX.same (u := U) (U := U.calling g mk a) (H := U.heap) rfl qX⟩
theorem gPcX.at {D : va_G} {cI cZ : ClassId} {A : Nat → Prop} {s : State} {H : Heap} {locs : List Loc} {ws wc : va_W} (hK : va_K D vwCl (gT cI cZ) s) (hP : va_P D vwCl ws H) (hD : va_D A ws) (hS : va_S A s.heap H locs) (hA : ∀ q, s.heap.size ≤ q → A q) (hE : gE A s s.heap) (hX : gX A s s.heap)
    (isC : List Nat) (hn : va_nd isC = true) (hC : isC.map (fun i => ws[i]?) = wc.map some) (av : List Value) : ∀ U : State, U.heap = H → s.WarmedH U.vm → gPcX D cI cZ H.size wc av av.toArray U :=
  fun U hU hW => ⟨rfl, by rw [hU], by rw [hU]; exact hP.sub isC (g_fm hC), va_K.moved hW.alike hK, (hD.sub isC hn hC).weaken (fun _ _ _ _ => trivial), by rw [hU]; exact (hE.at hS).warm hW (va_free hD hS hA isC hC), by rw [hU]; exact (hX.at hS).warm hW (va_free hD hS hA isC hC)⟩
/-- where a method has thrown E and left its world as it was -/
abbrev gXC (D : va_G) (A : Nat → Prop) (w1 : va_W) (E : String) : String → State → State → Prop := vx_X (fun _ : Unit => True) (fun E9 _ t => E9 = E ∧ gB D A w1 t) A
abbrev gNo : Array Value → State → Outcome → State → Prop := fun _ _ _ _ => False
/-- a method that throws E, its world as before -/
abbrev gMx (l : Launch) (y : MethodName) (code : ByteArray) (nL : Nat) (ret : Option FieldType) (D : va_G) (cI cZ : ClassId) (sz : Nat) (ws : va_W) (av : List Value) (rm : Room) (E : String) : Prop :=
  vx_Met l y (gW y code nL ret) rm (gPcX D cI cZ sz ws av) gNo (gXC D (va_A ws sz) ws E) 1 6 (va_A ws sz)
theorem gMx_of {l : Launch} {y : MethodName} {code : ByteArray} {nL : Nat} {ret : Option FieldType} {D : va_G} {cI cZ : ClassId} {sz : Nat} {ws : va_W} {av : List Value} {rm : Room} {E : String} (hy : plainName y.cls = true) (hlen : (lg_sl av).length ≤ nL)
    (body : ∀ (p : Program) (e : Env) (s : State) (m : MethodId) (below : List Frame) (meth : Method) (c : Code) (A : Nat → Prop), p.tables.exec = Jvm.exec → c.code = code → meth.sig.returnType = ret → c.maxLocals = nL → (∀ w ∈ gWs, w.before av.toArray s = true) → s.vm.findClass y.cls = some m.cls → meth.locks = false → meth.name = y.name →
      (∀ q, s.heap.size ≤ q → A q) → sz = s.heap.size → va_A ws sz = A → va_P D vwCl ws s.heap → va_K D vwCl (gT cI cZ) s → va_D A ws → gE A s s.heap → gX A s s.heap → (∀ x ∈ c.exceptionTable.toList, False) → va_S A s.heap s.heap [] → ∀ ls : Array Slot, lv_has ls nL (lv_args 0 av) → W p l e rm s m av.toArray below meth c s.heap [] 0 0 (vx_MQ below gNo (gXC D A ws E) av.toArray s 1 6 A) (F0 m 0 ls [])) :
    gMx l y code nL ret D cI cZ sz ws av rm E := by
  refine vx_ofW (cc := code) (maxL := nL) (ret := ret) hy rfl ?_
  intro p e s m args below meth c s₁ B hml ht hv
  obtain ⟨rfl, hsz, hP, hK, hD0, hE, hX⟩ := hv
  have hts := atoms_spec (ws := gW y code nL ret) B.pre
  rw [lg_entry_eq]
  exact body p e s m below meth c (va_A ws sz) B.exec B.bytes B.returns hml (fun w h => hts w (List.mem_cons_of_mem _ h)) (findClass_of_methodNamed B.named) B.notSynchronized (name_of_methodNamed B.named B.method).1 (fun q h => Or.inr (by rw [← hsz]; exact h)) hsz.symm rfl hP hK hD0.self hE hX ht va_S.rf _ (lv_entry av hlen)

section GX
variable {p : Program} {l : Launch} {e : Env} {R : Room} {s : State} {m : MethodId} {args : Array Value} {below : List Frame} {meth : Method} {c : Code} {H : Heap} {locs : List Loc} {cells slots : Nat} {Q : State → Prop}
variable {cc : ByteArray} {pc : Nat} {ls : Array Slot} {rest : List Value} {D : va_G} {cI cZ : ClassId} {A : Nat → Prop} {ws : va_W} {H0 : Heap} {tys : List (ClassId × FieldType)}
/-- a throw that leaves the method, its world w1 as it was -/
theorem g_xout {E : String} {ce : Cell} {q : Addr} {mc ms : Nat} {w1 : va_W} (hout : ∀ x ∈ c.exceptionTable.toList, False) (hlocks : meth.locks = false) (hcell : H[q]? = some ce) (hv : ce.vm = .none) (hcl : s.vm.findClass E = some ce.cls) (hS : va_S A s.heap H locs) (hP : va_P D vwCl w1 H) (hD : va_D A w1) (hc : cells ≤ mc) (hs : slots ≤ ms) :
    vx_W p l e R s m args below meth c H locs cells slots (vx_MQ below gNo (gXC D A w1 E) args s mc ms A) (F0 m pc ls rest) q :=
  vx_out (fun x hx => (hout x hx).elim) hlocks hcell hv hcl (fun t ht hW => ⟨(), trivial, ⟨rfl, by rw [ht]; exact hP, hD⟩, hS.F ht⟩) hS.2.2 hc hs

theorem g_xthr (hx : p.tables.exec = Jvm.exec) (hb : c.code = cc) (hl9 : l.stackTraces = false) {E text : String} {ik is ic mc ms : Nat} {w1 : va_W} (hts : ∀ w ∈ gWs, w.before args s = true) (hX : gX A s s.heap) (hown : s.vm.findClass RX6 = some m.cls) (hfit : Bundle.fit E = true)
    (hk : Cond.classLink RX6 ik E ∈ gWs) (hin : Cond.initialized E ∈ gWs) (hs9 : (is, text) ∈ gXS) (h1 : ∀ w ∈ (vx_atS RX6 ic E gSup).filter goodWord, w ∈ gWs) (h2 : ∀ w ∈ (vx_atS RX6 ic E gSup).filter (fun w => !goodWord w), w ∈ gXW) (h3 : ∀ w ∈ Cond.classLink RX6 ik E :: Cond.initialized E :: vx_atS RX6 ic E gSup, vx_ot w = true)
    (d0 : decode cc (pc) = .ok (.new ik, 3)) (d3 : decode cc (pc + 3) = .ok (.dup, 1)) (d4 : decode cc (pc + 4) = .ok (.ldc is, 2)) (d6 : decode cc (pc + 6) = .ok (.invokespecial ic, 3)) (d9 : decode cc (pc + 9) = .ok (.athrow, 1)) (hS : va_S A s.heap H locs) (hP : va_P D vwCl w1 H) (hD : va_D A w1) (hsize : ls.size = c.maxLocals) (hout : ∀ x ∈ c.exceptionTable.toList, False) (hlocks : meth.locks = false) (hR : 5 < R.frames ∧ (rest.map fun v => v.category).sum + 82 ≤ R.locals ∧ cells + 1 ≤ R.cells ∧ slots + 6 ≤ R.slots) (hc : cells + 1 ≤ mc) (hs : slots + 6 ≤ ms) :
    W p l e R s m args below meth c H locs cells slots (vx_MQ below gNo (gXC D A w1 E) args s mc ms A) (F0 m pc ls rest) := by
  obtain ⟨sa, hstr⟩ := hX.2.2.1 _ hs9
  refine vx_throwS (names := gSup) hx hb hl9 hown hfit (by decide +kernel) (hts _ hk) (hts _ hin) hstr (vx_hat (fun w hw => hts w (h1 w hw)) h2 (fun w hw => va_Nw.use (gXW_on w hw) (hX.1 w hw))) h3 hX.2.2.2.1 hX.2.2.2.2 hS hsize d0 d3 d4 d6 d9 (fun x hx => (hout x hx).elim) hR.1 hR.2.1 hR.2.2.1 hR.2.2.2 hlocks ?_ hS.2.2 hc hs
  intro t hW hz hk9
  have hlt : ∀ (k : Nat) (q : Nat × va_E), w1[k]? = some q → q.1 < H.size := fun k q hq => vx_lt hP hq
  refine ⟨(), trivial, ⟨rfl, fun k q hq => ?_, hD⟩, Nat.le_trans hS.1 hz, fun q hq hA => ?_⟩
  · have h9 := hP k q hq
    have e9 := hk9 q.1 (hlt k q hq)
    obtain ⟨q1, q2⟩ := q
    cases q2 with
    | inl a =>
      show t.heap[q1]? = _
      rw [e9]
      exact h9
    | inr o =>
      obtain ⟨r, hr1, hr2⟩ := h9
      exact ⟨r, hr1, by obtain ⟨cell, g1, g2⟩ := hr2; exact ⟨cell, by rw [e9]; exact g1, g2⟩⟩
  · rw [hk9 q (Nat.lt_of_lt_of_le hq hS.1)]
    exact hS.2.1 q hq hA
theorem g_xthrW (hx : p.tables.exec = Jvm.exec) (hb : c.code = cc) (hl9 : l.stackTraces = false) {E text : String} {ik is ic mc ms : Nat} {w1 : va_W} (hts : ∀ w ∈ gWs, w.before args s = true) (hX : gX A s s.heap) (hown : s.vm.findClass RX6 = some m.cls) (hfit : Bundle.fit E = true)
    (hk : Cond.classLink RX6 ik E ∈ gWs) (hin : Cond.initialized E ∈ gWs) (hs9 : (is, text) ∈ gXS) (h1 : ∀ w ∈ (vx_atS RX6 ic E gSup).filter goodWord, w ∈ gWs) (h2 : ∀ w ∈ (vx_atS RX6 ic E gSup).filter (fun w => !goodWord w), w ∈ gXW) (h3 : ∀ w ∈ Cond.classLink RX6 ik E :: Cond.initialized E :: vx_atS RX6 ic E gSup, vx_ot w = true)
    (d0 : decode cc (pc) = .ok (.new ik, 3)) (d3 : decode cc (pc + 3) = .ok (.dup, 1)) (d4 : decode cc (pc + 4) = .ok (.ldc_w is, 3)) (d6 : decode cc (pc + 7) = .ok (.invokespecial ic, 3)) (d9 : decode cc (pc + 10) = .ok (.athrow, 1)) (hS : va_S A s.heap H locs) (hP : va_P D vwCl w1 H) (hD : va_D A w1) (hsize : ls.size = c.maxLocals) (hout : ∀ x ∈ c.exceptionTable.toList, False) (hlocks : meth.locks = false) (hR : 5 < R.frames ∧ (rest.map fun v => v.category).sum + 82 ≤ R.locals ∧ cells + 1 ≤ R.cells ∧ slots + 6 ≤ R.slots) (hc : cells + 1 ≤ mc) (hs : slots + 6 ≤ ms) :
    W p l e R s m args below meth c H locs cells slots (vx_MQ below gNo (gXC D A w1 E) args s mc ms A) (F0 m pc ls rest) := by
  obtain ⟨sa, hstr⟩ := hX.2.2.1 _ hs9
  refine vx_throwSW (names := gSup) hx hb hl9 hown hfit (by decide +kernel) (hts _ hk) (hts _ hin) hstr (vx_hat (fun w hw => hts w (h1 w hw)) h2 (fun w hw => va_Nw.use (gXW_on w hw) (hX.1 w hw))) h3 hX.2.2.2.1 hX.2.2.2.2 hS hsize d0 d3 d4 d6 d9 (fun x hx => (hout x hx).elim) hR.1 hR.2.1 hR.2.2.1 hR.2.2.2 hlocks ?_ hS.2.2 hc hs
  intro t hW hz hk9
  have hlt : ∀ (k : Nat) (q : Nat × va_E), w1[k]? = some q → q.1 < H.size := fun k q hq => vx_lt hP hq
  refine ⟨(), trivial, ⟨rfl, fun k q hq => ?_, hD⟩, Nat.le_trans hS.1 hz, fun q hq hA => ?_⟩
  · have h9 := hP k q hq
    have e9 := hk9 q.1 (hlt k q hq)
    obtain ⟨q1, q2⟩ := q
    cases q2 with
    | inl a =>
      show t.heap[q1]? = _
      rw [e9]
      exact h9
    | inr o =>
      obtain ⟨r, hr1, hr2⟩ := h9
      exact ⟨r, hr1, by obtain ⟨cell, g1, g2⟩ := hr2; exact ⟨cell, by rw [e9]; exact g1, g2⟩⟩
  · rw [hk9 q (Nat.lt_of_lt_of_le hq hS.1)]
    exact hS.2.1 q hq hA
theorem g_xv {own C : String} {idx n nL nL0 b : Nat} {y : MethodName} {bytes : ByteArray} {ret : Option FieldType} {rm : Room} {E : String} {As st0 : List Value} {wc wr : va_W} {lv : List (Nat × Value)}
    (hL : gLV own idx C y bytes nL ret n) (hx : p.tables.exec = Jvm.exec) (hb : c.code = cc) (hml : c.maxLocals = nL0) (hts : ∀ w ∈ gWs, w.before args s = true) (hown : s.vm.findClass own = some m.cls) (hE : gE A s s.heap) (hX : gX A s s.heap) (hA : ∀ q, s.heap.size ≤ q → A q) (hK : va_K D vwCl (gT cI cZ) s) (hP : va_P D vwCl ws H) (hD : va_D A ws) (hS : va_S A s.heap H locs) (hl : lv_has ls nL0 lv)
    (hM : vx_Met l y (gW y bytes nL ret) rm (gPcX D cI cZ H.size wc (.ref b :: As)) gNo (gXC D (va_A wc H.size) wc E) 1 6 (va_A wc H.size)) {ci : Nat} {fs : List Value} {T : u_T} {N : Nat} (hci : vwCl[ci]? = some (C, T, N)) (hrv : wc[0]? = some (b, .inr (ci, fs)))
    (hdg : decode cc pc = .ok (.invokevirtual idx, 3)) (isC isR : List Nat) (hC : isC.map (fun i => ws[i]?) = wc.map some) (hR : isR.map (fun i => ws[i]?) = wr.map some) (hnC : va_nd isC = true) (hnR : va_nd isR = true) (hdis : ∀ i ∈ isR, i ∉ isC)
    (hst : st0 = As.reverse ++ .ref b :: rest) (hn : As.length = n) (hrm : rm.cells = 1 ∧ rm.slots = 6 ∧ rm.frames + 1 ≤ R.frames ∧ 8 + (nL + 11) + rm.locals ≤ R.locals ∧ cells + 1 ≤ R.cells ∧ slots + 6 ≤ R.slots) (hrest : (rest.map fun v => v.category).sum ≤ 8)
    (kx : ∀ (ce : Cell) (q9 : Addr) (H1 : Heap) (locs1 : List Loc), va_P D vwCl (wr ++ wc) H1 → va_D A (wr ++ wc) → va_S A s.heap H1 locs1 → H1[q9]? = some ce → ce.vm = .none → s.vm.findClass E = some ce.cls → vx_W p l e R s m args below meth c H1 locs1 (cells + 1) (slots + 6) Q (F0 m pc ls rest) q9) : W p l e R s m args below meth c H locs cells slots Q (F0 m pc ls st0) := by
  have hF := va_free (wc := wc) hD hS hA isC hC
  refine vx_callv (S := Unit) (SX := Unit) (px := fun _ => True) (BX := fun E9 _ t => E9 = E ∧ gB D (va_A wc H.size) wc t) (AX := va_A wc H.size) (post := fun _ => False) (B := fun _ _ => False) (A1 := va_A wc H.size) (a := (.ref b :: As : List Value).toArray) (vx_runV (As := As) (rest := rest) ⟨hx, hb, hml, hown, hts⟩ (Qc := va_Qv (S := Unit) (fun _ => False) (fun _ _ => False) (va_A wc H.size)) ?_ (cwV n (ws := gW y bytes nL ret) hts (gL_good hL.2.2.2.2.1 [.methodLink own idx y, .instanceMethod y, .selects C y y, .initialized C] (by intro w hw; simp only [List.mem_cons, List.not_mem_nil, or_false] at hw; rcases hw with rfl | rfl | rfl | rfl; exact hL.1; exact hL.2.1; exact hL.2.2.1; exact hL.2.2.2.1)) rfl hrm.1 hrm.2.1 hL.2.2.2.2.2 ⟨hrm.2.2.1, hrm.2.2.2.1⟩) ⟨gPcX.blind, va_recv hK (hP.sub isC (g_fm hC)) hci hrv, gPcX.at hK hP hD hS hA hE hX isC hnC hC (.ref b :: As)⟩ rfl hn hl.1 hst (lv_room hrest) hdg ⟨hrm.2.2.2.2.1, hrm.2.2.2.2.2⟩) hS (fun q _ h => hF q h) hF (fun q _ h => hF q h) (fun E9 ce q9 u t H1 locs1 ht hvm hw hB hz1 hk1 hS1 hce hcv hcl => ?_) (fun u t H1 locs1 ht hvm hw hB hz1 hk1 hS1 => hw.elim)
  · intro p e ha hc hk s m args below hf happ hpre htr
    obtain ⟨k, o, h1, h2, h3, hQ⟩ := hM p e ha hc hk s m args below hf happ hpre htr
    exact ⟨k, o, h1, h2, h3, hQ.elim (fun q => q.1.elim) Or.inr⟩
  · obtain ⟨rfl, hP1, hD1⟩ := hB
    rw [ht] at hP1
    obtain ⟨hP2, hD2⟩ := va_join (wr := wr) (w1 := wc) hP hD isC isR hC hR hnR hdis hk1 hF hP1 hD1
    exact kx ce q9 H1 locs1 hP2 hD2 hS1 hce hcv hcl
theorem g_xs {own : String} {idx n nL nL0 : Nat} {y : MethodName} {bytes : ByteArray} {ret : Option FieldType} {rm : Room} {E : String} {As st0 : List Value} {wc wr : va_W} {lv : List (Nat × Value)}
    (hL : gLS own idx y bytes nL ret n) (hx : p.tables.exec = Jvm.exec) (hb : c.code = cc) (hml : c.maxLocals = nL0) (hts : ∀ w ∈ gWs, w.before args s = true) (hown : s.vm.findClass own = some m.cls) (hE : gE A s s.heap) (hX : gX A s s.heap) (hA : ∀ q, s.heap.size ≤ q → A q) (hK : va_K D vwCl (gT cI cZ) s) (hP : va_P D vwCl ws H) (hD : va_D A ws) (hS : va_S A s.heap H locs) (hl : lv_has ls nL0 lv)
    (hM : vx_Met l y (gW y bytes nL ret) rm (gPcX D cI cZ H.size wc As) gNo (gXC D (va_A wc H.size) wc E) 1 6 (va_A wc H.size))
    (hdg : decode cc pc = .ok (.invokestatic idx, 3)) (isC isR : List Nat) (hC : isC.map (fun i => ws[i]?) = wc.map some) (hR : isR.map (fun i => ws[i]?) = wr.map some) (hnC : va_nd isC = true) (hnR : va_nd isR = true) (hdis : ∀ i ∈ isR, i ∉ isC)
    (hst : st0 = As.reverse ++ rest) (hn : As.length = n) (hrm : rm.cells = 1 ∧ rm.slots = 6 ∧ rm.frames + 1 ≤ R.frames ∧ 8 + (nL + 11) + rm.locals ≤ R.locals ∧ cells + 1 ≤ R.cells ∧ slots + 6 ≤ R.slots) (hrest : (rest.map fun v => v.category).sum ≤ 8)
    (kx : ∀ (ce : Cell) (q9 : Addr) (H1 : Heap) (locs1 : List Loc), va_P D vwCl (wr ++ wc) H1 → va_D A (wr ++ wc) → va_S A s.heap H1 locs1 → H1[q9]? = some ce → ce.vm = .none → s.vm.findClass E = some ce.cls → vx_W p l e R s m args below meth c H1 locs1 (cells + 1) (slots + 6) Q (F0 m pc ls rest) q9) : W p l e R s m args below meth c H locs cells slots Q (F0 m pc ls st0) := by
  have hF := va_free (wc := wc) hD hS hA isC hC
  refine vx_callv (S := Unit) (SX := Unit) (px := fun _ => True) (BX := fun E9 _ t => E9 = E ∧ gB D (va_A wc H.size) wc t) (AX := va_A wc H.size) (post := fun _ => False) (B := fun _ _ => False) (A1 := va_A wc H.size) (a := (As : List Value).toArray) (vx_runS (As := As) (rest := rest) ⟨hx, hb, hml, hown, hts⟩ (Qc := va_Qv (S := Unit) (fun _ => False) (fun _ _ => False) (va_A wc H.size)) ?_ (va_cwS n (ws := gW y bytes nL ret) hts (gL_good hL.2.2.2.1 [.methodLink own idx y, .static y, .initialized y.cls] (by intro w hw; simp only [List.mem_cons, List.not_mem_nil, or_false] at hw; rcases hw with rfl | rfl | rfl; exact hL.1; exact hL.2.1; exact hL.2.2.1)) rfl hrm.1 hrm.2.1 hL.2.2.2.2 ⟨hrm.2.2.1, hrm.2.2.2.1⟩) ⟨gPcX.blind, gPcX.at hK hP hD hS hA hE hX isC hnC hC As⟩ rfl hn hl.1 hst (lv_room hrest) hdg ⟨hrm.2.2.2.2.1, hrm.2.2.2.2.2⟩) hS (fun q _ h => hF q h) hF (fun q _ h => hF q h) (fun E9 ce q9 u t H1 locs1 ht hvm hw hB hz1 hk1 hS1 hce hcv hcl => ?_) (fun u t H1 locs1 ht hvm hw hB hz1 hk1 hS1 => hw.elim)
  · intro p e ha hc hk s m args below hf happ hpre htr
    obtain ⟨k, o, h1, h2, h3, hQ⟩ := hM p e ha hc hk s m args below hf happ hpre htr
    exact ⟨k, o, h1, h2, h3, hQ.elim (fun q => q.1.elim) Or.inr⟩
  · obtain ⟨rfl, hP1, hD1⟩ := hB
    rw [ht] at hP1
    obtain ⟨hP2, hD2⟩ := va_join (wr := wr) (w1 := wc) hP hD isC isR hC hR hnR hdis hk1 hF hP1 hD1
    exact kx ce q9 H1 locs1 hP2 hD2 hS1 hce hcv hcl
end GX
