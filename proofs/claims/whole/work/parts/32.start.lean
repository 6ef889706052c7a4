theorem cb_long : componentBytes .long ≤ 8 := by decide
section GNJ
variable {p : Program} {l : Launch} {e : Env} {R : Room} {s : State} {m : MethodId} {args : Array Value} {below : List Frame} {meth : Method} {c : Code} {H : Heap} {locs : List Loc} {cells slots : Nat} {Q : State → Prop}
variable {cc : ByteArray} {pc : Nat} {ls : Array Slot} {rest : List Value} {D : va_G} {cI cZ : ClassId} {A : Nat → Prop} {ws : va_W} {H0 : Heap} {tys : List (ClassId × FieldType)}
variable {cJ : ClassId}
theorem g_newJ (hx : p.tables.exec = Jvm.exec) (hb : c.code = cc) (hts : ∀ w ∈ gWs, w.before args s = true) (hJ : va_K D vwCl [(cJ, .long)] s) (hP : va_P D vwCl ws H) (hD : va_D A ws) (hS : va_S A H0 H locs) (hA : ∀ q, H0.size ≤ q → A q) (hc : cells + 1 ≤ R.cells) (hs : slots + 1 ≤ R.slots) (hdg : decode cc pc = .ok (.newarray .long, 2))
    (kk : ∀ (q : Nat) (H1 : Heap), va_P D vwCl (ws ++ [(q, .inl (cJ, 1, .inr (.inl (fun _ => 0))))]) H1 → va_D A (ws ++ [(q, .inl (cJ, 1, .inr (.inl (fun _ => 0))))]) → va_S A H0 H1 locs → W p l e R s m args below meth c H1 locs (cells + 1) (slots + 1) Q (F0 m (pc + 2) ls (.ref q :: rest))) : W p l e R s m args below meth c H locs cells slots Q (F0 m pc ls (.int (nI 1) :: rest)) := by
  refine va_newa (atype := .long) (ty := .long) (a0 := (1, .inr (.inl (fun _ => 0)))) hx hb (hts _ (gm5 42 rfl rfl)) rfl hJ hP hD hS hA (fun _ => rfl) (nI_pos (by omega)) (nI_clamp (by omega)) (Nat.le_trans (Nat.mul_le_mul (Nat.le_refl 1) cb_long) (by decide)) hc hs hdg (fun q cA H1 hK1 hP1 hD1 hS1 => ?_)
  have e1 := (hK1.2 1 (cA, .long) rfl).2
  have e2 := (hK1.2 0 (cJ, .long) rfl).2
  have e : cA = cJ := Option.some.inj ((show s.vm.findClass _ = some cA from e1).symm.trans e2)
  subst e
  exact kk q H1 hP1 hD1 hS1
end GNJ
theorem arr_known {args : Array Value} {s : State} {ty : FieldType} (h : (Cond.arrayClass ty).before args s = true) : ∃ cA : ClassId, ArrOfT s cA ty ∧ s.vm.findClass ("[" ++ ty.toString) = some cA := by
  obtain ⟨cA, kA, comp, h1, h2, h3⟩ := Cond.arrayClass_spec h
  exact ⟨cA, fun n z => ⟨fun k h => (by cases h), kA, h2, comp, h3⟩, h1⟩
set_option maxHeartbeats 8000000 in
set_option maxRecDepth 100000 in
theorem law_start {pg : Program} {ev : Env} {s : State} {mi : MethodId} {below : List Frame} {meth : Method} {co : Code} (l : Launch) (D : va_G) (cI cZ cJ : ClassId) (A : Nat → Prop) (Q : State → Prop) (b L : Nat) (xs : Nat → Int32) (hc : LCx pg l s mi co D cI cZ cJ A b L xs)
    (hend : ∀ (H : Heap) (locs : List Loc) (ls : Array Slot) (cells slots : Nat), va_S A s.heap H locs → cells ≤ 601024 → slots ≤ 7293034 → W pg l ev room_1 s mi #[Value.ref b] below meth co H locs cells slots Q (F0 mi 1545 ls [.int (nI 1)]))
    (hS : va_S A s.heap s.heap []) (ls : Array Slot) (hl : lv_has ls 9 [(0, .ref b)]) (hP : va_P D vwCl [] s.heap) (hD : va_D A []) : W pg l ev room_1 s mi #[Value.ref b] below meth co s.heap [] 0 0 Q (F0 mi 0 ls []) := by
  have hc9 := hc
  obtain ⟨hl9, hx, hb, hml, hts, hown, hE, hX, hA, hK, hJ, hscr, hbl, hbA, hL⟩ := hc9
  refine va_new (pc := 0) (ci := 6) (fs := [.null, .null, .null]) (C := RX6) (T := TX6) (N := 3) hx hb hts ginX6 tyX6 tyX6_ok hown (hts _ (gm1 19 rfl rfl)) (hts _ (gm1 20 rfl rfl)) (hts _ (gm1 1 rfl rfl)) hK hP hD hS hA rfl (fun j hj => by rcases (show j = 0 ∨ j = 1 ∨ j = 2 by omega) with rfl | rfl | rfl <;> rfl) (Nat.le_of_ble_eq_true rfl) (Nat.le_of_ble_eq_true rfl) dL_law_0 (fun q0 H hP hD hS => ?_)
  have hP : va_P D vwCl [(q0, .inr (6, [.null, .null, .null]))] H := hP
  have hD : va_D A [(q0, .inr (6, [.null, .null, .null]))] := hD
  refine lv_dup (pc := 3) hx hb dL_law_3 rfl ?_
  refine g_cv (pc := 4) (ret := none) (mc := 36) (ms := 1200) (As := []) (rest := [.ref q0]) (wc := [(q0, .inr (6, [.null, .null, .null]))]) (wr := []) lk_L_77 hx hb hml hts hown hE hA hK hP hD hS hl (c_X6_init l D cI cZ _ q0) dL_law_4 [0] [] rfl rfl (by decide) (by decide) (by decide) rfl rfl ⟨rfl, rfl, Nat.le_of_ble_eq_true rfl, Nat.le_of_ble_eq_true rfl, (show ((0 + 1) + 36 : Nat) ≤ 601024 by omega), (show ((0 + 3) + 1200 : Nat) ≤ 7293034 by omega)⟩ (Nat.le_of_ble_eq_true rfl) (fun u H locs hw hP hD hS => ?_)
  obtain ⟨aN0_4, aN1_4, aN2_4, aN3_4, aC_4, aS0_4, aS1_4, aS2_4, aS3_4, aS4_4, aS5_4, aP0_4, aP1_4, aT0_4, aT1_4, aT2_4, aT3_4, aG0_4, aG1_4, aG2_4, aCx_4, aS0x_4, aS1x_4, aS2x_4, aS3x_4, aS4x_4, aS5x_4, aP0x_4, aP1x_4, aT0x_4, aT1x_4, aT2x_4, aT3x_4, aG0x_4, aG1x_4, aG2x_4, tp2_4, tp3_4⟩ := u
  have hP : va_P D vwCl [(q0, .inr (6, [.ref aN0_4, .ref aC_4, .ref aCx_4])), (aN0_4, .inr (1, [.ref aN1_4, .ref aN2_4, .ref aN3_4])), (aN1_4, .inl (cI, 7, .inl (aI z0))), (aN2_4, .inl (cI, 7, .inl (aI z0))), (aN3_4, .inl (cI, 7, .inl (aI z0))), (aC_4, .inr (0, [.ref aS0_4, .ref aP0_4, .ref aT0_4, .ref aG0_4, .int (nI 0)])), (aS0_4, .inr (3, [.ref aS1_4, .ref aS2_4, .ref aS3_4, .ref aS4_4, .ref aS5_4])), (aS1_4, .inl (cI, 100, .inl (aI h00))), (aS2_4, .inl (cI, 100, .inl (aI f00))), (aS3_4, .inl (cZ, 100, .inl (aB zF))), (aS4_4, .inl (cI, 100, .inl (aI tp2_4))), (aS5_4, .inl (cI, 100, .inl (aI z0))), (aP0_4, .inr (2, [.ref aP1_4, .int (nI 0), .int (nI 0)])), (aP1_4, .inl (cI, 16, .inl (aI z0))), (aT0_4, .inr (5, [.ref aT1_4, .ref aT2_4, .ref aT3_4, .int (nI 0), .int (nI 0), .int (nI 0)])), (aT1_4, .inl (cI, 8, .inl (aI z0))), (aT2_4, .inl (cI, 8, .inl (aI z0))), (aT3_4, .inl (cI, 8, .inl (aI z0))), (aG0_4, .inr (4, [.int (nI 0), .int (nI 0), .int (nI 0), .ref aG1_4, .ref aG2_4])), (aG1_4, .inl (cI, 8, .inl (aI z0))), (aG2_4, .inl (cI, 16, .inl (aI z0))), (aCx_4, .inr (0, [.ref aS0x_4, .ref aP0x_4, .ref aT0x_4, .ref aG0x_4, .int (nI 0)])), (aS0x_4, .inr (3, [.ref aS1x_4, .ref aS2x_4, .ref aS3x_4, .ref aS4x_4, .ref aS5x_4])), (aS1x_4, .inl (cI, 100, .inl (aI h00))), (aS2x_4, .inl (cI, 100, .inl (aI f00))), (aS3x_4, .inl (cZ, 100, .inl (aB zF))), (aS4x_4, .inl (cI, 100, .inl (aI tp3_4))), (aS5x_4, .inl (cI, 100, .inl (aI z0))), (aP0x_4, .inr (2, [.ref aP1x_4, .int (nI 0), .int (nI 0)])), (aP1x_4, .inl (cI, 16, .inl (aI z0))), (aT0x_4, .inr (5, [.ref aT1x_4, .ref aT2x_4, .ref aT3x_4, .int (nI 0), .int (nI 0), .int (nI 0)])), (aT1x_4, .inl (cI, 8, .inl (aI z0))), (aT2x_4, .inl (cI, 8, .inl (aI z0))), (aT3x_4, .inl (cI, 8, .inl (aI z0))), (aG0x_4, .inr (4, [.int (nI 0), .int (nI 0), .int (nI 0), .ref aG1x_4, .ref aG2x_4])), (aG1x_4, .inl (cI, 8, .inl (aI z0))), (aG2x_4, .inl (cI, 16, .inl (aI z0)))] H := hP
  have hD : va_D A [(q0, .inr (6, [.ref aN0_4, .ref aC_4, .ref aCx_4])), (aN0_4, .inr (1, [.ref aN1_4, .ref aN2_4, .ref aN3_4])), (aN1_4, .inl (cI, 7, .inl (aI z0))), (aN2_4, .inl (cI, 7, .inl (aI z0))), (aN3_4, .inl (cI, 7, .inl (aI z0))), (aC_4, .inr (0, [.ref aS0_4, .ref aP0_4, .ref aT0_4, .ref aG0_4, .int (nI 0)])), (aS0_4, .inr (3, [.ref aS1_4, .ref aS2_4, .ref aS3_4, .ref aS4_4, .ref aS5_4])), (aS1_4, .inl (cI, 100, .inl (aI h00))), (aS2_4, .inl (cI, 100, .inl (aI f00))), (aS3_4, .inl (cZ, 100, .inl (aB zF))), (aS4_4, .inl (cI, 100, .inl (aI tp2_4))), (aS5_4, .inl (cI, 100, .inl (aI z0))), (aP0_4, .inr (2, [.ref aP1_4, .int (nI 0), .int (nI 0)])), (aP1_4, .inl (cI, 16, .inl (aI z0))), (aT0_4, .inr (5, [.ref aT1_4, .ref aT2_4, .ref aT3_4, .int (nI 0), .int (nI 0), .int (nI 0)])), (aT1_4, .inl (cI, 8, .inl (aI z0))), (aT2_4, .inl (cI, 8, .inl (aI z0))), (aT3_4, .inl (cI, 8, .inl (aI z0))), (aG0_4, .inr (4, [.int (nI 0), .int (nI 0), .int (nI 0), .ref aG1_4, .ref aG2_4])), (aG1_4, .inl (cI, 8, .inl (aI z0))), (aG2_4, .inl (cI, 16, .inl (aI z0))), (aCx_4, .inr (0, [.ref aS0x_4, .ref aP0x_4, .ref aT0x_4, .ref aG0x_4, .int (nI 0)])), (aS0x_4, .inr (3, [.ref aS1x_4, .ref aS2x_4, .ref aS3x_4, .ref aS4x_4, .ref aS5x_4])), (aS1x_4, .inl (cI, 100, .inl (aI h00))), (aS2x_4, .inl (cI, 100, .inl (aI f00))), (aS3x_4, .inl (cZ, 100, .inl (aB zF))), (aS4x_4, .inl (cI, 100, .inl (aI tp3_4))), (aS5x_4, .inl (cI, 100, .inl (aI z0))), (aP0x_4, .inr (2, [.ref aP1x_4, .int (nI 0), .int (nI 0)])), (aP1x_4, .inl (cI, 16, .inl (aI z0))), (aT0x_4, .inr (5, [.ref aT1x_4, .ref aT2x_4, .ref aT3x_4, .int (nI 0), .int (nI 0), .int (nI 0)])), (aT1x_4, .inl (cI, 8, .inl (aI z0))), (aT2x_4, .inl (cI, 8, .inl (aI z0))), (aT3x_4, .inl (cI, 8, .inl (aI z0))), (aG0x_4, .inr (4, [.int (nI 0), .int (nI 0), .int (nI 0), .ref aG1x_4, .ref aG2x_4])), (aG1x_4, .inl (cI, 8, .inl (aI z0))), (aG2x_4, .inl (cI, 16, .inl (aI z0)))] := hD
  have hw : (ordOK h00 tp2_4) := hw
  have hord_4 := hw
  refine lv_astore_n (pc := 7) (lv' := [(1, .ref q0), (0, .ref b)]) hx hb dL_law_7 rfl hl (by decide) rfl (fun ls hl => ?_)
  refine va_new (pc := 8) (ci := 8) (fs := [.int (nI 0), .null, .null, .null, .int (nI 0), .null, .int (nI 0), .null, .null, .null, .null, .null]) (C := RX8) (T := TX8) (N := 12) hx hb hts ginX8 tyX8 tyX8_ok hown (hts _ (gm3 216 rfl rfl)) (hts _ (gm3 217 rfl rfl)) (hts _ (gm1 8 rfl rfl)) hK hP hD hS hA rfl (fun j hj => by rcases (show j = 0 ∨ j = 1 ∨ j = 2 ∨ j = 3 ∨ j = 4 ∨ j = 5 ∨ j = 6 ∨ j = 7 ∨ j = 8 ∨ j = 9 ∨ j = 10 ∨ j = 11 by omega) with rfl | rfl | rfl | rfl | rfl | rfl | rfl | rfl | rfl | rfl | rfl | rfl <;> rfl) (Nat.le_of_ble_eq_true rfl) (Nat.le_of_ble_eq_true rfl) dL_law_8 (fun q8 H hP hD hS => ?_)
  have hP : va_P D vwCl [(q0, .inr (6, [.ref aN0_4, .ref aC_4, .ref aCx_4])), (aN0_4, .inr (1, [.ref aN1_4, .ref aN2_4, .ref aN3_4])), (aN1_4, .inl (cI, 7, .inl (aI z0))), (aN2_4, .inl (cI, 7, .inl (aI z0))), (aN3_4, .inl (cI, 7, .inl (aI z0))), (aC_4, .inr (0, [.ref aS0_4, .ref aP0_4, .ref aT0_4, .ref aG0_4, .int (nI 0)])), (aS0_4, .inr (3, [.ref aS1_4, .ref aS2_4, .ref aS3_4, .ref aS4_4, .ref aS5_4])), (aS1_4, .inl (cI, 100, .inl (aI h00))), (aS2_4, .inl (cI, 100, .inl (aI f00))), (aS3_4, .inl (cZ, 100, .inl (aB zF))), (aS4_4, .inl (cI, 100, .inl (aI tp2_4))), (aS5_4, .inl (cI, 100, .inl (aI z0))), (aP0_4, .inr (2, [.ref aP1_4, .int (nI 0), .int (nI 0)])), (aP1_4, .inl (cI, 16, .inl (aI z0))), (aT0_4, .inr (5, [.ref aT1_4, .ref aT2_4, .ref aT3_4, .int (nI 0), .int (nI 0), .int (nI 0)])), (aT1_4, .inl (cI, 8, .inl (aI z0))), (aT2_4, .inl (cI, 8, .inl (aI z0))), (aT3_4, .inl (cI, 8, .inl (aI z0))), (aG0_4, .inr (4, [.int (nI 0), .int (nI 0), .int (nI 0), .ref aG1_4, .ref aG2_4])), (aG1_4, .inl (cI, 8, .inl (aI z0))), (aG2_4, .inl (cI, 16, .inl (aI z0))), (aCx_4, .inr (0, [.ref aS0x_4, .ref aP0x_4, .ref aT0x_4, .ref aG0x_4, .int (nI 0)])), (aS0x_4, .inr (3, [.ref aS1x_4, .ref aS2x_4, .ref aS3x_4, .ref aS4x_4, .ref aS5x_4])), (aS1x_4, .inl (cI, 100, .inl (aI h00))), (aS2x_4, .inl (cI, 100, .inl (aI f00))), (aS3x_4, .inl (cZ, 100, .inl (aB zF))), (aS4x_4, .inl (cI, 100, .inl (aI tp3_4))), (aS5x_4, .inl (cI, 100, .inl (aI z0))), (aP0x_4, .inr (2, [.ref aP1x_4, .int (nI 0), .int (nI 0)])), (aP1x_4, .inl (cI, 16, .inl (aI z0))), (aT0x_4, .inr (5, [.ref aT1x_4, .ref aT2x_4, .ref aT3x_4, .int (nI 0), .int (nI 0), .int (nI 0)])), (aT1x_4, .inl (cI, 8, .inl (aI z0))), (aT2x_4, .inl (cI, 8, .inl (aI z0))), (aT3x_4, .inl (cI, 8, .inl (aI z0))), (aG0x_4, .inr (4, [.int (nI 0), .int (nI 0), .int (nI 0), .ref aG1x_4, .ref aG2x_4])), (aG1x_4, .inl (cI, 8, .inl (aI z0))), (aG2x_4, .inl (cI, 16, .inl (aI z0))), (q8, .inr (8, [.int (nI 0), .null, .null, .null, .int (nI 0), .null, .int (nI 0), .null, .null, .null, .null, .null]))] H := hP
  have hD : va_D A [(q0, .inr (6, [.ref aN0_4, .ref aC_4, .ref aCx_4])), (aN0_4, .inr (1, [.ref aN1_4, .ref aN2_4, .ref aN3_4])), (aN1_4, .inl (cI, 7, .inl (aI z0))), (aN2_4, .inl (cI, 7, .inl (aI z0))), (aN3_4, .inl (cI, 7, .inl (aI z0))), (aC_4, .inr (0, [.ref aS0_4, .ref aP0_4, .ref aT0_4, .ref aG0_4, .int (nI 0)])), (aS0_4, .inr (3, [.ref aS1_4, .ref aS2_4, .ref aS3_4, .ref aS4_4, .ref aS5_4])), (aS1_4, .inl (cI, 100, .inl (aI h00))), (aS2_4, .inl (cI, 100, .inl (aI f00))), (aS3_4, .inl (cZ, 100, .inl (aB zF))), (aS4_4, .inl (cI, 100, .inl (aI tp2_4))), (aS5_4, .inl (cI, 100, .inl (aI z0))), (aP0_4, .inr (2, [.ref aP1_4, .int (nI 0), .int (nI 0)])), (aP1_4, .inl (cI, 16, .inl (aI z0))), (aT0_4, .inr (5, [.ref aT1_4, .ref aT2_4, .ref aT3_4, .int (nI 0), .int (nI 0), .int (nI 0)])), (aT1_4, .inl (cI, 8, .inl (aI z0))), (aT2_4, .inl (cI, 8, .inl (aI z0))), (aT3_4, .inl (cI, 8, .inl (aI z0))), (aG0_4, .inr (4, [.int (nI 0), .int (nI 0), .int (nI 0), .ref aG1_4, .ref aG2_4])), (aG1_4, .inl (cI, 8, .inl (aI z0))), (aG2_4, .inl (cI, 16, .inl (aI z0))), (aCx_4, .inr (0, [.ref aS0x_4, .ref aP0x_4, .ref aT0x_4, .ref aG0x_4, .int (nI 0)])), (aS0x_4, .inr (3, [.ref aS1x_4, .ref aS2x_4, .ref aS3x_4, .ref aS4x_4, .ref aS5x_4])), (aS1x_4, .inl (cI, 100, .inl (aI h00))), (aS2x_4, .inl (cI, 100, .inl (aI f00))), (aS3x_4, .inl (cZ, 100, .inl (aB zF))), (aS4x_4, .inl (cI, 100, .inl (aI tp3_4))), (aS5x_4, .inl (cI, 100, .inl (aI z0))), (aP0x_4, .inr (2, [.ref aP1x_4, .int (nI 0), .int (nI 0)])), (aP1x_4, .inl (cI, 16, .inl (aI z0))), (aT0x_4, .inr (5, [.ref aT1x_4, .ref aT2x_4, .ref aT3x_4, .int (nI 0), .int (nI 0), .int (nI 0)])), (aT1x_4, .inl (cI, 8, .inl (aI z0))), (aT2x_4, .inl (cI, 8, .inl (aI z0))), (aT3x_4, .inl (cI, 8, .inl (aI z0))), (aG0x_4, .inr (4, [.int (nI 0), .int (nI 0), .int (nI 0), .ref aG1x_4, .ref aG2x_4])), (aG1x_4, .inl (cI, 8, .inl (aI z0))), (aG2x_4, .inl (cI, 16, .inl (aI z0))), (q8, .inr (8, [.int (nI 0), .null, .null, .null, .int (nI 0), .null, .int (nI 0), .null, .null, .null, .null, .null]))] := hD
  refine lv_dup (pc := 11) hx hb dL_law_11 rfl ?_
  refine g_cv (pc := 12) (ret := none) (mc := 19) (ms := 633) (As := []) (rest := [.ref q8]) (wc := [(q8, .inr (8, [.int (nI 0), .null, .null, .null, .int (nI 0), .null, .int (nI 0), .null, .null, .null, .null, .null]))]) (wr := [(q0, .inr (6, [.ref aN0_4, .ref aC_4, .ref aCx_4])), (aN0_4, .inr (1, [.ref aN1_4, .ref aN2_4, .ref aN3_4])), (aN1_4, .inl (cI, 7, .inl (aI z0))), (aN2_4, .inl (cI, 7, .inl (aI z0))), (aN3_4, .inl (cI, 7, .inl (aI z0))), (aC_4, .inr (0, [.ref aS0_4, .ref aP0_4, .ref aT0_4, .ref aG0_4, .int (nI 0)])), (aS0_4, .inr (3, [.ref aS1_4, .ref aS2_4, .ref aS3_4, .ref aS4_4, .ref aS5_4])), (aS1_4, .inl (cI, 100, .inl (aI h00))), (aS2_4, .inl (cI, 100, .inl (aI f00))), (aS3_4, .inl (cZ, 100, .inl (aB zF))), (aS4_4, .inl (cI, 100, .inl (aI tp2_4))), (aS5_4, .inl (cI, 100, .inl (aI z0))), (aP0_4, .inr (2, [.ref aP1_4, .int (nI 0), .int (nI 0)])), (aP1_4, .inl (cI, 16, .inl (aI z0))), (aT0_4, .inr (5, [.ref aT1_4, .ref aT2_4, .ref aT3_4, .int (nI 0), .int (nI 0), .int (nI 0)])), (aT1_4, .inl (cI, 8, .inl (aI z0))), (aT2_4, .inl (cI, 8, .inl (aI z0))), (aT3_4, .inl (cI, 8, .inl (aI z0))), (aG0_4, .inr (4, [.int (nI 0), .int (nI 0), .int (nI 0), .ref aG1_4, .ref aG2_4])), (aG1_4, .inl (cI, 8, .inl (aI z0))), (aG2_4, .inl (cI, 16, .inl (aI z0))), (aCx_4, .inr (0, [.ref aS0x_4, .ref aP0x_4, .ref aT0x_4, .ref aG0x_4, .int (nI 0)])), (aS0x_4, .inr (3, [.ref aS1x_4, .ref aS2x_4, .ref aS3x_4, .ref aS4x_4, .ref aS5x_4])), (aS1x_4, .inl (cI, 100, .inl (aI h00))), (aS2x_4, .inl (cI, 100, .inl (aI f00))), (aS3x_4, .inl (cZ, 100, .inl (aB zF))), (aS4x_4, .inl (cI, 100, .inl (aI tp3_4))), (aS5x_4, .inl (cI, 100, .inl (aI z0))), (aP0x_4, .inr (2, [.ref aP1x_4, .int (nI 0), .int (nI 0)])), (aP1x_4, .inl (cI, 16, .inl (aI z0))), (aT0x_4, .inr (5, [.ref aT1x_4, .ref aT2x_4, .ref aT3x_4, .int (nI 0), .int (nI 0), .int (nI 0)])), (aT1x_4, .inl (cI, 8, .inl (aI z0))), (aT2x_4, .inl (cI, 8, .inl (aI z0))), (aT3x_4, .inl (cI, 8, .inl (aI z0))), (aG0x_4, .inr (4, [.int (nI 0), .int (nI 0), .int (nI 0), .ref aG1x_4, .ref aG2x_4])), (aG1x_4, .inl (cI, 8, .inl (aI z0))), (aG2x_4, .inl (cI, 16, .inl (aI z0)))]) lk_L_80 hx hb hml hts hown hE hA hK hP hD hS hl (c_X8_init l D cI cZ _ q8) dL_law_12 [37] [0, 1, 2, 3, 4, 5, 6, 7, 8, 9, 10, 11, 12, 13, 14, 15, 16, 17, 18, 19, 20, 21, 22, 23, 24, 25, 26, 27, 28, 29, 30, 31, 32, 33, 34, 35, 36] rfl rfl (by decide) (by decide) (by decide) rfl rfl ⟨rfl, rfl, Nat.le_of_ble_eq_true rfl, Nat.le_of_ble_eq_true rfl, (show ((((0 + 1) + 36) + 1) + 19 : Nat) ≤ 601024 by omega), (show ((((0 + 3) + 1200) + 12) + 633 : Nat) ≤ 7293034 by omega)⟩ (Nat.le_of_ble_eq_true rfl) (fun u H locs hw hP hD hS => ?_)
  obtain ⟨mH_12, mD_12, mT_12, mP_12, mA_12, mZ_12, mW_12, mS0_12, mS1_12, mS2_12, mS3_12, mS4_12, mS5_12, mS0x_12, mS1x_12, mS2x_12, mS3x_12, mS4x_12, mS5x_12⟩ := u
  have hP : va_P D vwCl [(q0, .inr (6, [.ref aN0_4, .ref aC_4, .ref aCx_4])), (aN0_4, .inr (1, [.ref aN1_4, .ref aN2_4, .ref aN3_4])), (aN1_4, .inl (cI, 7, .inl (aI z0))), (aN2_4, .inl (cI, 7, .inl (aI z0))), (aN3_4, .inl (cI, 7, .inl (aI z0))), (aC_4, .inr (0, [.ref aS0_4, .ref aP0_4, .ref aT0_4, .ref aG0_4, .int (nI 0)])), (aS0_4, .inr (3, [.ref aS1_4, .ref aS2_4, .ref aS3_4, .ref aS4_4, .ref aS5_4])), (aS1_4, .inl (cI, 100, .inl (aI h00))), (aS2_4, .inl (cI, 100, .inl (aI f00))), (aS3_4, .inl (cZ, 100, .inl (aB zF))), (aS4_4, .inl (cI, 100, .inl (aI tp2_4))), (aS5_4, .inl (cI, 100, .inl (aI z0))), (aP0_4, .inr (2, [.ref aP1_4, .int (nI 0), .int (nI 0)])), (aP1_4, .inl (cI, 16, .inl (aI z0))), (aT0_4, .inr (5, [.ref aT1_4, .ref aT2_4, .ref aT3_4, .int (nI 0), .int (nI 0), .int (nI 0)])), (aT1_4, .inl (cI, 8, .inl (aI z0))), (aT2_4, .inl (cI, 8, .inl (aI z0))), (aT3_4, .inl (cI, 8, .inl (aI z0))), (aG0_4, .inr (4, [.int (nI 0), .int (nI 0), .int (nI 0), .ref aG1_4, .ref aG2_4])), (aG1_4, .inl (cI, 8, .inl (aI z0))), (aG2_4, .inl (cI, 16, .inl (aI z0))), (aCx_4, .inr (0, [.ref aS0x_4, .ref aP0x_4, .ref aT0x_4, .ref aG0x_4, .int (nI 0)])), (aS0x_4, .inr (3, [.ref aS1x_4, .ref aS2x_4, .ref aS3x_4, .ref aS4x_4, .ref aS5x_4])), (aS1x_4, .inl (cI, 100, .inl (aI h00))), (aS2x_4, .inl (cI, 100, .inl (aI f00))), (aS3x_4, .inl (cZ, 100, .inl (aB zF))), (aS4x_4, .inl (cI, 100, .inl (aI tp3_4))), (aS5x_4, .inl (cI, 100, .inl (aI z0))), (aP0x_4, .inr (2, [.ref aP1x_4, .int (nI 0), .int (nI 0)])), (aP1x_4, .inl (cI, 16, .inl (aI z0))), (aT0x_4, .inr (5, [.ref aT1x_4, .ref aT2x_4, .ref aT3x_4, .int (nI 0), .int (nI 0), .int (nI 0)])), (aT1x_4, .inl (cI, 8, .inl (aI z0))), (aT2x_4, .inl (cI, 8, .inl (aI z0))), (aT3x_4, .inl (cI, 8, .inl (aI z0))), (aG0x_4, .inr (4, [.int (nI 0), .int (nI 0), .int (nI 0), .ref aG1x_4, .ref aG2x_4])), (aG1x_4, .inl (cI, 8, .inl (aI z0))), (aG2x_4, .inl (cI, 16, .inl (aI z0))), (q8, .inr (8, [.int (nI 0), .ref mH_12, .ref mD_12, .ref mT_12, .int (nI 0), .ref mP_12, .int (nI 0), .ref mA_12, .ref mZ_12, .ref mW_12, .ref mS0_12, .ref mS0x_12])), (mH_12, .inl (cI, 100, .inl (aI h00))), (mD_12, .inl (cI, 100, .inl (aB zF))), (mT_12, .inl (cI, 7, .inl (aI (tabF z0 z0 z0)))), (mP_12, .inl (cI, 16, .inl (aI z0))), (mA_12, .inl (cI, 8, .inl (aI z0))), (mZ_12, .inl (cI, 8, .inl (aI z0))), (mW_12, .inl (cI, 100, .inl (aI z0))), (mS0_12, .inr (7, [.int (nI 0), .ref mS1_12, .ref mS2_12, .ref mS3_12, .ref mS4_12, .ref mS5_12, .ref q8])), (mS1_12, .inl (cI, 100, .inl (aI f00))), (mS2_12, .inl (cI, 16, .inl (aB (bt (nI 0))))), (mS3_12, .inl (cI, 8, .inl (aB (bt (nI 0))))), (mS4_12, .inl (cI, 8, .inl (aB (bt (nI 0))))), (mS5_12, .inl (cI, 8, .inl (aI z0))), (mS0x_12, .inr (7, [.int (nI 0), .ref mS1x_12, .ref mS2x_12, .ref mS3x_12, .ref mS4x_12, .ref mS5x_12, .ref q8])), (mS1x_12, .inl (cI, 100, .inl (aI z0))), (mS2x_12, .inl (cI, 16, .inl (aB (bt (nI 0))))), (mS3x_12, .inl (cI, 8, .inl (aB (bt (nI 0))))), (mS4x_12, .inl (cI, 8, .inl (aB (bt (nI 0))))), (mS5x_12, .inl (cI, 8, .inl (aI z0)))] H := hP
  have hD : va_D A [(q0, .inr (6, [.ref aN0_4, .ref aC_4, .ref aCx_4])), (aN0_4, .inr (1, [.ref aN1_4, .ref aN2_4, .ref aN3_4])), (aN1_4, .inl (cI, 7, .inl (aI z0))), (aN2_4, .inl (cI, 7, .inl (aI z0))), (aN3_4, .inl (cI, 7, .inl (aI z0))), (aC_4, .inr (0, [.ref aS0_4, .ref aP0_4, .ref aT0_4, .ref aG0_4, .int (nI 0)])), (aS0_4, .inr (3, [.ref aS1_4, .ref aS2_4, .ref aS3_4, .ref aS4_4, .ref aS5_4])), (aS1_4, .inl (cI, 100, .inl (aI h00))), (aS2_4, .inl (cI, 100, .inl (aI f00))), (aS3_4, .inl (cZ, 100, .inl (aB zF))), (aS4_4, .inl (cI, 100, .inl (aI tp2_4))), (aS5_4, .inl (cI, 100, .inl (aI z0))), (aP0_4, .inr (2, [.ref aP1_4, .int (nI 0), .int (nI 0)])), (aP1_4, .inl (cI, 16, .inl (aI z0))), (aT0_4, .inr (5, [.ref aT1_4, .ref aT2_4, .ref aT3_4, .int (nI 0), .int (nI 0), .int (nI 0)])), (aT1_4, .inl (cI, 8, .inl (aI z0))), (aT2_4, .inl (cI, 8, .inl (aI z0))), (aT3_4, .inl (cI, 8, .inl (aI z0))), (aG0_4, .inr (4, [.int (nI 0), .int (nI 0), .int (nI 0), .ref aG1_4, .ref aG2_4])), (aG1_4, .inl (cI, 8, .inl (aI z0))), (aG2_4, .inl (cI, 16, .inl (aI z0))), (aCx_4, .inr (0, [.ref aS0x_4, .ref aP0x_4, .ref aT0x_4, .ref aG0x_4, .int (nI 0)])), (aS0x_4, .inr (3, [.ref aS1x_4, .ref aS2x_4, .ref aS3x_4, .ref aS4x_4, .ref aS5x_4])), (aS1x_4, .inl (cI, 100, .inl (aI h00))), (aS2x_4, .inl (cI, 100, .inl (aI f00))), (aS3x_4, .inl (cZ, 100, .inl (aB zF))), (aS4x_4, .inl (cI, 100, .inl (aI tp3_4))), (aS5x_4, .inl (cI, 100, .inl (aI z0))), (aP0x_4, .inr (2, [.ref aP1x_4, .int (nI 0), .int (nI 0)])), (aP1x_4, .inl (cI, 16, .inl (aI z0))), (aT0x_4, .inr (5, [.ref aT1x_4, .ref aT2x_4, .ref aT3x_4, .int (nI 0), .int (nI 0), .int (nI 0)])), (aT1x_4, .inl (cI, 8, .inl (aI z0))), (aT2x_4, .inl (cI, 8, .inl (aI z0))), (aT3x_4, .inl (cI, 8, .inl (aI z0))), (aG0x_4, .inr (4, [.int (nI 0), .int (nI 0), .int (nI 0), .ref aG1x_4, .ref aG2x_4])), (aG1x_4, .inl (cI, 8, .inl (aI z0))), (aG2x_4, .inl (cI, 16, .inl (aI z0))), (q8, .inr (8, [.int (nI 0), .ref mH_12, .ref mD_12, .ref mT_12, .int (nI 0), .ref mP_12, .int (nI 0), .ref mA_12, .ref mZ_12, .ref mW_12, .ref mS0_12, .ref mS0x_12])), (mH_12, .inl (cI, 100, .inl (aI h00))), (mD_12, .inl (cI, 100, .inl (aB zF))), (mT_12, .inl (cI, 7, .inl (aI (tabF z0 z0 z0)))), (mP_12, .inl (cI, 16, .inl (aI z0))), (mA_12, .inl (cI, 8, .inl (aI z0))), (mZ_12, .inl (cI, 8, .inl (aI z0))), (mW_12, .inl (cI, 100, .inl (aI z0))), (mS0_12, .inr (7, [.int (nI 0), .ref mS1_12, .ref mS2_12, .ref mS3_12, .ref mS4_12, .ref mS5_12, .ref q8])), (mS1_12, .inl (cI, 100, .inl (aI f00))), (mS2_12, .inl (cI, 16, .inl (aB (bt (nI 0))))), (mS3_12, .inl (cI, 8, .inl (aB (bt (nI 0))))), (mS4_12, .inl (cI, 8, .inl (aB (bt (nI 0))))), (mS5_12, .inl (cI, 8, .inl (aI z0))), (mS0x_12, .inr (7, [.int (nI 0), .ref mS1x_12, .ref mS2x_12, .ref mS3x_12, .ref mS4x_12, .ref mS5x_12, .ref q8])), (mS1x_12, .inl (cI, 100, .inl (aI z0))), (mS2x_12, .inl (cI, 16, .inl (aB (bt (nI 0))))), (mS3x_12, .inl (cI, 8, .inl (aB (bt (nI 0))))), (mS4x_12, .inl (cI, 8, .inl (aB (bt (nI 0))))), (mS5x_12, .inl (cI, 8, .inl (aI z0)))] := hD
  refine lv_astore_n (pc := 15) (lv' := [(2, .ref q8), (1, .ref q0), (0, .ref b)]) hx hb dL_law_15 rfl hl (by decide) rfl (fun ls hl => ?_)
  refine lv_iconst (pc := 16) hx hb dL_law_16 gk_1 ?_
  refine g_newJ (pc := 17) hx hb hts hJ hP hD hS hA (Nat.le_of_ble_eq_true rfl) (Nat.le_of_ble_eq_true rfl) dL_law_17 (fun q17 H hP hD hS => ?_)
  have hP : va_P D vwCl [(q0, .inr (6, [.ref aN0_4, .ref aC_4, .ref aCx_4])), (aN0_4, .inr (1, [.ref aN1_4, .ref aN2_4, .ref aN3_4])), (aN1_4, .inl (cI, 7, .inl (aI z0))), (aN2_4, .inl (cI, 7, .inl (aI z0))), (aN3_4, .inl (cI, 7, .inl (aI z0))), (aC_4, .inr (0, [.ref aS0_4, .ref aP0_4, .ref aT0_4, .ref aG0_4, .int (nI 0)])), (aS0_4, .inr (3, [.ref aS1_4, .ref aS2_4, .ref aS3_4, .ref aS4_4, .ref aS5_4])), (aS1_4, .inl (cI, 100, .inl (aI h00))), (aS2_4, .inl (cI, 100, .inl (aI f00))), (aS3_4, .inl (cZ, 100, .inl (aB zF))), (aS4_4, .inl (cI, 100, .inl (aI tp2_4))), (aS5_4, .inl (cI, 100, .inl (aI z0))), (aP0_4, .inr (2, [.ref aP1_4, .int (nI 0), .int (nI 0)])), (aP1_4, .inl (cI, 16, .inl (aI z0))), (aT0_4, .inr (5, [.ref aT1_4, .ref aT2_4, .ref aT3_4, .int (nI 0), .int (nI 0), .int (nI 0)])), (aT1_4, .inl (cI, 8, .inl (aI z0))), (aT2_4, .inl (cI, 8, .inl (aI z0))), (aT3_4, .inl (cI, 8, .inl (aI z0))), (aG0_4, .inr (4, [.int (nI 0), .int (nI 0), .int (nI 0), .ref aG1_4, .ref aG2_4])), (aG1_4, .inl (cI, 8, .inl (aI z0))), (aG2_4, .inl (cI, 16, .inl (aI z0))), (aCx_4, .inr (0, [.ref aS0x_4, .ref aP0x_4, .ref aT0x_4, .ref aG0x_4, .int (nI 0)])), (aS0x_4, .inr (3, [.ref aS1x_4, .ref aS2x_4, .ref aS3x_4, .ref aS4x_4, .ref aS5x_4])), (aS1x_4, .inl (cI, 100, .inl (aI h00))), (aS2x_4, .inl (cI, 100, .inl (aI f00))), (aS3x_4, .inl (cZ, 100, .inl (aB zF))), (aS4x_4, .inl (cI, 100, .inl (aI tp3_4))), (aS5x_4, .inl (cI, 100, .inl (aI z0))), (aP0x_4, .inr (2, [.ref aP1x_4, .int (nI 0), .int (nI 0)])), (aP1x_4, .inl (cI, 16, .inl (aI z0))), (aT0x_4, .inr (5, [.ref aT1x_4, .ref aT2x_4, .ref aT3x_4, .int (nI 0), .int (nI 0), .int (nI 0)])), (aT1x_4, .inl (cI, 8, .inl (aI z0))), (aT2x_4, .inl (cI, 8, .inl (aI z0))), (aT3x_4, .inl (cI, 8, .inl (aI z0))), (aG0x_4, .inr (4, [.int (nI 0), .int (nI 0), .int (nI 0), .ref aG1x_4, .ref aG2x_4])), (aG1x_4, .inl (cI, 8, .inl (aI z0))), (aG2x_4, .inl (cI, 16, .inl (aI z0))), (q8, .inr (8, [.int (nI 0), .ref mH_12, .ref mD_12, .ref mT_12, .int (nI 0), .ref mP_12, .int (nI 0), .ref mA_12, .ref mZ_12, .ref mW_12, .ref mS0_12, .ref mS0x_12])), (mH_12, .inl (cI, 100, .inl (aI h00))), (mD_12, .inl (cI, 100, .inl (aB zF))), (mT_12, .inl (cI, 7, .inl (aI (tabF z0 z0 z0)))), (mP_12, .inl (cI, 16, .inl (aI z0))), (mA_12, .inl (cI, 8, .inl (aI z0))), (mZ_12, .inl (cI, 8, .inl (aI z0))), (mW_12, .inl (cI, 100, .inl (aI z0))), (mS0_12, .inr (7, [.int (nI 0), .ref mS1_12, .ref mS2_12, .ref mS3_12, .ref mS4_12, .ref mS5_12, .ref q8])), (mS1_12, .inl (cI, 100, .inl (aI f00))), (mS2_12, .inl (cI, 16, .inl (aB (bt (nI 0))))), (mS3_12, .inl (cI, 8, .inl (aB (bt (nI 0))))), (mS4_12, .inl (cI, 8, .inl (aB (bt (nI 0))))), (mS5_12, .inl (cI, 8, .inl (aI z0))), (mS0x_12, .inr (7, [.int (nI 0), .ref mS1x_12, .ref mS2x_12, .ref mS3x_12, .ref mS4x_12, .ref mS5x_12, .ref q8])), (mS1x_12, .inl (cI, 100, .inl (aI z0))), (mS2x_12, .inl (cI, 16, .inl (aB (bt (nI 0))))), (mS3x_12, .inl (cI, 8, .inl (aB (bt (nI 0))))), (mS4x_12, .inl (cI, 8, .inl (aB (bt (nI 0))))), (mS5x_12, .inl (cI, 8, .inl (aI z0))), (q17, .inl (cJ, 1, .inr (.inl (fun _ => 0))))] H := hP
  have hD : va_D A [(q0, .inr (6, [.ref aN0_4, .ref aC_4, .ref aCx_4])), (aN0_4, .inr (1, [.ref aN1_4, .ref aN2_4, .ref aN3_4])), (aN1_4, .inl (cI, 7, .inl (aI z0))), (aN2_4, .inl (cI, 7, .inl (aI z0))), (aN3_4, .inl (cI, 7, .inl (aI z0))), (aC_4, .inr (0, [.ref aS0_4, .ref aP0_4, .ref aT0_4, .ref aG0_4, .int (nI 0)])), (aS0_4, .inr (3, [.ref aS1_4, .ref aS2_4, .ref aS3_4, .ref aS4_4, .ref aS5_4])), (aS1_4, .inl (cI, 100, .inl (aI h00))), (aS2_4, .inl (cI, 100, .inl (aI f00))), (aS3_4, .inl (cZ, 100, .inl (aB zF))), (aS4_4, .inl (cI, 100, .inl (aI tp2_4))), (aS5_4, .inl (cI, 100, .inl (aI z0))), (aP0_4, .inr (2, [.ref aP1_4, .int (nI 0), .int (nI 0)])), (aP1_4, .inl (cI, 16, .inl (aI z0))), (aT0_4, .inr (5, [.ref aT1_4, .ref aT2_4, .ref aT3_4, .int (nI 0), .int (nI 0), .int (nI 0)])), (aT1_4, .inl (cI, 8, .inl (aI z0))), (aT2_4, .inl (cI, 8, .inl (aI z0))), (aT3_4, .inl (cI, 8, .inl (aI z0))), (aG0_4, .inr (4, [.int (nI 0), .int (nI 0), .int (nI 0), .ref aG1_4, .ref aG2_4])), (aG1_4, .inl (cI, 8, .inl (aI z0))), (aG2_4, .inl (cI, 16, .inl (aI z0))), (aCx_4, .inr (0, [.ref aS0x_4, .ref aP0x_4, .ref aT0x_4, .ref aG0x_4, .int (nI 0)])), (aS0x_4, .inr (3, [.ref aS1x_4, .ref aS2x_4, .ref aS3x_4, .ref aS4x_4, .ref aS5x_4])), (aS1x_4, .inl (cI, 100, .inl (aI h00))), (aS2x_4, .inl (cI, 100, .inl (aI f00))), (aS3x_4, .inl (cZ, 100, .inl (aB zF))), (aS4x_4, .inl (cI, 100, .inl (aI tp3_4))), (aS5x_4, .inl (cI, 100, .inl (aI z0))), (aP0x_4, .inr (2, [.ref aP1x_4, .int (nI 0), .int (nI 0)])), (aP1x_4, .inl (cI, 16, .inl (aI z0))), (aT0x_4, .inr (5, [.ref aT1x_4, .ref aT2x_4, .ref aT3x_4, .int (nI 0), .int (nI 0), .int (nI 0)])), (aT1x_4, .inl (cI, 8, .inl (aI z0))), (aT2x_4, .inl (cI, 8, .inl (aI z0))), (aT3x_4, .inl (cI, 8, .inl (aI z0))), (aG0x_4, .inr (4, [.int (nI 0), .int (nI 0), .int (nI 0), .ref aG1x_4, .ref aG2x_4])), (aG1x_4, .inl (cI, 8, .inl (aI z0))), (aG2x_4, .inl (cI, 16, .inl (aI z0))), (q8, .inr (8, [.int (nI 0), .ref mH_12, .ref mD_12, .ref mT_12, .int (nI 0), .ref mP_12, .int (nI 0), .ref mA_12, .ref mZ_12, .ref mW_12, .ref mS0_12, .ref mS0x_12])), (mH_12, .inl (cI, 100, .inl (aI h00))), (mD_12, .inl (cI, 100, .inl (aB zF))), (mT_12, .inl (cI, 7, .inl (aI (tabF z0 z0 z0)))), (mP_12, .inl (cI, 16, .inl (aI z0))), (mA_12, .inl (cI, 8, .inl (aI z0))), (mZ_12, .inl (cI, 8, .inl (aI z0))), (mW_12, .inl (cI, 100, .inl (aI z0))), (mS0_12, .inr (7, [.int (nI 0), .ref mS1_12, .ref mS2_12, .ref mS3_12, .ref mS4_12, .ref mS5_12, .ref q8])), (mS1_12, .inl (cI, 100, .inl (aI f00))), (mS2_12, .inl (cI, 16, .inl (aB (bt (nI 0))))), (mS3_12, .inl (cI, 8, .inl (aB (bt (nI 0))))), (mS4_12, .inl (cI, 8, .inl (aB (bt (nI 0))))), (mS5_12, .inl (cI, 8, .inl (aI z0))), (mS0x_12, .inr (7, [.int (nI 0), .ref mS1x_12, .ref mS2x_12, .ref mS3x_12, .ref mS4x_12, .ref mS5x_12, .ref q8])), (mS1x_12, .inl (cI, 100, .inl (aI z0))), (mS2x_12, .inl (cI, 16, .inl (aB (bt (nI 0))))), (mS3x_12, .inl (cI, 8, .inl (aB (bt (nI 0))))), (mS4x_12, .inl (cI, 8, .inl (aB (bt (nI 0))))), (mS5x_12, .inl (cI, 8, .inl (aI z0))), (q17, .inl (cJ, 1, .inr (.inl (fun _ => 0))))] := hD
  refine lv_astore_n (pc := 19) (lv' := [(3, .ref q17), (2, .ref q8), (1, .ref q0), (0, .ref b)]) hx hb dL_law_19 rfl hl (by decide) rfl (fun ls hl => ?_)
  refine lv_iconst (pc := 20) hx hb dL_law_20 gk_0 ?_
  refine lv_istore (pc := 21) (lv' := [(4, .int (nI 0)), (3, .ref q17), (2, .ref q8), (1, .ref q0), (0, .ref b)]) hx hb dL_law_21 hl (by decide) rfl (fun ls hl => ?_)
  refine W.widen (k := 58 + 13 * 0) (n := 1849 + 92 * 0) (by omega) (by omega) ?_
  exact law_head l D cI cZ cJ A Q b L xs q0 aN0_4 aN1_4 aN2_4 aN3_4 aC_4 aS0_4 aS1_4 aS2_4 aS3_4 aS4_4 aS5_4 aP0_4 aP1_4 aT0_4 aT1_4 aT2_4 aT3_4 aG0_4 aG1_4 aG2_4 aCx_4 aS0x_4 aS1x_4 aS2x_4 aS3x_4 aS4x_4 aS5x_4 aP0x_4 aP1x_4 aT0x_4 aT1x_4 aT2x_4 aT3x_4 aG0x_4 aG1x_4 aG2x_4 q8 mH_12 mD_12 mT_12 mP_12 mA_12 mZ_12 mW_12 mS0_12 mS1_12 mS2_12 mS3_12 mS4_12 mS5_12 mS0x_12 mS1x_12 mS2x_12 mS3x_12 mS4x_12 mS5x_12 q17 hc hend 2601 0 h00 f00 zF tp2_4 (aI z0) 0 z0 (nI 0) 0 z0 z0 (aI z0) (nI 0) (nI 0) (nI 0) (nI 0) 0 (aI z0) z0 z0 z0 z0 0 h00 f00 zF tp3_4 (aI z0) 0 z0 (nI 0) 0 z0 z0 (aI z0) (nI 0) (nI 0) (nI 0) (nI 0) 0 (aI z0) z0 0 (aI z0) 0 z0 (nI 0) (nI 0) (nI 0) (aI z0) 0 0 (by omega) (show 0 ≤ 2560 from by omega) (show ∀ i9, i9 < 100 → h00 i9 ≤ 30 from by intro j hj; show 9 - j / 10 ≤ 30; omega) (show ∀ i9, i9 < 100 → 1 ≤ f00 i9 ∧ f00 i9 ≤ 9 from by intro j hj; show 1 ≤ 5 ∧ 5 ≤ 9; omega) (show ∀ i9, i9 < 100 → tp2_4 i9 < 100 from by exact fun j hj => (hord_4 j hj).1) (show ordOK h00 tp2_4 from by exact hord_4) (show 0 ≤ 16 from by omega) (show ∀ j9, j9 < 16 → z0 j9 < 100 from by intro j hj; show 0 < 100; omega) (show 0 ≤ 8 from by omega) (show ∀ j9, j9 < 8 → z0 j9 < 100 from by intro j hj; show 0 < 100; omega) (show ∀ j9, j9 < 8 → z0 j9 ≤ 9 from by intro j hj; show 0 ≤ 9; omega) (show ∀ k9, k9 < 7 → z0 k9 ≤ 9 ∧ z0 k9 ≤ 3 ∧ z0 k9 ≤ 9 from by intro j hj; show 0 ≤ 9 ∧ 0 ≤ 3 ∧ 0 ≤ 9; omega) (show bLt (nI 0) 0 from by exact fun q hq => by rw [b_n0] at hq; cases hq) (show bLt (nI 0) 0 from by exact fun q hq => by rw [b_n0] at hq; cases hq) (show bLt (nI 0) 0 from by exact fun q hq => by rw [b_n0] at hq; cases hq) (show ∀ t9, t9 < 8 → pop ((aI z0) t9) ≤ 6 from by exact fun j hj => (show pop (nI 0) ≤ 6 by decide +kernel)) (show 0 ≤ 6 * 0 from by omega) _ _ _ (hP.sub [0, 1, 2, 3, 4, 5, 6, 7, 8, 9, 10, 11, 12, 13, 14, 15, 16, 17, 18, 19, 20, 21, 22, 23, 24, 25, 26, 27, 28, 29, 30, 31, 32, 33, 34, 35, 36, 37, 38, 39, 40, 41, 42, 43, 44, 45, 46, 47, 48, 49, 50, 51, 52, 53, 54, 55, 56, 57] rfl) (hD.sub [0, 1, 2, 3, 4, 5, 6, 7, 8, 9, 10, 11, 12, 13, 14, 15, 16, 17, 18, 19, 20, 21, 22, 23, 24, 25, 26, 27, 28, 29, 30, 31, 32, 33, 34, 35, 36, 37, 38, 39, 40, 41, 42, 43, 44, 45, 46, 47, 48, 49, 50, 51, 52, 53, 54, 55, 56, 57] (by decide) rfl) hS (lv_sub hl [0, 1, 2, 3, 4] rfl)
/-! THE CLAIM OUT OF ONE WALK OF THE LAW'S BODY. Your part is whole_start (and what it stands on); all else here is the same for every law, but numbers. -/
def R_law : String := "TentCampLaw"
def lw_P (b : Addr) (xs : List Int32) (args : Array Value) (s : State) : Prop := args = #[.ref b] ∧ s.IntsAt b xs ∧ xs.length ≤ 2560 ∧ (Jvm.Cond.and given_1 narrow_1).before args s = true
/-- what a walk over the start with the record d0 says of its end, said of the start itself -/
theorem lw_closed {s t : State} {o : Outcome} {d0 : Drawn} {L : List Loc} {k n : Nat} (hd0 : s.drawn.sameBut d0 lw_cs) (hv : ∃ v, o = .returned v) (hW : (s.setDrawn d0).WarmedH t.vm) (hs : (s.setDrawn d0).sameButNew ({ t with vm := s.vm } : State) L k n) : State.butDraws s t lw_cs (fun t1 => Framed s o t1 L k n) := by
  have h2 : t.drawn = d0 := congrArg State.drawn hs.1
  refine ⟨⟨hv, hW, State.sameButNew.setDrawn hs s.drawn⟩, ?_, by decide⟩
  rw [h2]
  exact hd0
def lw_Q (_ : Array Value) (s : State) (o : Outcome) (t : State) : Prop := o = .returned (some (.int 1)) ∧ State.butDraws s t lw_cs (fun t1 => Framed s o t1 [] 601024 7293034)
def lw_Z (below : List Frame) (a : Array Value) (s : State) : State → Prop := fun t => ∃ o, t.status = .running ∧ Ended t below o ∧ lw_Q a s o t
/-- the law's own end, with 1 on the stack, nothing written that was there before, its room as the claim has it; d0: the record of draws at this point (at the entry s.drawn: begin with 'refine W.base ?_' and 'have hd0 := Drawn.sameBut.refl s.drawn lw_cs') -/
theorem lw_ret {p : Program} {l : Launch} {e : Env} {s : State} {m : MethodId} {below : List Frame} {meth : Method} {c : Code} {b : Nat} {d0 : Drawn} (hd0 : s.drawn.sameBut d0 lw_cs) (hx : p.tables.exec = Jvm.exec) (hb : c.code = code) (hr : meth.sig.returnType = ret) (hlocks : meth.locks = false) {pc : Nat} {H : Heap} {ls : Array Slot} (hdg : decode code pc = .ok (.ireturn, 1)) : W p l e room_1 (s.setDrawn d0) m #[Value.ref b] below meth c H [] 601024 7293034 (lw_Z below #[Value.ref b] s) (F0 m pc ls [.int 1]) := by
  intro T hT X
  obtain ⟨fs, hret, hrun, hended, hW, hframe⟩ := X.leave (v := some (.int 1)) (hlocks := hlocks) (fun h => by rw [hr] at h; cases h)
  have hmeth' : T.vm.method? m = some meth := X.method'
  refine ⟨T.setFrames fs, ?_, .returned (some (.int 1)), hrun, hended, rfl, lw_closed hd0 ⟨_, rfl⟩ hW hframe⟩
  jvm_step X.here [X.here.top, hx, hb, hdg, hmeth', hr, ret, narrow_b1]
  (try refine ⟨rfl, ?_⟩); (try refine ⟨rfl, ?_⟩)
  first | (intro acts; rw [hret _ acts rfl rfl rfl]) | rw [hret _ _ rfl rfl rfl]
  exact Steps.refl _
/-- what holds at the law's entry: the machine, the code, the tables' words (any of lw_tbl by 'hts w (by decide +kernel)'), the script of L ints xs at the cell b, what the Statement gives of the start (any of its parts by flat_of_before) -/
def lw_At (p : Program) (s : State) (m : MethodId) (meth : Method) (c : Code) (b L : Nat) (xs : Nat → Int32) : Prop :=
  p.tables.exec = Jvm.exec ∧ c.code = code ∧ meth.sig.returnType = ret ∧ c.maxLocals = 9 ∧ s.vm.findClass R_law = some m.cls ∧ (∀ w ∈ lw_tbl, w.before #[Value.ref b] s = true) ∧ va_X b L xs s s.heap ∧ b < s.heap.size ∧ meth.locks = false ∧ (Jvm.Cond.and given_1 narrow_1).before #[Value.ref b] s = true
theorem st_nm : ∀ q ∈ gNM, Cond.methodLinkNest q.1 q.2.1 q.2.2.1 q.2.2.2 ∈ lw_tbl := by
  intro q hq
  simp only [gNM, List.mem_cons, List.not_mem_nil, or_false] at hq
  rcases hq with rfl | rfl | rfl | rfl | rfl | rfl | rfl | rfl | rfl | rfl | rfl | rfl | rfl | rfl | rfl
  · exact List.mem_of_getElem? (i := 59) (by decide +kernel)
  · exact List.mem_of_getElem? (i := 82) (by decide +kernel)
  · exact List.mem_of_getElem? (i := 119) (by decide +kernel)
  · exact List.mem_of_getElem? (i := 143) (by decide +kernel)
  · exact List.mem_of_getElem? (i := 181) (by decide +kernel)
  · exact List.mem_of_getElem? (i := 395) (by decide +kernel)
  · exact List.mem_of_getElem? (i := 406) (by decide +kernel)
  · exact List.mem_of_getElem? (i := 606) (by decide +kernel)
  · exact List.mem_of_getElem? (i := 643) (by decide +kernel)
  · exact List.mem_of_getElem? (i := 652) (by decide +kernel)
  · exact List.mem_of_getElem? (i := 697) (by decide +kernel)
  · exact List.mem_of_getElem? (i := 734) (by decide +kernel)
  · exact List.mem_of_getElem? (i := 919) (by decide +kernel)
  · exact List.mem_of_getElem? (i := 944) (by decide +kernel)
  · exact List.mem_of_getElem? (i := 1013) (by decide +kernel)
theorem st_nf : ∀ q ∈ gNF, Cond.fieldLinkNest q.1 q.2.1 q.2.2.1 q.2.2.2.1 q.2.2.2.2.1 q.2.2.2.2.2 ∈ lw_tbl := by
  intro q hq
  simp only [gNF, List.mem_cons, List.not_mem_nil, or_false] at hq
  rcases hq with rfl | rfl | rfl | rfl | rfl | rfl | rfl | rfl | rfl | rfl | rfl | rfl | rfl
  · exact List.mem_of_getElem? (i := 739) (by decide +kernel)
  · exact List.mem_of_getElem? (i := 741) (by decide +kernel)
  · exact List.mem_of_getElem? (i := 743) (by decide +kernel)
  · exact List.mem_of_getElem? (i := 745) (by decide +kernel)
  · exact List.mem_of_getElem? (i := 747) (by decide +kernel)
  · exact List.mem_of_getElem? (i := 749) (by decide +kernel)
  · exact List.mem_of_getElem? (i := 770) (by decide +kernel)
  · exact List.mem_of_getElem? (i := 772) (by decide +kernel)
  · exact List.mem_of_getElem? (i := 774) (by decide +kernel)
  · exact List.mem_of_getElem? (i := 776) (by decide +kernel)
  · exact List.mem_of_getElem? (i := 778) (by decide +kernel)
  · exact List.mem_of_getElem? (i := 780) (by decide +kernel)
  · exact List.mem_of_getElem? (i := 782) (by decide +kernel)
theorem st_xw : ∀ w ∈ gXW, w ∈ lw_tbl := by
  intro w hw
  simp only [gXW, List.mem_cons, List.not_mem_nil, or_false] at hw
  rcases hw with rfl | rfl | rfl | rfl | rfl | rfl
  · exact List.mem_of_getElem? (i := 261) (by decide +kernel)
  · exact List.mem_of_getElem? (i := 263) (by decide +kernel)
  · exact List.mem_of_getElem? (i := 265) (by decide +kernel)
  · exact List.mem_of_getElem? (i := 438) (by decide +kernel)
  · exact List.mem_of_getElem? (i := 498) (by decide +kernel)
  · exact List.mem_of_getElem? (i := 259) (by decide +kernel)
theorem st_xs : ∀ q ∈ gXS, Cond.stringRef RX6 q.1 q.2 ∈ lw_tbl := by
  intro q hq
  simp only [gXS, List.mem_cons, List.not_mem_nil, or_false] at hq
  rcases hq with rfl | rfl | rfl | rfl | rfl | rfl | rfl | rfl | rfl | rfl | rfl | rfl | rfl | rfl | rfl | rfl
  · exact List.mem_of_getElem? (i := 519) (by decide +kernel)
  · exact List.mem_of_getElem? (i := 505) (by decide +kernel)
  · exact List.mem_of_getElem? (i := 362) (by decide +kernel)
  · exact List.mem_of_getElem? (i := 478) (by decide +kernel)
  · exact List.mem_of_getElem? (i := 680) (by decide +kernel)
  · exact List.mem_of_getElem? (i := 387) (by decide +kernel)
  · exact List.mem_of_getElem? (i := 482) (by decide +kernel)
  · exact List.mem_of_getElem? (i := 474) (by decide +kernel)
  · exact List.mem_of_getElem? (i := 419) (by decide +kernel)
  · exact List.mem_of_getElem? (i := 298) (by decide +kernel)
  · exact List.mem_of_getElem? (i := 527) (by decide +kernel)
  · exact List.mem_of_getElem? (i := 533) (by decide +kernel)
  · exact List.mem_of_getElem? (i := 541) (by decide +kernel)
  · exact List.mem_of_getElem? (i := 445) (by decide +kernel)
  · exact List.mem_of_getElem? (i := 470) (by decide +kernel)
  · exact List.mem_of_getElem? (i := 549) (by decide +kernel)
set_option maxRecDepth 100000 in
theorem st_ex : ∀ q ∈ gXS, Cond.exactly (.string RX6 q.1) "java/lang/String" ∈ flatC (Jvm.Cond.and given_1 narrow_1) := by decide +kernel
set_option maxRecDepth 100000 in
theorem st_nc : ∀ q ∈ gXN, Cond.not (.castable q.1 q.2) ∈ flatC (Jvm.Cond.and given_1 narrow_1) := by decide +kernel
theorem st_nbX {args : Array Value} {s : State} {A : Nat → Prop} (hs : ∀ w ∈ flatC (Jvm.Cond.and given_1 narrow_1), w.before args s = true) (hts : ∀ w ∈ lw_tbl, w.before args s = true) (hA : ∀ a : Nat, a < s.heap.size → ¬ A a) : ∃ t : Nat, va_Z RX3 "NEIGHBOUR_X" "[I" (.ref t) A s s.heap ∧ va_T .int t 4 gNX A s s.heap := by
  obtain ⟨t, ht, hT⟩ := va_Tof (tm := (.static RX3 "NEIGHBOUR_X" "[I")) (ty := .int) (N := 4) (f := gNX) (A := A) (by decide) (hs _ (by decide +kernel)) (va_eqt (z := Int32.ofNat 4) (hs _ (by decide +kernel))) (fun j hj => by
    rcases (show j = 0 ∨ j = 1 ∨ j = 2 ∨ j = 3 by omega) with rfl | rfl | rfl | rfl
    · exact va_eqt (z := 0) (hs (Cond.eq (.elem (.static RX3 "NEIGHBOUR_X" "[I") (.int 0)) (.int (0))) (by decide +kernel))
    · exact va_eqt (z := -1) (hs (Cond.eq (.elem (.static RX3 "NEIGHBOUR_X" "[I") (.int 1)) (.int (-1))) (by decide +kernel))
    · exact va_eqt (z := 1) (hs (Cond.eq (.elem (.static RX3 "NEIGHBOUR_X" "[I") (.int 2)) (.int (1))) (by decide +kernel))
    · exact va_eqt (z := 0) (hs (Cond.eq (.elem (.static RX3 "NEIGHBOUR_X" "[I") (.int 3)) (.int (0))) (by decide +kernel))) hA
  exact ⟨t, va_Zof (hts _ (List.mem_of_getElem? (i := 649) (by decide +kernel))) (hts _ (List.mem_of_getElem? (i := 34) (by decide +kernel))) ht hA, hT⟩
theorem st_nbY {args : Array Value} {s : State} {A : Nat → Prop} (hs : ∀ w ∈ flatC (Jvm.Cond.and given_1 narrow_1), w.before args s = true) (hts : ∀ w ∈ lw_tbl, w.before args s = true) (hA : ∀ a : Nat, a < s.heap.size → ¬ A a) : ∃ t : Nat, va_Z RX3 "NEIGHBOUR_Y" "[I" (.ref t) A s s.heap ∧ va_T .int t 4 gNY A s s.heap := by
  obtain ⟨t, ht, hT⟩ := va_Tof (tm := (.static RX3 "NEIGHBOUR_Y" "[I")) (ty := .int) (N := 4) (f := gNY) (A := A) (by decide) (hs _ (by decide +kernel)) (va_eqt (z := Int32.ofNat 4) (hs _ (by decide +kernel))) (fun j hj => by
    rcases (show j = 0 ∨ j = 1 ∨ j = 2 ∨ j = 3 by omega) with rfl | rfl | rfl | rfl
    · exact va_eqt (z := -1) (hs (Cond.eq (.elem (.static RX3 "NEIGHBOUR_Y" "[I") (.int 0)) (.int (-1))) (by decide +kernel))
    · exact va_eqt (z := 0) (hs (Cond.eq (.elem (.static RX3 "NEIGHBOUR_Y" "[I") (.int 1)) (.int (0))) (by decide +kernel))
    · exact va_eqt (z := 0) (hs (Cond.eq (.elem (.static RX3 "NEIGHBOUR_Y" "[I") (.int 2)) (.int (0))) (by decide +kernel))
    · exact va_eqt (z := 1) (hs (Cond.eq (.elem (.static RX3 "NEIGHBOUR_Y" "[I") (.int 3)) (.int (1))) (by decide +kernel))) hA
  exact ⟨t, va_Zof (hts _ (List.mem_of_getElem? (i := 651) (by decide +kernel))) (hts _ (List.mem_of_getElem? (i := 34) (by decide +kernel))) ht hA, hT⟩
set_option maxHeartbeats 4000000 in
set_option maxRecDepth 100000 in
theorem whole_start {p : Program} {e : Env} {s : State} {m : MethodId} {below : List Frame} {meth : Method} {c : Code} (l : Launch) (hflags : l.flags = flags0) {b L : Nat} {xs : Nat → Int32} (hL : L ≤ 2560) (C0 : lw_At p s m meth c b L xs) : W p l e room_1 s m #[Value.ref b] below meth c s.heap [] 0 0 (lw_Z below #[Value.ref b] s) (entryFrame m ([Value.ref b] : List Value).toArray 9) := by
  obtain ⟨hx, hb, hr, hml, hown, hts0, hscr, hbl, hlocks, hgv⟩ := id C0
  have hs := flat_of_before _ hgv
  have hts : ∀ w ∈ gWs, w.before #[Value.ref b] s = true := fun w hw => hts0 w (gWs_in w hw)
  have hl9 : l.stackTraces = false := by unfold Launch.stackTraces; rw [hflags]; decide +kernel
  obtain ⟨A, hAd⟩ : ∃ A : Nat → Prop, A = fun q : Nat => s.heap.size ≤ q := ⟨_, rfl⟩
  have hA : ∀ q : Nat, s.heap.size ≤ q → A q := by rw [hAd]; exact fun _ h => h
  have hA2 : ∀ a : Nat, a < s.heap.size → ¬ A a := by rw [hAd]; exact fun _ h => Nat.not_le.mpr h
  have hA3 : ∀ q : Nat, A q → s.heap.size ≤ q := by rw [hAd]; exact fun _ h => h
  have hbA : ¬ A b := hA2 b hbl
  obtain ⟨c0, iS0, hKn0⟩ := u_known (C := RX0) (T := TX0) (N := 5) (n := 5) hts ginX0 (hts _ (gm1 51 rfl rfl))
  obtain ⟨c1, iS1, hKn1⟩ := u_known (C := RX1) (T := TX1) (N := 3) (n := 3) hts ginX1 (hts _ (gm1 28 rfl rfl))
  obtain ⟨c2, iS2, hKn2⟩ := u_known (C := RX2) (T := TX2) (N := 3) (n := 3) hts ginX2 (hts _ (gm1 88 rfl rfl))
  obtain ⟨c3, iS3, hKn3⟩ := u_known (C := RX3) (T := TX3) (N := 5) (n := 5) hts ginX3 (hts _ (gm1 57 rfl rfl))
  obtain ⟨c4, iS4, hKn4⟩ := u_known (C := RX4) (T := TX4) (N := 5) (n := 5) hts ginX4 (hts _ (gm1 150 rfl rfl))
  obtain ⟨c5, iS5, hKn5⟩ := u_known (C := RX5) (T := TX5) (N := 6) (n := 6) hts ginX5 (hts _ (gm1 112 rfl rfl))
  obtain ⟨c6, iS6, hKn6⟩ := u_known (C := RX6) (T := TX6) (N := 3) (n := 3) hts ginX6 (hts _ (gm1 20 rfl rfl))
  obtain ⟨c7, iS7, hKn7⟩ := u_known (C := RX7) (T := TX7) (N := 7) (n := 7) hts ginX7 (hts _ (gm3 223 rfl rfl))
  obtain ⟨c8, iS8, hKn8⟩ := u_known (C := RX8) (T := TX8) (N := 12) (n := 12) hts ginX8 (hts _ (gm3 217 rfl rfl))
  obtain ⟨dC, dI, hKc⟩ : ∃ (dC : Nat → ClassId) (dI : Nat → Nat → Nat), ∀ (k : Nat) (q : vw_C), vwCl[k]? = some q → u_Kn s q.1 q.2.1 q.2.2 (dC k) (dI k) := by
    refine ⟨fun k => if k = 0 then c0 else if k = 1 then c1 else if k = 2 then c2 else if k = 3 then c3 else if k = 4 then c4 else if k = 5 then c5 else if k = 6 then c6 else if k = 7 then c7 else c8, fun k => if k = 0 then iS0 else if k = 1 then iS1 else if k = 2 then iS2 else if k = 3 then iS3 else if k = 4 then iS4 else if k = 5 then iS5 else if k = 6 then iS6 else if k = 7 then iS7 else iS8, ?_⟩
    intro k q hq
    match k, hq with
    | 0, hq => cases hq; exact hKn0
    | 1, hq => cases hq; exact hKn1
    | 2, hq => cases hq; exact hKn2
    | 3, hq => cases hq; exact hKn3
    | 4, hq => cases hq; exact hKn4
    | 5, hq => cases hq; exact hKn5
    | 6, hq => cases hq; exact hKn6
    | 7, hq => cases hq; exact hKn7
    | 8, hq => cases hq; exact hKn8
    | k + 9, hq => simp [vwCl] at hq
  obtain ⟨cI, hI1, hI2⟩ := arr_known (hts _ (gm1 49 rfl rfl))
  obtain ⟨cZ, hZ1, hZ2⟩ := arr_known (hts _ (gm1 86 rfl rfl))
  obtain ⟨cJ, hJ1, hJ2⟩ := arr_known (hts _ (gm5 42 rfl rfl))
  have hK : va_K (dC, dI) vwCl (gT cI cZ) s := ⟨hKc, fun k q hq => by
    match k, hq with
    | 0, hq => cases hq; exact ⟨hI1, hI2⟩
    | 1, hq => cases hq; exact ⟨hZ1, hZ2⟩
    | k + 2, hq => simp at hq⟩
  have hJ : va_K (dC, dI) vwCl [(cJ, .long)] s := ⟨hKc, fun k q hq => by
    match k, hq with
    | 0, hq => cases hq; exact ⟨hJ1, hJ2⟩
    | k + 1, hq => simp at hq⟩
  have hE : gE A s s.heap := ⟨fun q hq => va_Nw.of rfl (hts0 _ (st_nm q hq)), fun q hq => va_Nw.of rfl (hts0 _ (st_nf q hq)), st_nbX hs hts0 hA2, st_nbY hs hts0 hA2⟩
  have hX : gX A s s.heap := ⟨fun w hw => va_Nw.of (gXW_on w hw) (hts0 _ (st_xw w hw)), fun q hq => va_Nc.of (hs _ (st_nc q hq)), fun q hq => by
      obtain ⟨a, _, _, _, ha, -⟩ := Cond.exactly_spec (hs _ (st_ex q hq))
      exact ⟨a, vk_R.of (hts0 _ (st_xs q hq)) ha⟩,
    vx_Zqof (hts0 _ (List.mem_of_getElem? (i := 284) (by decide +kernel))) (hts0 _ (List.mem_of_getElem? (i := 40) (by decide +kernel))) (hs _ (by decide +kernel)) hA2, vx_Zqof (hts0 _ (List.mem_of_getElem? (i := 286) (by decide +kernel))) (hts0 _ (List.mem_of_getElem? (i := 40) (by decide +kernel))) (hs _ (by decide +kernel)) hA2⟩
  have hS : va_S A s.heap s.heap [] := va_S.rf
  have hP : va_P (dC, dI) vwCl [] s.heap := fun k q h => by simp at h
  have hD : va_D A [] := ⟨fun i j p q h => by simp at h, fun k q h => by simp at h⟩
  have hl := lv_entry ([.ref b]) (n := 9) (Nat.le_of_ble_eq_true rfl)
  rw [lg_entry_eq]
  generalize (lg_sl ([.ref b]) ++ List.replicate (9 - (lg_sl ([.ref b])).length) Slot.unset).toArray = ls at hl ⊢
  have hl : lv_has ls 9 [(0, .ref b)] := hl
  exact law_start l (dC, dI) cI cZ cJ A (lw_Z below #[Value.ref b] s) b L xs ⟨hl9, hx, hb, hml, hts, hown, hE, hX, hA, hK, hJ, hscr, hbl, hbA, hL⟩ (fun H locs ls cells slots hS1 h1 h2 => by
    refine W.widen h1 h2 ?_
    refine va_forget (fun q hq => hA3 _ (hS1.2.2 q hq)) ?_
    exact lw_ret (d0 := s.drawn) (Drawn.sameBut.refl s.drawn lw_cs) hx hb hr hlocks dL_law_1545) hS ls hl hP hD
set_option maxHeartbeats 4000000 in
theorem lw_walk (l : Launch) (hflags : l.flags = flags0) (b : Addr) (xs : List Int32) : MetFree l x (headSpec (Jvm.Cond.code x code maxLocals ret :: tables_1) room_1) (lw_P b xs) (fun _ _ _ _ _ => True) lw_Q := by
  refine MetFree.of_bodyS (code := code) (maxLocals := maxLocals) (ret := ret) (by decide) ?_ ?_
  · intro args s m h hn
    obtain ⟨meth, c, h1, h2, h3, h4, h5, h6, -, -⟩ := Cond.code_spec hn (atoms_spec (ws := Jvm.Cond.code x code maxLocals ret :: tables_1) h _ List.mem_cons_self)
    exact ⟨meth, c, h1, h2, h3, h4, h5, h6⟩
  · intro p e s m args below meth c s₁ B hml0 hP _
    obtain ⟨rfl, hx, hbd, hgv⟩ := hP
    obtain ⟨scr, harrAt, hlist, hof, hsmall⟩ := hx
    obtain ⟨hcb, hkn, -, -⟩ := State.arrayAt?_spec harrAt
    have hown : s.vm.findClass R_law = some m.cls := findClass_of_methodNamed B.named
    have hts0 : ∀ c ∈ (Jvm.Cond.code x code maxLocals ret :: tables_1), c.before #[Value.ref b] s = true := atoms_spec (ws := Jvm.Cond.code x code maxLocals ret :: tables_1) B.pre
    have hts : ∀ w ∈ lw_tbl, w.before #[Value.ref b] s = true := k2_hts_sels lw_privs (fun w hw => hts0 w (List.mem_cons_of_mem _ hw)) lw_privs_ok
    have hml : c.maxLocals = 9 := B.maxLocals_eq (hts0 _ List.mem_cons_self)
    have X₀ : Stand p l e room_1 s m #[Value.ref b] below meth c s₁ [] 0 0 := Stand.of_body B
    have hh0 : s₁.heap = s.heap := by rw [B.state]; rfl
    have hsz : scr.slots.size = xs.length := by rw [← Array.length_toList, hlist, List.length_map]
    have hval : ∀ j : Nat, j < xs.length → scr.slots[j]? = some (.int (xs.getD j 0)) := fun j hj => by
      rw [← Array.getElem?_toList, hlist]
      simp [hj]
    have hbl : b < s.heap.size := (Array.getElem?_eq_some_iff.mp hcb).1
    have hX : va_X b xs.length (fun j => xs.getD j 0) s s.heap := ⟨scr, hcb, hof, hkn, hsz, hval⟩
    have K : W p l e room_1 s m #[Value.ref b] below meth c s₁.heap [] 0 0 (lw_Z below #[Value.ref b] s) (entryFrame m ([Value.ref b] : List Value).toArray 9) := by
      rw [hh0]
      exact whole_start l hflags hbd ⟨B.exec, B.bytes, B.returns, hml, hown, hts, hX, hbl, B.notSynchronized, hgv⟩
    obtain ⟨t, a1, o, b1, b2, b3⟩ := K s₁ rfl X₀
    exact ⟨t, o, a1, b1, b2, b3⟩
theorem lw_pre_spec {args : Array Value} {s : State} (h : (Jvm.Cond.and given_1 narrow_1).before args s = true) (hr : rest_1_c.before args s = true) : ∃ (b : Addr) (xs : List Int32), lw_P b xs args s := by
  have hs := flat_of_before _ h
  have hq := flat_of_before _ hr
  have hc : (Cond.count 1).before args s = true := hs _ (by decide +kernel)
  have harr : (Cond.arrayOf (.arg 0) .int).before args s = true := hs _ (by decide +kernel)
  have hle : (Cond.le (.length (.arg 0)) (.int 2560)).before args s = true := hs _ (by decide +kernel)
  have hlen : (Cond.isInt (.length (.arg 0))).before args s = true := hq _ (by decide +kernel)
  have hall : (Cond.all (.arg 0) (.isInt (.elem (.arg 0) (.index 0)))).before args s = true := hq _ (by decide +kernel)
  obtain ⟨b, xs, hb, hx⟩ := State.ints_of_pre rfl harr hlen hall
  have hsm : xs.length < 2 ^ 31 := hx.choose_spec.2.2.2
  have hev : (Term.length (.arg 0)).eval args s none [] s = some (.int xs.length.toInt32) := hx.length_eval hb
  have hv := Cond.le_ints hev (show (Term.int 2560).eval args s none [] s = some (.int 2560) from rfl)
  have hd : xs.length.toInt32 ≤ 2560 := by
    simpa [Cond.before, Cond.holds, hv] using hle
  have hN : xs.length ≤ 2560 := (Int32.ofNat_le_ofNat hsm (by decide)).mp (show Int32.ofNat xs.length ≤ Int32.ofNat 2560 from hd)
  exact ⟨b, xs, Cond.one_arg hc (show args[0]? = some (.ref b) from hb), hx, hN, h⟩
theorem lw_comes (l : Launch) (hflags : l.flags = flags0) : Comes l x (Jvm.Cond.code x code maxLocals ret :: tables_1) room_1 (fun tb e args s => Calls_1 tb e args s ∧ rest_1 tb e args s ∧ Pre_1 tb e args s)
    (fun _ _ args s o t => lw_Q args s o t) := by
  intro p e ha hc hk s m args below hf hfit hheap happ hpre
  obtain ⟨b, xs, hP⟩ := lw_pre_spec hpre.2.2 hpre.2.1
  obtain ⟨k, o, h1, h2, h3, hQ⟩ := lw_walk l hflags b xs p e ha hc hk s m args below hf ((Spec.applies_iff_loose hf).mp happ).1 hP trivial
  exact ⟨k, o, h1, h2, h3, hQ⟩
theorem lw_frame {s t : State} {o : Outcome} {args : Array Value} (h : State.butDraws s t lw_cs (fun t1 => Framed s o t1 [] 601024 7293034)) :
    State.butDraws s t [Jvm.Choice.named "NaN.bits"] (fun t1 => Framed s o t1 (fieldLocs frame_1_writes args s ++ arrayLocs frame_1_arrays args s ++ staticLocs frame_1_statics s) 601024 7293034) := h
theorem lw_limb (L : Cond) (hL : ∀ (args : Array Value) (s t : State), L.after args s (.returned (some (.int 1))) t = true) :
    ArmFor flags0 classFile x code maxLocals ret World_1 tables_1 room_1 Calls_1 rest_1 Pre_1
      (fun tb e a s o t => postC L tb e a s o t ∧ State.butDraws s t [Jvm.Choice.named "NaN.bits"] (fun t1 => Framed s o t1 (fieldLocs frame_1_writes a s ++ arrayLocs frame_1_arrays a s ++ staticLocs frame_1_statics s) 601024 7293034)) := by
  intro l hflags _ _ p e ha hc hk s m args below hf hfit hheap happ hpre
  obtain ⟨k, o, h1, h2, h3, rfl, hF⟩ := lw_comes l hflags p e ha hc hk s m args below hf hfit hheap happ hpre
  exact ⟨k, _, h1, h2, h3, hL args s _, lw_frame hF⟩
theorem i_vc : Claimed_1_1 ∧ Claimed_1_2 := ⟨lw_limb limb_1_1 (fun args s t => by simp [limb_1_1, Cond.after, Cond.holds, Cond.value]), lw_limb limb_1_2 (fun args s t => Cond.after_iff.mpr (by
  first | (rw [show limb_1_2 = Cond.eq .result (.int 1) from rfl, Cond.eq_ints (x := 1) (y := 1) rfl rfl]; simp; done) | (simp [limb_1_2, Cond.value, Term.eval]; done)))⟩
