def bone (k : Nat) : Int32 := nI 1 <<< (nI k &&& 31)
def bneg (k : Nat) : Int32 := (nI 1 <<< (nI k &&& 31)) ^^^ (-1)
def bset (x : Int32) (k : Nat) : Int32 := x ||| (nI 1 <<< (nI k &&& 31))
def bclr (x : Int32) (k : Nat) : Int32 := x &&& ((nI 1 <<< (nI k &&& 31)) ^^^ (-1))
def bflip (x : Int32) (k : Nat) : Int32 := x ^^^ (nI 1 <<< (nI k &&& 31))
theorem bt_set (x : Int32) {k : Nat} (hk : k < 32) (i : Nat) : bt (bset x k) i = (bt x i || decide (i = k)) := by unfold bset; rw [b_or, bt_1 k hk]
theorem bt_clr (x : Int32) {k : Nat} (hk : k < 32) (i : Nat) : bt (bclr x k) i = (bt x i && !decide (i = k)) := by
  rcases Nat.lt_or_ge i 32 with h | h
  · unfold bclr; rw [b_and, b_not _ h, bt_1 k hk]
  · rw [b_big h, b_big h]; rfl
theorem bt_flip (x : Int32) {k : Nat} (hk : k < 32) (i : Nat) : bt (bflip x k) i = (bt x i ^^ decide (i = k)) := by unfold bflip; rw [b_xor, bt_1 k hk]
/-- the sum of the bits of n rows -/
def ropeSum (rp : Nat → Int32) : Nat → Nat
  | 0 => 0
  | n + 1 => ropeSum rp n + pop (rp n)
theorem ropeSum_le (rp : Nat → Int32) : ∀ n, ropeSum rp n ≤ 32 * n
  | 0 => Nat.le_refl _
  | n + 1 => by have := ropeSum_le rp n; have := pop_le (rp n); simp only [ropeSum]; omega

set_option maxHeartbeats 4000000 in
set_option maxRecDepth 100000 in
theorem c_X1_weatherOf (l : Launch) (D : va_G) (cI cZ : ClassId) (sz : Nat) (aN0 aN1 aN2 aN3 : Nat) (tf : Nat → Nat) (td : Nat → Nat) (tr : Nat → Nat) (k : Nat) (hk : k < 7) : gMi l yX1_weatherOf cX1_weatherOf 2 .int D cI cZ sz [(aN0, .inr (1, [.ref aN1, .ref aN2, .ref aN3])), (aN1, .inl (cI, 7, .inl (aI tf))), (aN2, .inl (cI, 7, .inl (aI td))), (aN3, .inl (cI, 7, .inl (aI tr)))] [.ref aN0, .int (nI k)] ({ frames := 0, cells := 0, slots := 0, locals := 0 } : Room) (fun (r : Int32) (_ : Unit) => r = nI (100 * tf k + 10 * td k + tr k)) (fun (_ : Unit) => [(aN0, .inr (1, [.ref aN1, .ref aN2, .ref aN3])), (aN1, .inl (cI, 7, .inl (aI tf))), (aN2, .inl (cI, 7, .inl (aI td))), (aN3, .inl (cI, 7, .inl (aI tr)))]) 0 0 := by
  refine gM_ofi (by decide +kernel) (Nat.le_of_ble_eq_true rfl) ?_
  intro pg ev s mi below meth co A hx hb hr hml hts hown hlocks hname hA hsz hAe hP hK hD hE hS ls hl
  have hl : lv_has ls 2 [(0, .ref aN0), (1, .int (nI k))] := hl
  generalize hQ : MQ below _ _ s _ _ A = Q
  refine lv_bipush (pc := 0) (v := nI 100) hx hb dX1_weatherOf_0 (by decide) ?_
  refine lv_aload_n (pc := 2) hx hb dX1_weatherOf_2 rfl (lv_at hl 0 rfl) ?_
  refine gf_X1_9 (pc := 3) hx hb hts hown hK hP 0 rfl rfl dX1_weatherOf_3 ?_
  refine lv_iload_n (pc := 6) hx hb dX1_weatherOf_6 rfl (lv_at hl 1 rfl) ?_
  refine g_iald (pc := 7) (v := nI (tf k)) hx hb hK hP 1 0 rfl rfl dX1_weatherOf_7 (by first | assumption | omega) (by decide) rfl ?_
  refine g_imul (pc := 8) hx hb dX1_weatherOf_8 (pk_mul _ _) ?_
  refine lv_bipush (pc := 9) (v := nI 10) hx hb dX1_weatherOf_9 (by decide) ?_
  refine lv_aload_n (pc := 11) hx hb dX1_weatherOf_11 rfl (lv_at hl 0 rfl) ?_
  refine gf_X1_15 (pc := 12) hx hb hts hown hK hP 0 rfl rfl dX1_weatherOf_12 ?_
  refine lv_iload_n (pc := 15) hx hb dX1_weatherOf_15 rfl (lv_at hl 1 rfl) ?_
  refine g_iald (pc := 16) (v := nI (td k)) hx hb hK hP 2 0 rfl rfl dX1_weatherOf_16 (by first | assumption | omega) (by decide) rfl ?_
  refine g_imul (pc := 17) hx hb dX1_weatherOf_17 (pk_mul _ _) ?_
  refine g_iadd (pc := 18) hx hb dX1_weatherOf_18 (nI_add _ _) ?_
  refine lv_aload_n (pc := 19) hx hb dX1_weatherOf_19 rfl (lv_at hl 0 rfl) ?_
  refine gf_X1_18 (pc := 20) hx hb hts hown hK hP 0 rfl rfl dX1_weatherOf_20 ?_
  refine lv_iload_n (pc := 23) hx hb dX1_weatherOf_23 rfl (lv_at hl 1 rfl) ?_
  refine g_iald (pc := 24) (v := nI (tr k)) hx hb hK hP 3 0 rfl rfl dX1_weatherOf_24 (by first | assumption | omega) (by decide) rfl ?_
  refine g_iadd (pc := 25) hx hb dX1_weatherOf_25 (nI_add _ _) ?_
  rw [← hQ]
  exact g_iret hx hb hr hlocks hS dX1_weatherOf_26 () (rfl) hP hD
set_option maxHeartbeats 4000000 in
set_option maxRecDepth 100000 in
theorem c_X2_driveAt (l : Launch) (D : va_G) (cI cZ : ClassId) (sz : Nat) (aP0 aP1 : Nat) (np : Nat) (pc : Nat → Nat) (inn : Int32) (k : Nat) (hnp : np ≤ 16) (hpc : ∀ j9, j9 < 16 → pc j9 < 100) (hk : k < 100) : gMi l yX2_driveAt cX2_driveAt 3 .int D cI cZ sz [(aP0, .inr (2, [.ref aP1, .int (nI np), .int inn])), (aP1, .inl (cI, 16, .inl (aI pc)))] [.ref aP0, .int (nI k)] ({ frames := 1, cells := 0, slots := 0, locals := 22 } : Room) (fun (r : Int32) (u : Int32 × Nat × (Nat → Nat) × Int32) => r = u.1 ∧ (((np = 16 ∨ ∃ p, fst pc np k = some p) ∧ u.1 = -1 ∧ u.2.1 = np ∧ u.2.2.1 = pc ∧ u.2.2.2 = inn) ∨ (np < 16 ∧ fst pc np k = none ∧ u.1 = nI np ∧ u.2.1 = np + 1 ∧ u.2.2.1 = va_up pc np k ∧ u.2.2.2 = bset inn np))) (fun (u : Int32 × Nat × (Nat → Nat) × Int32) => [(aP0, .inr (2, [.ref aP1, .int (nI u.2.1), .int u.2.2.2])), (aP1, .inl (cI, 16, .inl (aI u.2.2.1)))]) 0 0 := by
  refine gM_ofi (by decide +kernel) (Nat.le_of_ble_eq_true rfl) ?_
  intro pg ev s mi below meth co A hx hb hr hml hts hown hlocks hname hA hsz hAe hP hK hD hE hS ls hl
  have hl : lv_has ls 3 [(0, .ref aP0), (1, .int (nI k))] := hl
  generalize hQ : MQ below _ _ s _ _ A = Q
  refine lv_aload_n (pc := 0) hx hb dX2_driveAt_0 rfl (lv_at hl 0 rfl) ?_
  refine gf_X2_15 (pc := 1) hx hb hts hown hK hP 0 rfl rfl dX2_driveAt_1 ?_
  refine lv_bipush (pc := 4) (v := nI 16) hx hb dX2_driveAt_4 (by decide) ?_
  refine g_icmp_geN (pc := 6) (tgt := 17) hx hb dX2_driveAt_6 (by decide) (by omega) (by omega) (fun c_6 => ?_) (fun c_6 => ?_)
  · refine lv_iconst (pc := 17) (v := -1) hx hb dX2_driveAt_17 (by decide) ?_
    rw [← hQ]
    exact g_iret hx hb hr hlocks hS dX2_driveAt_18 ((-1), np, pc, inn) (⟨rfl, by exact Or.inl ⟨by first | exact Or.inl (by omega) | exact Or.inr ⟨_, by assumption⟩, rfl, rfl, rfl, rfl⟩⟩) hP hD
  · refine lv_aload_n (pc := 9) hx hb dX2_driveAt_9 rfl (lv_at hl 0 rfl) ?_
    refine lv_iload_n (pc := 10) hx hb dX2_driveAt_10 rfl (lv_at hl 1 rfl) ?_
    refine g_vi (pc := 11) (As := [.int (nI k)]) (rest := []) (wc := [(aP0, .inr (2, [.ref aP1, .int (nI np), .int inn])), (aP1, .inl (cI, 16, .inl (aI pc)))]) (wr := []) lk_X2_19 hx hb hml hts hown hE hA hK hP hD hS hl (c_X2_findAt l D cI cZ _ aP0 aP1 np pc inn k (show np ≤ 16 from by first | assumption | omega) (show ∀ j, j < 16 → pc j < 100 from by first | assumption | omega) (show k < 100 from by first | assumption | omega)) rfl rfl dX2_driveAt_11 [0, 1] [] rfl rfl (by decide) (by decide) (by decide) rfl rfl ⟨rfl, rfl, Nat.le_of_ble_eq_true rfl, Nat.le_of_ble_eq_true rfl, Nat.le_refl _, Nat.le_refl _⟩ (Nat.le_of_ble_eq_true rfl) (fun r u H locs hw hP hD hS => ?_)
    have hP : va_P D vwCl [(aP0, .inr (2, [.ref aP1, .int (nI np), .int inn])), (aP1, .inl (cI, 16, .inl (aI pc)))] H := hP
    have hD : va_D A [(aP0, .inr (2, [.ref aP1, .int (nI np), .int inn])), (aP1, .inl (cI, 16, .inl (aI pc)))] := hD
    have hw : r = (oI (fst pc np k)) := hw
    obtain rfl := hw
    rcases ho : fst pc np k with _ | op
    · refine g_top (w := .int (-1)) rfl ?_
      refine lv_if_lt (pc := 14) (tgt := 19) hx hb dX2_driveAt_14 (by decide) (fun c_14 => ?_) (fun c_14 => ?_)
      · refine lv_aload_n (pc := 19) hx hb dX2_driveAt_19 rfl (lv_at hl 0 rfl) ?_
        refine gf_X2_15 (pc := 20) hx hb hts hown hK hP 0 rfl rfl dX2_driveAt_20 ?_
        refine lv_istore_n (pc := 23) (lv' := [(2, .int (nI np)), (0, .ref aP0), (1, .int (nI k))]) hx hb dX2_driveAt_23 rfl hl (by decide) rfl (fun ls hl => ?_)
        refine lv_aload_n (pc := 24) hx hb dX2_driveAt_24 rfl (lv_at hl 1 rfl) ?_
        refine gf_X2_9 (pc := 25) hx hb hts hown hK hP 0 rfl rfl dX2_driveAt_25 ?_
        refine lv_iload_n (pc := 28) hx hb dX2_driveAt_28 rfl (lv_at hl 0 rfl) ?_
        refine lv_iload_n (pc := 29) hx hb dX2_driveAt_29 rfl (lv_at hl 2 rfl) ?_
        refine g_iast (pc := 30) (g := aI (va_up pc np k)) (w2 := [(aP0, .inr (2, [.ref aP1, .int (nI np), .int inn])), (aP1, .inl (cI, 16, .inl (aI (va_up pc np k))))]) hx hb hK hP hD hS 1 0 rfl rfl dX2_driveAt_30 rfl (by first | assumption | omega) (by decide) (aI_up _ _ _) (fun H locs hP hD hS => ?_)
        refine lv_aload_n (pc := 31) hx hb dX2_driveAt_31 rfl (lv_at hl 1 rfl) ?_
        refine lv_dup (pc := 32) hx hb dX2_driveAt_32 rfl ?_
        refine gf_X2_23 (pc := 33) hx hb hts hown hK hP 0 rfl rfl dX2_driveAt_33 ?_
        refine lv_iconst (pc := 36) hx hb dX2_driveAt_36 gk_1 ?_
        refine lv_iload_n (pc := 37) hx hb dX2_driveAt_37 rfl (lv_at hl 0 rfl) ?_
        refine lv_ishl (pc := 38) hx hb dX2_driveAt_38 ?_
        refine g_top (pc := 39) (w := .int (bone np)) rfl ?_
        refine lv_ior (pc := 39) hx hb dX2_driveAt_39 ?_
        refine g_top (pc := 40) (w := .int (bset inn np)) rfl ?_
        refine gp_X2_23 (pc := 40) (w2 := [(aP0, .inr (2, [.ref aP1, .int (nI np), .int (bset inn np)])), (aP1, .inl (cI, 16, .inl (aI (va_up pc np k))))]) hx hb hts hown hK hP hD hS 0 rfl rfl rfl rfl (Nat.le_of_ble_eq_true rfl) dX2_driveAt_40 (fun H locs hP hD hS => ?_)
        refine lv_aload_n (pc := 43) hx hb dX2_driveAt_43 rfl (lv_at hl 1 rfl) ?_
        refine lv_dup (pc := 44) hx hb dX2_driveAt_44 rfl ?_
        refine gf_X2_15 (pc := 45) hx hb hts hown hK hP 0 rfl rfl dX2_driveAt_45 ?_
        refine lv_iconst (pc := 48) hx hb dX2_driveAt_48 gk_1 ?_
        refine g_iadd (pc := 49) hx hb dX2_driveAt_49 (nI_add _ _) ?_
        refine gp_X2_15 (pc := 50) (w2 := [(aP0, .inr (2, [.ref aP1, .int (nI (np + 1)), .int (bset inn np)])), (aP1, .inl (cI, 16, .inl (aI (va_up pc np k))))]) hx hb hts hown hK hP hD hS 0 rfl rfl rfl rfl (Nat.le_of_ble_eq_true rfl) dX2_driveAt_50 (fun H locs hP hD hS => ?_)
        refine lv_iload_n (pc := 53) hx hb dX2_driveAt_53 rfl (lv_at hl 0 rfl) ?_
        rw [← hQ]
        exact g_iret hx hb hr hlocks hS dX2_driveAt_54 (nI np, np + 1, va_up pc np k, bset inn np) (⟨rfl, by exact Or.inr ⟨by omega, by assumption, rfl, rfl, rfl, rfl⟩⟩) hP hD
      · exact absurd (by decide) c_14
    · refine g_top (w := .int (nI op)) rfl ?_
      refine g_if_ltN (pc := 14) (tgt := 19) hx hb dX2_driveAt_14 (by decide) (by have := (fst_lt ho).1; omega) ?_
      refine lv_iconst (pc := 17) (v := -1) hx hb dX2_driveAt_17 (by decide) ?_
      rw [← hQ]
      exact g_iret hx hb hr hlocks hS dX2_driveAt_18 ((-1), np, pc, inn) (⟨rfl, by exact Or.inl ⟨by first | exact Or.inl (by omega) | exact Or.inr ⟨_, by assumption⟩, rfl, rfl, rfl, rfl⟩⟩) hP hD
set_option maxHeartbeats 4000000 in
set_option maxRecDepth 100000 in
theorem c_X2_copyFrom (l : Launch) (D : va_G) (cI cZ : ClassId) (sz : Nat) (aP0 aP1 aP0x aP1x : Nat) (np : Nat) (pc : Nat → Nat) (inn : Int32) (nq : Nat) (pq : Nat → Nat) (iq : Int32)  : gMv l yX2_copyFrom cX2_copyFrom 3 D cI cZ sz [(aP0, .inr (2, [.ref aP1, .int (nI np), .int inn])), (aP1, .inl (cI, 16, .inl (aI pc))), (aP0x, .inr (2, [.ref aP1x, .int (nI nq), .int iq])), (aP1x, .inl (cI, 16, .inl (aI pq)))] [.ref aP0, .ref aP0x] ({ frames := 0, cells := 0, slots := 0, locals := 0 } : Room) (fun (u : (Nat → Nat)) => (∀ j, j < 16 → u j = pq j)) (fun (u : (Nat → Nat)) => [(aP0, .inr (2, [.ref aP1, .int (nI nq), .int iq])), (aP1, .inl (cI, 16, .inl (aI u))), (aP0x, .inr (2, [.ref aP1x, .int (nI nq), .int iq])), (aP1x, .inl (cI, 16, .inl (aI pq)))]) 0 0 := by
  refine gM_ofv (by decide +kernel) (Nat.le_of_ble_eq_true rfl) ?_
  intro pg ev s mi below meth co A hx hb hr hml hts hown hlocks hname hA hsz hAe hP hK hD hE hS ls hl
  have hl : lv_has ls 3 [(0, .ref aP0), (1, .ref aP0x)] := hl
  generalize hQ : MQ below _ _ s _ _ A = Q
  refine lv_aload_n (pc := 0) hx hb dX2_copyFrom_0 rfl (lv_at hl 0 rfl) ?_
  refine lv_aload_n (pc := 1) hx hb dX2_copyFrom_1 rfl (lv_at hl 1 rfl) ?_
  refine gf_X2_15 (pc := 2) hx hb hts hown hK hP 2 rfl rfl dX2_copyFrom_2 ?_
  refine gp_X2_15 (pc := 5) (w2 := [(aP0, .inr (2, [.ref aP1, .int (nI nq), .int inn])), (aP1, .inl (cI, 16, .inl (aI pc))), (aP0x, .inr (2, [.ref aP1x, .int (nI nq), .int iq])), (aP1x, .inl (cI, 16, .inl (aI pq)))]) hx hb hts hown hK hP hD hS 0 rfl rfl rfl rfl (Nat.le_of_ble_eq_true rfl) dX2_copyFrom_5 (fun H locs hP hD hS => ?_)
  refine lv_aload_n (pc := 8) hx hb dX2_copyFrom_8 rfl (lv_at hl 0 rfl) ?_
  refine lv_aload_n (pc := 9) hx hb dX2_copyFrom_9 rfl (lv_at hl 1 rfl) ?_
  refine gf_X2_23 (pc := 10) hx hb hts hown hK hP 2 rfl rfl dX2_copyFrom_10 ?_
  refine gp_X2_23 (pc := 13) (w2 := [(aP0, .inr (2, [.ref aP1, .int (nI nq), .int iq])), (aP1, .inl (cI, 16, .inl (aI pc))), (aP0x, .inr (2, [.ref aP1x, .int (nI nq), .int iq])), (aP1x, .inl (cI, 16, .inl (aI pq)))]) hx hb hts hown hK hP hD hS 0 rfl rfl rfl rfl (Nat.le_of_ble_eq_true rfl) dX2_copyFrom_13 (fun H locs hP hD hS => ?_)
  refine lv_iconst (pc := 16) hx hb dX2_copyFrom_16 gk_0 ?_
  refine lv_istore_n (pc := 17) (lv' := [(2, .int (nI 0)), (0, .ref aP0), (1, .ref aP0x)]) hx hb dX2_copyFrom_17 rfl hl (by decide) rfl (fun ls hl => ?_)
  have lab_18 : ∀ (fuel : Nat) (i : Nat) (g : Nat → Nat), (16 - i) < fuel → (i ≤ 16) → (∀ j, j < i → g j = pq j) → ∀ (H : Heap) (locs : List Loc) (ls : Array Slot), va_P D vwCl [(aP0, .inr (2, [.ref aP1, .int (nI nq), .int iq])), (aP1, .inl (cI, 16, .inl (aI g))), (aP0x, .inr (2, [.ref aP1x, .int (nI nq), .int iq])), (aP1x, .inl (cI, 16, .inl (aI pq)))] H → va_D A [(aP0, .inr (2, [.ref aP1, .int (nI nq), .int iq])), (aP1, .inl (cI, 16, .inl (aI g))), (aP0x, .inr (2, [.ref aP1x, .int (nI nq), .int iq])), (aP1x, .inl (cI, 16, .inl (aI pq)))] → va_S A s.heap H locs → lv_has ls 3 [(0, .ref aP0), (1, .ref aP0x), (2, .int (nI i))] → W pg l ev ({ frames := 0, cells := 0, slots := 0, locals := 0 } : Room) s mi [(.ref aP0 : Value), .ref aP0x].toArray below meth co H locs 0 0 Q (F0 mi 18 ls []) := by
    intro fuel
    induction fuel with
    | zero => intro i g hm; exact absurd hm (Nat.not_lt_zero _)
    | succ fuel ih_18 =>
      intro i g hm_18 hi k1 H locs ls hP hD hS hl
      refine lv_iload_n (pc := 18) hx hb dX2_copyFrom_18 rfl (lv_at hl 2 rfl) ?_
      refine lv_bipush (pc := 19) (v := nI 16) hx hb dX2_copyFrom_19 (by decide) ?_
      refine g_icmp_geN (pc := 21) (tgt := 42) hx hb dX2_copyFrom_21 (by decide) (by omega) (by omega) (fun c_21 => ?_) (fun c_21 => ?_)
      · rw [← hQ]
        exact g_vret hx hb hr hlocks hS dX2_copyFrom_42 g (by exact fun j h => k1 j (by omega)) hP hD
      · refine lv_aload_n (pc := 24) hx hb dX2_copyFrom_24 rfl (lv_at hl 0 rfl) ?_
        refine gf_X2_9 (pc := 25) hx hb hts hown hK hP 0 rfl rfl dX2_copyFrom_25 ?_
        refine lv_iload_n (pc := 28) hx hb dX2_copyFrom_28 rfl (lv_at hl 2 rfl) ?_
        refine lv_aload_n (pc := 29) hx hb dX2_copyFrom_29 rfl (lv_at hl 1 rfl) ?_
        refine gf_X2_9 (pc := 30) hx hb hts hown hK hP 2 rfl rfl dX2_copyFrom_30 ?_
        refine lv_iload_n (pc := 33) hx hb dX2_copyFrom_33 rfl (lv_at hl 2 rfl) ?_
        refine g_iald (pc := 34) (v := nI (pq i)) hx hb hK hP 3 0 rfl rfl dX2_copyFrom_34 (by first | assumption | omega) (by decide) rfl ?_
        refine g_iast (pc := 35) (g := aI (va_up g i (pq i))) (w2 := [(aP0, .inr (2, [.ref aP1, .int (nI nq), .int iq])), (aP1, .inl (cI, 16, .inl (aI (va_up g i (pq i))))), (aP0x, .inr (2, [.ref aP1x, .int (nI nq), .int iq])), (aP1x, .inl (cI, 16, .inl (aI pq)))]) hx hb hK hP hD hS 1 0 rfl rfl dX2_copyFrom_35 rfl (by first | assumption | omega) (by decide) (aI_up _ _ _) (fun H locs hP hD hS => ?_)
        refine lv_iinc (pc := 36) (v := nI (i + 1)) (lv' := [(2, .int (nI (i + 1))), (0, .ref aP0), (1, .ref aP0x)]) hx hb dX2_copyFrom_36 hl (k := 2) rfl (gi_1 _) (by decide) rfl (fun ls hl => ?_)
        refine lv_goto (pc := 39) (tgt := 18) hx hb dX2_copyFrom_39 (by decide) ?_
        exact ih_18 (i + 1) (va_up g i (pq i)) (by omega) (show (i + 1) ≤ 16 from by first | assumption | omega) (show ∀ j, j < (i + 1) → (va_up g i (pq i)) j = pq j from by exact up_s k1) _ _ _ hP hD hS (lv_sub hl [1, 2, 0] rfl)
  exact lab_18 (16 - 0 + 1) 0 pc (Nat.lt_succ_self _) (show 0 ≤ 16 from by first | assumption | omega) (show ∀ j, j < 0 → pc j = pq j from by exact fun j h => absurd h (Nat.not_lt_zero j)) _ _ _ hP hD hS (lv_sub hl [1, 2, 0] rfl)
set_option maxHeartbeats 4000000 in
set_option maxRecDepth 100000 in
theorem c_X5_findAt (l : Launch) (D : va_G) (cI cZ : ClassId) (sz : Nat) (aT0 aT1 aT2 aT3 : Nat) (nt : Nat) (tc : Nat → Nat) (ts : Nat → Nat) (rp : Nat → Int32) (st : Int32) (wt : Int32) (k : Nat) (hnt : nt ≤ 8) (htc : ∀ j9, j9 < 8 → tc j9 < 100) (hk : k < 100) : gMi l yX5_findAt cX5_findAt 3 .int D cI cZ sz [(aT0, .inr (5, [.ref aT1, .ref aT2, .ref aT3, .int (nI nt), .int st, .int wt])), (aT1, .inl (cI, 8, .inl (aI tc))), (aT2, .inl (cI, 8, .inl (aI ts))), (aT3, .inl (cI, 8, .inl rp))] [.ref aT0, .int (nI k)] ({ frames := 0, cells := 0, slots := 0, locals := 0 } : Room) (fun (r : Int32) (_ : Unit) => r = (oI (fst tc nt k))) (fun (_ : Unit) => [(aT0, .inr (5, [.ref aT1, .ref aT2, .ref aT3, .int (nI nt), .int st, .int wt])), (aT1, .inl (cI, 8, .inl (aI tc))), (aT2, .inl (cI, 8, .inl (aI ts))), (aT3, .inl (cI, 8, .inl rp))]) 0 0 := by
  refine gM_ofi (by decide +kernel) (Nat.le_of_ble_eq_true rfl) ?_
  intro pg ev s mi below meth co A hx hb hr hml hts hown hlocks hname hA hsz hAe hP hK hD hE hS ls hl
  have hl : lv_has ls 3 [(0, .ref aT0), (1, .int (nI k))] := hl
  generalize hQ : MQ below _ _ s _ _ A = Q
  refine lv_iconst (pc := 0) hx hb dX5_findAt_0 gk_0 ?_
  refine lv_istore_n (pc := 1) (lv' := [(2, .int (nI 0)), (0, .ref aT0), (1, .int (nI k))]) hx hb dX5_findAt_1 rfl hl (by decide) rfl (fun ls hl => ?_)
  have lab_2 : ∀ (fuel : Nat) (i : Nat), (nt - i) < fuel → (i ≤ nt) → (∀ j, j < i → tc j ≠ k) → ∀ (H : Heap) (locs : List Loc) (ls : Array Slot), va_P D vwCl [(aT0, .inr (5, [.ref aT1, .ref aT2, .ref aT3, .int (nI nt), .int st, .int wt])), (aT1, .inl (cI, 8, .inl (aI tc))), (aT2, .inl (cI, 8, .inl (aI ts))), (aT3, .inl (cI, 8, .inl rp))] H → va_D A [(aT0, .inr (5, [.ref aT1, .ref aT2, .ref aT3, .int (nI nt), .int st, .int wt])), (aT1, .inl (cI, 8, .inl (aI tc))), (aT2, .inl (cI, 8, .inl (aI ts))), (aT3, .inl (cI, 8, .inl rp))] → va_S A s.heap H locs → lv_has ls 3 [(0, .ref aT0), (1, .int (nI k)), (2, .int (nI i))] → W pg l ev ({ frames := 0, cells := 0, slots := 0, locals := 0 } : Room) s mi [(.ref aT0 : Value), .int (nI k)].toArray below meth co H locs 0 0 Q (F0 mi 2 ls []) := by
    intro fuel
    induction fuel with
    | zero => intro i hm; exact absurd hm (Nat.not_lt_zero _)
    | succ fuel ih_2 =>
      intro i hm_2 hi hj H locs ls hP hD hS hl
      refine lv_iload_n (pc := 2) hx hb dX5_findAt_2 rfl (lv_at hl 2 rfl) ?_
      refine lv_aload_n (pc := 3) hx hb dX5_findAt_3 rfl (lv_at hl 0 rfl) ?_
      refine gf_X5_21 (pc := 4) hx hb hts hown hK hP 0 rfl rfl dX5_findAt_4 ?_
      refine g_icmp_geN (pc := 7) (tgt := 28) hx hb dX5_findAt_7 (by decide) (by omega) (by omega) (fun c_7 => ?_) (fun c_7 => ?_)
      · refine lv_iconst (pc := 28) (v := -1) hx hb dX5_findAt_28 (by decide) ?_
        rw [← hQ]
        exact g_iret hx hb hr hlocks hS dX5_findAt_29 () (by rw [fst_none (fun j h => hj j (by omega))]; rfl) hP hD
      · refine lv_aload_n (pc := 10) hx hb dX5_findAt_10 rfl (lv_at hl 0 rfl) ?_
        refine gf_X5_9 (pc := 11) hx hb hts hown hK hP 0 rfl rfl dX5_findAt_11 ?_
        refine lv_iload_n (pc := 14) hx hb dX5_findAt_14 rfl (lv_at hl 2 rfl) ?_
        refine g_iald (pc := 15) (v := nI (tc i)) hx hb hK hP 1 0 rfl rfl dX5_findAt_15 (by first | assumption | omega) (by decide) rfl ?_
        refine lv_iload_n (pc := 16) hx hb dX5_findAt_16 rfl (lv_at hl 1 rfl) ?_
        refine g_icmp_neN (pc := 17) (tgt := 22) hx hb dX5_findAt_17 (by decide) (by have := htc i (by omega); omega) (by have := htc i (by omega); omega) (fun c_17 => ?_) (fun c_17 => ?_)
        · refine lv_iinc (pc := 22) (v := nI (i + 1)) (lv' := [(2, .int (nI (i + 1))), (0, .ref aT0), (1, .int (nI k))]) hx hb dX5_findAt_22 hl (k := 2) rfl (gi_1 _) (by decide) rfl (fun ls hl => ?_)
          refine lv_goto (pc := 25) (tgt := 2) hx hb dX5_findAt_25 (by decide) ?_
          exact ih_2 (i + 1) (by omega) (show (i + 1) ≤ nt from by first | assumption | omega) (show ∀ j, j < (i + 1) → tc j ≠ k from by exact lt_s hj c_17) _ _ _ hP hD hS (lv_sub hl [1, 2, 0] rfl)
        · refine lv_iload_n (pc := 20) hx hb dX5_findAt_20 rfl (lv_at hl 2 rfl) ?_
          rw [← hQ]
          exact g_iret hx hb hr hlocks hS dX5_findAt_21 () (by rw [fst_some (by omega) c_17 hj]; rfl) hP hD
  exact lab_2 (nt - 0 + 1) 0 (Nat.lt_succ_self _) (show 0 ≤ nt from by first | assumption | omega) (show ∀ j, j < 0 → tc j ≠ k from by exact fun j h => absurd h (Nat.not_lt_zero j)) _ _ _ hP hD hS (lv_sub hl [1, 2, 0] rfl)
set_option maxHeartbeats 4000000 in
set_option maxRecDepth 100000 in
theorem c_X5_hasRope (l : Launch) (D : va_G) (cI cZ : ClassId) (sz : Nat) (aT0 aT1 aT2 aT3 : Nat) (nt : Nat) (tc : Nat → Nat) (ts : Nat → Nat) (rp : Nat → Int32) (st : Int32) (wt : Int32) (t : Nat) (k : Nat) (ht : t < 8) (hk : k < 16) : gMi l yX5_hasRope cX5_hasRope 3 .boolean D cI cZ sz [(aT0, .inr (5, [.ref aT1, .ref aT2, .ref aT3, .int (nI nt), .int st, .int wt])), (aT1, .inl (cI, 8, .inl (aI tc))), (aT2, .inl (cI, 8, .inl (aI ts))), (aT3, .inl (cI, 8, .inl rp))] [.ref aT0, .int (nI t), .int (nI k)] ({ frames := 1, cells := 0, slots := 0, locals := 21 } : Room) (fun (r : Int32) (_ : Unit) => r = bI (bt (rp t) k)) (fun (_ : Unit) => [(aT0, .inr (5, [.ref aT1, .ref aT2, .ref aT3, .int (nI nt), .int st, .int wt])), (aT1, .inl (cI, 8, .inl (aI tc))), (aT2, .inl (cI, 8, .inl (aI ts))), (aT3, .inl (cI, 8, .inl rp))]) 0 0 := by
  refine gM_ofi (by decide +kernel) (Nat.le_of_ble_eq_true rfl) ?_
  intro pg ev s mi below meth co A hx hb hr hml hts hown hlocks hname hA hsz hAe hP hK hD hE hS ls hl
  have hl : lv_has ls 3 [(0, .ref aT0), (1, .int (nI t)), (2, .int (nI k))] := hl
  generalize hQ : MQ below _ _ s _ _ A = Q
  refine lv_aload_n (pc := 0) hx hb dX5_hasRope_0 rfl (lv_at hl 0 rfl) ?_
  refine gf_X5_18 (pc := 1) hx hb hts hown hK hP 0 rfl rfl dX5_hasRope_1 ?_
  refine lv_iload_n (pc := 4) hx hb dX5_hasRope_4 rfl (lv_at hl 1 rfl) ?_
  refine g_iald (pc := 5) (v := (rp t)) hx hb hK hP 3 0 rfl rfl dX5_hasRope_5 (by first | assumption | omega) (by decide) rfl ?_
  refine lv_iload_n (pc := 6) hx hb dX5_hasRope_6 rfl (lv_at hl 2 rfl) ?_
  refine g_nsi (pc := 7) (As := [.int (rp t), .int (nI k)]) (rest := []) (wc := []) (wr := [(aT0, .inr (5, [.ref aT1, .ref aT2, .ref aT3, .int (nI nt), .int st, .int wt])), (aT1, .inl (cI, 8, .inl (aI tc))), (aT2, .inl (cI, 8, .inl (aI ts))), (aT3, .inl (cI, 8, .inl rp))]) lk_X5_32 hx hb hml hts hown hE hA hK hP hD hS hl (c_X6_hasBit l D cI cZ _ (rp t) k (show k < 32 from by first | assumption | omega)) dX5_hasRope_7 [] [0, 1, 2, 3] rfl rfl (by decide) (by decide) (by decide) rfl rfl ⟨rfl, rfl, Nat.le_of_ble_eq_true rfl, Nat.le_of_ble_eq_true rfl, Nat.le_refl _, Nat.le_refl _⟩ (Nat.le_of_ble_eq_true rfl) (fun r u H locs hw hP hD hS => ?_)
  have hP : va_P D vwCl [(aT0, .inr (5, [.ref aT1, .ref aT2, .ref aT3, .int (nI nt), .int st, .int wt])), (aT1, .inl (cI, 8, .inl (aI tc))), (aT2, .inl (cI, 8, .inl (aI ts))), (aT3, .inl (cI, 8, .inl rp))] H := hP
  have hD : va_D A [(aT0, .inr (5, [.ref aT1, .ref aT2, .ref aT3, .int (nI nt), .int st, .int wt])), (aT1, .inl (cI, 8, .inl (aI tc))), (aT2, .inl (cI, 8, .inl (aI ts))), (aT3, .inl (cI, 8, .inl rp))] := hD
  have hw : r = bI (bt (rp t) k) := hw
  obtain rfl := hw
  rw [← hQ]
  exact g_zret hx hb hr hlocks hS dX5_hasRope_10 (bt (rp t) k) (rfl) () (rfl) hP hD
set_option maxHeartbeats 4000000 in
set_option maxRecDepth 100000 in
theorem c_X5_turnRope (l : Launch) (D : va_G) (cI cZ : ClassId) (sz : Nat) (aT0 aT1 aT2 aT3 : Nat) (nt : Nat) (tc : Nat → Nat) (ts : Nat → Nat) (rp : Nat → Int32) (st : Int32) (wt : Int32) (t : Nat) (k : Nat) (ht : t < 8) (hk : k < 16) : gMv l yX5_turnRope cX5_turnRope 3 D cI cZ sz [(aT0, .inr (5, [.ref aT1, .ref aT2, .ref aT3, .int (nI nt), .int st, .int wt])), (aT1, .inl (cI, 8, .inl (aI tc))), (aT2, .inl (cI, 8, .inl (aI ts))), (aT3, .inl (cI, 8, .inl rp))] [.ref aT0, .int (nI t), .int (nI k)] ({ frames := 0, cells := 0, slots := 0, locals := 0 } : Room) (fun (_ : Unit) => True) (fun (_ : Unit) => [(aT0, .inr (5, [.ref aT1, .ref aT2, .ref aT3, .int (nI nt), .int st, .int wt])), (aT1, .inl (cI, 8, .inl (aI tc))), (aT2, .inl (cI, 8, .inl (aI ts))), (aT3, .inl (cI, 8, .inl (upd rp t (bflip (rp t) k))))]) 0 0 := by
  refine gM_ofv (by decide +kernel) (Nat.le_of_ble_eq_true rfl) ?_
  intro pg ev s mi below meth co A hx hb hr hml hts hown hlocks hname hA hsz hAe hP hK hD hE hS ls hl
  have hl : lv_has ls 3 [(0, .ref aT0), (1, .int (nI t)), (2, .int (nI k))] := hl
  generalize hQ : MQ below _ _ s _ _ A = Q
  refine lv_aload_n (pc := 0) hx hb dX5_turnRope_0 rfl (lv_at hl 0 rfl) ?_
  refine gf_X5_18 (pc := 1) hx hb hts hown hK hP 0 rfl rfl dX5_turnRope_1 ?_
  refine lv_iload_n (pc := 4) hx hb dX5_turnRope_4 rfl (lv_at hl 1 rfl) ?_
  refine lv_dup2_11 (pc := 5) hx hb dX5_turnRope_5 rfl rfl ?_
  refine g_iald (pc := 6) (v := (rp t)) hx hb hK hP 3 0 rfl rfl dX5_turnRope_6 (by first | assumption | omega) (by decide) rfl ?_
  refine lv_iconst (pc := 7) hx hb dX5_turnRope_7 gk_1 ?_
  refine lv_iload_n (pc := 8) hx hb dX5_turnRope_8 rfl (lv_at hl 2 rfl) ?_
  refine lv_ishl (pc := 9) hx hb dX5_turnRope_9 ?_
  refine g_top (pc := 10) (w := .int (bone k)) rfl ?_
  refine lv_ixor (pc := 10) hx hb dX5_turnRope_10 ?_
  refine g_top (pc := 11) (w := .int (bflip (rp t) k)) rfl ?_
  refine g_iast (pc := 11) (g := (upd rp t (bflip (rp t) k))) (w2 := [(aT0, .inr (5, [.ref aT1, .ref aT2, .ref aT3, .int (nI nt), .int st, .int wt])), (aT1, .inl (cI, 8, .inl (aI tc))), (aT2, .inl (cI, 8, .inl (aI ts))), (aT3, .inl (cI, 8, .inl (upd rp t (bflip (rp t) k))))]) hx hb hK hP hD hS 3 0 rfl rfl dX5_turnRope_11 rfl (by first | assumption | omega) (by decide) (rfl) (fun H locs hP hD hS => ?_)
  rw [← hQ]
  exact g_vret hx hb hr hlocks hS dX5_turnRope_12 () (trivial) hP hD
set_option maxHeartbeats 4000000 in
set_option maxRecDepth 100000 in
theorem c_X5_ropesOf (l : Launch) (D : va_G) (cI cZ : ClassId) (sz : Nat) (aT0 aT1 aT2 aT3 : Nat) (nt : Nat) (tc : Nat → Nat) (ts : Nat → Nat) (rp : Nat → Int32) (st : Int32) (wt : Int32) (t : Nat) (ht : t < 8) : gMi l yX5_ropesOf cX5_ropesOf 2 .int D cI cZ sz [(aT0, .inr (5, [.ref aT1, .ref aT2, .ref aT3, .int (nI nt), .int st, .int wt])), (aT1, .inl (cI, 8, .inl (aI tc))), (aT2, .inl (cI, 8, .inl (aI ts))), (aT3, .inl (cI, 8, .inl rp))] [.ref aT0, .int (nI t)] ({ frames := 1, cells := 0, slots := 0, locals := 20 } : Room) (fun (r : Int32) (_ : Unit) => r = nI (pop (rp t))) (fun (_ : Unit) => [(aT0, .inr (5, [.ref aT1, .ref aT2, .ref aT3, .int (nI nt), .int st, .int wt])), (aT1, .inl (cI, 8, .inl (aI tc))), (aT2, .inl (cI, 8, .inl (aI ts))), (aT3, .inl (cI, 8, .inl rp))]) 0 0 := by
  refine gM_ofi (by decide +kernel) (Nat.le_of_ble_eq_true rfl) ?_
  intro pg ev s mi below meth co A hx hb hr hml hts hown hlocks hname hA hsz hAe hP hK hD hE hS ls hl
  have hl : lv_has ls 2 [(0, .ref aT0), (1, .int (nI t))] := hl
  generalize hQ : MQ below _ _ s _ _ A = Q
  refine lv_aload_n (pc := 0) hx hb dX5_ropesOf_0 rfl (lv_at hl 0 rfl) ?_
  refine gf_X5_18 (pc := 1) hx hb hts hown hK hP 0 rfl rfl dX5_ropesOf_1 ?_
  refine lv_iload_n (pc := 4) hx hb dX5_ropesOf_4 rfl (lv_at hl 1 rfl) ?_
  refine g_iald (pc := 5) (v := (rp t)) hx hb hK hP 3 0 rfl rfl dX5_ropesOf_5 (by first | assumption | omega) (by decide) rfl ?_
  refine g_si (pc := 6) (As := [.int (rp t)]) (rest := []) (wc := []) (wr := [(aT0, .inr (5, [.ref aT1, .ref aT2, .ref aT3, .int (nI nt), .int st, .int wt])), (aT1, .inl (cI, 8, .inl (aI tc))), (aT2, .inl (cI, 8, .inl (aI ts))), (aT3, .inl (cI, 8, .inl rp))]) lk_X5_36 hx hb hml hts hown hE hA hK hP hD hS hl (c_J6_bitCount_0f7a4 l D cI cZ _ (rp t)) dX5_ropesOf_6 [] [0, 1, 2, 3] rfl rfl (by decide) (by decide) (by decide) rfl rfl ⟨rfl, rfl, Nat.le_of_ble_eq_true rfl, Nat.le_of_ble_eq_true rfl, Nat.le_refl _, Nat.le_refl _⟩ (Nat.le_of_ble_eq_true rfl) (fun r u H locs hw hP hD hS => ?_)
  have hP : va_P D vwCl [(aT0, .inr (5, [.ref aT1, .ref aT2, .ref aT3, .int (nI nt), .int st, .int wt])), (aT1, .inl (cI, 8, .inl (aI tc))), (aT2, .inl (cI, 8, .inl (aI ts))), (aT3, .inl (cI, 8, .inl rp))] H := hP
  have hD : va_D A [(aT0, .inr (5, [.ref aT1, .ref aT2, .ref aT3, .int (nI nt), .int st, .int wt])), (aT1, .inl (cI, 8, .inl (aI tc))), (aT2, .inl (cI, 8, .inl (aI ts))), (aT3, .inl (cI, 8, .inl rp))] := hD
  have hw : r = nI (pop (rp t)) := hw
  obtain rfl := hw
  rw [← hQ]
  exact g_iret hx hb hr hlocks hS dX5_ropesOf_9 () (rfl) hP hD
set_option maxHeartbeats 4000000 in
set_option maxRecDepth 100000 in
theorem c_X5_ropesTo (l : Launch) (D : va_G) (cI cZ : ClassId) (sz : Nat) (aT0 aT1 aT2 aT3 : Nat) (nt : Nat) (tc : Nat → Nat) (ts : Nat → Nat) (rp : Nat → Int32) (st : Int32) (wt : Int32) (k : Nat) (hnt : nt ≤ 8) (hk : k < 16) : gMi l yX5_ropesTo cX5_ropesTo 4 .int D cI cZ sz [(aT0, .inr (5, [.ref aT1, .ref aT2, .ref aT3, .int (nI nt), .int st, .int wt])), (aT1, .inl (cI, 8, .inl (aI tc))), (aT2, .inl (cI, 8, .inl (aI ts))), (aT3, .inl (cI, 8, .inl rp))] [.ref aT0, .int (nI k)] ({ frames := 2, cells := 0, slots := 0, locals := 43 } : Room) (fun (r : Int32) (_ : Unit) => r = nI (fb_ct (fun t => bt (rp t) k) nt)) (fun (_ : Unit) => [(aT0, .inr (5, [.ref aT1, .ref aT2, .ref aT3, .int (nI nt), .int st, .int wt])), (aT1, .inl (cI, 8, .inl (aI tc))), (aT2, .inl (cI, 8, .inl (aI ts))), (aT3, .inl (cI, 8, .inl rp))]) 0 0 := by
  refine gM_ofi (by decide +kernel) (Nat.le_of_ble_eq_true rfl) ?_
  intro pg ev s mi below meth co A hx hb hr hml hts hown hlocks hname hA hsz hAe hP hK hD hE hS ls hl
  have hl : lv_has ls 4 [(0, .ref aT0), (1, .int (nI k))] := hl
  generalize hQ : MQ below _ _ s _ _ A = Q
  refine lv_iconst (pc := 0) hx hb dX5_ropesTo_0 gk_0 ?_
  refine lv_istore_n (pc := 1) (lv' := [(2, .int (nI 0)), (0, .ref aT0), (1, .int (nI k))]) hx hb dX5_ropesTo_1 rfl hl (by decide) rfl (fun ls hl => ?_)
  refine lv_iconst (pc := 2) hx hb dX5_ropesTo_2 gk_0 ?_
  refine lv_istore_n (pc := 3) (lv' := [(3, .int (nI 0)), (2, .int (nI 0)), (0, .ref aT0), (1, .int (nI k))]) hx hb dX5_ropesTo_3 rfl hl (by decide) rfl (fun ls hl => ?_)
  have lab_4 : ∀ (fuel : Nat) (i : Nat), (nt - i) < fuel → (i ≤ nt) → ∀ (H : Heap) (locs : List Loc) (ls : Array Slot), va_P D vwCl [(aT0, .inr (5, [.ref aT1, .ref aT2, .ref aT3, .int (nI nt), .int st, .int wt])), (aT1, .inl (cI, 8, .inl (aI tc))), (aT2, .inl (cI, 8, .inl (aI ts))), (aT3, .inl (cI, 8, .inl rp))] H → va_D A [(aT0, .inr (5, [.ref aT1, .ref aT2, .ref aT3, .int (nI nt), .int st, .int wt])), (aT1, .inl (cI, 8, .inl (aI tc))), (aT2, .inl (cI, 8, .inl (aI ts))), (aT3, .inl (cI, 8, .inl rp))] → va_S A s.heap H locs → lv_has ls 4 [(0, .ref aT0), (1, .int (nI k)), (2, .int (nI (fb_ct (fun t => bt (rp t) k) i))), (3, .int (nI i))] → W pg l ev ({ frames := 2, cells := 0, slots := 0, locals := 43 } : Room) s mi [(.ref aT0 : Value), .int (nI k)].toArray below meth co H locs 0 0 Q (F0 mi 4 ls []) := by
    intro fuel
    induction fuel with
    | zero => intro i hm; exact absurd hm (Nat.not_lt_zero _)
    | succ fuel ih_4 =>
      intro i hm_4 hi H locs ls hP hD hS hl
      refine lv_iload_n (pc := 4) hx hb dX5_ropesTo_4 rfl (lv_at hl 3 rfl) ?_
      refine lv_aload_n (pc := 5) hx hb dX5_ropesTo_5 rfl (lv_at hl 0 rfl) ?_
      refine gf_X5_21 (pc := 6) hx hb hts hown hK hP 0 rfl rfl dX5_ropesTo_6 ?_
      refine g_icmp_geN (pc := 9) (tgt := 35) hx hb dX5_ropesTo_9 (by decide) (by omega) (by omega) (fun c_9 => ?_) (fun c_9 => ?_)
      · refine lv_iload_n (pc := 35) hx hb dX5_ropesTo_35 rfl (lv_at hl 2 rfl) ?_
        rw [← hQ]
        exact g_iret hx hb hr hlocks hS dX5_ropesTo_36 () (by rw [show i = nt by omega]) hP hD
      · refine lv_iload_n (pc := 12) hx hb dX5_ropesTo_12 rfl (lv_at hl 2 rfl) ?_
        refine lv_aload_n (pc := 13) hx hb dX5_ropesTo_13 rfl (lv_at hl 0 rfl) ?_
        refine lv_iload_n (pc := 14) hx hb dX5_ropesTo_14 rfl (lv_at hl 3 rfl) ?_
        refine lv_iload_n (pc := 15) hx hb dX5_ropesTo_15 rfl (lv_at hl 1 rfl) ?_
        refine g_vi (pc := 16) (As := [.int (nI i), .int (nI k)]) (rest := [.int (nI (fb_ct (fun t => bt (rp t) k) i))]) (wc := [(aT0, .inr (5, [.ref aT1, .ref aT2, .ref aT3, .int (nI nt), .int st, .int wt])), (aT1, .inl (cI, 8, .inl (aI tc))), (aT2, .inl (cI, 8, .inl (aI ts))), (aT3, .inl (cI, 8, .inl rp))]) (wr := []) lk_X5_41 hx hb hml hts hown hE hA hK hP hD hS hl (c_X5_hasRope l D cI cZ _ aT0 aT1 aT2 aT3 nt tc ts rp st wt i k (show i < 8 from by first | assumption | omega) (show k < 16 from by first | assumption | omega)) rfl rfl dX5_ropesTo_16 [0, 1, 2, 3] [] rfl rfl (by decide) (by decide) (by decide) rfl rfl ⟨rfl, rfl, Nat.le_of_ble_eq_true rfl, Nat.le_of_ble_eq_true rfl, Nat.le_refl _, Nat.le_refl _⟩ (Nat.le_of_ble_eq_true rfl) (fun r u H locs hw hP hD hS => ?_)
        have hP : va_P D vwCl [(aT0, .inr (5, [.ref aT1, .ref aT2, .ref aT3, .int (nI nt), .int st, .int wt])), (aT1, .inl (cI, 8, .inl (aI tc))), (aT2, .inl (cI, 8, .inl (aI ts))), (aT3, .inl (cI, 8, .inl rp))] H := hP
        have hD : va_D A [(aT0, .inr (5, [.ref aT1, .ref aT2, .ref aT3, .int (nI nt), .int st, .int wt])), (aT1, .inl (cI, 8, .inl (aI tc))), (aT2, .inl (cI, 8, .inl (aI ts))), (aT3, .inl (cI, 8, .inl rp))] := hD
        have hw : r = bI (bt (rp i) k) := hw
        obtain rfl := hw
        refine g_if_eqB (pc := 19) (tgt := 26) hx hb dX5_ropesTo_19 (by decide) (fun c_19 => ?_) (fun c_19 => ?_)
        · refine lv_iconst (pc := 26) hx hb dX5_ropesTo_26 gk_0 ?_
          refine g_iadd (pc := 27) hx hb dX5_ropesTo_27 (nI_add _ _) ?_
          refine g_top (pc := 28) (w := .int (nI (fb_ct (fun t => bt (rp t) k) (i + 1)))) (by first | rw [ct_t (b := fun t => bt (rp t) k) c_19] | rw [ct_f (b := fun t => bt (rp t) k) c_19]) ?_
          refine lv_istore_n (pc := 28) (lv' := [(2, .int (nI (fb_ct (fun t => bt (rp t) k) (i + 1)))), (0, .ref aT0), (1, .int (nI k)), (3, .int (nI i))]) hx hb dX5_ropesTo_28 rfl hl (by decide) rfl (fun ls hl => ?_)
          refine lv_iinc (pc := 29) (v := nI (i + 1)) (lv' := [(3, .int (nI (i + 1))), (2, .int (nI (fb_ct (fun t => bt (rp t) k) (i + 1)))), (0, .ref aT0), (1, .int (nI k))]) hx hb dX5_ropesTo_29 hl (k := 3) rfl (gi_1 _) (by decide) rfl (fun ls hl => ?_)
          refine lv_goto (pc := 32) (tgt := 4) hx hb dX5_ropesTo_32 (by decide) ?_
          exact ih_4 (i + 1) (by omega) (show (i + 1) ≤ nt from by first | assumption | omega) _ _ _ hP hD hS (lv_sub hl [2, 3, 1, 0] rfl)
        · refine lv_iconst (pc := 22) hx hb dX5_ropesTo_22 gk_1 ?_
          refine lv_goto (pc := 23) (tgt := 27) hx hb dX5_ropesTo_23 (by decide) ?_
          refine g_iadd (pc := 27) hx hb dX5_ropesTo_27 (nI_add _ _) ?_
          refine g_top (pc := 28) (w := .int (nI (fb_ct (fun t => bt (rp t) k) (i + 1)))) (by first | rw [ct_t (b := fun t => bt (rp t) k) c_19] | rw [ct_f (b := fun t => bt (rp t) k) c_19]) ?_
          refine lv_istore_n (pc := 28) (lv' := [(2, .int (nI (fb_ct (fun t => bt (rp t) k) (i + 1)))), (0, .ref aT0), (1, .int (nI k)), (3, .int (nI i))]) hx hb dX5_ropesTo_28 rfl hl (by decide) rfl (fun ls hl => ?_)
          refine lv_iinc (pc := 29) (v := nI (i + 1)) (lv' := [(3, .int (nI (i + 1))), (2, .int (nI (fb_ct (fun t => bt (rp t) k) (i + 1)))), (0, .ref aT0), (1, .int (nI k))]) hx hb dX5_ropesTo_29 hl (k := 3) rfl (gi_1 _) (by decide) rfl (fun ls hl => ?_)
          refine lv_goto (pc := 32) (tgt := 4) hx hb dX5_ropesTo_32 (by decide) ?_
          exact ih_4 (i + 1) (by omega) (show (i + 1) ≤ nt from by first | assumption | omega) _ _ _ hP hD hS (lv_sub hl [2, 3, 1, 0] rfl)
  exact lab_4 (nt - 0 + 1) 0 (Nat.lt_succ_self _) (show 0 ≤ nt from by first | assumption | omega) _ _ _ hP hD hS (lv_sub hl [2, 3, 1, 0] rfl)
set_option maxHeartbeats 4000000 in
set_option maxRecDepth 100000 in
theorem c_X5_allRopes (l : Launch) (D : va_G) (cI cZ : ClassId) (sz : Nat) (aT0 aT1 aT2 aT3 : Nat) (nt : Nat) (tc : Nat → Nat) (ts : Nat → Nat) (rp : Nat → Int32) (st : Int32) (wt : Int32) (hnt : nt ≤ 8) : gMi l yX5_allRopes cX5_allRopes 3 .int D cI cZ sz [(aT0, .inr (5, [.ref aT1, .ref aT2, .ref aT3, .int (nI nt), .int st, .int wt])), (aT1, .inl (cI, 8, .inl (aI tc))), (aT2, .inl (cI, 8, .inl (aI ts))), (aT3, .inl (cI, 8, .inl rp))] [.ref aT0] ({ frames := 2, cells := 0, slots := 0, locals := 41 } : Room) (fun (r : Int32) (_ : Unit) => r = nI (ropeSum rp nt)) (fun (_ : Unit) => [(aT0, .inr (5, [.ref aT1, .ref aT2, .ref aT3, .int (nI nt), .int st, .int wt])), (aT1, .inl (cI, 8, .inl (aI tc))), (aT2, .inl (cI, 8, .inl (aI ts))), (aT3, .inl (cI, 8, .inl rp))]) 0 0 := by
  refine gM_ofi (by decide +kernel) (Nat.le_of_ble_eq_true rfl) ?_
  intro pg ev s mi below meth co A hx hb hr hml hts hown hlocks hname hA hsz hAe hP hK hD hE hS ls hl
  have hl : lv_has ls 3 [(0, .ref aT0)] := hl
  generalize hQ : MQ below _ _ s _ _ A = Q
  refine lv_iconst (pc := 0) hx hb dX5_allRopes_0 gk_0 ?_
  refine lv_istore_n (pc := 1) (lv' := [(1, .int (nI 0)), (0, .ref aT0)]) hx hb dX5_allRopes_1 rfl hl (by decide) rfl (fun ls hl => ?_)
  refine lv_iconst (pc := 2) hx hb dX5_allRopes_2 gk_0 ?_
  refine lv_istore_n (pc := 3) (lv' := [(2, .int (nI 0)), (1, .int (nI 0)), (0, .ref aT0)]) hx hb dX5_allRopes_3 rfl hl (by decide) rfl (fun ls hl => ?_)
  have lab_4 : ∀ (fuel : Nat) (i : Nat), (nt - i) < fuel → (i ≤ nt) → ∀ (H : Heap) (locs : List Loc) (ls : Array Slot), va_P D vwCl [(aT0, .inr (5, [.ref aT1, .ref aT2, .ref aT3, .int (nI nt), .int st, .int wt])), (aT1, .inl (cI, 8, .inl (aI tc))), (aT2, .inl (cI, 8, .inl (aI ts))), (aT3, .inl (cI, 8, .inl rp))] H → va_D A [(aT0, .inr (5, [.ref aT1, .ref aT2, .ref aT3, .int (nI nt), .int st, .int wt])), (aT1, .inl (cI, 8, .inl (aI tc))), (aT2, .inl (cI, 8, .inl (aI ts))), (aT3, .inl (cI, 8, .inl rp))] → va_S A s.heap H locs → lv_has ls 3 [(0, .ref aT0), (1, .int (nI (ropeSum rp i))), (2, .int (nI i))] → W pg l ev ({ frames := 2, cells := 0, slots := 0, locals := 41 } : Room) s mi [(.ref aT0 : Value)].toArray below meth co H locs 0 0 Q (F0 mi 4 ls []) := by
    intro fuel
    induction fuel with
    | zero => intro i hm; exact absurd hm (Nat.not_lt_zero _)
    | succ fuel ih_4 =>
      intro i hm_4 hi H locs ls hP hD hS hl
      refine lv_iload_n (pc := 4) hx hb dX5_allRopes_4 rfl (lv_at hl 2 rfl) ?_
      refine lv_aload_n (pc := 5) hx hb dX5_allRopes_5 rfl (lv_at hl 0 rfl) ?_
      refine gf_X5_21 (pc := 6) hx hb hts hown hK hP 0 rfl rfl dX5_allRopes_6 ?_
      refine g_icmp_geN (pc := 9) (tgt := 26) hx hb dX5_allRopes_9 (by decide) (by omega) (by omega) (fun c_9 => ?_) (fun c_9 => ?_)
      · refine lv_iload_n (pc := 26) hx hb dX5_allRopes_26 rfl (lv_at hl 1 rfl) ?_
        rw [← hQ]
        exact g_iret hx hb hr hlocks hS dX5_allRopes_27 () (by rw [show i = nt by omega]) hP hD
      · refine lv_iload_n (pc := 12) hx hb dX5_allRopes_12 rfl (lv_at hl 1 rfl) ?_
        refine lv_aload_n (pc := 13) hx hb dX5_allRopes_13 rfl (lv_at hl 0 rfl) ?_
        refine lv_iload_n (pc := 14) hx hb dX5_allRopes_14 rfl (lv_at hl 2 rfl) ?_
        refine g_vi (pc := 15) (As := [.int (nI i)]) (rest := [.int (nI (ropeSum rp i))]) (wc := [(aT0, .inr (5, [.ref aT1, .ref aT2, .ref aT3, .int (nI nt), .int st, .int wt])), (aT1, .inl (cI, 8, .inl (aI tc))), (aT2, .inl (cI, 8, .inl (aI ts))), (aT3, .inl (cI, 8, .inl rp))]) (wr := []) lk_X5_44 hx hb hml hts hown hE hA hK hP hD hS hl (c_X5_ropesOf l D cI cZ _ aT0 aT1 aT2 aT3 nt tc ts rp st wt i (show i < 8 from by first | assumption | omega)) rfl rfl dX5_allRopes_15 [0, 1, 2, 3] [] rfl rfl (by decide) (by decide) (by decide) rfl rfl ⟨rfl, rfl, Nat.le_of_ble_eq_true rfl, Nat.le_of_ble_eq_true rfl, Nat.le_refl _, Nat.le_refl _⟩ (Nat.le_of_ble_eq_true rfl) (fun r u H locs hw hP hD hS => ?_)
        have hP : va_P D vwCl [(aT0, .inr (5, [.ref aT1, .ref aT2, .ref aT3, .int (nI nt), .int st, .int wt])), (aT1, .inl (cI, 8, .inl (aI tc))), (aT2, .inl (cI, 8, .inl (aI ts))), (aT3, .inl (cI, 8, .inl rp))] H := hP
        have hD : va_D A [(aT0, .inr (5, [.ref aT1, .ref aT2, .ref aT3, .int (nI nt), .int st, .int wt])), (aT1, .inl (cI, 8, .inl (aI tc))), (aT2, .inl (cI, 8, .inl (aI ts))), (aT3, .inl (cI, 8, .inl rp))] := hD
        have hw : r = nI (pop (rp i)) := hw
        obtain rfl := hw
        refine g_iadd (pc := 18) hx hb dX5_allRopes_18 (nI_add _ _) ?_
        refine lv_istore_n (pc := 19) (lv' := [(1, .int (nI (ropeSum rp i + (pop (rp i))))), (0, .ref aT0), (2, .int (nI i))]) hx hb dX5_allRopes_19 rfl hl (by decide) rfl (fun ls hl => ?_)
        refine lv_iinc (pc := 20) (v := nI (i + 1)) (lv' := [(2, .int (nI (i + 1))), (1, .int (nI (ropeSum rp i + (pop (rp i))))), (0, .ref aT0)]) hx hb dX5_allRopes_20 hl (k := 2) rfl (gi_1 _) (by decide) rfl (fun ls hl => ?_)
        refine lv_goto (pc := 23) (tgt := 4) hx hb dX5_allRopes_23 (by decide) ?_
        exact ih_4 (i + 1) (by omega) (show (i + 1) ≤ nt from by first | assumption | omega) _ _ _ hP hD hS (lv_sub hl [2, 1, 0] rfl)
  exact lab_4 (nt - 0 + 1) 0 (Nat.lt_succ_self _) (show 0 ≤ nt from by first | assumption | omega) _ _ _ hP hD hS (lv_sub hl [2, 1, 0] rfl)
set_option maxHeartbeats 4000000 in
set_option maxRecDepth 100000 in
theorem c_X5_dryFloors (l : Launch) (D : va_G) (cI cZ : ClassId) (sz : Nat) (aT0 aT1 aT2 aT3 : Nat) (nt : Nat) (tc : Nat → Nat) (ts : Nat → Nat) (rp : Nat → Int32) (st : Int32) (wt : Int32) (hnt : nt ≤ 8) (hwt : pop wt ≤ nt) : gMi l yX5_dryFloors cX5_dryFloors 1 .int D cI cZ sz [(aT0, .inr (5, [.ref aT1, .ref aT2, .ref aT3, .int (nI nt), .int st, .int wt])), (aT1, .inl (cI, 8, .inl (aI tc))), (aT2, .inl (cI, 8, .inl (aI ts))), (aT3, .inl (cI, 8, .inl rp))] [.ref aT0] ({ frames := 1, cells := 0, slots := 0, locals := 20 } : Room) (fun (r : Int32) (_ : Unit) => r = nI (nt - pop wt)) (fun (_ : Unit) => [(aT0, .inr (5, [.ref aT1, .ref aT2, .ref aT3, .int (nI nt), .int st, .int wt])), (aT1, .inl (cI, 8, .inl (aI tc))), (aT2, .inl (cI, 8, .inl (aI ts))), (aT3, .inl (cI, 8, .inl rp))]) 0 0 := by
  refine gM_ofi (by decide +kernel) (Nat.le_of_ble_eq_true rfl) ?_
  intro pg ev s mi below meth co A hx hb hr hml hts hown hlocks hname hA hsz hAe hP hK hD hE hS ls hl
  have hl : lv_has ls 1 [(0, .ref aT0)] := hl
  generalize hQ : MQ below _ _ s _ _ A = Q
  refine lv_aload_n (pc := 0) hx hb dX5_dryFloors_0 rfl (lv_at hl 0 rfl) ?_
  refine gf_X5_21 (pc := 1) hx hb hts hown hK hP 0 rfl rfl dX5_dryFloors_1 ?_
  refine lv_aload_n (pc := 4) hx hb dX5_dryFloors_4 rfl (lv_at hl 0 rfl) ?_
  refine gf_X5_47 (pc := 5) hx hb hts hown hK hP 0 rfl rfl dX5_dryFloors_5 ?_
  refine g_si (pc := 8) (As := [.int wt]) (rest := [.int (nI nt)]) (wc := []) (wr := [(aT0, .inr (5, [.ref aT1, .ref aT2, .ref aT3, .int (nI nt), .int st, .int wt])), (aT1, .inl (cI, 8, .inl (aI tc))), (aT2, .inl (cI, 8, .inl (aI ts))), (aT3, .inl (cI, 8, .inl rp))]) lk_X5_36 hx hb hml hts hown hE hA hK hP hD hS hl (c_J6_bitCount_0f7a4 l D cI cZ _ wt) dX5_dryFloors_8 [] [0, 1, 2, 3] rfl rfl (by decide) (by decide) (by decide) rfl rfl ⟨rfl, rfl, Nat.le_of_ble_eq_true rfl, Nat.le_of_ble_eq_true rfl, Nat.le_refl _, Nat.le_refl _⟩ (Nat.le_of_ble_eq_true rfl) (fun r u H locs hw hP hD hS => ?_)
  have hP : va_P D vwCl [(aT0, .inr (5, [.ref aT1, .ref aT2, .ref aT3, .int (nI nt), .int st, .int wt])), (aT1, .inl (cI, 8, .inl (aI tc))), (aT2, .inl (cI, 8, .inl (aI ts))), (aT3, .inl (cI, 8, .inl rp))] H := hP
  have hD : va_D A [(aT0, .inr (5, [.ref aT1, .ref aT2, .ref aT3, .int (nI nt), .int st, .int wt])), (aT1, .inl (cI, 8, .inl (aI tc))), (aT2, .inl (cI, 8, .inl (aI ts))), (aT3, .inl (cI, 8, .inl rp))] := hD
  have hw : r = nI (pop wt) := hw
  obtain rfl := hw
  refine g_isub (pc := 11) hx hb dX5_dryFloors_11 (pk_sub (by omega)) ?_
  rw [← hQ]
  exact g_iret hx hb hr hlocks hS dX5_dryFloors_12 () (rfl) hP hD
set_option maxHeartbeats 4000000 in
set_option maxRecDepth 100000 in
theorem c_X5_copyFrom (l : Launch) (D : va_G) (cI cZ : ClassId) (sz : Nat) (aT0 aT1 aT2 aT3 aT0x aT1x aT2x aT3x : Nat) (nt : Nat) (tc : Nat → Nat) (ts : Nat → Nat) (rp : Nat → Int32) (st : Int32) (wt : Int32) (nq : Nat) (cq : Nat → Nat) (sq : Nat → Nat) (rq : Nat → Int32) (tq : Int32) (wq : Int32)  : gMv l yX5_copyFrom cX5_copyFrom 3 D cI cZ sz [(aT0, .inr (5, [.ref aT1, .ref aT2, .ref aT3, .int (nI nt), .int st, .int wt])), (aT1, .inl (cI, 8, .inl (aI tc))), (aT2, .inl (cI, 8, .inl (aI ts))), (aT3, .inl (cI, 8, .inl rp)), (aT0x, .inr (5, [.ref aT1x, .ref aT2x, .ref aT3x, .int (nI nq), .int tq, .int wq])), (aT1x, .inl (cI, 8, .inl (aI cq))), (aT2x, .inl (cI, 8, .inl (aI sq))), (aT3x, .inl (cI, 8, .inl rq))] [.ref aT0, .ref aT0x] ({ frames := 0, cells := 0, slots := 0, locals := 0 } : Room) (fun (u : (Nat → Nat) × (Nat → Nat) × (Nat → Int32)) => (∀ j, j < 8 → u.1 j = cq j) ∧ (∀ j, j < 8 → u.2.1 j = sq j) ∧ (∀ j, j < 8 → u.2.2 j = rq j)) (fun (u : (Nat → Nat) × (Nat → Nat) × (Nat → Int32)) => [(aT0, .inr (5, [.ref aT1, .ref aT2, .ref aT3, .int (nI nq), .int tq, .int wq])), (aT1, .inl (cI, 8, .inl (aI u.1))), (aT2, .inl (cI, 8, .inl (aI u.2.1))), (aT3, .inl (cI, 8, .inl u.2.2)), (aT0x, .inr (5, [.ref aT1x, .ref aT2x, .ref aT3x, .int (nI nq), .int tq, .int wq])), (aT1x, .inl (cI, 8, .inl (aI cq))), (aT2x, .inl (cI, 8, .inl (aI sq))), (aT3x, .inl (cI, 8, .inl rq))]) 0 0 := by
  refine gM_ofv (by decide +kernel) (Nat.le_of_ble_eq_true rfl) ?_
  intro pg ev s mi below meth co A hx hb hr hml hts hown hlocks hname hA hsz hAe hP hK hD hE hS ls hl
  have hl : lv_has ls 3 [(0, .ref aT0), (1, .ref aT0x)] := hl
  generalize hQ : MQ below _ _ s _ _ A = Q
  refine lv_aload_n (pc := 0) hx hb dX5_copyFrom_0 rfl (lv_at hl 0 rfl) ?_
  refine lv_aload_n (pc := 1) hx hb dX5_copyFrom_1 rfl (lv_at hl 1 rfl) ?_
  refine gf_X5_21 (pc := 2) hx hb hts hown hK hP 4 rfl rfl dX5_copyFrom_2 ?_
  refine gp_X5_21 (pc := 5) (w2 := [(aT0, .inr (5, [.ref aT1, .ref aT2, .ref aT3, .int (nI nq), .int st, .int wt])), (aT1, .inl (cI, 8, .inl (aI tc))), (aT2, .inl (cI, 8, .inl (aI ts))), (aT3, .inl (cI, 8, .inl rp)), (aT0x, .inr (5, [.ref aT1x, .ref aT2x, .ref aT3x, .int (nI nq), .int tq, .int wq])), (aT1x, .inl (cI, 8, .inl (aI cq))), (aT2x, .inl (cI, 8, .inl (aI sq))), (aT3x, .inl (cI, 8, .inl rq))]) hx hb hts hown hK hP hD hS 0 rfl rfl rfl rfl (Nat.le_of_ble_eq_true rfl) dX5_copyFrom_5 (fun H locs hP hD hS => ?_)
  refine lv_aload_n (pc := 8) hx hb dX5_copyFrom_8 rfl (lv_at hl 0 rfl) ?_
  refine lv_aload_n (pc := 9) hx hb dX5_copyFrom_9 rfl (lv_at hl 1 rfl) ?_
  refine gf_X5_29 (pc := 10) hx hb hts hown hK hP 4 rfl rfl dX5_copyFrom_10 ?_
  refine gp_X5_29 (pc := 13) (w2 := [(aT0, .inr (5, [.ref aT1, .ref aT2, .ref aT3, .int (nI nq), .int tq, .int wt])), (aT1, .inl (cI, 8, .inl (aI tc))), (aT2, .inl (cI, 8, .inl (aI ts))), (aT3, .inl (cI, 8, .inl rp)), (aT0x, .inr (5, [.ref aT1x, .ref aT2x, .ref aT3x, .int (nI nq), .int tq, .int wq])), (aT1x, .inl (cI, 8, .inl (aI cq))), (aT2x, .inl (cI, 8, .inl (aI sq))), (aT3x, .inl (cI, 8, .inl rq))]) hx hb hts hown hK hP hD hS 0 rfl rfl rfl rfl (Nat.le_of_ble_eq_true rfl) dX5_copyFrom_13 (fun H locs hP hD hS => ?_)
  refine lv_aload_n (pc := 16) hx hb dX5_copyFrom_16 rfl (lv_at hl 0 rfl) ?_
  refine lv_aload_n (pc := 17) hx hb dX5_copyFrom_17 rfl (lv_at hl 1 rfl) ?_
  refine gf_X5_47 (pc := 18) hx hb hts hown hK hP 4 rfl rfl dX5_copyFrom_18 ?_
  refine gp_X5_47 (pc := 21) (w2 := [(aT0, .inr (5, [.ref aT1, .ref aT2, .ref aT3, .int (nI nq), .int tq, .int wq])), (aT1, .inl (cI, 8, .inl (aI tc))), (aT2, .inl (cI, 8, .inl (aI ts))), (aT3, .inl (cI, 8, .inl rp)), (aT0x, .inr (5, [.ref aT1x, .ref aT2x, .ref aT3x, .int (nI nq), .int tq, .int wq])), (aT1x, .inl (cI, 8, .inl (aI cq))), (aT2x, .inl (cI, 8, .inl (aI sq))), (aT3x, .inl (cI, 8, .inl rq))]) hx hb hts hown hK hP hD hS 0 rfl rfl rfl rfl (Nat.le_of_ble_eq_true rfl) dX5_copyFrom_21 (fun H locs hP hD hS => ?_)
  refine lv_iconst (pc := 24) hx hb dX5_copyFrom_24 gk_0 ?_
  refine lv_istore_n (pc := 25) (lv' := [(2, .int (nI 0)), (0, .ref aT0), (1, .ref aT0x)]) hx hb dX5_copyFrom_25 rfl hl (by decide) rfl (fun ls hl => ?_)
  have lab_26 : ∀ (fuel : Nat) (i : Nat) (g1 : Nat → Nat) (g2 : Nat → Nat) (g3 : Nat → Int32), (8 - i) < fuel → (i ≤ 8) → (∀ j, j < i → g1 j = cq j) → (∀ j, j < i → g2 j = sq j) → (∀ j, j < i → g3 j = rq j) → ∀ (H : Heap) (locs : List Loc) (ls : Array Slot), va_P D vwCl [(aT0, .inr (5, [.ref aT1, .ref aT2, .ref aT3, .int (nI nq), .int tq, .int wq])), (aT1, .inl (cI, 8, .inl (aI g1))), (aT2, .inl (cI, 8, .inl (aI g2))), (aT3, .inl (cI, 8, .inl g3)), (aT0x, .inr (5, [.ref aT1x, .ref aT2x, .ref aT3x, .int (nI nq), .int tq, .int wq])), (aT1x, .inl (cI, 8, .inl (aI cq))), (aT2x, .inl (cI, 8, .inl (aI sq))), (aT3x, .inl (cI, 8, .inl rq))] H → va_D A [(aT0, .inr (5, [.ref aT1, .ref aT2, .ref aT3, .int (nI nq), .int tq, .int wq])), (aT1, .inl (cI, 8, .inl (aI g1))), (aT2, .inl (cI, 8, .inl (aI g2))), (aT3, .inl (cI, 8, .inl g3)), (aT0x, .inr (5, [.ref aT1x, .ref aT2x, .ref aT3x, .int (nI nq), .int tq, .int wq])), (aT1x, .inl (cI, 8, .inl (aI cq))), (aT2x, .inl (cI, 8, .inl (aI sq))), (aT3x, .inl (cI, 8, .inl rq))] → va_S A s.heap H locs → lv_has ls 3 [(0, .ref aT0), (1, .ref aT0x), (2, .int (nI i))] → W pg l ev ({ frames := 0, cells := 0, slots := 0, locals := 0 } : Room) s mi [(.ref aT0 : Value), .ref aT0x].toArray below meth co H locs 0 0 Q (F0 mi 26 ls []) := by
    intro fuel
    induction fuel with
    | zero => intro i g1 g2 g3 hm; exact absurd hm (Nat.not_lt_zero _)
    | succ fuel ih_26 =>
      intro i g1 g2 g3 hm_26 hi k1 k2 k3 H locs ls hP hD hS hl
      refine lv_iload_n (pc := 26) hx hb dX5_copyFrom_26 rfl (lv_at hl 2 rfl) ?_
      refine lv_bipush (pc := 27) (v := nI 8) hx hb dX5_copyFrom_27 (by decide) ?_
      refine g_icmp_geN (pc := 29) (tgt := 74) hx hb dX5_copyFrom_29 (by decide) (by omega) (by omega) (fun c_29 => ?_) (fun c_29 => ?_)
      · rw [← hQ]
        exact g_vret hx hb hr hlocks hS dX5_copyFrom_74 (g1, g2, g3) (by and_intros <;> (intro j h; first | exact k1 j (by omega) | exact k2 j (by omega) | exact k3 j (by omega))) hP hD
      · refine lv_aload_n (pc := 32) hx hb dX5_copyFrom_32 rfl (lv_at hl 0 rfl) ?_
        refine gf_X5_9 (pc := 33) hx hb hts hown hK hP 0 rfl rfl dX5_copyFrom_33 ?_
        refine lv_iload_n (pc := 36) hx hb dX5_copyFrom_36 rfl (lv_at hl 2 rfl) ?_
        refine lv_aload_n (pc := 37) hx hb dX5_copyFrom_37 rfl (lv_at hl 1 rfl) ?_
        refine gf_X5_9 (pc := 38) hx hb hts hown hK hP 4 rfl rfl dX5_copyFrom_38 ?_
        refine lv_iload_n (pc := 41) hx hb dX5_copyFrom_41 rfl (lv_at hl 2 rfl) ?_
        refine g_iald (pc := 42) (v := nI (cq i)) hx hb hK hP 5 0 rfl rfl dX5_copyFrom_42 (by first | assumption | omega) (by decide) rfl ?_
        refine g_iast (pc := 43) (g := aI (va_up g1 i (cq i))) (w2 := [(aT0, .inr (5, [.ref aT1, .ref aT2, .ref aT3, .int (nI nq), .int tq, .int wq])), (aT1, .inl (cI, 8, .inl (aI (va_up g1 i (cq i))))), (aT2, .inl (cI, 8, .inl (aI g2))), (aT3, .inl (cI, 8, .inl g3)), (aT0x, .inr (5, [.ref aT1x, .ref aT2x, .ref aT3x, .int (nI nq), .int tq, .int wq])), (aT1x, .inl (cI, 8, .inl (aI cq))), (aT2x, .inl (cI, 8, .inl (aI sq))), (aT3x, .inl (cI, 8, .inl rq))]) hx hb hK hP hD hS 1 0 rfl rfl dX5_copyFrom_43 rfl (by first | assumption | omega) (by decide) (aI_up _ _ _) (fun H locs hP hD hS => ?_)
        refine lv_aload_n (pc := 44) hx hb dX5_copyFrom_44 rfl (lv_at hl 0 rfl) ?_
        refine gf_X5_15 (pc := 45) hx hb hts hown hK hP 0 rfl rfl dX5_copyFrom_45 ?_
        refine lv_iload_n (pc := 48) hx hb dX5_copyFrom_48 rfl (lv_at hl 2 rfl) ?_
        refine lv_aload_n (pc := 49) hx hb dX5_copyFrom_49 rfl (lv_at hl 1 rfl) ?_
        refine gf_X5_15 (pc := 50) hx hb hts hown hK hP 4 rfl rfl dX5_copyFrom_50 ?_
        refine lv_iload_n (pc := 53) hx hb dX5_copyFrom_53 rfl (lv_at hl 2 rfl) ?_
        refine g_iald (pc := 54) (v := nI (sq i)) hx hb hK hP 6 0 rfl rfl dX5_copyFrom_54 (by first | assumption | omega) (by decide) rfl ?_
        refine g_iast (pc := 55) (g := aI (va_up g2 i (sq i))) (w2 := [(aT0, .inr (5, [.ref aT1, .ref aT2, .ref aT3, .int (nI nq), .int tq, .int wq])), (aT1, .inl (cI, 8, .inl (aI (va_up g1 i (cq i))))), (aT2, .inl (cI, 8, .inl (aI (va_up g2 i (sq i))))), (aT3, .inl (cI, 8, .inl g3)), (aT0x, .inr (5, [.ref aT1x, .ref aT2x, .ref aT3x, .int (nI nq), .int tq, .int wq])), (aT1x, .inl (cI, 8, .inl (aI cq))), (aT2x, .inl (cI, 8, .inl (aI sq))), (aT3x, .inl (cI, 8, .inl rq))]) hx hb hK hP hD hS 2 0 rfl rfl dX5_copyFrom_55 rfl (by first | assumption | omega) (by decide) (aI_up _ _ _) (fun H locs hP hD hS => ?_)
        refine lv_aload_n (pc := 56) hx hb dX5_copyFrom_56 rfl (lv_at hl 0 rfl) ?_
        refine gf_X5_18 (pc := 57) hx hb hts hown hK hP 0 rfl rfl dX5_copyFrom_57 ?_
        refine lv_iload_n (pc := 60) hx hb dX5_copyFrom_60 rfl (lv_at hl 2 rfl) ?_
        refine lv_aload_n (pc := 61) hx hb dX5_copyFrom_61 rfl (lv_at hl 1 rfl) ?_
        refine gf_X5_18 (pc := 62) hx hb hts hown hK hP 4 rfl rfl dX5_copyFrom_62 ?_
        refine lv_iload_n (pc := 65) hx hb dX5_copyFrom_65 rfl (lv_at hl 2 rfl) ?_
        refine g_iald (pc := 66) (v := (rq i)) hx hb hK hP 7 0 rfl rfl dX5_copyFrom_66 (by first | assumption | omega) (by decide) rfl ?_
        refine g_iast (pc := 67) (g := (upd g3 i (rq i))) (w2 := [(aT0, .inr (5, [.ref aT1, .ref aT2, .ref aT3, .int (nI nq), .int tq, .int wq])), (aT1, .inl (cI, 8, .inl (aI (va_up g1 i (cq i))))), (aT2, .inl (cI, 8, .inl (aI (va_up g2 i (sq i))))), (aT3, .inl (cI, 8, .inl (upd g3 i (rq i)))), (aT0x, .inr (5, [.ref aT1x, .ref aT2x, .ref aT3x, .int (nI nq), .int tq, .int wq])), (aT1x, .inl (cI, 8, .inl (aI cq))), (aT2x, .inl (cI, 8, .inl (aI sq))), (aT3x, .inl (cI, 8, .inl rq))]) hx hb hK hP hD hS 3 0 rfl rfl dX5_copyFrom_67 rfl (by first | assumption | omega) (by decide) (rfl) (fun H locs hP hD hS => ?_)
        refine lv_iinc (pc := 68) (v := nI (i + 1)) (lv' := [(2, .int (nI (i + 1))), (0, .ref aT0), (1, .ref aT0x)]) hx hb dX5_copyFrom_68 hl (k := 2) rfl (gi_1 _) (by decide) rfl (fun ls hl => ?_)
        refine lv_goto (pc := 71) (tgt := 26) hx hb dX5_copyFrom_71 (by decide) ?_
        exact ih_26 (i + 1) (va_up g1 i (cq i)) (va_up g2 i (sq i)) (upd g3 i (rq i)) (by omega) (show (i + 1) ≤ 8 from by first | assumption | omega) (show ∀ j, j < (i + 1) → (va_up g1 i (cq i)) j = cq j from by exact up_s k1) (show ∀ j, j < (i + 1) → (va_up g2 i (sq i)) j = sq j from by exact up_s k2) (show ∀ j, j < (i + 1) → (upd g3 i (rq i)) j = rq j from by exact up_s k3) _ _ _ hP hD hS (lv_sub hl [1, 2, 0] rfl)
  exact lab_26 (8 - 0 + 1) 0 tc ts rp (Nat.lt_succ_self _) (show 0 ≤ 8 from by first | assumption | omega) (show ∀ j, j < 0 → tc j = cq j from by exact fun j h => absurd h (Nat.not_lt_zero j)) (show ∀ j, j < 0 → ts j = sq j from by exact fun j h => absurd h (Nat.not_lt_zero j)) (show ∀ j, j < 0 → rp j = rq j from by exact fun j h => absurd h (Nat.not_lt_zero j)) _ _ _ hP hD hS (lv_sub hl [1, 2, 0] rfl)
set_option maxHeartbeats 4000000 in
set_option maxRecDepth 100000 in
theorem c_X5_pitchAt (l : Launch) (D : va_G) (cI cZ : ClassId) (sz : Nat) (aT0 aT1 aT2 aT3 : Nat) (nt : Nat) (tc : Nat → Nat) (ts : Nat → Nat) (rp : Nat → Int32) (st : Int32) (wt : Int32) (k : Nat) (sz9 : Nat) (hnt : nt ≤ 8) (htc : ∀ j9, j9 < 8 → tc j9 < 100) (hk : k < 100) : gMi l yX5_pitchAt cX5_pitchAt 4 .int D cI cZ sz [(aT0, .inr (5, [.ref aT1, .ref aT2, .ref aT3, .int (nI nt), .int st, .int wt])), (aT1, .inl (cI, 8, .inl (aI tc))), (aT2, .inl (cI, 8, .inl (aI ts))), (aT3, .inl (cI, 8, .inl rp))] [.ref aT0, .int (nI k), .int (nI sz9)] ({ frames := 1, cells := 0, slots := 0, locals := 22 } : Room) (fun (r : Int32) (u : Int32 × Nat × (Nat → Nat) × (Nat → Nat) × Int32) => r = u.1 ∧ (((nt = 8 ∨ ∃ p, fst tc nt k = some p) ∧ u.1 = -1 ∧ u.2.1 = nt ∧ u.2.2.1 = tc ∧ u.2.2.2.1 = ts ∧ u.2.2.2.2 = st) ∨ (nt < 8 ∧ fst tc nt k = none ∧ u.1 = nI nt ∧ u.2.1 = nt + 1 ∧ u.2.2.1 = va_up tc nt k ∧ u.2.2.2.1 = va_up ts nt sz9 ∧ u.2.2.2.2 = bset st nt))) (fun (u : Int32 × Nat × (Nat → Nat) × (Nat → Nat) × Int32) => [(aT0, .inr (5, [.ref aT1, .ref aT2, .ref aT3, .int (nI u.2.1), .int u.2.2.2.2, .int wt])), (aT1, .inl (cI, 8, .inl (aI u.2.2.1))), (aT2, .inl (cI, 8, .inl (aI u.2.2.2.1))), (aT3, .inl (cI, 8, .inl rp))]) 0 0 := by
  refine gM_ofi (by decide +kernel) (Nat.le_of_ble_eq_true rfl) ?_
  intro pg ev s mi below meth co A hx hb hr hml hts hown hlocks hname hA hsz hAe hP hK hD hE hS ls hl
  have hl : lv_has ls 4 [(0, .ref aT0), (1, .int (nI k)), (2, .int (nI sz9))] := hl
  generalize hQ : MQ below _ _ s _ _ A = Q
  refine lv_aload_n (pc := 0) hx hb dX5_pitchAt_0 rfl (lv_at hl 0 rfl) ?_
  refine gf_X5_21 (pc := 1) hx hb hts hown hK hP 0 rfl rfl dX5_pitchAt_1 ?_
  refine lv_bipush (pc := 4) (v := nI 8) hx hb dX5_pitchAt_4 (by decide) ?_
  refine g_icmp_geN (pc := 6) (tgt := 17) hx hb dX5_pitchAt_6 (by decide) (by omega) (by omega) (fun c_6 => ?_) (fun c_6 => ?_)
  · refine lv_iconst (pc := 17) (v := -1) hx hb dX5_pitchAt_17 (by decide) ?_
    rw [← hQ]
    exact g_iret hx hb hr hlocks hS dX5_pitchAt_18 ((-1), nt, tc, ts, st) (⟨rfl, by exact Or.inl ⟨by first | exact Or.inl (by omega) | exact Or.inr ⟨_, by assumption⟩, rfl, rfl, rfl, rfl, rfl⟩⟩) hP hD
  · refine lv_aload_n (pc := 9) hx hb dX5_pitchAt_9 rfl (lv_at hl 0 rfl) ?_
    refine lv_iload_n (pc := 10) hx hb dX5_pitchAt_10 rfl (lv_at hl 1 rfl) ?_
    refine g_vi (pc := 11) (As := [.int (nI k)]) (rest := []) (wc := [(aT0, .inr (5, [.ref aT1, .ref aT2, .ref aT3, .int (nI nt), .int st, .int wt])), (aT1, .inl (cI, 8, .inl (aI tc))), (aT2, .inl (cI, 8, .inl (aI ts))), (aT3, .inl (cI, 8, .inl rp))]) (wr := []) lk_X5_25 hx hb hml hts hown hE hA hK hP hD hS hl (c_X5_findAt l D cI cZ _ aT0 aT1 aT2 aT3 nt tc ts rp st wt k (show nt ≤ 8 from by first | assumption | omega) (show ∀ j9, j9 < 8 → tc j9 < 100 from by first | assumption | omega) (show k < 100 from by first | assumption | omega)) rfl rfl dX5_pitchAt_11 [0, 1, 2, 3] [] rfl rfl (by decide) (by decide) (by decide) rfl rfl ⟨rfl, rfl, Nat.le_of_ble_eq_true rfl, Nat.le_of_ble_eq_true rfl, Nat.le_refl _, Nat.le_refl _⟩ (Nat.le_of_ble_eq_true rfl) (fun r u H locs hw hP hD hS => ?_)
    have hP : va_P D vwCl [(aT0, .inr (5, [.ref aT1, .ref aT2, .ref aT3, .int (nI nt), .int st, .int wt])), (aT1, .inl (cI, 8, .inl (aI tc))), (aT2, .inl (cI, 8, .inl (aI ts))), (aT3, .inl (cI, 8, .inl rp))] H := hP
    have hD : va_D A [(aT0, .inr (5, [.ref aT1, .ref aT2, .ref aT3, .int (nI nt), .int st, .int wt])), (aT1, .inl (cI, 8, .inl (aI tc))), (aT2, .inl (cI, 8, .inl (aI ts))), (aT3, .inl (cI, 8, .inl rp))] := hD
    have hw : r = (oI (fst tc nt k)) := hw
    obtain rfl := hw
    rcases ho : fst tc nt k with _ | op
    · refine g_top (w := .int (-1)) rfl ?_
      refine lv_if_lt (pc := 14) (tgt := 19) hx hb dX5_pitchAt_14 (by decide) (fun c_14 => ?_) (fun c_14 => ?_)
      · refine lv_aload_n (pc := 19) hx hb dX5_pitchAt_19 rfl (lv_at hl 0 rfl) ?_
        refine gf_X5_21 (pc := 20) hx hb hts hown hK hP 0 rfl rfl dX5_pitchAt_20 ?_
        refine lv_istore_n (pc := 23) (lv' := [(3, .int (nI nt)), (0, .ref aT0), (1, .int (nI k)), (2, .int (nI sz9))]) hx hb dX5_pitchAt_23 rfl hl (by decide) rfl (fun ls hl => ?_)
        refine lv_aload_n (pc := 24) hx hb dX5_pitchAt_24 rfl (lv_at hl 1 rfl) ?_
        refine gf_X5_9 (pc := 25) hx hb hts hown hK hP 0 rfl rfl dX5_pitchAt_25 ?_
        refine lv_iload_n (pc := 28) hx hb dX5_pitchAt_28 rfl (lv_at hl 0 rfl) ?_
        refine lv_iload_n (pc := 29) hx hb dX5_pitchAt_29 rfl (lv_at hl 2 rfl) ?_
        refine g_iast (pc := 30) (g := aI (va_up tc nt k)) (w2 := [(aT0, .inr (5, [.ref aT1, .ref aT2, .ref aT3, .int (nI nt), .int st, .int wt])), (aT1, .inl (cI, 8, .inl (aI (va_up tc nt k)))), (aT2, .inl (cI, 8, .inl (aI ts))), (aT3, .inl (cI, 8, .inl rp))]) hx hb hK hP hD hS 1 0 rfl rfl dX5_pitchAt_30 rfl (by first | assumption | omega) (by decide) (aI_up _ _ _) (fun H locs hP hD hS => ?_)
        refine lv_aload_n (pc := 31) hx hb dX5_pitchAt_31 rfl (lv_at hl 1 rfl) ?_
        refine gf_X5_15 (pc := 32) hx hb hts hown hK hP 0 rfl rfl dX5_pitchAt_32 ?_
        refine lv_iload_n (pc := 35) hx hb dX5_pitchAt_35 rfl (lv_at hl 0 rfl) ?_
        refine lv_iload_n (pc := 36) hx hb dX5_pitchAt_36 rfl (lv_at hl 3 rfl) ?_
        refine g_iast (pc := 37) (g := aI (va_up ts nt sz9)) (w2 := [(aT0, .inr (5, [.ref aT1, .ref aT2, .ref aT3, .int (nI nt), .int st, .int wt])), (aT1, .inl (cI, 8, .inl (aI (va_up tc nt k)))), (aT2, .inl (cI, 8, .inl (aI (va_up ts nt sz9)))), (aT3, .inl (cI, 8, .inl rp))]) hx hb hK hP hD hS 2 0 rfl rfl dX5_pitchAt_37 rfl (by first | assumption | omega) (by decide) (aI_up _ _ _) (fun H locs hP hD hS => ?_)
        refine lv_aload_n (pc := 38) hx hb dX5_pitchAt_38 rfl (lv_at hl 1 rfl) ?_
        refine lv_dup (pc := 39) hx hb dX5_pitchAt_39 rfl ?_
        refine gf_X5_29 (pc := 40) hx hb hts hown hK hP 0 rfl rfl dX5_pitchAt_40 ?_
        refine lv_iconst (pc := 43) hx hb dX5_pitchAt_43 gk_1 ?_
        refine lv_iload_n (pc := 44) hx hb dX5_pitchAt_44 rfl (lv_at hl 0 rfl) ?_
        refine lv_ishl (pc := 45) hx hb dX5_pitchAt_45 ?_
        refine g_top (pc := 46) (w := .int (bone nt)) rfl ?_
        refine lv_ior (pc := 46) hx hb dX5_pitchAt_46 ?_
        refine g_top (pc := 47) (w := .int (bset st nt)) rfl ?_
        refine gp_X5_29 (pc := 47) (w2 := [(aT0, .inr (5, [.ref aT1, .ref aT2, .ref aT3, .int (nI nt), .int (bset st nt), .int wt])), (aT1, .inl (cI, 8, .inl (aI (va_up tc nt k)))), (aT2, .inl (cI, 8, .inl (aI (va_up ts nt sz9)))), (aT3, .inl (cI, 8, .inl rp))]) hx hb hts hown hK hP hD hS 0 rfl rfl rfl rfl (Nat.le_of_ble_eq_true rfl) dX5_pitchAt_47 (fun H locs hP hD hS => ?_)
        refine lv_aload_n (pc := 50) hx hb dX5_pitchAt_50 rfl (lv_at hl 1 rfl) ?_
        refine lv_dup (pc := 51) hx hb dX5_pitchAt_51 rfl ?_
        refine gf_X5_21 (pc := 52) hx hb hts hown hK hP 0 rfl rfl dX5_pitchAt_52 ?_
        refine lv_iconst (pc := 55) hx hb dX5_pitchAt_55 gk_1 ?_
        refine g_iadd (pc := 56) hx hb dX5_pitchAt_56 (nI_add _ _) ?_
        refine gp_X5_21 (pc := 57) (w2 := [(aT0, .inr (5, [.ref aT1, .ref aT2, .ref aT3, .int (nI (nt + 1)), .int (bset st nt), .int wt])), (aT1, .inl (cI, 8, .inl (aI (va_up tc nt k)))), (aT2, .inl (cI, 8, .inl (aI (va_up ts nt sz9)))), (aT3, .inl (cI, 8, .inl rp))]) hx hb hts hown hK hP hD hS 0 rfl rfl rfl rfl (Nat.le_of_ble_eq_true rfl) dX5_pitchAt_57 (fun H locs hP hD hS => ?_)
        refine lv_iload_n (pc := 60) hx hb dX5_pitchAt_60 rfl (lv_at hl 0 rfl) ?_
        rw [← hQ]
        exact g_iret hx hb hr hlocks hS dX5_pitchAt_61 (nI nt, nt + 1, va_up tc nt k, va_up ts nt sz9, bset st nt) (⟨rfl, by exact Or.inr ⟨by omega, by assumption, rfl, rfl, rfl, rfl, rfl⟩⟩) hP hD
      · exact absurd (by decide) c_14
    · refine g_top (w := .int (nI op)) rfl ?_
      refine g_if_ltN (pc := 14) (tgt := 19) hx hb dX5_pitchAt_14 (by decide) (by have := (fst_lt ho).1; omega) ?_
      refine lv_iconst (pc := 17) (v := -1) hx hb dX5_pitchAt_17 (by decide) ?_
      rw [← hQ]
      exact g_iret hx hb hr hlocks hS dX5_pitchAt_18 ((-1), nt, tc, ts, st) (⟨rfl, by exact Or.inl ⟨by first | exact Or.inl (by omega) | exact Or.inr ⟨_, by assumption⟩, rfl, rfl, rfl, rfl, rfl⟩⟩) hP hD
