theorem inR_tr {v lo hi : Int32} : (inR v lo hi = true) = (lo.toInt ≤ v.toInt ∧ v.toInt ≤ hi.toInt) := by
  unfold inR
  rw [Bool.and_eq_true, decide_eq_true_eq, decide_eq_true_eq, Int32.le_iff_toInt_le, Int32.le_iff_toInt_le]
theorem inR_f {v lo hi : Int32} : (inR v lo hi = false) = (v.toInt < lo.toInt ∨ hi.toInt < v.toInt) := by
  rw [← Bool.not_eq_true, inR_tr]
  exact propext (by omega)
theorem k9_0 : (nI 0).toInt = 0 := nI_toInt (by decide)
theorem k9_1 : (nI 1).toInt = 1 := nI_toInt (by decide)
theorem k9_2 : (nI 2).toInt = 2 := nI_toInt (by decide)
theorem k9_3 : (nI 3).toInt = 3 := nI_toInt (by decide)
theorem k9_4 : (nI 4).toInt = 4 := nI_toInt (by decide)
theorem k9_6 : (nI 6).toInt = 6 := nI_toInt (by decide)
theorem k9_7 : (nI 7).toInt = 7 := nI_toInt (by decide)
theorem k9_8 : (nI 8).toInt = 8 := nI_toInt (by decide)
theorem k9_9 : (nI 9).toInt = 9 := nI_toInt (by decide)
theorem k9_10 : (nI 10).toInt = 10 := nI_toInt (by decide)
theorem k9_15 : (nI 15).toInt = 15 := nI_toInt (by decide)
theorem k9_16 : (nI 16).toInt = 16 := nI_toInt (by decide)
theorem k9_29 : (nI 29).toInt = 29 := nI_toInt (by decide)
theorem k9_30 : (nI 30).toInt = 30 := nI_toInt (by decide)
theorem k9_99 : (nI 99).toInt = 99 := nI_toInt (by decide)
theorem k9_100 : (nI 100).toInt = 100 := nI_toInt (by decide)
theorem k9_z : (0 : Int32).toInt = 0 := by decide
theorem isT_tr {v : Int32} : (isT v = true) = (0 ≤ v.toInt ∧ v.toInt < 10) := by
  unfold isT
  rw [Bool.and_eq_true, decide_eq_true_eq, decide_eq_true_eq, Int32.le_iff_toInt_le, Int32.lt_iff_toInt_lt, k9_z, k9_10]
theorem isT_f {v : Int32} : (isT v = false) = (v.toInt < 0 ∨ 10 ≤ v.toInt) := by
  rw [← Bool.not_eq_true, isT_tr]
  exact propext (by omega)
theorem isT_nI {k : Nat} (h : k < 10) : isT (nI k) = true := by
  rw [isT_tr, nI_toInt (by omega)]
  omega
theorem onS_nI {x y : Nat} (hx : x < 10) (hy : y < 10) : (isT (nI x) && isT (nI y)) = true := by rw [isT_nI hx, isT_nI hy]; rfl
/-- what ground(), peg(), tent(), count() tell -/
def grdF (h f : Nat → Nat) (d : Nat → Bool) (np : Nat) (pc : Nat → Nat) (nt : Nat) (tc : Nat → Nat) (wh k : Nat) : Int32 := if wh = 0 then nI (h k) else if wh = 1 then nI (f k) else if wh = 2 then bI (d k) else if wh = 3 then oI (fst pc np k) else oI (fst tc nt k)
def pegF (f pc : Nat → Nat) (inn : Int32) (nt : Nat) (rp : Nat → Int32) (wh k : Nat) : Int32 := if wh = 0 then nI (pc k % 10) else if wh = 1 then nI (pc k / 10) else if wh = 2 then bI (bt inn k) else if wh = 3 then (if bt inn k = true then nI (4 * f (pc k)) else nI 0) else nI (fb_ct (fun t => bt (rp t) k) nt)
def tntF (inn : Int32) (tc ts : Nat → Nat) (rp : Nat → Int32) (st wt : Int32) (wh t : Nat) : Int32 := if wh = 0 then nI (tc t % 10) else if wh = 1 then nI (tc t / 10) else if wh = 2 then nI (ts t) else if wh = 3 then bI (bt st t) else if wh = 4 then bI (bt wt t) else if wh = 5 then nI (pop (rp t)) else nI (pop (rp t &&& inn))
def cntF (ng : Nat) (d : Nat → Bool) (np : Nat) (inn : Int32) (nt : Nat) (rp : Nat → Int32) (st wt : Int32) (wh : Nat) : Int32 := if wh = 0 then nI ng else if wh = 1 then nI np else if wh = 2 then nI (pop inn) else if wh = 3 then nI nt else if wh = 4 then nI (pop st) else if wh = 5 then nI (nt - pop wt) else if wh = 6 then nI (ropeSum rp nt) else nI (fb_ct d 100)

set_option maxHeartbeats 4000000 in
set_option maxRecDepth 100000 in
theorem c_X6_needCell (l : Launch) (D : va_G) (cI cZ : ClassId) (sz : Nat) (x : Nat) (y : Nat) (hx9 : x < 10) (hy9 : y < 10) : gMi l yX6_needCell cX6_needCell 2 .int D cI cZ sz [] [.int (nI x), .int (nI y)] ({ frames := 1, cells := 0, slots := 0, locals := 21 } : Room) (fun (r : Int32) (_ : Unit) => r = nI (10 * y + x)) (fun (_ : Unit) => []) 0 0 := by
  refine gM_ofi (by decide +kernel) (Nat.le_of_ble_eq_true rfl) ?_
  intro pg ev s mi below meth co A hx hb hr hml hts hown hlocks hname hA hsz hAe hP hK hD hE hS ls hl
  have hl : lv_has ls 2 [(0, .int (nI x)), (1, .int (nI y))] := hl
  generalize hQ : MQ below _ _ s _ _ A = Q
  refine lv_iload_n (pc := 0) hx hb dX6_needCell_0 rfl (lv_at hl 0 rfl) ?_
  refine lv_iload_n (pc := 1) hx hb dX6_needCell_1 rfl (lv_at hl 1 rfl) ?_
  refine g_si (pc := 2) (As := [.int (nI x), .int (nI y)]) (rest := []) (wc := []) (wr := []) lk_X6_267 hx hb hml hts hown hE hA hK hP hD hS hl (c_X6_isOnSlope l D cI cZ _ (nI x) (nI y)) dX6_needCell_2 [] [] rfl rfl (by decide) (by decide) (by decide) rfl rfl ⟨rfl, rfl, Nat.le_of_ble_eq_true rfl, Nat.le_of_ble_eq_true rfl, Nat.le_refl _, Nat.le_refl _⟩ (Nat.le_of_ble_eq_true rfl) (fun r u H locs hw hP hD hS => ?_)
  have hP : va_P D vwCl [] H := hP
  have hD : va_D A [] := hD
  have hw : r = bI (isT (nI x) && isT (nI y)) := hw
  obtain rfl := hw
  refine g_top (pc := 5) (w := .int (bI true)) (congrArg Value.int (congrArg bI (onS_nI hx9 hy9))) ?_
  refine g_if_neB (pc := 5) (tgt := 19) hx hb dX6_needCell_5 (by decide) (fun c_5 => ?_) (fun c_5 => ?_)
  · refine lv_bipush (pc := 19) (v := nI 10) hx hb dX6_needCell_19 (by decide) ?_
    refine lv_iload_n (pc := 21) hx hb dX6_needCell_21 rfl (lv_at hl 1 rfl) ?_
    refine g_imul (pc := 22) hx hb dX6_needCell_22 (pk_mul _ _) ?_
    refine lv_iload_n (pc := 23) hx hb dX6_needCell_23 rfl (lv_at hl 0 rfl) ?_
    refine g_iadd (pc := 24) hx hb dX6_needCell_24 (nI_add _ _) ?_
    rw [← hQ]
    exact g_iret hx hb hr hlocks hS dX6_needCell_25 () (rfl) hP hD
  · cases c_5
set_option maxHeartbeats 4000000 in
set_option maxRecDepth 100000 in
theorem c_X6_needCell_x (l : Launch) (hl9 : l.stackTraces = false) (D : va_G) (cI cZ : ClassId) (sz : Nat) (x : Int32) (y : Int32) (hbad : (isT x && isT y) = false) : gMx l yX6_needCell cX6_needCell 2 (some .int) D cI cZ sz [] [.int x, .int y] ({ frames := 6, cells := 1, slots := 6, locals := 100 } : Room) EIO := by
  refine gMx_of (by decide +kernel) (Nat.le_of_ble_eq_true rfl) ?_
  intro pg ev s mi below meth co A hx hb hr hml hts hown hlocks hname hA hsz hAe hP hK hD hE hX hT9 hS ls hl
  have hl : lv_has ls 2 [(0, .int x), (1, .int y)] := hl
  generalize hQ : vx_MQ below _ _ _ s _ _ A = Q
  refine lv_iload_n (pc := 0) hx hb dX6_needCell_0 rfl (lv_at hl 0 rfl) ?_
  refine lv_iload_n (pc := 1) hx hb dX6_needCell_1 rfl (lv_at hl 1 rfl) ?_
  refine g_si (pc := 2) (As := [.int x, .int y]) (rest := []) (wc := []) (wr := []) lk_X6_267 hx hb hml hts hown hE hA hK hP hD hS hl (c_X6_isOnSlope l D cI cZ _ x y) dX6_needCell_2 [] [] rfl rfl (by decide) (by decide) (by decide) rfl rfl ⟨rfl, rfl, Nat.le_of_ble_eq_true rfl, Nat.le_of_ble_eq_true rfl, Nat.le_of_ble_eq_true rfl, Nat.le_of_ble_eq_true rfl⟩ (Nat.le_of_ble_eq_true rfl) (fun r u H locs hw hP hD hS => ?_)
  have hP : va_P D vwCl [] H := hP
  have hD : va_D A [] := hD
  have hw : r = bI (isT x && isT y) := hw
  obtain rfl := hw
  refine g_if_neB (pc := 5) (tgt := 19) hx hb dX6_needCell_5 (by decide) (fun c_5 => ?_) (fun c_5 => ?_)
  · exfalso; rw [hbad] at c_5; cases c_5
  · rw [← hQ]
    exact g_xthrW (pc := 8) (rest := []) hx hb hl9 hts hX hown (by decide +kernel) (gm1 227 rfl rfl) (gm1 13 rfl rfl) (by decide +kernel : ((270 : Nat), "x or y is not 0 to 9") ∈ gXS) at_IO_55 an_IO_55 (ag_IO_55 51) dX6_needCell_8 dX6_needCell_11 dX6_needCell_12 dX6_needCell_15 dX6_needCell_18 hS hP hD (hl.1.trans hml.symm) hT9 hlocks ⟨Nat.le_of_ble_eq_true rfl, Nat.le_of_ble_eq_true rfl, Nat.le_of_ble_eq_true rfl, Nat.le_of_ble_eq_true rfl⟩ (Nat.le_of_ble_eq_true rfl) (Nat.le_of_ble_eq_true rfl)
set_option maxHeartbeats 4000000 in
set_option maxRecDepth 100000 in
theorem c_X6_needPeg (l : Launch) (D : va_G) (cI cZ : ClassId) (sz : Nat) (aM aC aP0 aP1 aN0 aCx aS0 aT0 aG0 : Nat) (ng : Nat) (np : Nat) (pc : Nat → Nat) (inn : Int32) (k : Nat) (hnp : np ≤ 16) (hk : k < np) : gMv l yX6_needPeg cX6_needPeg 2 D cI cZ sz [(aM, .inr (6, [.ref aN0, .ref aC, .ref aCx])), (aC, .inr (0, [.ref aS0, .ref aP0, .ref aT0, .ref aG0, .int (nI ng)])), (aP0, .inr (2, [.ref aP1, .int (nI np), .int inn])), (aP1, .inl (cI, 16, .inl (aI pc)))] [.ref aM, .int (nI k)] ({ frames := 0, cells := 0, slots := 0, locals := 0 } : Room) (fun (_ : Unit) => True) (fun (_ : Unit) => [(aM, .inr (6, [.ref aN0, .ref aC, .ref aCx])), (aC, .inr (0, [.ref aS0, .ref aP0, .ref aT0, .ref aG0, .int (nI ng)])), (aP0, .inr (2, [.ref aP1, .int (nI np), .int inn])), (aP1, .inl (cI, 16, .inl (aI pc)))]) 0 0 := by
  refine gM_ofv (by decide +kernel) (Nat.le_of_ble_eq_true rfl) ?_
  intro pg ev s mi below meth co A hx hb hr hml hts hown hlocks hname hA hsz hAe hP hK hD hE hS ls hl
  have hl : lv_has ls 2 [(0, .ref aM), (1, .int (nI k))] := hl
  generalize hQ : MQ below _ _ s _ _ A = Q
  refine lv_iload_n (pc := 0) hx hb dX6_needPeg_0 rfl (lv_at hl 1 rfl) ?_
  refine g_if_ltN (pc := 1) (tgt := 18) hx hb dX6_needPeg_1 (by decide) (by omega) ?_
  refine lv_iload_n (pc := 4) hx hb dX6_needPeg_4 rfl (lv_at hl 1 rfl) ?_
  refine lv_aload_n (pc := 5) hx hb dX6_needPeg_5 rfl (lv_at hl 0 rfl) ?_
  refine gf_X6_19 (pc := 6) hx hb hts hown hK hP 0 rfl rfl dX6_needPeg_6 ?_
  refine gf_X6_78 (pc := 9) hx hb hts hown hK hP 1 rfl rfl dX6_needPeg_9 ?_
  refine gf_X6_172 (pc := 12) hx hb hts hown hK hP 2 rfl rfl dX6_needPeg_12 ?_
  refine g_icmp_ltN (pc := 15) (tgt := 29) hx hb dX6_needPeg_15 (by decide) (by omega) (by omega) (fun c_15 => ?_) (fun c_15 => ?_)
  · rw [← hQ]
    exact g_vret hx hb hr hlocks hS dX6_needPeg_29 () (trivial) hP hD
  · exfalso; first | omega | (simp only [inR_f, isT_f, Bool.and_eq_false_iff, Bool.and_eq_true, inR_tr, isT_tr, Int32.lt_iff_toInt_lt, Int32.le_iff_toInt_le, k9_z, k9_0, k9_1, k9_2, k9_3, k9_4, k9_6, k9_7, k9_8, k9_9, k9_10, k9_15, k9_16, k9_29, k9_30, k9_99, k9_100] at c_15 <;> omega)
set_option maxHeartbeats 4000000 in
set_option maxRecDepth 100000 in
theorem c_X6_needPeg_x (l : Launch) (hl9 : l.stackTraces = false) (D : va_G) (cI cZ : ClassId) (sz : Nat) (aM aC aP0 aP1 aN0 aCx aS0 aT0 aG0 : Nat) (ng : Nat) (np : Nat) (pc : Nat → Nat) (inn : Int32) (x : Int32) (hnp : np ≤ 16) (hbad : x.toInt < 0 ∨ (np : Int) ≤ x.toInt) : gMx l yX6_needPeg cX6_needPeg 2 none D cI cZ sz [(aM, .inr (6, [.ref aN0, .ref aC, .ref aCx])), (aC, .inr (0, [.ref aS0, .ref aP0, .ref aT0, .ref aG0, .int (nI ng)])), (aP0, .inr (2, [.ref aP1, .int (nI np), .int inn])), (aP1, .inl (cI, 16, .inl (aI pc)))] [.ref aM, .int x] ({ frames := 6, cells := 1, slots := 6, locals := 100 } : Room) EIO := by
  refine gMx_of (by decide +kernel) (Nat.le_of_ble_eq_true rfl) ?_
  intro pg ev s mi below meth co A hx hb hr hml hts hown hlocks hname hA hsz hAe hP hK hD hE hX hT9 hS ls hl
  have hl : lv_has ls 2 [(0, .ref aM), (1, .int x)] := hl
  generalize hQ : vx_MQ below _ _ _ s _ _ A = Q
  have hnp9 : (nI np).toInt = (np : Int) := nI_toInt (by omega)
  refine lv_iload_n (pc := 0) hx hb dX6_needPeg_0 rfl (lv_at hl 1 rfl) ?_
  refine lv_if_lt (pc := 1) (tgt := 18) hx hb dX6_needPeg_1 (by decide) (fun c_1 => ?_) (fun c_1 => ?_)
  · rw [← hQ]
    exact g_xthrW (pc := 18) (rest := []) hx hb hl9 hts hX hown (by decide +kernel) (gm1 227 rfl rfl) (gm1 13 rfl rfl) (by decide +kernel : ((272 : Nat), "there is no such peg") ∈ gXS) at_IO_55 an_IO_55 (ag_IO_55 51) dX6_needPeg_18 dX6_needPeg_21 dX6_needPeg_22 dX6_needPeg_25 dX6_needPeg_28 hS hP hD (hl.1.trans hml.symm) hT9 hlocks ⟨Nat.le_of_ble_eq_true rfl, Nat.le_of_ble_eq_true rfl, Nat.le_of_ble_eq_true rfl, Nat.le_of_ble_eq_true rfl⟩ (Nat.le_of_ble_eq_true rfl) (Nat.le_of_ble_eq_true rfl)
  · refine lv_iload_n (pc := 4) hx hb dX6_needPeg_4 rfl (lv_at hl 1 rfl) ?_
    refine lv_aload_n (pc := 5) hx hb dX6_needPeg_5 rfl (lv_at hl 0 rfl) ?_
    refine gf_X6_19 (pc := 6) hx hb hts hown hK hP 0 rfl rfl dX6_needPeg_6 ?_
    refine gf_X6_78 (pc := 9) hx hb hts hown hK hP 1 rfl rfl dX6_needPeg_9 ?_
    refine gf_X6_172 (pc := 12) hx hb hts hown hK hP 2 rfl rfl dX6_needPeg_12 ?_
    refine lv_icmp_lt (pc := 15) (tgt := 29) hx hb dX6_needPeg_15 (by decide) (fun c_15 => ?_) (fun c_15 => ?_)
    · exfalso; first | omega | (simp only [inR_f, isT_f, Bool.and_eq_false_iff, Bool.and_eq_true, inR_tr, isT_tr, Int32.lt_iff_toInt_lt, Int32.le_iff_toInt_le, k9_z, k9_0, k9_1, k9_2, k9_3, k9_4, k9_6, k9_7, k9_8, k9_9, k9_10, k9_15, k9_16, k9_29, k9_30, k9_99, k9_100, hnp9] at hbad c_1 c_15 <;> omega)
    · rw [← hQ]
      exact g_xthrW (pc := 18) (rest := []) hx hb hl9 hts hX hown (by decide +kernel) (gm1 227 rfl rfl) (gm1 13 rfl rfl) (by decide +kernel : ((272 : Nat), "there is no such peg") ∈ gXS) at_IO_55 an_IO_55 (ag_IO_55 51) dX6_needPeg_18 dX6_needPeg_21 dX6_needPeg_22 dX6_needPeg_25 dX6_needPeg_28 hS hP hD (hl.1.trans hml.symm) hT9 hlocks ⟨Nat.le_of_ble_eq_true rfl, Nat.le_of_ble_eq_true rfl, Nat.le_of_ble_eq_true rfl, Nat.le_of_ble_eq_true rfl⟩ (Nat.le_of_ble_eq_true rfl) (Nat.le_of_ble_eq_true rfl)
set_option maxHeartbeats 4000000 in
set_option maxRecDepth 100000 in
theorem c_X6_needTent (l : Launch) (D : va_G) (cI cZ : ClassId) (sz : Nat) (aM aC aT0 aT1 aT2 aT3 aN0 aCx aS0 aP0 aG0 : Nat) (ng : Nat) (nt : Nat) (tc : Nat → Nat) (ts : Nat → Nat) (rp : Nat → Int32) (st : Int32) (wt : Int32) (t : Nat) (hnt : nt ≤ 8) (ht : t < nt) : gMv l yX6_needTent cX6_needTent 2 D cI cZ sz [(aM, .inr (6, [.ref aN0, .ref aC, .ref aCx])), (aC, .inr (0, [.ref aS0, .ref aP0, .ref aT0, .ref aG0, .int (nI ng)])), (aT0, .inr (5, [.ref aT1, .ref aT2, .ref aT3, .int (nI nt), .int st, .int wt])), (aT1, .inl (cI, 8, .inl (aI tc))), (aT2, .inl (cI, 8, .inl (aI ts))), (aT3, .inl (cI, 8, .inl rp))] [.ref aM, .int (nI t)] ({ frames := 0, cells := 0, slots := 0, locals := 0 } : Room) (fun (_ : Unit) => True) (fun (_ : Unit) => [(aM, .inr (6, [.ref aN0, .ref aC, .ref aCx])), (aC, .inr (0, [.ref aS0, .ref aP0, .ref aT0, .ref aG0, .int (nI ng)])), (aT0, .inr (5, [.ref aT1, .ref aT2, .ref aT3, .int (nI nt), .int st, .int wt])), (aT1, .inl (cI, 8, .inl (aI tc))), (aT2, .inl (cI, 8, .inl (aI ts))), (aT3, .inl (cI, 8, .inl rp))]) 0 0 := by
  refine gM_ofv (by decide +kernel) (Nat.le_of_ble_eq_true rfl) ?_
  intro pg ev s mi below meth co A hx hb hr hml hts hown hlocks hname hA hsz hAe hP hK hD hE hS ls hl
  have hl : lv_has ls 2 [(0, .ref aM), (1, .int (nI t))] := hl
  generalize hQ : MQ below _ _ s _ _ A = Q
  refine lv_iload_n (pc := 0) hx hb dX6_needTent_0 rfl (lv_at hl 1 rfl) ?_
  refine g_if_ltN (pc := 1) (tgt := 18) hx hb dX6_needTent_1 (by decide) (by omega) ?_
  refine lv_iload_n (pc := 4) hx hb dX6_needTent_4 rfl (lv_at hl 1 rfl) ?_
  refine lv_aload_n (pc := 5) hx hb dX6_needTent_5 rfl (lv_at hl 0 rfl) ?_
  refine gf_X6_19 (pc := 6) hx hb hts hown hK hP 0 rfl rfl dX6_needTent_6 ?_
  refine gf_X6_110 (pc := 9) hx hb hts hown hK hP 1 rfl rfl dX6_needTent_9 ?_
  refine gf_X6_180 (pc := 12) hx hb hts hown hK hP 2 rfl rfl dX6_needTent_12 ?_
  refine g_icmp_ltN (pc := 15) (tgt := 29) hx hb dX6_needTent_15 (by decide) (by omega) (by omega) (fun c_15 => ?_) (fun c_15 => ?_)
  · rw [← hQ]
    exact g_vret hx hb hr hlocks hS dX6_needTent_29 () (trivial) hP hD
  · exfalso; first | omega | (simp only [inR_f, isT_f, Bool.and_eq_false_iff, Bool.and_eq_true, inR_tr, isT_tr, Int32.lt_iff_toInt_lt, Int32.le_iff_toInt_le, k9_z, k9_0, k9_1, k9_2, k9_3, k9_4, k9_6, k9_7, k9_8, k9_9, k9_10, k9_15, k9_16, k9_29, k9_30, k9_99, k9_100] at c_15 <;> omega)
set_option maxHeartbeats 4000000 in
set_option maxRecDepth 100000 in
theorem c_X6_needTent_x (l : Launch) (hl9 : l.stackTraces = false) (D : va_G) (cI cZ : ClassId) (sz : Nat) (aM aC aT0 aT1 aT2 aT3 aN0 aCx aS0 aP0 aG0 : Nat) (ng : Nat) (nt : Nat) (tc : Nat → Nat) (ts : Nat → Nat) (rp : Nat → Int32) (st : Int32) (wt : Int32) (x : Int32) (hnt : nt ≤ 8) (hbad : x.toInt < 0 ∨ (nt : Int) ≤ x.toInt) : gMx l yX6_needTent cX6_needTent 2 none D cI cZ sz [(aM, .inr (6, [.ref aN0, .ref aC, .ref aCx])), (aC, .inr (0, [.ref aS0, .ref aP0, .ref aT0, .ref aG0, .int (nI ng)])), (aT0, .inr (5, [.ref aT1, .ref aT2, .ref aT3, .int (nI nt), .int st, .int wt])), (aT1, .inl (cI, 8, .inl (aI tc))), (aT2, .inl (cI, 8, .inl (aI ts))), (aT3, .inl (cI, 8, .inl rp))] [.ref aM, .int x] ({ frames := 6, cells := 1, slots := 6, locals := 100 } : Room) EIO := by
  refine gMx_of (by decide +kernel) (Nat.le_of_ble_eq_true rfl) ?_
  intro pg ev s mi below meth co A hx hb hr hml hts hown hlocks hname hA hsz hAe hP hK hD hE hX hT9 hS ls hl
  have hl : lv_has ls 2 [(0, .ref aM), (1, .int x)] := hl
  generalize hQ : vx_MQ below _ _ _ s _ _ A = Q
  have hnt9 : (nI nt).toInt = (nt : Int) := nI_toInt (by omega)
  refine lv_iload_n (pc := 0) hx hb dX6_needTent_0 rfl (lv_at hl 1 rfl) ?_
  refine lv_if_lt (pc := 1) (tgt := 18) hx hb dX6_needTent_1 (by decide) (fun c_1 => ?_) (fun c_1 => ?_)
  · rw [← hQ]
    exact g_xthrW (pc := 18) (rest := []) hx hb hl9 hts hX hown (by decide +kernel) (gm1 227 rfl rfl) (gm1 13 rfl rfl) (by decide +kernel : ((274 : Nat), "there is no such tent") ∈ gXS) at_IO_55 an_IO_55 (ag_IO_55 51) dX6_needTent_18 dX6_needTent_21 dX6_needTent_22 dX6_needTent_25 dX6_needTent_28 hS hP hD (hl.1.trans hml.symm) hT9 hlocks ⟨Nat.le_of_ble_eq_true rfl, Nat.le_of_ble_eq_true rfl, Nat.le_of_ble_eq_true rfl, Nat.le_of_ble_eq_true rfl⟩ (Nat.le_of_ble_eq_true rfl) (Nat.le_of_ble_eq_true rfl)
  · refine lv_iload_n (pc := 4) hx hb dX6_needTent_4 rfl (lv_at hl 1 rfl) ?_
    refine lv_aload_n (pc := 5) hx hb dX6_needTent_5 rfl (lv_at hl 0 rfl) ?_
    refine gf_X6_19 (pc := 6) hx hb hts hown hK hP 0 rfl rfl dX6_needTent_6 ?_
    refine gf_X6_110 (pc := 9) hx hb hts hown hK hP 1 rfl rfl dX6_needTent_9 ?_
    refine gf_X6_180 (pc := 12) hx hb hts hown hK hP 2 rfl rfl dX6_needTent_12 ?_
    refine lv_icmp_lt (pc := 15) (tgt := 29) hx hb dX6_needTent_15 (by decide) (fun c_15 => ?_) (fun c_15 => ?_)
    · exfalso; first | omega | (simp only [inR_f, isT_f, Bool.and_eq_false_iff, Bool.and_eq_true, inR_tr, isT_tr, Int32.lt_iff_toInt_lt, Int32.le_iff_toInt_le, k9_z, k9_0, k9_1, k9_2, k9_3, k9_4, k9_6, k9_7, k9_8, k9_9, k9_10, k9_15, k9_16, k9_29, k9_30, k9_99, k9_100, hnt9] at hbad c_1 c_15 <;> omega)
    · rw [← hQ]
      exact g_xthrW (pc := 18) (rest := []) hx hb hl9 hts hX hown (by decide +kernel) (gm1 227 rfl rfl) (gm1 13 rfl rfl) (by decide +kernel : ((274 : Nat), "there is no such tent") ∈ gXS) at_IO_55 an_IO_55 (ag_IO_55 51) dX6_needTent_18 dX6_needTent_21 dX6_needTent_22 dX6_needTent_25 dX6_needTent_28 hS hP hD (hl.1.trans hml.symm) hT9 hlocks ⟨Nat.le_of_ble_eq_true rfl, Nat.le_of_ble_eq_true rfl, Nat.le_of_ble_eq_true rfl, Nat.le_of_ble_eq_true rfl⟩ (Nat.le_of_ble_eq_true rfl) (Nat.le_of_ble_eq_true rfl)
set_option maxHeartbeats 4000000 in
set_option maxRecDepth 100000 in
theorem c_X6_needWhat (l : Launch) (D : va_G) (cI cZ : ClassId) (sz : Nat) (wh : Nat) (mo : Nat) (hw : wh ≤ mo) (hmo : mo ≤ 10) : gMv l yX6_needWhat cX6_needWhat 2 D cI cZ sz [] [.int (nI wh), .int (nI mo)] ({ frames := 0, cells := 0, slots := 0, locals := 0 } : Room) (fun (_ : Unit) => True) (fun (_ : Unit) => []) 0 0 := by
  refine gM_ofv (by decide +kernel) (Nat.le_of_ble_eq_true rfl) ?_
  intro pg ev s mi below meth co A hx hb hr hml hts hown hlocks hname hA hsz hAe hP hK hD hE hS ls hl
  have hl : lv_has ls 2 [(0, .int (nI wh)), (1, .int (nI mo))] := hl
  generalize hQ : MQ below _ _ s _ _ A = Q
  refine lv_iload_n (pc := 0) hx hb dX6_needWhat_0 rfl (lv_at hl 0 rfl) ?_
  refine g_if_ltN (pc := 1) (tgt := 9) hx hb dX6_needWhat_1 (by decide) (by omega) ?_
  refine lv_iload_n (pc := 4) hx hb dX6_needWhat_4 rfl (lv_at hl 0 rfl) ?_
  refine lv_iload_n (pc := 5) hx hb dX6_needWhat_5 rfl (lv_at hl 1 rfl) ?_
  refine g_icmp_leN (pc := 6) (tgt := 20) hx hb dX6_needWhat_6 (by decide) (by omega) (by omega) (fun c_6 => ?_) (fun c_6 => ?_)
  · rw [← hQ]
    exact g_vret hx hb hr hlocks hS dX6_needWhat_20 () (trivial) hP hD
  · exfalso; first | omega | (simp only [inR_f, isT_f, Bool.and_eq_false_iff, Bool.and_eq_true, inR_tr, isT_tr, Int32.lt_iff_toInt_lt, Int32.le_iff_toInt_le, k9_z, k9_0, k9_1, k9_2, k9_3, k9_4, k9_6, k9_7, k9_8, k9_9, k9_10, k9_15, k9_16, k9_29, k9_30, k9_99, k9_100] at c_6 <;> omega)
set_option maxHeartbeats 4000000 in
set_option maxRecDepth 100000 in
theorem c_X6_needWhat_x (l : Launch) (hl9 : l.stackTraces = false) (D : va_G) (cI cZ : ClassId) (sz : Nat) (x : Int32) (mo : Nat) (hmo : mo ≤ 10) (hbad : inR x 0 (nI mo) = false) : gMx l yX6_needWhat cX6_needWhat 2 none D cI cZ sz [] [.int x, .int (nI mo)] ({ frames := 6, cells := 1, slots := 6, locals := 100 } : Room) EIO := by
  refine gMx_of (by decide +kernel) (Nat.le_of_ble_eq_true rfl) ?_
  intro pg ev s mi below meth co A hx hb hr hml hts hown hlocks hname hA hsz hAe hP hK hD hE hX hT9 hS ls hl
  have hl : lv_has ls 2 [(0, .int x), (1, .int (nI mo))] := hl
  generalize hQ : vx_MQ below _ _ _ s _ _ A = Q
  have hmo9 : (nI mo).toInt = (mo : Int) := nI_toInt (by omega)
  refine lv_iload_n (pc := 0) hx hb dX6_needWhat_0 rfl (lv_at hl 0 rfl) ?_
  refine lv_if_lt (pc := 1) (tgt := 9) hx hb dX6_needWhat_1 (by decide) (fun c_1 => ?_) (fun c_1 => ?_)
  · rw [← hQ]
    exact g_xthrW (pc := 9) (rest := []) hx hb hl9 hts hX hown (by decide +kernel) (gm1 227 rfl rfl) (gm1 13 rfl rfl) (by decide +kernel : ((276 : Nat), "there is no such what") ∈ gXS) at_IO_55 an_IO_55 (ag_IO_55 51) dX6_needWhat_9 dX6_needWhat_12 dX6_needWhat_13 dX6_needWhat_16 dX6_needWhat_19 hS hP hD (hl.1.trans hml.symm) hT9 hlocks ⟨Nat.le_of_ble_eq_true rfl, Nat.le_of_ble_eq_true rfl, Nat.le_of_ble_eq_true rfl, Nat.le_of_ble_eq_true rfl⟩ (Nat.le_of_ble_eq_true rfl) (Nat.le_of_ble_eq_true rfl)
  · refine lv_iload_n (pc := 4) hx hb dX6_needWhat_4 rfl (lv_at hl 0 rfl) ?_
    refine lv_iload_n (pc := 5) hx hb dX6_needWhat_5 rfl (lv_at hl 1 rfl) ?_
    refine lv_icmp_le (pc := 6) (tgt := 20) hx hb dX6_needWhat_6 (by decide) (fun c_6 => ?_) (fun c_6 => ?_)
    · exfalso; first | omega | (simp only [inR_f, isT_f, Bool.and_eq_false_iff, Bool.and_eq_true, inR_tr, isT_tr, Int32.lt_iff_toInt_lt, Int32.le_iff_toInt_le, k9_z, k9_0, k9_1, k9_2, k9_3, k9_4, k9_6, k9_7, k9_8, k9_9, k9_10, k9_15, k9_16, k9_29, k9_30, k9_99, k9_100, hmo9] at hbad c_1 c_6 <;> omega)
    · rw [← hQ]
      exact g_xthrW (pc := 9) (rest := []) hx hb hl9 hts hX hown (by decide +kernel) (gm1 227 rfl rfl) (gm1 13 rfl rfl) (by decide +kernel : ((276 : Nat), "there is no such what") ∈ gXS) at_IO_55 an_IO_55 (ag_IO_55 51) dX6_needWhat_9 dX6_needWhat_12 dX6_needWhat_13 dX6_needWhat_16 dX6_needWhat_19 hS hP hD (hl.1.trans hml.symm) hT9 hlocks ⟨Nat.le_of_ble_eq_true rfl, Nat.le_of_ble_eq_true rfl, Nat.le_of_ble_eq_true rfl, Nat.le_of_ble_eq_true rfl⟩ (Nat.le_of_ble_eq_true rfl) (Nat.le_of_ble_eq_true rfl)
set_option maxHeartbeats 4000000 in
set_option maxRecDepth 100000 in
theorem c_X6_needDirection (l : Launch) (D : va_G) (cI cZ : ClassId) (sz : Nat) (dr : Nat) (hdr : dr ≤ 3) : gMv l yX6_needDirection cX6_needDirection 1 D cI cZ sz [] [.int (nI dr)] ({ frames := 0, cells := 0, slots := 0, locals := 0 } : Room) (fun (_ : Unit) => True) (fun (_ : Unit) => []) 0 0 := by
  refine gM_ofv (by decide +kernel) (Nat.le_of_ble_eq_true rfl) ?_
  intro pg ev s mi below meth co A hx hb hr hml hts hown hlocks hname hA hsz hAe hP hK hD hE hS ls hl
  have hl : lv_has ls 1 [(0, .int (nI dr))] := hl
  generalize hQ : MQ below _ _ s _ _ A = Q
  refine lv_iload_n (pc := 0) hx hb dX6_needDirection_0 rfl (lv_at hl 0 rfl) ?_
  refine g_if_ltN (pc := 1) (tgt := 9) hx hb dX6_needDirection_1 (by decide) (by omega) ?_
  refine lv_iload_n (pc := 4) hx hb dX6_needDirection_4 rfl (lv_at hl 0 rfl) ?_
  refine lv_iconst (pc := 5) hx hb dX6_needDirection_5 gk_3 ?_
  refine g_icmp_leN (pc := 6) (tgt := 20) hx hb dX6_needDirection_6 (by decide) (by omega) (by omega) (fun c_6 => ?_) (fun c_6 => ?_)
  · rw [← hQ]
    exact g_vret hx hb hr hlocks hS dX6_needDirection_20 () (trivial) hP hD
  · exfalso; first | omega | (simp only [inR_f, isT_f, Bool.and_eq_false_iff, Bool.and_eq_true, inR_tr, isT_tr, Int32.lt_iff_toInt_lt, Int32.le_iff_toInt_le, k9_z, k9_0, k9_1, k9_2, k9_3, k9_4, k9_6, k9_7, k9_8, k9_9, k9_10, k9_15, k9_16, k9_29, k9_30, k9_99, k9_100] at c_6 <;> omega)
set_option maxHeartbeats 4000000 in
set_option maxRecDepth 100000 in
theorem c_X6_needDirection_x (l : Launch) (hl9 : l.stackTraces = false) (D : va_G) (cI cZ : ClassId) (sz : Nat) (x : Int32) (hbad : inR x 0 (nI 3) = false) : gMx l yX6_needDirection cX6_needDirection 1 none D cI cZ sz [] [.int x] ({ frames := 6, cells := 1, slots := 6, locals := 100 } : Room) EIA := by
  refine gMx_of (by decide +kernel) (Nat.le_of_ble_eq_true rfl) ?_
  intro pg ev s mi below meth co A hx hb hr hml hts hown hlocks hname hA hsz hAe hP hK hD hE hX hT9 hS ls hl
  have hl : lv_has ls 1 [(0, .int x)] := hl
  generalize hQ : vx_MQ below _ _ _ s _ _ A = Q
  refine lv_iload_n (pc := 0) hx hb dX6_needDirection_0 rfl (lv_at hl 0 rfl) ?_
  refine lv_if_lt (pc := 1) (tgt := 9) hx hb dX6_needDirection_1 (by decide) (fun c_1 => ?_) (fun c_1 => ?_)
  · rw [← hQ]
    exact g_xthrW (pc := 9) (rest := []) hx hb hl9 hts hX hown (by decide +kernel) (gm2 166 rfl rfl) (gm1 14 rfl rfl) (by decide +kernel : ((280 : Nat), "direction is not 0 to 3") ∈ gXS) at_IA_34 an_IA_34 (ag_IA_34 30) dX6_needDirection_9 dX6_needDirection_12 dX6_needDirection_13 dX6_needDirection_16 dX6_needDirection_19 hS hP hD (hl.1.trans hml.symm) hT9 hlocks ⟨Nat.le_of_ble_eq_true rfl, Nat.le_of_ble_eq_true rfl, Nat.le_of_ble_eq_true rfl, Nat.le_of_ble_eq_true rfl⟩ (Nat.le_of_ble_eq_true rfl) (Nat.le_of_ble_eq_true rfl)
  · refine lv_iload_n (pc := 4) hx hb dX6_needDirection_4 rfl (lv_at hl 0 rfl) ?_
    refine lv_iconst (pc := 5) hx hb dX6_needDirection_5 gk_3 ?_
    refine lv_icmp_le (pc := 6) (tgt := 20) hx hb dX6_needDirection_6 (by decide) (fun c_6 => ?_) (fun c_6 => ?_)
    · exfalso; first | omega | (simp only [inR_f, isT_f, Bool.and_eq_false_iff, Bool.and_eq_true, inR_tr, isT_tr, Int32.lt_iff_toInt_lt, Int32.le_iff_toInt_le, k9_z, k9_0, k9_1, k9_2, k9_3, k9_4, k9_6, k9_7, k9_8, k9_9, k9_10, k9_15, k9_16, k9_29, k9_30, k9_99, k9_100] at hbad c_1 c_6 <;> omega)
    · rw [← hQ]
      exact g_xthrW (pc := 9) (rest := []) hx hb hl9 hts hX hown (by decide +kernel) (gm2 166 rfl rfl) (gm1 14 rfl rfl) (by decide +kernel : ((280 : Nat), "direction is not 0 to 3") ∈ gXS) at_IA_34 an_IA_34 (ag_IA_34 30) dX6_needDirection_9 dX6_needDirection_12 dX6_needDirection_13 dX6_needDirection_16 dX6_needDirection_19 hS hP hD (hl.1.trans hml.symm) hT9 hlocks ⟨Nat.le_of_ble_eq_true rfl, Nat.le_of_ble_eq_true rfl, Nat.le_of_ble_eq_true rfl, Nat.le_of_ble_eq_true rfl⟩ (Nat.le_of_ble_eq_true rfl) (Nat.le_of_ble_eq_true rfl)
set_option maxHeartbeats 4000000 in
set_option maxRecDepth 100000 in
theorem c_X6_needStorm (l : Launch) (D : va_G) (cI cZ : ClassId) (sz : Nat) (fo : Nat) (dr : Nat) (hfo : fo ≤ 9) (hdr : dr ≤ 3) : gMv l yX6_needStorm cX6_needStorm 2 D cI cZ sz [] [.int (nI fo), .int (nI dr)] ({ frames := 7, cells := 0, slots := 0, locals := 120 } : Room) (fun (_ : Unit) => True) (fun (_ : Unit) => []) 0 0 := by
  refine gM_ofv (by decide +kernel) (Nat.le_of_ble_eq_true rfl) ?_
  intro pg ev s mi below meth co A hx hb hr hml hts hown hlocks hname hA hsz hAe hP hK hD hE hS ls hl
  have hl : lv_has ls 2 [(0, .int (nI fo)), (1, .int (nI dr))] := hl
  generalize hQ : MQ below _ _ s _ _ A = Q
  refine lv_iload_n (pc := 0) hx hb dX6_needStorm_0 rfl (lv_at hl 0 rfl) ?_
  refine g_if_ltN (pc := 1) (tgt := 10) hx hb dX6_needStorm_1 (by decide) (by omega) ?_
  refine lv_iload_n (pc := 4) hx hb dX6_needStorm_4 rfl (lv_at hl 0 rfl) ?_
  refine lv_bipush (pc := 5) (v := nI 9) hx hb dX6_needStorm_5 (by decide) ?_
  refine g_icmp_leN (pc := 7) (tgt := 21) hx hb dX6_needStorm_7 (by decide) (by omega) (by omega) (fun c_7 => ?_) (fun c_7 => ?_)
  · refine lv_iload_n (pc := 21) hx hb dX6_needStorm_21 rfl (lv_at hl 1 rfl) ?_
    refine g_sv (pc := 22) (As := [.int (nI dr)]) (rest := []) (wc := []) (wr := []) lk_X6_213 hx hb hml hts hown hE hA hK hP hD hS hl (c_X6_needDirection l D cI cZ _ dr (show dr ≤ 3 from by first | assumption | omega)) dX6_needStorm_22 [] [] rfl rfl (by decide) (by decide) (by decide) rfl rfl ⟨rfl, rfl, Nat.le_of_ble_eq_true rfl, Nat.le_of_ble_eq_true rfl, Nat.le_refl _, Nat.le_refl _⟩ (Nat.le_of_ble_eq_true rfl) (fun u H locs hw hP hD hS => ?_)
    have hP : va_P D vwCl [] H := hP
    have hD : va_D A [] := hD
    rw [← hQ]
    exact g_vret hx hb hr hlocks hS dX6_needStorm_25 () (trivial) hP hD
  · exfalso; first | omega | (simp only [inR_f, isT_f, Bool.and_eq_false_iff, Bool.and_eq_true, inR_tr, isT_tr, Int32.lt_iff_toInt_lt, Int32.le_iff_toInt_le, k9_z, k9_0, k9_1, k9_2, k9_3, k9_4, k9_6, k9_7, k9_8, k9_9, k9_10, k9_15, k9_16, k9_29, k9_30, k9_99, k9_100] at c_7 <;> omega)
set_option maxHeartbeats 4000000 in
set_option maxRecDepth 100000 in
theorem c_X6_needStorm_x1 (l : Launch) (hl9 : l.stackTraces = false) (D : va_G) (cI cZ : ClassId) (sz : Nat) (x : Int32) (y : Int32) (hbad : inR x 0 (nI 9) = false) : gMx l yX6_needStorm cX6_needStorm 2 none D cI cZ sz [] [.int x, .int y] ({ frames := 7, cells := 1, slots := 6, locals := 120 } : Room) EIA := by
  refine gMx_of (by decide +kernel) (Nat.le_of_ble_eq_true rfl) ?_
  intro pg ev s mi below meth co A hx hb hr hml hts hown hlocks hname hA hsz hAe hP hK hD hE hX hT9 hS ls hl
  have hl : lv_has ls 2 [(0, .int x), (1, .int y)] := hl
  generalize hQ : vx_MQ below _ _ _ s _ _ A = Q
  refine lv_iload_n (pc := 0) hx hb dX6_needStorm_0 rfl (lv_at hl 0 rfl) ?_
  refine lv_if_lt (pc := 1) (tgt := 10) hx hb dX6_needStorm_1 (by decide) (fun c_1 => ?_) (fun c_1 => ?_)
  · rw [← hQ]
    exact g_xthrW (pc := 10) (rest := []) hx hb hl9 hts hX hown (by decide +kernel) (gm2 166 rfl rfl) (gm1 14 rfl rfl) (by decide +kernel : ((278 : Nat), "force is not 0 to 9") ∈ gXS) at_IA_34 an_IA_34 (ag_IA_34 30) dX6_needStorm_10 dX6_needStorm_13 dX6_needStorm_14 dX6_needStorm_17 dX6_needStorm_20 hS hP hD (hl.1.trans hml.symm) hT9 hlocks ⟨Nat.le_of_ble_eq_true rfl, Nat.le_of_ble_eq_true rfl, Nat.le_of_ble_eq_true rfl, Nat.le_of_ble_eq_true rfl⟩ (Nat.le_of_ble_eq_true rfl) (Nat.le_of_ble_eq_true rfl)
  · refine lv_iload_n (pc := 4) hx hb dX6_needStorm_4 rfl (lv_at hl 0 rfl) ?_
    refine lv_bipush (pc := 5) (v := nI 9) hx hb dX6_needStorm_5 (by decide) ?_
    refine lv_icmp_le (pc := 7) (tgt := 21) hx hb dX6_needStorm_7 (by decide) (fun c_7 => ?_) (fun c_7 => ?_)
    · exfalso; first | omega | (simp only [inR_f, isT_f, Bool.and_eq_false_iff, Bool.and_eq_true, inR_tr, isT_tr, Int32.lt_iff_toInt_lt, Int32.le_iff_toInt_le, k9_z, k9_0, k9_1, k9_2, k9_3, k9_4, k9_6, k9_7, k9_8, k9_9, k9_10, k9_15, k9_16, k9_29, k9_30, k9_99, k9_100] at hbad c_1 c_7 <;> omega)
    · rw [← hQ]
      exact g_xthrW (pc := 10) (rest := []) hx hb hl9 hts hX hown (by decide +kernel) (gm2 166 rfl rfl) (gm1 14 rfl rfl) (by decide +kernel : ((278 : Nat), "force is not 0 to 9") ∈ gXS) at_IA_34 an_IA_34 (ag_IA_34 30) dX6_needStorm_10 dX6_needStorm_13 dX6_needStorm_14 dX6_needStorm_17 dX6_needStorm_20 hS hP hD (hl.1.trans hml.symm) hT9 hlocks ⟨Nat.le_of_ble_eq_true rfl, Nat.le_of_ble_eq_true rfl, Nat.le_of_ble_eq_true rfl, Nat.le_of_ble_eq_true rfl⟩ (Nat.le_of_ble_eq_true rfl) (Nat.le_of_ble_eq_true rfl)
set_option maxHeartbeats 4000000 in
set_option maxRecDepth 100000 in
theorem c_X6_needStorm_x2 (l : Launch) (hl9 : l.stackTraces = false) (D : va_G) (cI cZ : ClassId) (sz : Nat) (fo : Nat) (y : Int32) (hfo : fo ≤ 9) (hbad : inR y 0 (nI 3) = false) : gMx l yX6_needStorm cX6_needStorm 2 none D cI cZ sz [] [.int (nI fo), .int y] ({ frames := 7, cells := 1, slots := 6, locals := 120 } : Room) EIA := by
  refine gMx_of (by decide +kernel) (Nat.le_of_ble_eq_true rfl) ?_
  intro pg ev s mi below meth co A hx hb hr hml hts hown hlocks hname hA hsz hAe hP hK hD hE hX hT9 hS ls hl
  have hl : lv_has ls 2 [(0, .int (nI fo)), (1, .int y)] := hl
  generalize hQ : vx_MQ below _ _ _ s _ _ A = Q
  refine lv_iload_n (pc := 0) hx hb dX6_needStorm_0 rfl (lv_at hl 0 rfl) ?_
  refine g_if_ltN (pc := 1) (tgt := 10) hx hb dX6_needStorm_1 (by decide) (by omega) ?_
  refine lv_iload_n (pc := 4) hx hb dX6_needStorm_4 rfl (lv_at hl 0 rfl) ?_
  refine lv_bipush (pc := 5) (v := nI 9) hx hb dX6_needStorm_5 (by decide) ?_
  refine g_icmp_leN (pc := 7) (tgt := 21) hx hb dX6_needStorm_7 (by decide) (by omega) (by omega) (fun c_7 => ?_) (fun c_7 => ?_)
  · refine lv_iload_n (pc := 21) hx hb dX6_needStorm_21 rfl (lv_at hl 1 rfl) ?_
    refine g_xs (pc := 22) (E := EIA) (As := [.int y]) (rest := []) (wc := []) (wr := []) lk_X6_213 hx hb hml hts hown hE hX hA hK hP hD hS hl (c_X6_needDirection_x l hl9 D cI cZ _ y (show inR y 0 (nI 3) = false from by first | assumption | omega)) dX6_needStorm_22 [] [] rfl rfl (by decide) (by decide) (by decide) rfl rfl ⟨rfl, rfl, Nat.le_of_ble_eq_true rfl, Nat.le_of_ble_eq_true rfl, Nat.le_of_ble_eq_true rfl, Nat.le_of_ble_eq_true rfl⟩ (Nat.le_of_ble_eq_true rfl) (fun ce q9 H locs hP hD hS hce hcv hcl => ?_)
    have hP : va_P D vwCl [] H := hP
    have hD : va_D A [] := hD
    rw [← hQ]
    exact g_xout hT9 hlocks hce hcv hcl hS hP hD (Nat.le_of_ble_eq_true rfl) (Nat.le_of_ble_eq_true rfl)
  · omega
set_option maxHeartbeats 4000000 in
set_option maxRecDepth 100000 in
theorem c_X6_needRain (l : Launch) (D : va_G) (cI cZ : ClassId) (sz : Nat) (ra : Nat) (hra : ra ≤ 9) : gMv l yX6_needRain cX6_needRain 1 D cI cZ sz [] [.int (nI ra)] ({ frames := 0, cells := 0, slots := 0, locals := 0 } : Room) (fun (_ : Unit) => True) (fun (_ : Unit) => []) 0 0 := by
  refine gM_ofv (by decide +kernel) (Nat.le_of_ble_eq_true rfl) ?_
  intro pg ev s mi below meth co A hx hb hr hml hts hown hlocks hname hA hsz hAe hP hK hD hE hS ls hl
  have hl : lv_has ls 1 [(0, .int (nI ra))] := hl
  generalize hQ : MQ below _ _ s _ _ A = Q
  refine lv_iload_n (pc := 0) hx hb dX6_needRain_0 rfl (lv_at hl 0 rfl) ?_
  refine g_if_ltN (pc := 1) (tgt := 10) hx hb dX6_needRain_1 (by decide) (by omega) ?_
  refine lv_iload_n (pc := 4) hx hb dX6_needRain_4 rfl (lv_at hl 0 rfl) ?_
  refine lv_bipush (pc := 5) (v := nI 9) hx hb dX6_needRain_5 (by decide) ?_
  refine g_icmp_leN (pc := 7) (tgt := 21) hx hb dX6_needRain_7 (by decide) (by omega) (by omega) (fun c_7 => ?_) (fun c_7 => ?_)
  · rw [← hQ]
    exact g_vret hx hb hr hlocks hS dX6_needRain_21 () (trivial) hP hD
  · exfalso; first | omega | (simp only [inR_f, isT_f, Bool.and_eq_false_iff, Bool.and_eq_true, inR_tr, isT_tr, Int32.lt_iff_toInt_lt, Int32.le_iff_toInt_le, k9_z, k9_0, k9_1, k9_2, k9_3, k9_4, k9_6, k9_7, k9_8, k9_9, k9_10, k9_15, k9_16, k9_29, k9_30, k9_99, k9_100] at c_7 <;> omega)
set_option maxHeartbeats 4000000 in
set_option maxRecDepth 100000 in
theorem c_X6_needRain_x (l : Launch) (hl9 : l.stackTraces = false) (D : va_G) (cI cZ : ClassId) (sz : Nat) (x : Int32) (hbad : inR x 0 (nI 9) = false) : gMx l yX6_needRain cX6_needRain 1 none D cI cZ sz [] [.int x] ({ frames := 6, cells := 1, slots := 6, locals := 100 } : Room) EIA := by
  refine gMx_of (by decide +kernel) (Nat.le_of_ble_eq_true rfl) ?_
  intro pg ev s mi below meth co A hx hb hr hml hts hown hlocks hname hA hsz hAe hP hK hD hE hX hT9 hS ls hl
  have hl : lv_has ls 1 [(0, .int x)] := hl
  generalize hQ : vx_MQ below _ _ _ s _ _ A = Q
  refine lv_iload_n (pc := 0) hx hb dX6_needRain_0 rfl (lv_at hl 0 rfl) ?_
  refine lv_if_lt (pc := 1) (tgt := 10) hx hb dX6_needRain_1 (by decide) (fun c_1 => ?_) (fun c_1 => ?_)
  · rw [← hQ]
    exact g_xthrW (pc := 10) (rest := []) hx hb hl9 hts hX hown (by decide +kernel) (gm2 166 rfl rfl) (gm1 14 rfl rfl) (by decide +kernel : ((282 : Nat), "rain is not 0 to 9") ∈ gXS) at_IA_34 an_IA_34 (ag_IA_34 30) dX6_needRain_10 dX6_needRain_13 dX6_needRain_14 dX6_needRain_17 dX6_needRain_20 hS hP hD (hl.1.trans hml.symm) hT9 hlocks ⟨Nat.le_of_ble_eq_true rfl, Nat.le_of_ble_eq_true rfl, Nat.le_of_ble_eq_true rfl, Nat.le_of_ble_eq_true rfl⟩ (Nat.le_of_ble_eq_true rfl) (Nat.le_of_ble_eq_true rfl)
  · refine lv_iload_n (pc := 4) hx hb dX6_needRain_4 rfl (lv_at hl 0 rfl) ?_
    refine lv_bipush (pc := 5) (v := nI 9) hx hb dX6_needRain_5 (by decide) ?_
    refine lv_icmp_le (pc := 7) (tgt := 21) hx hb dX6_needRain_7 (by decide) (fun c_7 => ?_) (fun c_7 => ?_)
    · exfalso; first | omega | (simp only [inR_f, isT_f, Bool.and_eq_false_iff, Bool.and_eq_true, inR_tr, isT_tr, Int32.lt_iff_toInt_lt, Int32.le_iff_toInt_le, k9_z, k9_0, k9_1, k9_2, k9_3, k9_4, k9_6, k9_7, k9_8, k9_9, k9_10, k9_15, k9_16, k9_29, k9_30, k9_99, k9_100] at hbad c_1 c_7 <;> omega)
    · rw [← hQ]
      exact g_xthrW (pc := 10) (rest := []) hx hb hl9 hts hX hown (by decide +kernel) (gm2 166 rfl rfl) (gm1 14 rfl rfl) (by decide +kernel : ((282 : Nat), "rain is not 0 to 9") ∈ gXS) at_IA_34 an_IA_34 (ag_IA_34 30) dX6_needRain_10 dX6_needRain_13 dX6_needRain_14 dX6_needRain_17 dX6_needRain_20 hS hP hD (hl.1.trans hml.symm) hT9 hlocks ⟨Nat.le_of_ble_eq_true rfl, Nat.le_of_ble_eq_true rfl, Nat.le_of_ble_eq_true rfl, Nat.le_of_ble_eq_true rfl⟩ (Nat.le_of_ble_eq_true rfl) (Nat.le_of_ble_eq_true rfl)
set_option maxHeartbeats 4000000 in
set_option maxRecDepth 100000 in
theorem c_X6_needNights (l : Launch) (D : va_G) (cI cZ : ClassId) (sz : Nat) (n : Nat) (h1 : 1 ≤ n) (h30 : n ≤ 30) : gMv l yX6_needNights cX6_needNights 1 D cI cZ sz [] [.int (nI n)] ({ frames := 0, cells := 0, slots := 0, locals := 0 } : Room) (fun (_ : Unit) => True) (fun (_ : Unit) => []) 0 0 := by
  refine gM_ofv (by decide +kernel) (Nat.le_of_ble_eq_true rfl) ?_
  intro pg ev s mi below meth co A hx hb hr hml hts hown hlocks hname hA hsz hAe hP hK hD hE hS ls hl
  have hl : lv_has ls 1 [(0, .int (nI n))] := hl
  generalize hQ : MQ below _ _ s _ _ A = Q
  refine lv_iload_n (pc := 0) hx hb dX6_needNights_0 rfl (lv_at hl 0 rfl) ?_
  refine lv_iconst (pc := 1) hx hb dX6_needNights_1 gk_1 ?_
  refine g_icmp_ltN (pc := 2) (tgt := 11) hx hb dX6_needNights_2 (by decide) (by omega) (by omega) (fun c_2 => ?_) (fun c_2 => ?_)
  · exfalso; first | omega | (simp only [inR_f, isT_f, Bool.and_eq_false_iff, Bool.and_eq_true, inR_tr, isT_tr, Int32.lt_iff_toInt_lt, Int32.le_iff_toInt_le, k9_z, k9_0, k9_1, k9_2, k9_3, k9_4, k9_6, k9_7, k9_8, k9_9, k9_10, k9_15, k9_16, k9_29, k9_30, k9_99, k9_100] at c_2 <;> omega)
  · refine lv_iload_n (pc := 5) hx hb dX6_needNights_5 rfl (lv_at hl 0 rfl) ?_
    refine lv_bipush (pc := 6) (v := nI 30) hx hb dX6_needNights_6 (by decide) ?_
    refine g_icmp_leN (pc := 8) (tgt := 22) hx hb dX6_needNights_8 (by decide) (by omega) (by omega) (fun c_8 => ?_) (fun c_8 => ?_)
    · rw [← hQ]
      exact g_vret hx hb hr hlocks hS dX6_needNights_22 () (trivial) hP hD
    · exfalso; first | omega | (simp only [inR_f, isT_f, Bool.and_eq_false_iff, Bool.and_eq_true, inR_tr, isT_tr, Int32.lt_iff_toInt_lt, Int32.le_iff_toInt_le, k9_z, k9_0, k9_1, k9_2, k9_3, k9_4, k9_6, k9_7, k9_8, k9_9, k9_10, k9_15, k9_16, k9_29, k9_30, k9_99, k9_100] at c_2 c_8 <;> omega)
set_option maxHeartbeats 4000000 in
set_option maxRecDepth 100000 in
theorem c_X6_needNights_x (l : Launch) (hl9 : l.stackTraces = false) (D : va_G) (cI cZ : ClassId) (sz : Nat) (x : Int32) (hbad : inR x (nI 1) (nI 30) = false) : gMx l yX6_needNights cX6_needNights 1 none D cI cZ sz [] [.int x] ({ frames := 6, cells := 1, slots := 6, locals := 100 } : Room) EIA := by
  refine gMx_of (by decide +kernel) (Nat.le_of_ble_eq_true rfl) ?_
  intro pg ev s mi below meth co A hx hb hr hml hts hown hlocks hname hA hsz hAe hP hK hD hE hX hT9 hS ls hl
  have hl : lv_has ls 1 [(0, .int x)] := hl
  generalize hQ : vx_MQ below _ _ _ s _ _ A = Q
  refine lv_iload_n (pc := 0) hx hb dX6_needNights_0 rfl (lv_at hl 0 rfl) ?_
  refine lv_iconst (pc := 1) hx hb dX6_needNights_1 gk_1 ?_
  refine lv_icmp_lt (pc := 2) (tgt := 11) hx hb dX6_needNights_2 (by decide) (fun c_2 => ?_) (fun c_2 => ?_)
  · rw [← hQ]
    exact g_xthrW (pc := 11) (rest := []) hx hb hl9 hts hX hown (by decide +kernel) (gm2 166 rfl rfl) (gm1 14 rfl rfl) (by decide +kernel : ((284 : Nat), "nights is not 1 to 30") ∈ gXS) at_IA_34 an_IA_34 (ag_IA_34 30) dX6_needNights_11 dX6_needNights_14 dX6_needNights_15 dX6_needNights_18 dX6_needNights_21 hS hP hD (hl.1.trans hml.symm) hT9 hlocks ⟨Nat.le_of_ble_eq_true rfl, Nat.le_of_ble_eq_true rfl, Nat.le_of_ble_eq_true rfl, Nat.le_of_ble_eq_true rfl⟩ (Nat.le_of_ble_eq_true rfl) (Nat.le_of_ble_eq_true rfl)
  · refine lv_iload_n (pc := 5) hx hb dX6_needNights_5 rfl (lv_at hl 0 rfl) ?_
    refine lv_bipush (pc := 6) (v := nI 30) hx hb dX6_needNights_6 (by decide) ?_
    refine lv_icmp_le (pc := 8) (tgt := 22) hx hb dX6_needNights_8 (by decide) (fun c_8 => ?_) (fun c_8 => ?_)
    · exfalso; first | omega | (simp only [inR_f, isT_f, Bool.and_eq_false_iff, Bool.and_eq_true, inR_tr, isT_tr, Int32.lt_iff_toInt_lt, Int32.le_iff_toInt_le, k9_z, k9_0, k9_1, k9_2, k9_3, k9_4, k9_6, k9_7, k9_8, k9_9, k9_10, k9_15, k9_16, k9_29, k9_30, k9_99, k9_100] at hbad c_2 c_8 <;> omega)
    · rw [← hQ]
      exact g_xthrW (pc := 11) (rest := []) hx hb hl9 hts hX hown (by decide +kernel) (gm2 166 rfl rfl) (gm1 14 rfl rfl) (by decide +kernel : ((284 : Nat), "nights is not 1 to 30") ∈ gXS) at_IA_34 an_IA_34 (ag_IA_34 30) dX6_needNights_11 dX6_needNights_14 dX6_needNights_15 dX6_needNights_18 dX6_needNights_21 hS hP hD (hl.1.trans hml.symm) hT9 hlocks ⟨Nat.le_of_ble_eq_true rfl, Nat.le_of_ble_eq_true rfl, Nat.le_of_ble_eq_true rfl, Nat.le_of_ble_eq_true rfl⟩ (Nat.le_of_ble_eq_true rfl) (Nat.le_of_ble_eq_true rfl)
