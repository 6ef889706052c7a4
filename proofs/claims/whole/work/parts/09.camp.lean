/-- the ropes of a tent that lie on the side of a storm, as bits -/
def sideM (pc : Nat → Nat) (a : Nat) (r : Int32) (dr : Nat) : Nat → Int32
  | 0 => nI 0
  | n + 1 => if (bt r n && sideF (pc n) a dr) = true then bset (sideM pc a r dr n) n else sideM pc a r dr n
theorem b_n0 (i : Nat) : bt (nI 0) i = false := b_0 i
theorem bt_sideM (pc : Nat → Nat) (a : Nat) (r : Int32) (dr : Nat) : ∀ n, n ≤ 32 → ∀ i, bt (sideM pc a r dr n) i = (decide (i < n) && (bt r i && sideF (pc i) a dr))
  | 0, _, i => by rw [decide_eq_false (Nat.not_lt_zero i)]; exact b_n0 i
  | n + 1, hn, i => by
    have ih := bt_sideM pc a r dr n (by omega) i
    simp only [sideM]
    by_cases h : (bt r n && sideF (pc n) a dr) = true
    · rw [if_pos h, bt_set _ (by omega), ih]
      by_cases e : i = n
      · subst e; rw [h, decide_eq_true (Nat.lt_succ_self i), decide_eq_true rfl]; simp
      · rw [decide_eq_false e, Bool.or_false, show decide (i < n + 1) = decide (i < n) from decide_eq_decide.mpr (by omega)]
    · rw [if_neg h, ih]
      by_cases e : i = n
      · subst e
        have h2 : (bt r i && sideF (pc i) a dr) = false := by simpa using h
        rw [h2, Bool.and_false, Bool.and_false]
      · rw [show decide (i < n + 1) = decide (i < n) from decide_eq_decide.mpr (by omega)]
def dropF (go : Nat → Int32) (gi : Int32) (gs : Int32) : Nat → Int32
  | 0 => gs
  | n + 1 => if (go n &&& gi) = nI 0 then bclr (dropF go gi gs n) n else dropF go gi gs n
def pullF (go : Nat → Int32) (ts : Nat → Nat) (gi gs : Int32) (force : Nat) (p : Nat) : Nat → Nat
  | 0 => 0
  | n + 1 => if bt gs n = true ∧ 0 < pop (go n &&& gi) ∧ bt (go n &&& gi) p = true then pullF go ts gi gs force p n + ts n * force / pop (go n &&& gi) else pullF go ts gi gs force p n
theorem pullF_le {go : Nat → Int32} {ts : Nat → Nat} {gi gs : Int32} {force p : Nat} (hf : force ≤ 9) : ∀ n, n ≤ 8 → (∀ j, j < 8 → ts j ≤ 9) → pullF go ts gi gs force p n ≤ 81 * n
  | 0, _, _ => Nat.le_refl _
  | n + 1, hn, ht => by
    have ih := pullF_le (go := go) (gi := gi) (gs := gs) (p := p) hf n (by omega) ht
    simp only [pullF]
    split
    · have h1 : ts n * force / pop (go n &&& gi) ≤ ts n * force := Nat.div_le_self _ _
      have h2 : ts n * force ≤ 9 * 9 := Nat.mul_le_mul (ht n (by omega)) hf
      omega
    · omega
def tearF (f pc gp : Nat → Nat) (gi : Int32) : Nat → Int32
  | 0 => gi
  | n + 1 => if 4 * f (pc n) < gp n then bclr (tearF f pc gp gi n) n else tearF f pc gp gi n
theorem tearF_cong {f pc gp gq : Nat → Nat} {gi : Int32} : ∀ n, (∀ p, p < n → gp p = gq p) → tearF f pc gp gi n = tearF f pc gq gi n
  | 0, _ => rfl
  | n + 1, h => by simp only [tearF]; rw [tearF_cong n (fun p hp => h p (by omega)), h n (by omega)]
theorem dropF_cong {go gq : Nat → Int32} {gi gs : Int32} : ∀ n, (∀ t, t < n → go t = gq t) → dropF go gi gs n = dropF gq gi gs n
  | 0, _ => rfl
  | n + 1, h => by simp only [dropF]; rw [dropF_cong n (fun p hp => h p (by omega)), h n (by omega)]
theorem pullF_cong {go gq : Nat → Int32} {ts : Nat → Nat} {gi gs : Int32} {force p : Nat} : ∀ n, (∀ t, t < n → go t = gq t) → pullF go ts gi gs force p n = pullF gq ts gi gs force p n
  | 0, _ => rfl
  | n + 1, h => by simp only [pullF]; rw [pullF_cong n (fun p hp => h p (by omega)), h n (by omega)]
/-- a round of a storm: the tents that stand, the pegs that are in -/
def rndF (f pc : Nat → Nat) (np : Nat) (go : Nat → Int32) (ts : Nat → Nat) (nt force : Nat) (x : Int32 × Int32) : Int32 × Int32 :=
  (dropF go x.2 x.1 nt, tearF f pc (fun p => pullF go ts x.2 (dropF go x.2 x.1 nt) force p nt) x.2 np)
/-- rounds, as long as one changes something, at most n; how many -/
def stmF (R : Int32 × Int32 → Int32 × Int32) : Nat → Int32 × Int32 → Nat → (Int32 × Int32) × Nat
  | 0, x, r => (x, r)
  | n + 1, x, r => if R x = x then (R x, r + 1) else stmF R n (R x) (r + 1)
def gorF (pc tc : Nat → Nat) (rp : Nat → Int32) (np dr : Nat) : Nat → Int32 := fun t => sideM pc (tc t) (rp t) dr np
def stormF (f pc : Nat → Nat) (np : Nat) (inn : Int32) (tc ts : Nat → Nat) (rp : Nat → Int32) (nt : Nat) (st : Int32) (force dr : Nat) : (Int32 × Int32) × Nat :=
  if force = 0 then ((st, inn), 0) else stmF (rndF f pc np (gorF pc tc rp np dr) ts nt force) 25 (st, inn) 0

set_option maxHeartbeats 4000000 in
set_option maxRecDepth 100000 in
theorem c_X0_holdOf (l : Launch) (D : va_G) (cI cZ : ClassId) (sz : Nat) (aC aS0 aS1 aS2 aS3 aS4 aS5 aP0 aP1 aT0 aT1 aT2 aT3 aG0 aG1 aG2 : Nat) (ng : Nat) (h : Nat → Nat) (f : Nat → Nat) (d : Nat → Bool) (tp : Nat → Nat) (w : Nat → Int32) (np : Nat) (pc : Nat → Nat) (inn : Int32) (nt : Nat) (tc : Nat → Nat) (ts : Nat → Nat) (rp : Nat → Int32) (st : Int32) (wt : Int32) (gs : Int32) (gi : Int32) (gr : Nat) (go : Nat → Int32) (gp : Nat → Nat) (k : Nat) (hpc : ∀ j, j < 16 → pc j < 100) (hk : k < 16) : gMi l yX0_holdOf cX0_holdOf 3 .int D cI cZ sz [(aC, .inr (0, [.ref aS0, .ref aP0, .ref aT0, .ref aG0, .int (nI ng)])), (aS0, .inr (3, [.ref aS1, .ref aS2, .ref aS3, .ref aS4, .ref aS5])), (aS1, .inl (cI, 100, .inl (aI h))), (aS2, .inl (cI, 100, .inl (aI f))), (aS3, .inl (cZ, 100, .inl (aB d))), (aS4, .inl (cI, 100, .inl (aI tp))), (aS5, .inl (cI, 100, .inl w)), (aP0, .inr (2, [.ref aP1, .int (nI np), .int inn])), (aP1, .inl (cI, 16, .inl (aI pc))), (aT0, .inr (5, [.ref aT1, .ref aT2, .ref aT3, .int (nI nt), .int st, .int wt])), (aT1, .inl (cI, 8, .inl (aI tc))), (aT2, .inl (cI, 8, .inl (aI ts))), (aT3, .inl (cI, 8, .inl rp)), (aG0, .inr (4, [.int gs, .int gi, .int (nI gr), .ref aG1, .ref aG2])), (aG1, .inl (cI, 8, .inl go)), (aG2, .inl (cI, 16, .inl (aI gp)))] [.ref aC, .int (nI k)] ({ frames := 1, cells := 0, slots := 0, locals := 20 } : Room) (fun (r : Int32) (_ : Unit) => r = nI (4 * f (pc k))) (fun (_ : Unit) => [(aC, .inr (0, [.ref aS0, .ref aP0, .ref aT0, .ref aG0, .int (nI ng)])), (aS0, .inr (3, [.ref aS1, .ref aS2, .ref aS3, .ref aS4, .ref aS5])), (aS1, .inl (cI, 100, .inl (aI h))), (aS2, .inl (cI, 100, .inl (aI f))), (aS3, .inl (cZ, 100, .inl (aB d))), (aS4, .inl (cI, 100, .inl (aI tp))), (aS5, .inl (cI, 100, .inl w)), (aP0, .inr (2, [.ref aP1, .int (nI np), .int inn])), (aP1, .inl (cI, 16, .inl (aI pc))), (aT0, .inr (5, [.ref aT1, .ref aT2, .ref aT3, .int (nI nt), .int st, .int wt])), (aT1, .inl (cI, 8, .inl (aI tc))), (aT2, .inl (cI, 8, .inl (aI ts))), (aT3, .inl (cI, 8, .inl rp)), (aG0, .inr (4, [.int gs, .int gi, .int (nI gr), .ref aG1, .ref aG2])), (aG1, .inl (cI, 8, .inl go)), (aG2, .inl (cI, 16, .inl (aI gp)))]) 0 0 := by
  refine gM_ofi (by decide +kernel) (Nat.le_of_ble_eq_true rfl) ?_
  intro pg ev s mi below meth co A hx hb hr hml hts hown hlocks hname hA hsz hAe hP hK hD hE hS ls hl
  have hl : lv_has ls 3 [(0, .ref aC), (1, .int (nI k))] := hl
  generalize hQ : MQ below _ _ s _ _ A = Q
  refine lv_aload_n (pc := 0) hx hb dX0_holdOf_0 rfl (lv_at hl 0 rfl) ?_
  refine gf_X0_21 (pc := 1) hx hb hts hown hK hP 0 rfl rfl dX0_holdOf_1 ?_
  refine gf_X0_39 (pc := 4) hx hb hts hown hK hP 7 rfl rfl dX0_holdOf_4 ?_
  refine lv_iload_n (pc := 7) hx hb dX0_holdOf_7 rfl (lv_at hl 1 rfl) ?_
  refine g_iald (pc := 8) (v := nI (pc k)) hx hb hK hP 8 0 rfl rfl dX0_holdOf_8 (by first | assumption | omega) (by decide) rfl ?_
  refine lv_istore_n (pc := 9) (lv' := [(2, .int (nI (pc k))), (0, .ref aC), (1, .int (nI k))]) hx hb dX0_holdOf_9 rfl hl (by decide) rfl (fun ls hl => ?_)
  refine lv_iload_n (pc := 10) hx hb dX0_holdOf_10 rfl (lv_at hl 0 rfl) ?_
  refine g_nsi (pc := 11) (As := [.int (nI (pc k))]) (rest := []) (wc := []) (wr := [(aC, .inr (0, [.ref aS0, .ref aP0, .ref aT0, .ref aG0, .int (nI ng)])), (aS0, .inr (3, [.ref aS1, .ref aS2, .ref aS3, .ref aS4, .ref aS5])), (aS1, .inl (cI, 100, .inl (aI h))), (aS2, .inl (cI, 100, .inl (aI f))), (aS3, .inl (cZ, 100, .inl (aB d))), (aS4, .inl (cI, 100, .inl (aI tp))), (aS5, .inl (cI, 100, .inl w)), (aP0, .inr (2, [.ref aP1, .int (nI np), .int inn])), (aP1, .inl (cI, 16, .inl (aI pc))), (aT0, .inr (5, [.ref aT1, .ref aT2, .ref aT3, .int (nI nt), .int st, .int wt])), (aT1, .inl (cI, 8, .inl (aI tc))), (aT2, .inl (cI, 8, .inl (aI ts))), (aT3, .inl (cI, 8, .inl rp)), (aG0, .inr (4, [.int gs, .int gi, .int (nI gr), .ref aG1, .ref aG2])), (aG1, .inl (cI, 8, .inl go)), (aG2, .inl (cI, 16, .inl (aI gp)))]) lk_X0_43 hx hb hml hts hown hE hA hK hP hD hS hl (c_X6_isCell l D cI cZ _ (nI (pc k))) dX0_holdOf_11 [] [0, 1, 2, 3, 4, 5, 6, 7, 8, 9, 10, 11, 12, 13, 14, 15] rfl rfl (by decide) (by decide) (by decide) rfl rfl ⟨rfl, rfl, Nat.le_of_ble_eq_true rfl, Nat.le_of_ble_eq_true rfl, Nat.le_refl _, Nat.le_refl _⟩ (Nat.le_of_ble_eq_true rfl) (fun r u H locs hw hP hD hS => ?_)
  have hP : va_P D vwCl [(aC, .inr (0, [.ref aS0, .ref aP0, .ref aT0, .ref aG0, .int (nI ng)])), (aS0, .inr (3, [.ref aS1, .ref aS2, .ref aS3, .ref aS4, .ref aS5])), (aS1, .inl (cI, 100, .inl (aI h))), (aS2, .inl (cI, 100, .inl (aI f))), (aS3, .inl (cZ, 100, .inl (aB d))), (aS4, .inl (cI, 100, .inl (aI tp))), (aS5, .inl (cI, 100, .inl w)), (aP0, .inr (2, [.ref aP1, .int (nI np), .int inn])), (aP1, .inl (cI, 16, .inl (aI pc))), (aT0, .inr (5, [.ref aT1, .ref aT2, .ref aT3, .int (nI nt), .int st, .int wt])), (aT1, .inl (cI, 8, .inl (aI tc))), (aT2, .inl (cI, 8, .inl (aI ts))), (aT3, .inl (cI, 8, .inl rp)), (aG0, .inr (4, [.int gs, .int gi, .int (nI gr), .ref aG1, .ref aG2])), (aG1, .inl (cI, 8, .inl go)), (aG2, .inl (cI, 16, .inl (aI gp)))] H := hP
  have hD : va_D A [(aC, .inr (0, [.ref aS0, .ref aP0, .ref aT0, .ref aG0, .int (nI ng)])), (aS0, .inr (3, [.ref aS1, .ref aS2, .ref aS3, .ref aS4, .ref aS5])), (aS1, .inl (cI, 100, .inl (aI h))), (aS2, .inl (cI, 100, .inl (aI f))), (aS3, .inl (cZ, 100, .inl (aB d))), (aS4, .inl (cI, 100, .inl (aI tp))), (aS5, .inl (cI, 100, .inl w)), (aP0, .inr (2, [.ref aP1, .int (nI np), .int inn])), (aP1, .inl (cI, 16, .inl (aI pc))), (aT0, .inr (5, [.ref aT1, .ref aT2, .ref aT3, .int (nI nt), .int st, .int wt])), (aT1, .inl (cI, 8, .inl (aI tc))), (aT2, .inl (cI, 8, .inl (aI ts))), (aT3, .inl (cI, 8, .inl rp)), (aG0, .inr (4, [.int gs, .int gi, .int (nI gr), .ref aG1, .ref aG2])), (aG1, .inl (cI, 8, .inl go)), (aG2, .inl (cI, 16, .inl (aI gp)))] := hD
  have hw : r = bI (isC (nI (pc k))) := hw
  obtain rfl := hw
  refine g_top (pc := 14) (w := .int (bI true)) (congrArg Value.int (congrArg bI (isC_nI (hpc _ hk)))) ?_
  refine g_if_eqB (pc := 14) (tgt := 31) hx hb dX0_holdOf_14 (by decide) (fun c_14 => ?_) (fun c_14 => ?_)
  · cases c_14
  · refine lv_iconst (pc := 17) hx hb dX0_holdOf_17 gk_4 ?_
    refine lv_aload_n (pc := 18) hx hb dX0_holdOf_18 rfl (lv_at hl 1 rfl) ?_
    refine gf_X0_12 (pc := 19) hx hb hts hown hK hP 0 rfl rfl dX0_holdOf_19 ?_
    refine gf_X0_47 (pc := 22) hx hb hts hown hK hP 1 rfl rfl dX0_holdOf_22 ?_
    refine lv_iload_n (pc := 25) hx hb dX0_holdOf_25 rfl (lv_at hl 0 rfl) ?_
    refine g_iald (pc := 26) (v := nI (f (pc k))) hx hb hK hP 3 0 rfl rfl dX0_holdOf_26 (by exact hpc _ hk) (by decide) rfl ?_
    refine g_imul (pc := 27) hx hb dX0_holdOf_27 (pk_mul _ _) ?_
    refine lv_goto (pc := 28) (tgt := 32) hx hb dX0_holdOf_28 (by decide) ?_
    rw [← hQ]
    exact g_iret hx hb hr hlocks hS dX0_holdOf_32 () (rfl) hP hD
set_option maxHeartbeats 4000000 in
set_option maxRecDepth 100000 in
theorem c_X0_ropesToPegsIn (l : Launch) (D : va_G) (cI cZ : ClassId) (sz : Nat) (aC aS0 aS1 aS2 aS3 aS4 aS5 aP0 aP1 aT0 aT1 aT2 aT3 aG0 aG1 aG2 : Nat) (ng : Nat) (h : Nat → Nat) (f : Nat → Nat) (d : Nat → Bool) (tp : Nat → Nat) (w : Nat → Int32) (np : Nat) (pc : Nat → Nat) (inn : Int32) (nt : Nat) (tc : Nat → Nat) (ts : Nat → Nat) (rp : Nat → Int32) (st : Int32) (wt : Int32) (gs : Int32) (gi : Int32) (gr : Nat) (go : Nat → Int32) (gp : Nat → Nat) (t : Nat) (ht : t < 8) : gMi l yX0_ropesToPegsIn cX0_ropesToPegsIn 2 .int D cI cZ sz [(aC, .inr (0, [.ref aS0, .ref aP0, .ref aT0, .ref aG0, .int (nI ng)])), (aS0, .inr (3, [.ref aS1, .ref aS2, .ref aS3, .ref aS4, .ref aS5])), (aS1, .inl (cI, 100, .inl (aI h))), (aS2, .inl (cI, 100, .inl (aI f))), (aS3, .inl (cZ, 100, .inl (aB d))), (aS4, .inl (cI, 100, .inl (aI tp))), (aS5, .inl (cI, 100, .inl w)), (aP0, .inr (2, [.ref aP1, .int (nI np), .int inn])), (aP1, .inl (cI, 16, .inl (aI pc))), (aT0, .inr (5, [.ref aT1, .ref aT2, .ref aT3, .int (nI nt), .int st, .int wt])), (aT1, .inl (cI, 8, .inl (aI tc))), (aT2, .inl (cI, 8, .inl (aI ts))), (aT3, .inl (cI, 8, .inl rp)), (aG0, .inr (4, [.int gs, .int gi, .int (nI gr), .ref aG1, .ref aG2])), (aG1, .inl (cI, 8, .inl go)), (aG2, .inl (cI, 16, .inl (aI gp)))] [.ref aC, .int (nI t)] ({ frames := 1, cells := 0, slots := 0, locals := 20 } : Room) (fun (r : Int32) (_ : Unit) => r = nI (pop (rp t &&& inn))) (fun (_ : Unit) => [(aC, .inr (0, [.ref aS0, .ref aP0, .ref aT0, .ref aG0, .int (nI ng)])), (aS0, .inr (3, [.ref aS1, .ref aS2, .ref aS3, .ref aS4, .ref aS5])), (aS1, .inl (cI, 100, .inl (aI h))), (aS2, .inl (cI, 100, .inl (aI f))), (aS3, .inl (cZ, 100, .inl (aB d))), (aS4, .inl (cI, 100, .inl (aI tp))), (aS5, .inl (cI, 100, .inl w)), (aP0, .inr (2, [.ref aP1, .int (nI np), .int inn])), (aP1, .inl (cI, 16, .inl (aI pc))), (aT0, .inr (5, [.ref aT1, .ref aT2, .ref aT3, .int (nI nt), .int st, .int wt])), (aT1, .inl (cI, 8, .inl (aI tc))), (aT2, .inl (cI, 8, .inl (aI ts))), (aT3, .inl (cI, 8, .inl rp)), (aG0, .inr (4, [.int gs, .int gi, .int (nI gr), .ref aG1, .ref aG2])), (aG1, .inl (cI, 8, .inl go)), (aG2, .inl (cI, 16, .inl (aI gp)))]) 0 0 := by
  refine gM_ofi (by decide +kernel) (Nat.le_of_ble_eq_true rfl) ?_
  intro pg ev s mi below meth co A hx hb hr hml hts hown hlocks hname hA hsz hAe hP hK hD hE hS ls hl
  have hl : lv_has ls 2 [(0, .ref aC), (1, .int (nI t))] := hl
  generalize hQ : MQ below _ _ s _ _ A = Q
  refine lv_aload_n (pc := 0) hx hb dX0_ropesToPegsIn_0 rfl (lv_at hl 0 rfl) ?_
  refine gf_X0_28 (pc := 1) hx hb hts hown hK hP 0 rfl rfl dX0_ropesToPegsIn_1 ?_
  refine gf_X0_50 (pc := 4) hx hb hts hown hK hP 9 rfl rfl dX0_ropesToPegsIn_4 ?_
  refine lv_iload_n (pc := 7) hx hb dX0_ropesToPegsIn_7 rfl (lv_at hl 1 rfl) ?_
  refine g_iald (pc := 8) (v := (rp t)) hx hb hK hP 12 0 rfl rfl dX0_ropesToPegsIn_8 (by first | assumption | omega) (by decide) rfl ?_
  refine lv_aload_n (pc := 9) hx hb dX0_ropesToPegsIn_9 rfl (lv_at hl 0 rfl) ?_
  refine gf_X0_21 (pc := 10) hx hb hts hown hK hP 0 rfl rfl dX0_ropesToPegsIn_10 ?_
  refine gf_X0_53 (pc := 13) hx hb hts hown hK hP 7 rfl rfl dX0_ropesToPegsIn_13 ?_
  refine lv_iand (pc := 16) hx hb dX0_ropesToPegsIn_16 ?_
  refine g_si (pc := 17) (As := [.int ((rp t) &&& inn)]) (rest := []) (wc := []) (wr := [(aC, .inr (0, [.ref aS0, .ref aP0, .ref aT0, .ref aG0, .int (nI ng)])), (aS0, .inr (3, [.ref aS1, .ref aS2, .ref aS3, .ref aS4, .ref aS5])), (aS1, .inl (cI, 100, .inl (aI h))), (aS2, .inl (cI, 100, .inl (aI f))), (aS3, .inl (cZ, 100, .inl (aB d))), (aS4, .inl (cI, 100, .inl (aI tp))), (aS5, .inl (cI, 100, .inl w)), (aP0, .inr (2, [.ref aP1, .int (nI np), .int inn])), (aP1, .inl (cI, 16, .inl (aI pc))), (aT0, .inr (5, [.ref aT1, .ref aT2, .ref aT3, .int (nI nt), .int st, .int wt])), (aT1, .inl (cI, 8, .inl (aI tc))), (aT2, .inl (cI, 8, .inl (aI ts))), (aT3, .inl (cI, 8, .inl rp)), (aG0, .inr (4, [.int gs, .int gi, .int (nI gr), .ref aG1, .ref aG2])), (aG1, .inl (cI, 8, .inl go)), (aG2, .inl (cI, 16, .inl (aI gp)))]) lk_X0_57 hx hb hml hts hown hE hA hK hP hD hS hl (c_J6_bitCount_0f7a4 l D cI cZ _ ((rp t) &&& inn)) dX0_ropesToPegsIn_17 [] [0, 1, 2, 3, 4, 5, 6, 7, 8, 9, 10, 11, 12, 13, 14, 15] rfl rfl (by decide) (by decide) (by decide) rfl rfl ⟨rfl, rfl, Nat.le_of_ble_eq_true rfl, Nat.le_of_ble_eq_true rfl, Nat.le_refl _, Nat.le_refl _⟩ (Nat.le_of_ble_eq_true rfl) (fun r u H locs hw hP hD hS => ?_)
  have hP : va_P D vwCl [(aC, .inr (0, [.ref aS0, .ref aP0, .ref aT0, .ref aG0, .int (nI ng)])), (aS0, .inr (3, [.ref aS1, .ref aS2, .ref aS3, .ref aS4, .ref aS5])), (aS1, .inl (cI, 100, .inl (aI h))), (aS2, .inl (cI, 100, .inl (aI f))), (aS3, .inl (cZ, 100, .inl (aB d))), (aS4, .inl (cI, 100, .inl (aI tp))), (aS5, .inl (cI, 100, .inl w)), (aP0, .inr (2, [.ref aP1, .int (nI np), .int inn])), (aP1, .inl (cI, 16, .inl (aI pc))), (aT0, .inr (5, [.ref aT1, .ref aT2, .ref aT3, .int (nI nt), .int st, .int wt])), (aT1, .inl (cI, 8, .inl (aI tc))), (aT2, .inl (cI, 8, .inl (aI ts))), (aT3, .inl (cI, 8, .inl rp)), (aG0, .inr (4, [.int gs, .int gi, .int (nI gr), .ref aG1, .ref aG2])), (aG1, .inl (cI, 8, .inl go)), (aG2, .inl (cI, 16, .inl (aI gp)))] H := hP
  have hD : va_D A [(aC, .inr (0, [.ref aS0, .ref aP0, .ref aT0, .ref aG0, .int (nI ng)])), (aS0, .inr (3, [.ref aS1, .ref aS2, .ref aS3, .ref aS4, .ref aS5])), (aS1, .inl (cI, 100, .inl (aI h))), (aS2, .inl (cI, 100, .inl (aI f))), (aS3, .inl (cZ, 100, .inl (aB d))), (aS4, .inl (cI, 100, .inl (aI tp))), (aS5, .inl (cI, 100, .inl w)), (aP0, .inr (2, [.ref aP1, .int (nI np), .int inn])), (aP1, .inl (cI, 16, .inl (aI pc))), (aT0, .inr (5, [.ref aT1, .ref aT2, .ref aT3, .int (nI nt), .int st, .int wt])), (aT1, .inl (cI, 8, .inl (aI tc))), (aT2, .inl (cI, 8, .inl (aI ts))), (aT3, .inl (cI, 8, .inl rp)), (aG0, .inr (4, [.int gs, .int gi, .int (nI gr), .ref aG1, .ref aG2])), (aG1, .inl (cI, 8, .inl go)), (aG2, .inl (cI, 16, .inl (aI gp)))] := hD
  have hw : r = nI (pop ((rp t) &&& inn)) := hw
  obtain rfl := hw
  rw [← hQ]
  exact g_iret hx hb hr hlocks hS dX0_ropesToPegsIn_20 () (rfl) hP hD
set_option maxHeartbeats 4000000 in
set_option maxRecDepth 100000 in
theorem c_X0_ropesOnSide (l : Launch) (D : va_G) (cI cZ : ClassId) (sz : Nat) (aC aS0 aS1 aS2 aS3 aS4 aS5 aP0 aP1 aT0 aT1 aT2 aT3 aG0 aG1 aG2 : Nat) (ng : Nat) (h : Nat → Nat) (f : Nat → Nat) (d : Nat → Bool) (tp : Nat → Nat) (w : Nat → Int32) (np : Nat) (pc : Nat → Nat) (inn : Int32) (nt : Nat) (tc : Nat → Nat) (ts : Nat → Nat) (rp : Nat → Int32) (st : Int32) (wt : Int32) (gs : Int32) (gi : Int32) (gr : Nat) (go : Nat → Int32) (gp : Nat → Nat) (t : Nat) (dr : Nat) (hnp : np ≤ 16) (hpc : ∀ j9, j9 < 16 → pc j9 < 100) (htc : ∀ j, j < 8 → tc j < 100) (ht : t < 8) (hdr : dr ≤ 3) : gMi l yX0_ropesOnSide cX0_ropesOnSide 5 .int D cI cZ sz [(aC, .inr (0, [.ref aS0, .ref aP0, .ref aT0, .ref aG0, .int (nI ng)])), (aS0, .inr (3, [.ref aS1, .ref aS2, .ref aS3, .ref aS4, .ref aS5])), (aS1, .inl (cI, 100, .inl (aI h))), (aS2, .inl (cI, 100, .inl (aI f))), (aS3, .inl (cZ, 100, .inl (aB d))), (aS4, .inl (cI, 100, .inl (aI tp))), (aS5, .inl (cI, 100, .inl w)), (aP0, .inr (2, [.ref aP1, .int (nI np), .int inn])), (aP1, .inl (cI, 16, .inl (aI pc))), (aT0, .inr (5, [.ref aT1, .ref aT2, .ref aT3, .int (nI nt), .int st, .int wt])), (aT1, .inl (cI, 8, .inl (aI tc))), (aT2, .inl (cI, 8, .inl (aI ts))), (aT3, .inl (cI, 8, .inl rp)), (aG0, .inr (4, [.int gs, .int gi, .int (nI gr), .ref aG1, .ref aG2])), (aG1, .inl (cI, 8, .inl go)), (aG2, .inl (cI, 16, .inl (aI gp)))] [.ref aC, .int (nI t), .int (nI dr)] ({ frames := 2, cells := 0, slots := 0, locals := 43 } : Room) (fun (r : Int32) (_ : Unit) => r = (sideM pc (tc t) (rp t) dr np)) (fun (_ : Unit) => [(aC, .inr (0, [.ref aS0, .ref aP0, .ref aT0, .ref aG0, .int (nI ng)])), (aS0, .inr (3, [.ref aS1, .ref aS2, .ref aS3, .ref aS4, .ref aS5])), (aS1, .inl (cI, 100, .inl (aI h))), (aS2, .inl (cI, 100, .inl (aI f))), (aS3, .inl (cZ, 100, .inl (aB d))), (aS4, .inl (cI, 100, .inl (aI tp))), (aS5, .inl (cI, 100, .inl w)), (aP0, .inr (2, [.ref aP1, .int (nI np), .int inn])), (aP1, .inl (cI, 16, .inl (aI pc))), (aT0, .inr (5, [.ref aT1, .ref aT2, .ref aT3, .int (nI nt), .int st, .int wt])), (aT1, .inl (cI, 8, .inl (aI tc))), (aT2, .inl (cI, 8, .inl (aI ts))), (aT3, .inl (cI, 8, .inl rp)), (aG0, .inr (4, [.int gs, .int gi, .int (nI gr), .ref aG1, .ref aG2])), (aG1, .inl (cI, 8, .inl go)), (aG2, .inl (cI, 16, .inl (aI gp)))]) 0 0 := by
  refine gM_ofi (by decide +kernel) (Nat.le_of_ble_eq_true rfl) ?_
  intro pg ev s mi below meth co A hx hb hr hml hts hown hlocks hname hA hsz hAe hP hK hD hE hS ls hl
  have hl : lv_has ls 5 [(0, .ref aC), (1, .int (nI t)), (2, .int (nI dr))] := hl
  generalize hQ : MQ below _ _ s _ _ A = Q
  refine lv_iconst (pc := 0) hx hb dX0_ropesOnSide_0 gk_0 ?_
  refine lv_istore_n (pc := 1) (lv' := [(3, .int (nI 0)), (0, .ref aC), (1, .int (nI t)), (2, .int (nI dr))]) hx hb dX0_ropesOnSide_1 rfl hl (by decide) rfl (fun ls hl => ?_)
  refine lv_iconst (pc := 2) hx hb dX0_ropesOnSide_2 gk_0 ?_
  refine lv_istore (pc := 3) (lv' := [(4, .int (nI 0)), (3, .int (nI 0)), (0, .ref aC), (1, .int (nI t)), (2, .int (nI dr))]) hx hb dX0_ropesOnSide_3 hl (by decide) rfl (fun ls hl => ?_)
  have lab_5 : ∀ (fuel : Nat) (i : Nat), (np - i) < fuel → (i ≤ np) → ∀ (H : Heap) (locs : List Loc) (ls : Array Slot), va_P D vwCl [(aC, .inr (0, [.ref aS0, .ref aP0, .ref aT0, .ref aG0, .int (nI ng)])), (aS0, .inr (3, [.ref aS1, .ref aS2, .ref aS3, .ref aS4, .ref aS5])), (aS1, .inl (cI, 100, .inl (aI h))), (aS2, .inl (cI, 100, .inl (aI f))), (aS3, .inl (cZ, 100, .inl (aB d))), (aS4, .inl (cI, 100, .inl (aI tp))), (aS5, .inl (cI, 100, .inl w)), (aP0, .inr (2, [.ref aP1, .int (nI np), .int inn])), (aP1, .inl (cI, 16, .inl (aI pc))), (aT0, .inr (5, [.ref aT1, .ref aT2, .ref aT3, .int (nI nt), .int st, .int wt])), (aT1, .inl (cI, 8, .inl (aI tc))), (aT2, .inl (cI, 8, .inl (aI ts))), (aT3, .inl (cI, 8, .inl rp)), (aG0, .inr (4, [.int gs, .int gi, .int (nI gr), .ref aG1, .ref aG2])), (aG1, .inl (cI, 8, .inl go)), (aG2, .inl (cI, 16, .inl (aI gp)))] H → va_D A [(aC, .inr (0, [.ref aS0, .ref aP0, .ref aT0, .ref aG0, .int (nI ng)])), (aS0, .inr (3, [.ref aS1, .ref aS2, .ref aS3, .ref aS4, .ref aS5])), (aS1, .inl (cI, 100, .inl (aI h))), (aS2, .inl (cI, 100, .inl (aI f))), (aS3, .inl (cZ, 100, .inl (aB d))), (aS4, .inl (cI, 100, .inl (aI tp))), (aS5, .inl (cI, 100, .inl w)), (aP0, .inr (2, [.ref aP1, .int (nI np), .int inn])), (aP1, .inl (cI, 16, .inl (aI pc))), (aT0, .inr (5, [.ref aT1, .ref aT2, .ref aT3, .int (nI nt), .int st, .int wt])), (aT1, .inl (cI, 8, .inl (aI tc))), (aT2, .inl (cI, 8, .inl (aI ts))), (aT3, .inl (cI, 8, .inl rp)), (aG0, .inr (4, [.int gs, .int gi, .int (nI gr), .ref aG1, .ref aG2])), (aG1, .inl (cI, 8, .inl go)), (aG2, .inl (cI, 16, .inl (aI gp)))] → va_S A s.heap H locs → lv_has ls 5 [(0, .ref aC), (1, .int (nI t)), (2, .int (nI dr)), (3, .int (sideM pc (tc t) (rp t) dr i)), (4, .int (nI i))] → W pg l ev ({ frames := 2, cells := 0, slots := 0, locals := 43 } : Room) s mi [(.ref aC : Value), .int (nI t), .int (nI dr)].toArray below meth co H locs 0 0 Q (F0 mi 5 ls []) := by
    intro fuel
    induction fuel with
    | zero => intro i hm; exact absurd hm (Nat.not_lt_zero _)
    | succ fuel ih_5 =>
      intro i hm_5 hi H locs ls hP hD hS hl
      refine lv_iload (pc := 5) hx hb dX0_ropesOnSide_5 (lv_at hl 4 rfl) ?_
      refine lv_aload_n (pc := 7) hx hb dX0_ropesOnSide_7 rfl (lv_at hl 0 rfl) ?_
      refine gf_X0_21 (pc := 8) hx hb hts hown hK hP 0 rfl rfl dX0_ropesOnSide_8 ?_
      refine gf_X0_63 (pc := 11) hx hb hts hown hK hP 7 rfl rfl dX0_ropesOnSide_11 ?_
      refine g_icmp_geN (pc := 14) (tgt := 69) hx hb dX0_ropesOnSide_14 (by decide) (by omega) (by omega) (fun c_14 => ?_) (fun c_14 => ?_)
      · refine lv_iload_n (pc := 69) hx hb dX0_ropesOnSide_69 rfl (lv_at hl 3 rfl) ?_
        rw [← hQ]
        exact g_iret hx hb hr hlocks hS dX0_ropesOnSide_70 () (by rw [show i = np by omega]) hP hD
      · refine lv_aload_n (pc := 17) hx hb dX0_ropesOnSide_17 rfl (lv_at hl 0 rfl) ?_
        refine gf_X0_28 (pc := 18) hx hb hts hown hK hP 0 rfl rfl dX0_ropesOnSide_18 ?_
        refine lv_iload_n (pc := 21) hx hb dX0_ropesOnSide_21 rfl (lv_at hl 1 rfl) ?_
        refine lv_iload (pc := 22) hx hb dX0_ropesOnSide_22 (lv_at hl 4 rfl) ?_
        refine g_vi (pc := 24) (As := [.int (nI t), .int (nI i)]) (rest := []) (wc := [(aT0, .inr (5, [.ref aT1, .ref aT2, .ref aT3, .int (nI nt), .int st, .int wt])), (aT1, .inl (cI, 8, .inl (aI tc))), (aT2, .inl (cI, 8, .inl (aI ts))), (aT3, .inl (cI, 8, .inl rp))]) (wr := [(aC, .inr (0, [.ref aS0, .ref aP0, .ref aT0, .ref aG0, .int (nI ng)])), (aS0, .inr (3, [.ref aS1, .ref aS2, .ref aS3, .ref aS4, .ref aS5])), (aS1, .inl (cI, 100, .inl (aI h))), (aS2, .inl (cI, 100, .inl (aI f))), (aS3, .inl (cZ, 100, .inl (aB d))), (aS4, .inl (cI, 100, .inl (aI tp))), (aS5, .inl (cI, 100, .inl w)), (aP0, .inr (2, [.ref aP1, .int (nI np), .int inn])), (aP1, .inl (cI, 16, .inl (aI pc))), (aG0, .inr (4, [.int gs, .int gi, .int (nI gr), .ref aG1, .ref aG2])), (aG1, .inl (cI, 8, .inl go)), (aG2, .inl (cI, 16, .inl (aI gp)))]) lk_X0_66 hx hb hml hts hown hE hA hK hP hD hS hl (c_X5_hasRope l D cI cZ _ aT0 aT1 aT2 aT3 nt tc ts rp st wt t i (show t < 8 from by first | assumption | omega) (show i < 16 from by first | assumption | omega)) rfl rfl dX0_ropesOnSide_24 [9, 10, 11, 12] [0, 1, 2, 3, 4, 5, 6, 7, 8, 13, 14, 15] rfl rfl (by decide) (by decide) (by decide) rfl rfl ⟨rfl, rfl, Nat.le_of_ble_eq_true rfl, Nat.le_of_ble_eq_true rfl, Nat.le_refl _, Nat.le_refl _⟩ (Nat.le_of_ble_eq_true rfl) (fun r u H locs hw hP hD hS => ?_)
        have hP : va_P D vwCl [(aC, .inr (0, [.ref aS0, .ref aP0, .ref aT0, .ref aG0, .int (nI ng)])), (aS0, .inr (3, [.ref aS1, .ref aS2, .ref aS3, .ref aS4, .ref aS5])), (aS1, .inl (cI, 100, .inl (aI h))), (aS2, .inl (cI, 100, .inl (aI f))), (aS3, .inl (cZ, 100, .inl (aB d))), (aS4, .inl (cI, 100, .inl (aI tp))), (aS5, .inl (cI, 100, .inl w)), (aP0, .inr (2, [.ref aP1, .int (nI np), .int inn])), (aP1, .inl (cI, 16, .inl (aI pc))), (aG0, .inr (4, [.int gs, .int gi, .int (nI gr), .ref aG1, .ref aG2])), (aG1, .inl (cI, 8, .inl go)), (aG2, .inl (cI, 16, .inl (aI gp))), (aT0, .inr (5, [.ref aT1, .ref aT2, .ref aT3, .int (nI nt), .int st, .int wt])), (aT1, .inl (cI, 8, .inl (aI tc))), (aT2, .inl (cI, 8, .inl (aI ts))), (aT3, .inl (cI, 8, .inl rp))] H := hP
        have hD : va_D A [(aC, .inr (0, [.ref aS0, .ref aP0, .ref aT0, .ref aG0, .int (nI ng)])), (aS0, .inr (3, [.ref aS1, .ref aS2, .ref aS3, .ref aS4, .ref aS5])), (aS1, .inl (cI, 100, .inl (aI h))), (aS2, .inl (cI, 100, .inl (aI f))), (aS3, .inl (cZ, 100, .inl (aB d))), (aS4, .inl (cI, 100, .inl (aI tp))), (aS5, .inl (cI, 100, .inl w)), (aP0, .inr (2, [.ref aP1, .int (nI np), .int inn])), (aP1, .inl (cI, 16, .inl (aI pc))), (aG0, .inr (4, [.int gs, .int gi, .int (nI gr), .ref aG1, .ref aG2])), (aG1, .inl (cI, 8, .inl go)), (aG2, .inl (cI, 16, .inl (aI gp))), (aT0, .inr (5, [.ref aT1, .ref aT2, .ref aT3, .int (nI nt), .int st, .int wt])), (aT1, .inl (cI, 8, .inl (aI tc))), (aT2, .inl (cI, 8, .inl (aI ts))), (aT3, .inl (cI, 8, .inl rp))] := hD
        have hw : r = bI (bt (rp t) i) := hw
        obtain rfl := hw
        refine g_if_eqB (pc := 27) (tgt := 63) hx hb dX0_ropesOnSide_27 (by decide) (fun c_27 => ?_) (fun c_27 => ?_)
        · have hs : sideM pc (tc t) (rp t) dr (i + 1) = sideM pc (tc t) (rp t) dr i := by simp only [sideM]; rw [if_neg (by rw [c_27]; simp)]
          have hl : lv_has ls 5 [(0, .ref aC), (1, .int (nI t)), (2, .int (nI dr)), (3, .int (sideM pc (tc t) (rp t) dr (i + 1))), (4, .int (nI i))] := Eq.mp (congrArg (fun z9 : Int32 => lv_has ls 5 [(0, .ref aC), (1, .int (nI t)), (2, .int (nI dr)), (3, .int z9), (4, .int (nI i))]) (show (sideM pc (tc t) (rp t) dr i) = (sideM pc (tc t) (rp t) dr (i + 1)) from hs.symm)) hl
          refine lv_iinc (pc := 63) (v := nI (i + 1)) (lv' := [(4, .int (nI (i + 1))), (0, .ref aC), (1, .int (nI t)), (2, .int (nI dr)), (3, .int (sideM pc (tc t) (rp t) dr (i + 1)))]) hx hb dX0_ropesOnSide_63 hl (k := 4) rfl (gi_1 _) (by decide) rfl (fun ls hl => ?_)
          refine lv_goto (pc := 66) (tgt := 5) hx hb dX0_ropesOnSide_66 (by decide) ?_
          exact ih_5 (i + 1) (by omega) (show (i + 1) ≤ np from by first | assumption | omega) _ _ _ (hP.sub [0, 1, 2, 3, 4, 5, 6, 7, 8, 12, 13, 14, 15, 9, 10, 11] rfl) (hD.sub [0, 1, 2, 3, 4, 5, 6, 7, 8, 12, 13, 14, 15, 9, 10, 11] (by decide) rfl) hS (lv_sub hl [1, 2, 3, 4, 0] rfl)
        · refine lv_aload_n (pc := 30) hx hb dX0_ropesOnSide_30 rfl (lv_at hl 0 rfl) ?_
          refine gf_X0_21 (pc := 31) hx hb hts hown hK hP 0 rfl rfl dX0_ropesOnSide_31 ?_
          refine gf_X0_39 (pc := 34) hx hb hts hown hK hP 7 rfl rfl dX0_ropesOnSide_34 ?_
          refine lv_iload (pc := 37) hx hb dX0_ropesOnSide_37 (lv_at hl 4 rfl) ?_
          refine g_iald (pc := 39) (v := nI (pc i)) hx hb hK hP 8 0 rfl rfl dX0_ropesOnSide_39 (by first | assumption | omega) (by decide) rfl ?_
          refine lv_aload_n (pc := 40) hx hb dX0_ropesOnSide_40 rfl (lv_at hl 0 rfl) ?_
          refine gf_X0_28 (pc := 41) hx hb hts hown hK hP 0 rfl rfl dX0_ropesOnSide_41 ?_
          refine gf_X0_70 (pc := 44) hx hb hts hown hK hP 12 rfl rfl dX0_ropesOnSide_44 ?_
          refine lv_iload_n (pc := 47) hx hb dX0_ropesOnSide_47 rfl (lv_at hl 1 rfl) ?_
          refine g_iald (pc := 48) (v := nI (tc t)) hx hb hK hP 13 0 rfl rfl dX0_ropesOnSide_48 (by first | assumption | omega) (by decide) rfl ?_
          refine lv_iload_n (pc := 49) hx hb dX0_ropesOnSide_49 rfl (lv_at hl 2 rfl) ?_
          refine g_si (pc := 50) (As := [.int (nI (pc i)), .int (nI (tc t)), .int (nI dr)]) (rest := []) (wc := []) (wr := [(aC, .inr (0, [.ref aS0, .ref aP0, .ref aT0, .ref aG0, .int (nI ng)])), (aS0, .inr (3, [.ref aS1, .ref aS2, .ref aS3, .ref aS4, .ref aS5])), (aS1, .inl (cI, 100, .inl (aI h))), (aS2, .inl (cI, 100, .inl (aI f))), (aS3, .inl (cZ, 100, .inl (aB d))), (aS4, .inl (cI, 100, .inl (aI tp))), (aS5, .inl (cI, 100, .inl w)), (aP0, .inr (2, [.ref aP1, .int (nI np), .int inn])), (aP1, .inl (cI, 16, .inl (aI pc))), (aG0, .inr (4, [.int gs, .int gi, .int (nI gr), .ref aG1, .ref aG2])), (aG1, .inl (cI, 8, .inl go)), (aG2, .inl (cI, 16, .inl (aI gp))), (aT0, .inr (5, [.ref aT1, .ref aT2, .ref aT3, .int (nI nt), .int st, .int wt])), (aT1, .inl (cI, 8, .inl (aI tc))), (aT2, .inl (cI, 8, .inl (aI ts))), (aT3, .inl (cI, 8, .inl rp))]) lk_X0_71 hx hb hml hts hown hE hA hK hP hD hS hl (c_X0_isOnSide l D cI cZ _ (pc i) (tc t) dr (show (pc i) < 100 from by exact hpc _ (by omega)) (show (tc t) < 100 from by exact htc _ ht) (show dr ≤ 3 from by first | assumption | omega)) dX0_ropesOnSide_50 [] [0, 1, 2, 3, 4, 5, 6, 7, 8, 9, 10, 11, 12, 13, 14, 15] rfl rfl (by decide) (by decide) (by decide) rfl rfl ⟨rfl, rfl, Nat.le_of_ble_eq_true rfl, Nat.le_of_ble_eq_true rfl, Nat.le_refl _, Nat.le_refl _⟩ (Nat.le_of_ble_eq_true rfl) (fun r u H locs hw hP hD hS => ?_)
          have hP : va_P D vwCl [(aC, .inr (0, [.ref aS0, .ref aP0, .ref aT0, .ref aG0, .int (nI ng)])), (aS0, .inr (3, [.ref aS1, .ref aS2, .ref aS3, .ref aS4, .ref aS5])), (aS1, .inl (cI, 100, .inl (aI h))), (aS2, .inl (cI, 100, .inl (aI f))), (aS3, .inl (cZ, 100, .inl (aB d))), (aS4, .inl (cI, 100, .inl (aI tp))), (aS5, .inl (cI, 100, .inl w)), (aP0, .inr (2, [.ref aP1, .int (nI np), .int inn])), (aP1, .inl (cI, 16, .inl (aI pc))), (aG0, .inr (4, [.int gs, .int gi, .int (nI gr), .ref aG1, .ref aG2])), (aG1, .inl (cI, 8, .inl go)), (aG2, .inl (cI, 16, .inl (aI gp))), (aT0, .inr (5, [.ref aT1, .ref aT2, .ref aT3, .int (nI nt), .int st, .int wt])), (aT1, .inl (cI, 8, .inl (aI tc))), (aT2, .inl (cI, 8, .inl (aI ts))), (aT3, .inl (cI, 8, .inl rp))] H := hP
          have hD : va_D A [(aC, .inr (0, [.ref aS0, .ref aP0, .ref aT0, .ref aG0, .int (nI ng)])), (aS0, .inr (3, [.ref aS1, .ref aS2, .ref aS3, .ref aS4, .ref aS5])), (aS1, .inl (cI, 100, .inl (aI h))), (aS2, .inl (cI, 100, .inl (aI f))), (aS3, .inl (cZ, 100, .inl (aB d))), (aS4, .inl (cI, 100, .inl (aI tp))), (aS5, .inl (cI, 100, .inl w)), (aP0, .inr (2, [.ref aP1, .int (nI np), .int inn])), (aP1, .inl (cI, 16, .inl (aI pc))), (aG0, .inr (4, [.int gs, .int gi, .int (nI gr), .ref aG1, .ref aG2])), (aG1, .inl (cI, 8, .inl go)), (aG2, .inl (cI, 16, .inl (aI gp))), (aT0, .inr (5, [.ref aT1, .ref aT2, .ref aT3, .int (nI nt), .int st, .int wt])), (aT1, .inl (cI, 8, .inl (aI tc))), (aT2, .inl (cI, 8, .inl (aI ts))), (aT3, .inl (cI, 8, .inl rp))] := hD
          have hw : r = bI (sideF (pc i) (tc t) dr) := hw
          obtain rfl := hw
          refine g_if_eqB (pc := 53) (tgt := 63) hx hb dX0_ropesOnSide_53 (by decide) (fun c_53 => ?_) (fun c_53 => ?_)
          · have hs : sideM pc (tc t) (rp t) dr (i + 1) = sideM pc (tc t) (rp t) dr i := by simp only [sideM]; rw [if_neg (by rw [c_53]; simp)]
            have hl : lv_has ls 5 [(0, .ref aC), (1, .int (nI t)), (2, .int (nI dr)), (3, .int (sideM pc (tc t) (rp t) dr (i + 1))), (4, .int (nI i))] := Eq.mp (congrArg (fun z9 : Int32 => lv_has ls 5 [(0, .ref aC), (1, .int (nI t)), (2, .int (nI dr)), (3, .int z9), (4, .int (nI i))]) (show (sideM pc (tc t) (rp t) dr i) = (sideM pc (tc t) (rp t) dr (i + 1)) from hs.symm)) hl
            refine lv_iinc (pc := 63) (v := nI (i + 1)) (lv' := [(4, .int (nI (i + 1))), (0, .ref aC), (1, .int (nI t)), (2, .int (nI dr)), (3, .int (sideM pc (tc t) (rp t) dr (i + 1)))]) hx hb dX0_ropesOnSide_63 hl (k := 4) rfl (gi_1 _) (by decide) rfl (fun ls hl => ?_)
            refine lv_goto (pc := 66) (tgt := 5) hx hb dX0_ropesOnSide_66 (by decide) ?_
            exact ih_5 (i + 1) (by omega) (show (i + 1) ≤ np from by first | assumption | omega) _ _ _ (hP.sub [0, 1, 2, 3, 4, 5, 6, 7, 8, 12, 13, 14, 15, 9, 10, 11] rfl) (hD.sub [0, 1, 2, 3, 4, 5, 6, 7, 8, 12, 13, 14, 15, 9, 10, 11] (by decide) rfl) hS (lv_sub hl [1, 2, 3, 4, 0] rfl)
          · have hs : sideM pc (tc t) (rp t) dr (i + 1) = bset (sideM pc (tc t) (rp t) dr i) i := by simp only [sideM]; rw [if_pos (by rw [c_27, c_53]; rfl)]
            refine lv_iload_n (pc := 56) hx hb dX0_ropesOnSide_56 rfl (lv_at hl 3 rfl) ?_
            refine lv_iconst (pc := 57) hx hb dX0_ropesOnSide_57 gk_1 ?_
            refine lv_iload (pc := 58) hx hb dX0_ropesOnSide_58 (lv_at hl 4 rfl) ?_
            refine lv_ishl (pc := 60) hx hb dX0_ropesOnSide_60 ?_
            refine g_top (pc := 61) (w := .int (bone i)) rfl ?_
            refine lv_ior (pc := 61) hx hb dX0_ropesOnSide_61 ?_
            refine g_top (pc := 62) (w := .int (bset (sideM pc (tc t) (rp t) dr i) i)) rfl ?_
            refine lv_istore_n (pc := 62) (lv' := [(3, .int (bset (sideM pc (tc t) (rp t) dr i) i)), (0, .ref aC), (1, .int (nI t)), (2, .int (nI dr)), (4, .int (nI i))]) hx hb dX0_ropesOnSide_62 rfl hl (by decide) rfl (fun ls hl => ?_)
            have hl : lv_has ls 5 [(3, .int (sideM pc (tc t) (rp t) dr (i + 1))), (0, .ref aC), (1, .int (nI t)), (2, .int (nI dr)), (4, .int (nI i))] := Eq.mp (congrArg (fun z9 : Int32 => lv_has ls 5 [(3, .int z9), (0, .ref aC), (1, .int (nI t)), (2, .int (nI dr)), (4, .int (nI i))]) (show (bset (sideM pc (tc t) (rp t) dr i) i) = (sideM pc (tc t) (rp t) dr (i + 1)) from hs.symm)) hl
            refine lv_iinc (pc := 63) (v := nI (i + 1)) (lv' := [(4, .int (nI (i + 1))), (3, .int (sideM pc (tc t) (rp t) dr (i + 1))), (0, .ref aC), (1, .int (nI t)), (2, .int (nI dr))]) hx hb dX0_ropesOnSide_63 hl (k := 4) rfl (gi_1 _) (by decide) rfl (fun ls hl => ?_)
            refine lv_goto (pc := 66) (tgt := 5) hx hb dX0_ropesOnSide_66 (by decide) ?_
            exact ih_5 (i + 1) (by omega) (show (i + 1) ≤ np from by first | assumption | omega) _ _ _ (hP.sub [0, 1, 2, 3, 4, 5, 6, 7, 8, 12, 13, 14, 15, 9, 10, 11] rfl) (hD.sub [0, 1, 2, 3, 4, 5, 6, 7, 8, 12, 13, 14, 15, 9, 10, 11] (by decide) rfl) hS (lv_sub hl [2, 3, 4, 1, 0] rfl)
  exact lab_5 (np - 0 + 1) 0 (Nat.lt_succ_self _) (show 0 ≤ np from by first | assumption | omega) _ _ _ hP hD hS (lv_sub hl [2, 3, 4, 1, 0] rfl)
set_option maxHeartbeats 4000000 in
set_option maxRecDepth 100000 in
theorem c_X4_dropTents (l : Launch) (D : va_G) (cI cZ : ClassId) (sz : Nat) (aG0 aG1 aG2 aT0 aT1 aT2 aT3 : Nat) (nt : Nat) (tc : Nat → Nat) (ts : Nat → Nat) (rp : Nat → Int32) (st : Int32) (wt : Int32) (gs : Int32) (gi : Int32) (gr : Nat) (go : Nat → Int32) (gp : Nat → Nat) (hnt : nt ≤ 8) : gMv l yX4_dropTents cX4_dropTents 3 D cI cZ sz [(aG0, .inr (4, [.int gs, .int gi, .int (nI gr), .ref aG1, .ref aG2])), (aG1, .inl (cI, 8, .inl go)), (aG2, .inl (cI, 16, .inl (aI gp))), (aT0, .inr (5, [.ref aT1, .ref aT2, .ref aT3, .int (nI nt), .int st, .int wt])), (aT1, .inl (cI, 8, .inl (aI tc))), (aT2, .inl (cI, 8, .inl (aI ts))), (aT3, .inl (cI, 8, .inl rp))] [.ref aG0, .ref aT0] ({ frames := 0, cells := 0, slots := 0, locals := 0 } : Room) (fun (_ : Unit) => True) (fun (_ : Unit) => [(aG0, .inr (4, [.int (dropF go gi gs nt), .int gi, .int (nI gr), .ref aG1, .ref aG2])), (aG1, .inl (cI, 8, .inl go)), (aG2, .inl (cI, 16, .inl (aI gp))), (aT0, .inr (5, [.ref aT1, .ref aT2, .ref aT3, .int (nI nt), .int st, .int wt])), (aT1, .inl (cI, 8, .inl (aI tc))), (aT2, .inl (cI, 8, .inl (aI ts))), (aT3, .inl (cI, 8, .inl rp))]) 0 0 := by
  refine gM_ofv (by decide +kernel) (Nat.le_of_ble_eq_true rfl) ?_
  intro pg ev s mi below meth co A hx hb hr hml hts hown hlocks hname hA hsz hAe hP hK hD hE hS ls hl
  have hl : lv_has ls 3 [(0, .ref aG0), (1, .ref aT0)] := hl
  generalize hQ : MQ below _ _ s _ _ A = Q
  refine lv_iconst (pc := 0) hx hb dX4_dropTents_0 gk_0 ?_
  refine lv_istore_n (pc := 1) (lv' := [(2, .int (nI 0)), (0, .ref aG0), (1, .ref aT0)]) hx hb dX4_dropTents_1 rfl hl (by decide) rfl (fun ls hl => ?_)
  have lab_2 : ∀ (fuel : Nat) (i : Nat) (g : Int32), (nt - i) < fuel → (i ≤ nt) → (g = dropF go gi gs i) → ∀ (H : Heap) (locs : List Loc) (ls : Array Slot), va_P D vwCl [(aG0, .inr (4, [.int g, .int gi, .int (nI gr), .ref aG1, .ref aG2])), (aG1, .inl (cI, 8, .inl go)), (aG2, .inl (cI, 16, .inl (aI gp))), (aT0, .inr (5, [.ref aT1, .ref aT2, .ref aT3, .int (nI nt), .int st, .int wt])), (aT1, .inl (cI, 8, .inl (aI tc))), (aT2, .inl (cI, 8, .inl (aI ts))), (aT3, .inl (cI, 8, .inl rp))] H → va_D A [(aG0, .inr (4, [.int g, .int gi, .int (nI gr), .ref aG1, .ref aG2])), (aG1, .inl (cI, 8, .inl go)), (aG2, .inl (cI, 16, .inl (aI gp))), (aT0, .inr (5, [.ref aT1, .ref aT2, .ref aT3, .int (nI nt), .int st, .int wt])), (aT1, .inl (cI, 8, .inl (aI tc))), (aT2, .inl (cI, 8, .inl (aI ts))), (aT3, .inl (cI, 8, .inl rp))] → va_S A s.heap H locs → lv_has ls 3 [(0, .ref aG0), (1, .ref aT0), (2, .int (nI i))] → W pg l ev ({ frames := 0, cells := 0, slots := 0, locals := 0 } : Room) s mi [(.ref aG0 : Value), .ref aT0].toArray below meth co H locs 0 0 Q (F0 mi 2 ls []) := by
    intro fuel
    induction fuel with
    | zero => intro i g hm; exact absurd hm (Nat.not_lt_zero _)
    | succ fuel ih_2 =>
      intro i g hm_2 hi hg H locs ls hP hD hS hl
      refine lv_iload_n (pc := 2) hx hb dX4_dropTents_2 rfl (lv_at hl 2 rfl) ?_
      refine lv_aload_n (pc := 3) hx hb dX4_dropTents_3 rfl (lv_at hl 1 rfl) ?_
      refine gf_X4_46 (pc := 4) hx hb hts hown hK hP 3 rfl rfl dX4_dropTents_4 ?_
      refine g_icmp_geN (pc := 7) (tgt := 44) hx hb dX4_dropTents_7 (by decide) (by omega) (by omega) (fun c_7 => ?_) (fun c_7 => ?_)
      · obtain rfl : i = nt := by omega
        subst hg
        rw [← hQ]
        exact g_vret hx hb hr hlocks hS dX4_dropTents_44 () (trivial) hP hD
      · refine lv_aload_n (pc := 10) hx hb dX4_dropTents_10 rfl (lv_at hl 0 rfl) ?_
        refine gf_X4_9 (pc := 11) hx hb hts hown hK hP 0 rfl rfl dX4_dropTents_11 ?_
        refine lv_iload_n (pc := 14) hx hb dX4_dropTents_14 rfl (lv_at hl 2 rfl) ?_
        refine g_iald (pc := 15) (v := (go i)) hx hb hK hP 1 0 rfl rfl dX4_dropTents_15 (by first | assumption | omega) (by decide) rfl ?_
        refine lv_aload_n (pc := 16) hx hb dX4_dropTents_16 rfl (lv_at hl 0 rfl) ?_
        refine gf_X4_40 (pc := 17) hx hb hts hown hK hP 0 rfl rfl dX4_dropTents_17 ?_
        refine lv_iand (pc := 20) hx hb dX4_dropTents_20 ?_
        refine lv_if_ne (pc := 21) (tgt := 38) hx hb dX4_dropTents_21 (by decide) (fun c_21 => ?_) (fun c_21 => ?_)
        · refine lv_iinc (pc := 38) (v := nI (i + 1)) (lv' := [(2, .int (nI (i + 1))), (0, .ref aG0), (1, .ref aT0)]) hx hb dX4_dropTents_38 hl (k := 2) rfl (gi_1 _) (by decide) rfl (fun ls hl => ?_)
          refine lv_goto (pc := 41) (tgt := 2) hx hb dX4_dropTents_41 (by decide) ?_
          exact ih_2 (i + 1) g (by omega) (show (i + 1) ≤ nt from by first | assumption | omega) (show g = dropF go gi gs (i + 1) from by first | (rw [hg]; simp only [dropF]; rw [if_pos (by assumption)]) | (rw [hg]; simp only [dropF]; rw [if_neg (by assumption)])) _ _ _ hP hD hS (lv_sub hl [1, 2, 0] rfl)
        · refine lv_aload_n (pc := 24) hx hb dX4_dropTents_24 rfl (lv_at hl 0 rfl) ?_
          refine lv_dup (pc := 25) hx hb dX4_dropTents_25 rfl ?_
          refine gf_X4_30 (pc := 26) hx hb hts hown hK hP 0 rfl rfl dX4_dropTents_26 ?_
          refine lv_iconst (pc := 29) hx hb dX4_dropTents_29 gk_1 ?_
          refine lv_iload_n (pc := 30) hx hb dX4_dropTents_30 rfl (lv_at hl 2 rfl) ?_
          refine lv_ishl (pc := 31) hx hb dX4_dropTents_31 ?_
          refine g_top (pc := 32) (w := .int (bone i)) rfl ?_
          refine lv_iconst (pc := 32) (v := -1) hx hb dX4_dropTents_32 (by decide) ?_
          refine lv_ixor (pc := 33) hx hb dX4_dropTents_33 ?_
          refine g_top (pc := 34) (w := .int (bneg i)) rfl ?_
          refine lv_iand (pc := 34) hx hb dX4_dropTents_34 ?_
          refine g_top (pc := 35) (w := .int (bclr g i)) rfl ?_
          refine gp_X4_30 (pc := 35) (w2 := [(aG0, .inr (4, [.int (bclr g i), .int gi, .int (nI gr), .ref aG1, .ref aG2])), (aG1, .inl (cI, 8, .inl go)), (aG2, .inl (cI, 16, .inl (aI gp))), (aT0, .inr (5, [.ref aT1, .ref aT2, .ref aT3, .int (nI nt), .int st, .int wt])), (aT1, .inl (cI, 8, .inl (aI tc))), (aT2, .inl (cI, 8, .inl (aI ts))), (aT3, .inl (cI, 8, .inl rp))]) hx hb hts hown hK hP hD hS 0 rfl rfl rfl rfl (Nat.le_of_ble_eq_true rfl) dX4_dropTents_35 (fun H locs hP hD hS => ?_)
          refine lv_iinc (pc := 38) (v := nI (i + 1)) (lv' := [(2, .int (nI (i + 1))), (0, .ref aG0), (1, .ref aT0)]) hx hb dX4_dropTents_38 hl (k := 2) rfl (gi_1 _) (by decide) rfl (fun ls hl => ?_)
          refine lv_goto (pc := 41) (tgt := 2) hx hb dX4_dropTents_41 (by decide) ?_
          exact ih_2 (i + 1) (bclr g i) (by omega) (show (i + 1) ≤ nt from by first | assumption | omega) (show (bclr g i) = dropF go gi gs (i + 1) from by first | (rw [hg]; simp only [dropF]; rw [if_pos (by assumption)]) | (rw [hg]; simp only [dropF]; rw [if_neg (by assumption)])) _ _ _ hP hD hS (lv_sub hl [1, 2, 0] rfl)
  exact lab_2 (nt - 0 + 1) 0 gs (Nat.lt_succ_self _) (show 0 ≤ nt from by first | assumption | omega) (show gs = dropF go gi gs 0 from by rfl) _ _ _ hP hD hS (lv_sub hl [1, 2, 0] rfl)
set_option maxHeartbeats 4000000 in
set_option maxRecDepth 100000 in
theorem c_X4_addPull (l : Launch) (D : va_G) (cI cZ : ClassId) (sz : Nat) (aG0 aG1 aG2 : Nat) (gs : Int32) (gi : Int32) (gr : Nat) (go : Nat → Int32) (gp : Nat → Nat) (x : Int32) (e9 : Nat)  : gMv l yX4_addPull cX4_addPull 4 D cI cZ sz [(aG0, .inr (4, [.int gs, .int gi, .int (nI gr), .ref aG1, .ref aG2])), (aG1, .inl (cI, 8, .inl go)), (aG2, .inl (cI, 16, .inl (aI gp)))] [.ref aG0, .int x, .int (nI e9)] ({ frames := 1, cells := 0, slots := 0, locals := 21 } : Room) (fun (u : (Nat → Nat)) => (∀ p, p < 16 → u p = if bt x p = true then gp p + e9 else gp p)) (fun (u : (Nat → Nat)) => [(aG0, .inr (4, [.int gs, .int gi, .int (nI gr), .ref aG1, .ref aG2])), (aG1, .inl (cI, 8, .inl go)), (aG2, .inl (cI, 16, .inl (aI u)))]) 0 0 := by
  refine gM_ofv (by decide +kernel) (Nat.le_of_ble_eq_true rfl) ?_
  intro pg ev s mi below meth co A hx hb hr hml hts hown hlocks hname hA hsz hAe hP hK hD hE hS ls hl
  have hl : lv_has ls 4 [(0, .ref aG0), (1, .int x), (2, .int (nI e9))] := hl
  generalize hQ : MQ below _ _ s _ _ A = Q
  refine lv_iconst (pc := 0) hx hb dX4_addPull_0 gk_0 ?_
  refine lv_istore_n (pc := 1) (lv' := [(3, .int (nI 0)), (0, .ref aG0), (1, .int x), (2, .int (nI e9))]) hx hb dX4_addPull_1 rfl hl (by decide) rfl (fun ls hl => ?_)
  have lab_2 : ∀ (fuel : Nat) (i : Nat) (g : Nat → Nat), (16 - i) < fuel → (i ≤ 16) → (∀ p, p < i → g p = if bt x p = true then gp p + e9 else gp p) → (∀ p, i ≤ p → g p = gp p) → ∀ (H : Heap) (locs : List Loc) (ls : Array Slot), va_P D vwCl [(aG0, .inr (4, [.int gs, .int gi, .int (nI gr), .ref aG1, .ref aG2])), (aG1, .inl (cI, 8, .inl go)), (aG2, .inl (cI, 16, .inl (aI g)))] H → va_D A [(aG0, .inr (4, [.int gs, .int gi, .int (nI gr), .ref aG1, .ref aG2])), (aG1, .inl (cI, 8, .inl go)), (aG2, .inl (cI, 16, .inl (aI g)))] → va_S A s.heap H locs → lv_has ls 4 [(0, .ref aG0), (1, .int x), (2, .int (nI e9)), (3, .int (nI i))] → W pg l ev ({ frames := 1, cells := 0, slots := 0, locals := 21 } : Room) s mi [(.ref aG0 : Value), .int x, .int (nI e9)].toArray below meth co H locs 0 0 Q (F0 mi 2 ls []) := by
    intro fuel
    induction fuel with
    | zero => intro i g hm; exact absurd hm (Nat.not_lt_zero _)
    | succ fuel ih_2 =>
      intro i g hm_2 hi k1 k2 H locs ls hP hD hS hl
      refine lv_iload_n (pc := 2) hx hb dX4_addPull_2 rfl (lv_at hl 3 rfl) ?_
      refine lv_bipush (pc := 3) (v := nI 16) hx hb dX4_addPull_3 (by decide) ?_
      refine g_icmp_geN (pc := 5) (tgt := 32) hx hb dX4_addPull_5 (by decide) (by omega) (by omega) (fun c_5 => ?_) (fun c_5 => ?_)
      · rw [← hQ]
        exact g_vret hx hb hr hlocks hS dX4_addPull_32 g (by exact fun p hp => k1 p (by omega)) hP hD
      · refine lv_iload_n (pc := 8) hx hb dX4_addPull_8 rfl (lv_at hl 1 rfl) ?_
        refine lv_iload_n (pc := 9) hx hb dX4_addPull_9 rfl (lv_at hl 3 rfl) ?_
        refine g_nsi (pc := 10) (As := [.int x, .int (nI i)]) (rest := []) (wc := []) (wr := [(aG0, .inr (4, [.int gs, .int gi, .int (nI gr), .ref aG1, .ref aG2])), (aG1, .inl (cI, 8, .inl go)), (aG2, .inl (cI, 16, .inl (aI g)))]) lk_X4_71 hx hb hml hts hown hE hA hK hP hD hS hl (c_X6_hasBit l D cI cZ _ x i (show i < 32 from by first | assumption | omega)) dX4_addPull_10 [] [0, 1, 2] rfl rfl (by decide) (by decide) (by decide) rfl rfl ⟨rfl, rfl, Nat.le_of_ble_eq_true rfl, Nat.le_of_ble_eq_true rfl, Nat.le_refl _, Nat.le_refl _⟩ (Nat.le_of_ble_eq_true rfl) (fun r u H locs hw hP hD hS => ?_)
        have hP : va_P D vwCl [(aG0, .inr (4, [.int gs, .int gi, .int (nI gr), .ref aG1, .ref aG2])), (aG1, .inl (cI, 8, .inl go)), (aG2, .inl (cI, 16, .inl (aI g)))] H := hP
        have hD : va_D A [(aG0, .inr (4, [.int gs, .int gi, .int (nI gr), .ref aG1, .ref aG2])), (aG1, .inl (cI, 8, .inl go)), (aG2, .inl (cI, 16, .inl (aI g)))] := hD
        have hw : r = bI (bt x i) := hw
        obtain rfl := hw
        refine g_if_eqB (pc := 13) (tgt := 26) hx hb dX4_addPull_13 (by decide) (fun c_13 => ?_) (fun c_13 => ?_)
        · have hn1 : ∀ p, p < i + 1 → g p = if bt x p = true then gp p + e9 else gp p := lt_s k1 (by rw [c_13]; exact k2 i (Nat.le_refl i))
          refine lv_iinc (pc := 26) (v := nI (i + 1)) (lv' := [(3, .int (nI (i + 1))), (0, .ref aG0), (1, .int x), (2, .int (nI e9))]) hx hb dX4_addPull_26 hl (k := 3) rfl (gi_1 _) (by decide) rfl (fun ls hl => ?_)
          refine lv_goto (pc := 29) (tgt := 2) hx hb dX4_addPull_29 (by decide) ?_
          exact ih_2 (i + 1) g (by omega) (show (i + 1) ≤ 16 from by first | assumption | omega) (show ∀ p, p < (i + 1) → g p = if bt x p = true then gp p + e9 else gp p from by first | exact hn1) (show ∀ p, (i + 1) ≤ p → g p = gp p from by first | (intro j h; unfold va_up; rw [if_neg (by omega)]; exact k2 j (by omega)) | exact fun j h => k2 j (by omega)) _ _ _ hP hD hS (lv_sub hl [1, 2, 3, 0] rfl)
        · have hn1 : ∀ p, p < i + 1 → va_up g i (g i + e9) p = if bt x p = true then gp p + e9 else gp p := lt_s (fun j h => by unfold va_up; rw [if_neg (by omega)]; exact k1 j h) (by unfold va_up; rw [if_pos rfl, if_pos c_13, k2 i (Nat.le_refl i)])
          refine lv_aload_n (pc := 16) hx hb dX4_addPull_16 rfl (lv_at hl 0 rfl) ?_
          refine gf_X4_15 (pc := 17) hx hb hts hown hK hP 0 rfl rfl dX4_addPull_17 ?_
          refine lv_iload_n (pc := 20) hx hb dX4_addPull_20 rfl (lv_at hl 3 rfl) ?_
          refine lv_dup2_11 (pc := 21) hx hb dX4_addPull_21 rfl rfl ?_
          refine g_iald (pc := 22) (v := nI (g i)) hx hb hK hP 2 0 rfl rfl dX4_addPull_22 (by first | assumption | omega) (by decide) rfl ?_
          refine lv_iload_n (pc := 23) hx hb dX4_addPull_23 rfl (lv_at hl 2 rfl) ?_
          refine g_iadd (pc := 24) hx hb dX4_addPull_24 (nI_add _ _) ?_
          refine g_iast (pc := 25) (g := aI (va_up g i (g i + e9))) (w2 := [(aG0, .inr (4, [.int gs, .int gi, .int (nI gr), .ref aG1, .ref aG2])), (aG1, .inl (cI, 8, .inl go)), (aG2, .inl (cI, 16, .inl (aI (va_up g i (g i + e9)))))]) hx hb hK hP hD hS 2 0 rfl rfl dX4_addPull_25 rfl (by first | assumption | omega) (by decide) (aI_up _ _ _) (fun H locs hP hD hS => ?_)
          refine lv_iinc (pc := 26) (v := nI (i + 1)) (lv' := [(3, .int (nI (i + 1))), (0, .ref aG0), (1, .int x), (2, .int (nI e9))]) hx hb dX4_addPull_26 hl (k := 3) rfl (gi_1 _) (by decide) rfl (fun ls hl => ?_)
          refine lv_goto (pc := 29) (tgt := 2) hx hb dX4_addPull_29 (by decide) ?_
          exact ih_2 (i + 1) (va_up g i (g i + e9)) (by omega) (show (i + 1) ≤ 16 from by first | assumption | omega) (show ∀ p, p < (i + 1) → (va_up g i (g i + e9)) p = if bt x p = true then gp p + e9 else gp p from by first | exact hn1) (show ∀ p, (i + 1) ≤ p → (va_up g i (g i + e9)) p = gp p from by first | (intro j h; unfold va_up; rw [if_neg (by omega)]; exact k2 j (by omega)) | exact fun j h => k2 j (by omega)) _ _ _ hP hD hS (lv_sub hl [1, 2, 3, 0] rfl)
  exact lab_2 (16 - 0 + 1) 0 gp (Nat.lt_succ_self _) (show 0 ≤ 16 from by first | assumption | omega) (show ∀ p, p < 0 → gp p = if bt x p = true then gp p + e9 else gp p from by exact fun j h => absurd h (Nat.not_lt_zero j)) (show ∀ p, 0 ≤ p → gp p = gp p from by exact fun j h => rfl) _ _ _ hP hD hS (lv_sub hl [1, 2, 3, 0] rfl)
set_option maxHeartbeats 4000000 in
set_option maxRecDepth 100000 in
theorem c_X4_pullAtPegs (l : Launch) (D : va_G) (cI cZ : ClassId) (sz : Nat) (aG0 aG1 aG2 aT0 aT1 aT2 aT3 : Nat) (nt : Nat) (tc : Nat → Nat) (ts : Nat → Nat) (rp : Nat → Int32) (st : Int32) (wt : Int32) (gs : Int32) (gi : Int32) (gr : Nat) (go : Nat → Int32) (gp : Nat → Nat) (fo : Nat) (hnt : nt ≤ 8) (hfo : fo ≤ 9) (hts9 : ∀ j9, j9 < 8 → ts j9 ≤ 9) : gMv l yX4_pullAtPegs cX4_pullAtPegs 6 D cI cZ sz [(aG0, .inr (4, [.int gs, .int gi, .int (nI gr), .ref aG1, .ref aG2])), (aG1, .inl (cI, 8, .inl go)), (aG2, .inl (cI, 16, .inl (aI gp))), (aT0, .inr (5, [.ref aT1, .ref aT2, .ref aT3, .int (nI nt), .int st, .int wt])), (aT1, .inl (cI, 8, .inl (aI tc))), (aT2, .inl (cI, 8, .inl (aI ts))), (aT3, .inl (cI, 8, .inl rp))] [.ref aG0, .ref aT0, .int (nI fo)] ({ frames := 2, cells := 0, slots := 0, locals := 44 } : Room) (fun (u : (Nat → Nat)) => (∀ p, p < 16 → u p = pullF go ts gi gs fo p nt)) (fun (u : (Nat → Nat)) => [(aG0, .inr (4, [.int gs, .int gi, .int (nI gr), .ref aG1, .ref aG2])), (aG1, .inl (cI, 8, .inl go)), (aG2, .inl (cI, 16, .inl (aI u))), (aT0, .inr (5, [.ref aT1, .ref aT2, .ref aT3, .int (nI nt), .int st, .int wt])), (aT1, .inl (cI, 8, .inl (aI tc))), (aT2, .inl (cI, 8, .inl (aI ts))), (aT3, .inl (cI, 8, .inl rp))]) 0 0 := by
  refine gM_ofv (by decide +kernel) (Nat.le_of_ble_eq_true rfl) ?_
  intro pg ev s mi below meth co A hx hb hr hml hts hown hlocks hname hA hsz hAe hP hK hD hE hS ls hl
  have hl : lv_has ls 6 [(0, .ref aG0), (1, .ref aT0), (2, .int (nI fo))] := hl
  generalize hQ : MQ below _ _ s _ _ A = Q
  refine lv_iconst (pc := 0) hx hb dX4_pullAtPegs_0 gk_0 ?_
  refine lv_istore_n (pc := 1) (lv' := [(3, .int (nI 0)), (0, .ref aG0), (1, .ref aT0), (2, .int (nI fo))]) hx hb dX4_pullAtPegs_1 rfl hl (by decide) rfl (fun ls hl => ?_)
  have lab_2 : ∀ (fuel : Nat) (i : Nat) (g : Nat → Nat), (16 - i) < fuel → (i ≤ 16) → (∀ p, p < i → g p = 0) → ∀ (H : Heap) (locs : List Loc) (ls : Array Slot), va_P D vwCl [(aG0, .inr (4, [.int gs, .int gi, .int (nI gr), .ref aG1, .ref aG2])), (aG1, .inl (cI, 8, .inl go)), (aG2, .inl (cI, 16, .inl (aI g))), (aT0, .inr (5, [.ref aT1, .ref aT2, .ref aT3, .int (nI nt), .int st, .int wt])), (aT1, .inl (cI, 8, .inl (aI tc))), (aT2, .inl (cI, 8, .inl (aI ts))), (aT3, .inl (cI, 8, .inl rp))] H → va_D A [(aG0, .inr (4, [.int gs, .int gi, .int (nI gr), .ref aG1, .ref aG2])), (aG1, .inl (cI, 8, .inl go)), (aG2, .inl (cI, 16, .inl (aI g))), (aT0, .inr (5, [.ref aT1, .ref aT2, .ref aT3, .int (nI nt), .int st, .int wt])), (aT1, .inl (cI, 8, .inl (aI tc))), (aT2, .inl (cI, 8, .inl (aI ts))), (aT3, .inl (cI, 8, .inl rp))] → va_S A s.heap H locs → lv_has ls 6 [(0, .ref aG0), (1, .ref aT0), (2, .int (nI fo)), (3, .int (nI i))] → W pg l ev ({ frames := 2, cells := 0, slots := 0, locals := 44 } : Room) s mi [(.ref aG0 : Value), .ref aT0, .int (nI fo)].toArray below meth co H locs 0 0 Q (F0 mi 2 ls []) := by
    intro fuel
    induction fuel with
    | zero => intro i g hm; exact absurd hm (Nat.not_lt_zero _)
    | succ fuel ih_2 =>
      intro i g hm_2 hi k1 H locs ls hP hD hS hl
      refine lv_iload_n (pc := 2) hx hb dX4_pullAtPegs_2 rfl (lv_at hl 3 rfl) ?_
      refine lv_bipush (pc := 3) (v := nI 16) hx hb dX4_pullAtPegs_3 (by decide) ?_
      refine g_icmp_geN (pc := 5) (tgt := 21) hx hb dX4_pullAtPegs_5 (by decide) (by omega) (by omega) (fun c_5 => ?_) (fun c_5 => ?_)
      · refine lv_iconst (pc := 21) hx hb dX4_pullAtPegs_21 gk_0 ?_
        refine lv_istore_n (pc := 22) (lv' := [(3, .int (nI 0)), (0, .ref aG0), (1, .ref aT0), (2, .int (nI fo))]) hx hb dX4_pullAtPegs_22 rfl hl (by decide) rfl (fun ls hl => ?_)
        have lab_23 : ∀ (fuel : Nat) (i : Nat) (g : Nat → Nat), (nt - i) < fuel → (i ≤ nt) → (∀ p, p < 16 → g p = pullF go ts gi gs fo p i) → ∀ (H : Heap) (locs : List Loc) (ls : Array Slot), va_P D vwCl [(aG0, .inr (4, [.int gs, .int gi, .int (nI gr), .ref aG1, .ref aG2])), (aG1, .inl (cI, 8, .inl go)), (aG2, .inl (cI, 16, .inl (aI g))), (aT0, .inr (5, [.ref aT1, .ref aT2, .ref aT3, .int (nI nt), .int st, .int wt])), (aT1, .inl (cI, 8, .inl (aI tc))), (aT2, .inl (cI, 8, .inl (aI ts))), (aT3, .inl (cI, 8, .inl rp))] H → va_D A [(aG0, .inr (4, [.int gs, .int gi, .int (nI gr), .ref aG1, .ref aG2])), (aG1, .inl (cI, 8, .inl go)), (aG2, .inl (cI, 16, .inl (aI g))), (aT0, .inr (5, [.ref aT1, .ref aT2, .ref aT3, .int (nI nt), .int st, .int wt])), (aT1, .inl (cI, 8, .inl (aI tc))), (aT2, .inl (cI, 8, .inl (aI ts))), (aT3, .inl (cI, 8, .inl rp))] → va_S A s.heap H locs → lv_has ls 6 [(0, .ref aG0), (1, .ref aT0), (2, .int (nI fo)), (3, .int (nI i))] → W pg l ev ({ frames := 2, cells := 0, slots := 0, locals := 44 } : Room) s mi [(.ref aG0 : Value), .ref aT0, .int (nI fo)].toArray below meth co H locs 0 0 Q (F0 mi 23 ls []) := by
          intro fuel
          induction fuel with
          | zero => intro i g hm; exact absurd hm (Nat.not_lt_zero _)
          | succ fuel ih_23 =>
            intro i g hm_23 hi2 k2 H locs ls hP hD hS hl
            refine lv_iload_n (pc := 23) hx hb dX4_pullAtPegs_23 rfl (lv_at hl 3 rfl) ?_
            refine lv_aload_n (pc := 24) hx hb dX4_pullAtPegs_24 rfl (lv_at hl 1 rfl) ?_
            refine gf_X4_46 (pc := 25) hx hb hts hown hK hP 3 rfl rfl dX4_pullAtPegs_25 ?_
            refine g_icmp_geN (pc := 28) (tgt := 90) hx hb dX4_pullAtPegs_28 (by decide) (by omega) (by omega) (fun c_28 => ?_) (fun c_28 => ?_)
            · rw [← hQ]
              exact g_vret hx hb hr hlocks hS dX4_pullAtPegs_90 g (by exact fun p hp => by rw [k2 p hp, show i = nt by omega]) hP hD
            · refine lv_aload_n (pc := 31) hx hb dX4_pullAtPegs_31 rfl (lv_at hl 0 rfl) ?_
              refine gf_X4_9 (pc := 32) hx hb hts hown hK hP 0 rfl rfl dX4_pullAtPegs_32 ?_
              refine lv_iload_n (pc := 35) hx hb dX4_pullAtPegs_35 rfl (lv_at hl 3 rfl) ?_
              refine g_iald (pc := 36) (v := (go i)) hx hb hK hP 1 0 rfl rfl dX4_pullAtPegs_36 (by first | assumption | omega) (by decide) rfl ?_
              refine lv_aload_n (pc := 37) hx hb dX4_pullAtPegs_37 rfl (lv_at hl 0 rfl) ?_
              refine gf_X4_40 (pc := 38) hx hb hts hown hK hP 0 rfl rfl dX4_pullAtPegs_38 ?_
              refine lv_iand (pc := 41) hx hb dX4_pullAtPegs_41 ?_
              refine lv_istore (pc := 42) (lv' := [(4, .int ((go i) &&& gi)), (0, .ref aG0), (1, .ref aT0), (2, .int (nI fo)), (3, .int (nI i))]) hx hb dX4_pullAtPegs_42 hl (by decide) rfl (fun ls hl => ?_)
              refine lv_iload (pc := 44) hx hb dX4_pullAtPegs_44 (lv_at hl 0 rfl) ?_
              refine g_si (pc := 46) (As := [.int ((go i) &&& gi)]) (rest := []) (wc := []) (wr := [(aG0, .inr (4, [.int gs, .int gi, .int (nI gr), .ref aG1, .ref aG2])), (aG1, .inl (cI, 8, .inl go)), (aG2, .inl (cI, 16, .inl (aI g))), (aT0, .inr (5, [.ref aT1, .ref aT2, .ref aT3, .int (nI nt), .int st, .int wt])), (aT1, .inl (cI, 8, .inl (aI tc))), (aT2, .inl (cI, 8, .inl (aI ts))), (aT3, .inl (cI, 8, .inl rp))]) lk_X4_65 hx hb hml hts hown hE hA hK hP hD hS hl (c_J6_bitCount_0f7a4 l D cI cZ _ ((go i) &&& gi)) dX4_pullAtPegs_46 [] [0, 1, 2, 3, 4, 5, 6] rfl rfl (by decide) (by decide) (by decide) rfl rfl ⟨rfl, rfl, Nat.le_of_ble_eq_true rfl, Nat.le_of_ble_eq_true rfl, Nat.le_refl _, Nat.le_refl _⟩ (Nat.le_of_ble_eq_true rfl) (fun r u H locs hw hP hD hS => ?_)
              have hP : va_P D vwCl [(aG0, .inr (4, [.int gs, .int gi, .int (nI gr), .ref aG1, .ref aG2])), (aG1, .inl (cI, 8, .inl go)), (aG2, .inl (cI, 16, .inl (aI g))), (aT0, .inr (5, [.ref aT1, .ref aT2, .ref aT3, .int (nI nt), .int st, .int wt])), (aT1, .inl (cI, 8, .inl (aI tc))), (aT2, .inl (cI, 8, .inl (aI ts))), (aT3, .inl (cI, 8, .inl rp))] H := hP
              have hD : va_D A [(aG0, .inr (4, [.int gs, .int gi, .int (nI gr), .ref aG1, .ref aG2])), (aG1, .inl (cI, 8, .inl go)), (aG2, .inl (cI, 16, .inl (aI g))), (aT0, .inr (5, [.ref aT1, .ref aT2, .ref aT3, .int (nI nt), .int st, .int wt])), (aT1, .inl (cI, 8, .inl (aI tc))), (aT2, .inl (cI, 8, .inl (aI ts))), (aT3, .inl (cI, 8, .inl rp))] := hD
              have hw : r = nI (pop ((go i) &&& gi)) := hw
              obtain rfl := hw
              refine lv_istore (pc := 49) (lv' := [(5, .int (nI (pop ((go i) &&& gi)))), (4, .int ((go i) &&& gi)), (0, .ref aG0), (1, .ref aT0), (2, .int (nI fo)), (3, .int (nI i))]) hx hb dX4_pullAtPegs_49 hl (by decide) rfl (fun ls hl => ?_)
              refine lv_aload_n (pc := 51) hx hb dX4_pullAtPegs_51 rfl (lv_at hl 2 rfl) ?_
              refine gf_X4_30 (pc := 52) hx hb hts hown hK hP 0 rfl rfl dX4_pullAtPegs_52 ?_
              refine lv_iload_n (pc := 55) hx hb dX4_pullAtPegs_55 rfl (lv_at hl 5 rfl) ?_
              refine g_nsi (pc := 56) (As := [.int gs, .int (nI i)]) (rest := []) (wc := []) (wr := [(aG0, .inr (4, [.int gs, .int gi, .int (nI gr), .ref aG1, .ref aG2])), (aG1, .inl (cI, 8, .inl go)), (aG2, .inl (cI, 16, .inl (aI g))), (aT0, .inr (5, [.ref aT1, .ref aT2, .ref aT3, .int (nI nt), .int st, .int wt])), (aT1, .inl (cI, 8, .inl (aI tc))), (aT2, .inl (cI, 8, .inl (aI ts))), (aT3, .inl (cI, 8, .inl rp))]) lk_X4_71 hx hb hml hts hown hE hA hK hP hD hS hl (c_X6_hasBit l D cI cZ _ gs i (show i < 32 from by first | assumption | omega)) dX4_pullAtPegs_56 [] [0, 1, 2, 3, 4, 5, 6] rfl rfl (by decide) (by decide) (by decide) rfl rfl ⟨rfl, rfl, Nat.le_of_ble_eq_true rfl, Nat.le_of_ble_eq_true rfl, Nat.le_refl _, Nat.le_refl _⟩ (Nat.le_of_ble_eq_true rfl) (fun r u H locs hw hP hD hS => ?_)
              have hP : va_P D vwCl [(aG0, .inr (4, [.int gs, .int gi, .int (nI gr), .ref aG1, .ref aG2])), (aG1, .inl (cI, 8, .inl go)), (aG2, .inl (cI, 16, .inl (aI g))), (aT0, .inr (5, [.ref aT1, .ref aT2, .ref aT3, .int (nI nt), .int st, .int wt])), (aT1, .inl (cI, 8, .inl (aI tc))), (aT2, .inl (cI, 8, .inl (aI ts))), (aT3, .inl (cI, 8, .inl rp))] H := hP
              have hD : va_D A [(aG0, .inr (4, [.int gs, .int gi, .int (nI gr), .ref aG1, .ref aG2])), (aG1, .inl (cI, 8, .inl go)), (aG2, .inl (cI, 16, .inl (aI g))), (aT0, .inr (5, [.ref aT1, .ref aT2, .ref aT3, .int (nI nt), .int st, .int wt])), (aT1, .inl (cI, 8, .inl (aI tc))), (aT2, .inl (cI, 8, .inl (aI ts))), (aT3, .inl (cI, 8, .inl rp))] := hD
              have hw : r = bI (bt gs i) := hw
              obtain rfl := hw
              refine g_if_eqB (pc := 59) (tgt := 84) hx hb dX4_pullAtPegs_59 (by decide) (fun c_59 => ?_) (fun c_59 => ?_)
              · have hn2 : ∀ p, p < 16 → g p = pullF go ts gi gs fo p (i + 1) := fun p hp => by simp only [pullF]; rw [if_neg (fun q => by rw [c_59] at q; cases q.1)]; exact k2 p hp
                refine lv_iinc (pc := 84) (v := nI (i + 1)) (lv' := [(3, .int (nI (i + 1))), (5, .int (nI (pop ((go i) &&& gi)))), (4, .int ((go i) &&& gi)), (0, .ref aG0), (1, .ref aT0), (2, .int (nI fo))]) hx hb dX4_pullAtPegs_84 hl (k := 5) rfl (gi_1 _) (by decide) rfl (fun ls hl => ?_)
                refine lv_goto (pc := 87) (tgt := 23) hx hb dX4_pullAtPegs_87 (by decide) ?_
                exact ih_23 (i + 1) g (by omega) (show (i + 1) ≤ nt from by first | assumption | omega) (show ∀ p, p < 16 → g p = pullF go ts gi gs fo p (i + 1) from by exact hn2) _ _ _ hP hD hS (lv_sub hl [3, 4, 5, 0] rfl)
              · refine lv_iload (pc := 62) hx hb dX4_pullAtPegs_62 (lv_at hl 0 rfl) ?_
                refine g_if_leN (pc := 64) (tgt := 84) hx hb dX4_pullAtPegs_64 (by decide) (by have := pop_le (go i &&& gi); omega) (fun c_64 => ?_) (fun c_64 => ?_)
                · have hn2 : ∀ p, p < 16 → g p = pullF go ts gi gs fo p (i + 1) := fun p hp => by simp only [pullF]; rw [if_neg (fun q => by omega)]; exact k2 p hp
                  refine lv_iinc (pc := 84) (v := nI (i + 1)) (lv' := [(3, .int (nI (i + 1))), (5, .int (nI (pop ((go i) &&& gi)))), (4, .int ((go i) &&& gi)), (0, .ref aG0), (1, .ref aT0), (2, .int (nI fo))]) hx hb dX4_pullAtPegs_84 hl (k := 5) rfl (gi_1 _) (by decide) rfl (fun ls hl => ?_)
                  refine lv_goto (pc := 87) (tgt := 23) hx hb dX4_pullAtPegs_87 (by decide) ?_
                  exact ih_23 (i + 1) g (by omega) (show (i + 1) ≤ nt from by first | assumption | omega) (show ∀ p, p < 16 → g p = pullF go ts gi gs fo p (i + 1) from by exact hn2) _ _ _ hP hD hS (lv_sub hl [3, 4, 5, 0] rfl)
                · refine lv_aload_n (pc := 67) hx hb dX4_pullAtPegs_67 rfl (lv_at hl 2 rfl) ?_
                  refine lv_iload (pc := 68) hx hb dX4_pullAtPegs_68 (lv_at hl 1 rfl) ?_
                  refine lv_aload_n (pc := 70) hx hb dX4_pullAtPegs_70 rfl (lv_at hl 3 rfl) ?_
                  refine gf_X4_75 (pc := 71) hx hb hts hown hK hP 3 rfl rfl dX4_pullAtPegs_71 ?_
                  refine lv_iload_n (pc := 74) hx hb dX4_pullAtPegs_74 rfl (lv_at hl 5 rfl) ?_
                  refine g_iald (pc := 75) (v := nI (ts i)) hx hb hK hP 5 0 rfl rfl dX4_pullAtPegs_75 (by first | assumption | omega) (by decide) rfl ?_
                  refine lv_iload_n (pc := 76) hx hb dX4_pullAtPegs_76 rfl (lv_at hl 4 rfl) ?_
                  refine g_imul (pc := 77) hx hb dX4_pullAtPegs_77 (pk_mul _ _) ?_
                  refine lv_iload (pc := 78) hx hb dX4_pullAtPegs_78 (lv_at hl 0 rfl) ?_
                  refine g_idiv (pc := 80) hx hb dX4_pullAtPegs_80 (nI_ne0 (by have := pop_le (go i &&& gi); have h8 : ts i * fo ≤ 9 * 9 := Nat.mul_le_mul (hts9 i (by omega)) hfo; omega) (by have := pop_le (go i &&& gi); have h8 : ts i * fo ≤ 9 * 9 := Nat.mul_le_mul (hts9 i (by omega)) hfo; omega)) (pk_div (by have := pop_le (go i &&& gi); have h8 : ts i * fo ≤ 9 * 9 := Nat.mul_le_mul (hts9 i (by omega)) hfo; omega) (by have := pop_le (go i &&& gi); have h8 : ts i * fo ≤ 9 * 9 := Nat.mul_le_mul (hts9 i (by omega)) hfo; omega) (by have := pop_le (go i &&& gi); have h8 : ts i * fo ≤ 9 * 9 := Nat.mul_le_mul (hts9 i (by omega)) hfo; omega)) ?_
                  refine g_vv (pc := 81) (As := [.int ((go i) &&& gi), .int (nI (((ts i) * fo) / (pop ((go i) &&& gi))))]) (rest := []) (wc := [(aG0, .inr (4, [.int gs, .int gi, .int (nI gr), .ref aG1, .ref aG2])), (aG1, .inl (cI, 8, .inl go)), (aG2, .inl (cI, 16, .inl (aI g)))]) (wr := [(aT0, .inr (5, [.ref aT1, .ref aT2, .ref aT3, .int (nI nt), .int st, .int wt])), (aT1, .inl (cI, 8, .inl (aI tc))), (aT2, .inl (cI, 8, .inl (aI ts))), (aT3, .inl (cI, 8, .inl rp))]) lk_X4_78 hx hb hml hts hown hE hA hK hP hD hS hl (c_X4_addPull l D cI cZ _ aG0 aG1 aG2 gs gi gr go g ((go i) &&& gi) (((ts i) * fo) / (pop ((go i) &&& gi)))) rfl rfl dX4_pullAtPegs_81 [0, 1, 2] [3, 4, 5, 6] rfl rfl (by decide) (by decide) (by decide) rfl rfl ⟨rfl, rfl, Nat.le_of_ble_eq_true rfl, Nat.le_of_ble_eq_true rfl, Nat.le_refl _, Nat.le_refl _⟩ (Nat.le_of_ble_eq_true rfl) (fun u H locs hw hP hD hS => ?_)
                  obtain ⟨g2_81, rfl⟩ : ∃ z, z = u := ⟨_, rfl⟩
                  have hP : va_P D vwCl [(aT0, .inr (5, [.ref aT1, .ref aT2, .ref aT3, .int (nI nt), .int st, .int wt])), (aT1, .inl (cI, 8, .inl (aI tc))), (aT2, .inl (cI, 8, .inl (aI ts))), (aT3, .inl (cI, 8, .inl rp)), (aG0, .inr (4, [.int gs, .int gi, .int (nI gr), .ref aG1, .ref aG2])), (aG1, .inl (cI, 8, .inl go)), (aG2, .inl (cI, 16, .inl (aI g2_81)))] H := hP
                  have hD : va_D A [(aT0, .inr (5, [.ref aT1, .ref aT2, .ref aT3, .int (nI nt), .int st, .int wt])), (aT1, .inl (cI, 8, .inl (aI tc))), (aT2, .inl (cI, 8, .inl (aI ts))), (aT3, .inl (cI, 8, .inl rp)), (aG0, .inr (4, [.int gs, .int gi, .int (nI gr), .ref aG1, .ref aG2])), (aG1, .inl (cI, 8, .inl go)), (aG2, .inl (cI, 16, .inl (aI g2_81)))] := hD
                  have hw : (∀ p, p < 16 → g2_81 p = if bt ((go i) &&& gi) p = true then g p + (((ts i) * fo) / (pop ((go i) &&& gi))) else g p) := hw
                  have hg_81 := hw
                  have hn2 : ∀ p, p < 16 → g2_81 p = pullF go ts gi gs fo p (i + 1) := fun p hp => by
                    rw [hg_81 p hp]
                    simp only [pullF]
                    by_cases hb9 : bt (go i &&& gi) p = true
                    · rw [if_pos hb9, if_pos ⟨c_59, c_64, hb9⟩, k2 p hp]
                    · rw [if_neg hb9, if_neg (fun q => hb9 q.2.2), k2 p hp]
                  refine lv_iinc (pc := 84) (v := nI (i + 1)) (lv' := [(3, .int (nI (i + 1))), (5, .int (nI (pop ((go i) &&& gi)))), (4, .int ((go i) &&& gi)), (0, .ref aG0), (1, .ref aT0), (2, .int (nI fo))]) hx hb dX4_pullAtPegs_84 hl (k := 5) rfl (gi_1 _) (by decide) rfl (fun ls hl => ?_)
                  refine lv_goto (pc := 87) (tgt := 23) hx hb dX4_pullAtPegs_87 (by decide) ?_
                  exact ih_23 (i + 1) g2_81 (by omega) (show (i + 1) ≤ nt from by first | assumption | omega) (show ∀ p, p < 16 → g2_81 p = pullF go ts gi gs fo p (i + 1) from by exact hn2) _ _ _ (hP.sub [4, 5, 6, 0, 1, 2, 3] rfl) (hD.sub [4, 5, 6, 0, 1, 2, 3] (by decide) rfl) hS (lv_sub hl [3, 4, 5, 0] rfl)
        exact lab_23 (nt - 0 + 1) 0 g (Nat.lt_succ_self _) (show 0 ≤ nt from by first | assumption | omega) (show ∀ p, p < 16 → g p = pullF go ts gi gs fo p 0 from by exact fun p hp => k1 p (by omega)) _ _ _ hP hD hS (lv_sub hl [1, 2, 3, 0] rfl)
      · refine lv_aload_n (pc := 8) hx hb dX4_pullAtPegs_8 rfl (lv_at hl 0 rfl) ?_
        refine gf_X4_15 (pc := 9) hx hb hts hown hK hP 0 rfl rfl dX4_pullAtPegs_9 ?_
        refine lv_iload_n (pc := 12) hx hb dX4_pullAtPegs_12 rfl (lv_at hl 3 rfl) ?_
        refine lv_iconst (pc := 13) hx hb dX4_pullAtPegs_13 gk_0 ?_
        refine g_iast (pc := 14) (g := aI (va_up g i 0)) (w2 := [(aG0, .inr (4, [.int gs, .int gi, .int (nI gr), .ref aG1, .ref aG2])), (aG1, .inl (cI, 8, .inl go)), (aG2, .inl (cI, 16, .inl (aI (va_up g i 0)))), (aT0, .inr (5, [.ref aT1, .ref aT2, .ref aT3, .int (nI nt), .int st, .int wt])), (aT1, .inl (cI, 8, .inl (aI tc))), (aT2, .inl (cI, 8, .inl (aI ts))), (aT3, .inl (cI, 8, .inl rp))]) hx hb hK hP hD hS 2 0 rfl rfl dX4_pullAtPegs_14 rfl (by first | assumption | omega) (by decide) (aI_up _ _ _) (fun H locs hP hD hS => ?_)
        refine lv_iinc (pc := 15) (v := nI (i + 1)) (lv' := [(3, .int (nI (i + 1))), (0, .ref aG0), (1, .ref aT0), (2, .int (nI fo))]) hx hb dX4_pullAtPegs_15 hl (k := 3) rfl (gi_1 _) (by decide) rfl (fun ls hl => ?_)
        refine lv_goto (pc := 18) (tgt := 2) hx hb dX4_pullAtPegs_18 (by decide) ?_
        exact ih_2 (i + 1) (va_up g i 0) (by omega) (show (i + 1) ≤ 16 from by first | assumption | omega) (show ∀ p, p < (i + 1) → (va_up g i 0) p = 0 from by exact lt_s (fun j h => by unfold va_up; rw [if_neg (by omega)]; exact k1 j h) (by unfold va_up; rw [if_pos rfl])) _ _ _ hP hD hS (lv_sub hl [1, 2, 3, 0] rfl)
  exact lab_2 (16 - 0 + 1) 0 gp (Nat.lt_succ_self _) (show 0 ≤ 16 from by first | assumption | omega) (show ∀ p, p < 0 → gp p = 0 from by exact fun j h => absurd h (Nat.not_lt_zero j)) _ _ _ hP hD hS (lv_sub hl [1, 2, 3, 0] rfl)
set_option maxHeartbeats 4000000 in
set_option maxRecDepth 100000 in
theorem c_X4_tearPegsOut (l : Launch) (D : va_G) (cI cZ : ClassId) (sz : Nat) (aG0 aC aS0 aS1 aS2 aS3 aS4 aS5 aP0 aP1 aT0 aT1 aT2 aT3 aG1 aG2 : Nat) (ng : Nat) (h : Nat → Nat) (f : Nat → Nat) (d : Nat → Bool) (tp : Nat → Nat) (w : Nat → Int32) (np : Nat) (pc : Nat → Nat) (inn : Int32) (nt : Nat) (tc : Nat → Nat) (ts : Nat → Nat) (rp : Nat → Int32) (st : Int32) (wt : Int32) (gs : Int32) (gi : Int32) (gr : Nat) (go : Nat → Int32) (gp : Nat → Nat) (hnp : np ≤ 16) (hpc : ∀ j9, j9 < 16 → pc j9 < 100) (hf : ∀ i9, i9 < 100 → 1 ≤ f i9 ∧ f i9 ≤ 9) (hgp : ∀ p, p < 16 → gp p ≤ 648) : gMv l yX4_tearPegsOut cX4_tearPegsOut 3 D cI cZ sz [(aG0, .inr (4, [.int gs, .int gi, .int (nI gr), .ref aG1, .ref aG2])), (aC, .inr (0, [.ref aS0, .ref aP0, .ref aT0, .ref aG0, .int (nI ng)])), (aS0, .inr (3, [.ref aS1, .ref aS2, .ref aS3, .ref aS4, .ref aS5])), (aS1, .inl (cI, 100, .inl (aI h))), (aS2, .inl (cI, 100, .inl (aI f))), (aS3, .inl (cZ, 100, .inl (aB d))), (aS4, .inl (cI, 100, .inl (aI tp))), (aS5, .inl (cI, 100, .inl w)), (aP0, .inr (2, [.ref aP1, .int (nI np), .int inn])), (aP1, .inl (cI, 16, .inl (aI pc))), (aT0, .inr (5, [.ref aT1, .ref aT2, .ref aT3, .int (nI nt), .int st, .int wt])), (aT1, .inl (cI, 8, .inl (aI tc))), (aT2, .inl (cI, 8, .inl (aI ts))), (aT3, .inl (cI, 8, .inl rp)), (aG1, .inl (cI, 8, .inl go)), (aG2, .inl (cI, 16, .inl (aI gp)))] [.ref aG0, .ref aC] ({ frames := 2, cells := 0, slots := 0, locals := 42 } : Room) (fun (_ : Unit) => True) (fun (_ : Unit) => [(aG0, .inr (4, [.int gs, .int (tearF f pc gp gi np), .int (nI gr), .ref aG1, .ref aG2])), (aC, .inr (0, [.ref aS0, .ref aP0, .ref aT0, .ref aG0, .int (nI ng)])), (aS0, .inr (3, [.ref aS1, .ref aS2, .ref aS3, .ref aS4, .ref aS5])), (aS1, .inl (cI, 100, .inl (aI h))), (aS2, .inl (cI, 100, .inl (aI f))), (aS3, .inl (cZ, 100, .inl (aB d))), (aS4, .inl (cI, 100, .inl (aI tp))), (aS5, .inl (cI, 100, .inl w)), (aP0, .inr (2, [.ref aP1, .int (nI np), .int inn])), (aP1, .inl (cI, 16, .inl (aI pc))), (aT0, .inr (5, [.ref aT1, .ref aT2, .ref aT3, .int (nI nt), .int st, .int wt])), (aT1, .inl (cI, 8, .inl (aI tc))), (aT2, .inl (cI, 8, .inl (aI ts))), (aT3, .inl (cI, 8, .inl rp)), (aG1, .inl (cI, 8, .inl go)), (aG2, .inl (cI, 16, .inl (aI gp)))]) 0 0 := by
  refine gM_ofv (by decide +kernel) (Nat.le_of_ble_eq_true rfl) ?_
  intro pg ev s mi below meth co A hx hb hr hml hts hown hlocks hname hA hsz hAe hP hK hD hE hS ls hl
  have hl : lv_has ls 3 [(0, .ref aG0), (1, .ref aC)] := hl
  generalize hQ : MQ below _ _ s _ _ A = Q
  refine lv_iconst (pc := 0) hx hb dX4_tearPegsOut_0 gk_0 ?_
  refine lv_istore_n (pc := 1) (lv' := [(2, .int (nI 0)), (0, .ref aG0), (1, .ref aC)]) hx hb dX4_tearPegsOut_1 rfl hl (by decide) rfl (fun ls hl => ?_)
  have lab_2 : ∀ (fuel : Nat) (i : Nat) (g : Int32), (np - i) < fuel → (i ≤ np) → (g = tearF f pc gp gi i) → ∀ (H : Heap) (locs : List Loc) (ls : Array Slot), va_P D vwCl [(aC, .inr (0, [.ref aS0, .ref aP0, .ref aT0, .ref aG0, .int (nI ng)])), (aS0, .inr (3, [.ref aS1, .ref aS2, .ref aS3, .ref aS4, .ref aS5])), (aS1, .inl (cI, 100, .inl (aI h))), (aS2, .inl (cI, 100, .inl (aI f))), (aS3, .inl (cZ, 100, .inl (aB d))), (aS4, .inl (cI, 100, .inl (aI tp))), (aS5, .inl (cI, 100, .inl w)), (aP0, .inr (2, [.ref aP1, .int (nI np), .int inn])), (aP1, .inl (cI, 16, .inl (aI pc))), (aT0, .inr (5, [.ref aT1, .ref aT2, .ref aT3, .int (nI nt), .int st, .int wt])), (aT1, .inl (cI, 8, .inl (aI tc))), (aT2, .inl (cI, 8, .inl (aI ts))), (aT3, .inl (cI, 8, .inl rp)), (aG0, .inr (4, [.int gs, .int g, .int (nI gr), .ref aG1, .ref aG2])), (aG1, .inl (cI, 8, .inl go)), (aG2, .inl (cI, 16, .inl (aI gp)))] H → va_D A [(aC, .inr (0, [.ref aS0, .ref aP0, .ref aT0, .ref aG0, .int (nI ng)])), (aS0, .inr (3, [.ref aS1, .ref aS2, .ref aS3, .ref aS4, .ref aS5])), (aS1, .inl (cI, 100, .inl (aI h))), (aS2, .inl (cI, 100, .inl (aI f))), (aS3, .inl (cZ, 100, .inl (aB d))), (aS4, .inl (cI, 100, .inl (aI tp))), (aS5, .inl (cI, 100, .inl w)), (aP0, .inr (2, [.ref aP1, .int (nI np), .int inn])), (aP1, .inl (cI, 16, .inl (aI pc))), (aT0, .inr (5, [.ref aT1, .ref aT2, .ref aT3, .int (nI nt), .int st, .int wt])), (aT1, .inl (cI, 8, .inl (aI tc))), (aT2, .inl (cI, 8, .inl (aI ts))), (aT3, .inl (cI, 8, .inl rp)), (aG0, .inr (4, [.int gs, .int g, .int (nI gr), .ref aG1, .ref aG2])), (aG1, .inl (cI, 8, .inl go)), (aG2, .inl (cI, 16, .inl (aI gp)))] → va_S A s.heap H locs → lv_has ls 3 [(0, .ref aG0), (1, .ref aC), (2, .int (nI i))] → W pg l ev ({ frames := 2, cells := 0, slots := 0, locals := 42 } : Room) s mi [(.ref aG0 : Value), .ref aC].toArray below meth co H locs 0 0 Q (F0 mi 2 ls []) := by
    intro fuel
    induction fuel with
    | zero => intro i g hm; exact absurd hm (Nat.not_lt_zero _)
    | succ fuel ih_2 =>
      intro i g hm_2 hi hg H locs ls hP hD hS hl
      refine lv_iload_n (pc := 2) hx hb dX4_tearPegsOut_2 rfl (lv_at hl 2 rfl) ?_
      refine lv_aload_n (pc := 3) hx hb dX4_tearPegsOut_3 rfl (lv_at hl 1 rfl) ?_
      refine gf_X4_31 (pc := 4) hx hb hts hown hK hP 0 rfl rfl dX4_tearPegsOut_4 ?_
      refine gf_X4_82 (pc := 7) hx hb hts hown hK hP 7 rfl rfl dX4_tearPegsOut_7 ?_
      refine g_icmp_geN (pc := 10) (tgt := 47) hx hb dX4_tearPegsOut_10 (by decide) (by omega) (by omega) (fun c_10 => ?_) (fun c_10 => ?_)
      · obtain rfl : i = np := by omega
        subst hg
        rw [← hQ]
        exact g_vret hx hb hr hlocks hS dX4_tearPegsOut_47 () (trivial) (hP.sub [13, 0, 1, 2, 3, 4, 5, 6, 7, 8, 9, 10, 11, 12, 14, 15] rfl) (hD.sub [13, 0, 1, 2, 3, 4, 5, 6, 7, 8, 9, 10, 11, 12, 14, 15] (by decide) rfl)
      · refine lv_aload_n (pc := 13) hx hb dX4_tearPegsOut_13 rfl (lv_at hl 0 rfl) ?_
        refine gf_X4_15 (pc := 14) hx hb hts hown hK hP 13 rfl rfl dX4_tearPegsOut_14 ?_
        refine lv_iload_n (pc := 17) hx hb dX4_tearPegsOut_17 rfl (lv_at hl 2 rfl) ?_
        refine g_iald (pc := 18) (v := nI (gp i)) hx hb hK hP 15 0 rfl rfl dX4_tearPegsOut_18 (by first | assumption | omega) (by decide) rfl ?_
        refine lv_aload_n (pc := 19) hx hb dX4_tearPegsOut_19 rfl (lv_at hl 1 rfl) ?_
        refine lv_iload_n (pc := 20) hx hb dX4_tearPegsOut_20 rfl (lv_at hl 2 rfl) ?_
        refine g_vi (pc := 21) (As := [.int (nI i)]) (rest := [.int (nI (gp i))]) (wc := [(aC, .inr (0, [.ref aS0, .ref aP0, .ref aT0, .ref aG0, .int (nI ng)])), (aS0, .inr (3, [.ref aS1, .ref aS2, .ref aS3, .ref aS4, .ref aS5])), (aS1, .inl (cI, 100, .inl (aI h))), (aS2, .inl (cI, 100, .inl (aI f))), (aS3, .inl (cZ, 100, .inl (aB d))), (aS4, .inl (cI, 100, .inl (aI tp))), (aS5, .inl (cI, 100, .inl w)), (aP0, .inr (2, [.ref aP1, .int (nI np), .int inn])), (aP1, .inl (cI, 16, .inl (aI pc))), (aT0, .inr (5, [.ref aT1, .ref aT2, .ref aT3, .int (nI nt), .int st, .int wt])), (aT1, .inl (cI, 8, .inl (aI tc))), (aT2, .inl (cI, 8, .inl (aI ts))), (aT3, .inl (cI, 8, .inl rp)), (aG0, .inr (4, [.int gs, .int g, .int (nI gr), .ref aG1, .ref aG2])), (aG1, .inl (cI, 8, .inl go)), (aG2, .inl (cI, 16, .inl (aI gp)))]) (wr := []) lk_X4_85 hx hb hml hts hown hE hA hK hP hD hS hl (c_X0_holdOf l D cI cZ _ aC aS0 aS1 aS2 aS3 aS4 aS5 aP0 aP1 aT0 aT1 aT2 aT3 aG0 aG1 aG2 ng h f d tp w np pc inn nt tc ts rp st wt gs g gr go gp i (show ∀ j, j < 16 → pc j < 100 from by first | assumption | omega) (show i < 16 from by first | assumption | omega)) rfl rfl dX4_tearPegsOut_21 [0, 1, 2, 3, 4, 5, 6, 7, 8, 9, 10, 11, 12, 13, 14, 15] [] rfl rfl (by decide) (by decide) (by decide) rfl rfl ⟨rfl, rfl, Nat.le_of_ble_eq_true rfl, Nat.le_of_ble_eq_true rfl, Nat.le_refl _, Nat.le_refl _⟩ (Nat.le_of_ble_eq_true rfl) (fun r u H locs hw hP hD hS => ?_)
        have hP : va_P D vwCl [(aC, .inr (0, [.ref aS0, .ref aP0, .ref aT0, .ref aG0, .int (nI ng)])), (aS0, .inr (3, [.ref aS1, .ref aS2, .ref aS3, .ref aS4, .ref aS5])), (aS1, .inl (cI, 100, .inl (aI h))), (aS2, .inl (cI, 100, .inl (aI f))), (aS3, .inl (cZ, 100, .inl (aB d))), (aS4, .inl (cI, 100, .inl (aI tp))), (aS5, .inl (cI, 100, .inl w)), (aP0, .inr (2, [.ref aP1, .int (nI np), .int inn])), (aP1, .inl (cI, 16, .inl (aI pc))), (aT0, .inr (5, [.ref aT1, .ref aT2, .ref aT3, .int (nI nt), .int st, .int wt])), (aT1, .inl (cI, 8, .inl (aI tc))), (aT2, .inl (cI, 8, .inl (aI ts))), (aT3, .inl (cI, 8, .inl rp)), (aG0, .inr (4, [.int gs, .int g, .int (nI gr), .ref aG1, .ref aG2])), (aG1, .inl (cI, 8, .inl go)), (aG2, .inl (cI, 16, .inl (aI gp)))] H := hP
        have hD : va_D A [(aC, .inr (0, [.ref aS0, .ref aP0, .ref aT0, .ref aG0, .int (nI ng)])), (aS0, .inr (3, [.ref aS1, .ref aS2, .ref aS3, .ref aS4, .ref aS5])), (aS1, .inl (cI, 100, .inl (aI h))), (aS2, .inl (cI, 100, .inl (aI f))), (aS3, .inl (cZ, 100, .inl (aB d))), (aS4, .inl (cI, 100, .inl (aI tp))), (aS5, .inl (cI, 100, .inl w)), (aP0, .inr (2, [.ref aP1, .int (nI np), .int inn])), (aP1, .inl (cI, 16, .inl (aI pc))), (aT0, .inr (5, [.ref aT1, .ref aT2, .ref aT3, .int (nI nt), .int st, .int wt])), (aT1, .inl (cI, 8, .inl (aI tc))), (aT2, .inl (cI, 8, .inl (aI ts))), (aT3, .inl (cI, 8, .inl rp)), (aG0, .inr (4, [.int gs, .int g, .int (nI gr), .ref aG1, .ref aG2])), (aG1, .inl (cI, 8, .inl go)), (aG2, .inl (cI, 16, .inl (aI gp)))] := hD
        have hw : r = nI (4 * f (pc i)) := hw
        obtain rfl := hw
        refine g_icmp_leN (pc := 24) (tgt := 41) hx hb dX4_tearPegsOut_24 (by decide) (by have := hgp i (by omega); have := hf (pc i) (hpc i (by omega)); omega) (by have := hgp i (by omega); have := hf (pc i) (hpc i (by omega)); omega) (fun c_24 => ?_) (fun c_24 => ?_)
        · refine lv_iinc (pc := 41) (v := nI (i + 1)) (lv' := [(2, .int (nI (i + 1))), (0, .ref aG0), (1, .ref aC)]) hx hb dX4_tearPegsOut_41 hl (k := 2) rfl (gi_1 _) (by decide) rfl (fun ls hl => ?_)
          refine lv_goto (pc := 44) (tgt := 2) hx hb dX4_tearPegsOut_44 (by decide) ?_
          exact ih_2 (i + 1) g (by omega) (show (i + 1) ≤ np from by first | assumption | omega) (show g = tearF f pc gp gi (i + 1) from by first | (rw [hg]; simp only [tearF]; rw [if_pos (by assumption)]) | (rw [hg]; simp only [tearF]; rw [if_neg (by omega)])) _ _ _ hP hD hS (lv_sub hl [1, 2, 0] rfl)
        · refine lv_aload_n (pc := 27) hx hb dX4_tearPegsOut_27 rfl (lv_at hl 0 rfl) ?_
          refine lv_dup (pc := 28) hx hb dX4_tearPegsOut_28 rfl ?_
          refine gf_X4_40 (pc := 29) hx hb hts hown hK hP 13 rfl rfl dX4_tearPegsOut_29 ?_
          refine lv_iconst (pc := 32) hx hb dX4_tearPegsOut_32 gk_1 ?_
          refine lv_iload_n (pc := 33) hx hb dX4_tearPegsOut_33 rfl (lv_at hl 2 rfl) ?_
          refine lv_ishl (pc := 34) hx hb dX4_tearPegsOut_34 ?_
          refine g_top (pc := 35) (w := .int (bone i)) rfl ?_
          refine lv_iconst (pc := 35) (v := -1) hx hb dX4_tearPegsOut_35 (by decide) ?_
          refine lv_ixor (pc := 36) hx hb dX4_tearPegsOut_36 ?_
          refine g_top (pc := 37) (w := .int (bneg i)) rfl ?_
          refine lv_iand (pc := 37) hx hb dX4_tearPegsOut_37 ?_
          refine g_top (pc := 38) (w := .int (bclr g i)) rfl ?_
          refine gp_X4_40 (pc := 38) (w2 := [(aC, .inr (0, [.ref aS0, .ref aP0, .ref aT0, .ref aG0, .int (nI ng)])), (aS0, .inr (3, [.ref aS1, .ref aS2, .ref aS3, .ref aS4, .ref aS5])), (aS1, .inl (cI, 100, .inl (aI h))), (aS2, .inl (cI, 100, .inl (aI f))), (aS3, .inl (cZ, 100, .inl (aB d))), (aS4, .inl (cI, 100, .inl (aI tp))), (aS5, .inl (cI, 100, .inl w)), (aP0, .inr (2, [.ref aP1, .int (nI np), .int inn])), (aP1, .inl (cI, 16, .inl (aI pc))), (aT0, .inr (5, [.ref aT1, .ref aT2, .ref aT3, .int (nI nt), .int st, .int wt])), (aT1, .inl (cI, 8, .inl (aI tc))), (aT2, .inl (cI, 8, .inl (aI ts))), (aT3, .inl (cI, 8, .inl rp)), (aG0, .inr (4, [.int gs, .int (bclr g i), .int (nI gr), .ref aG1, .ref aG2])), (aG1, .inl (cI, 8, .inl go)), (aG2, .inl (cI, 16, .inl (aI gp)))]) hx hb hts hown hK hP hD hS 13 rfl rfl rfl rfl (Nat.le_of_ble_eq_true rfl) dX4_tearPegsOut_38 (fun H locs hP hD hS => ?_)
          refine lv_iinc (pc := 41) (v := nI (i + 1)) (lv' := [(2, .int (nI (i + 1))), (0, .ref aG0), (1, .ref aC)]) hx hb dX4_tearPegsOut_41 hl (k := 2) rfl (gi_1 _) (by decide) rfl (fun ls hl => ?_)
          refine lv_goto (pc := 44) (tgt := 2) hx hb dX4_tearPegsOut_44 (by decide) ?_
          exact ih_2 (i + 1) (bclr g i) (by omega) (show (i + 1) ≤ np from by first | assumption | omega) (show (bclr g i) = tearF f pc gp gi (i + 1) from by first | (rw [hg]; simp only [tearF]; rw [if_pos (by assumption)]) | (rw [hg]; simp only [tearF]; rw [if_neg (by omega)])) _ _ _ hP hD hS (lv_sub hl [1, 2, 0] rfl)
  exact lab_2 (np - 0 + 1) 0 gi (Nat.lt_succ_self _) (show 0 ≤ np from by first | assumption | omega) (show gi = tearF f pc gp gi 0 from by rfl) _ _ _ (hP.sub [1, 2, 3, 4, 5, 6, 7, 8, 9, 10, 11, 12, 13, 0, 14, 15] rfl) (hD.sub [1, 2, 3, 4, 5, 6, 7, 8, 9, 10, 11, 12, 13, 0, 14, 15] (by decide) rfl) hS (lv_sub hl [1, 2, 0] rfl)
