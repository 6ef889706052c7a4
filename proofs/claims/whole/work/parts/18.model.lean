theorem lv_0 (h : Nat → Nat) (d : Nat → Bool) : ∀ n j, lvM h d (nI 0) n j = nI 0 := by
  have hrow : ∀ (w : Nat → Int32) (k : Nat), (∀ j, w j = nI 0) → ∀ c j, rowM h d w k c j = nI 0 := by
    intro w k hw c
    induction c with
    | zero => exact hw
    | succ c ih =>
      intro j
      simp only [rowM]
      split
      · exact runf_0 ih j
      · exact ih j
  intro n
  induction n with
  | zero => intro j; rfl
  | succ n ih => intro j; exact hrow _ _ ih 100 j
/-- a tent's rope holds: the reference's way -/
def heldB (rp : Nat → Int32) (inn : Int32) (pc tc : Nat → Nat) (dr t p : Nat) : Bool := bt (rp t) p && (bt inn p && sideF (pc p) (tc t) dr)
theorem held_bt {rp : Nat → Int32} {inn : Int32} {pc tc : Nat → Nat} {np dr t : Nat} (hnp : np ≤ 16) (i : Nat) : bt (gorF pc tc rp np dr t &&& inn) i = (decide (i < np) && heldB rp inn pc tc dr t i) := by
  unfold gorF heldB
  rw [b_and, bt_sideM _ _ _ _ _ (by omega)]
  cases decide (i < np) <;> cases bt (rp t) i <;> cases bt inn i <;> cases sideF (pc i) (tc t) dr <;> rfl
theorem held_pop {rp : Nat → Int32} {inn : Int32} {pc tc : Nat → Nat} {np dr t : Nat} (hnp : np ≤ 16) : fb_ct (heldB rp inn pc tc dr t) np = pop (gorF pc tc rp np dr t &&& inn) := by
  have hb : bLt (gorF pc tc rp np dr t &&& inn) np := fun i hi => by
    rw [held_bt hnp, Bool.and_eq_true, decide_eq_true_eq] at hi
    exact hi.1
  rw [bLt_pop hb (by omega)]
  refine fb_ct_cong (fun k hk => ?_)
  rw [held_bt hnp, decide_eq_true hk, Bool.true_and]
theorem pop_0 {x : Int32} (h : pop x = 0) : x = nI 0 := b_ext (fun i hi => by
  have := fb_ct_zero.mp h i hi
  rw [this]; exact (b_n0 i).symm)
theorem pop_pos {x : Int32} {i : Nat} (h : bt x i = true) : 0 < pop x := by
  refine Nat.pos_of_ne_zero (fun e => ?_)
  have := pop_0 e
  rw [this, b_n0] at h
  cases h
theorem clr_no {x : Int32} {k : Nat} (hk : k < 32) (h : bt x k = false) : bclr x k = x := b_ext (fun i hi => by
  rw [bt_clr _ hk]
  by_cases e : i = k
  · subst e; rw [h]; rfl
  · rw [decide_eq_false e]; simp)
theorem clr_up (x : Int32) {k : Nat} (hk : k < 32) : va_up (bt x) k false = bt (bclr x k) := by
  funext i
  unfold va_up
  rw [bt_clr _ hk]
  by_cases e : i = k
  · rw [if_pos e, decide_eq_true e]; simp
  · rw [if_neg e, decide_eq_false e]; simp
theorem set_up (x : Int32) {k : Nat} (hk : k < 32) : va_up (bt x) k true = bt (bset x k) := by
  funext i
  unfold va_up
  rw [bt_set _ hk]
  by_cases e : i = k
  · rw [if_pos e, decide_eq_true e]; simp
  · rw [if_neg e, decide_eq_false e]; simp
theorem set_no {x : Int32} {k : Nat} (hk : k < 32) (h : bt x k = true) : bset x k = x := b_ext (fun i hi => by
  rw [bt_set _ hk]
  by_cases e : i = k
  · subst e; rw [h]; rfl
  · rw [decide_eq_false e]; simp)
theorem drop_at {go : Nat → Int32} {gi gs : Int32} : ∀ n, n ≤ 32 → ∀ i, n ≤ i → bt (dropF go gi gs n) i = bt gs i
  | 0, _, i, _ => rfl
  | n + 1, hn, i, hi => by
    simp only [dropF]
    split
    · rw [bt_clr _ (by omega), drop_at n (by omega) i (by omega), decide_eq_false (by omega)]; simp
    · exact drop_at n (by omega) i (by omega)
theorem tear_at {f pc gp : Nat → Nat} {gi : Int32} : ∀ n, n ≤ 32 → ∀ i, bt (tearF f pc gp gi n) i = (bt gi i && !(decide (i < n) && decide (4 * f (pc i) < gp i)))
  | 0, _, i => by rw [decide_eq_false (Nat.not_lt_zero i)]; simp [tearF]
  | n + 1, hn, i => by
    have ih := tear_at (f := f) (pc := pc) (gp := gp) (gi := gi) n (by omega) i
    simp only [tearF]
    by_cases h : 4 * f (pc n) < gp n
    · rw [if_pos h, bt_clr _ (by omega), ih]
      by_cases e : i = n
      · subst e; rw [decide_eq_true h, decide_eq_true (Nat.lt_succ_self i)]; simp
      · rw [decide_eq_false e, show decide (i < n + 1) = decide (i < n) from decide_eq_decide.mpr (by omega)]; simp
    · rw [if_neg h, ih]
      by_cases e : i = n
      · subst e; rw [decide_eq_false h]; simp
      · rw [show decide (i < n + 1) = decide (i < n) from decide_eq_decide.mpr (by omega)]
def outF (f pc gp : Nat → Nat) (gi : Int32) : Nat → Int32
  | 0 => nI 0
  | n + 1 => if bt gi n = true ∧ 4 * f (pc n) < gp n then bset (outF f pc gp gi n) n else outF f pc gp gi n
theorem out_at {f pc gp : Nat → Nat} {gi : Int32} : ∀ n, n ≤ 32 → ∀ i, bt (outF f pc gp gi n) i = (decide (i < n) && (bt gi i && decide (4 * f (pc i) < gp i)))
  | 0, _, i => by rw [decide_eq_false (Nat.not_lt_zero i)]; exact b_n0 i
  | n + 1, hn, i => by
    have ih := out_at (f := f) (pc := pc) (gp := gp) (gi := gi) n (by omega) i
    simp only [outF]
    by_cases h : bt gi n = true ∧ 4 * f (pc n) < gp n
    · rw [if_pos h, bt_set _ (by omega), ih]
      by_cases e : i = n
      · subst e; rw [h.1, decide_eq_true h.2, decide_eq_true (Nat.lt_succ_self i), decide_eq_true rfl]; simp
      · rw [decide_eq_false e, show decide (i < n + 1) = decide (i < n) from decide_eq_decide.mpr (by omega)]; simp
    · rw [if_neg h, ih]
      by_cases e : i = n
      · subst e
        have : (bt gi i && decide (4 * f (pc i) < gp i)) = false := by
          rw [← Bool.not_eq_true, Bool.and_eq_true, decide_eq_true_eq]
          exact h
        rw [this]; simp
      · rw [show decide (i < n + 1) = decide (i < n) from decide_eq_decide.mpr (by omega)]
theorem out_0 {f pc gp : Nat → Nat} {gi : Int32} {n : Nat} (hn : n ≤ 32) : outF f pc gp gi n = nI 0 ↔ tearF f pc gp gi n = gi := by
  constructor
  · intro h
    refine b_ext (fun i hi => ?_)
    have h1 := out_at (f := f) (pc := pc) (gp := gp) (gi := gi) n hn i
    rw [h, b_n0] at h1
    rw [tear_at n hn]
    revert h1
    cases decide (i < n) <;> cases bt gi i <;> cases decide (4 * f (pc i) < gp i) <;> simp
  · intro h
    refine b_ext (fun i hi => ?_)
    have h1 := tear_at (f := f) (pc := pc) (gp := gp) (gi := gi) n hn i
    rw [h] at h1
    rw [out_at n hn, b_n0]
    revert h1
    cases decide (i < n) <;> cases bt gi i <;> cases decide (4 * f (pc i) < gp i) <;> simp
def sumI (v : Nat → Int32) : Nat → Int32
  | 0 => nI 0
  | n + 1 => sumI v n + v n
theorem sumI_N (f : Nat → Nat) : ∀ n, sumI (aI f) n = nI (sumN f n)
  | 0 => rfl
  | n + 1 => by simp only [sumI, sumN]; rw [sumI_N f n]; exact nI_add _ _
theorem sumI_B (b : Nat → Bool) : ∀ n, sumI (aB b) n = nI (fb_ct b n)
  | 0 => rfl
  | n + 1 => by
    simp only [sumI]
    rw [sumI_B b n, fb_ct_succ]
    show nI _ + bI (b n) = _
    cases b n
    · exact nI_add _ 0
    · exact nI_add _ 1
theorem sumI_bt {x : Int32} {n : Nat} (h : bLt x n) (hn : n ≤ 32) : sumI (aB (bt x)) n = nI (pop x) := by rw [sumI_B, bLt_pop h hn]
theorem upd_not (d : Nat → Bool) (k : Nat) : upd (aB d) k (nI 1 - bI (d k)) = aB (va_up d k (!d k)) := by
  rw [show nI 1 - bI (d k) = bI (!d k) by cases d k <;> decide]
  exact aB_up _ _ _
section GM
variable {p : Program} {l : Launch} {e : Env} {R : Room} {s : State} {m : MethodId} {args : Array Value} {below : List Frame} {meth : Method} {c : Code} {H : Heap} {locs : List Loc} {cells slots : Nat} {Q : State → Prop}
variable {cc : ByteArray} {pc : Nat} {ls : Array Slot} {rest : List Value} {D : va_G} {cI cZ : ClassId} {A : Nat → Prop} {ws : va_W} {H0 : Heap} {tys : List (ClassId × FieldType)}
theorem g_icmp_neB1 (hx : p.tables.exec = Jvm.exec) (hb : c.code = cc) {b : Bool} {off : Int} {tgt : Nat} (hdg : decode cc pc = .ok (.if_icmp .ne off, 3)) (ht : (pc : Int) + off = (tgt : Int)) (kt : b = false → W p l e R s m args below meth c H locs cells slots Q (F0 m tgt ls rest)) (kf : b = true → W p l e R s m args below meth c H locs cells slots Q (F0 m (pc + 3) ls rest)) : W p l e R s m args below meth c H locs cells slots Q (F0 m pc ls (.int (nI 1) :: .int (bI b) :: rest)) :=
  lv_icmp_ne hx hb hdg ht (fun h => kt (bI_n1 h)) (fun h => kf (bI_1.mp h))
theorem g_arrcopy (hx : p.tables.exec = Jvm.exec) (hb : c.code = cc) (hml : c.maxLocals = ls.size) {own : String} {index : Nat} (hts : ∀ w ∈ gWs, w.before args s = true) (hown : s.vm.findClass own = some m.cls) (hlink : Cond.methodLink own index arraycopyName ∈ gWs) (hnat : Cond.native arraycopyName ∈ gWs) (hstat : Cond.static arraycopyName ∈ gWs) (hini : Cond.initialized "java/lang/System" ∈ gWs)
    (hK : va_K D vwCl (gT cI cZ) s) (hP : va_P D vwCl ws H) (hD : va_D A ws) (hS : va_S A H0 H locs) (q0 q1 : Nat) {a0 a n : Nat} {f g : Nat → Int32} {w2 : va_W} (ha0 : ws[q0]? = some (a0, .inl (cI, n, .inl f))) (ha1 : ws[q1]? = some (a, .inl (cI, n, .inl g))) (hw : ws.set q1 (a, .inl (cI, n, .inl f)) = w2) (hn : n ≤ 1000)
    (hframes : 1 ≤ R.frames) (hlocals : (rest.map fun v => v.category).sum + (nativeFrameWords "java/lang/System" "arraycopy" 5 + 11) ≤ R.locals) (hdg : decode cc pc = .ok (.invokestatic index, 3))
    (kk : ∀ (H1 : Heap) (locs1 : List Loc), va_P D vwCl w2 H1 → va_D A w2 → va_S A H0 H1 locs1 → W p l e R s m args below meth c H1 locs1 cells slots Q (F0 m (pc + 3) ls rest)) : W p l e R s m args below meth c H locs cells slots Q (F0 m pc ls (.int (nI n) :: .int (nI 0) :: .ref a :: .int (nI 0) :: .ref a0 :: rest)) := by
  have e0 : (nI 0).toNatClampNeg = 0 := nI_clamp (by decide)
  have en : (nI n).toNatClampNeg = n := nI_clamp (by omega)
  refine va_copyi hx hb hml hown (hts _ hlink) (hts _ hnat) (hts _ hstat) (hts _ hini) hK hP hD hS q0 q1 0 0 ha0 ha1 rfl rfl rfl (nI_pos (by decide)) (nI_pos (by decide)) (nI_pos (by omega)) (by rw [e0, en]; omega) (by rw [e0, en]; omega) (fun _ _ => rfl) hframes hlocals hdg (fun H1 locs1 hP1 hD1 hS1 => ?_)
  have hlt : q1 < ws.length := (List.getElem?_eq_some_iff.mp ha1).1
  obtain ⟨hP2, hD2⟩ := g_cong (w2 := w2) f q1 (List.getElem?_set_self hlt) (fun j hj => by unfold va_cpy; rw [e0, en, if_pos ⟨Nat.zero_le _, by omega⟩, Nat.sub_zero, Nat.zero_add]) (by rw [List.set_set]; exact hw) hP1 hD1
  exact kk H1 locs1 hP2 hD2 hS1
end GM

set_option maxHeartbeats 4000000 in
set_option maxRecDepth 100000 in
theorem c_X8_sum_N100 (l : Launch) (D : va_G) (cI cZ : ClassId) (sz : Nat) (q0 : Nat) (v : Nat → Nat) (n : Nat) (hn : n ≤ 100) : gMi l yX8_sum cX8_sum 4 .int D cI cZ sz [(q0, .inl (cI, 100, .inl (aI v)))] [.ref q0, .int (nI n)] ({ frames := 0, cells := 0, slots := 0, locals := 0 } : Room) (fun (r : Int32) (_ : Unit) => r = (sumI (aI v) n)) (fun (_ : Unit) => [(q0, .inl (cI, 100, .inl (aI v)))]) 0 0 := by
  refine gM_ofi (by decide +kernel) (Nat.le_of_ble_eq_true rfl) ?_
  intro pg ev s mi below meth co A hx hb hr hml hts hown hlocks hname hA hsz hAe hP hK hD hE hS ls hl
  have hl : lv_has ls 4 [(0, .ref q0), (1, .int (nI n))] := hl
  generalize hQ : MQ below _ _ s _ _ A = Q
  refine lv_iconst (pc := 0) hx hb dX8_sum_0 gk_0 ?_
  refine lv_istore_n (pc := 1) (lv' := [(2, .int (nI 0)), (0, .ref q0), (1, .int (nI n))]) hx hb dX8_sum_1 rfl hl (by decide) rfl (fun ls hl => ?_)
  refine lv_iconst (pc := 2) hx hb dX8_sum_2 gk_0 ?_
  refine lv_istore_n (pc := 3) (lv' := [(3, .int (nI 0)), (2, .int (nI 0)), (0, .ref q0), (1, .int (nI n))]) hx hb dX8_sum_3 rfl hl (by decide) rfl (fun ls hl => ?_)
  have lab_4 : ∀ (fuel : Nat) (i : Nat), (n - i) < fuel → (i ≤ n) → ∀ (H : Heap) (locs : List Loc) (ls : Array Slot), va_P D vwCl [(q0, .inl (cI, 100, .inl (aI v)))] H → va_D A [(q0, .inl (cI, 100, .inl (aI v)))] → va_S A s.heap H locs → lv_has ls 4 [(0, .ref q0), (1, .int (nI n)), (2, .int (sumI (aI v) i)), (3, .int (nI i))] → W pg l ev ({ frames := 0, cells := 0, slots := 0, locals := 0 } : Room) s mi [(.ref q0 : Value), .int (nI n)].toArray below meth co H locs 0 0 Q (F0 mi 4 ls []) := by
    intro fuel
    induction fuel with
    | zero => intro i hm; exact absurd hm (Nat.not_lt_zero _)
    | succ fuel ih_4 =>
      intro i hm_4 hi H locs ls hP hD hS hl
      refine lv_iload_n (pc := 4) hx hb dX8_sum_4 rfl (lv_at hl 3 rfl) ?_
      refine lv_iload_n (pc := 5) hx hb dX8_sum_5 rfl (lv_at hl 1 rfl) ?_
      refine g_icmp_geN (pc := 6) (tgt := 21) hx hb dX8_sum_6 (by decide) (by omega) (by omega) (fun c_6 => ?_) (fun c_6 => ?_)
      · refine lv_iload_n (pc := 21) hx hb dX8_sum_21 rfl (lv_at hl 2 rfl) ?_
        rw [← hQ]
        exact g_iret hx hb hr hlocks hS dX8_sum_22 () (by rw [show i = n by omega]) hP hD
      · refine lv_iload_n (pc := 9) hx hb dX8_sum_9 rfl (lv_at hl 2 rfl) ?_
        refine lv_aload_n (pc := 10) hx hb dX8_sum_10 rfl (lv_at hl 0 rfl) ?_
        refine lv_iload_n (pc := 11) hx hb dX8_sum_11 rfl (lv_at hl 3 rfl) ?_
        refine g_iald (pc := 12) (v := nI (v i)) hx hb hK hP 0 0 rfl rfl dX8_sum_12 (by first | assumption | omega) (by decide) rfl ?_
        refine lv_iadd (pc := 13) hx hb dX8_sum_13 ?_
        refine lv_istore_n (pc := 14) (lv' := [(2, .int ((sumI (aI v) i) + (nI (v i)))), (0, .ref q0), (1, .int (nI n)), (3, .int (nI i))]) hx hb dX8_sum_14 rfl hl (by decide) rfl (fun ls hl => ?_)
        refine lv_iinc (pc := 15) (v := nI (i + 1)) (lv' := [(3, .int (nI (i + 1))), (2, .int ((sumI (aI v) i) + (nI (v i)))), (0, .ref q0), (1, .int (nI n))]) hx hb dX8_sum_15 hl (k := 3) rfl (gi_1 _) (by decide) rfl (fun ls hl => ?_)
        refine lv_goto (pc := 18) (tgt := 4) hx hb dX8_sum_18 (by decide) ?_
        exact ih_4 (i + 1) (by omega) (show (i + 1) ≤ n from by first | assumption | omega) _ _ _ hP hD hS (lv_sub hl [2, 3, 1, 0] rfl)
  exact lab_4 (n - 0 + 1) 0 (Nat.lt_succ_self _) (show 0 ≤ n from by first | assumption | omega) _ _ _ hP hD hS (lv_sub hl [2, 3, 1, 0] rfl)
set_option maxHeartbeats 4000000 in
set_option maxRecDepth 100000 in
theorem c_X8_sum_B100 (l : Launch) (D : va_G) (cI cZ : ClassId) (sz : Nat) (q0 : Nat) (v : Nat → Bool) (n : Nat) (hn : n ≤ 100) : gMi l yX8_sum cX8_sum 4 .int D cI cZ sz [(q0, .inl (cI, 100, .inl (aB v)))] [.ref q0, .int (nI n)] ({ frames := 0, cells := 0, slots := 0, locals := 0 } : Room) (fun (r : Int32) (_ : Unit) => r = (sumI (aB v) n)) (fun (_ : Unit) => [(q0, .inl (cI, 100, .inl (aB v)))]) 0 0 := by
  refine gM_ofi (by decide +kernel) (Nat.le_of_ble_eq_true rfl) ?_
  intro pg ev s mi below meth co A hx hb hr hml hts hown hlocks hname hA hsz hAe hP hK hD hE hS ls hl
  have hl : lv_has ls 4 [(0, .ref q0), (1, .int (nI n))] := hl
  generalize hQ : MQ below _ _ s _ _ A = Q
  refine lv_iconst (pc := 0) hx hb dX8_sum_0 gk_0 ?_
  refine lv_istore_n (pc := 1) (lv' := [(2, .int (nI 0)), (0, .ref q0), (1, .int (nI n))]) hx hb dX8_sum_1 rfl hl (by decide) rfl (fun ls hl => ?_)
  refine lv_iconst (pc := 2) hx hb dX8_sum_2 gk_0 ?_
  refine lv_istore_n (pc := 3) (lv' := [(3, .int (nI 0)), (2, .int (nI 0)), (0, .ref q0), (1, .int (nI n))]) hx hb dX8_sum_3 rfl hl (by decide) rfl (fun ls hl => ?_)
  have lab_4 : ∀ (fuel : Nat) (i : Nat), (n - i) < fuel → (i ≤ n) → ∀ (H : Heap) (locs : List Loc) (ls : Array Slot), va_P D vwCl [(q0, .inl (cI, 100, .inl (aB v)))] H → va_D A [(q0, .inl (cI, 100, .inl (aB v)))] → va_S A s.heap H locs → lv_has ls 4 [(0, .ref q0), (1, .int (nI n)), (2, .int (sumI (aB v) i)), (3, .int (nI i))] → W pg l ev ({ frames := 0, cells := 0, slots := 0, locals := 0 } : Room) s mi [(.ref q0 : Value), .int (nI n)].toArray below meth co H locs 0 0 Q (F0 mi 4 ls []) := by
    intro fuel
    induction fuel with
    | zero => intro i hm; exact absurd hm (Nat.not_lt_zero _)
    | succ fuel ih_4 =>
      intro i hm_4 hi H locs ls hP hD hS hl
      refine lv_iload_n (pc := 4) hx hb dX8_sum_4 rfl (lv_at hl 3 rfl) ?_
      refine lv_iload_n (pc := 5) hx hb dX8_sum_5 rfl (lv_at hl 1 rfl) ?_
      refine g_icmp_geN (pc := 6) (tgt := 21) hx hb dX8_sum_6 (by decide) (by omega) (by omega) (fun c_6 => ?_) (fun c_6 => ?_)
      · refine lv_iload_n (pc := 21) hx hb dX8_sum_21 rfl (lv_at hl 2 rfl) ?_
        rw [← hQ]
        exact g_iret hx hb hr hlocks hS dX8_sum_22 () (by rw [show i = n by omega]) hP hD
      · refine lv_iload_n (pc := 9) hx hb dX8_sum_9 rfl (lv_at hl 2 rfl) ?_
        refine lv_aload_n (pc := 10) hx hb dX8_sum_10 rfl (lv_at hl 0 rfl) ?_
        refine lv_iload_n (pc := 11) hx hb dX8_sum_11 rfl (lv_at hl 3 rfl) ?_
        refine g_iald (pc := 12) (v := bI (v i)) hx hb hK hP 0 0 rfl rfl dX8_sum_12 (by first | assumption | omega) (by decide) rfl ?_
        refine lv_iadd (pc := 13) hx hb dX8_sum_13 ?_
        refine lv_istore_n (pc := 14) (lv' := [(2, .int ((sumI (aB v) i) + (bI (v i)))), (0, .ref q0), (1, .int (nI n)), (3, .int (nI i))]) hx hb dX8_sum_14 rfl hl (by decide) rfl (fun ls hl => ?_)
        refine lv_iinc (pc := 15) (v := nI (i + 1)) (lv' := [(3, .int (nI (i + 1))), (2, .int ((sumI (aB v) i) + (bI (v i)))), (0, .ref q0), (1, .int (nI n))]) hx hb dX8_sum_15 hl (k := 3) rfl (gi_1 _) (by decide) rfl (fun ls hl => ?_)
        refine lv_goto (pc := 18) (tgt := 4) hx hb dX8_sum_18 (by decide) ?_
        exact ih_4 (i + 1) (by omega) (show (i + 1) ≤ n from by first | assumption | omega) _ _ _ hP hD hS (lv_sub hl [2, 3, 1, 0] rfl)
  exact lab_4 (n - 0 + 1) 0 (Nat.lt_succ_self _) (show 0 ≤ n from by first | assumption | omega) _ _ _ hP hD hS (lv_sub hl [2, 3, 1, 0] rfl)
set_option maxHeartbeats 4000000 in
set_option maxRecDepth 100000 in
theorem c_X8_sum_B16 (l : Launch) (D : va_G) (cI cZ : ClassId) (sz : Nat) (q0 : Nat) (v : Nat → Bool) (n : Nat) (hn : n ≤ 16) : gMi l yX8_sum cX8_sum 4 .int D cI cZ sz [(q0, .inl (cI, 16, .inl (aB v)))] [.ref q0, .int (nI n)] ({ frames := 0, cells := 0, slots := 0, locals := 0 } : Room) (fun (r : Int32) (_ : Unit) => r = (sumI (aB v) n)) (fun (_ : Unit) => [(q0, .inl (cI, 16, .inl (aB v)))]) 0 0 := by
  refine gM_ofi (by decide +kernel) (Nat.le_of_ble_eq_true rfl) ?_
  intro pg ev s mi below meth co A hx hb hr hml hts hown hlocks hname hA hsz hAe hP hK hD hE hS ls hl
  have hl : lv_has ls 4 [(0, .ref q0), (1, .int (nI n))] := hl
  generalize hQ : MQ below _ _ s _ _ A = Q
  refine lv_iconst (pc := 0) hx hb dX8_sum_0 gk_0 ?_
  refine lv_istore_n (pc := 1) (lv' := [(2, .int (nI 0)), (0, .ref q0), (1, .int (nI n))]) hx hb dX8_sum_1 rfl hl (by decide) rfl (fun ls hl => ?_)
  refine lv_iconst (pc := 2) hx hb dX8_sum_2 gk_0 ?_
  refine lv_istore_n (pc := 3) (lv' := [(3, .int (nI 0)), (2, .int (nI 0)), (0, .ref q0), (1, .int (nI n))]) hx hb dX8_sum_3 rfl hl (by decide) rfl (fun ls hl => ?_)
  have lab_4 : ∀ (fuel : Nat) (i : Nat), (n - i) < fuel → (i ≤ n) → ∀ (H : Heap) (locs : List Loc) (ls : Array Slot), va_P D vwCl [(q0, .inl (cI, 16, .inl (aB v)))] H → va_D A [(q0, .inl (cI, 16, .inl (aB v)))] → va_S A s.heap H locs → lv_has ls 4 [(0, .ref q0), (1, .int (nI n)), (2, .int (sumI (aB v) i)), (3, .int (nI i))] → W pg l ev ({ frames := 0, cells := 0, slots := 0, locals := 0 } : Room) s mi [(.ref q0 : Value), .int (nI n)].toArray below meth co H locs 0 0 Q (F0 mi 4 ls []) := by
    intro fuel
    induction fuel with
    | zero => intro i hm; exact absurd hm (Nat.not_lt_zero _)
    | succ fuel ih_4 =>
      intro i hm_4 hi H locs ls hP hD hS hl
      refine lv_iload_n (pc := 4) hx hb dX8_sum_4 rfl (lv_at hl 3 rfl) ?_
      refine lv_iload_n (pc := 5) hx hb dX8_sum_5 rfl (lv_at hl 1 rfl) ?_
      refine g_icmp_geN (pc := 6) (tgt := 21) hx hb dX8_sum_6 (by decide) (by omega) (by omega) (fun c_6 => ?_) (fun c_6 => ?_)
      · refine lv_iload_n (pc := 21) hx hb dX8_sum_21 rfl (lv_at hl 2 rfl) ?_
        rw [← hQ]
        exact g_iret hx hb hr hlocks hS dX8_sum_22 () (by rw [show i = n by omega]) hP hD
      · refine lv_iload_n (pc := 9) hx hb dX8_sum_9 rfl (lv_at hl 2 rfl) ?_
        refine lv_aload_n (pc := 10) hx hb dX8_sum_10 rfl (lv_at hl 0 rfl) ?_
        refine lv_iload_n (pc := 11) hx hb dX8_sum_11 rfl (lv_at hl 3 rfl) ?_
        refine g_iald (pc := 12) (v := bI (v i)) hx hb hK hP 0 0 rfl rfl dX8_sum_12 (by first | assumption | omega) (by decide) rfl ?_
        refine lv_iadd (pc := 13) hx hb dX8_sum_13 ?_
        refine lv_istore_n (pc := 14) (lv' := [(2, .int ((sumI (aB v) i) + (bI (v i)))), (0, .ref q0), (1, .int (nI n)), (3, .int (nI i))]) hx hb dX8_sum_14 rfl hl (by decide) rfl (fun ls hl => ?_)
        refine lv_iinc (pc := 15) (v := nI (i + 1)) (lv' := [(3, .int (nI (i + 1))), (2, .int ((sumI (aB v) i) + (bI (v i)))), (0, .ref q0), (1, .int (nI n))]) hx hb dX8_sum_15 hl (k := 3) rfl (gi_1 _) (by decide) rfl (fun ls hl => ?_)
        refine lv_goto (pc := 18) (tgt := 4) hx hb dX8_sum_18 (by decide) ?_
        exact ih_4 (i + 1) (by omega) (show (i + 1) ≤ n from by first | assumption | omega) _ _ _ hP hD hS (lv_sub hl [2, 3, 1, 0] rfl)
  exact lab_4 (n - 0 + 1) 0 (Nat.lt_succ_self _) (show 0 ≤ n from by first | assumption | omega) _ _ _ hP hD hS (lv_sub hl [2, 3, 1, 0] rfl)
set_option maxHeartbeats 4000000 in
set_option maxRecDepth 100000 in
theorem c_X8_sum_B8 (l : Launch) (D : va_G) (cI cZ : ClassId) (sz : Nat) (q0 : Nat) (v : Nat → Bool) (n : Nat) (hn : n ≤ 8) : gMi l yX8_sum cX8_sum 4 .int D cI cZ sz [(q0, .inl (cI, 8, .inl (aB v)))] [.ref q0, .int (nI n)] ({ frames := 0, cells := 0, slots := 0, locals := 0 } : Room) (fun (r : Int32) (_ : Unit) => r = (sumI (aB v) n)) (fun (_ : Unit) => [(q0, .inl (cI, 8, .inl (aB v)))]) 0 0 := by
  refine gM_ofi (by decide +kernel) (Nat.le_of_ble_eq_true rfl) ?_
  intro pg ev s mi below meth co A hx hb hr hml hts hown hlocks hname hA hsz hAe hP hK hD hE hS ls hl
  have hl : lv_has ls 4 [(0, .ref q0), (1, .int (nI n))] := hl
  generalize hQ : MQ below _ _ s _ _ A = Q
  refine lv_iconst (pc := 0) hx hb dX8_sum_0 gk_0 ?_
  refine lv_istore_n (pc := 1) (lv' := [(2, .int (nI 0)), (0, .ref q0), (1, .int (nI n))]) hx hb dX8_sum_1 rfl hl (by decide) rfl (fun ls hl => ?_)
  refine lv_iconst (pc := 2) hx hb dX8_sum_2 gk_0 ?_
  refine lv_istore_n (pc := 3) (lv' := [(3, .int (nI 0)), (2, .int (nI 0)), (0, .ref q0), (1, .int (nI n))]) hx hb dX8_sum_3 rfl hl (by decide) rfl (fun ls hl => ?_)
  have lab_4 : ∀ (fuel : Nat) (i : Nat), (n - i) < fuel → (i ≤ n) → ∀ (H : Heap) (locs : List Loc) (ls : Array Slot), va_P D vwCl [(q0, .inl (cI, 8, .inl (aB v)))] H → va_D A [(q0, .inl (cI, 8, .inl (aB v)))] → va_S A s.heap H locs → lv_has ls 4 [(0, .ref q0), (1, .int (nI n)), (2, .int (sumI (aB v) i)), (3, .int (nI i))] → W pg l ev ({ frames := 0, cells := 0, slots := 0, locals := 0 } : Room) s mi [(.ref q0 : Value), .int (nI n)].toArray below meth co H locs 0 0 Q (F0 mi 4 ls []) := by
    intro fuel
    induction fuel with
    | zero => intro i hm; exact absurd hm (Nat.not_lt_zero _)
    | succ fuel ih_4 =>
      intro i hm_4 hi H locs ls hP hD hS hl
      refine lv_iload_n (pc := 4) hx hb dX8_sum_4 rfl (lv_at hl 3 rfl) ?_
      refine lv_iload_n (pc := 5) hx hb dX8_sum_5 rfl (lv_at hl 1 rfl) ?_
      refine g_icmp_geN (pc := 6) (tgt := 21) hx hb dX8_sum_6 (by decide) (by omega) (by omega) (fun c_6 => ?_) (fun c_6 => ?_)
      · refine lv_iload_n (pc := 21) hx hb dX8_sum_21 rfl (lv_at hl 2 rfl) ?_
        rw [← hQ]
        exact g_iret hx hb hr hlocks hS dX8_sum_22 () (by rw [show i = n by omega]) hP hD
      · refine lv_iload_n (pc := 9) hx hb dX8_sum_9 rfl (lv_at hl 2 rfl) ?_
        refine lv_aload_n (pc := 10) hx hb dX8_sum_10 rfl (lv_at hl 0 rfl) ?_
        refine lv_iload_n (pc := 11) hx hb dX8_sum_11 rfl (lv_at hl 3 rfl) ?_
        refine g_iald (pc := 12) (v := bI (v i)) hx hb hK hP 0 0 rfl rfl dX8_sum_12 (by first | assumption | omega) (by decide) rfl ?_
        refine lv_iadd (pc := 13) hx hb dX8_sum_13 ?_
        refine lv_istore_n (pc := 14) (lv' := [(2, .int ((sumI (aB v) i) + (bI (v i)))), (0, .ref q0), (1, .int (nI n)), (3, .int (nI i))]) hx hb dX8_sum_14 rfl hl (by decide) rfl (fun ls hl => ?_)
        refine lv_iinc (pc := 15) (v := nI (i + 1)) (lv' := [(3, .int (nI (i + 1))), (2, .int ((sumI (aB v) i) + (bI (v i)))), (0, .ref q0), (1, .int (nI n))]) hx hb dX8_sum_15 hl (k := 3) rfl (gi_1 _) (by decide) rfl (fun ls hl => ?_)
        refine lv_goto (pc := 18) (tgt := 4) hx hb dX8_sum_18 (by decide) ?_
        exact ih_4 (i + 1) (by omega) (show (i + 1) ≤ n from by first | assumption | omega) _ _ _ hP hD hS (lv_sub hl [2, 3, 1, 0] rfl)
  exact lab_4 (n - 0 + 1) 0 (Nat.lt_succ_self _) (show 0 ≤ n from by first | assumption | omega) _ _ _ hP hD hS (lv_sub hl [2, 3, 1, 0] rfl)
set_option maxHeartbeats 4000000 in
set_option maxRecDepth 100000 in
theorem c_X8_at_16 (l : Launch) (D : va_G) (cI cZ : ClassId) (sz : Nat) (q0 : Nat) (v : Nat → Nat) (n : Nat) (k : Nat) (hn : n ≤ 16) (hv : ∀ j9, j9 < 16 → v j9 < 100) (hk : k < 100) : gMi l yX8_at cX8_at 4 .int D cI cZ sz [(q0, .inl (cI, 16, .inl (aI v)))] [.ref q0, .int (nI n), .int (nI k)] ({ frames := 0, cells := 0, slots := 0, locals := 0 } : Room) (fun (r : Int32) (_ : Unit) => r = (oI (fst v n k))) (fun (_ : Unit) => [(q0, .inl (cI, 16, .inl (aI v)))]) 0 0 := by
  refine gM_ofi (by decide +kernel) (Nat.le_of_ble_eq_true rfl) ?_
  intro pg ev s mi below meth co A hx hb hr hml hts hown hlocks hname hA hsz hAe hP hK hD hE hS ls hl
  have hl : lv_has ls 4 [(0, .ref q0), (1, .int (nI n)), (2, .int (nI k))] := hl
  generalize hQ : MQ below _ _ s _ _ A = Q
  refine lv_iconst (pc := 0) hx hb dX8_at_0 gk_0 ?_
  refine lv_istore_n (pc := 1) (lv' := [(3, .int (nI 0)), (0, .ref q0), (1, .int (nI n)), (2, .int (nI k))]) hx hb dX8_at_1 rfl hl (by decide) rfl (fun ls hl => ?_)
  have lab_2 : ∀ (fuel : Nat) (i : Nat), (n - i) < fuel → (i ≤ n) → (∀ j, j < i → v j ≠ k) → ∀ (H : Heap) (locs : List Loc) (ls : Array Slot), va_P D vwCl [(q0, .inl (cI, 16, .inl (aI v)))] H → va_D A [(q0, .inl (cI, 16, .inl (aI v)))] → va_S A s.heap H locs → lv_has ls 4 [(0, .ref q0), (1, .int (nI n)), (2, .int (nI k)), (3, .int (nI i))] → W pg l ev ({ frames := 0, cells := 0, slots := 0, locals := 0 } : Room) s mi [(.ref q0 : Value), .int (nI n), .int (nI k)].toArray below meth co H locs 0 0 Q (F0 mi 2 ls []) := by
    intro fuel
    induction fuel with
    | zero => intro i hm; exact absurd hm (Nat.not_lt_zero _)
    | succ fuel ih_2 =>
      intro i hm_2 hi hj H locs ls hP hD hS hl
      refine lv_iload_n (pc := 2) hx hb dX8_at_2 rfl (lv_at hl 3 rfl) ?_
      refine lv_iload_n (pc := 3) hx hb dX8_at_3 rfl (lv_at hl 1 rfl) ?_
      refine g_icmp_geN (pc := 4) (tgt := 22) hx hb dX8_at_4 (by decide) (by omega) (by omega) (fun c_4 => ?_) (fun c_4 => ?_)
      · refine lv_iconst (pc := 22) (v := -1) hx hb dX8_at_22 (by decide) ?_
        rw [← hQ]
        exact g_iret hx hb hr hlocks hS dX8_at_23 () (by rw [fst_none (fun j h => hj j (by omega))]; rfl) hP hD
      · refine lv_aload_n (pc := 7) hx hb dX8_at_7 rfl (lv_at hl 0 rfl) ?_
        refine lv_iload_n (pc := 8) hx hb dX8_at_8 rfl (lv_at hl 3 rfl) ?_
        refine g_iald (pc := 9) (v := nI (v i)) hx hb hK hP 0 0 rfl rfl dX8_at_9 (by first | assumption | omega) (by decide) rfl ?_
        refine lv_iload_n (pc := 10) hx hb dX8_at_10 rfl (lv_at hl 2 rfl) ?_
        refine g_icmp_neN (pc := 11) (tgt := 16) hx hb dX8_at_11 (by decide) (by have := hv i (by omega); omega) (by have := hv i (by omega); omega) (fun c_11 => ?_) (fun c_11 => ?_)
        · refine lv_iinc (pc := 16) (v := nI (i + 1)) (lv' := [(3, .int (nI (i + 1))), (0, .ref q0), (1, .int (nI n)), (2, .int (nI k))]) hx hb dX8_at_16 hl (k := 3) rfl (gi_1 _) (by decide) rfl (fun ls hl => ?_)
          refine lv_goto (pc := 19) (tgt := 2) hx hb dX8_at_19 (by decide) ?_
          exact ih_2 (i + 1) (by omega) (show (i + 1) ≤ n from by first | assumption | omega) (show ∀ j, j < (i + 1) → v j ≠ k from by exact lt_s hj c_11) _ _ _ hP hD hS (lv_sub hl [1, 2, 3, 0] rfl)
        · refine lv_iload_n (pc := 14) hx hb dX8_at_14 rfl (lv_at hl 3 rfl) ?_
          rw [← hQ]
          exact g_iret hx hb hr hlocks hS dX8_at_15 () (by rw [fst_some (by omega) c_11 hj]; rfl) hP hD
  exact lab_2 (n - 0 + 1) 0 (Nat.lt_succ_self _) (show 0 ≤ n from by first | assumption | omega) (show ∀ j, j < 0 → v j ≠ k from by exact fun j h => absurd h (Nat.not_lt_zero j)) _ _ _ hP hD hS (lv_sub hl [1, 2, 3, 0] rfl)
set_option maxHeartbeats 4000000 in
set_option maxRecDepth 100000 in
theorem c_X8_at_8 (l : Launch) (D : va_G) (cI cZ : ClassId) (sz : Nat) (q0 : Nat) (v : Nat → Nat) (n : Nat) (k : Nat) (hn : n ≤ 8) (hv : ∀ j9, j9 < 8 → v j9 < 100) (hk : k < 100) : gMi l yX8_at cX8_at 4 .int D cI cZ sz [(q0, .inl (cI, 8, .inl (aI v)))] [.ref q0, .int (nI n), .int (nI k)] ({ frames := 0, cells := 0, slots := 0, locals := 0 } : Room) (fun (r : Int32) (_ : Unit) => r = (oI (fst v n k))) (fun (_ : Unit) => [(q0, .inl (cI, 8, .inl (aI v)))]) 0 0 := by
  refine gM_ofi (by decide +kernel) (Nat.le_of_ble_eq_true rfl) ?_
  intro pg ev s mi below meth co A hx hb hr hml hts hown hlocks hname hA hsz hAe hP hK hD hE hS ls hl
  have hl : lv_has ls 4 [(0, .ref q0), (1, .int (nI n)), (2, .int (nI k))] := hl
  generalize hQ : MQ below _ _ s _ _ A = Q
  refine lv_iconst (pc := 0) hx hb dX8_at_0 gk_0 ?_
  refine lv_istore_n (pc := 1) (lv' := [(3, .int (nI 0)), (0, .ref q0), (1, .int (nI n)), (2, .int (nI k))]) hx hb dX8_at_1 rfl hl (by decide) rfl (fun ls hl => ?_)
  have lab_2 : ∀ (fuel : Nat) (i : Nat), (n - i) < fuel → (i ≤ n) → (∀ j, j < i → v j ≠ k) → ∀ (H : Heap) (locs : List Loc) (ls : Array Slot), va_P D vwCl [(q0, .inl (cI, 8, .inl (aI v)))] H → va_D A [(q0, .inl (cI, 8, .inl (aI v)))] → va_S A s.heap H locs → lv_has ls 4 [(0, .ref q0), (1, .int (nI n)), (2, .int (nI k)), (3, .int (nI i))] → W pg l ev ({ frames := 0, cells := 0, slots := 0, locals := 0 } : Room) s mi [(.ref q0 : Value), .int (nI n), .int (nI k)].toArray below meth co H locs 0 0 Q (F0 mi 2 ls []) := by
    intro fuel
    induction fuel with
    | zero => intro i hm; exact absurd hm (Nat.not_lt_zero _)
    | succ fuel ih_2 =>
      intro i hm_2 hi hj H locs ls hP hD hS hl
      refine lv_iload_n (pc := 2) hx hb dX8_at_2 rfl (lv_at hl 3 rfl) ?_
      refine lv_iload_n (pc := 3) hx hb dX8_at_3 rfl (lv_at hl 1 rfl) ?_
      refine g_icmp_geN (pc := 4) (tgt := 22) hx hb dX8_at_4 (by decide) (by omega) (by omega) (fun c_4 => ?_) (fun c_4 => ?_)
      · refine lv_iconst (pc := 22) (v := -1) hx hb dX8_at_22 (by decide) ?_
        rw [← hQ]
        exact g_iret hx hb hr hlocks hS dX8_at_23 () (by rw [fst_none (fun j h => hj j (by omega))]; rfl) hP hD
      · refine lv_aload_n (pc := 7) hx hb dX8_at_7 rfl (lv_at hl 0 rfl) ?_
        refine lv_iload_n (pc := 8) hx hb dX8_at_8 rfl (lv_at hl 3 rfl) ?_
        refine g_iald (pc := 9) (v := nI (v i)) hx hb hK hP 0 0 rfl rfl dX8_at_9 (by first | assumption | omega) (by decide) rfl ?_
        refine lv_iload_n (pc := 10) hx hb dX8_at_10 rfl (lv_at hl 2 rfl) ?_
        refine g_icmp_neN (pc := 11) (tgt := 16) hx hb dX8_at_11 (by decide) (by have := hv i (by omega); omega) (by have := hv i (by omega); omega) (fun c_11 => ?_) (fun c_11 => ?_)
        · refine lv_iinc (pc := 16) (v := nI (i + 1)) (lv' := [(3, .int (nI (i + 1))), (0, .ref q0), (1, .int (nI n)), (2, .int (nI k))]) hx hb dX8_at_16 hl (k := 3) rfl (gi_1 _) (by decide) rfl (fun ls hl => ?_)
          refine lv_goto (pc := 19) (tgt := 2) hx hb dX8_at_19 (by decide) ?_
          exact ih_2 (i + 1) (by omega) (show (i + 1) ≤ n from by first | assumption | omega) (show ∀ j, j < (i + 1) → v j ≠ k from by exact lt_s hj c_11) _ _ _ hP hD hS (lv_sub hl [1, 2, 3, 0] rfl)
        · refine lv_iload_n (pc := 14) hx hb dX8_at_14 rfl (lv_at hl 3 rfl) ?_
          rw [← hQ]
          exact g_iret hx hb hr hlocks hS dX8_at_15 () (by rw [fst_some (by omega) c_11 hj]; rfl) hP hD
  exact lab_2 (n - 0 + 1) 0 (Nat.lt_succ_self _) (show 0 ≤ n from by first | assumption | omega) (show ∀ j, j < 0 → v j ≠ k from by exact fun j h => absurd h (Nat.not_lt_zero j)) _ _ _ hP hD hS (lv_sub hl [1, 2, 3, 0] rfl)
set_option maxHeartbeats 4000000 in
set_option maxRecDepth 100000 in
theorem c_X8_thrown (l : Launch) (D : va_G) (cI cZ : ClassId) (sz : Nat) (mM mH mD mT mP mA mZ mW mS0 mS0x : Nat) (th : Nat) (np : Nat) (nt : Nat)  : gMi l yX8_thrown cX8_thrown 1 .int D cI cZ sz [(mM, .inr (8, [.int (nI th), .ref mH, .ref mD, .ref mT, .int (nI np), .ref mP, .int (nI nt), .ref mA, .ref mZ, .ref mW, .ref mS0, .ref mS0x]))] [.ref mM] ({ frames := 0, cells := 0, slots := 0, locals := 0 } : Room) (fun (r : Int32) (_ : Unit) => r = nI th) (fun (_ : Unit) => [(mM, .inr (8, [.int (nI th), .ref mH, .ref mD, .ref mT, .int (nI np), .ref mP, .int (nI nt), .ref mA, .ref mZ, .ref mW, .ref mS0, .ref mS0x]))]) 0 0 := by
  refine gM_ofi (by decide +kernel) (Nat.le_of_ble_eq_true rfl) ?_
  intro pg ev s mi below meth co A hx hb hr hml hts hown hlocks hname hA hsz hAe hP hK hD hE hS ls hl
  have hl : lv_has ls 1 [(0, .ref mM)] := hl
  generalize hQ : MQ below _ _ s _ _ A = Q
  refine lv_aload_n (pc := 0) hx hb dX8_thrown_0 rfl (lv_at hl 0 rfl) ?_
  refine gf_X8_46 (pc := 1) hx hb hts hown hK hP 0 rfl rfl dX8_thrown_1 ?_
  rw [← hQ]
  exact g_iret hx hb hr hlocks hS dX8_thrown_4 () (rfl) hP hD
set_option maxHeartbeats 4000000 in
set_option maxRecDepth 100000 in
theorem c_X8_no (l : Launch) (D : va_G) (cI cZ : ClassId) (sz : Nat) (mM mH mD mT mP mA mZ mW mS0 mS0x : Nat) (th : Nat) (np : Nat) (nt : Nat) (k : Nat)  : gMi l yX8_no cX8_no 2 .int D cI cZ sz [(mM, .inr (8, [.int (nI th), .ref mH, .ref mD, .ref mT, .int (nI np), .ref mP, .int (nI nt), .ref mA, .ref mZ, .ref mW, .ref mS0, .ref mS0x]))] [.ref mM, .int (nI k)] ({ frames := 0, cells := 0, slots := 0, locals := 0 } : Room) (fun (r : Int32) (_ : Unit) => r = nI 0) (fun (_ : Unit) => [(mM, .inr (8, [.int (nI k), .ref mH, .ref mD, .ref mT, .int (nI np), .ref mP, .int (nI nt), .ref mA, .ref mZ, .ref mW, .ref mS0, .ref mS0x]))]) 0 0 := by
  refine gM_ofi (by decide +kernel) (Nat.le_of_ble_eq_true rfl) ?_
  intro pg ev s mi below meth co A hx hb hr hml hts hown hlocks hname hA hsz hAe hP hK hD hE hS ls hl
  have hl : lv_has ls 2 [(0, .ref mM), (1, .int (nI k))] := hl
  generalize hQ : MQ below _ _ s _ _ A = Q
  refine lv_aload_n (pc := 0) hx hb dX8_no_0 rfl (lv_at hl 0 rfl) ?_
  refine lv_iload_n (pc := 1) hx hb dX8_no_1 rfl (lv_at hl 1 rfl) ?_
  refine gp_X8_46 (pc := 2) (w2 := [(mM, .inr (8, [.int (nI k), .ref mH, .ref mD, .ref mT, .int (nI np), .ref mP, .int (nI nt), .ref mA, .ref mZ, .ref mW, .ref mS0, .ref mS0x]))]) hx hb hts hown hK hP hD hS 0 rfl rfl rfl rfl (Nat.le_of_ble_eq_true rfl) dX8_no_2 (fun H locs hP hD hS => ?_)
  refine lv_iconst (pc := 5) hx hb dX8_no_5 gk_0 ?_
  rw [← hQ]
  exact g_iret hx hb hr hlocks hS dX8_no_6 () (rfl) hP hD
set_option maxHeartbeats 4000000 in
set_option maxRecDepth 100000 in
theorem c_X8_isIn (l : Launch) (D : va_G) (cI cZ : ClassId) (sz : Nat) (v9 : Int32) (lo : Int32) (hi : Int32)  : gMi l yX8_isIn cX8_isIn 3 .boolean D cI cZ sz [] [.int v9, .int lo, .int hi] ({ frames := 0, cells := 0, slots := 0, locals := 0 } : Room) (fun (r : Int32) (_ : Unit) => r = bI (inR v9 lo hi)) (fun (_ : Unit) => []) 0 0 := by
  refine gM_ofi (by decide +kernel) (Nat.le_of_ble_eq_true rfl) ?_
  intro pg ev s mi below meth co A hx hb hr hml hts hown hlocks hname hA hsz hAe hP hK hD hE hS ls hl
  have hl : lv_has ls 3 [(0, .int v9), (1, .int lo), (2, .int hi)] := hl
  generalize hQ : MQ below _ _ s _ _ A = Q
  refine lv_iload_n (pc := 0) hx hb dX8_isIn_0 rfl (lv_at hl 0 rfl) ?_
  refine lv_iload_n (pc := 1) hx hb dX8_isIn_1 rfl (lv_at hl 1 rfl) ?_
  refine lv_icmp_lt (pc := 2) (tgt := 14) hx hb dX8_isIn_2 (by decide) (fun c_2 => ?_) (fun c_2 => ?_)
  · refine lv_iconst (pc := 14) hx hb dX8_isIn_14 gk_0 ?_
    rw [← hQ]
    exact g_zret hx hb hr hlocks hS dX8_isIn_15 (inR v9 lo hi) (bI_of0 (by unfold inR; first | (rw [decide_eq_true (i_nlt c_2), decide_eq_true (i_nlt c_7)]; rfl) | (rw [decide_eq_false (i_lt c_2)]; rfl) | (rw [decide_eq_false (i_lt c_7), Bool.and_false]))) () (rfl) hP hD
  · refine lv_iload_n (pc := 5) hx hb dX8_isIn_5 rfl (lv_at hl 0 rfl) ?_
    refine lv_iload_n (pc := 6) hx hb dX8_isIn_6 rfl (lv_at hl 2 rfl) ?_
    refine lv_icmp_gt (pc := 7) (tgt := 14) hx hb dX8_isIn_7 (by decide) (fun c_7 => ?_) (fun c_7 => ?_)
    · refine lv_iconst (pc := 14) hx hb dX8_isIn_14 gk_0 ?_
      rw [← hQ]
      exact g_zret hx hb hr hlocks hS dX8_isIn_15 (inR v9 lo hi) (bI_of0 (by unfold inR; first | (rw [decide_eq_true (i_nlt c_2), decide_eq_true (i_nlt c_7)]; rfl) | (rw [decide_eq_false (i_lt c_2)]; rfl) | (rw [decide_eq_false (i_lt c_7), Bool.and_false]))) () (rfl) hP hD
    · refine lv_iconst (pc := 10) hx hb dX8_isIn_10 gk_1 ?_
      refine lv_goto (pc := 11) (tgt := 15) hx hb dX8_isIn_11 (by decide) ?_
      rw [← hQ]
      exact g_zret hx hb hr hlocks hS dX8_isIn_15 (inR v9 lo hi) (bI_of1 (by unfold inR; first | (rw [decide_eq_true (i_nlt c_2), decide_eq_true (i_nlt c_7)]; rfl) | (rw [decide_eq_false (i_lt c_2)]; rfl) | (rw [decide_eq_false (i_lt c_7), Bool.and_false]))) () (rfl) hP hD
set_option maxHeartbeats 4000000 in
set_option maxRecDepth 100000 in
theorem c_X8_isCell (l : Launch) (D : va_G) (cI cZ : ClassId) (sz : Nat) (x : Int32) (y : Int32)  : gMi l yX8_isCell cX8_isCell 2 .boolean D cI cZ sz [] [.int x, .int y] ({ frames := 1, cells := 0, slots := 0, locals := 22 } : Room) (fun (r : Int32) (_ : Unit) => r = bI (inR x (nI 0) (nI 9) && inR y (nI 0) (nI 9))) (fun (_ : Unit) => []) 0 0 := by
  refine gM_ofi (by decide +kernel) (Nat.le_of_ble_eq_true rfl) ?_
  intro pg ev s mi below meth co A hx hb hr hml hts hown hlocks hname hA hsz hAe hP hK hD hE hS ls hl
  have hl : lv_has ls 2 [(0, .int x), (1, .int y)] := hl
  generalize hQ : MQ below _ _ s _ _ A = Q
  refine lv_iload_n (pc := 0) hx hb dX8_isCell_0 rfl (lv_at hl 0 rfl) ?_
  refine lv_iconst (pc := 1) hx hb dX8_isCell_1 gk_0 ?_
  refine lv_bipush (pc := 2) (v := nI 9) hx hb dX8_isCell_2 (by decide) ?_
  refine g_si (pc := 4) (As := [.int x, .int (nI 0), .int (nI 9)]) (rest := []) (wc := []) (wr := []) lk_X8_50 hx hb hml hts hown hE hA hK hP hD hS hl (c_X8_isIn l D cI cZ _ x (nI 0) (nI 9)) dX8_isCell_4 [] [] rfl rfl (by decide) (by decide) (by decide) rfl rfl ⟨rfl, rfl, Nat.le_of_ble_eq_true rfl, Nat.le_of_ble_eq_true rfl, Nat.le_refl _, Nat.le_refl _⟩ (Nat.le_of_ble_eq_true rfl) (fun r u H locs hw hP hD hS => ?_)
  have hP : va_P D vwCl [] H := hP
  have hD : va_D A [] := hD
  have hw : r = bI (inR x (nI 0) (nI 9)) := hw
  obtain rfl := hw
  refine g_if_eqB (pc := 7) (tgt := 24) hx hb dX8_isCell_7 (by decide) (fun c_7 => ?_) (fun c_7 => ?_)
  · refine lv_iconst (pc := 24) hx hb dX8_isCell_24 gk_0 ?_
    rw [← hQ]
    exact g_zret hx hb hr hlocks hS dX8_isCell_25 (inR x (nI 0) (nI 9) && inR y (nI 0) (nI 9)) (bI_of0 (by first | (rw [c_7, c_17]; rfl) | (rw [c_7]; rfl) | (rw [c_17, Bool.and_false]))) () (rfl) hP hD
  · refine lv_iload_n (pc := 10) hx hb dX8_isCell_10 rfl (lv_at hl 1 rfl) ?_
    refine lv_iconst (pc := 11) hx hb dX8_isCell_11 gk_0 ?_
    refine lv_bipush (pc := 12) (v := nI 9) hx hb dX8_isCell_12 (by decide) ?_
    refine g_si (pc := 14) (As := [.int y, .int (nI 0), .int (nI 9)]) (rest := []) (wc := []) (wr := []) lk_X8_50 hx hb hml hts hown hE hA hK hP hD hS hl (c_X8_isIn l D cI cZ _ y (nI 0) (nI 9)) dX8_isCell_14 [] [] rfl rfl (by decide) (by decide) (by decide) rfl rfl ⟨rfl, rfl, Nat.le_of_ble_eq_true rfl, Nat.le_of_ble_eq_true rfl, Nat.le_refl _, Nat.le_refl _⟩ (Nat.le_of_ble_eq_true rfl) (fun r u H locs hw hP hD hS => ?_)
    have hP : va_P D vwCl [] H := hP
    have hD : va_D A [] := hD
    have hw : r = bI (inR y (nI 0) (nI 9)) := hw
    obtain rfl := hw
    refine g_if_eqB (pc := 17) (tgt := 24) hx hb dX8_isCell_17 (by decide) (fun c_17 => ?_) (fun c_17 => ?_)
    · refine lv_iconst (pc := 24) hx hb dX8_isCell_24 gk_0 ?_
      rw [← hQ]
      exact g_zret hx hb hr hlocks hS dX8_isCell_25 (inR x (nI 0) (nI 9) && inR y (nI 0) (nI 9)) (bI_of0 (by first | (rw [c_7, c_17]; rfl) | (rw [c_7]; rfl) | (rw [c_17, Bool.and_false]))) () (rfl) hP hD
    · refine lv_iconst (pc := 20) hx hb dX8_isCell_20 gk_1 ?_
      refine lv_goto (pc := 21) (tgt := 25) hx hb dX8_isCell_21 (by decide) ?_
      rw [← hQ]
      exact g_zret hx hb hr hlocks hS dX8_isCell_25 (inR x (nI 0) (nI 9) && inR y (nI 0) (nI 9)) (bI_of1 (by first | (rw [c_7, c_17]; rfl) | (rw [c_7]; rfl) | (rw [c_17, Bool.and_false]))) () (rfl) hP hD
set_option maxHeartbeats 4000000 in
set_option maxRecDepth 100000 in
theorem c_X8_isStorm (l : Launch) (D : va_G) (cI cZ : ClassId) (sz : Nat) (x : Int32) (y : Int32)  : gMi l yX8_isStorm cX8_isStorm 2 .boolean D cI cZ sz [] [.int x, .int y] ({ frames := 1, cells := 0, slots := 0, locals := 22 } : Room) (fun (r : Int32) (_ : Unit) => r = bI (inR x (nI 0) (nI 9) && inR y (nI 0) (nI 3))) (fun (_ : Unit) => []) 0 0 := by
  refine gM_ofi (by decide +kernel) (Nat.le_of_ble_eq_true rfl) ?_
  intro pg ev s mi below meth co A hx hb hr hml hts hown hlocks hname hA hsz hAe hP hK hD hE hS ls hl
  have hl : lv_has ls 2 [(0, .int x), (1, .int y)] := hl
  generalize hQ : MQ below _ _ s _ _ A = Q
  refine lv_iload_n (pc := 0) hx hb dX8_isStorm_0 rfl (lv_at hl 0 rfl) ?_
  refine lv_iconst (pc := 1) hx hb dX8_isStorm_1 gk_0 ?_
  refine lv_bipush (pc := 2) (v := nI 9) hx hb dX8_isStorm_2 (by decide) ?_
  refine g_si (pc := 4) (As := [.int x, .int (nI 0), .int (nI 9)]) (rest := []) (wc := []) (wr := []) lk_X8_50 hx hb hml hts hown hE hA hK hP hD hS hl (c_X8_isIn l D cI cZ _ x (nI 0) (nI 9)) dX8_isStorm_4 [] [] rfl rfl (by decide) (by decide) (by decide) rfl rfl ⟨rfl, rfl, Nat.le_of_ble_eq_true rfl, Nat.le_of_ble_eq_true rfl, Nat.le_refl _, Nat.le_refl _⟩ (Nat.le_of_ble_eq_true rfl) (fun r u H locs hw hP hD hS => ?_)
  have hP : va_P D vwCl [] H := hP
  have hD : va_D A [] := hD
  have hw : r = bI (inR x (nI 0) (nI 9)) := hw
  obtain rfl := hw
  refine g_if_eqB (pc := 7) (tgt := 23) hx hb dX8_isStorm_7 (by decide) (fun c_7 => ?_) (fun c_7 => ?_)
  · refine lv_iconst (pc := 23) hx hb dX8_isStorm_23 gk_0 ?_
    rw [← hQ]
    exact g_zret hx hb hr hlocks hS dX8_isStorm_24 (inR x (nI 0) (nI 9) && inR y (nI 0) (nI 3)) (bI_of0 (by first | (rw [c_7, c_16]; rfl) | (rw [c_7]; rfl) | (rw [c_16, Bool.and_false]))) () (rfl) hP hD
  · refine lv_iload_n (pc := 10) hx hb dX8_isStorm_10 rfl (lv_at hl 1 rfl) ?_
    refine lv_iconst (pc := 11) hx hb dX8_isStorm_11 gk_0 ?_
    refine lv_iconst (pc := 12) hx hb dX8_isStorm_12 gk_3 ?_
    refine g_si (pc := 13) (As := [.int y, .int (nI 0), .int (nI 3)]) (rest := []) (wc := []) (wr := []) lk_X8_50 hx hb hml hts hown hE hA hK hP hD hS hl (c_X8_isIn l D cI cZ _ y (nI 0) (nI 3)) dX8_isStorm_13 [] [] rfl rfl (by decide) (by decide) (by decide) rfl rfl ⟨rfl, rfl, Nat.le_of_ble_eq_true rfl, Nat.le_of_ble_eq_true rfl, Nat.le_refl _, Nat.le_refl _⟩ (Nat.le_of_ble_eq_true rfl) (fun r u H locs hw hP hD hS => ?_)
    have hP : va_P D vwCl [] H := hP
    have hD : va_D A [] := hD
    have hw : r = bI (inR y (nI 0) (nI 3)) := hw
    obtain rfl := hw
    refine g_if_eqB (pc := 16) (tgt := 23) hx hb dX8_isStorm_16 (by decide) (fun c_16 => ?_) (fun c_16 => ?_)
    · refine lv_iconst (pc := 23) hx hb dX8_isStorm_23 gk_0 ?_
      rw [← hQ]
      exact g_zret hx hb hr hlocks hS dX8_isStorm_24 (inR x (nI 0) (nI 9) && inR y (nI 0) (nI 3)) (bI_of0 (by first | (rw [c_7, c_16]; rfl) | (rw [c_7]; rfl) | (rw [c_16, Bool.and_false]))) () (rfl) hP hD
    · refine lv_iconst (pc := 19) hx hb dX8_isStorm_19 gk_1 ?_
      refine lv_goto (pc := 20) (tgt := 24) hx hb dX8_isStorm_20 (by decide) ?_
      rw [← hQ]
      exact g_zret hx hb hr hlocks hS dX8_isStorm_24 (inR x (nI 0) (nI 9) && inR y (nI 0) (nI 3)) (bI_of1 (by first | (rw [c_7, c_16]; rfl) | (rw [c_7]; rfl) | (rw [c_16, Bool.and_false]))) () (rfl) hP hD
set_option maxHeartbeats 4000000 in
set_option maxRecDepth 100000 in
theorem c_X8_isPeg (l : Launch) (D : va_G) (cI cZ : ClassId) (sz : Nat) (mM mH mD mT mP mA mZ mW mS0 mS0x : Nat) (th : Nat) (np : Nat) (nt : Nat) (x : Int32)  : gMi l yX8_isPeg cX8_isPeg 2 .boolean D cI cZ sz [(mM, .inr (8, [.int (nI th), .ref mH, .ref mD, .ref mT, .int (nI np), .ref mP, .int (nI nt), .ref mA, .ref mZ, .ref mW, .ref mS0, .ref mS0x]))] [.ref mM, .int x] ({ frames := 1, cells := 0, slots := 0, locals := 22 } : Room) (fun (r : Int32) (_ : Unit) => r = bI (inR x (nI 0) (nI np - nI 1))) (fun (_ : Unit) => [(mM, .inr (8, [.int (nI th), .ref mH, .ref mD, .ref mT, .int (nI np), .ref mP, .int (nI nt), .ref mA, .ref mZ, .ref mW, .ref mS0, .ref mS0x]))]) 0 0 := by
  refine gM_ofi (by decide +kernel) (Nat.le_of_ble_eq_true rfl) ?_
  intro pg ev s mi below meth co A hx hb hr hml hts hown hlocks hname hA hsz hAe hP hK hD hE hS ls hl
  have hl : lv_has ls 2 [(0, .ref mM), (1, .int x)] := hl
  generalize hQ : MQ below _ _ s _ _ A = Q
  refine lv_iload_n (pc := 0) hx hb dX8_isPeg_0 rfl (lv_at hl 1 rfl) ?_
  refine lv_iconst (pc := 1) hx hb dX8_isPeg_1 gk_0 ?_
  refine lv_aload_n (pc := 2) hx hb dX8_isPeg_2 rfl (lv_at hl 0 rfl) ?_
  refine gf_X8_54 (pc := 3) hx hb hts hown hK hP 0 rfl rfl dX8_isPeg_3 ?_
  refine lv_iconst (pc := 6) hx hb dX8_isPeg_6 gk_1 ?_
  refine lv_isub (pc := 7) hx hb dX8_isPeg_7 ?_
  refine g_si (pc := 8) (As := [.int x, .int (nI 0), .int ((nI np) - (nI 1))]) (rest := []) (wc := []) (wr := [(mM, .inr (8, [.int (nI th), .ref mH, .ref mD, .ref mT, .int (nI np), .ref mP, .int (nI nt), .ref mA, .ref mZ, .ref mW, .ref mS0, .ref mS0x]))]) lk_X8_50 hx hb hml hts hown hE hA hK hP hD hS hl (c_X8_isIn l D cI cZ _ x (nI 0) ((nI np) - (nI 1))) dX8_isPeg_8 [] [0] rfl rfl (by decide) (by decide) (by decide) rfl rfl ⟨rfl, rfl, Nat.le_of_ble_eq_true rfl, Nat.le_of_ble_eq_true rfl, Nat.le_refl _, Nat.le_refl _⟩ (Nat.le_of_ble_eq_true rfl) (fun r u H locs hw hP hD hS => ?_)
  have hP : va_P D vwCl [(mM, .inr (8, [.int (nI th), .ref mH, .ref mD, .ref mT, .int (nI np), .ref mP, .int (nI nt), .ref mA, .ref mZ, .ref mW, .ref mS0, .ref mS0x]))] H := hP
  have hD : va_D A [(mM, .inr (8, [.int (nI th), .ref mH, .ref mD, .ref mT, .int (nI np), .ref mP, .int (nI nt), .ref mA, .ref mZ, .ref mW, .ref mS0, .ref mS0x]))] := hD
  have hw : r = bI (inR x (nI 0) ((nI np) - (nI 1))) := hw
  obtain rfl := hw
  rw [← hQ]
  exact g_zret hx hb hr hlocks hS dX8_isPeg_11 (inR x (nI 0) (nI np - nI 1)) (rfl) () (rfl) hP hD
set_option maxHeartbeats 4000000 in
set_option maxRecDepth 100000 in
theorem c_X8_isTent (l : Launch) (D : va_G) (cI cZ : ClassId) (sz : Nat) (mM mH mD mT mP mA mZ mW mS0 mS0x : Nat) (th : Nat) (np : Nat) (nt : Nat) (x : Int32)  : gMi l yX8_isTent cX8_isTent 2 .boolean D cI cZ sz [(mM, .inr (8, [.int (nI th), .ref mH, .ref mD, .ref mT, .int (nI np), .ref mP, .int (nI nt), .ref mA, .ref mZ, .ref mW, .ref mS0, .ref mS0x]))] [.ref mM, .int x] ({ frames := 1, cells := 0, slots := 0, locals := 22 } : Room) (fun (r : Int32) (_ : Unit) => r = bI (inR x (nI 0) (nI nt - nI 1))) (fun (_ : Unit) => [(mM, .inr (8, [.int (nI th), .ref mH, .ref mD, .ref mT, .int (nI np), .ref mP, .int (nI nt), .ref mA, .ref mZ, .ref mW, .ref mS0, .ref mS0x]))]) 0 0 := by
  refine gM_ofi (by decide +kernel) (Nat.le_of_ble_eq_true rfl) ?_
  intro pg ev s mi below meth co A hx hb hr hml hts hown hlocks hname hA hsz hAe hP hK hD hE hS ls hl
  have hl : lv_has ls 2 [(0, .ref mM), (1, .int x)] := hl
  generalize hQ : MQ below _ _ s _ _ A = Q
  refine lv_iload_n (pc := 0) hx hb dX8_isTent_0 rfl (lv_at hl 1 rfl) ?_
  refine lv_iconst (pc := 1) hx hb dX8_isTent_1 gk_0 ?_
  refine lv_aload_n (pc := 2) hx hb dX8_isTent_2 rfl (lv_at hl 0 rfl) ?_
  refine gf_X8_57 (pc := 3) hx hb hts hown hK hP 0 rfl rfl dX8_isTent_3 ?_
  refine lv_iconst (pc := 6) hx hb dX8_isTent_6 gk_1 ?_
  refine lv_isub (pc := 7) hx hb dX8_isTent_7 ?_
  refine g_si (pc := 8) (As := [.int x, .int (nI 0), .int ((nI nt) - (nI 1))]) (rest := []) (wc := []) (wr := [(mM, .inr (8, [.int (nI th), .ref mH, .ref mD, .ref mT, .int (nI np), .ref mP, .int (nI nt), .ref mA, .ref mZ, .ref mW, .ref mS0, .ref mS0x]))]) lk_X8_50 hx hb hml hts hown hE hA hK hP hD hS hl (c_X8_isIn l D cI cZ _ x (nI 0) ((nI nt) - (nI 1))) dX8_isTent_8 [] [0] rfl rfl (by decide) (by decide) (by decide) rfl rfl ⟨rfl, rfl, Nat.le_of_ble_eq_true rfl, Nat.le_of_ble_eq_true rfl, Nat.le_refl _, Nat.le_refl _⟩ (Nat.le_of_ble_eq_true rfl) (fun r u H locs hw hP hD hS => ?_)
  have hP : va_P D vwCl [(mM, .inr (8, [.int (nI th), .ref mH, .ref mD, .ref mT, .int (nI np), .ref mP, .int (nI nt), .ref mA, .ref mZ, .ref mW, .ref mS0, .ref mS0x]))] H := hP
  have hD : va_D A [(mM, .inr (8, [.int (nI th), .ref mH, .ref mD, .ref mT, .int (nI np), .ref mP, .int (nI nt), .ref mA, .ref mZ, .ref mW, .ref mS0, .ref mS0x]))] := hD
  have hw : r = bI (inR x (nI 0) ((nI nt) - (nI 1))) := hw
  obtain rfl := hw
  rw [← hQ]
  exact g_zret hx hb hr hlocks hS dX8_isTent_11 (inR x (nI 0) (nI nt - nI 1)) (rfl) () (rfl) hP hD
set_option maxHeartbeats 4000000 in
set_option maxRecDepth 100000 in
theorem c_X8_isOnSide (l : Launch) (D : va_G) (cI cZ : ClassId) (sz : Nat) (b : Nat) (a : Nat) (dr : Nat) (ha : a < 100) (hb9 : b < 100) (hd : dr ≤ 3) : gMi l yX8_isOnSide cX8_isOnSide 3 .boolean D cI cZ sz [] [.int (nI b), .int (nI a), .int (nI dr)] ({ frames := 0, cells := 0, slots := 0, locals := 0 } : Room) (fun (r : Int32) (_ : Unit) => r = bI (sideF a b dr)) (fun (_ : Unit) => []) 0 0 := by
  refine gM_ofi (by decide +kernel) (Nat.le_of_ble_eq_true rfl) ?_
  intro pg ev s mi below meth co A hx hb hr hml hts hown hlocks hname hA hsz hAe hP hK hD hE hS ls hl
  have hl : lv_has ls 3 [(0, .int (nI b)), (1, .int (nI a)), (2, .int (nI dr))] := hl
  generalize hQ : MQ below _ _ s _ _ A = Q
  refine lv_iload_n (pc := 0) hx hb dX8_isOnSide_0 rfl (lv_at hl 2 rfl) ?_
  refine g_if_neN (pc := 1) (tgt := 21) hx hb dX8_isOnSide_1 (by decide) (by omega) (fun c_1 => ?_) (fun c_1 => ?_)
  · refine lv_iload_n (pc := 21) hx hb dX8_isOnSide_21 rfl (lv_at hl 2 rfl) ?_
    refine lv_iconst (pc := 22) hx hb dX8_isOnSide_22 gk_1 ?_
    refine g_icmp_neN (pc := 23) (tgt := 43) hx hb dX8_isOnSide_23 (by decide) (by omega) (by omega) (fun c_23 => ?_) (fun c_23 => ?_)
    · refine lv_iload_n (pc := 43) hx hb dX8_isOnSide_43 rfl (lv_at hl 2 rfl) ?_
      refine lv_iconst (pc := 44) hx hb dX8_isOnSide_44 gk_2 ?_
      refine g_icmp_neN (pc := 45) (tgt := 67) hx hb dX8_isOnSide_45 (by decide) (by omega) (by omega) (fun c_45 => ?_) (fun c_45 => ?_)
      · refine lv_iload_n (pc := 67) hx hb dX8_isOnSide_67 rfl (lv_at hl 1 rfl) ?_
        refine lv_bipush (pc := 68) (v := nI 10) hx hb dX8_isOnSide_68 (by decide) ?_
        refine g_irem (pc := 70) hx hb dX8_isOnSide_70 (nI_ne0 (by omega) (by omega)) (pk_rem (by omega) (by omega) (by omega)) ?_
        refine lv_iload_n (pc := 71) hx hb dX8_isOnSide_71 rfl (lv_at hl 0 rfl) ?_
        refine lv_bipush (pc := 72) (v := nI 10) hx hb dX8_isOnSide_72 (by decide) ?_
        refine g_irem (pc := 74) hx hb dX8_isOnSide_74 (nI_ne0 (by omega) (by omega)) (pk_rem (by omega) (by omega) (by omega)) ?_
        refine g_icmp_geN (pc := 75) (tgt := 82) hx hb dX8_isOnSide_75 (by decide) (by omega) (by omega) (fun c_75 => ?_) (fun c_75 => ?_)
        · refine lv_iconst (pc := 82) hx hb dX8_isOnSide_82 gk_0 ?_
          rw [← hQ]
          exact g_zret hx hb hr hlocks hS dX8_isOnSide_83 (sideF a b dr) (bI_of0 (by unfold sideF; first | (rw [if_pos c_1]; first | exact decide_eq_true c_12 | exact decide_eq_false (by omega)) | (rw [if_neg (by omega)]; first | (rw [if_pos c_23]; first | exact decide_eq_true (by omega) | exact decide_eq_false (by omega)) | (rw [if_neg (by omega)]; first | (rw [if_pos c_45]; first | exact decide_eq_true (by omega) | exact decide_eq_false (by omega)) | (rw [if_neg (by omega)]; first | exact decide_eq_true (by omega) | exact decide_eq_false (by omega)))))) () (rfl) hP hD
        · refine lv_iconst (pc := 78) hx hb dX8_isOnSide_78 gk_1 ?_
          refine lv_goto (pc := 79) (tgt := 83) hx hb dX8_isOnSide_79 (by decide) ?_
          rw [← hQ]
          exact g_zret hx hb hr hlocks hS dX8_isOnSide_83 (sideF a b dr) (bI_of1 (by unfold sideF; first | (rw [if_pos c_1]; first | exact decide_eq_true c_12 | exact decide_eq_false (by omega)) | (rw [if_neg (by omega)]; first | (rw [if_pos c_23]; first | exact decide_eq_true (by omega) | exact decide_eq_false (by omega)) | (rw [if_neg (by omega)]; first | (rw [if_pos c_45]; first | exact decide_eq_true (by omega) | exact decide_eq_false (by omega)) | (rw [if_neg (by omega)]; first | exact decide_eq_true (by omega) | exact decide_eq_false (by omega)))))) () (rfl) hP hD
      · refine lv_iload_n (pc := 48) hx hb dX8_isOnSide_48 rfl (lv_at hl 1 rfl) ?_
        refine lv_bipush (pc := 49) (v := nI 10) hx hb dX8_isOnSide_49 (by decide) ?_
        refine g_idiv (pc := 51) hx hb dX8_isOnSide_51 (nI_ne0 (by omega) (by omega)) (pk_div (by omega) (by omega) (by omega)) ?_
        refine lv_iload_n (pc := 52) hx hb dX8_isOnSide_52 rfl (lv_at hl 0 rfl) ?_
        refine lv_bipush (pc := 53) (v := nI 10) hx hb dX8_isOnSide_53 (by decide) ?_
        refine g_idiv (pc := 55) hx hb dX8_isOnSide_55 (nI_ne0 (by omega) (by omega)) (pk_div (by omega) (by omega) (by omega)) ?_
        refine g_icmp_leN (pc := 56) (tgt := 63) hx hb dX8_isOnSide_56 (by decide) (by omega) (by omega) (fun c_56 => ?_) (fun c_56 => ?_)
        · refine lv_iconst (pc := 63) hx hb dX8_isOnSide_63 gk_0 ?_
          refine lv_goto (pc := 64) (tgt := 83) hx hb dX8_isOnSide_64 (by decide) ?_
          rw [← hQ]
          exact g_zret hx hb hr hlocks hS dX8_isOnSide_83 (sideF a b dr) (bI_of0 (by unfold sideF; first | (rw [if_pos c_1]; first | exact decide_eq_true c_12 | exact decide_eq_false (by omega)) | (rw [if_neg (by omega)]; first | (rw [if_pos c_23]; first | exact decide_eq_true (by omega) | exact decide_eq_false (by omega)) | (rw [if_neg (by omega)]; first | (rw [if_pos c_45]; first | exact decide_eq_true (by omega) | exact decide_eq_false (by omega)) | (rw [if_neg (by omega)]; first | exact decide_eq_true (by omega) | exact decide_eq_false (by omega)))))) () (rfl) hP hD
        · refine lv_iconst (pc := 59) hx hb dX8_isOnSide_59 gk_1 ?_
          refine lv_goto (pc := 60) (tgt := 83) hx hb dX8_isOnSide_60 (by decide) ?_
          rw [← hQ]
          exact g_zret hx hb hr hlocks hS dX8_isOnSide_83 (sideF a b dr) (bI_of1 (by unfold sideF; first | (rw [if_pos c_1]; first | exact decide_eq_true c_12 | exact decide_eq_false (by omega)) | (rw [if_neg (by omega)]; first | (rw [if_pos c_23]; first | exact decide_eq_true (by omega) | exact decide_eq_false (by omega)) | (rw [if_neg (by omega)]; first | (rw [if_pos c_45]; first | exact decide_eq_true (by omega) | exact decide_eq_false (by omega)) | (rw [if_neg (by omega)]; first | exact decide_eq_true (by omega) | exact decide_eq_false (by omega)))))) () (rfl) hP hD
    · refine lv_iload_n (pc := 26) hx hb dX8_isOnSide_26 rfl (lv_at hl 1 rfl) ?_
      refine lv_bipush (pc := 27) (v := nI 10) hx hb dX8_isOnSide_27 (by decide) ?_
      refine g_irem (pc := 29) hx hb dX8_isOnSide_29 (nI_ne0 (by omega) (by omega)) (pk_rem (by omega) (by omega) (by omega)) ?_
      refine lv_iload_n (pc := 30) hx hb dX8_isOnSide_30 rfl (lv_at hl 0 rfl) ?_
      refine lv_bipush (pc := 31) (v := nI 10) hx hb dX8_isOnSide_31 (by decide) ?_
      refine g_irem (pc := 33) hx hb dX8_isOnSide_33 (nI_ne0 (by omega) (by omega)) (pk_rem (by omega) (by omega) (by omega)) ?_
      refine g_icmp_leN (pc := 34) (tgt := 41) hx hb dX8_isOnSide_34 (by decide) (by omega) (by omega) (fun c_34 => ?_) (fun c_34 => ?_)
      · refine lv_iconst (pc := 41) hx hb dX8_isOnSide_41 gk_0 ?_
        rw [← hQ]
        exact g_zret hx hb hr hlocks hS dX8_isOnSide_42 (sideF a b dr) (bI_of0 (by unfold sideF; first | (rw [if_pos c_1]; first | exact decide_eq_true c_12 | exact decide_eq_false (by omega)) | (rw [if_neg (by omega)]; first | (rw [if_pos c_23]; first | exact decide_eq_true (by omega) | exact decide_eq_false (by omega)) | (rw [if_neg (by omega)]; first | (rw [if_pos c_45]; first | exact decide_eq_true (by omega) | exact decide_eq_false (by omega)) | (rw [if_neg (by omega)]; first | exact decide_eq_true (by omega) | exact decide_eq_false (by omega)))))) () (rfl) hP hD
      · refine lv_iconst (pc := 37) hx hb dX8_isOnSide_37 gk_1 ?_
        refine lv_goto (pc := 38) (tgt := 42) hx hb dX8_isOnSide_38 (by decide) ?_
        rw [← hQ]
        exact g_zret hx hb hr hlocks hS dX8_isOnSide_42 (sideF a b dr) (bI_of1 (by unfold sideF; first | (rw [if_pos c_1]; first | exact decide_eq_true c_12 | exact decide_eq_false (by omega)) | (rw [if_neg (by omega)]; first | (rw [if_pos c_23]; first | exact decide_eq_true (by omega) | exact decide_eq_false (by omega)) | (rw [if_neg (by omega)]; first | (rw [if_pos c_45]; first | exact decide_eq_true (by omega) | exact decide_eq_false (by omega)) | (rw [if_neg (by omega)]; first | exact decide_eq_true (by omega) | exact decide_eq_false (by omega)))))) () (rfl) hP hD
  · refine lv_iload_n (pc := 4) hx hb dX8_isOnSide_4 rfl (lv_at hl 1 rfl) ?_
    refine lv_bipush (pc := 5) (v := nI 10) hx hb dX8_isOnSide_5 (by decide) ?_
    refine g_idiv (pc := 7) hx hb dX8_isOnSide_7 (nI_ne0 (by omega) (by omega)) (pk_div (by omega) (by omega) (by omega)) ?_
    refine lv_iload_n (pc := 8) hx hb dX8_isOnSide_8 rfl (lv_at hl 0 rfl) ?_
    refine lv_bipush (pc := 9) (v := nI 10) hx hb dX8_isOnSide_9 (by decide) ?_
    refine g_idiv (pc := 11) hx hb dX8_isOnSide_11 (nI_ne0 (by omega) (by omega)) (pk_div (by omega) (by omega) (by omega)) ?_
    refine g_icmp_geN (pc := 12) (tgt := 19) hx hb dX8_isOnSide_12 (by decide) (by omega) (by omega) (fun c_12 => ?_) (fun c_12 => ?_)
    · refine lv_iconst (pc := 19) hx hb dX8_isOnSide_19 gk_0 ?_
      rw [← hQ]
      exact g_zret hx hb hr hlocks hS dX8_isOnSide_20 (sideF a b dr) (bI_of0 (by unfold sideF; first | (rw [if_pos c_1]; first | exact decide_eq_true c_12 | exact decide_eq_false (by omega)) | (rw [if_neg (by omega)]; first | (rw [if_pos c_23]; first | exact decide_eq_true (by omega) | exact decide_eq_false (by omega)) | (rw [if_neg (by omega)]; first | (rw [if_pos c_45]; first | exact decide_eq_true (by omega) | exact decide_eq_false (by omega)) | (rw [if_neg (by omega)]; first | exact decide_eq_true (by omega) | exact decide_eq_false (by omega)))))) () (rfl) hP hD
    · refine lv_iconst (pc := 15) hx hb dX8_isOnSide_15 gk_1 ?_
      refine lv_goto (pc := 16) (tgt := 20) hx hb dX8_isOnSide_16 (by decide) ?_
      rw [← hQ]
      exact g_zret hx hb hr hlocks hS dX8_isOnSide_20 (sideF a b dr) (bI_of1 (by unfold sideF; first | (rw [if_pos c_1]; first | exact decide_eq_true c_12 | exact decide_eq_false (by omega)) | (rw [if_neg (by omega)]; first | (rw [if_pos c_23]; first | exact decide_eq_true (by omega) | exact decide_eq_false (by omega)) | (rw [if_neg (by omega)]; first | (rw [if_pos c_45]; first | exact decide_eq_true (by omega) | exact decide_eq_false (by omega)) | (rw [if_neg (by omega)]; first | exact decide_eq_true (by omega) | exact decide_eq_false (by omega)))))) () (rfl) hP hD
set_option maxHeartbeats 4000000 in
set_option maxRecDepth 100000 in
theorem c_X7_copy_N100 (l : Launch) (D : va_G) (cI cZ : ClassId) (sz : Nat) (q9 q0 q1 mS1 mS2 mS3 mS4 mS5 mM : Nat) (ng : Nat) (f : Nat → Nat) (g : Nat → Nat)  : gMv l yX7_copy cX7_copy 3 D cI cZ sz [(q9, .inr (7, [.int (nI ng), .ref mS1, .ref mS2, .ref mS3, .ref mS4, .ref mS5, .ref mM])), (q0, .inl (cI, 100, .inl (aI f))), (q1, .inl (cI, 100, .inl (aI g)))] [.ref q9, .ref q0, .ref q1] ({ frames := 1, cells := 0, slots := 0, locals := 80 } : Room) (fun (_ : Unit) => True) (fun (_ : Unit) => [(q9, .inr (7, [.int (nI ng), .ref mS1, .ref mS2, .ref mS3, .ref mS4, .ref mS5, .ref mM])), (q0, .inl (cI, 100, .inl (aI f))), (q1, .inl (cI, 100, .inl (aI f)))]) 0 0 := by
  refine gM_ofv (by decide +kernel) (Nat.le_of_ble_eq_true rfl) ?_
  intro pg ev s mi below meth co A hx hb hr hml hts hown hlocks hname hA hsz hAe hP hK hD hE hS ls hl
  have hl : lv_has ls 3 [(0, .ref q9), (1, .ref q0), (2, .ref q1)] := hl
  generalize hQ : MQ below _ _ s _ _ A = Q
  refine lv_aload_n (pc := 0) hx hb dX7_copy_0 rfl (lv_at hl 1 rfl) ?_
  refine lv_iconst (pc := 1) hx hb dX7_copy_1 gk_0 ?_
  refine lv_aload_n (pc := 2) hx hb dX7_copy_2 rfl (lv_at hl 2 rfl) ?_
  refine lv_iconst (pc := 3) hx hb dX7_copy_3 gk_0 ?_
  refine lv_aload_n (pc := 4) hx hb dX7_copy_4 rfl (lv_at hl 1 rfl) ?_
  refine va_alen (pc := 5) (v := nI 100) hx hb hK hP 1 0 rfl rfl rfl dX7_copy_5 ?_
  refine g_arrcopy (pc := 6) (n := 100) (rest := []) (w2 := [(q9, .inr (7, [.int (nI ng), .ref mS1, .ref mS2, .ref mS3, .ref mS4, .ref mS5, .ref mM])), (q0, .inl (cI, 100, .inl (aI f))), (q1, .inl (cI, 100, .inl (aI f)))]) hx hb (hml.trans hl.1.symm) hts hown (gm4 209 rfl rfl) (gm4 211 rfl rfl) (gm4 210 rfl rfl) (gm1 17 rfl rfl) hK hP hD hS 1 2 rfl rfl rfl (by decide) (Nat.le_of_ble_eq_true rfl) (Nat.le_of_ble_eq_true rfl) dX7_copy_6 (fun H locs hP hD hS => ?_)
  rw [← hQ]
  exact g_vret hx hb hr hlocks hS dX7_copy_9 () (trivial) hP hD
set_option maxHeartbeats 4000000 in
set_option maxRecDepth 100000 in
theorem c_X7_copy_B16 (l : Launch) (D : va_G) (cI cZ : ClassId) (sz : Nat) (q9 q0 q1 mS1 mS2 mS3 mS4 mS5 mM : Nat) (ng : Nat) (f : Nat → Bool) (g : Nat → Bool)  : gMv l yX7_copy cX7_copy 3 D cI cZ sz [(q9, .inr (7, [.int (nI ng), .ref mS1, .ref mS2, .ref mS3, .ref mS4, .ref mS5, .ref mM])), (q0, .inl (cI, 16, .inl (aB f))), (q1, .inl (cI, 16, .inl (aB g)))] [.ref q9, .ref q0, .ref q1] ({ frames := 1, cells := 0, slots := 0, locals := 80 } : Room) (fun (_ : Unit) => True) (fun (_ : Unit) => [(q9, .inr (7, [.int (nI ng), .ref mS1, .ref mS2, .ref mS3, .ref mS4, .ref mS5, .ref mM])), (q0, .inl (cI, 16, .inl (aB f))), (q1, .inl (cI, 16, .inl (aB f)))]) 0 0 := by
  refine gM_ofv (by decide +kernel) (Nat.le_of_ble_eq_true rfl) ?_
  intro pg ev s mi below meth co A hx hb hr hml hts hown hlocks hname hA hsz hAe hP hK hD hE hS ls hl
  have hl : lv_has ls 3 [(0, .ref q9), (1, .ref q0), (2, .ref q1)] := hl
  generalize hQ : MQ below _ _ s _ _ A = Q
  refine lv_aload_n (pc := 0) hx hb dX7_copy_0 rfl (lv_at hl 1 rfl) ?_
  refine lv_iconst (pc := 1) hx hb dX7_copy_1 gk_0 ?_
  refine lv_aload_n (pc := 2) hx hb dX7_copy_2 rfl (lv_at hl 2 rfl) ?_
  refine lv_iconst (pc := 3) hx hb dX7_copy_3 gk_0 ?_
  refine lv_aload_n (pc := 4) hx hb dX7_copy_4 rfl (lv_at hl 1 rfl) ?_
  refine va_alen (pc := 5) (v := nI 16) hx hb hK hP 1 0 rfl rfl rfl dX7_copy_5 ?_
  refine g_arrcopy (pc := 6) (n := 16) (rest := []) (w2 := [(q9, .inr (7, [.int (nI ng), .ref mS1, .ref mS2, .ref mS3, .ref mS4, .ref mS5, .ref mM])), (q0, .inl (cI, 16, .inl (aB f))), (q1, .inl (cI, 16, .inl (aB f)))]) hx hb (hml.trans hl.1.symm) hts hown (gm4 209 rfl rfl) (gm4 211 rfl rfl) (gm4 210 rfl rfl) (gm1 17 rfl rfl) hK hP hD hS 1 2 rfl rfl rfl (by decide) (Nat.le_of_ble_eq_true rfl) (Nat.le_of_ble_eq_true rfl) dX7_copy_6 (fun H locs hP hD hS => ?_)
  rw [← hQ]
  exact g_vret hx hb hr hlocks hS dX7_copy_9 () (trivial) hP hD
set_option maxHeartbeats 4000000 in
set_option maxRecDepth 100000 in
theorem c_X7_copy_B8 (l : Launch) (D : va_G) (cI cZ : ClassId) (sz : Nat) (q9 q0 q1 mS1 mS2 mS3 mS4 mS5 mM : Nat) (ng : Nat) (f : Nat → Bool) (g : Nat → Bool)  : gMv l yX7_copy cX7_copy 3 D cI cZ sz [(q9, .inr (7, [.int (nI ng), .ref mS1, .ref mS2, .ref mS3, .ref mS4, .ref mS5, .ref mM])), (q0, .inl (cI, 8, .inl (aB f))), (q1, .inl (cI, 8, .inl (aB g)))] [.ref q9, .ref q0, .ref q1] ({ frames := 1, cells := 0, slots := 0, locals := 80 } : Room) (fun (_ : Unit) => True) (fun (_ : Unit) => [(q9, .inr (7, [.int (nI ng), .ref mS1, .ref mS2, .ref mS3, .ref mS4, .ref mS5, .ref mM])), (q0, .inl (cI, 8, .inl (aB f))), (q1, .inl (cI, 8, .inl (aB f)))]) 0 0 := by
  refine gM_ofv (by decide +kernel) (Nat.le_of_ble_eq_true rfl) ?_
  intro pg ev s mi below meth co A hx hb hr hml hts hown hlocks hname hA hsz hAe hP hK hD hE hS ls hl
  have hl : lv_has ls 3 [(0, .ref q9), (1, .ref q0), (2, .ref q1)] := hl
  generalize hQ : MQ below _ _ s _ _ A = Q
  refine lv_aload_n (pc := 0) hx hb dX7_copy_0 rfl (lv_at hl 1 rfl) ?_
  refine lv_iconst (pc := 1) hx hb dX7_copy_1 gk_0 ?_
  refine lv_aload_n (pc := 2) hx hb dX7_copy_2 rfl (lv_at hl 2 rfl) ?_
  refine lv_iconst (pc := 3) hx hb dX7_copy_3 gk_0 ?_
  refine lv_aload_n (pc := 4) hx hb dX7_copy_4 rfl (lv_at hl 1 rfl) ?_
  refine va_alen (pc := 5) (v := nI 8) hx hb hK hP 1 0 rfl rfl rfl dX7_copy_5 ?_
  refine g_arrcopy (pc := 6) (n := 8) (rest := []) (w2 := [(q9, .inr (7, [.int (nI ng), .ref mS1, .ref mS2, .ref mS3, .ref mS4, .ref mS5, .ref mM])), (q0, .inl (cI, 8, .inl (aB f))), (q1, .inl (cI, 8, .inl (aB f)))]) hx hb (hml.trans hl.1.symm) hts hown (gm4 209 rfl rfl) (gm4 211 rfl rfl) (gm4 210 rfl rfl) (gm1 17 rfl rfl) hK hP hD hS 1 2 rfl rfl rfl (by decide) (Nat.le_of_ble_eq_true rfl) (Nat.le_of_ble_eq_true rfl) dX7_copy_6 (fun H locs hP hD hS => ?_)
  rw [← hQ]
  exact g_vret hx hb hr hlocks hS dX7_copy_9 () (trivial) hP hD
set_option maxHeartbeats 4000000 in
set_option maxRecDepth 100000 in
theorem c_X7_copy_R8 (l : Launch) (D : va_G) (cI cZ : ClassId) (sz : Nat) (q9 q0 q1 mS1 mS2 mS3 mS4 mS5 mM : Nat) (ng : Nat) (f : Nat → Int32) (g : Nat → Int32)  : gMv l yX7_copy cX7_copy 3 D cI cZ sz [(q9, .inr (7, [.int (nI ng), .ref mS1, .ref mS2, .ref mS3, .ref mS4, .ref mS5, .ref mM])), (q0, .inl (cI, 8, .inl f)), (q1, .inl (cI, 8, .inl g))] [.ref q9, .ref q0, .ref q1] ({ frames := 1, cells := 0, slots := 0, locals := 80 } : Room) (fun (_ : Unit) => True) (fun (_ : Unit) => [(q9, .inr (7, [.int (nI ng), .ref mS1, .ref mS2, .ref mS3, .ref mS4, .ref mS5, .ref mM])), (q0, .inl (cI, 8, .inl f)), (q1, .inl (cI, 8, .inl f))]) 0 0 := by
  refine gM_ofv (by decide +kernel) (Nat.le_of_ble_eq_true rfl) ?_
  intro pg ev s mi below meth co A hx hb hr hml hts hown hlocks hname hA hsz hAe hP hK hD hE hS ls hl
  have hl : lv_has ls 3 [(0, .ref q9), (1, .ref q0), (2, .ref q1)] := hl
  generalize hQ : MQ below _ _ s _ _ A = Q
  refine lv_aload_n (pc := 0) hx hb dX7_copy_0 rfl (lv_at hl 1 rfl) ?_
  refine lv_iconst (pc := 1) hx hb dX7_copy_1 gk_0 ?_
  refine lv_aload_n (pc := 2) hx hb dX7_copy_2 rfl (lv_at hl 2 rfl) ?_
  refine lv_iconst (pc := 3) hx hb dX7_copy_3 gk_0 ?_
  refine lv_aload_n (pc := 4) hx hb dX7_copy_4 rfl (lv_at hl 1 rfl) ?_
  refine va_alen (pc := 5) (v := nI 8) hx hb hK hP 1 0 rfl rfl rfl dX7_copy_5 ?_
  refine g_arrcopy (pc := 6) (n := 8) (rest := []) (w2 := [(q9, .inr (7, [.int (nI ng), .ref mS1, .ref mS2, .ref mS3, .ref mS4, .ref mS5, .ref mM])), (q0, .inl (cI, 8, .inl f)), (q1, .inl (cI, 8, .inl f))]) hx hb (hml.trans hl.1.symm) hts hown (gm4 209 rfl rfl) (gm4 211 rfl rfl) (gm4 210 rfl rfl) (gm1 17 rfl rfl) hK hP hD hS 1 2 rfl rfl rfl (by decide) (Nat.le_of_ble_eq_true rfl) (Nat.le_of_ble_eq_true rfl) dX7_copy_6 (fun H locs hP hD hS => ?_)
  rw [← hQ]
  exact g_vret hx hb hr hlocks hS dX7_copy_9 () (trivial) hP hD
set_option maxHeartbeats 4000000 in
set_option maxRecDepth 100000 in
theorem c_X7_become (l : Launch) (D : va_G) (cI cZ : ClassId) (sz : Nat) (mS0 mS1 mS2 mS3 mS4 mS5 mS0x mS1x mS2x mS3x mS4x mS5x mM : Nat) (ng : Nat) (f : Nat → Nat) (inn : Int32) (st : Int32) (wt : Int32) (rp : Nat → Int32) (nq0 : Nat) (fq : Nat → Nat) (iq : Int32) (uq : Int32) (vq : Int32) (rq : Nat → Int32)  : gMv l yX7_become cX7_become 2 D cI cZ sz [(mS0, .inr (7, [.int (nI ng), .ref mS1, .ref mS2, .ref mS3, .ref mS4, .ref mS5, .ref mM])), (mS1, .inl (cI, 100, .inl (aI f))), (mS2, .inl (cI, 16, .inl (aB (bt inn)))), (mS3, .inl (cI, 8, .inl (aB (bt st)))), (mS4, .inl (cI, 8, .inl (aB (bt wt)))), (mS5, .inl (cI, 8, .inl rp)), (mS0x, .inr (7, [.int (nI nq0), .ref mS1x, .ref mS2x, .ref mS3x, .ref mS4x, .ref mS5x, .ref mM])), (mS1x, .inl (cI, 100, .inl (aI fq))), (mS2x, .inl (cI, 16, .inl (aB (bt iq)))), (mS3x, .inl (cI, 8, .inl (aB (bt uq)))), (mS4x, .inl (cI, 8, .inl (aB (bt vq)))), (mS5x, .inl (cI, 8, .inl rq))] [.ref mS0, .ref mS0x] ({ frames := 2, cells := 0, slots := 0, locals := 102 } : Room) (fun (_ : Unit) => True) (fun (_ : Unit) => [(mS0, .inr (7, [.int (nI nq0), .ref mS1, .ref mS2, .ref mS3, .ref mS4, .ref mS5, .ref mM])), (mS1, .inl (cI, 100, .inl (aI fq))), (mS2, .inl (cI, 16, .inl (aB (bt iq)))), (mS3, .inl (cI, 8, .inl (aB (bt uq)))), (mS4, .inl (cI, 8, .inl (aB (bt vq)))), (mS5, .inl (cI, 8, .inl rq)), (mS0x, .inr (7, [.int (nI nq0), .ref mS1x, .ref mS2x, .ref mS3x, .ref mS4x, .ref mS5x, .ref mM])), (mS1x, .inl (cI, 100, .inl (aI fq))), (mS2x, .inl (cI, 16, .inl (aB (bt iq)))), (mS3x, .inl (cI, 8, .inl (aB (bt uq)))), (mS4x, .inl (cI, 8, .inl (aB (bt vq)))), (mS5x, .inl (cI, 8, .inl rq))]) 0 0 := by
  refine gM_ofv (by decide +kernel) (Nat.le_of_ble_eq_true rfl) ?_
  intro pg ev s mi below meth co A hx hb hr hml hts hown hlocks hname hA hsz hAe hP hK hD hE hS ls hl
  have hl : lv_has ls 2 [(0, .ref mS0), (1, .ref mS0x)] := hl
  generalize hQ : MQ below _ _ s _ _ A = Q
  refine lv_aload_n (pc := 0) hx hb dX7_become_0 rfl (lv_at hl 0 rfl) ?_
  refine lv_aload_n (pc := 1) hx hb dX7_become_1 rfl (lv_at hl 1 rfl) ?_
  refine gf_X7_37 (pc := 2) hx hb hts hown hK hP 6 rfl rfl dX7_become_2 ?_
  refine gp_X7_37 (pc := 5) (w2 := [(mS0, .inr (7, [.int (nI nq0), .ref mS1, .ref mS2, .ref mS3, .ref mS4, .ref mS5, .ref mM])), (mS1, .inl (cI, 100, .inl (aI f))), (mS2, .inl (cI, 16, .inl (aB (bt inn)))), (mS3, .inl (cI, 8, .inl (aB (bt st)))), (mS4, .inl (cI, 8, .inl (aB (bt wt)))), (mS5, .inl (cI, 8, .inl rp)), (mS0x, .inr (7, [.int (nI nq0), .ref mS1x, .ref mS2x, .ref mS3x, .ref mS4x, .ref mS5x, .ref mM])), (mS1x, .inl (cI, 100, .inl (aI fq))), (mS2x, .inl (cI, 16, .inl (aB (bt iq)))), (mS3x, .inl (cI, 8, .inl (aB (bt uq)))), (mS4x, .inl (cI, 8, .inl (aB (bt vq)))), (mS5x, .inl (cI, 8, .inl rq))]) hx hb hts hown hK hP hD hS 0 rfl rfl rfl rfl (Nat.le_of_ble_eq_true rfl) dX7_become_5 (fun H locs hP hD hS => ?_)
  refine lv_aload_n (pc := 8) hx hb dX7_become_8 rfl (lv_at hl 0 rfl) ?_
  refine lv_aload_n (pc := 9) hx hb dX7_become_9 rfl (lv_at hl 1 rfl) ?_
  refine gf_X7_15 (pc := 10) hx hb hts hown hK hP 6 rfl rfl dX7_become_10 ?_
  refine lv_aload_n (pc := 13) hx hb dX7_become_13 rfl (lv_at hl 0 rfl) ?_
  refine gf_X7_15 (pc := 14) hx hb hts hown hK hP 0 rfl rfl dX7_become_14 ?_
  refine g_vv (pc := 17) (As := [.ref mS1x, .ref mS1]) (rest := []) (wc := [(mS0, .inr (7, [.int (nI nq0), .ref mS1, .ref mS2, .ref mS3, .ref mS4, .ref mS5, .ref mM])), (mS1x, .inl (cI, 100, .inl (aI fq))), (mS1, .inl (cI, 100, .inl (aI f)))]) (wr := [(mS2, .inl (cI, 16, .inl (aB (bt inn)))), (mS3, .inl (cI, 8, .inl (aB (bt st)))), (mS4, .inl (cI, 8, .inl (aB (bt wt)))), (mS5, .inl (cI, 8, .inl rp)), (mS0x, .inr (7, [.int (nI nq0), .ref mS1x, .ref mS2x, .ref mS3x, .ref mS4x, .ref mS5x, .ref mM])), (mS2x, .inl (cI, 16, .inl (aB (bt iq)))), (mS3x, .inl (cI, 8, .inl (aB (bt uq)))), (mS4x, .inl (cI, 8, .inl (aB (bt vq)))), (mS5x, .inl (cI, 8, .inl rq))]) lk_X7_41 hx hb hml hts hown hE hA hK hP hD hS hl (c_X7_copy_N100 l D cI cZ _ mS0 mS1x mS1 mS1 mS2 mS3 mS4 mS5 mM nq0 fq f) rfl rfl dX7_become_17 [0, 7, 1] [2, 3, 4, 5, 6, 8, 9, 10, 11] rfl rfl (by decide) (by decide) (by decide) rfl rfl ⟨rfl, rfl, Nat.le_of_ble_eq_true rfl, Nat.le_of_ble_eq_true rfl, Nat.le_refl _, Nat.le_refl _⟩ (Nat.le_of_ble_eq_true rfl) (fun u H locs hw hP hD hS => ?_)
  have hP : va_P D vwCl [(mS2, .inl (cI, 16, .inl (aB (bt inn)))), (mS3, .inl (cI, 8, .inl (aB (bt st)))), (mS4, .inl (cI, 8, .inl (aB (bt wt)))), (mS5, .inl (cI, 8, .inl rp)), (mS0x, .inr (7, [.int (nI nq0), .ref mS1x, .ref mS2x, .ref mS3x, .ref mS4x, .ref mS5x, .ref mM])), (mS2x, .inl (cI, 16, .inl (aB (bt iq)))), (mS3x, .inl (cI, 8, .inl (aB (bt uq)))), (mS4x, .inl (cI, 8, .inl (aB (bt vq)))), (mS5x, .inl (cI, 8, .inl rq)), (mS0, .inr (7, [.int (nI nq0), .ref mS1, .ref mS2, .ref mS3, .ref mS4, .ref mS5, .ref mM])), (mS1x, .inl (cI, 100, .inl (aI fq))), (mS1, .inl (cI, 100, .inl (aI fq)))] H := hP
  have hD : va_D A [(mS2, .inl (cI, 16, .inl (aB (bt inn)))), (mS3, .inl (cI, 8, .inl (aB (bt st)))), (mS4, .inl (cI, 8, .inl (aB (bt wt)))), (mS5, .inl (cI, 8, .inl rp)), (mS0x, .inr (7, [.int (nI nq0), .ref mS1x, .ref mS2x, .ref mS3x, .ref mS4x, .ref mS5x, .ref mM])), (mS2x, .inl (cI, 16, .inl (aB (bt iq)))), (mS3x, .inl (cI, 8, .inl (aB (bt uq)))), (mS4x, .inl (cI, 8, .inl (aB (bt vq)))), (mS5x, .inl (cI, 8, .inl rq)), (mS0, .inr (7, [.int (nI nq0), .ref mS1, .ref mS2, .ref mS3, .ref mS4, .ref mS5, .ref mM])), (mS1x, .inl (cI, 100, .inl (aI fq))), (mS1, .inl (cI, 100, .inl (aI fq)))] := hD
  refine lv_aload_n (pc := 20) hx hb dX7_become_20 rfl (lv_at hl 0 rfl) ?_
  refine lv_aload_n (pc := 21) hx hb dX7_become_21 rfl (lv_at hl 1 rfl) ?_
  refine gf_X7_19 (pc := 22) hx hb hts hown hK hP 4 rfl rfl dX7_become_22 ?_
  refine lv_aload_n (pc := 25) hx hb dX7_become_25 rfl (lv_at hl 0 rfl) ?_
  refine gf_X7_19 (pc := 26) hx hb hts hown hK hP 9 rfl rfl dX7_become_26 ?_
  refine g_vv (pc := 29) (As := [.ref mS2x, .ref mS2]) (rest := []) (wc := [(mS0, .inr (7, [.int (nI nq0), .ref mS1, .ref mS2, .ref mS3, .ref mS4, .ref mS5, .ref mM])), (mS2x, .inl (cI, 16, .inl (aB (bt iq)))), (mS2, .inl (cI, 16, .inl (aB (bt inn))))]) (wr := [(mS3, .inl (cI, 8, .inl (aB (bt st)))), (mS4, .inl (cI, 8, .inl (aB (bt wt)))), (mS5, .inl (cI, 8, .inl rp)), (mS0x, .inr (7, [.int (nI nq0), .ref mS1x, .ref mS2x, .ref mS3x, .ref mS4x, .ref mS5x, .ref mM])), (mS3x, .inl (cI, 8, .inl (aB (bt uq)))), (mS4x, .inl (cI, 8, .inl (aB (bt vq)))), (mS5x, .inl (cI, 8, .inl rq)), (mS1x, .inl (cI, 100, .inl (aI fq))), (mS1, .inl (cI, 100, .inl (aI fq)))]) lk_X7_41 hx hb hml hts hown hE hA hK hP hD hS hl (c_X7_copy_B16 l D cI cZ _ mS0 mS2x mS2 mS1 mS2 mS3 mS4 mS5 mM nq0 (bt iq) (bt inn)) rfl rfl dX7_become_29 [9, 5, 0] [1, 2, 3, 4, 6, 7, 8, 10, 11] rfl rfl (by decide) (by decide) (by decide) rfl rfl ⟨rfl, rfl, Nat.le_of_ble_eq_true rfl, Nat.le_of_ble_eq_true rfl, Nat.le_refl _, Nat.le_refl _⟩ (Nat.le_of_ble_eq_true rfl) (fun u H locs hw hP hD hS => ?_)
  have hP : va_P D vwCl [(mS3, .inl (cI, 8, .inl (aB (bt st)))), (mS4, .inl (cI, 8, .inl (aB (bt wt)))), (mS5, .inl (cI, 8, .inl rp)), (mS0x, .inr (7, [.int (nI nq0), .ref mS1x, .ref mS2x, .ref mS3x, .ref mS4x, .ref mS5x, .ref mM])), (mS3x, .inl (cI, 8, .inl (aB (bt uq)))), (mS4x, .inl (cI, 8, .inl (aB (bt vq)))), (mS5x, .inl (cI, 8, .inl rq)), (mS1x, .inl (cI, 100, .inl (aI fq))), (mS1, .inl (cI, 100, .inl (aI fq))), (mS0, .inr (7, [.int (nI nq0), .ref mS1, .ref mS2, .ref mS3, .ref mS4, .ref mS5, .ref mM])), (mS2x, .inl (cI, 16, .inl (aB (bt iq)))), (mS2, .inl (cI, 16, .inl (aB (bt iq))))] H := hP
  have hD : va_D A [(mS3, .inl (cI, 8, .inl (aB (bt st)))), (mS4, .inl (cI, 8, .inl (aB (bt wt)))), (mS5, .inl (cI, 8, .inl rp)), (mS0x, .inr (7, [.int (nI nq0), .ref mS1x, .ref mS2x, .ref mS3x, .ref mS4x, .ref mS5x, .ref mM])), (mS3x, .inl (cI, 8, .inl (aB (bt uq)))), (mS4x, .inl (cI, 8, .inl (aB (bt vq)))), (mS5x, .inl (cI, 8, .inl rq)), (mS1x, .inl (cI, 100, .inl (aI fq))), (mS1, .inl (cI, 100, .inl (aI fq))), (mS0, .inr (7, [.int (nI nq0), .ref mS1, .ref mS2, .ref mS3, .ref mS4, .ref mS5, .ref mM])), (mS2x, .inl (cI, 16, .inl (aB (bt iq)))), (mS2, .inl (cI, 16, .inl (aB (bt iq))))] := hD
  refine lv_aload_n (pc := 32) hx hb dX7_become_32 rfl (lv_at hl 0 rfl) ?_
  refine lv_aload_n (pc := 33) hx hb dX7_become_33 rfl (lv_at hl 1 rfl) ?_
  refine gf_X7_22 (pc := 34) hx hb hts hown hK hP 3 rfl rfl dX7_become_34 ?_
  refine lv_aload_n (pc := 37) hx hb dX7_become_37 rfl (lv_at hl 0 rfl) ?_
  refine gf_X7_22 (pc := 38) hx hb hts hown hK hP 9 rfl rfl dX7_become_38 ?_
  refine g_vv (pc := 41) (As := [.ref mS3x, .ref mS3]) (rest := []) (wc := [(mS0, .inr (7, [.int (nI nq0), .ref mS1, .ref mS2, .ref mS3, .ref mS4, .ref mS5, .ref mM])), (mS3x, .inl (cI, 8, .inl (aB (bt uq)))), (mS3, .inl (cI, 8, .inl (aB (bt st))))]) (wr := [(mS4, .inl (cI, 8, .inl (aB (bt wt)))), (mS5, .inl (cI, 8, .inl rp)), (mS0x, .inr (7, [.int (nI nq0), .ref mS1x, .ref mS2x, .ref mS3x, .ref mS4x, .ref mS5x, .ref mM])), (mS4x, .inl (cI, 8, .inl (aB (bt vq)))), (mS5x, .inl (cI, 8, .inl rq)), (mS1x, .inl (cI, 100, .inl (aI fq))), (mS1, .inl (cI, 100, .inl (aI fq))), (mS2x, .inl (cI, 16, .inl (aB (bt iq)))), (mS2, .inl (cI, 16, .inl (aB (bt iq))))]) lk_X7_41 hx hb hml hts hown hE hA hK hP hD hS hl (c_X7_copy_B8 l D cI cZ _ mS0 mS3x mS3 mS1 mS2 mS3 mS4 mS5 mM nq0 (bt uq) (bt st)) rfl rfl dX7_become_41 [9, 4, 0] [1, 2, 3, 5, 6, 7, 8, 10, 11] rfl rfl (by decide) (by decide) (by decide) rfl rfl ⟨rfl, rfl, Nat.le_of_ble_eq_true rfl, Nat.le_of_ble_eq_true rfl, Nat.le_refl _, Nat.le_refl _⟩ (Nat.le_of_ble_eq_true rfl) (fun u H locs hw hP hD hS => ?_)
  have hP : va_P D vwCl [(mS4, .inl (cI, 8, .inl (aB (bt wt)))), (mS5, .inl (cI, 8, .inl rp)), (mS0x, .inr (7, [.int (nI nq0), .ref mS1x, .ref mS2x, .ref mS3x, .ref mS4x, .ref mS5x, .ref mM])), (mS4x, .inl (cI, 8, .inl (aB (bt vq)))), (mS5x, .inl (cI, 8, .inl rq)), (mS1x, .inl (cI, 100, .inl (aI fq))), (mS1, .inl (cI, 100, .inl (aI fq))), (mS2x, .inl (cI, 16, .inl (aB (bt iq)))), (mS2, .inl (cI, 16, .inl (aB (bt iq)))), (mS0, .inr (7, [.int (nI nq0), .ref mS1, .ref mS2, .ref mS3, .ref mS4, .ref mS5, .ref mM])), (mS3x, .inl (cI, 8, .inl (aB (bt uq)))), (mS3, .inl (cI, 8, .inl (aB (bt uq))))] H := hP
  have hD : va_D A [(mS4, .inl (cI, 8, .inl (aB (bt wt)))), (mS5, .inl (cI, 8, .inl rp)), (mS0x, .inr (7, [.int (nI nq0), .ref mS1x, .ref mS2x, .ref mS3x, .ref mS4x, .ref mS5x, .ref mM])), (mS4x, .inl (cI, 8, .inl (aB (bt vq)))), (mS5x, .inl (cI, 8, .inl rq)), (mS1x, .inl (cI, 100, .inl (aI fq))), (mS1, .inl (cI, 100, .inl (aI fq))), (mS2x, .inl (cI, 16, .inl (aB (bt iq)))), (mS2, .inl (cI, 16, .inl (aB (bt iq)))), (mS0, .inr (7, [.int (nI nq0), .ref mS1, .ref mS2, .ref mS3, .ref mS4, .ref mS5, .ref mM])), (mS3x, .inl (cI, 8, .inl (aB (bt uq)))), (mS3, .inl (cI, 8, .inl (aB (bt uq))))] := hD
  refine lv_aload_n (pc := 44) hx hb dX7_become_44 rfl (lv_at hl 0 rfl) ?_
  refine lv_aload_n (pc := 45) hx hb dX7_become_45 rfl (lv_at hl 1 rfl) ?_
  refine gf_X7_25 (pc := 46) hx hb hts hown hK hP 2 rfl rfl dX7_become_46 ?_
  refine lv_aload_n (pc := 49) hx hb dX7_become_49 rfl (lv_at hl 0 rfl) ?_
  refine gf_X7_25 (pc := 50) hx hb hts hown hK hP 9 rfl rfl dX7_become_50 ?_
  refine g_vv (pc := 53) (As := [.ref mS4x, .ref mS4]) (rest := []) (wc := [(mS0, .inr (7, [.int (nI nq0), .ref mS1, .ref mS2, .ref mS3, .ref mS4, .ref mS5, .ref mM])), (mS4x, .inl (cI, 8, .inl (aB (bt vq)))), (mS4, .inl (cI, 8, .inl (aB (bt wt))))]) (wr := [(mS5, .inl (cI, 8, .inl rp)), (mS0x, .inr (7, [.int (nI nq0), .ref mS1x, .ref mS2x, .ref mS3x, .ref mS4x, .ref mS5x, .ref mM])), (mS5x, .inl (cI, 8, .inl rq)), (mS1x, .inl (cI, 100, .inl (aI fq))), (mS1, .inl (cI, 100, .inl (aI fq))), (mS2x, .inl (cI, 16, .inl (aB (bt iq)))), (mS2, .inl (cI, 16, .inl (aB (bt iq)))), (mS3x, .inl (cI, 8, .inl (aB (bt uq)))), (mS3, .inl (cI, 8, .inl (aB (bt uq))))]) lk_X7_41 hx hb hml hts hown hE hA hK hP hD hS hl (c_X7_copy_B8 l D cI cZ _ mS0 mS4x mS4 mS1 mS2 mS3 mS4 mS5 mM nq0 (bt vq) (bt wt)) rfl rfl dX7_become_53 [9, 3, 0] [1, 2, 4, 5, 6, 7, 8, 10, 11] rfl rfl (by decide) (by decide) (by decide) rfl rfl ⟨rfl, rfl, Nat.le_of_ble_eq_true rfl, Nat.le_of_ble_eq_true rfl, Nat.le_refl _, Nat.le_refl _⟩ (Nat.le_of_ble_eq_true rfl) (fun u H locs hw hP hD hS => ?_)
  have hP : va_P D vwCl [(mS5, .inl (cI, 8, .inl rp)), (mS0x, .inr (7, [.int (nI nq0), .ref mS1x, .ref mS2x, .ref mS3x, .ref mS4x, .ref mS5x, .ref mM])), (mS5x, .inl (cI, 8, .inl rq)), (mS1x, .inl (cI, 100, .inl (aI fq))), (mS1, .inl (cI, 100, .inl (aI fq))), (mS2x, .inl (cI, 16, .inl (aB (bt iq)))), (mS2, .inl (cI, 16, .inl (aB (bt iq)))), (mS3x, .inl (cI, 8, .inl (aB (bt uq)))), (mS3, .inl (cI, 8, .inl (aB (bt uq)))), (mS0, .inr (7, [.int (nI nq0), .ref mS1, .ref mS2, .ref mS3, .ref mS4, .ref mS5, .ref mM])), (mS4x, .inl (cI, 8, .inl (aB (bt vq)))), (mS4, .inl (cI, 8, .inl (aB (bt vq))))] H := hP
  have hD : va_D A [(mS5, .inl (cI, 8, .inl rp)), (mS0x, .inr (7, [.int (nI nq0), .ref mS1x, .ref mS2x, .ref mS3x, .ref mS4x, .ref mS5x, .ref mM])), (mS5x, .inl (cI, 8, .inl rq)), (mS1x, .inl (cI, 100, .inl (aI fq))), (mS1, .inl (cI, 100, .inl (aI fq))), (mS2x, .inl (cI, 16, .inl (aB (bt iq)))), (mS2, .inl (cI, 16, .inl (aB (bt iq)))), (mS3x, .inl (cI, 8, .inl (aB (bt uq)))), (mS3, .inl (cI, 8, .inl (aB (bt uq)))), (mS0, .inr (7, [.int (nI nq0), .ref mS1, .ref mS2, .ref mS3, .ref mS4, .ref mS5, .ref mM])), (mS4x, .inl (cI, 8, .inl (aB (bt vq)))), (mS4, .inl (cI, 8, .inl (aB (bt vq))))] := hD
  refine lv_aload_n (pc := 56) hx hb dX7_become_56 rfl (lv_at hl 0 rfl) ?_
  refine lv_aload_n (pc := 57) hx hb dX7_become_57 rfl (lv_at hl 1 rfl) ?_
  refine gf_X7_28 (pc := 58) hx hb hts hown hK hP 1 rfl rfl dX7_become_58 ?_
  refine lv_aload_n (pc := 61) hx hb dX7_become_61 rfl (lv_at hl 0 rfl) ?_
  refine gf_X7_28 (pc := 62) hx hb hts hown hK hP 9 rfl rfl dX7_become_62 ?_
  refine g_vv (pc := 65) (As := [.ref mS5x, .ref mS5]) (rest := []) (wc := [(mS0, .inr (7, [.int (nI nq0), .ref mS1, .ref mS2, .ref mS3, .ref mS4, .ref mS5, .ref mM])), (mS5x, .inl (cI, 8, .inl rq)), (mS5, .inl (cI, 8, .inl rp))]) (wr := [(mS0x, .inr (7, [.int (nI nq0), .ref mS1x, .ref mS2x, .ref mS3x, .ref mS4x, .ref mS5x, .ref mM])), (mS1x, .inl (cI, 100, .inl (aI fq))), (mS1, .inl (cI, 100, .inl (aI fq))), (mS2x, .inl (cI, 16, .inl (aB (bt iq)))), (mS2, .inl (cI, 16, .inl (aB (bt iq)))), (mS3x, .inl (cI, 8, .inl (aB (bt uq)))), (mS3, .inl (cI, 8, .inl (aB (bt uq)))), (mS4x, .inl (cI, 8, .inl (aB (bt vq)))), (mS4, .inl (cI, 8, .inl (aB (bt vq))))]) lk_X7_41 hx hb hml hts hown hE hA hK hP hD hS hl (c_X7_copy_R8 l D cI cZ _ mS0 mS5x mS5 mS1 mS2 mS3 mS4 mS5 mM nq0 rq rp) rfl rfl dX7_become_65 [9, 2, 0] [1, 3, 4, 5, 6, 7, 8, 10, 11] rfl rfl (by decide) (by decide) (by decide) rfl rfl ⟨rfl, rfl, Nat.le_of_ble_eq_true rfl, Nat.le_of_ble_eq_true rfl, Nat.le_refl _, Nat.le_refl _⟩ (Nat.le_of_ble_eq_true rfl) (fun u H locs hw hP hD hS => ?_)
  have hP : va_P D vwCl [(mS0x, .inr (7, [.int (nI nq0), .ref mS1x, .ref mS2x, .ref mS3x, .ref mS4x, .ref mS5x, .ref mM])), (mS1x, .inl (cI, 100, .inl (aI fq))), (mS1, .inl (cI, 100, .inl (aI fq))), (mS2x, .inl (cI, 16, .inl (aB (bt iq)))), (mS2, .inl (cI, 16, .inl (aB (bt iq)))), (mS3x, .inl (cI, 8, .inl (aB (bt uq)))), (mS3, .inl (cI, 8, .inl (aB (bt uq)))), (mS4x, .inl (cI, 8, .inl (aB (bt vq)))), (mS4, .inl (cI, 8, .inl (aB (bt vq)))), (mS0, .inr (7, [.int (nI nq0), .ref mS1, .ref mS2, .ref mS3, .ref mS4, .ref mS5, .ref mM])), (mS5x, .inl (cI, 8, .inl rq)), (mS5, .inl (cI, 8, .inl rq))] H := hP
  have hD : va_D A [(mS0x, .inr (7, [.int (nI nq0), .ref mS1x, .ref mS2x, .ref mS3x, .ref mS4x, .ref mS5x, .ref mM])), (mS1x, .inl (cI, 100, .inl (aI fq))), (mS1, .inl (cI, 100, .inl (aI fq))), (mS2x, .inl (cI, 16, .inl (aB (bt iq)))), (mS2, .inl (cI, 16, .inl (aB (bt iq)))), (mS3x, .inl (cI, 8, .inl (aB (bt uq)))), (mS3, .inl (cI, 8, .inl (aB (bt uq)))), (mS4x, .inl (cI, 8, .inl (aB (bt vq)))), (mS4, .inl (cI, 8, .inl (aB (bt vq)))), (mS0, .inr (7, [.int (nI nq0), .ref mS1, .ref mS2, .ref mS3, .ref mS4, .ref mS5, .ref mM])), (mS5x, .inl (cI, 8, .inl rq)), (mS5, .inl (cI, 8, .inl rq))] := hD
  rw [← hQ]
  exact g_vret hx hb hr hlocks hS dX7_become_68 () (trivial) (hP.sub [9, 2, 4, 6, 8, 11, 0, 1, 3, 5, 7, 10] rfl) (hD.sub [9, 2, 4, 6, 8, 11, 0, 1, 3, 5, 7, 10] (by decide) rfl)
set_option maxHeartbeats 4000000 in
set_option maxRecDepth 100000 in
theorem c_X7_holdsOf (l : Launch) (D : va_G) (cI cZ : ClassId) (sz : Nat) (mS0 mS1 mS2 mS3 mS4 mS5 mM mH mD mT mP mA mZ mW ms9 ma9 : Nat) (ng : Nat) (f : Nat → Nat) (inn : Int32) (st : Int32) (wt : Int32) (rp : Nat → Int32) (th : Nat) (h : Nat → Nat) (d : Nat → Bool) (tb : Nat → Nat) (np : Nat) (pc : Nat → Nat) (nt : Nat) (tc : Nat → Nat) (ts : Nat → Nat) (w : Nat → Int32) (k : Nat) (hnp : np ≤ 16) (hpc : ∀ j9, j9 < 16 → pc j9 < 100) (hk : k < np) : gMi l yX7_holdsOf cX7_holdsOf 2 .int D cI cZ sz [(mS0, .inr (7, [.int (nI ng), .ref mS1, .ref mS2, .ref mS3, .ref mS4, .ref mS5, .ref mM])), (mS1, .inl (cI, 100, .inl (aI f))), (mS2, .inl (cI, 16, .inl (aB (bt inn)))), (mS3, .inl (cI, 8, .inl (aB (bt st)))), (mS4, .inl (cI, 8, .inl (aB (bt wt)))), (mS5, .inl (cI, 8, .inl rp)), (mM, .inr (8, [.int (nI th), .ref mH, .ref mD, .ref mT, .int (nI np), .ref mP, .int (nI nt), .ref mA, .ref mZ, .ref mW, .ref ms9, .ref ma9])), (mH, .inl (cI, 100, .inl (aI h))), (mD, .inl (cI, 100, .inl (aB d))), (mT, .inl (cI, 7, .inl (aI tb))), (mP, .inl (cI, 16, .inl (aI pc))), (mA, .inl (cI, 8, .inl (aI tc))), (mZ, .inl (cI, 8, .inl (aI ts))), (mW, .inl (cI, 100, .inl w))] [.ref mS0, .int (nI k)] ({ frames := 0, cells := 0, slots := 0, locals := 0 } : Room) (fun (r : Int32) (_ : Unit) => r = nI (if bt inn k = true then 4 * f (pc k) else 0)) (fun (_ : Unit) => [(mS0, .inr (7, [.int (nI ng), .ref mS1, .ref mS2, .ref mS3, .ref mS4, .ref mS5, .ref mM])), (mS1, .inl (cI, 100, .inl (aI f))), (mS2, .inl (cI, 16, .inl (aB (bt inn)))), (mS3, .inl (cI, 8, .inl (aB (bt st)))), (mS4, .inl (cI, 8, .inl (aB (bt wt)))), (mS5, .inl (cI, 8, .inl rp)), (mM, .inr (8, [.int (nI th), .ref mH, .ref mD, .ref mT, .int (nI np), .ref mP, .int (nI nt), .ref mA, .ref mZ, .ref mW, .ref ms9, .ref ma9])), (mH, .inl (cI, 100, .inl (aI h))), (mD, .inl (cI, 100, .inl (aB d))), (mT, .inl (cI, 7, .inl (aI tb))), (mP, .inl (cI, 16, .inl (aI pc))), (mA, .inl (cI, 8, .inl (aI tc))), (mZ, .inl (cI, 8, .inl (aI ts))), (mW, .inl (cI, 100, .inl w))]) 0 0 := by
  refine gM_ofi (by decide +kernel) (Nat.le_of_ble_eq_true rfl) ?_
  intro pg ev s mi below meth co A hx hb hr hml hts hown hlocks hname hA hsz hAe hP hK hD hE hS ls hl
  have hl : lv_has ls 2 [(0, .ref mS0), (1, .int (nI k))] := hl
  generalize hQ : MQ below _ _ s _ _ A = Q
  refine lv_aload_n (pc := 0) hx hb dX7_holdsOf_0 rfl (lv_at hl 0 rfl) ?_
  refine gf_X7_19 (pc := 1) hx hb hts hown hK hP 0 rfl rfl dX7_holdsOf_1 ?_
  refine lv_iload_n (pc := 4) hx hb dX7_holdsOf_4 rfl (lv_at hl 1 rfl) ?_
  refine g_iald (pc := 5) (v := bI ((bt inn) k)) hx hb hK hP 2 0 rfl rfl dX7_holdsOf_5 (by first | assumption | omega) (by decide) rfl ?_
  refine lv_iconst (pc := 6) hx hb dX7_holdsOf_6 gk_1 ?_
  refine g_icmp_neB1 (pc := 7) (tgt := 29) hx hb dX7_holdsOf_7 (by decide) (fun c_7 => ?_) (fun c_7 => ?_)
  · refine lv_iconst (pc := 29) hx hb dX7_holdsOf_29 gk_0 ?_
    rw [← hQ]
    exact g_iret hx hb hr hlocks hS dX7_holdsOf_30 () (by first | (rw [if_pos c_7]; done) | (rw [if_neg (by rw [c_7]; decide)])) hP hD
  · refine lv_iconst (pc := 10) hx hb dX7_holdsOf_10 gk_4 ?_
    refine lv_aload_n (pc := 11) hx hb dX7_holdsOf_11 rfl (lv_at hl 0 rfl) ?_
    refine gf_X7_15 (pc := 12) hx hb hts hown hK hP 0 rfl rfl dX7_holdsOf_12 ?_
    refine lv_aload_n (pc := 15) hx hb dX7_holdsOf_15 rfl (lv_at hl 0 rfl) ?_
    refine gf_X7_3 (pc := 16) hx hb hts hown hK hP 0 rfl rfl dX7_holdsOf_16 ?_
    refine gf_X7_45 (pc := 19) hx hb hts hE hown hK hP 6 rfl rfl dX7_holdsOf_19 ?_
    refine lv_iload_n (pc := 22) hx hb dX7_holdsOf_22 rfl (lv_at hl 1 rfl) ?_
    refine g_iald (pc := 23) (v := nI (pc k)) hx hb hK hP 10 0 rfl rfl dX7_holdsOf_23 (by first | assumption | omega) (by decide) rfl ?_
    refine g_iald (pc := 24) (v := nI (f (pc k))) hx hb hK hP 1 0 rfl rfl dX7_holdsOf_24 (by exact hpc _ (by omega)) (by decide) rfl ?_
    refine g_imul (pc := 25) hx hb dX7_holdsOf_25 (pk_mul _ _) ?_
    refine lv_goto (pc := 26) (tgt := 30) hx hb dX7_holdsOf_26 (by decide) ?_
    rw [← hQ]
    exact g_iret hx hb hr hlocks hS dX7_holdsOf_30 () (by first | (rw [if_pos c_7]; done) | (rw [if_neg (by rw [c_7]; decide)])) hP hD
set_option maxHeartbeats 4000000 in
set_option maxRecDepth 100000 in
theorem c_X7_isTied (l : Launch) (D : va_G) (cI cZ : ClassId) (sz : Nat) (mS0 mS1 mS2 mS3 mS4 mS5 mM : Nat) (ng : Nat) (f : Nat → Nat) (inn : Int32) (st : Int32) (wt : Int32) (rp : Nat → Int32) (t : Nat) (k : Nat) (ht : t < 8) (hk : k < 16) : gMi l yX7_isTied cX7_isTied 3 .boolean D cI cZ sz [(mS0, .inr (7, [.int (nI ng), .ref mS1, .ref mS2, .ref mS3, .ref mS4, .ref mS5, .ref mM])), (mS1, .inl (cI, 100, .inl (aI f))), (mS2, .inl (cI, 16, .inl (aB (bt inn)))), (mS3, .inl (cI, 8, .inl (aB (bt st)))), (mS4, .inl (cI, 8, .inl (aB (bt wt)))), (mS5, .inl (cI, 8, .inl rp))] [.ref mS0, .int (nI t), .int (nI k)] ({ frames := 0, cells := 0, slots := 0, locals := 0 } : Room) (fun (r : Int32) (_ : Unit) => r = bI (bt (rp t) k)) (fun (_ : Unit) => [(mS0, .inr (7, [.int (nI ng), .ref mS1, .ref mS2, .ref mS3, .ref mS4, .ref mS5, .ref mM])), (mS1, .inl (cI, 100, .inl (aI f))), (mS2, .inl (cI, 16, .inl (aB (bt inn)))), (mS3, .inl (cI, 8, .inl (aB (bt st)))), (mS4, .inl (cI, 8, .inl (aB (bt wt)))), (mS5, .inl (cI, 8, .inl rp))]) 0 0 := by
  refine gM_ofi (by decide +kernel) (Nat.le_of_ble_eq_true rfl) ?_
  intro pg ev s mi below meth co A hx hb hr hml hts hown hlocks hname hA hsz hAe hP hK hD hE hS ls hl
  have hl : lv_has ls 3 [(0, .ref mS0), (1, .int (nI t)), (2, .int (nI k))] := hl
  generalize hQ : MQ below _ _ s _ _ A = Q
  refine lv_aload_n (pc := 0) hx hb dX7_isTied_0 rfl (lv_at hl 0 rfl) ?_
  refine gf_X7_28 (pc := 1) hx hb hts hown hK hP 0 rfl rfl dX7_isTied_1 ?_
  refine lv_iload_n (pc := 4) hx hb dX7_isTied_4 rfl (lv_at hl 1 rfl) ?_
  refine g_iald (pc := 5) (v := (rp t)) hx hb hK hP 5 0 rfl rfl dX7_isTied_5 (by first | assumption | omega) (by decide) rfl ?_
  refine lv_iload_n (pc := 6) hx hb dX7_isTied_6 rfl (lv_at hl 2 rfl) ?_
  refine lv_ishr (pc := 7) hx hb dX7_isTied_7 ?_
  refine lv_iconst (pc := 8) hx hb dX7_isTied_8 gk_1 ?_
  refine lv_iand (pc := 9) hx hb dX7_isTied_9 ?_
  refine g_top (pc := 10) (w := .int (bI (bt (rp t) k))) (congrArg Value.int (has_bit (rp t) k (by omega))) ?_
  refine lv_iconst (pc := 10) hx hb dX7_isTied_10 gk_1 ?_
  refine g_icmp_neB1 (pc := 11) (tgt := 18) hx hb dX7_isTied_11 (by decide) (fun c_11 => ?_) (fun c_11 => ?_)
  · refine lv_iconst (pc := 18) hx hb dX7_isTied_18 gk_0 ?_
    rw [← hQ]
    exact g_zret hx hb hr hlocks hS dX7_isTied_19 (bt (rp t) k) (bI_of0 (by first | assumption | omega)) () (rfl) hP hD
  · refine lv_iconst (pc := 14) hx hb dX7_isTied_14 gk_1 ?_
    refine lv_goto (pc := 15) (tgt := 19) hx hb dX7_isTied_15 (by decide) ?_
    rw [← hQ]
    exact g_zret hx hb hr hlocks hS dX7_isTied_19 (bt (rp t) k) (bI_of1 (by first | assumption | omega)) () (rfl) hP hD
set_option maxHeartbeats 4000000 in
set_option maxRecDepth 100000 in
theorem c_X7_isHeld (l : Launch) (D : va_G) (cI cZ : ClassId) (sz : Nat) (mS0 mS1 mS2 mS3 mS4 mS5 mM mH mD mT mP mA mZ mW ms9 ma9 : Nat) (ng : Nat) (f : Nat → Nat) (inn : Int32) (st : Int32) (wt : Int32) (rp : Nat → Int32) (th : Nat) (h : Nat → Nat) (d : Nat → Bool) (tb : Nat → Nat) (np : Nat) (pc : Nat → Nat) (nt : Nat) (tc : Nat → Nat) (ts : Nat → Nat) (w : Nat → Int32) (t : Nat) (k : Nat) (dr : Nat) (hnp : np ≤ 16) (hpc : ∀ j9, j9 < 16 → pc j9 < 100) (hnt : nt ≤ 8) (htc : ∀ j9, j9 < 8 → tc j9 < 100) (ht : t < nt) (hdr : dr ≤ 3) (hk : k < np) : gMi l yX7_isHeld cX7_isHeld 4 .boolean D cI cZ sz [(mS0, .inr (7, [.int (nI ng), .ref mS1, .ref mS2, .ref mS3, .ref mS4, .ref mS5, .ref mM])), (mS1, .inl (cI, 100, .inl (aI f))), (mS2, .inl (cI, 16, .inl (aB (bt inn)))), (mS3, .inl (cI, 8, .inl (aB (bt st)))), (mS4, .inl (cI, 8, .inl (aB (bt wt)))), (mS5, .inl (cI, 8, .inl rp)), (mM, .inr (8, [.int (nI th), .ref mH, .ref mD, .ref mT, .int (nI np), .ref mP, .int (nI nt), .ref mA, .ref mZ, .ref mW, .ref ms9, .ref ma9])), (mH, .inl (cI, 100, .inl (aI h))), (mD, .inl (cI, 100, .inl (aB d))), (mT, .inl (cI, 7, .inl (aI tb))), (mP, .inl (cI, 16, .inl (aI pc))), (mA, .inl (cI, 8, .inl (aI tc))), (mZ, .inl (cI, 8, .inl (aI ts))), (mW, .inl (cI, 100, .inl w))] [.ref mS0, .int (nI t), .int (nI k), .int (nI dr)] ({ frames := 1, cells := 0, slots := 0, locals := 22 } : Room) (fun (r : Int32) (_ : Unit) => r = bI (heldB rp inn pc tc dr t k)) (fun (_ : Unit) => [(mS0, .inr (7, [.int (nI ng), .ref mS1, .ref mS2, .ref mS3, .ref mS4, .ref mS5, .ref mM])), (mS1, .inl (cI, 100, .inl (aI f))), (mS2, .inl (cI, 16, .inl (aB (bt inn)))), (mS3, .inl (cI, 8, .inl (aB (bt st)))), (mS4, .inl (cI, 8, .inl (aB (bt wt)))), (mS5, .inl (cI, 8, .inl rp)), (mM, .inr (8, [.int (nI th), .ref mH, .ref mD, .ref mT, .int (nI np), .ref mP, .int (nI nt), .ref mA, .ref mZ, .ref mW, .ref ms9, .ref ma9])), (mH, .inl (cI, 100, .inl (aI h))), (mD, .inl (cI, 100, .inl (aB d))), (mT, .inl (cI, 7, .inl (aI tb))), (mP, .inl (cI, 16, .inl (aI pc))), (mA, .inl (cI, 8, .inl (aI tc))), (mZ, .inl (cI, 8, .inl (aI ts))), (mW, .inl (cI, 100, .inl w))]) 0 0 := by
  refine gM_ofi (by decide +kernel) (Nat.le_of_ble_eq_true rfl) ?_
  intro pg ev s mi below meth co A hx hb hr hml hts hown hlocks hname hA hsz hAe hP hK hD hE hS ls hl
  have hl : lv_has ls 4 [(0, .ref mS0), (1, .int (nI t)), (2, .int (nI k)), (3, .int (nI dr))] := hl
  generalize hQ : MQ below _ _ s _ _ A = Q
  refine lv_aload_n (pc := 0) hx hb dX7_isHeld_0 rfl (lv_at hl 0 rfl) ?_
  refine lv_iload_n (pc := 1) hx hb dX7_isHeld_1 rfl (lv_at hl 1 rfl) ?_
  refine lv_iload_n (pc := 2) hx hb dX7_isHeld_2 rfl (lv_at hl 2 rfl) ?_
  refine g_vi (pc := 3) (As := [.int (nI t), .int (nI k)]) (rest := []) (wc := [(mS0, .inr (7, [.int (nI ng), .ref mS1, .ref mS2, .ref mS3, .ref mS4, .ref mS5, .ref mM])), (mS1, .inl (cI, 100, .inl (aI f))), (mS2, .inl (cI, 16, .inl (aB (bt inn)))), (mS3, .inl (cI, 8, .inl (aB (bt st)))), (mS4, .inl (cI, 8, .inl (aB (bt wt)))), (mS5, .inl (cI, 8, .inl rp))]) (wr := [(mM, .inr (8, [.int (nI th), .ref mH, .ref mD, .ref mT, .int (nI np), .ref mP, .int (nI nt), .ref mA, .ref mZ, .ref mW, .ref ms9, .ref ma9])), (mH, .inl (cI, 100, .inl (aI h))), (mD, .inl (cI, 100, .inl (aB d))), (mT, .inl (cI, 7, .inl (aI tb))), (mP, .inl (cI, 16, .inl (aI pc))), (mA, .inl (cI, 8, .inl (aI tc))), (mZ, .inl (cI, 8, .inl (aI ts))), (mW, .inl (cI, 100, .inl w))]) lk_X7_48 hx hb hml hts hown hE hA hK hP hD hS hl (c_X7_isTied l D cI cZ _ mS0 mS1 mS2 mS3 mS4 mS5 mM ng f inn st wt rp t k (show t < 8 from by first | assumption | omega) (show k < 16 from by first | assumption | omega)) rfl rfl dX7_isHeld_3 [0, 1, 2, 3, 4, 5] [6, 7, 8, 9, 10, 11, 12, 13] rfl rfl (by decide) (by decide) (by decide) rfl rfl ⟨rfl, rfl, Nat.le_of_ble_eq_true rfl, Nat.le_of_ble_eq_true rfl, Nat.le_refl _, Nat.le_refl _⟩ (Nat.le_of_ble_eq_true rfl) (fun r u H locs hw hP hD hS => ?_)
  have hP : va_P D vwCl [(mM, .inr (8, [.int (nI th), .ref mH, .ref mD, .ref mT, .int (nI np), .ref mP, .int (nI nt), .ref mA, .ref mZ, .ref mW, .ref ms9, .ref ma9])), (mH, .inl (cI, 100, .inl (aI h))), (mD, .inl (cI, 100, .inl (aB d))), (mT, .inl (cI, 7, .inl (aI tb))), (mP, .inl (cI, 16, .inl (aI pc))), (mA, .inl (cI, 8, .inl (aI tc))), (mZ, .inl (cI, 8, .inl (aI ts))), (mW, .inl (cI, 100, .inl w)), (mS0, .inr (7, [.int (nI ng), .ref mS1, .ref mS2, .ref mS3, .ref mS4, .ref mS5, .ref mM])), (mS1, .inl (cI, 100, .inl (aI f))), (mS2, .inl (cI, 16, .inl (aB (bt inn)))), (mS3, .inl (cI, 8, .inl (aB (bt st)))), (mS4, .inl (cI, 8, .inl (aB (bt wt)))), (mS5, .inl (cI, 8, .inl rp))] H := hP
  have hD : va_D A [(mM, .inr (8, [.int (nI th), .ref mH, .ref mD, .ref mT, .int (nI np), .ref mP, .int (nI nt), .ref mA, .ref mZ, .ref mW, .ref ms9, .ref ma9])), (mH, .inl (cI, 100, .inl (aI h))), (mD, .inl (cI, 100, .inl (aB d))), (mT, .inl (cI, 7, .inl (aI tb))), (mP, .inl (cI, 16, .inl (aI pc))), (mA, .inl (cI, 8, .inl (aI tc))), (mZ, .inl (cI, 8, .inl (aI ts))), (mW, .inl (cI, 100, .inl w)), (mS0, .inr (7, [.int (nI ng), .ref mS1, .ref mS2, .ref mS3, .ref mS4, .ref mS5, .ref mM])), (mS1, .inl (cI, 100, .inl (aI f))), (mS2, .inl (cI, 16, .inl (aB (bt inn)))), (mS3, .inl (cI, 8, .inl (aB (bt st)))), (mS4, .inl (cI, 8, .inl (aB (bt wt)))), (mS5, .inl (cI, 8, .inl rp))] := hD
  have hw : r = bI (bt (rp t) k) := hw
  obtain rfl := hw
  refine g_if_eqB (pc := 6) (tgt := 48) hx hb dX7_isHeld_6 (by decide) (fun c_6 => ?_) (fun c_6 => ?_)
  · refine lv_iconst (pc := 48) hx hb dX7_isHeld_48 gk_0 ?_
    rw [← hQ]
    exact g_zret hx hb hr hlocks hS dX7_isHeld_49 (heldB rp inn pc tc dr t k) (bI_of0 (by unfold heldB; first | (rw [c_6, c_16, c_41]; rfl) | (rw [c_6]; rfl) | (rw [c_6, c_16]; rfl))) () (rfl) (hP.sub [8, 9, 10, 11, 12, 13, 0, 1, 2, 3, 4, 5, 6, 7] rfl) (hD.sub [8, 9, 10, 11, 12, 13, 0, 1, 2, 3, 4, 5, 6, 7] (by decide) rfl)
  · refine lv_aload_n (pc := 9) hx hb dX7_isHeld_9 rfl (lv_at hl 0 rfl) ?_
    refine gf_X7_19 (pc := 10) hx hb hts hown hK hP 8 rfl rfl dX7_isHeld_10 ?_
    refine lv_iload_n (pc := 13) hx hb dX7_isHeld_13 rfl (lv_at hl 2 rfl) ?_
    refine g_iald (pc := 14) (v := bI ((bt inn) k)) hx hb hK hP 10 0 rfl rfl dX7_isHeld_14 (by first | assumption | omega) (by decide) rfl ?_
    refine lv_iconst (pc := 15) hx hb dX7_isHeld_15 gk_1 ?_
    refine g_icmp_neB1 (pc := 16) (tgt := 48) hx hb dX7_isHeld_16 (by decide) (fun c_16 => ?_) (fun c_16 => ?_)
    · refine lv_iconst (pc := 48) hx hb dX7_isHeld_48 gk_0 ?_
      rw [← hQ]
      exact g_zret hx hb hr hlocks hS dX7_isHeld_49 (heldB rp inn pc tc dr t k) (bI_of0 (by unfold heldB; first | (rw [c_6, c_16, c_41]; rfl) | (rw [c_6]; rfl) | (rw [c_6, c_16]; rfl))) () (rfl) (hP.sub [8, 9, 10, 11, 12, 13, 0, 1, 2, 3, 4, 5, 6, 7] rfl) (hD.sub [8, 9, 10, 11, 12, 13, 0, 1, 2, 3, 4, 5, 6, 7] (by decide) rfl)
    · refine lv_aload_n (pc := 19) hx hb dX7_isHeld_19 rfl (lv_at hl 0 rfl) ?_
      refine gf_X7_3 (pc := 20) hx hb hts hown hK hP 8 rfl rfl dX7_isHeld_20 ?_
      refine gf_X7_52 (pc := 23) hx hb hts hE hown hK hP 0 rfl rfl dX7_isHeld_23 ?_
      refine lv_iload_n (pc := 26) hx hb dX7_isHeld_26 rfl (lv_at hl 1 rfl) ?_
      refine g_iald (pc := 27) (v := nI (tc t)) hx hb hK hP 5 0 rfl rfl dX7_isHeld_27 (by first | assumption | omega) (by decide) rfl ?_
      refine lv_aload_n (pc := 28) hx hb dX7_isHeld_28 rfl (lv_at hl 0 rfl) ?_
      refine gf_X7_3 (pc := 29) hx hb hts hown hK hP 8 rfl rfl dX7_isHeld_29 ?_
      refine gf_X7_45 (pc := 32) hx hb hts hE hown hK hP 0 rfl rfl dX7_isHeld_32 ?_
      refine lv_iload_n (pc := 35) hx hb dX7_isHeld_35 rfl (lv_at hl 2 rfl) ?_
      refine g_iald (pc := 36) (v := nI (pc k)) hx hb hK hP 4 0 rfl rfl dX7_isHeld_36 (by first | assumption | omega) (by decide) rfl ?_
      refine lv_iload_n (pc := 37) hx hb dX7_isHeld_37 rfl (lv_at hl 3 rfl) ?_
      refine g_nsi (pc := 38) (As := [.int (nI (tc t)), .int (nI (pc k)), .int (nI dr)]) (rest := []) (wc := []) (wr := [(mM, .inr (8, [.int (nI th), .ref mH, .ref mD, .ref mT, .int (nI np), .ref mP, .int (nI nt), .ref mA, .ref mZ, .ref mW, .ref ms9, .ref ma9])), (mH, .inl (cI, 100, .inl (aI h))), (mD, .inl (cI, 100, .inl (aB d))), (mT, .inl (cI, 7, .inl (aI tb))), (mP, .inl (cI, 16, .inl (aI pc))), (mA, .inl (cI, 8, .inl (aI tc))), (mZ, .inl (cI, 8, .inl (aI ts))), (mW, .inl (cI, 100, .inl w)), (mS0, .inr (7, [.int (nI ng), .ref mS1, .ref mS2, .ref mS3, .ref mS4, .ref mS5, .ref mM])), (mS1, .inl (cI, 100, .inl (aI f))), (mS2, .inl (cI, 16, .inl (aB (bt inn)))), (mS3, .inl (cI, 8, .inl (aB (bt st)))), (mS4, .inl (cI, 8, .inl (aB (bt wt)))), (mS5, .inl (cI, 8, .inl rp))]) lk_X7_55 hx hb hml hts hown hE hA hK hP hD hS hl (c_X8_isOnSide l D cI cZ _ (tc t) (pc k) dr (show (pc k) < 100 from by exact hpc _ (by omega)) (show (tc t) < 100 from by exact htc _ (by omega)) (show dr ≤ 3 from by first | assumption | omega)) dX7_isHeld_38 [] [0, 1, 2, 3, 4, 5, 6, 7, 8, 9, 10, 11, 12, 13] rfl rfl (by decide) (by decide) (by decide) rfl rfl ⟨rfl, rfl, Nat.le_of_ble_eq_true rfl, Nat.le_of_ble_eq_true rfl, Nat.le_refl _, Nat.le_refl _⟩ (Nat.le_of_ble_eq_true rfl) (fun r u H locs hw hP hD hS => ?_)
      have hP : va_P D vwCl [(mM, .inr (8, [.int (nI th), .ref mH, .ref mD, .ref mT, .int (nI np), .ref mP, .int (nI nt), .ref mA, .ref mZ, .ref mW, .ref ms9, .ref ma9])), (mH, .inl (cI, 100, .inl (aI h))), (mD, .inl (cI, 100, .inl (aB d))), (mT, .inl (cI, 7, .inl (aI tb))), (mP, .inl (cI, 16, .inl (aI pc))), (mA, .inl (cI, 8, .inl (aI tc))), (mZ, .inl (cI, 8, .inl (aI ts))), (mW, .inl (cI, 100, .inl w)), (mS0, .inr (7, [.int (nI ng), .ref mS1, .ref mS2, .ref mS3, .ref mS4, .ref mS5, .ref mM])), (mS1, .inl (cI, 100, .inl (aI f))), (mS2, .inl (cI, 16, .inl (aB (bt inn)))), (mS3, .inl (cI, 8, .inl (aB (bt st)))), (mS4, .inl (cI, 8, .inl (aB (bt wt)))), (mS5, .inl (cI, 8, .inl rp))] H := hP
      have hD : va_D A [(mM, .inr (8, [.int (nI th), .ref mH, .ref mD, .ref mT, .int (nI np), .ref mP, .int (nI nt), .ref mA, .ref mZ, .ref mW, .ref ms9, .ref ma9])), (mH, .inl (cI, 100, .inl (aI h))), (mD, .inl (cI, 100, .inl (aB d))), (mT, .inl (cI, 7, .inl (aI tb))), (mP, .inl (cI, 16, .inl (aI pc))), (mA, .inl (cI, 8, .inl (aI tc))), (mZ, .inl (cI, 8, .inl (aI ts))), (mW, .inl (cI, 100, .inl w)), (mS0, .inr (7, [.int (nI ng), .ref mS1, .ref mS2, .ref mS3, .ref mS4, .ref mS5, .ref mM])), (mS1, .inl (cI, 100, .inl (aI f))), (mS2, .inl (cI, 16, .inl (aB (bt inn)))), (mS3, .inl (cI, 8, .inl (aB (bt st)))), (mS4, .inl (cI, 8, .inl (aB (bt wt)))), (mS5, .inl (cI, 8, .inl rp))] := hD
      have hw : r = bI (sideF (pc k) (tc t) dr) := hw
      obtain rfl := hw
      refine g_if_eqB (pc := 41) (tgt := 48) hx hb dX7_isHeld_41 (by decide) (fun c_41 => ?_) (fun c_41 => ?_)
      · refine lv_iconst (pc := 48) hx hb dX7_isHeld_48 gk_0 ?_
        rw [← hQ]
        exact g_zret hx hb hr hlocks hS dX7_isHeld_49 (heldB rp inn pc tc dr t k) (bI_of0 (by unfold heldB; first | (rw [c_6, c_16, c_41]; rfl) | (rw [c_6]; rfl) | (rw [c_6, c_16]; rfl))) () (rfl) (hP.sub [8, 9, 10, 11, 12, 13, 0, 1, 2, 3, 4, 5, 6, 7] rfl) (hD.sub [8, 9, 10, 11, 12, 13, 0, 1, 2, 3, 4, 5, 6, 7] (by decide) rfl)
      · refine lv_iconst (pc := 44) hx hb dX7_isHeld_44 gk_1 ?_
        refine lv_goto (pc := 45) (tgt := 49) hx hb dX7_isHeld_45 (by decide) ?_
        rw [← hQ]
        exact g_zret hx hb hr hlocks hS dX7_isHeld_49 (heldB rp inn pc tc dr t k) (bI_of1 (by unfold heldB; first | (rw [c_6, c_16, c_41]; rfl) | (rw [c_6]; rfl) | (rw [c_6, c_16]; rfl))) () (rfl) (hP.sub [8, 9, 10, 11, 12, 13, 0, 1, 2, 3, 4, 5, 6, 7] rfl) (hD.sub [8, 9, 10, 11, 12, 13, 0, 1, 2, 3, 4, 5, 6, 7] (by decide) rfl)
set_option maxHeartbeats 4000000 in
set_option maxRecDepth 100000 in
theorem c_X7_held (l : Launch) (D : va_G) (cI cZ : ClassId) (sz : Nat) (mS0 mS1 mS2 mS3 mS4 mS5 mM mH mD mT mP mA mZ mW ms9 ma9 : Nat) (ng : Nat) (f : Nat → Nat) (inn : Int32) (st : Int32) (wt : Int32) (rp : Nat → Int32) (th : Nat) (h : Nat → Nat) (d : Nat → Bool) (tb : Nat → Nat) (np : Nat) (pc : Nat → Nat) (nt : Nat) (tc : Nat → Nat) (ts : Nat → Nat) (w : Nat → Int32) (t : Nat) (dr : Nat) (hnp : np ≤ 16) (hpc : ∀ j9, j9 < 16 → pc j9 < 100) (hnt : nt ≤ 8) (htc : ∀ j9, j9 < 8 → tc j9 < 100) (ht : t < nt) (hdr : dr ≤ 3) : gMi l yX7_held cX7_held 5 .int D cI cZ sz [(mS0, .inr (7, [.int (nI ng), .ref mS1, .ref mS2, .ref mS3, .ref mS4, .ref mS5, .ref mM])), (mS1, .inl (cI, 100, .inl (aI f))), (mS2, .inl (cI, 16, .inl (aB (bt inn)))), (mS3, .inl (cI, 8, .inl (aB (bt st)))), (mS4, .inl (cI, 8, .inl (aB (bt wt)))), (mS5, .inl (cI, 8, .inl rp)), (mM, .inr (8, [.int (nI th), .ref mH, .ref mD, .ref mT, .int (nI np), .ref mP, .int (nI nt), .ref mA, .ref mZ, .ref mW, .ref ms9, .ref ma9])), (mH, .inl (cI, 100, .inl (aI h))), (mD, .inl (cI, 100, .inl (aB d))), (mT, .inl (cI, 7, .inl (aI tb))), (mP, .inl (cI, 16, .inl (aI pc))), (mA, .inl (cI, 8, .inl (aI tc))), (mZ, .inl (cI, 8, .inl (aI ts))), (mW, .inl (cI, 100, .inl w))] [.ref mS0, .int (nI t), .int (nI dr)] ({ frames := 2, cells := 0, slots := 0, locals := 45 } : Room) (fun (r : Int32) (_ : Unit) => r = nI (pop (gorF pc tc rp np dr t &&& inn))) (fun (_ : Unit) => [(mS0, .inr (7, [.int (nI ng), .ref mS1, .ref mS2, .ref mS3, .ref mS4, .ref mS5, .ref mM])), (mS1, .inl (cI, 100, .inl (aI f))), (mS2, .inl (cI, 16, .inl (aB (bt inn)))), (mS3, .inl (cI, 8, .inl (aB (bt st)))), (mS4, .inl (cI, 8, .inl (aB (bt wt)))), (mS5, .inl (cI, 8, .inl rp)), (mM, .inr (8, [.int (nI th), .ref mH, .ref mD, .ref mT, .int (nI np), .ref mP, .int (nI nt), .ref mA, .ref mZ, .ref mW, .ref ms9, .ref ma9])), (mH, .inl (cI, 100, .inl (aI h))), (mD, .inl (cI, 100, .inl (aB d))), (mT, .inl (cI, 7, .inl (aI tb))), (mP, .inl (cI, 16, .inl (aI pc))), (mA, .inl (cI, 8, .inl (aI tc))), (mZ, .inl (cI, 8, .inl (aI ts))), (mW, .inl (cI, 100, .inl w))]) 0 0 := by
  refine gM_ofi (by decide +kernel) (Nat.le_of_ble_eq_true rfl) ?_
  intro pg ev s mi below meth co A hx hb hr hml hts hown hlocks hname hA hsz hAe hP hK hD hE hS ls hl
  have hl : lv_has ls 5 [(0, .ref mS0), (1, .int (nI t)), (2, .int (nI dr))] := hl
  generalize hQ : MQ below _ _ s _ _ A = Q
  refine lv_iconst (pc := 0) hx hb dX7_held_0 gk_0 ?_
  refine lv_istore_n (pc := 1) (lv' := [(3, .int (nI 0)), (0, .ref mS0), (1, .int (nI t)), (2, .int (nI dr))]) hx hb dX7_held_1 rfl hl (by decide) rfl (fun ls hl => ?_)
  refine lv_iconst (pc := 2) hx hb dX7_held_2 gk_0 ?_
  refine lv_istore (pc := 3) (lv' := [(4, .int (nI 0)), (3, .int (nI 0)), (0, .ref mS0), (1, .int (nI t)), (2, .int (nI dr))]) hx hb dX7_held_3 hl (by decide) rfl (fun ls hl => ?_)
  have lab_5 : ∀ (fuel : Nat) (i : Nat), (np - i) < fuel → (i ≤ np) → ∀ (H : Heap) (locs : List Loc) (ls : Array Slot), va_P D vwCl [(mS0, .inr (7, [.int (nI ng), .ref mS1, .ref mS2, .ref mS3, .ref mS4, .ref mS5, .ref mM])), (mS1, .inl (cI, 100, .inl (aI f))), (mS2, .inl (cI, 16, .inl (aB (bt inn)))), (mS3, .inl (cI, 8, .inl (aB (bt st)))), (mS4, .inl (cI, 8, .inl (aB (bt wt)))), (mS5, .inl (cI, 8, .inl rp)), (mM, .inr (8, [.int (nI th), .ref mH, .ref mD, .ref mT, .int (nI np), .ref mP, .int (nI nt), .ref mA, .ref mZ, .ref mW, .ref ms9, .ref ma9])), (mH, .inl (cI, 100, .inl (aI h))), (mD, .inl (cI, 100, .inl (aB d))), (mT, .inl (cI, 7, .inl (aI tb))), (mP, .inl (cI, 16, .inl (aI pc))), (mA, .inl (cI, 8, .inl (aI tc))), (mZ, .inl (cI, 8, .inl (aI ts))), (mW, .inl (cI, 100, .inl w))] H → va_D A [(mS0, .inr (7, [.int (nI ng), .ref mS1, .ref mS2, .ref mS3, .ref mS4, .ref mS5, .ref mM])), (mS1, .inl (cI, 100, .inl (aI f))), (mS2, .inl (cI, 16, .inl (aB (bt inn)))), (mS3, .inl (cI, 8, .inl (aB (bt st)))), (mS4, .inl (cI, 8, .inl (aB (bt wt)))), (mS5, .inl (cI, 8, .inl rp)), (mM, .inr (8, [.int (nI th), .ref mH, .ref mD, .ref mT, .int (nI np), .ref mP, .int (nI nt), .ref mA, .ref mZ, .ref mW, .ref ms9, .ref ma9])), (mH, .inl (cI, 100, .inl (aI h))), (mD, .inl (cI, 100, .inl (aB d))), (mT, .inl (cI, 7, .inl (aI tb))), (mP, .inl (cI, 16, .inl (aI pc))), (mA, .inl (cI, 8, .inl (aI tc))), (mZ, .inl (cI, 8, .inl (aI ts))), (mW, .inl (cI, 100, .inl w))] → va_S A s.heap H locs → lv_has ls 5 [(0, .ref mS0), (1, .int (nI t)), (2, .int (nI dr)), (3, .int (nI (fb_ct (heldB rp inn pc tc dr t) i))), (4, .int (nI i))] → W pg l ev ({ frames := 2, cells := 0, slots := 0, locals := 45 } : Room) s mi [(.ref mS0 : Value), .int (nI t), .int (nI dr)].toArray below meth co H locs 0 0 Q (F0 mi 5 ls []) := by
    intro fuel
    induction fuel with
    | zero => intro i hm; exact absurd hm (Nat.not_lt_zero _)
    | succ fuel ih_5 =>
      intro i hm_5 hi H locs ls hP hD hS hl
      refine lv_iload (pc := 5) hx hb dX7_held_5 (lv_at hl 4 rfl) ?_
      refine lv_aload_n (pc := 7) hx hb dX7_held_7 rfl (lv_at hl 0 rfl) ?_
      refine gf_X7_3 (pc := 8) hx hb hts hown hK hP 0 rfl rfl dX7_held_8 ?_
      refine gf_X7_59 (pc := 11) hx hb hts hE hown hK hP 6 rfl rfl dX7_held_11 ?_
      refine g_icmp_geN (pc := 14) (tgt := 42) hx hb dX7_held_14 (by decide) (by omega) (by omega) (fun c_14 => ?_) (fun c_14 => ?_)
      · refine lv_iload_n (pc := 42) hx hb dX7_held_42 rfl (lv_at hl 3 rfl) ?_
        rw [← hQ]
        exact g_iret hx hb hr hlocks hS dX7_held_43 () (by rw [show i = np by omega, held_pop hnp]) hP hD
      · refine lv_iload_n (pc := 17) hx hb dX7_held_17 rfl (lv_at hl 3 rfl) ?_
        refine lv_aload_n (pc := 18) hx hb dX7_held_18 rfl (lv_at hl 0 rfl) ?_
        refine lv_iload_n (pc := 19) hx hb dX7_held_19 rfl (lv_at hl 1 rfl) ?_
        refine lv_iload (pc := 20) hx hb dX7_held_20 (lv_at hl 4 rfl) ?_
        refine lv_iload_n (pc := 22) hx hb dX7_held_22 rfl (lv_at hl 2 rfl) ?_
        refine g_vi (pc := 23) (As := [.int (nI t), .int (nI i), .int (nI dr)]) (rest := [.int (nI (fb_ct (heldB rp inn pc tc dr t) i))]) (wc := [(mS0, .inr (7, [.int (nI ng), .ref mS1, .ref mS2, .ref mS3, .ref mS4, .ref mS5, .ref mM])), (mS1, .inl (cI, 100, .inl (aI f))), (mS2, .inl (cI, 16, .inl (aB (bt inn)))), (mS3, .inl (cI, 8, .inl (aB (bt st)))), (mS4, .inl (cI, 8, .inl (aB (bt wt)))), (mS5, .inl (cI, 8, .inl rp)), (mM, .inr (8, [.int (nI th), .ref mH, .ref mD, .ref mT, .int (nI np), .ref mP, .int (nI nt), .ref mA, .ref mZ, .ref mW, .ref ms9, .ref ma9])), (mH, .inl (cI, 100, .inl (aI h))), (mD, .inl (cI, 100, .inl (aB d))), (mT, .inl (cI, 7, .inl (aI tb))), (mP, .inl (cI, 16, .inl (aI pc))), (mA, .inl (cI, 8, .inl (aI tc))), (mZ, .inl (cI, 8, .inl (aI ts))), (mW, .inl (cI, 100, .inl w))]) (wr := []) lk_X7_62 hx hb hml hts hown hE hA hK hP hD hS hl (c_X7_isHeld l D cI cZ _ mS0 mS1 mS2 mS3 mS4 mS5 mM mH mD mT mP mA mZ mW ms9 ma9 ng f inn st wt rp th h d tb np pc nt tc ts w t i dr (show np ≤ 16 from by first | assumption | omega) (show ∀ j9, j9 < 16 → pc j9 < 100 from by first | assumption | omega) (show nt ≤ 8 from by first | assumption | omega) (show ∀ j9, j9 < 8 → tc j9 < 100 from by first | assumption | omega) (show t < nt from by first | assumption | omega) (show dr ≤ 3 from by first | assumption | omega) (show i < np from by first | assumption | omega)) rfl rfl dX7_held_23 [0, 1, 2, 3, 4, 5, 6, 7, 8, 9, 10, 11, 12, 13] [] rfl rfl (by decide) (by decide) (by decide) rfl rfl ⟨rfl, rfl, Nat.le_of_ble_eq_true rfl, Nat.le_of_ble_eq_true rfl, Nat.le_refl _, Nat.le_refl _⟩ (Nat.le_of_ble_eq_true rfl) (fun r u H locs hw hP hD hS => ?_)
        have hP : va_P D vwCl [(mS0, .inr (7, [.int (nI ng), .ref mS1, .ref mS2, .ref mS3, .ref mS4, .ref mS5, .ref mM])), (mS1, .inl (cI, 100, .inl (aI f))), (mS2, .inl (cI, 16, .inl (aB (bt inn)))), (mS3, .inl (cI, 8, .inl (aB (bt st)))), (mS4, .inl (cI, 8, .inl (aB (bt wt)))), (mS5, .inl (cI, 8, .inl rp)), (mM, .inr (8, [.int (nI th), .ref mH, .ref mD, .ref mT, .int (nI np), .ref mP, .int (nI nt), .ref mA, .ref mZ, .ref mW, .ref ms9, .ref ma9])), (mH, .inl (cI, 100, .inl (aI h))), (mD, .inl (cI, 100, .inl (aB d))), (mT, .inl (cI, 7, .inl (aI tb))), (mP, .inl (cI, 16, .inl (aI pc))), (mA, .inl (cI, 8, .inl (aI tc))), (mZ, .inl (cI, 8, .inl (aI ts))), (mW, .inl (cI, 100, .inl w))] H := hP
        have hD : va_D A [(mS0, .inr (7, [.int (nI ng), .ref mS1, .ref mS2, .ref mS3, .ref mS4, .ref mS5, .ref mM])), (mS1, .inl (cI, 100, .inl (aI f))), (mS2, .inl (cI, 16, .inl (aB (bt inn)))), (mS3, .inl (cI, 8, .inl (aB (bt st)))), (mS4, .inl (cI, 8, .inl (aB (bt wt)))), (mS5, .inl (cI, 8, .inl rp)), (mM, .inr (8, [.int (nI th), .ref mH, .ref mD, .ref mT, .int (nI np), .ref mP, .int (nI nt), .ref mA, .ref mZ, .ref mW, .ref ms9, .ref ma9])), (mH, .inl (cI, 100, .inl (aI h))), (mD, .inl (cI, 100, .inl (aB d))), (mT, .inl (cI, 7, .inl (aI tb))), (mP, .inl (cI, 16, .inl (aI pc))), (mA, .inl (cI, 8, .inl (aI tc))), (mZ, .inl (cI, 8, .inl (aI ts))), (mW, .inl (cI, 100, .inl w))] := hD
        have hw : r = bI (heldB rp inn pc tc dr t i) := hw
        obtain rfl := hw
        refine g_if_eqB (pc := 26) (tgt := 33) hx hb dX7_held_26 (by decide) (fun c_26 => ?_) (fun c_26 => ?_)
        · refine lv_iconst (pc := 33) hx hb dX7_held_33 gk_0 ?_
          refine g_iadd (pc := 34) hx hb dX7_held_34 (nI_add _ _) ?_
          refine g_top (pc := 35) (w := .int (nI (fb_ct (heldB rp inn pc tc dr t) (i + 1)))) (by first | rw [ct_t c_26] | rw [ct_f c_26]) ?_
          refine lv_istore_n (pc := 35) (lv' := [(3, .int (nI (fb_ct (heldB rp inn pc tc dr t) (i + 1)))), (0, .ref mS0), (1, .int (nI t)), (2, .int (nI dr)), (4, .int (nI i))]) hx hb dX7_held_35 rfl hl (by decide) rfl (fun ls hl => ?_)
          refine lv_iinc (pc := 36) (v := nI (i + 1)) (lv' := [(4, .int (nI (i + 1))), (3, .int (nI (fb_ct (heldB rp inn pc tc dr t) (i + 1)))), (0, .ref mS0), (1, .int (nI t)), (2, .int (nI dr))]) hx hb dX7_held_36 hl (k := 4) rfl (gi_1 _) (by decide) rfl (fun ls hl => ?_)
          refine lv_goto (pc := 39) (tgt := 5) hx hb dX7_held_39 (by decide) ?_
          exact ih_5 (i + 1) (by omega) (show (i + 1) ≤ np from by first | assumption | omega) _ _ _ hP hD hS (lv_sub hl [2, 3, 4, 1, 0] rfl)
        · refine lv_iconst (pc := 29) hx hb dX7_held_29 gk_1 ?_
          refine lv_goto (pc := 30) (tgt := 34) hx hb dX7_held_30 (by decide) ?_
          refine g_iadd (pc := 34) hx hb dX7_held_34 (nI_add _ _) ?_
          refine g_top (pc := 35) (w := .int (nI (fb_ct (heldB rp inn pc tc dr t) (i + 1)))) (by first | rw [ct_t c_26] | rw [ct_f c_26]) ?_
          refine lv_istore_n (pc := 35) (lv' := [(3, .int (nI (fb_ct (heldB rp inn pc tc dr t) (i + 1)))), (0, .ref mS0), (1, .int (nI t)), (2, .int (nI dr)), (4, .int (nI i))]) hx hb dX7_held_35 rfl hl (by decide) rfl (fun ls hl => ?_)
          refine lv_iinc (pc := 36) (v := nI (i + 1)) (lv' := [(4, .int (nI (i + 1))), (3, .int (nI (fb_ct (heldB rp inn pc tc dr t) (i + 1)))), (0, .ref mS0), (1, .int (nI t)), (2, .int (nI dr))]) hx hb dX7_held_36 hl (k := 4) rfl (gi_1 _) (by decide) rfl (fun ls hl => ?_)
          refine lv_goto (pc := 39) (tgt := 5) hx hb dX7_held_39 (by decide) ?_
          exact ih_5 (i + 1) (by omega) (show (i + 1) ≤ np from by first | assumption | omega) _ _ _ hP hD hS (lv_sub hl [2, 3, 4, 1, 0] rfl)
  exact lab_5 (np - 0 + 1) 0 (Nat.lt_succ_self _) (show 0 ≤ np from by first | assumption | omega) _ _ _ hP hD hS (lv_sub hl [2, 3, 4, 1, 0] rfl)
set_option maxHeartbeats 4000000 in
set_option maxRecDepth 100000 in
theorem c_X7_pulls (l : Launch) (D : va_G) (cI cZ : ClassId) (sz : Nat) (mS0 mS1 mS2 mS3 mS4 mS5 mM mH mD mT mP mA mZ mW ms9 ma9 : Nat) (ng : Nat) (f : Nat → Nat) (inn : Int32) (st : Int32) (wt : Int32) (rp : Nat → Int32) (th : Nat) (h : Nat → Nat) (d : Nat → Bool) (tb : Nat → Nat) (np : Nat) (pc : Nat → Nat) (nt : Nat) (tc : Nat → Nat) (ts : Nat → Nat) (w : Nat → Int32) (k : Nat) (fo : Nat) (dr : Nat) (hnp : np ≤ 16) (hpc : ∀ j9, j9 < 16 → pc j9 < 100) (hnt : nt ≤ 8) (htc : ∀ j9, j9 < 8 → tc j9 < 100) (hts9 : ∀ j9, j9 < 8 → ts j9 ≤ 9) (hk : k < np) (hfo : fo ≤ 9) (hdr : dr ≤ 3) : gMi l yX7_pulls cX7_pulls 6 .int D cI cZ sz [(mS0, .inr (7, [.int (nI ng), .ref mS1, .ref mS2, .ref mS3, .ref mS4, .ref mS5, .ref mM])), (mS1, .inl (cI, 100, .inl (aI f))), (mS2, .inl (cI, 16, .inl (aB (bt inn)))), (mS3, .inl (cI, 8, .inl (aB (bt st)))), (mS4, .inl (cI, 8, .inl (aB (bt wt)))), (mS5, .inl (cI, 8, .inl rp)), (mM, .inr (8, [.int (nI th), .ref mH, .ref mD, .ref mT, .int (nI np), .ref mP, .int (nI nt), .ref mA, .ref mZ, .ref mW, .ref ms9, .ref ma9])), (mH, .inl (cI, 100, .inl (aI h))), (mD, .inl (cI, 100, .inl (aB d))), (mT, .inl (cI, 7, .inl (aI tb))), (mP, .inl (cI, 16, .inl (aI pc))), (mA, .inl (cI, 8, .inl (aI tc))), (mZ, .inl (cI, 8, .inl (aI ts))), (mW, .inl (cI, 100, .inl w))] [.ref mS0, .int (nI k), .int (nI fo), .int (nI dr)] ({ frames := 3, cells := 0, slots := 0, locals := 69 } : Room) (fun (r : Int32) (_ : Unit) => r = nI (pullF (gorF pc tc rp np dr) ts inn st fo k nt)) (fun (_ : Unit) => [(mS0, .inr (7, [.int (nI ng), .ref mS1, .ref mS2, .ref mS3, .ref mS4, .ref mS5, .ref mM])), (mS1, .inl (cI, 100, .inl (aI f))), (mS2, .inl (cI, 16, .inl (aB (bt inn)))), (mS3, .inl (cI, 8, .inl (aB (bt st)))), (mS4, .inl (cI, 8, .inl (aB (bt wt)))), (mS5, .inl (cI, 8, .inl rp)), (mM, .inr (8, [.int (nI th), .ref mH, .ref mD, .ref mT, .int (nI np), .ref mP, .int (nI nt), .ref mA, .ref mZ, .ref mW, .ref ms9, .ref ma9])), (mH, .inl (cI, 100, .inl (aI h))), (mD, .inl (cI, 100, .inl (aB d))), (mT, .inl (cI, 7, .inl (aI tb))), (mP, .inl (cI, 16, .inl (aI pc))), (mA, .inl (cI, 8, .inl (aI tc))), (mZ, .inl (cI, 8, .inl (aI ts))), (mW, .inl (cI, 100, .inl w))]) 0 0 := by
  refine gM_ofi (by decide +kernel) (Nat.le_of_ble_eq_true rfl) ?_
  intro pg ev s mi below meth co A hx hb hr hml hts hown hlocks hname hA hsz hAe hP hK hD hE hS ls hl
  have hl : lv_has ls 6 [(0, .ref mS0), (1, .int (nI k)), (2, .int (nI fo)), (3, .int (nI dr))] := hl
  generalize hQ : MQ below _ _ s _ _ A = Q
  refine lv_iconst (pc := 0) hx hb dX7_pulls_0 gk_0 ?_
  refine lv_istore (pc := 1) (lv' := [(4, .int (nI 0)), (0, .ref mS0), (1, .int (nI k)), (2, .int (nI fo)), (3, .int (nI dr))]) hx hb dX7_pulls_1 hl (by decide) rfl (fun ls hl => ?_)
  refine lv_iconst (pc := 3) hx hb dX7_pulls_3 gk_0 ?_
  refine lv_istore (pc := 4) (lv' := [(5, .int (nI 0)), (4, .int (nI 0)), (0, .ref mS0), (1, .int (nI k)), (2, .int (nI fo)), (3, .int (nI dr))]) hx hb dX7_pulls_4 hl (by decide) rfl (fun ls hl => ?_)
  have lab_6 : ∀ (fuel : Nat) (i : Nat), (nt - i) < fuel → (i ≤ nt) → ∀ (H : Heap) (locs : List Loc) (ls : Array Slot), va_P D vwCl [(mS0, .inr (7, [.int (nI ng), .ref mS1, .ref mS2, .ref mS3, .ref mS4, .ref mS5, .ref mM])), (mS1, .inl (cI, 100, .inl (aI f))), (mS2, .inl (cI, 16, .inl (aB (bt inn)))), (mS3, .inl (cI, 8, .inl (aB (bt st)))), (mS4, .inl (cI, 8, .inl (aB (bt wt)))), (mS5, .inl (cI, 8, .inl rp)), (mM, .inr (8, [.int (nI th), .ref mH, .ref mD, .ref mT, .int (nI np), .ref mP, .int (nI nt), .ref mA, .ref mZ, .ref mW, .ref ms9, .ref ma9])), (mH, .inl (cI, 100, .inl (aI h))), (mD, .inl (cI, 100, .inl (aB d))), (mT, .inl (cI, 7, .inl (aI tb))), (mP, .inl (cI, 16, .inl (aI pc))), (mA, .inl (cI, 8, .inl (aI tc))), (mZ, .inl (cI, 8, .inl (aI ts))), (mW, .inl (cI, 100, .inl w))] H → va_D A [(mS0, .inr (7, [.int (nI ng), .ref mS1, .ref mS2, .ref mS3, .ref mS4, .ref mS5, .ref mM])), (mS1, .inl (cI, 100, .inl (aI f))), (mS2, .inl (cI, 16, .inl (aB (bt inn)))), (mS3, .inl (cI, 8, .inl (aB (bt st)))), (mS4, .inl (cI, 8, .inl (aB (bt wt)))), (mS5, .inl (cI, 8, .inl rp)), (mM, .inr (8, [.int (nI th), .ref mH, .ref mD, .ref mT, .int (nI np), .ref mP, .int (nI nt), .ref mA, .ref mZ, .ref mW, .ref ms9, .ref ma9])), (mH, .inl (cI, 100, .inl (aI h))), (mD, .inl (cI, 100, .inl (aB d))), (mT, .inl (cI, 7, .inl (aI tb))), (mP, .inl (cI, 16, .inl (aI pc))), (mA, .inl (cI, 8, .inl (aI tc))), (mZ, .inl (cI, 8, .inl (aI ts))), (mW, .inl (cI, 100, .inl w))] → va_S A s.heap H locs → lv_has ls 6 [(0, .ref mS0), (1, .int (nI k)), (2, .int (nI fo)), (3, .int (nI dr)), (4, .int (nI (pullF (gorF pc tc rp np dr) ts inn st fo k i))), (5, .int (nI i))] → W pg l ev ({ frames := 3, cells := 0, slots := 0, locals := 69 } : Room) s mi [(.ref mS0 : Value), .int (nI k), .int (nI fo), .int (nI dr)].toArray below meth co H locs 0 0 Q (F0 mi 6 ls []) := by
    intro fuel
    induction fuel with
    | zero => intro i hm; exact absurd hm (Nat.not_lt_zero _)
    | succ fuel ih_6 =>
      intro i hm_6 hi H locs ls hP hD hS hl
      refine lv_iload (pc := 6) hx hb dX7_pulls_6 (lv_at hl 5 rfl) ?_
      refine lv_aload_n (pc := 8) hx hb dX7_pulls_8 rfl (lv_at hl 0 rfl) ?_
      refine gf_X7_3 (pc := 9) hx hb hts hown hK hP 0 rfl rfl dX7_pulls_9 ?_
      refine gf_X7_65 (pc := 12) hx hb hts hE hown hK hP 6 rfl rfl dX7_pulls_12 ?_
      refine g_icmp_geN (pc := 15) (tgt := 71) hx hb dX7_pulls_15 (by decide) (by omega) (by omega) (fun c_15 => ?_) (fun c_15 => ?_)
      · refine lv_iload (pc := 71) hx hb dX7_pulls_71 (lv_at hl 4 rfl) ?_
        rw [← hQ]
        exact g_iret hx hb hr hlocks hS dX7_pulls_73 () (by rw [show i = nt by omega]) hP hD
      · refine lv_aload_n (pc := 18) hx hb dX7_pulls_18 rfl (lv_at hl 0 rfl) ?_
        refine gf_X7_22 (pc := 19) hx hb hts hown hK hP 0 rfl rfl dX7_pulls_19 ?_
        refine lv_iload (pc := 22) hx hb dX7_pulls_22 (lv_at hl 5 rfl) ?_
        refine g_iald (pc := 24) (v := bI ((bt st) i)) hx hb hK hP 3 0 rfl rfl dX7_pulls_24 (by first | assumption | omega) (by decide) rfl ?_
        refine lv_iconst (pc := 25) hx hb dX7_pulls_25 gk_1 ?_
        refine g_icmp_neB1 (pc := 26) (tgt := 65) hx hb dX7_pulls_26 (by decide) (fun c_26 => ?_) (fun c_26 => ?_)
        · have hs9 : pullF (gorF pc tc rp np dr) ts inn st fo k (i + 1) = pullF (gorF pc tc rp np dr) ts inn st fo k i := by simp only [pullF]; rw [if_neg (fun q => by rw [c_26] at q; cases q.1)]
          have hl : lv_has ls 6 [(0, .ref mS0), (1, .int (nI k)), (2, .int (nI fo)), (3, .int (nI dr)), (4, .int (nI (pullF (gorF pc tc rp np dr) ts inn st fo k (i + 1)))), (5, .int (nI i))] := Eq.mp (congrArg (fun z9x : Int32 => lv_has ls 6 [(0, .ref mS0), (1, .int (nI k)), (2, .int (nI fo)), (3, .int (nI dr)), (4, .int z9x), (5, .int (nI i))]) (show nI (pullF (gorF pc tc rp np dr) ts inn st fo k i) = nI (pullF (gorF pc tc rp np dr) ts inn st fo k (i + 1)) from by rw [hs9])) hl
          refine lv_iinc (pc := 65) (v := nI (i + 1)) (lv' := [(5, .int (nI (i + 1))), (0, .ref mS0), (1, .int (nI k)), (2, .int (nI fo)), (3, .int (nI dr)), (4, .int (nI (pullF (gorF pc tc rp np dr) ts inn st fo k (i + 1))))]) hx hb dX7_pulls_65 hl (k := 5) rfl (gi_1 _) (by decide) rfl (fun ls hl => ?_)
          refine lv_goto (pc := 68) (tgt := 6) hx hb dX7_pulls_68 (by decide) ?_
          exact ih_6 (i + 1) (by omega) (show (i + 1) ≤ nt from by first | assumption | omega) _ _ _ hP hD hS (lv_sub hl [1, 2, 3, 4, 5, 0] rfl)
        · refine lv_aload_n (pc := 29) hx hb dX7_pulls_29 rfl (lv_at hl 0 rfl) ?_
          refine lv_iload (pc := 30) hx hb dX7_pulls_30 (lv_at hl 5 rfl) ?_
          refine lv_iload_n (pc := 32) hx hb dX7_pulls_32 rfl (lv_at hl 1 rfl) ?_
          refine lv_iload_n (pc := 33) hx hb dX7_pulls_33 rfl (lv_at hl 3 rfl) ?_
          refine g_vi (pc := 34) (As := [.int (nI i), .int (nI k), .int (nI dr)]) (rest := []) (wc := [(mS0, .inr (7, [.int (nI ng), .ref mS1, .ref mS2, .ref mS3, .ref mS4, .ref mS5, .ref mM])), (mS1, .inl (cI, 100, .inl (aI f))), (mS2, .inl (cI, 16, .inl (aB (bt inn)))), (mS3, .inl (cI, 8, .inl (aB (bt st)))), (mS4, .inl (cI, 8, .inl (aB (bt wt)))), (mS5, .inl (cI, 8, .inl rp)), (mM, .inr (8, [.int (nI th), .ref mH, .ref mD, .ref mT, .int (nI np), .ref mP, .int (nI nt), .ref mA, .ref mZ, .ref mW, .ref ms9, .ref ma9])), (mH, .inl (cI, 100, .inl (aI h))), (mD, .inl (cI, 100, .inl (aB d))), (mT, .inl (cI, 7, .inl (aI tb))), (mP, .inl (cI, 16, .inl (aI pc))), (mA, .inl (cI, 8, .inl (aI tc))), (mZ, .inl (cI, 8, .inl (aI ts))), (mW, .inl (cI, 100, .inl w))]) (wr := []) lk_X7_62 hx hb hml hts hown hE hA hK hP hD hS hl (c_X7_isHeld l D cI cZ _ mS0 mS1 mS2 mS3 mS4 mS5 mM mH mD mT mP mA mZ mW ms9 ma9 ng f inn st wt rp th h d tb np pc nt tc ts w i k dr (show np ≤ 16 from by first | assumption | omega) (show ∀ j9, j9 < 16 → pc j9 < 100 from by first | assumption | omega) (show nt ≤ 8 from by first | assumption | omega) (show ∀ j9, j9 < 8 → tc j9 < 100 from by first | assumption | omega) (show i < nt from by first | assumption | omega) (show dr ≤ 3 from by first | assumption | omega) (show k < np from by first | assumption | omega)) rfl rfl dX7_pulls_34 [0, 1, 2, 3, 4, 5, 6, 7, 8, 9, 10, 11, 12, 13] [] rfl rfl (by decide) (by decide) (by decide) rfl rfl ⟨rfl, rfl, Nat.le_of_ble_eq_true rfl, Nat.le_of_ble_eq_true rfl, Nat.le_refl _, Nat.le_refl _⟩ (Nat.le_of_ble_eq_true rfl) (fun r u H locs hw hP hD hS => ?_)
          have hP : va_P D vwCl [(mS0, .inr (7, [.int (nI ng), .ref mS1, .ref mS2, .ref mS3, .ref mS4, .ref mS5, .ref mM])), (mS1, .inl (cI, 100, .inl (aI f))), (mS2, .inl (cI, 16, .inl (aB (bt inn)))), (mS3, .inl (cI, 8, .inl (aB (bt st)))), (mS4, .inl (cI, 8, .inl (aB (bt wt)))), (mS5, .inl (cI, 8, .inl rp)), (mM, .inr (8, [.int (nI th), .ref mH, .ref mD, .ref mT, .int (nI np), .ref mP, .int (nI nt), .ref mA, .ref mZ, .ref mW, .ref ms9, .ref ma9])), (mH, .inl (cI, 100, .inl (aI h))), (mD, .inl (cI, 100, .inl (aB d))), (mT, .inl (cI, 7, .inl (aI tb))), (mP, .inl (cI, 16, .inl (aI pc))), (mA, .inl (cI, 8, .inl (aI tc))), (mZ, .inl (cI, 8, .inl (aI ts))), (mW, .inl (cI, 100, .inl w))] H := hP
          have hD : va_D A [(mS0, .inr (7, [.int (nI ng), .ref mS1, .ref mS2, .ref mS3, .ref mS4, .ref mS5, .ref mM])), (mS1, .inl (cI, 100, .inl (aI f))), (mS2, .inl (cI, 16, .inl (aB (bt inn)))), (mS3, .inl (cI, 8, .inl (aB (bt st)))), (mS4, .inl (cI, 8, .inl (aB (bt wt)))), (mS5, .inl (cI, 8, .inl rp)), (mM, .inr (8, [.int (nI th), .ref mH, .ref mD, .ref mT, .int (nI np), .ref mP, .int (nI nt), .ref mA, .ref mZ, .ref mW, .ref ms9, .ref ma9])), (mH, .inl (cI, 100, .inl (aI h))), (mD, .inl (cI, 100, .inl (aB d))), (mT, .inl (cI, 7, .inl (aI tb))), (mP, .inl (cI, 16, .inl (aI pc))), (mA, .inl (cI, 8, .inl (aI tc))), (mZ, .inl (cI, 8, .inl (aI ts))), (mW, .inl (cI, 100, .inl w))] := hD
          have hw : r = bI (heldB rp inn pc tc dr i k) := hw
          obtain rfl := hw
          refine g_if_eqB (pc := 37) (tgt := 65) hx hb dX7_pulls_37 (by decide) (fun c_37 => ?_) (fun c_37 => ?_)
          · have hs9 : pullF (gorF pc tc rp np dr) ts inn st fo k (i + 1) = pullF (gorF pc tc rp np dr) ts inn st fo k i := by simp only [pullF]; rw [if_neg (fun q => by have q3 := q.2.2; rw [held_bt hnp, decide_eq_true hk, c_37] at q3; cases q3)]
            have hl : lv_has ls 6 [(0, .ref mS0), (1, .int (nI k)), (2, .int (nI fo)), (3, .int (nI dr)), (4, .int (nI (pullF (gorF pc tc rp np dr) ts inn st fo k (i + 1)))), (5, .int (nI i))] := Eq.mp (congrArg (fun z9x : Int32 => lv_has ls 6 [(0, .ref mS0), (1, .int (nI k)), (2, .int (nI fo)), (3, .int (nI dr)), (4, .int z9x), (5, .int (nI i))]) (show nI (pullF (gorF pc tc rp np dr) ts inn st fo k i) = nI (pullF (gorF pc tc rp np dr) ts inn st fo k (i + 1)) from by rw [hs9])) hl
            refine lv_iinc (pc := 65) (v := nI (i + 1)) (lv' := [(5, .int (nI (i + 1))), (0, .ref mS0), (1, .int (nI k)), (2, .int (nI fo)), (3, .int (nI dr)), (4, .int (nI (pullF (gorF pc tc rp np dr) ts inn st fo k (i + 1))))]) hx hb dX7_pulls_65 hl (k := 5) rfl (gi_1 _) (by decide) rfl (fun ls hl => ?_)
            refine lv_goto (pc := 68) (tgt := 6) hx hb dX7_pulls_68 (by decide) ?_
            exact ih_6 (i + 1) (by omega) (show (i + 1) ≤ nt from by first | assumption | omega) _ _ _ hP hD hS (lv_sub hl [1, 2, 3, 4, 5, 0] rfl)
          · have hb9 : bt (gorF pc tc rp np dr i &&& inn) k = true := by rw [held_bt hnp, decide_eq_true hk, c_37]; rfl
            have hp9 := pop_pos hb9
            have hp8 := pop_le (gorF pc tc rp np dr i &&& inn)
            have hs9 : pullF (gorF pc tc rp np dr) ts inn st fo k (i + 1) = pullF (gorF pc tc rp np dr) ts inn st fo k i + ts i * fo / pop (gorF pc tc rp np dr i &&& inn) := by simp only [pullF]; rw [if_pos ⟨c_26, hp9, hb9⟩]
            refine lv_iload (pc := 40) hx hb dX7_pulls_40 (lv_at hl 4 rfl) ?_
            refine lv_aload_n (pc := 42) hx hb dX7_pulls_42 rfl (lv_at hl 0 rfl) ?_
            refine gf_X7_3 (pc := 43) hx hb hts hown hK hP 0 rfl rfl dX7_pulls_43 ?_
            refine gf_X7_68 (pc := 46) hx hb hts hE hown hK hP 6 rfl rfl dX7_pulls_46 ?_
            refine lv_iload (pc := 49) hx hb dX7_pulls_49 (lv_at hl 5 rfl) ?_
            refine g_iald (pc := 51) (v := nI (ts i)) hx hb hK hP 12 0 rfl rfl dX7_pulls_51 (by first | assumption | omega) (by decide) rfl ?_
            refine lv_iload_n (pc := 52) hx hb dX7_pulls_52 rfl (lv_at hl 2 rfl) ?_
            refine g_imul (pc := 53) hx hb dX7_pulls_53 (pk_mul _ _) ?_
            refine lv_aload_n (pc := 54) hx hb dX7_pulls_54 rfl (lv_at hl 0 rfl) ?_
            refine lv_iload (pc := 55) hx hb dX7_pulls_55 (lv_at hl 5 rfl) ?_
            refine lv_iload_n (pc := 57) hx hb dX7_pulls_57 rfl (lv_at hl 3 rfl) ?_
            refine g_vi (pc := 58) (As := [.int (nI i), .int (nI dr)]) (rest := [.int (nI ((ts i) * fo)), .int (nI (pullF (gorF pc tc rp np dr) ts inn st fo k i))]) (wc := [(mS0, .inr (7, [.int (nI ng), .ref mS1, .ref mS2, .ref mS3, .ref mS4, .ref mS5, .ref mM])), (mS1, .inl (cI, 100, .inl (aI f))), (mS2, .inl (cI, 16, .inl (aB (bt inn)))), (mS3, .inl (cI, 8, .inl (aB (bt st)))), (mS4, .inl (cI, 8, .inl (aB (bt wt)))), (mS5, .inl (cI, 8, .inl rp)), (mM, .inr (8, [.int (nI th), .ref mH, .ref mD, .ref mT, .int (nI np), .ref mP, .int (nI nt), .ref mA, .ref mZ, .ref mW, .ref ms9, .ref ma9])), (mH, .inl (cI, 100, .inl (aI h))), (mD, .inl (cI, 100, .inl (aB d))), (mT, .inl (cI, 7, .inl (aI tb))), (mP, .inl (cI, 16, .inl (aI pc))), (mA, .inl (cI, 8, .inl (aI tc))), (mZ, .inl (cI, 8, .inl (aI ts))), (mW, .inl (cI, 100, .inl w))]) (wr := []) lk_X7_71 hx hb hml hts hown hE hA hK hP hD hS hl (c_X7_held l D cI cZ _ mS0 mS1 mS2 mS3 mS4 mS5 mM mH mD mT mP mA mZ mW ms9 ma9 ng f inn st wt rp th h d tb np pc nt tc ts w i dr (show np ≤ 16 from by first | assumption | omega) (show ∀ j9, j9 < 16 → pc j9 < 100 from by first | assumption | omega) (show nt ≤ 8 from by first | assumption | omega) (show ∀ j9, j9 < 8 → tc j9 < 100 from by first | assumption | omega) (show i < nt from by first | assumption | omega) (show dr ≤ 3 from by first | assumption | omega)) rfl rfl dX7_pulls_58 [0, 1, 2, 3, 4, 5, 6, 7, 8, 9, 10, 11, 12, 13] [] rfl rfl (by decide) (by decide) (by decide) rfl rfl ⟨rfl, rfl, Nat.le_of_ble_eq_true rfl, Nat.le_of_ble_eq_true rfl, Nat.le_refl _, Nat.le_refl _⟩ (Nat.le_of_ble_eq_true rfl) (fun r u H locs hw hP hD hS => ?_)
            have hP : va_P D vwCl [(mS0, .inr (7, [.int (nI ng), .ref mS1, .ref mS2, .ref mS3, .ref mS4, .ref mS5, .ref mM])), (mS1, .inl (cI, 100, .inl (aI f))), (mS2, .inl (cI, 16, .inl (aB (bt inn)))), (mS3, .inl (cI, 8, .inl (aB (bt st)))), (mS4, .inl (cI, 8, .inl (aB (bt wt)))), (mS5, .inl (cI, 8, .inl rp)), (mM, .inr (8, [.int (nI th), .ref mH, .ref mD, .ref mT, .int (nI np), .ref mP, .int (nI nt), .ref mA, .ref mZ, .ref mW, .ref ms9, .ref ma9])), (mH, .inl (cI, 100, .inl (aI h))), (mD, .inl (cI, 100, .inl (aB d))), (mT, .inl (cI, 7, .inl (aI tb))), (mP, .inl (cI, 16, .inl (aI pc))), (mA, .inl (cI, 8, .inl (aI tc))), (mZ, .inl (cI, 8, .inl (aI ts))), (mW, .inl (cI, 100, .inl w))] H := hP
            have hD : va_D A [(mS0, .inr (7, [.int (nI ng), .ref mS1, .ref mS2, .ref mS3, .ref mS4, .ref mS5, .ref mM])), (mS1, .inl (cI, 100, .inl (aI f))), (mS2, .inl (cI, 16, .inl (aB (bt inn)))), (mS3, .inl (cI, 8, .inl (aB (bt st)))), (mS4, .inl (cI, 8, .inl (aB (bt wt)))), (mS5, .inl (cI, 8, .inl rp)), (mM, .inr (8, [.int (nI th), .ref mH, .ref mD, .ref mT, .int (nI np), .ref mP, .int (nI nt), .ref mA, .ref mZ, .ref mW, .ref ms9, .ref ma9])), (mH, .inl (cI, 100, .inl (aI h))), (mD, .inl (cI, 100, .inl (aB d))), (mT, .inl (cI, 7, .inl (aI tb))), (mP, .inl (cI, 16, .inl (aI pc))), (mA, .inl (cI, 8, .inl (aI tc))), (mZ, .inl (cI, 8, .inl (aI ts))), (mW, .inl (cI, 100, .inl w))] := hD
            have hw : r = nI (pop (gorF pc tc rp np dr i &&& inn)) := hw
            obtain rfl := hw
            refine g_idiv (pc := 61) hx hb dX7_pulls_61 (nI_ne0 (by have h8 : ts i * fo ≤ 9 * 9 := Nat.mul_le_mul (hts9 i (by omega)) hfo; omega) (by have h8 : ts i * fo ≤ 9 * 9 := Nat.mul_le_mul (hts9 i (by omega)) hfo; omega)) (pk_div (by have h8 : ts i * fo ≤ 9 * 9 := Nat.mul_le_mul (hts9 i (by omega)) hfo; omega) (by have h8 : ts i * fo ≤ 9 * 9 := Nat.mul_le_mul (hts9 i (by omega)) hfo; omega) (by have h8 : ts i * fo ≤ 9 * 9 := Nat.mul_le_mul (hts9 i (by omega)) hfo; omega)) ?_
            refine g_iadd (pc := 62) hx hb dX7_pulls_62 (nI_add _ _) ?_
            refine lv_istore (pc := 63) (lv' := [(4, .int (nI ((pullF (gorF pc tc rp np dr) ts inn st fo k i) + (((ts i) * fo) / (pop (gorF pc tc rp np dr i &&& inn)))))), (0, .ref mS0), (1, .int (nI k)), (2, .int (nI fo)), (3, .int (nI dr)), (5, .int (nI i))]) hx hb dX7_pulls_63 hl (by decide) rfl (fun ls hl => ?_)
            have hl : lv_has ls 6 [(4, .int (nI (pullF (gorF pc tc rp np dr) ts inn st fo k (i + 1)))), (0, .ref mS0), (1, .int (nI k)), (2, .int (nI fo)), (3, .int (nI dr)), (5, .int (nI i))] := Eq.mp (congrArg (fun z9x : Int32 => lv_has ls 6 [(4, .int z9x), (0, .ref mS0), (1, .int (nI k)), (2, .int (nI fo)), (3, .int (nI dr)), (5, .int (nI i))]) (show nI ((pullF (gorF pc tc rp np dr) ts inn st fo k i) + (((ts i) * fo) / (pop (gorF pc tc rp np dr i &&& inn)))) = nI (pullF (gorF pc tc rp np dr) ts inn st fo k (i + 1)) from by rw [hs9])) hl
            refine lv_iinc (pc := 65) (v := nI (i + 1)) (lv' := [(5, .int (nI (i + 1))), (4, .int (nI (pullF (gorF pc tc rp np dr) ts inn st fo k (i + 1)))), (0, .ref mS0), (1, .int (nI k)), (2, .int (nI fo)), (3, .int (nI dr))]) hx hb dX7_pulls_65 hl (k := 5) rfl (gi_1 _) (by decide) rfl (fun ls hl => ?_)
            refine lv_goto (pc := 68) (tgt := 6) hx hb dX7_pulls_68 (by decide) ?_
            exact ih_6 (i + 1) (by omega) (show (i + 1) ≤ nt from by first | assumption | omega) _ _ _ hP hD hS (lv_sub hl [2, 3, 4, 5, 1, 0] rfl)
  exact lab_6 (nt - 0 + 1) 0 (Nat.lt_succ_self _) (show 0 ≤ nt from by first | assumption | omega) _ _ _ hP hD hS (lv_sub hl [2, 3, 4, 5, 1, 0] rfl)
