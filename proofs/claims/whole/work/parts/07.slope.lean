def lvl (k : Nat) : Int32 := nI k - 1
theorem lvl_0 : lvl 0 = -1 := by decide
theorem lvl_s (k : Nat) : lvl (k + 1) = nI k := nI_pred k
theorem lvl_dec (k : Nat) : nI k + Int32.ofInt (-1) = lvl k := by unfold lvl; rw [Int32.sub_eq_add_neg]; rfl
/-- how many cells come ahead: those of height k or more, and those one lower with a smaller number -/
def cntA (h : Nat → Nat) (k c : Nat) : Nat := fb_ct (fun j => decide (k ≤ h j) || (decide (h j + 1 = k) && decide (j < c))) 100
def rank (h : Nat → Nat) (c : Nat) : Nat := cntA h (h c + 1) c
def ordOK (h tp : Nat → Nat) : Prop := ∀ p, p < 100 → tp p < 100 ∧ rank h (tp p) = p
theorem cnt_same {h : Nat → Nat} {k c : Nat} (hk : h c + 1 = k) (hc : c < 100) : cntA h k (c + 1) = cntA h k c + 1 := by
  unfold cntA
  have e := fb_ct_upd (fun j => decide (k ≤ h j) || (decide (h j + 1 = k) && decide (j < c))) true (i := c) (n := 100) hc
  have e0 : (decide (k ≤ h c) || (decide (h c + 1 = k) && decide (c < c))) = false := by
    rw [decide_eq_false (by omega), decide_eq_false (Nat.lt_irrefl c), Bool.and_false]; rfl
  rw [e0] at e
  rw [fb_ct_cong (q := fun j => if j = c then true else decide (k ≤ h j) || (decide (h j + 1 = k) && decide (j < c)))]
  · simpa using e
  · intro j hj
    by_cases hjc : j = c
    · subst hjc; rw [if_pos rfl, decide_eq_true hk, decide_eq_true (Nat.lt_succ_self j)]; simp
    · rw [if_neg hjc]
      congr 2
      exact decide_eq_decide.mpr (by omega)
theorem cnt_other {h : Nat → Nat} {k c : Nat} (hk : h c + 1 ≠ k) : cntA h k (c + 1) = cntA h k c := by
  unfold cntA
  refine fb_ct_cong (fun j hj => ?_)
  by_cases hjc : j = c
  · subst hjc; rw [decide_eq_false hk]; rfl
  · congr 2
    exact decide_eq_decide.mpr (by omega)
theorem cnt_next (h : Nat → Nat) (k : Nat) : cntA h (k + 1) 100 = cntA h k 0 := by
  unfold cntA
  refine fb_ct_cong (fun j hj => ?_)
  rw [decide_eq_true hj, decide_eq_false (Nat.not_lt_zero j), Bool.and_true, Bool.and_false, Bool.or_false, ← Bool.decide_or]
  exact decide_eq_decide.mpr (by omega)
theorem cnt_all (h : Nat → Nat) : cntA h 0 0 = 100 := by
  unfold cntA
  rw [fb_ct_all]
  intro j hj
  rw [decide_eq_true (Nat.zero_le _)]; rfl
theorem cnt_none {h : Nat → Nat} (hh : ∀ i, i < 100 → h i ≤ 30) : cntA h 31 0 = 0 := by
  unfold cntA
  rw [fb_ct_zero]
  intro j hj
  have := hh j hj
  rw [decide_eq_false (by omega), decide_eq_false (Nat.not_lt_zero j), Bool.and_false]; rfl
theorem rank_lt {h : Nat → Nat} {c : Nat} (hc : c < 100) : rank h c < 100 := by
  have h1 := cnt_same (h := h) rfl hc
  have h2 : cntA h (h c + 1) (c + 1) ≤ 100 := fb_ct_le _ _
  unfold rank
  omega
/-! a cell's neighbours: above, left, right, below; where its water runs -/
def nxI (s : Nat) : Int32 := if s = 1 then -1 else if s = 2 then 1 else 0
def nyI (s : Nat) : Int32 := if s = 0 then -1 else if s = 3 then 1 else 0
def nbr (c s : Nat) : Option Nat := if s = 0 then (if 10 ≤ c then some (c - 10) else none) else if s = 1 then (if 0 < c % 10 then some (c - 1) else none) else if s = 2 then (if c % 10 < 9 then some (c + 1) else none) else (if c < 90 then some (c + 10) else none)
def lest (h : Nat → Nat) (c : Nat) (o : Option Nat) : Nat := match o with | none => h c | some a => h a
def lstep (h : Nat → Nat) (c : Nat) (o : Option Nat) (s : Nat) : Option Nat := match nbr c s with | none => o | some b => if h b < lest h c o then some b else o
def lowS (h : Nat → Nat) (c : Nat) : Nat → Option Nat
  | 0 => none
  | s + 1 => lstep h c (lowS h c s) s
def low (h : Nat → Nat) (c : Nat) : Option Nat := lowS h c 4
theorem nbr_lt {c s b : Nat} (hc : c < 100) (h : nbr c s = some b) : b < 100 := by
  unfold nbr at h
  split at h
  · split at h <;> simp at h; omega
  · split at h
    · split at h <;> simp at h; omega
    · split at h
      · split at h <;> simp at h; omega
      · split at h <;> simp at h; omega
theorem lowS_lt {h : Nat → Nat} {c : Nat} (hc : c < 100) : ∀ (s : Nat) {b : Nat}, lowS h c s = some b → b < 100
  | 0, b, e => by simp [lowS] at e
  | s + 1, b, e => by
    simp only [lowS, lstep] at e
    split at e
    · exact lowS_lt hc s e
    · split at e
      · simp at e; subst e; exact nbr_lt hc (by assumption)
      · exact lowS_lt hc s e
theorem nb_on : ∀ c, c < 100 → ∀ s, s < 4 → (isT (nI (c % 10) + nxI s) && isT (nI (c / 10) + nyI s)) = (nbr c s).isSome := by decide +kernel
theorem nb_ix : ∀ c, c < 100 → ∀ s, s < 4 → nbr c s = none ∨ nI 10 * (nI (c / 10) + nyI s) + (nI (c % 10) + nxI s) = nI ((nbr c s).getD 0) := by decide +kernel
theorem nb_i {c s b : Nat} (hc : c < 100) (hs : s < 4) (h : nbr c s = some b) : nI 10 * (nI (c / 10) + nyI s) + (nI (c % 10) + nxI s) = nI b := by
  rcases nb_ix c hc s hs with q | q
  · rw [q] at h; cases h
  · rw [h] at q; exact q
def runf (h : Nat → Nat) (d : Nat → Bool) (w : Nat → Int32) (c : Nat) : Nat → Int32 := if d c = true then w else match low h c with | none => w | some b => upd w b (w b + w c)
def wat (h : Nat → Nat) (d : Nat → Bool) (tp : Nat → Nat) (x : Int32) : Nat → Nat → Int32
  | 0 => fun _ => x
  | n + 1 => runf h d (wat h d tp x n) (tp n)
theorem runf_cong {h : Nat → Nat} {d : Nat → Bool} {w v : Nat → Int32} {c : Nat} (hc : c < 100) (e : ∀ j, j < 100 → w j = v j) : ∀ j, j < 100 → runf h d w c j = runf h d v c j := by
  intro j hj
  unfold runf
  split
  · exact e j hj
  · cases hb : low h c with
    | none => exact e j hj
    | some b =>
      simp only [upd]
      split
      · rw [e b (lowS_lt hc 4 hb), e c hc]
      · exact e j hj
def sfn (w : Nat → Int32) (f : Nat → Nat) (j : Nat) : Nat := if nI 20 ≤ w j ∧ 1 < f j then f j - 1 else f j
theorem up_s {α : Type} {g f : Nat → α} {i : Nat} (h : ∀ j, j < i → g j = f j) : ∀ j, j < i + 1 → va_up g i (f i) j = f j := fun j hj => by
  unfold va_up
  by_cases e : j = i
  · rw [if_pos e, e]
  · rw [if_neg e]; exact h j (by omega)
theorem ct_t {b : Nat → Bool} {n : Nat} (h : b n = true) : fb_ct b n + 1 = fb_ct b (n + 1) := by rw [fb_ct_succ, h]; rfl
theorem ct_f {b : Nat → Bool} {n : Nat} (h : b n = false) : fb_ct b n + 0 = fb_ct b (n + 1) := by rw [fb_ct_succ, h]; rfl

set_option maxHeartbeats 4000000 in
set_option maxRecDepth 100000 in
theorem c_X3_sortFromTheTop (l : Launch) (D : va_G) (cI cZ : ClassId) (sz : Nat) (aS0 aS1 aS2 aS3 aS4 aS5 : Nat) (h : Nat → Nat) (f : Nat → Nat) (d : Nat → Bool) (tp : Nat → Nat) (w : Nat → Int32) (hh : ∀ i9, i9 < 100 → h i9 ≤ 30) : gMv l yX3_sortFromTheTop cX3_sortFromTheTop 4 D cI cZ sz [(aS0, .inr (3, [.ref aS1, .ref aS2, .ref aS3, .ref aS4, .ref aS5])), (aS1, .inl (cI, 100, .inl (aI h))), (aS2, .inl (cI, 100, .inl (aI f))), (aS3, .inl (cZ, 100, .inl (aB d))), (aS4, .inl (cI, 100, .inl (aI tp))), (aS5, .inl (cI, 100, .inl w))] [.ref aS0] ({ frames := 0, cells := 0, slots := 0, locals := 0 } : Room) (fun (u : (Nat → Nat)) => (ordOK h u)) (fun (u : (Nat → Nat)) => [(aS0, .inr (3, [.ref aS1, .ref aS2, .ref aS3, .ref aS4, .ref aS5])), (aS1, .inl (cI, 100, .inl (aI h))), (aS2, .inl (cI, 100, .inl (aI f))), (aS3, .inl (cZ, 100, .inl (aB d))), (aS4, .inl (cI, 100, .inl (aI u))), (aS5, .inl (cI, 100, .inl w))]) 0 0 := by
  refine gM_ofv (by decide +kernel) (Nat.le_of_ble_eq_true rfl) ?_
  intro pg ev s mi below meth co A hx hb hr hml hts hown hlocks hname hA hsz hAe hP hK hD hE hS ls hl
  have hl : lv_has ls 4 [(0, .ref aS0)] := hl
  generalize hQ : MQ below _ _ s _ _ A = Q
  refine lv_iconst (pc := 0) hx hb dX3_sortFromTheTop_0 gk_0 ?_
  refine lv_istore_n (pc := 1) (lv' := [(1, .int (nI 0)), (0, .ref aS0)]) hx hb dX3_sortFromTheTop_1 rfl hl (by decide) rfl (fun ls hl => ?_)
  refine lv_bipush (pc := 2) (v := nI 30) hx hb dX3_sortFromTheTop_2 (by decide) ?_
  refine g_top (pc := 4) (w := .int (lvl 31)) (congrArg Value.int ((lvl_s 30).symm)) ?_
  refine lv_istore_n (pc := 4) (lv' := [(2, .int (lvl 31)), (1, .int (nI 0)), (0, .ref aS0)]) hx hb dX3_sortFromTheTop_4 rfl hl (by decide) rfl (fun ls hl => ?_)
  have lab_5 : ∀ (fuel : Nat) (k : Nat) (pl : Nat) (g : Nat → Nat), (k) < fuel → (k ≤ 31) → (pl = cntA h k 0) → (∀ p, p < pl → g p < 100 ∧ rank h (g p) = p) → ∀ (H : Heap) (locs : List Loc) (ls : Array Slot), va_P D vwCl [(aS0, .inr (3, [.ref aS1, .ref aS2, .ref aS3, .ref aS4, .ref aS5])), (aS1, .inl (cI, 100, .inl (aI h))), (aS2, .inl (cI, 100, .inl (aI f))), (aS3, .inl (cZ, 100, .inl (aB d))), (aS4, .inl (cI, 100, .inl (aI g))), (aS5, .inl (cI, 100, .inl w))] H → va_D A [(aS0, .inr (3, [.ref aS1, .ref aS2, .ref aS3, .ref aS4, .ref aS5])), (aS1, .inl (cI, 100, .inl (aI h))), (aS2, .inl (cI, 100, .inl (aI f))), (aS3, .inl (cZ, 100, .inl (aB d))), (aS4, .inl (cI, 100, .inl (aI g))), (aS5, .inl (cI, 100, .inl w))] → va_S A s.heap H locs → lv_has ls 4 [(0, .ref aS0), (1, .int (nI pl)), (2, .int (lvl k))] → W pg l ev ({ frames := 0, cells := 0, slots := 0, locals := 0 } : Room) s mi [(.ref aS0 : Value)].toArray below meth co H locs 0 0 Q (F0 mi 5 ls []) := by
    intro fuel
    induction fuel with
    | zero => intro k pl g hm; exact absurd hm (Nat.not_lt_zero _)
    | succ fuel ih_5 =>
      intro k pl g hm_5 hk hpl hg H locs ls hP hD hS hl
      refine lv_iload_n (pc := 5) hx hb dX3_sortFromTheTop_5 rfl (lv_at hl 2 rfl) ?_
      rcases k with _ | k
      · refine g_top (w := .int (-1)) (congrArg Value.int lvl_0) ?_
        have hl : lv_has ls 4 [(0, .ref aS0), (1, .int (nI pl)), (2, .int (-1))] := by rw [lvl_0] at hl; exact hl
        refine lv_if_lt (pc := 6) (tgt := 55) hx hb dX3_sortFromTheTop_6 (by decide) (fun c_6 => ?_) (fun c_6 => ?_)
        · rw [← hQ]
          exact g_vret hx hb hr hlocks hS dX3_sortFromTheTop_55 g (by (have e := cnt_all h; rw [← hpl] at e; subst e; exact hg)) hP hD
        · exact absurd (by decide) c_6
      · refine g_top (w := .int (nI k)) (congrArg Value.int (lvl_s k)) ?_
        have hl : lv_has ls 4 [(0, .ref aS0), (1, .int (nI pl)), (2, .int (nI k))] := by rw [lvl_s] at hl; exact hl
        refine g_if_ltN (pc := 6) (tgt := 55) hx hb dX3_sortFromTheTop_6 (by decide) (by omega) ?_
        refine lv_iconst (pc := 9) hx hb dX3_sortFromTheTop_9 gk_0 ?_
        refine lv_istore_n (pc := 10) (lv' := [(3, .int (nI 0)), (0, .ref aS0), (1, .int (nI pl)), (2, .int (nI k))]) hx hb dX3_sortFromTheTop_10 rfl hl (by decide) rfl (fun ls hl => ?_)
        have lab_11 : ∀ (fuel : Nat) (c : Nat) (pl : Nat) (g : Nat → Nat), (100 - c) < fuel → (c ≤ 100) → (pl = cntA h (k + 1) c) → (∀ p, p < pl → g p < 100 ∧ rank h (g p) = p) → ∀ (H : Heap) (locs : List Loc) (ls : Array Slot), va_P D vwCl [(aS0, .inr (3, [.ref aS1, .ref aS2, .ref aS3, .ref aS4, .ref aS5])), (aS1, .inl (cI, 100, .inl (aI h))), (aS2, .inl (cI, 100, .inl (aI f))), (aS3, .inl (cZ, 100, .inl (aB d))), (aS4, .inl (cI, 100, .inl (aI g))), (aS5, .inl (cI, 100, .inl w))] H → va_D A [(aS0, .inr (3, [.ref aS1, .ref aS2, .ref aS3, .ref aS4, .ref aS5])), (aS1, .inl (cI, 100, .inl (aI h))), (aS2, .inl (cI, 100, .inl (aI f))), (aS3, .inl (cZ, 100, .inl (aB d))), (aS4, .inl (cI, 100, .inl (aI g))), (aS5, .inl (cI, 100, .inl w))] → va_S A s.heap H locs → lv_has ls 4 [(0, .ref aS0), (1, .int (nI pl)), (2, .int (nI k)), (3, .int (nI c))] → W pg l ev ({ frames := 0, cells := 0, slots := 0, locals := 0 } : Room) s mi [(.ref aS0 : Value)].toArray below meth co H locs 0 0 Q (F0 mi 11 ls []) := by
          intro fuel
          induction fuel with
          | zero => intro c pl g hm; exact absurd hm (Nat.not_lt_zero _)
          | succ fuel ih_11 =>
            intro c pl g hm_11 hc hpl2 hg2 H locs ls hP hD hS hl
            refine lv_iload_n (pc := 11) hx hb dX3_sortFromTheTop_11 rfl (lv_at hl 3 rfl) ?_
            refine lv_bipush (pc := 12) (v := nI 100) hx hb dX3_sortFromTheTop_12 (by decide) ?_
            refine g_icmp_geN (pc := 14) (tgt := 49) hx hb dX3_sortFromTheTop_14 (by decide) (by omega) (by omega) (fun c_14 => ?_) (fun c_14 => ?_)
            · refine lv_iinc (pc := 49) (v := (lvl k)) (lv' := [(2, .int (lvl k)), (0, .ref aS0), (1, .int (nI pl)), (3, .int (nI c))]) hx hb dX3_sortFromTheTop_49 hl (k := 2) rfl (lvl_dec k) (by decide) rfl (fun ls hl => ?_)
              refine lv_goto (pc := 52) (tgt := 5) hx hb dX3_sortFromTheTop_52 (by decide) ?_
              exact ih_5 k pl g (by omega) (show k ≤ 31 from by first | assumption | omega) (show pl = cntA h k 0 from by rw [hpl2, show c = 100 by omega]; exact cnt_next h k) (show ∀ p, p < pl → g p < 100 ∧ rank h (g p) = p from by exact hg2) _ _ _ hP hD hS (lv_sub hl [1, 2, 0] rfl)
            · refine lv_aload_n (pc := 17) hx hb dX3_sortFromTheTop_17 rfl (lv_at hl 0 rfl) ?_
              refine gf_X3_9 (pc := 18) hx hb hts hown hK hP 0 rfl rfl dX3_sortFromTheTop_18 ?_
              refine lv_iload_n (pc := 21) hx hb dX3_sortFromTheTop_21 rfl (lv_at hl 3 rfl) ?_
              refine g_iald (pc := 22) (v := nI (h c)) hx hb hK hP 1 0 rfl rfl dX3_sortFromTheTop_22 (by first | assumption | omega) (by decide) rfl ?_
              refine lv_iload_n (pc := 23) hx hb dX3_sortFromTheTop_23 rfl (lv_at hl 2 rfl) ?_
              refine g_icmp_neN (pc := 24) (tgt := 43) hx hb dX3_sortFromTheTop_24 (by decide) (by have := hh c (by omega); omega) (by have := hh c (by omega); omega) (fun c_24 => ?_) (fun c_24 => ?_)
              · refine lv_iinc (pc := 43) (v := nI (c + 1)) (lv' := [(3, .int (nI (c + 1))), (0, .ref aS0), (1, .int (nI pl)), (2, .int (nI k))]) hx hb dX3_sortFromTheTop_43 hl (k := 3) rfl (gi_1 _) (by decide) rfl (fun ls hl => ?_)
                refine lv_goto (pc := 46) (tgt := 11) hx hb dX3_sortFromTheTop_46 (by decide) ?_
                exact ih_11 (c + 1) pl g (by omega) (show (c + 1) ≤ 100 from by first | assumption | omega) (show pl = cntA h (k + 1) (c + 1) from by first | (rw [cnt_same (show h c + 1 = k + 1 by omega) (by omega)]; omega) | (rw [cnt_other (show h c + 1 ≠ k + 1 by omega)]; exact hpl2)) (show ∀ p, p < pl → g p < 100 ∧ rank h (g p) = p from by first | exact hg2 | exact hg3) _ _ _ hP hD hS (lv_sub hl [1, 2, 3, 0] rfl)
              · refine lv_iload_n (pc := 27) hx hb dX3_sortFromTheTop_27 rfl (lv_at hl 1 rfl) ?_
                refine lv_bipush (pc := 28) (v := nI 100) hx hb dX3_sortFromTheTop_28 (by decide) ?_
                have hr : pl = rank h c := by rw [hpl2]; unfold rank; rw [c_24]
                have hlt := rank_lt (h := h) (c := c) (by omega)
                refine g_icmp_geN (pc := 30) (tgt := 43) hx hb dX3_sortFromTheTop_30 (by decide) (by omega) (by omega) (fun c_30 => ?_) (fun c_30 => ?_)
                · omega
                · refine lv_aload_n (pc := 33) hx hb dX3_sortFromTheTop_33 rfl (lv_at hl 0 rfl) ?_
                  refine gf_X3_22 (pc := 34) hx hb hts hown hK hP 0 rfl rfl dX3_sortFromTheTop_34 ?_
                  refine lv_iload_n (pc := 37) hx hb dX3_sortFromTheTop_37 rfl (lv_at hl 1 rfl) ?_
                  refine lv_iload_n (pc := 38) hx hb dX3_sortFromTheTop_38 rfl (lv_at hl 3 rfl) ?_
                  refine g_iast (pc := 39) (g := aI (va_up g pl c)) (w2 := [(aS0, .inr (3, [.ref aS1, .ref aS2, .ref aS3, .ref aS4, .ref aS5])), (aS1, .inl (cI, 100, .inl (aI h))), (aS2, .inl (cI, 100, .inl (aI f))), (aS3, .inl (cZ, 100, .inl (aB d))), (aS4, .inl (cI, 100, .inl (aI (va_up g pl c)))), (aS5, .inl (cI, 100, .inl w))]) hx hb hK hP hD hS 4 0 rfl rfl dX3_sortFromTheTop_39 rfl (by first | assumption | omega) (by decide) (aI_up _ _ _) (fun H locs hP hD hS => ?_)
                  have hg3 : ∀ p, p < pl + 1 → va_up g pl c p < 100 ∧ rank h (va_up g pl c p) = p := by
                    intro p hp
                    unfold va_up
                    by_cases e : p = pl
                    · rw [if_pos e]; exact ⟨by omega, by rw [← hr]; exact e.symm⟩
                    · rw [if_neg e]; exact hg2 p (by omega)
                  refine lv_iinc (pc := 40) (v := nI (pl + 1)) (lv' := [(1, .int (nI (pl + 1))), (0, .ref aS0), (2, .int (nI k)), (3, .int (nI c))]) hx hb dX3_sortFromTheTop_40 hl (k := 1) rfl (gi_1 _) (by decide) rfl (fun ls hl => ?_)
                  refine lv_iinc (pc := 43) (v := nI (c + 1)) (lv' := [(3, .int (nI (c + 1))), (1, .int (nI (pl + 1))), (0, .ref aS0), (2, .int (nI k))]) hx hb dX3_sortFromTheTop_43 hl (k := 3) rfl (gi_1 _) (by decide) rfl (fun ls hl => ?_)
                  refine lv_goto (pc := 46) (tgt := 11) hx hb dX3_sortFromTheTop_46 (by decide) ?_
                  exact ih_11 (c + 1) (pl + 1) (va_up g pl c) (by omega) (show (c + 1) ≤ 100 from by first | assumption | omega) (show (pl + 1) = cntA h (k + 1) (c + 1) from by first | (rw [cnt_same (show h c + 1 = k + 1 by omega) (by omega)]; omega) | (rw [cnt_other (show h c + 1 ≠ k + 1 by omega)]; exact hpl2)) (show ∀ p, p < (pl + 1) → (va_up g pl c) p < 100 ∧ rank h ((va_up g pl c) p) = p from by first | exact hg2 | exact hg3) _ _ _ hP hD hS (lv_sub hl [2, 1, 3, 0] rfl)
        exact lab_11 (100 - 0 + 1) 0 pl g (Nat.lt_succ_self _) (show 0 ≤ 100 from by first | assumption | omega) (show pl = cntA h (k + 1) 0 from by exact hpl) (show ∀ p, p < pl → g p < 100 ∧ rank h (g p) = p from by exact hg) _ _ _ hP hD hS (lv_sub hl [1, 2, 3, 0] rfl)
  exact lab_5 (31 + 1) 31 0 tp (Nat.lt_succ_self _) (show 31 ≤ 31 from by first | assumption | omega) (show 0 = cntA h 31 0 from by exact (cnt_none hh).symm) (show ∀ p, p < 0 → tp p < 100 ∧ rank h (tp p) = p from by exact fun p hp => absurd hp (Nat.not_lt_zero p)) _ _ _ hP hD hS (lv_sub hl [2, 1, 0] rfl)
set_option maxHeartbeats 4000000 in
set_option maxRecDepth 100000 in
theorem c_X3_shape (l : Launch) (D : va_G) (cI cZ : ClassId) (sz : Nat) (aS0 aS1 aS2 aS3 aS4 aS5 : Nat) (h : Nat → Nat) (f : Nat → Nat) (d : Nat → Bool) (tp : Nat → Nat) (w : Nat → Int32) (c : Nat) (nh : Nat) (nf : Nat) (hh : ∀ i9, i9 < 100 → h i9 ≤ 30) (hc : c < 100) (hnh : nh ≤ 30) : gMi l yX3_shape cX3_shape 5 .int D cI cZ sz [(aS0, .inr (3, [.ref aS1, .ref aS2, .ref aS3, .ref aS4, .ref aS5])), (aS1, .inl (cI, 100, .inl (aI h))), (aS2, .inl (cI, 100, .inl (aI f))), (aS3, .inl (cZ, 100, .inl (aB d))), (aS4, .inl (cI, 100, .inl (aI tp))), (aS5, .inl (cI, 100, .inl w))] [.ref aS0, .int (nI c), .int (nI nh), .int (nI nf)] ({ frames := 1, cells := 0, slots := 0, locals := 23 } : Room) (fun (r : Int32) (u : (Nat → Nat)) => r = nI (10 * h c + f c) ∧ (ordOK (va_up h c nh) u)) (fun (u : (Nat → Nat)) => [(aS0, .inr (3, [.ref aS1, .ref aS2, .ref aS3, .ref aS4, .ref aS5])), (aS1, .inl (cI, 100, .inl (aI (va_up h c nh)))), (aS2, .inl (cI, 100, .inl (aI (va_up f c nf)))), (aS3, .inl (cZ, 100, .inl (aB d))), (aS4, .inl (cI, 100, .inl (aI u))), (aS5, .inl (cI, 100, .inl w))]) 0 0 := by
  refine gM_ofi (by decide +kernel) (Nat.le_of_ble_eq_true rfl) ?_
  intro pg ev s mi below meth co A hx hb hr hml hts hown hlocks hname hA hsz hAe hP hK hD hE hS ls hl
  have hl : lv_has ls 5 [(0, .ref aS0), (1, .int (nI c)), (2, .int (nI nh)), (3, .int (nI nf))] := hl
  generalize hQ : MQ below _ _ s _ _ A = Q
  refine lv_bipush (pc := 0) (v := nI 10) hx hb dX3_shape_0 (by decide) ?_
  refine lv_aload_n (pc := 2) hx hb dX3_shape_2 rfl (lv_at hl 0 rfl) ?_
  refine gf_X3_9 (pc := 3) hx hb hts hown hK hP 0 rfl rfl dX3_shape_3 ?_
  refine lv_iload_n (pc := 6) hx hb dX3_shape_6 rfl (lv_at hl 1 rfl) ?_
  refine g_iald (pc := 7) (v := nI (h c)) hx hb hK hP 1 0 rfl rfl dX3_shape_7 (by first | assumption | omega) (by decide) rfl ?_
  refine g_imul (pc := 8) hx hb dX3_shape_8 (pk_mul _ _) ?_
  refine lv_aload_n (pc := 9) hx hb dX3_shape_9 rfl (lv_at hl 0 rfl) ?_
  refine gf_X3_15 (pc := 10) hx hb hts hown hK hP 0 rfl rfl dX3_shape_10 ?_
  refine lv_iload_n (pc := 13) hx hb dX3_shape_13 rfl (lv_at hl 1 rfl) ?_
  refine g_iald (pc := 14) (v := nI (f c)) hx hb hK hP 2 0 rfl rfl dX3_shape_14 (by first | assumption | omega) (by decide) rfl ?_
  refine g_iadd (pc := 15) hx hb dX3_shape_15 (nI_add _ _) ?_
  refine lv_istore (pc := 16) (lv' := [(4, .int (nI ((10 * (h c)) + (f c)))), (0, .ref aS0), (1, .int (nI c)), (2, .int (nI nh)), (3, .int (nI nf))]) hx hb dX3_shape_16 hl (by decide) rfl (fun ls hl => ?_)
  refine lv_aload_n (pc := 18) hx hb dX3_shape_18 rfl (lv_at hl 1 rfl) ?_
  refine gf_X3_9 (pc := 19) hx hb hts hown hK hP 0 rfl rfl dX3_shape_19 ?_
  refine lv_iload_n (pc := 22) hx hb dX3_shape_22 rfl (lv_at hl 2 rfl) ?_
  refine lv_iload_n (pc := 23) hx hb dX3_shape_23 rfl (lv_at hl 3 rfl) ?_
  refine g_iast (pc := 24) (g := aI (va_up h c nh)) (w2 := [(aS0, .inr (3, [.ref aS1, .ref aS2, .ref aS3, .ref aS4, .ref aS5])), (aS1, .inl (cI, 100, .inl (aI (va_up h c nh)))), (aS2, .inl (cI, 100, .inl (aI f))), (aS3, .inl (cZ, 100, .inl (aB d))), (aS4, .inl (cI, 100, .inl (aI tp))), (aS5, .inl (cI, 100, .inl w))]) hx hb hK hP hD hS 1 0 rfl rfl dX3_shape_24 rfl (by first | assumption | omega) (by decide) (aI_up _ _ _) (fun H locs hP hD hS => ?_)
  refine lv_aload_n (pc := 25) hx hb dX3_shape_25 rfl (lv_at hl 1 rfl) ?_
  refine gf_X3_15 (pc := 26) hx hb hts hown hK hP 0 rfl rfl dX3_shape_26 ?_
  refine lv_iload_n (pc := 29) hx hb dX3_shape_29 rfl (lv_at hl 2 rfl) ?_
  refine lv_iload_n (pc := 30) hx hb dX3_shape_30 rfl (lv_at hl 4 rfl) ?_
  refine g_iast (pc := 31) (g := aI (va_up f c nf)) (w2 := [(aS0, .inr (3, [.ref aS1, .ref aS2, .ref aS3, .ref aS4, .ref aS5])), (aS1, .inl (cI, 100, .inl (aI (va_up h c nh)))), (aS2, .inl (cI, 100, .inl (aI (va_up f c nf)))), (aS3, .inl (cZ, 100, .inl (aB d))), (aS4, .inl (cI, 100, .inl (aI tp))), (aS5, .inl (cI, 100, .inl w))]) hx hb hK hP hD hS 2 0 rfl rfl dX3_shape_31 rfl (by first | assumption | omega) (by decide) (aI_up _ _ _) (fun H locs hP hD hS => ?_)
  refine lv_aload_n (pc := 32) hx hb dX3_shape_32 rfl (lv_at hl 1 rfl) ?_
  refine g_vv (pc := 33) (As := []) (rest := []) (wc := [(aS0, .inr (3, [.ref aS1, .ref aS2, .ref aS3, .ref aS4, .ref aS5])), (aS1, .inl (cI, 100, .inl (aI (va_up h c nh)))), (aS2, .inl (cI, 100, .inl (aI (va_up f c nf)))), (aS3, .inl (cZ, 100, .inl (aB d))), (aS4, .inl (cI, 100, .inl (aI tp))), (aS5, .inl (cI, 100, .inl w))]) (wr := []) lk_X3_28 hx hb hml hts hown hE hA hK hP hD hS hl (c_X3_sortFromTheTop l D cI cZ _ aS0 aS1 aS2 aS3 aS4 aS5 (va_up h c nh) (va_up f c nf) d tp w (show ∀ i9, i9 < 100 → (va_up h c nh) i9 ≤ 30 from by intro i hi; unfold va_up; split; exact hnh; exact hh i hi)) rfl rfl dX3_shape_33 [0, 1, 2, 3, 4, 5] [] rfl rfl (by decide) (by decide) (by decide) rfl rfl ⟨rfl, rfl, Nat.le_of_ble_eq_true rfl, Nat.le_of_ble_eq_true rfl, Nat.le_refl _, Nat.le_refl _⟩ (Nat.le_of_ble_eq_true rfl) (fun u H locs hw hP hD hS => ?_)
  obtain ⟨tp2_33, rfl⟩ : ∃ z, z = u := ⟨_, rfl⟩
  have hP : va_P D vwCl [(aS0, .inr (3, [.ref aS1, .ref aS2, .ref aS3, .ref aS4, .ref aS5])), (aS1, .inl (cI, 100, .inl (aI (va_up h c nh)))), (aS2, .inl (cI, 100, .inl (aI (va_up f c nf)))), (aS3, .inl (cZ, 100, .inl (aB d))), (aS4, .inl (cI, 100, .inl (aI tp2_33))), (aS5, .inl (cI, 100, .inl w))] H := hP
  have hD : va_D A [(aS0, .inr (3, [.ref aS1, .ref aS2, .ref aS3, .ref aS4, .ref aS5])), (aS1, .inl (cI, 100, .inl (aI (va_up h c nh)))), (aS2, .inl (cI, 100, .inl (aI (va_up f c nf)))), (aS3, .inl (cZ, 100, .inl (aB d))), (aS4, .inl (cI, 100, .inl (aI tp2_33))), (aS5, .inl (cI, 100, .inl w))] := hD
  have hw : (ordOK (va_up h c nh) tp2_33) := hw
  have hord_33 := hw
  refine lv_iload (pc := 36) hx hb dX3_shape_36 (lv_at hl 0 rfl) ?_
  rw [← hQ]
  exact g_iret hx hb hr hlocks hS dX3_shape_38 tp2_33 (⟨rfl, by exact hord_33⟩) hP hD
set_option maxHeartbeats 4000000 in
set_option maxRecDepth 100000 in
theorem c_X3_lowerNeighbour (l : Launch) (D : va_G) (cI cZ : ClassId) (sz : Nat) (aS0 aS1 aS2 aS3 aS4 aS5 : Nat) (h : Nat → Nat) (f : Nat → Nat) (d : Nat → Bool) (tp : Nat → Nat) (w : Nat → Int32) (k : Nat) (hk : k < 100) (hh : ∀ i9, i9 < 100 → h i9 ≤ 30) : gMi l yX3_lowerNeighbour cX3_lowerNeighbour 7 .int D cI cZ sz [(aS0, .inr (3, [.ref aS1, .ref aS2, .ref aS3, .ref aS4, .ref aS5])), (aS1, .inl (cI, 100, .inl (aI h))), (aS2, .inl (cI, 100, .inl (aI f))), (aS3, .inl (cZ, 100, .inl (aB d))), (aS4, .inl (cI, 100, .inl (aI tp))), (aS5, .inl (cI, 100, .inl w))] [.ref aS0, .int (nI k)] ({ frames := 1, cells := 0, slots := 0, locals := 21 } : Room) (fun (r : Int32) (_ : Unit) => r = (oI (low h k))) (fun (_ : Unit) => [(aS0, .inr (3, [.ref aS1, .ref aS2, .ref aS3, .ref aS4, .ref aS5])), (aS1, .inl (cI, 100, .inl (aI h))), (aS2, .inl (cI, 100, .inl (aI f))), (aS3, .inl (cZ, 100, .inl (aB d))), (aS4, .inl (cI, 100, .inl (aI tp))), (aS5, .inl (cI, 100, .inl w))]) 0 0 := by
  refine gM_ofi (by decide +kernel) (Nat.le_of_ble_eq_true rfl) ?_
  intro pg ev s mi below meth co A hx hb hr hml hts hown hlocks hname hA hsz hAe hP hK hD hE hS ls hl
  have hl : lv_has ls 7 [(0, .ref aS0), (1, .int (nI k))] := hl
  generalize hQ : MQ below _ _ s _ _ A = Q
  refine lv_iconst (pc := 0) (v := -1) hx hb dX3_lowerNeighbour_0 (by decide) ?_
  refine lv_istore_n (pc := 1) (lv' := [(2, .int (-1)), (0, .ref aS0), (1, .int (nI k))]) hx hb dX3_lowerNeighbour_1 rfl hl (by decide) rfl (fun ls hl => ?_)
  refine lv_aload_n (pc := 2) hx hb dX3_lowerNeighbour_2 rfl (lv_at hl 1 rfl) ?_
  refine gf_X3_9 (pc := 3) hx hb hts hown hK hP 0 rfl rfl dX3_lowerNeighbour_3 ?_
  refine lv_iload_n (pc := 6) hx hb dX3_lowerNeighbour_6 rfl (lv_at hl 2 rfl) ?_
  refine g_iald (pc := 7) (v := nI (h k)) hx hb hK hP 1 0 rfl rfl dX3_lowerNeighbour_7 (by first | assumption | omega) (by decide) rfl ?_
  refine lv_istore_n (pc := 8) (lv' := [(3, .int (nI (h k))), (2, .int (-1)), (0, .ref aS0), (1, .int (nI k))]) hx hb dX3_lowerNeighbour_8 rfl hl (by decide) rfl (fun ls hl => ?_)
  have hl : lv_has ls 7 [(3, .int (nI (h k))), (2, .int (oI (lowS h k 0))), (0, .ref aS0), (1, .int (nI k))] := Eq.mp (congrArg (fun z9 : Int32 => lv_has ls 7 [(3, .int (nI (h k))), (2, .int z9), (0, .ref aS0), (1, .int (nI k))]) (show (-1) = (oI (lowS h k 0)) from rfl)) hl
  have hl : lv_has ls 7 [(3, .int (nI (lest h k (lowS h k 0)))), (2, .int (oI (lowS h k 0))), (0, .ref aS0), (1, .int (nI k))] := Eq.mp (congrArg (fun z9 : Int32 => lv_has ls 7 [(3, .int z9), (2, .int (oI (lowS h k 0))), (0, .ref aS0), (1, .int (nI k))]) (show nI (h k) = nI (lest h k (lowS h k 0)) from rfl)) hl
  refine lv_iconst (pc := 9) hx hb dX3_lowerNeighbour_9 gk_0 ?_
  refine lv_istore (pc := 10) (lv' := [(4, .int (nI 0)), (3, .int (nI (lest h k (lowS h k 0)))), (2, .int (oI (lowS h k 0))), (0, .ref aS0), (1, .int (nI k))]) hx hb dX3_lowerNeighbour_10 hl (by decide) rfl (fun ls hl => ?_)
  have lab_12 : ∀ (fuel : Nat) (sd : Nat), (4 - sd) < fuel → (sd ≤ 4) → ∀ (H : Heap) (locs : List Loc) (ls : Array Slot), va_P D vwCl [(aS0, .inr (3, [.ref aS1, .ref aS2, .ref aS3, .ref aS4, .ref aS5])), (aS1, .inl (cI, 100, .inl (aI h))), (aS2, .inl (cI, 100, .inl (aI f))), (aS3, .inl (cZ, 100, .inl (aB d))), (aS4, .inl (cI, 100, .inl (aI tp))), (aS5, .inl (cI, 100, .inl w))] H → va_D A [(aS0, .inr (3, [.ref aS1, .ref aS2, .ref aS3, .ref aS4, .ref aS5])), (aS1, .inl (cI, 100, .inl (aI h))), (aS2, .inl (cI, 100, .inl (aI f))), (aS3, .inl (cZ, 100, .inl (aB d))), (aS4, .inl (cI, 100, .inl (aI tp))), (aS5, .inl (cI, 100, .inl w))] → va_S A s.heap H locs → lv_has ls 7 [(0, .ref aS0), (1, .int (nI k)), (2, .int (oI (lowS h k sd))), (3, .int (nI (lest h k (lowS h k sd)))), (4, .int (nI sd))] → W pg l ev ({ frames := 1, cells := 0, slots := 0, locals := 21 } : Room) s mi [(.ref aS0 : Value), .int (nI k)].toArray below meth co H locs 0 0 Q (F0 mi 12 ls []) := by
    intro fuel
    induction fuel with
    | zero => intro sd hm; exact absurd hm (Nat.not_lt_zero _)
    | succ fuel ih_12 =>
      intro sd hm_12 hsd H locs ls hP hD hS hl
      refine lv_iload (pc := 12) hx hb dX3_lowerNeighbour_12 (lv_at hl 4 rfl) ?_
      refine lv_iconst (pc := 14) hx hb dX3_lowerNeighbour_14 gk_4 ?_
      refine g_icmp_geN (pc := 15) (tgt := 93) hx hb dX3_lowerNeighbour_15 (by decide) (by omega) (by omega) (fun c_15 => ?_) (fun c_15 => ?_)
      · refine lv_iload_n (pc := 93) hx hb dX3_lowerNeighbour_93 rfl (lv_at hl 2 rfl) ?_
        refine g_top (pc := 94) (w := .int (oI (low h k))) (by rw [show sd = 4 by omega]; rfl) ?_
        rw [← hQ]
        exact g_iret hx hb hr hlocks hS dX3_lowerNeighbour_94 () (rfl) hP hD
      · refine lv_iload_n (pc := 18) hx hb dX3_lowerNeighbour_18 rfl (lv_at hl 1 rfl) ?_
        refine lv_bipush (pc := 19) (v := nI 10) hx hb dX3_lowerNeighbour_19 (by decide) ?_
        refine g_irem (pc := 21) hx hb dX3_lowerNeighbour_21 (nI_ne0 (by omega) (by omega)) (pk_rem (by omega) (by omega) (by omega)) ?_
        obtain ⟨tx, hZtx, hTtx⟩ := hE.2.2.1
        refine va_gets (pc := 22) hx hb hZtx hS hown (hts _ (gm3 138 rfl rfl)) (fun _ h => h) dX3_lowerNeighbour_22 ?_
        refine lv_iload (pc := 25) hx hb dX3_lowerNeighbour_25 (lv_at hl 4 rfl) ?_
        refine va_ti (pc := 27) (v := .int (nxI sd)) hx hb hTtx hS (vp_in_nI (by first | assumption | omega) (by decide)) (by rw [nI_clamp (by omega)]; rfl) dX3_lowerNeighbour_27 ?_
        refine lv_iadd (pc := 28) hx hb dX3_lowerNeighbour_28 ?_
        refine lv_istore (pc := 29) (lv' := [(5, .int ((nI (k % 10)) + (nxI sd))), (0, .ref aS0), (1, .int (nI k)), (2, .int (oI (lowS h k sd))), (3, .int (nI (lest h k (lowS h k sd)))), (4, .int (nI sd))]) hx hb dX3_lowerNeighbour_29 hl (by decide) rfl (fun ls hl => ?_)
        refine lv_iload_n (pc := 31) hx hb dX3_lowerNeighbour_31 rfl (lv_at hl 2 rfl) ?_
        refine lv_bipush (pc := 32) (v := nI 10) hx hb dX3_lowerNeighbour_32 (by decide) ?_
        refine g_idiv (pc := 34) hx hb dX3_lowerNeighbour_34 (nI_ne0 (by omega) (by omega)) (pk_div (by omega) (by omega) (by omega)) ?_
        obtain ⟨ty, hZty, hTty⟩ := hE.2.2.2
        refine va_gets (pc := 35) hx hb hZty hS hown (hts _ (gm3 140 rfl rfl)) (fun _ h => h) dX3_lowerNeighbour_35 ?_
        refine lv_iload (pc := 38) hx hb dX3_lowerNeighbour_38 (lv_at hl 5 rfl) ?_
        refine va_ti (pc := 40) (v := .int (nyI sd)) hx hb hTty hS (vp_in_nI (by first | assumption | omega) (by decide)) (by rw [nI_clamp (by omega)]; rfl) dX3_lowerNeighbour_40 ?_
        refine lv_iadd (pc := 41) hx hb dX3_lowerNeighbour_41 ?_
        refine lv_istore (pc := 42) (lv' := [(6, .int ((nI (k / 10)) + (nyI sd))), (5, .int ((nI (k % 10)) + (nxI sd))), (0, .ref aS0), (1, .int (nI k)), (2, .int (oI (lowS h k sd))), (3, .int (nI (lest h k (lowS h k sd)))), (4, .int (nI sd))]) hx hb dX3_lowerNeighbour_42 hl (by decide) rfl (fun ls hl => ?_)
        refine lv_iload (pc := 44) hx hb dX3_lowerNeighbour_44 (lv_at hl 1 rfl) ?_
        refine lv_iload (pc := 46) hx hb dX3_lowerNeighbour_46 (lv_at hl 0 rfl) ?_
        refine g_nsi (pc := 48) (As := [.int ((nI (k % 10)) + (nxI sd)), .int ((nI (k / 10)) + (nyI sd))]) (rest := []) (wc := []) (wr := [(aS0, .inr (3, [.ref aS1, .ref aS2, .ref aS3, .ref aS4, .ref aS5])), (aS1, .inl (cI, 100, .inl (aI h))), (aS2, .inl (cI, 100, .inl (aI f))), (aS3, .inl (cZ, 100, .inl (aB d))), (aS4, .inl (cI, 100, .inl (aI tp))), (aS5, .inl (cI, 100, .inl w))]) lk_X3_49 hx hb hml hts hown hE hA hK hP hD hS hl (c_X6_isOnSlope l D cI cZ _ ((nI (k % 10)) + (nxI sd)) ((nI (k / 10)) + (nyI sd))) dX3_lowerNeighbour_48 [] [0, 1, 2, 3, 4, 5] rfl rfl (by decide) (by decide) (by decide) rfl rfl ⟨rfl, rfl, Nat.le_of_ble_eq_true rfl, Nat.le_of_ble_eq_true rfl, Nat.le_refl _, Nat.le_refl _⟩ (Nat.le_of_ble_eq_true rfl) (fun r u H locs hw hP hD hS => ?_)
        have hP : va_P D vwCl [(aS0, .inr (3, [.ref aS1, .ref aS2, .ref aS3, .ref aS4, .ref aS5])), (aS1, .inl (cI, 100, .inl (aI h))), (aS2, .inl (cI, 100, .inl (aI f))), (aS3, .inl (cZ, 100, .inl (aB d))), (aS4, .inl (cI, 100, .inl (aI tp))), (aS5, .inl (cI, 100, .inl w))] H := hP
        have hD : va_D A [(aS0, .inr (3, [.ref aS1, .ref aS2, .ref aS3, .ref aS4, .ref aS5])), (aS1, .inl (cI, 100, .inl (aI h))), (aS2, .inl (cI, 100, .inl (aI f))), (aS3, .inl (cZ, 100, .inl (aB d))), (aS4, .inl (cI, 100, .inl (aI tp))), (aS5, .inl (cI, 100, .inl w))] := hD
        have hw : r = bI (isT ((nI (k % 10)) + (nxI sd)) && isT ((nI (k / 10)) + (nyI sd))) := hw
        obtain rfl := hw
        refine g_top (pc := 51) (w := .int (bI ((nbr k sd).isSome))) (congrArg Value.int (congrArg bI (nb_on k hk sd c_15))) ?_
        refine g_if_eqB (pc := 51) (tgt := 87) hx hb dX3_lowerNeighbour_51 (by decide) (fun c_51 => ?_) (fun c_51 => ?_)
        · have hn : nbr k sd = none := by cases hq : nbr k sd with | none => rfl | some b => rw [hq] at c_51; cases c_51
          have hst : lowS h k (sd + 1) = lowS h k sd := by show lstep h k (lowS h k sd) sd = _; unfold lstep; rw [hn]
          have hl : lv_has ls 7 [(6, .int ((nI (k / 10)) + (nyI sd))), (5, .int ((nI (k % 10)) + (nxI sd))), (0, .ref aS0), (1, .int (nI k)), (2, .int (oI (lowS h k (sd + 1)))), (3, .int (nI (lest h k (lowS h k sd)))), (4, .int (nI sd))] := Eq.mp (congrArg (fun z9 : Int32 => lv_has ls 7 [(6, .int ((nI (k / 10)) + (nyI sd))), (5, .int ((nI (k % 10)) + (nxI sd))), (0, .ref aS0), (1, .int (nI k)), (2, .int z9), (3, .int (nI (lest h k (lowS h k sd)))), (4, .int (nI sd))]) (show (oI (lowS h k sd)) = (oI (lowS h k (sd + 1))) from by first | (rw [hst]; done) | (rw [hst]; rfl))) hl
          have hl : lv_has ls 7 [(6, .int ((nI (k / 10)) + (nyI sd))), (5, .int ((nI (k % 10)) + (nxI sd))), (0, .ref aS0), (1, .int (nI k)), (2, .int (oI (lowS h k (sd + 1)))), (3, .int (nI (lest h k (lowS h k (sd + 1))))), (4, .int (nI sd))] := Eq.mp (congrArg (fun z9 : Int32 => lv_has ls 7 [(6, .int ((nI (k / 10)) + (nyI sd))), (5, .int ((nI (k % 10)) + (nxI sd))), (0, .ref aS0), (1, .int (nI k)), (2, .int (oI (lowS h k (sd + 1)))), (3, .int z9), (4, .int (nI sd))]) (show nI (lest h k (lowS h k sd)) = nI (lest h k (lowS h k (sd + 1))) from by first | (rw [hst]; done) | (rw [hst]; rfl))) hl
          refine lv_iinc (pc := 87) (v := nI (sd + 1)) (lv' := [(4, .int (nI (sd + 1))), (6, .int ((nI (k / 10)) + (nyI sd))), (5, .int ((nI (k % 10)) + (nxI sd))), (0, .ref aS0), (1, .int (nI k)), (2, .int (oI (lowS h k (sd + 1)))), (3, .int (nI (lest h k (lowS h k (sd + 1)))))]) hx hb dX3_lowerNeighbour_87 hl (k := 6) rfl (gi_1 _) (by decide) rfl (fun ls hl => ?_)
          refine lv_goto (pc := 90) (tgt := 12) hx hb dX3_lowerNeighbour_90 (by decide) ?_
          exact ih_12 (sd + 1) (by omega) (show (sd + 1) ≤ 4 from by first | assumption | omega) _ _ _ hP hD hS (lv_sub hl [3, 4, 5, 6, 0] rfl)
        · obtain ⟨b, hn⟩ := Option.isSome_iff_exists.mp c_51
          have hb9 := nbr_lt hk hn
          have hli : lest h k (lowS h k sd) ≤ 30 := by
            unfold lest
            cases hq : lowS h k sd with
            | none => exact hh k hk
            | some a => exact hh a (lowS_lt hk sd hq)
          have hhb := hh b hb9
          refine lv_aload_n (pc := 54) hx hb dX3_lowerNeighbour_54 rfl (lv_at hl 2 rfl) ?_
          refine gf_X3_9 (pc := 55) hx hb hts hown hK hP 0 rfl rfl dX3_lowerNeighbour_55 ?_
          refine lv_bipush (pc := 58) (v := nI 10) hx hb dX3_lowerNeighbour_58 (by decide) ?_
          refine lv_iload (pc := 60) hx hb dX3_lowerNeighbour_60 (lv_at hl 0 rfl) ?_
          refine lv_imul (pc := 62) hx hb dX3_lowerNeighbour_62 ?_
          refine lv_iload (pc := 63) hx hb dX3_lowerNeighbour_63 (lv_at hl 1 rfl) ?_
          refine lv_iadd (pc := 65) hx hb dX3_lowerNeighbour_65 ?_
          refine g_top (pc := 66) (w := .int (nI b)) (congrArg Value.int (nb_i hk c_15 hn)) ?_
          refine g_iald (pc := 66) (v := nI (h b)) hx hb hK hP 1 0 rfl rfl dX3_lowerNeighbour_66 (by first | assumption | omega) (by decide) rfl ?_
          refine lv_iload_n (pc := 67) hx hb dX3_lowerNeighbour_67 rfl (lv_at hl 5 rfl) ?_
          refine g_icmp_geN (pc := 68) (tgt := 87) hx hb dX3_lowerNeighbour_68 (by decide) (by omega) (by omega) (fun c_68 => ?_) (fun c_68 => ?_)
          · have hst : lowS h k (sd + 1) = lowS h k sd := by show lstep h k (lowS h k sd) sd = _; unfold lstep; rw [hn]; exact if_neg (by omega)
            have hl : lv_has ls 7 [(6, .int ((nI (k / 10)) + (nyI sd))), (5, .int ((nI (k % 10)) + (nxI sd))), (0, .ref aS0), (1, .int (nI k)), (2, .int (oI (lowS h k (sd + 1)))), (3, .int (nI (lest h k (lowS h k sd)))), (4, .int (nI sd))] := Eq.mp (congrArg (fun z9 : Int32 => lv_has ls 7 [(6, .int ((nI (k / 10)) + (nyI sd))), (5, .int ((nI (k % 10)) + (nxI sd))), (0, .ref aS0), (1, .int (nI k)), (2, .int z9), (3, .int (nI (lest h k (lowS h k sd)))), (4, .int (nI sd))]) (show (oI (lowS h k sd)) = (oI (lowS h k (sd + 1))) from by first | (rw [hst]; done) | (rw [hst]; rfl))) hl
            have hl : lv_has ls 7 [(6, .int ((nI (k / 10)) + (nyI sd))), (5, .int ((nI (k % 10)) + (nxI sd))), (0, .ref aS0), (1, .int (nI k)), (2, .int (oI (lowS h k (sd + 1)))), (3, .int (nI (lest h k (lowS h k (sd + 1))))), (4, .int (nI sd))] := Eq.mp (congrArg (fun z9 : Int32 => lv_has ls 7 [(6, .int ((nI (k / 10)) + (nyI sd))), (5, .int ((nI (k % 10)) + (nxI sd))), (0, .ref aS0), (1, .int (nI k)), (2, .int (oI (lowS h k (sd + 1)))), (3, .int z9), (4, .int (nI sd))]) (show nI (lest h k (lowS h k sd)) = nI (lest h k (lowS h k (sd + 1))) from by first | (rw [hst]; done) | (rw [hst]; rfl))) hl
            refine lv_iinc (pc := 87) (v := nI (sd + 1)) (lv' := [(4, .int (nI (sd + 1))), (6, .int ((nI (k / 10)) + (nyI sd))), (5, .int ((nI (k % 10)) + (nxI sd))), (0, .ref aS0), (1, .int (nI k)), (2, .int (oI (lowS h k (sd + 1)))), (3, .int (nI (lest h k (lowS h k (sd + 1)))))]) hx hb dX3_lowerNeighbour_87 hl (k := 6) rfl (gi_1 _) (by decide) rfl (fun ls hl => ?_)
            refine lv_goto (pc := 90) (tgt := 12) hx hb dX3_lowerNeighbour_90 (by decide) ?_
            exact ih_12 (sd + 1) (by omega) (show (sd + 1) ≤ 4 from by first | assumption | omega) _ _ _ hP hD hS (lv_sub hl [3, 4, 5, 6, 0] rfl)
          · have hst : lowS h k (sd + 1) = some b := by show lstep h k (lowS h k sd) sd = _; unfold lstep; rw [hn]; exact if_pos c_68
            refine lv_bipush (pc := 71) (v := nI 10) hx hb dX3_lowerNeighbour_71 (by decide) ?_
            refine lv_iload (pc := 73) hx hb dX3_lowerNeighbour_73 (lv_at hl 0 rfl) ?_
            refine lv_imul (pc := 75) hx hb dX3_lowerNeighbour_75 ?_
            refine lv_iload (pc := 76) hx hb dX3_lowerNeighbour_76 (lv_at hl 1 rfl) ?_
            refine lv_iadd (pc := 78) hx hb dX3_lowerNeighbour_78 ?_
            refine g_top (pc := 79) (w := .int (nI b)) (congrArg Value.int (nb_i hk c_15 hn)) ?_
            refine lv_istore_n (pc := 79) (lv' := [(2, .int (nI b)), (6, .int ((nI (k / 10)) + (nyI sd))), (5, .int ((nI (k % 10)) + (nxI sd))), (0, .ref aS0), (1, .int (nI k)), (3, .int (nI (lest h k (lowS h k sd)))), (4, .int (nI sd))]) hx hb dX3_lowerNeighbour_79 rfl hl (by decide) rfl (fun ls hl => ?_)
            refine lv_aload_n (pc := 80) hx hb dX3_lowerNeighbour_80 rfl (lv_at hl 3 rfl) ?_
            refine gf_X3_9 (pc := 81) hx hb hts hown hK hP 0 rfl rfl dX3_lowerNeighbour_81 ?_
            refine lv_iload_n (pc := 84) hx hb dX3_lowerNeighbour_84 rfl (lv_at hl 0 rfl) ?_
            refine g_iald (pc := 85) (v := nI (h b)) hx hb hK hP 1 0 rfl rfl dX3_lowerNeighbour_85 (by first | assumption | omega) (by decide) rfl ?_
            refine lv_istore_n (pc := 86) (lv' := [(3, .int (nI (h b))), (2, .int (nI b)), (6, .int ((nI (k / 10)) + (nyI sd))), (5, .int ((nI (k % 10)) + (nxI sd))), (0, .ref aS0), (1, .int (nI k)), (4, .int (nI sd))]) hx hb dX3_lowerNeighbour_86 rfl hl (by decide) rfl (fun ls hl => ?_)
            have hl : lv_has ls 7 [(3, .int (nI (h b))), (2, .int (oI (lowS h k (sd + 1)))), (6, .int ((nI (k / 10)) + (nyI sd))), (5, .int ((nI (k % 10)) + (nxI sd))), (0, .ref aS0), (1, .int (nI k)), (4, .int (nI sd))] := Eq.mp (congrArg (fun z9 : Int32 => lv_has ls 7 [(3, .int (nI (h b))), (2, .int z9), (6, .int ((nI (k / 10)) + (nyI sd))), (5, .int ((nI (k % 10)) + (nxI sd))), (0, .ref aS0), (1, .int (nI k)), (4, .int (nI sd))]) (show nI b = (oI (lowS h k (sd + 1))) from by first | (rw [hst]; done) | (rw [hst]; rfl))) hl
            have hl : lv_has ls 7 [(3, .int (nI (lest h k (lowS h k (sd + 1))))), (2, .int (oI (lowS h k (sd + 1)))), (6, .int ((nI (k / 10)) + (nyI sd))), (5, .int ((nI (k % 10)) + (nxI sd))), (0, .ref aS0), (1, .int (nI k)), (4, .int (nI sd))] := Eq.mp (congrArg (fun z9 : Int32 => lv_has ls 7 [(3, .int z9), (2, .int (oI (lowS h k (sd + 1)))), (6, .int ((nI (k / 10)) + (nyI sd))), (5, .int ((nI (k % 10)) + (nxI sd))), (0, .ref aS0), (1, .int (nI k)), (4, .int (nI sd))]) (show nI (h b) = nI (lest h k (lowS h k (sd + 1))) from by first | (rw [hst]; done) | (rw [hst]; rfl))) hl
            refine lv_iinc (pc := 87) (v := nI (sd + 1)) (lv' := [(4, .int (nI (sd + 1))), (3, .int (nI (lest h k (lowS h k (sd + 1))))), (2, .int (oI (lowS h k (sd + 1)))), (6, .int ((nI (k / 10)) + (nyI sd))), (5, .int ((nI (k % 10)) + (nxI sd))), (0, .ref aS0), (1, .int (nI k))]) hx hb dX3_lowerNeighbour_87 hl (k := 6) rfl (gi_1 _) (by decide) rfl (fun ls hl => ?_)
            refine lv_goto (pc := 90) (tgt := 12) hx hb dX3_lowerNeighbour_90 (by decide) ?_
            exact ih_12 (sd + 1) (by omega) (show (sd + 1) ≤ 4 from by first | assumption | omega) _ _ _ hP hD hS (lv_sub hl [5, 6, 2, 1, 0] rfl)
  exact lab_12 (4 - 0 + 1) 0 (Nat.lt_succ_self _) (show 0 ≤ 4 from by first | assumption | omega) _ _ _ hP hD hS (lv_sub hl [3, 4, 2, 1, 0] rfl)
set_option maxHeartbeats 4000000 in
set_option maxRecDepth 100000 in
theorem c_X3_runOn (l : Launch) (D : va_G) (cI cZ : ClassId) (sz : Nat) (aS0 aS1 aS2 aS3 aS4 aS5 : Nat) (h : Nat → Nat) (f : Nat → Nat) (d : Nat → Bool) (tp : Nat → Nat) (w : Nat → Int32) (k : Nat) (hk : k < 100) (hh : ∀ i9, i9 < 100 → h i9 ≤ 30) : gMv l yX3_runOn cX3_runOn 3 D cI cZ sz [(aS0, .inr (3, [.ref aS1, .ref aS2, .ref aS3, .ref aS4, .ref aS5])), (aS1, .inl (cI, 100, .inl (aI h))), (aS2, .inl (cI, 100, .inl (aI f))), (aS3, .inl (cZ, 100, .inl (aB d))), (aS4, .inl (cI, 100, .inl (aI tp))), (aS5, .inl (cI, 100, .inl w))] [.ref aS0, .int (nI k)] ({ frames := 2, cells := 0, slots := 0, locals := 47 } : Room) (fun (_ : Unit) => True) (fun (_ : Unit) => [(aS0, .inr (3, [.ref aS1, .ref aS2, .ref aS3, .ref aS4, .ref aS5])), (aS1, .inl (cI, 100, .inl (aI h))), (aS2, .inl (cI, 100, .inl (aI f))), (aS3, .inl (cZ, 100, .inl (aB d))), (aS4, .inl (cI, 100, .inl (aI tp))), (aS5, .inl (cI, 100, .inl (runf h d w k)))]) 0 0 := by
  refine gM_ofv (by decide +kernel) (Nat.le_of_ble_eq_true rfl) ?_
  intro pg ev s mi below meth co A hx hb hr hml hts hown hlocks hname hA hsz hAe hP hK hD hE hS ls hl
  have hl : lv_has ls 3 [(0, .ref aS0), (1, .int (nI k))] := hl
  generalize hQ : MQ below _ _ s _ _ A = Q
  refine lv_iload_n (pc := 0) hx hb dX3_runOn_0 rfl (lv_at hl 1 rfl) ?_
  refine g_nsi (pc := 1) (As := [.int (nI k)]) (rest := []) (wc := []) (wr := [(aS0, .inr (3, [.ref aS1, .ref aS2, .ref aS3, .ref aS4, .ref aS5])), (aS1, .inl (cI, 100, .inl (aI h))), (aS2, .inl (cI, 100, .inl (aI f))), (aS3, .inl (cZ, 100, .inl (aB d))), (aS4, .inl (cI, 100, .inl (aI tp))), (aS5, .inl (cI, 100, .inl w))]) lk_X3_35 hx hb hml hts hown hE hA hK hP hD hS hl (c_X6_isCell l D cI cZ _ (nI k)) dX3_runOn_1 [] [0, 1, 2, 3, 4, 5] rfl rfl (by decide) (by decide) (by decide) rfl rfl ⟨rfl, rfl, Nat.le_of_ble_eq_true rfl, Nat.le_of_ble_eq_true rfl, Nat.le_refl _, Nat.le_refl _⟩ (Nat.le_of_ble_eq_true rfl) (fun r u H locs hw hP hD hS => ?_)
  have hP : va_P D vwCl [(aS0, .inr (3, [.ref aS1, .ref aS2, .ref aS3, .ref aS4, .ref aS5])), (aS1, .inl (cI, 100, .inl (aI h))), (aS2, .inl (cI, 100, .inl (aI f))), (aS3, .inl (cZ, 100, .inl (aB d))), (aS4, .inl (cI, 100, .inl (aI tp))), (aS5, .inl (cI, 100, .inl w))] H := hP
  have hD : va_D A [(aS0, .inr (3, [.ref aS1, .ref aS2, .ref aS3, .ref aS4, .ref aS5])), (aS1, .inl (cI, 100, .inl (aI h))), (aS2, .inl (cI, 100, .inl (aI f))), (aS3, .inl (cZ, 100, .inl (aB d))), (aS4, .inl (cI, 100, .inl (aI tp))), (aS5, .inl (cI, 100, .inl w))] := hD
  have hw : r = bI (isC (nI k)) := hw
  obtain rfl := hw
  refine g_top (pc := 4) (w := .int (bI true)) (congrArg Value.int (congrArg bI (isC_nI hk))) ?_
  refine g_if_eqB (pc := 4) (tgt := 16) hx hb dX3_runOn_4 (by decide) (fun c_4 => ?_) (fun c_4 => ?_)
  · cases c_4
  · refine lv_aload_n (pc := 7) hx hb dX3_runOn_7 rfl (lv_at hl 0 rfl) ?_
    refine gf_X3_18 (pc := 8) hx hb hts hown hK hP 0 rfl rfl dX3_runOn_8 ?_
    refine lv_iload_n (pc := 11) hx hb dX3_runOn_11 rfl (lv_at hl 1 rfl) ?_
    refine g_zald (pc := 12) (v := bI (d k)) hx hb hK hP 3 1 rfl rfl dX3_runOn_12 (by first | assumption | omega) (by decide) rfl ?_
    refine g_if_eqB (pc := 13) (tgt := 17) hx hb dX3_runOn_13 (by decide) (fun c_13 => ?_) (fun c_13 => ?_)
    · refine lv_aload_n (pc := 17) hx hb dX3_runOn_17 rfl (lv_at hl 0 rfl) ?_
      refine lv_iload_n (pc := 18) hx hb dX3_runOn_18 rfl (lv_at hl 1 rfl) ?_
      refine g_vi (pc := 19) (As := [.int (nI k)]) (rest := []) (wc := [(aS0, .inr (3, [.ref aS1, .ref aS2, .ref aS3, .ref aS4, .ref aS5])), (aS1, .inl (cI, 100, .inl (aI h))), (aS2, .inl (cI, 100, .inl (aI f))), (aS3, .inl (cZ, 100, .inl (aB d))), (aS4, .inl (cI, 100, .inl (aI tp))), (aS5, .inl (cI, 100, .inl w))]) (wr := []) lk_X3_39 hx hb hml hts hown hE hA hK hP hD hS hl (c_X3_lowerNeighbour l D cI cZ _ aS0 aS1 aS2 aS3 aS4 aS5 h f d tp w k (show k < 100 from by first | assumption | omega) (show ∀ i9, i9 < 100 → h i9 ≤ 30 from by first | assumption | omega)) rfl rfl dX3_runOn_19 [0, 1, 2, 3, 4, 5] [] rfl rfl (by decide) (by decide) (by decide) rfl rfl ⟨rfl, rfl, Nat.le_of_ble_eq_true rfl, Nat.le_of_ble_eq_true rfl, Nat.le_refl _, Nat.le_refl _⟩ (Nat.le_of_ble_eq_true rfl) (fun r u H locs hw hP hD hS => ?_)
      have hP : va_P D vwCl [(aS0, .inr (3, [.ref aS1, .ref aS2, .ref aS3, .ref aS4, .ref aS5])), (aS1, .inl (cI, 100, .inl (aI h))), (aS2, .inl (cI, 100, .inl (aI f))), (aS3, .inl (cZ, 100, .inl (aB d))), (aS4, .inl (cI, 100, .inl (aI tp))), (aS5, .inl (cI, 100, .inl w))] H := hP
      have hD : va_D A [(aS0, .inr (3, [.ref aS1, .ref aS2, .ref aS3, .ref aS4, .ref aS5])), (aS1, .inl (cI, 100, .inl (aI h))), (aS2, .inl (cI, 100, .inl (aI f))), (aS3, .inl (cZ, 100, .inl (aB d))), (aS4, .inl (cI, 100, .inl (aI tp))), (aS5, .inl (cI, 100, .inl w))] := hD
      have hw : r = (oI (low h k)) := hw
      obtain rfl := hw
      rcases ho : low h k with _ | b
      · refine g_top (w := .int (-1)) rfl ?_
        refine lv_istore_n (pc := 22) (lv' := [(2, .int (-1)), (0, .ref aS0), (1, .int (nI k))]) hx hb dX3_runOn_22 rfl hl (by decide) rfl (fun ls hl => ?_)
        refine lv_iload_n (pc := 23) hx hb dX3_runOn_23 rfl (lv_at hl 0 rfl) ?_
        refine g_nsi (pc := 24) (As := [.int (-1)]) (rest := []) (wc := []) (wr := [(aS0, .inr (3, [.ref aS1, .ref aS2, .ref aS3, .ref aS4, .ref aS5])), (aS1, .inl (cI, 100, .inl (aI h))), (aS2, .inl (cI, 100, .inl (aI f))), (aS3, .inl (cZ, 100, .inl (aB d))), (aS4, .inl (cI, 100, .inl (aI tp))), (aS5, .inl (cI, 100, .inl w))]) lk_X3_35 hx hb hml hts hown hE hA hK hP hD hS hl (c_X6_isCell l D cI cZ _ (-1)) dX3_runOn_24 [] [0, 1, 2, 3, 4, 5] rfl rfl (by decide) (by decide) (by decide) rfl rfl ⟨rfl, rfl, Nat.le_of_ble_eq_true rfl, Nat.le_of_ble_eq_true rfl, Nat.le_refl _, Nat.le_refl _⟩ (Nat.le_of_ble_eq_true rfl) (fun r u H locs hw hP hD hS => ?_)
        have hP : va_P D vwCl [(aS0, .inr (3, [.ref aS1, .ref aS2, .ref aS3, .ref aS4, .ref aS5])), (aS1, .inl (cI, 100, .inl (aI h))), (aS2, .inl (cI, 100, .inl (aI f))), (aS3, .inl (cZ, 100, .inl (aB d))), (aS4, .inl (cI, 100, .inl (aI tp))), (aS5, .inl (cI, 100, .inl w))] H := hP
        have hD : va_D A [(aS0, .inr (3, [.ref aS1, .ref aS2, .ref aS3, .ref aS4, .ref aS5])), (aS1, .inl (cI, 100, .inl (aI h))), (aS2, .inl (cI, 100, .inl (aI f))), (aS3, .inl (cZ, 100, .inl (aB d))), (aS4, .inl (cI, 100, .inl (aI tp))), (aS5, .inl (cI, 100, .inl w))] := hD
        have hw : r = bI (isC (-1)) := hw
        obtain rfl := hw
        refine g_top (pc := 27) (w := .int (bI false)) (congrArg Value.int (congrArg bI isC_m1)) ?_
        refine g_if_eqB (pc := 27) (tgt := 45) hx hb dX3_runOn_27 (by decide) (fun c_27 => ?_) (fun c_27 => ?_)
        · have hw_45 : w = (runf h d w k) := by unfold runf; rw [if_neg (by rw [c_13]; decide), ho] <;> rfl
          rw [hw_45] at hP hD
          rw [← hQ]
          exact g_vret hx hb hr hlocks hS dX3_runOn_45 () (trivial) hP hD
        · cases c_27
      · refine g_top (w := .int (nI b)) rfl ?_
        have hb9 : b < 100 := lowS_lt hk 4 ho
        refine lv_istore_n (pc := 22) (lv' := [(2, .int (nI b)), (0, .ref aS0), (1, .int (nI k))]) hx hb dX3_runOn_22 rfl hl (by decide) rfl (fun ls hl => ?_)
        refine lv_iload_n (pc := 23) hx hb dX3_runOn_23 rfl (lv_at hl 0 rfl) ?_
        refine g_nsi (pc := 24) (As := [.int (nI b)]) (rest := []) (wc := []) (wr := [(aS0, .inr (3, [.ref aS1, .ref aS2, .ref aS3, .ref aS4, .ref aS5])), (aS1, .inl (cI, 100, .inl (aI h))), (aS2, .inl (cI, 100, .inl (aI f))), (aS3, .inl (cZ, 100, .inl (aB d))), (aS4, .inl (cI, 100, .inl (aI tp))), (aS5, .inl (cI, 100, .inl w))]) lk_X3_35 hx hb hml hts hown hE hA hK hP hD hS hl (c_X6_isCell l D cI cZ _ (nI b)) dX3_runOn_24 [] [0, 1, 2, 3, 4, 5] rfl rfl (by decide) (by decide) (by decide) rfl rfl ⟨rfl, rfl, Nat.le_of_ble_eq_true rfl, Nat.le_of_ble_eq_true rfl, Nat.le_refl _, Nat.le_refl _⟩ (Nat.le_of_ble_eq_true rfl) (fun r u H locs hw hP hD hS => ?_)
        have hP : va_P D vwCl [(aS0, .inr (3, [.ref aS1, .ref aS2, .ref aS3, .ref aS4, .ref aS5])), (aS1, .inl (cI, 100, .inl (aI h))), (aS2, .inl (cI, 100, .inl (aI f))), (aS3, .inl (cZ, 100, .inl (aB d))), (aS4, .inl (cI, 100, .inl (aI tp))), (aS5, .inl (cI, 100, .inl w))] H := hP
        have hD : va_D A [(aS0, .inr (3, [.ref aS1, .ref aS2, .ref aS3, .ref aS4, .ref aS5])), (aS1, .inl (cI, 100, .inl (aI h))), (aS2, .inl (cI, 100, .inl (aI f))), (aS3, .inl (cZ, 100, .inl (aB d))), (aS4, .inl (cI, 100, .inl (aI tp))), (aS5, .inl (cI, 100, .inl w))] := hD
        have hw : r = bI (isC (nI b)) := hw
        obtain rfl := hw
        refine g_top (pc := 27) (w := .int (bI true)) (congrArg Value.int (congrArg bI (isC_nI hb9))) ?_
        refine g_if_eqB (pc := 27) (tgt := 45) hx hb dX3_runOn_27 (by decide) (fun c_27 => ?_) (fun c_27 => ?_)
        · cases c_27
        · refine lv_aload_n (pc := 30) hx hb dX3_runOn_30 rfl (lv_at hl 1 rfl) ?_
          refine gf_X3_25 (pc := 31) hx hb hts hown hK hP 0 rfl rfl dX3_runOn_31 ?_
          refine lv_iload_n (pc := 34) hx hb dX3_runOn_34 rfl (lv_at hl 0 rfl) ?_
          refine lv_dup2_11 (pc := 35) hx hb dX3_runOn_35 rfl rfl ?_
          refine g_iald (pc := 36) (v := (w b)) hx hb hK hP 5 0 rfl rfl dX3_runOn_36 (by first | assumption | omega) (by decide) rfl ?_
          refine lv_aload_n (pc := 37) hx hb dX3_runOn_37 rfl (lv_at hl 1 rfl) ?_
          refine gf_X3_25 (pc := 38) hx hb hts hown hK hP 0 rfl rfl dX3_runOn_38 ?_
          refine lv_iload_n (pc := 41) hx hb dX3_runOn_41 rfl (lv_at hl 2 rfl) ?_
          refine g_iald (pc := 42) (v := (w k)) hx hb hK hP 5 0 rfl rfl dX3_runOn_42 (by first | assumption | omega) (by decide) rfl ?_
          refine lv_iadd (pc := 43) hx hb dX3_runOn_43 ?_
          refine g_iast (pc := 44) (g := (upd w b ((w b) + (w k)))) (w2 := [(aS0, .inr (3, [.ref aS1, .ref aS2, .ref aS3, .ref aS4, .ref aS5])), (aS1, .inl (cI, 100, .inl (aI h))), (aS2, .inl (cI, 100, .inl (aI f))), (aS3, .inl (cZ, 100, .inl (aB d))), (aS4, .inl (cI, 100, .inl (aI tp))), (aS5, .inl (cI, 100, .inl (upd w b ((w b) + (w k)))))]) hx hb hK hP hD hS 5 0 rfl rfl dX3_runOn_44 rfl (by first | assumption | omega) (by decide) (rfl) (fun H locs hP hD hS => ?_)
          have hw_45 : (upd w b ((w b) + (w k))) = (runf h d w k) := by unfold runf; rw [if_neg (by rw [c_13]; decide), ho] <;> rfl
          rw [hw_45] at hP hD
          rw [← hQ]
          exact g_vret hx hb hr hlocks hS dX3_runOn_45 () (trivial) hP hD
    · have hw_16 : w = (runf h d w k) := by unfold runf; rw [if_pos c_13]
      rw [hw_16] at hP hD
      rw [← hQ]
      exact g_vret hx hb hr hlocks hS dX3_runOn_16 () (trivial) hP hD
set_option maxHeartbeats 4000000 in
set_option maxRecDepth 100000 in
theorem c_X3_letRunOff (l : Launch) (D : va_G) (cI cZ : ClassId) (sz : Nat) (aS0 aS1 aS2 aS3 aS4 aS5 : Nat) (h : Nat → Nat) (f : Nat → Nat) (d : Nat → Bool) (tp : Nat → Nat) (w : Nat → Int32) (x : Int32) (hh : ∀ i9, i9 < 100 → h i9 ≤ 30) (htp : ∀ i9, i9 < 100 → tp i9 < 100) : gMv l yX3_letRunOff cX3_letRunOff 3 D cI cZ sz [(aS0, .inr (3, [.ref aS1, .ref aS2, .ref aS3, .ref aS4, .ref aS5])), (aS1, .inl (cI, 100, .inl (aI h))), (aS2, .inl (cI, 100, .inl (aI f))), (aS3, .inl (cZ, 100, .inl (aB d))), (aS4, .inl (cI, 100, .inl (aI tp))), (aS5, .inl (cI, 100, .inl w))] [.ref aS0, .int x] ({ frames := 3, cells := 0, slots := 0, locals := 69 } : Room) (fun (u : (Nat → Int32)) => (∀ j, j < 100 → u j = wat h d tp x 100 j)) (fun (u : (Nat → Int32)) => [(aS0, .inr (3, [.ref aS1, .ref aS2, .ref aS3, .ref aS4, .ref aS5])), (aS1, .inl (cI, 100, .inl (aI h))), (aS2, .inl (cI, 100, .inl (aI f))), (aS3, .inl (cZ, 100, .inl (aB d))), (aS4, .inl (cI, 100, .inl (aI tp))), (aS5, .inl (cI, 100, .inl u))]) 0 0 := by
  refine gM_ofv (by decide +kernel) (Nat.le_of_ble_eq_true rfl) ?_
  intro pg ev s mi below meth co A hx hb hr hml hts hown hlocks hname hA hsz hAe hP hK hD hE hS ls hl
  have hl : lv_has ls 3 [(0, .ref aS0), (1, .int x)] := hl
  generalize hQ : MQ below _ _ s _ _ A = Q
  refine lv_iconst (pc := 0) hx hb dX3_letRunOff_0 gk_0 ?_
  refine lv_istore_n (pc := 1) (lv' := [(2, .int (nI 0)), (0, .ref aS0), (1, .int x)]) hx hb dX3_letRunOff_1 rfl hl (by decide) rfl (fun ls hl => ?_)
  have lab_2 : ∀ (fuel : Nat) (i : Nat) (g : Nat → Int32), (100 - i) < fuel → (i ≤ 100) → (∀ j, j < i → g j = x) → ∀ (H : Heap) (locs : List Loc) (ls : Array Slot), va_P D vwCl [(aS0, .inr (3, [.ref aS1, .ref aS2, .ref aS3, .ref aS4, .ref aS5])), (aS1, .inl (cI, 100, .inl (aI h))), (aS2, .inl (cI, 100, .inl (aI f))), (aS3, .inl (cZ, 100, .inl (aB d))), (aS4, .inl (cI, 100, .inl (aI tp))), (aS5, .inl (cI, 100, .inl g))] H → va_D A [(aS0, .inr (3, [.ref aS1, .ref aS2, .ref aS3, .ref aS4, .ref aS5])), (aS1, .inl (cI, 100, .inl (aI h))), (aS2, .inl (cI, 100, .inl (aI f))), (aS3, .inl (cZ, 100, .inl (aB d))), (aS4, .inl (cI, 100, .inl (aI tp))), (aS5, .inl (cI, 100, .inl g))] → va_S A s.heap H locs → lv_has ls 3 [(0, .ref aS0), (1, .int x), (2, .int (nI i))] → W pg l ev ({ frames := 3, cells := 0, slots := 0, locals := 69 } : Room) s mi [(.ref aS0 : Value), .int x].toArray below meth co H locs 0 0 Q (F0 mi 2 ls []) := by
    intro fuel
    induction fuel with
    | zero => intro i g hm; exact absurd hm (Nat.not_lt_zero _)
    | succ fuel ih_2 =>
      intro i g hm_2 hi hg H locs ls hP hD hS hl
      refine lv_iload_n (pc := 2) hx hb dX3_letRunOff_2 rfl (lv_at hl 2 rfl) ?_
      refine lv_bipush (pc := 3) (v := nI 100) hx hb dX3_letRunOff_3 (by decide) ?_
      refine g_icmp_geN (pc := 5) (tgt := 21) hx hb dX3_letRunOff_5 (by decide) (by omega) (by omega) (fun c_5 => ?_) (fun c_5 => ?_)
      · refine lv_iconst (pc := 21) hx hb dX3_letRunOff_21 gk_0 ?_
        refine lv_istore_n (pc := 22) (lv' := [(2, .int (nI 0)), (0, .ref aS0), (1, .int x)]) hx hb dX3_letRunOff_22 rfl hl (by decide) rfl (fun ls hl => ?_)
        have lab_23 : ∀ (fuel : Nat) (i : Nat) (g : Nat → Int32), (100 - i) < fuel → (i ≤ 100) → (∀ j, j < 100 → g j = wat h d tp x i j) → ∀ (H : Heap) (locs : List Loc) (ls : Array Slot), va_P D vwCl [(aS0, .inr (3, [.ref aS1, .ref aS2, .ref aS3, .ref aS4, .ref aS5])), (aS1, .inl (cI, 100, .inl (aI h))), (aS2, .inl (cI, 100, .inl (aI f))), (aS3, .inl (cZ, 100, .inl (aB d))), (aS4, .inl (cI, 100, .inl (aI tp))), (aS5, .inl (cI, 100, .inl g))] H → va_D A [(aS0, .inr (3, [.ref aS1, .ref aS2, .ref aS3, .ref aS4, .ref aS5])), (aS1, .inl (cI, 100, .inl (aI h))), (aS2, .inl (cI, 100, .inl (aI f))), (aS3, .inl (cZ, 100, .inl (aB d))), (aS4, .inl (cI, 100, .inl (aI tp))), (aS5, .inl (cI, 100, .inl g))] → va_S A s.heap H locs → lv_has ls 3 [(0, .ref aS0), (1, .int x), (2, .int (nI i))] → W pg l ev ({ frames := 3, cells := 0, slots := 0, locals := 69 } : Room) s mi [(.ref aS0 : Value), .int x].toArray below meth co H locs 0 0 Q (F0 mi 23 ls []) := by
          intro fuel
          induction fuel with
          | zero => intro i g hm; exact absurd hm (Nat.not_lt_zero _)
          | succ fuel ih_23 =>
            intro i g hm_23 hi2 hg2 H locs ls hP hD hS hl
            refine lv_iload_n (pc := 23) hx hb dX3_letRunOff_23 rfl (lv_at hl 2 rfl) ?_
            refine lv_bipush (pc := 24) (v := nI 100) hx hb dX3_letRunOff_24 (by decide) ?_
            refine g_icmp_geN (pc := 26) (tgt := 45) hx hb dX3_letRunOff_26 (by decide) (by omega) (by omega) (fun c_26 => ?_) (fun c_26 => ?_)
            · rw [← hQ]
              exact g_vret hx hb hr hlocks hS dX3_letRunOff_45 g (by have e : i = 100 := (by omega); subst e; exact hg2) hP hD
            · refine lv_aload_n (pc := 29) hx hb dX3_letRunOff_29 rfl (lv_at hl 0 rfl) ?_
              refine lv_aload_n (pc := 30) hx hb dX3_letRunOff_30 rfl (lv_at hl 0 rfl) ?_
              refine gf_X3_22 (pc := 31) hx hb hts hown hK hP 0 rfl rfl dX3_letRunOff_31 ?_
              refine lv_iload_n (pc := 34) hx hb dX3_letRunOff_34 rfl (lv_at hl 2 rfl) ?_
              refine g_iald (pc := 35) (v := nI (tp i)) hx hb hK hP 4 0 rfl rfl dX3_letRunOff_35 (by first | assumption | omega) (by decide) rfl ?_
              refine g_vv (pc := 36) (As := [.int (nI (tp i))]) (rest := []) (wc := [(aS0, .inr (3, [.ref aS1, .ref aS2, .ref aS3, .ref aS4, .ref aS5])), (aS1, .inl (cI, 100, .inl (aI h))), (aS2, .inl (cI, 100, .inl (aI f))), (aS3, .inl (cZ, 100, .inl (aB d))), (aS4, .inl (cI, 100, .inl (aI tp))), (aS5, .inl (cI, 100, .inl g))]) (wr := []) lk_X3_31 hx hb hml hts hown hE hA hK hP hD hS hl (c_X3_runOn l D cI cZ _ aS0 aS1 aS2 aS3 aS4 aS5 h f d tp g (tp i) (show (tp i) < 100 from by exact htp _ (by omega)) (show ∀ i9, i9 < 100 → h i9 ≤ 30 from by first | assumption | omega)) rfl rfl dX3_letRunOff_36 [0, 1, 2, 3, 4, 5] [] rfl rfl (by decide) (by decide) (by decide) rfl rfl ⟨rfl, rfl, Nat.le_of_ble_eq_true rfl, Nat.le_of_ble_eq_true rfl, Nat.le_refl _, Nat.le_refl _⟩ (Nat.le_of_ble_eq_true rfl) (fun u H locs hw hP hD hS => ?_)
              have hP : va_P D vwCl [(aS0, .inr (3, [.ref aS1, .ref aS2, .ref aS3, .ref aS4, .ref aS5])), (aS1, .inl (cI, 100, .inl (aI h))), (aS2, .inl (cI, 100, .inl (aI f))), (aS3, .inl (cZ, 100, .inl (aB d))), (aS4, .inl (cI, 100, .inl (aI tp))), (aS5, .inl (cI, 100, .inl (runf h d g (tp i))))] H := hP
              have hD : va_D A [(aS0, .inr (3, [.ref aS1, .ref aS2, .ref aS3, .ref aS4, .ref aS5])), (aS1, .inl (cI, 100, .inl (aI h))), (aS2, .inl (cI, 100, .inl (aI f))), (aS3, .inl (cZ, 100, .inl (aB d))), (aS4, .inl (cI, 100, .inl (aI tp))), (aS5, .inl (cI, 100, .inl (runf h d g (tp i))))] := hD
              refine lv_iinc (pc := 39) (v := nI (i + 1)) (lv' := [(2, .int (nI (i + 1))), (0, .ref aS0), (1, .int x)]) hx hb dX3_letRunOff_39 hl (k := 2) rfl (gi_1 _) (by decide) rfl (fun ls hl => ?_)
              refine lv_goto (pc := 42) (tgt := 23) hx hb dX3_letRunOff_42 (by decide) ?_
              exact ih_23 (i + 1) (runf h d g (tp i)) (by omega) (show (i + 1) ≤ 100 from by first | assumption | omega) (show ∀ j, j < 100 → (runf h d g (tp i)) j = wat h d tp x (i + 1) j from by exact fun j h => runf_cong (htp _ (by omega)) hg2 j h) _ _ _ hP hD hS (lv_sub hl [1, 2, 0] rfl)
        exact lab_23 (100 - 0 + 1) 0 g (Nat.lt_succ_self _) (show 0 ≤ 100 from by first | assumption | omega) (show ∀ j, j < 100 → g j = wat h d tp x 0 j from by exact fun j h => hg j (by omega)) _ _ _ hP hD hS (lv_sub hl [1, 2, 0] rfl)
      · refine lv_aload_n (pc := 8) hx hb dX3_letRunOff_8 rfl (lv_at hl 0 rfl) ?_
        refine gf_X3_25 (pc := 9) hx hb hts hown hK hP 0 rfl rfl dX3_letRunOff_9 ?_
        refine lv_iload_n (pc := 12) hx hb dX3_letRunOff_12 rfl (lv_at hl 2 rfl) ?_
        refine lv_iload_n (pc := 13) hx hb dX3_letRunOff_13 rfl (lv_at hl 1 rfl) ?_
        refine g_iast (pc := 14) (g := (upd g i x)) (w2 := [(aS0, .inr (3, [.ref aS1, .ref aS2, .ref aS3, .ref aS4, .ref aS5])), (aS1, .inl (cI, 100, .inl (aI h))), (aS2, .inl (cI, 100, .inl (aI f))), (aS3, .inl (cZ, 100, .inl (aB d))), (aS4, .inl (cI, 100, .inl (aI tp))), (aS5, .inl (cI, 100, .inl (upd g i x)))]) hx hb hK hP hD hS 5 0 rfl rfl dX3_letRunOff_14 rfl (by first | assumption | omega) (by decide) (rfl) (fun H locs hP hD hS => ?_)
        refine lv_iinc (pc := 15) (v := nI (i + 1)) (lv' := [(2, .int (nI (i + 1))), (0, .ref aS0), (1, .int x)]) hx hb dX3_letRunOff_15 hl (k := 2) rfl (gi_1 _) (by decide) rfl (fun ls hl => ?_)
        refine lv_goto (pc := 18) (tgt := 2) hx hb dX3_letRunOff_18 (by decide) ?_
        exact ih_2 (i + 1) (upd g i x) (by omega) (show (i + 1) ≤ 100 from by first | assumption | omega) (show ∀ j, j < (i + 1) → (upd g i x) j = x from by exact lt_s (fun j h => by rw [pk_un (by omega)]; exact hg j h) pk_us) _ _ _ hP hD hS (lv_sub hl [1, 2, 0] rfl)
  exact lab_2 (100 - 0 + 1) 0 w (Nat.lt_succ_self _) (show 0 ≤ 100 from by first | assumption | omega) (show ∀ j, j < 0 → w j = x from by exact fun j h => absurd h (Nat.not_lt_zero j)) _ _ _ hP hD hS (lv_sub hl [1, 2, 0] rfl)
set_option maxHeartbeats 4000000 in
set_option maxRecDepth 100000 in
theorem c_X3_floodOf (l : Launch) (D : va_G) (cI cZ : ClassId) (sz : Nat) (aS0 aS1 aS2 aS3 aS4 aS5 : Nat) (h : Nat → Nat) (f : Nat → Nat) (d : Nat → Bool) (tp : Nat → Nat) (w : Nat → Int32) (k : Nat) (hk : k < 100) : gMi l yX3_floodOf cX3_floodOf 2 .int D cI cZ sz [(aS0, .inr (3, [.ref aS1, .ref aS2, .ref aS3, .ref aS4, .ref aS5])), (aS1, .inl (cI, 100, .inl (aI h))), (aS2, .inl (cI, 100, .inl (aI f))), (aS3, .inl (cZ, 100, .inl (aB d))), (aS4, .inl (cI, 100, .inl (aI tp))), (aS5, .inl (cI, 100, .inl w))] [.ref aS0, .int (nI k)] ({ frames := 1, cells := 0, slots := 0, locals := 20 } : Room) (fun (r : Int32) (_ : Unit) => r = (w k)) (fun (_ : Unit) => [(aS0, .inr (3, [.ref aS1, .ref aS2, .ref aS3, .ref aS4, .ref aS5])), (aS1, .inl (cI, 100, .inl (aI h))), (aS2, .inl (cI, 100, .inl (aI f))), (aS3, .inl (cZ, 100, .inl (aB d))), (aS4, .inl (cI, 100, .inl (aI tp))), (aS5, .inl (cI, 100, .inl w))]) 0 0 := by
  refine gM_ofi (by decide +kernel) (Nat.le_of_ble_eq_true rfl) ?_
  intro pg ev s mi below meth co A hx hb hr hml hts hown hlocks hname hA hsz hAe hP hK hD hE hS ls hl
  have hl : lv_has ls 2 [(0, .ref aS0), (1, .int (nI k))] := hl
  generalize hQ : MQ below _ _ s _ _ A = Q
  refine lv_iload_n (pc := 0) hx hb dX3_floodOf_0 rfl (lv_at hl 1 rfl) ?_
  refine g_nsi (pc := 1) (As := [.int (nI k)]) (rest := []) (wc := []) (wr := [(aS0, .inr (3, [.ref aS1, .ref aS2, .ref aS3, .ref aS4, .ref aS5])), (aS1, .inl (cI, 100, .inl (aI h))), (aS2, .inl (cI, 100, .inl (aI f))), (aS3, .inl (cZ, 100, .inl (aB d))), (aS4, .inl (cI, 100, .inl (aI tp))), (aS5, .inl (cI, 100, .inl w))]) lk_X3_35 hx hb hml hts hown hE hA hK hP hD hS hl (c_X6_isCell l D cI cZ _ (nI k)) dX3_floodOf_1 [] [0, 1, 2, 3, 4, 5] rfl rfl (by decide) (by decide) (by decide) rfl rfl ⟨rfl, rfl, Nat.le_of_ble_eq_true rfl, Nat.le_of_ble_eq_true rfl, Nat.le_refl _, Nat.le_refl _⟩ (Nat.le_of_ble_eq_true rfl) (fun r u H locs hw hP hD hS => ?_)
  have hP : va_P D vwCl [(aS0, .inr (3, [.ref aS1, .ref aS2, .ref aS3, .ref aS4, .ref aS5])), (aS1, .inl (cI, 100, .inl (aI h))), (aS2, .inl (cI, 100, .inl (aI f))), (aS3, .inl (cZ, 100, .inl (aB d))), (aS4, .inl (cI, 100, .inl (aI tp))), (aS5, .inl (cI, 100, .inl w))] H := hP
  have hD : va_D A [(aS0, .inr (3, [.ref aS1, .ref aS2, .ref aS3, .ref aS4, .ref aS5])), (aS1, .inl (cI, 100, .inl (aI h))), (aS2, .inl (cI, 100, .inl (aI f))), (aS3, .inl (cZ, 100, .inl (aB d))), (aS4, .inl (cI, 100, .inl (aI tp))), (aS5, .inl (cI, 100, .inl w))] := hD
  have hw : r = bI (isC (nI k)) := hw
  obtain rfl := hw
  refine g_top (pc := 4) (w := .int (bI true)) (congrArg Value.int (congrArg bI (isC_nI hk))) ?_
  refine g_if_eqB (pc := 4) (tgt := 16) hx hb dX3_floodOf_4 (by decide) (fun c_4 => ?_) (fun c_4 => ?_)
  · cases c_4
  · refine lv_aload_n (pc := 7) hx hb dX3_floodOf_7 rfl (lv_at hl 0 rfl) ?_
    refine gf_X3_25 (pc := 8) hx hb hts hown hK hP 0 rfl rfl dX3_floodOf_8 ?_
    refine lv_iload_n (pc := 11) hx hb dX3_floodOf_11 rfl (lv_at hl 1 rfl) ?_
    refine g_iald (pc := 12) (v := (w k)) hx hb hK hP 5 0 rfl rfl dX3_floodOf_12 (by first | assumption | omega) (by decide) rfl ?_
    refine lv_goto (pc := 13) (tgt := 17) hx hb dX3_floodOf_13 (by decide) ?_
    rw [← hQ]
    exact g_iret hx hb hr hlocks hS dX3_floodOf_17 () (rfl) hP hD
set_option maxHeartbeats 4000000 in
set_option maxRecDepth 100000 in
theorem c_X3_soften (l : Launch) (D : va_G) (cI cZ : ClassId) (sz : Nat) (aS0 aS1 aS2 aS3 aS4 aS5 : Nat) (h : Nat → Nat) (f : Nat → Nat) (d : Nat → Bool) (tp : Nat → Nat) (w : Nat → Int32) (hf : ∀ i9, i9 < 100 → 1 ≤ f i9 ∧ f i9 ≤ 9) : gMv l yX3_soften cX3_soften 2 D cI cZ sz [(aS0, .inr (3, [.ref aS1, .ref aS2, .ref aS3, .ref aS4, .ref aS5])), (aS1, .inl (cI, 100, .inl (aI h))), (aS2, .inl (cI, 100, .inl (aI f))), (aS3, .inl (cZ, 100, .inl (aB d))), (aS4, .inl (cI, 100, .inl (aI tp))), (aS5, .inl (cI, 100, .inl w))] [.ref aS0] ({ frames := 0, cells := 0, slots := 0, locals := 0 } : Room) (fun (u : (Nat → Nat)) => (∀ j, j < 100 → u j = sfn w f j)) (fun (u : (Nat → Nat)) => [(aS0, .inr (3, [.ref aS1, .ref aS2, .ref aS3, .ref aS4, .ref aS5])), (aS1, .inl (cI, 100, .inl (aI h))), (aS2, .inl (cI, 100, .inl (aI u))), (aS3, .inl (cZ, 100, .inl (aB d))), (aS4, .inl (cI, 100, .inl (aI tp))), (aS5, .inl (cI, 100, .inl w))]) 0 0 := by
  refine gM_ofv (by decide +kernel) (Nat.le_of_ble_eq_true rfl) ?_
  intro pg ev s mi below meth co A hx hb hr hml hts hown hlocks hname hA hsz hAe hP hK hD hE hS ls hl
  have hl : lv_has ls 2 [(0, .ref aS0)] := hl
  generalize hQ : MQ below _ _ s _ _ A = Q
  refine lv_iconst (pc := 0) hx hb dX3_soften_0 gk_0 ?_
  refine lv_istore_n (pc := 1) (lv' := [(1, .int (nI 0)), (0, .ref aS0)]) hx hb dX3_soften_1 rfl hl (by decide) rfl (fun ls hl => ?_)
  have lab_2 : ∀ (fuel : Nat) (i : Nat) (g : Nat → Nat), (100 - i) < fuel → (i ≤ 100) → (∀ j, j < i → g j = sfn w f j) → (∀ j, i ≤ j → g j = f j) → ∀ (H : Heap) (locs : List Loc) (ls : Array Slot), va_P D vwCl [(aS0, .inr (3, [.ref aS1, .ref aS2, .ref aS3, .ref aS4, .ref aS5])), (aS1, .inl (cI, 100, .inl (aI h))), (aS2, .inl (cI, 100, .inl (aI g))), (aS3, .inl (cZ, 100, .inl (aB d))), (aS4, .inl (cI, 100, .inl (aI tp))), (aS5, .inl (cI, 100, .inl w))] H → va_D A [(aS0, .inr (3, [.ref aS1, .ref aS2, .ref aS3, .ref aS4, .ref aS5])), (aS1, .inl (cI, 100, .inl (aI h))), (aS2, .inl (cI, 100, .inl (aI g))), (aS3, .inl (cZ, 100, .inl (aB d))), (aS4, .inl (cI, 100, .inl (aI tp))), (aS5, .inl (cI, 100, .inl w))] → va_S A s.heap H locs → lv_has ls 2 [(0, .ref aS0), (1, .int (nI i))] → W pg l ev ({ frames := 0, cells := 0, slots := 0, locals := 0 } : Room) s mi [(.ref aS0 : Value)].toArray below meth co H locs 0 0 Q (F0 mi 2 ls []) := by
    intro fuel
    induction fuel with
    | zero => intro i g hm; exact absurd hm (Nat.not_lt_zero _)
    | succ fuel ih_2 =>
      intro i g hm_2 hi hg hg2 H locs ls hP hD hS hl
      refine lv_iload_n (pc := 2) hx hb dX3_soften_2 rfl (lv_at hl 1 rfl) ?_
      refine lv_bipush (pc := 3) (v := nI 100) hx hb dX3_soften_3 (by decide) ?_
      refine g_icmp_geN (pc := 5) (tgt := 45) hx hb dX3_soften_5 (by decide) (by omega) (by omega) (fun c_5 => ?_) (fun c_5 => ?_)
      · rw [← hQ]
        exact g_vret hx hb hr hlocks hS dX3_soften_45 g (by (exact fun j h => hg j (by omega))) hP hD
      · refine lv_aload_n (pc := 8) hx hb dX3_soften_8 rfl (lv_at hl 0 rfl) ?_
        refine gf_X3_25 (pc := 9) hx hb hts hown hK hP 0 rfl rfl dX3_soften_9 ?_
        refine lv_iload_n (pc := 12) hx hb dX3_soften_12 rfl (lv_at hl 1 rfl) ?_
        refine g_iald (pc := 13) (v := (w i)) hx hb hK hP 5 0 rfl rfl dX3_soften_13 (by first | assumption | omega) (by decide) rfl ?_
        refine lv_bipush (pc := 14) (v := nI 20) hx hb dX3_soften_14 (by decide) ?_
        refine lv_icmp_lt (pc := 16) (tgt := 39) hx hb dX3_soften_16 (by decide) (fun c_16 => ?_) (fun c_16 => ?_)
        · have hn1 : ∀ j, j < i + 1 → g j = sfn w f j := lt_s hg (by unfold sfn; rw [if_neg (fun q => i_le q.1 c_16)]; exact hg2 i (Nat.le_refl i))
          refine lv_iinc (pc := 39) (v := nI (i + 1)) (lv' := [(1, .int (nI (i + 1))), (0, .ref aS0)]) hx hb dX3_soften_39 hl (k := 1) rfl (gi_1 _) (by decide) rfl (fun ls hl => ?_)
          refine lv_goto (pc := 42) (tgt := 2) hx hb dX3_soften_42 (by decide) ?_
          exact ih_2 (i + 1) g (by omega) (show (i + 1) ≤ 100 from by first | assumption | omega) (show ∀ j, j < (i + 1) → g j = sfn w f j from by first | exact hn1 | exact hn1) (show ∀ j, (i + 1) ≤ j → g j = f j from by first | (intro j h; unfold va_up; rw [if_neg (by omega)]; exact hg2 j (by omega)) | exact fun j h => hg2 j (by omega)) _ _ _ hP hD hS (lv_sub hl [1, 0] rfl)
        · refine lv_aload_n (pc := 19) hx hb dX3_soften_19 rfl (lv_at hl 0 rfl) ?_
          refine gf_X3_15 (pc := 20) hx hb hts hown hK hP 0 rfl rfl dX3_soften_20 ?_
          refine lv_iload_n (pc := 23) hx hb dX3_soften_23 rfl (lv_at hl 1 rfl) ?_
          refine g_iald (pc := 24) (v := nI (g i)) hx hb hK hP 2 0 rfl rfl dX3_soften_24 (by first | assumption | omega) (by decide) rfl ?_
          refine lv_iconst (pc := 25) hx hb dX3_soften_25 gk_1 ?_
          refine g_icmp_leN (pc := 26) (tgt := 39) hx hb dX3_soften_26 (by decide) (by have e := hg2 i (Nat.le_refl i); have := hf i (by omega); omega) (by have e := hg2 i (Nat.le_refl i); have := hf i (by omega); omega) (fun c_26 => ?_) (fun c_26 => ?_)
          · have hn1 : ∀ j, j < i + 1 → g j = sfn w f j := lt_s hg (by have e := hg2 i (Nat.le_refl i); unfold sfn; rw [if_neg (fun q => by omega)]; exact e)
            refine lv_iinc (pc := 39) (v := nI (i + 1)) (lv' := [(1, .int (nI (i + 1))), (0, .ref aS0)]) hx hb dX3_soften_39 hl (k := 1) rfl (gi_1 _) (by decide) rfl (fun ls hl => ?_)
            refine lv_goto (pc := 42) (tgt := 2) hx hb dX3_soften_42 (by decide) ?_
            exact ih_2 (i + 1) g (by omega) (show (i + 1) ≤ 100 from by first | assumption | omega) (show ∀ j, j < (i + 1) → g j = sfn w f j from by first | exact hn1 | exact hn1) (show ∀ j, (i + 1) ≤ j → g j = f j from by first | (intro j h; unfold va_up; rw [if_neg (by omega)]; exact hg2 j (by omega)) | exact fun j h => hg2 j (by omega)) _ _ _ hP hD hS (lv_sub hl [1, 0] rfl)
          · have hn1 : ∀ j, j < i + 1 → va_up g i (g i - 1) j = sfn w f j := lt_s (fun j h => by unfold va_up; rw [if_neg (by omega)]; exact hg j h) (by have e := hg2 i (Nat.le_refl i); unfold va_up sfn; rw [if_pos rfl, if_pos ⟨i_nlt c_16, by omega⟩, e])
            refine lv_aload_n (pc := 29) hx hb dX3_soften_29 rfl (lv_at hl 0 rfl) ?_
            refine gf_X3_15 (pc := 30) hx hb hts hown hK hP 0 rfl rfl dX3_soften_30 ?_
            refine lv_iload_n (pc := 33) hx hb dX3_soften_33 rfl (lv_at hl 1 rfl) ?_
            refine lv_dup2_11 (pc := 34) hx hb dX3_soften_34 rfl rfl ?_
            refine g_iald (pc := 35) (v := nI (g i)) hx hb hK hP 2 0 rfl rfl dX3_soften_35 (by first | assumption | omega) (by decide) rfl ?_
            refine lv_iconst (pc := 36) hx hb dX3_soften_36 gk_1 ?_
            refine g_isub (pc := 37) hx hb dX3_soften_37 (pk_sub (by omega)) ?_
            refine g_iast (pc := 38) (g := aI (va_up g i ((g i) - 1))) (w2 := [(aS0, .inr (3, [.ref aS1, .ref aS2, .ref aS3, .ref aS4, .ref aS5])), (aS1, .inl (cI, 100, .inl (aI h))), (aS2, .inl (cI, 100, .inl (aI (va_up g i ((g i) - 1))))), (aS3, .inl (cZ, 100, .inl (aB d))), (aS4, .inl (cI, 100, .inl (aI tp))), (aS5, .inl (cI, 100, .inl w))]) hx hb hK hP hD hS 2 0 rfl rfl dX3_soften_38 rfl (by first | assumption | omega) (by decide) (aI_up _ _ _) (fun H locs hP hD hS => ?_)
            refine lv_iinc (pc := 39) (v := nI (i + 1)) (lv' := [(1, .int (nI (i + 1))), (0, .ref aS0)]) hx hb dX3_soften_39 hl (k := 1) rfl (gi_1 _) (by decide) rfl (fun ls hl => ?_)
            refine lv_goto (pc := 42) (tgt := 2) hx hb dX3_soften_42 (by decide) ?_
            exact ih_2 (i + 1) (va_up g i ((g i) - 1)) (by omega) (show (i + 1) ≤ 100 from by first | assumption | omega) (show ∀ j, j < (i + 1) → (va_up g i ((g i) - 1)) j = sfn w f j from by first | exact hn1 | exact hn1) (show ∀ j, (i + 1) ≤ j → (va_up g i ((g i) - 1)) j = f j from by first | (intro j h; unfold va_up; rw [if_neg (by omega)]; exact hg2 j (by omega)) | exact fun j h => hg2 j (by omega)) _ _ _ hP hD hS (lv_sub hl [1, 0] rfl)
  exact lab_2 (100 - 0 + 1) 0 f (Nat.lt_succ_self _) (show 0 ≤ 100 from by first | assumption | omega) (show ∀ j, j < 0 → f j = sfn w f j from by exact fun j h => absurd h (Nat.not_lt_zero j)) (show ∀ j, 0 ≤ j → f j = f j from by exact fun j h => rfl) _ _ _ hP hD hS (lv_sub hl [1, 0] rfl)
set_option maxHeartbeats 4000000 in
set_option maxRecDepth 100000 in
theorem c_X3_ditches (l : Launch) (D : va_G) (cI cZ : ClassId) (sz : Nat) (aS0 aS1 aS2 aS3 aS4 aS5 : Nat) (h : Nat → Nat) (f : Nat → Nat) (d : Nat → Bool) (tp : Nat → Nat) (w : Nat → Int32)  : gMi l yX3_ditches cX3_ditches 3 .int D cI cZ sz [(aS0, .inr (3, [.ref aS1, .ref aS2, .ref aS3, .ref aS4, .ref aS5])), (aS1, .inl (cI, 100, .inl (aI h))), (aS2, .inl (cI, 100, .inl (aI f))), (aS3, .inl (cZ, 100, .inl (aB d))), (aS4, .inl (cI, 100, .inl (aI tp))), (aS5, .inl (cI, 100, .inl w))] [.ref aS0] ({ frames := 0, cells := 0, slots := 0, locals := 0 } : Room) (fun (r : Int32) (_ : Unit) => r = nI (fb_ct d 100)) (fun (_ : Unit) => [(aS0, .inr (3, [.ref aS1, .ref aS2, .ref aS3, .ref aS4, .ref aS5])), (aS1, .inl (cI, 100, .inl (aI h))), (aS2, .inl (cI, 100, .inl (aI f))), (aS3, .inl (cZ, 100, .inl (aB d))), (aS4, .inl (cI, 100, .inl (aI tp))), (aS5, .inl (cI, 100, .inl w))]) 0 0 := by
  refine gM_ofi (by decide +kernel) (Nat.le_of_ble_eq_true rfl) ?_
  intro pg ev s mi below meth co A hx hb hr hml hts hown hlocks hname hA hsz hAe hP hK hD hE hS ls hl
  have hl : lv_has ls 3 [(0, .ref aS0)] := hl
  generalize hQ : MQ below _ _ s _ _ A = Q
  refine lv_iconst (pc := 0) hx hb dX3_ditches_0 gk_0 ?_
  refine lv_istore_n (pc := 1) (lv' := [(1, .int (nI 0)), (0, .ref aS0)]) hx hb dX3_ditches_1 rfl hl (by decide) rfl (fun ls hl => ?_)
  refine lv_iconst (pc := 2) hx hb dX3_ditches_2 gk_0 ?_
  refine lv_istore_n (pc := 3) (lv' := [(2, .int (nI 0)), (1, .int (nI 0)), (0, .ref aS0)]) hx hb dX3_ditches_3 rfl hl (by decide) rfl (fun ls hl => ?_)
  have lab_4 : ∀ (fuel : Nat) (i : Nat), (100 - i) < fuel → (i ≤ 100) → ∀ (H : Heap) (locs : List Loc) (ls : Array Slot), va_P D vwCl [(aS0, .inr (3, [.ref aS1, .ref aS2, .ref aS3, .ref aS4, .ref aS5])), (aS1, .inl (cI, 100, .inl (aI h))), (aS2, .inl (cI, 100, .inl (aI f))), (aS3, .inl (cZ, 100, .inl (aB d))), (aS4, .inl (cI, 100, .inl (aI tp))), (aS5, .inl (cI, 100, .inl w))] H → va_D A [(aS0, .inr (3, [.ref aS1, .ref aS2, .ref aS3, .ref aS4, .ref aS5])), (aS1, .inl (cI, 100, .inl (aI h))), (aS2, .inl (cI, 100, .inl (aI f))), (aS3, .inl (cZ, 100, .inl (aB d))), (aS4, .inl (cI, 100, .inl (aI tp))), (aS5, .inl (cI, 100, .inl w))] → va_S A s.heap H locs → lv_has ls 3 [(0, .ref aS0), (1, .int (nI (fb_ct d i))), (2, .int (nI i))] → W pg l ev ({ frames := 0, cells := 0, slots := 0, locals := 0 } : Room) s mi [(.ref aS0 : Value)].toArray below meth co H locs 0 0 Q (F0 mi 4 ls []) := by
    intro fuel
    induction fuel with
    | zero => intro i hm; exact absurd hm (Nat.not_lt_zero _)
    | succ fuel ih_4 =>
      intro i hm_4 hi H locs ls hP hD hS hl
      refine lv_iload_n (pc := 4) hx hb dX3_ditches_4 rfl (lv_at hl 2 rfl) ?_
      refine lv_bipush (pc := 5) (v := nI 100) hx hb dX3_ditches_5 (by decide) ?_
      refine g_icmp_geN (pc := 7) (tgt := 33) hx hb dX3_ditches_7 (by decide) (by omega) (by omega) (fun c_7 => ?_) (fun c_7 => ?_)
      · refine lv_iload_n (pc := 33) hx hb dX3_ditches_33 rfl (lv_at hl 1 rfl) ?_
        rw [← hQ]
        exact g_iret hx hb hr hlocks hS dX3_ditches_34 () (by rw [show i = 100 by omega]) hP hD
      · refine lv_iload_n (pc := 10) hx hb dX3_ditches_10 rfl (lv_at hl 1 rfl) ?_
        refine lv_aload_n (pc := 11) hx hb dX3_ditches_11 rfl (lv_at hl 0 rfl) ?_
        refine gf_X3_18 (pc := 12) hx hb hts hown hK hP 0 rfl rfl dX3_ditches_12 ?_
        refine lv_iload_n (pc := 15) hx hb dX3_ditches_15 rfl (lv_at hl 2 rfl) ?_
        refine g_zald (pc := 16) (v := bI (d i)) hx hb hK hP 3 1 rfl rfl dX3_ditches_16 (by first | assumption | omega) (by decide) rfl ?_
        refine g_if_eqB (pc := 17) (tgt := 24) hx hb dX3_ditches_17 (by decide) (fun c_17 => ?_) (fun c_17 => ?_)
        · refine lv_iconst (pc := 24) hx hb dX3_ditches_24 gk_0 ?_
          refine g_iadd (pc := 25) hx hb dX3_ditches_25 (nI_add _ _) ?_
          refine g_top (pc := 26) (w := .int (nI (fb_ct d (i + 1)))) (by first | rw [ct_t c_17] | rw [ct_f c_17]) ?_
          refine lv_istore_n (pc := 26) (lv' := [(1, .int (nI (fb_ct d (i + 1)))), (0, .ref aS0), (2, .int (nI i))]) hx hb dX3_ditches_26 rfl hl (by decide) rfl (fun ls hl => ?_)
          refine lv_iinc (pc := 27) (v := nI (i + 1)) (lv' := [(2, .int (nI (i + 1))), (1, .int (nI (fb_ct d (i + 1)))), (0, .ref aS0)]) hx hb dX3_ditches_27 hl (k := 2) rfl (gi_1 _) (by decide) rfl (fun ls hl => ?_)
          refine lv_goto (pc := 30) (tgt := 4) hx hb dX3_ditches_30 (by decide) ?_
          exact ih_4 (i + 1) (by omega) (show (i + 1) ≤ 100 from by first | assumption | omega) _ _ _ hP hD hS (lv_sub hl [2, 1, 0] rfl)
        · refine lv_iconst (pc := 20) hx hb dX3_ditches_20 gk_1 ?_
          refine lv_goto (pc := 21) (tgt := 25) hx hb dX3_ditches_21 (by decide) ?_
          refine g_iadd (pc := 25) hx hb dX3_ditches_25 (nI_add _ _) ?_
          refine g_top (pc := 26) (w := .int (nI (fb_ct d (i + 1)))) (by first | rw [ct_t c_17] | rw [ct_f c_17]) ?_
          refine lv_istore_n (pc := 26) (lv' := [(1, .int (nI (fb_ct d (i + 1)))), (0, .ref aS0), (2, .int (nI i))]) hx hb dX3_ditches_26 rfl hl (by decide) rfl (fun ls hl => ?_)
          refine lv_iinc (pc := 27) (v := nI (i + 1)) (lv' := [(2, .int (nI (i + 1))), (1, .int (nI (fb_ct d (i + 1)))), (0, .ref aS0)]) hx hb dX3_ditches_27 hl (k := 2) rfl (gi_1 _) (by decide) rfl (fun ls hl => ?_)
          refine lv_goto (pc := 30) (tgt := 4) hx hb dX3_ditches_30 (by decide) ?_
          exact ih_4 (i + 1) (by omega) (show (i + 1) ≤ 100 from by first | assumption | omega) _ _ _ hP hD hS (lv_sub hl [2, 1, 0] rfl)
  exact lab_4 (100 - 0 + 1) 0 (Nat.lt_succ_self _) (show 0 ≤ 100 from by first | assumption | omega) _ _ _ hP hD hS (lv_sub hl [2, 1, 0] rfl)
set_option maxHeartbeats 4000000 in
set_option maxRecDepth 100000 in
theorem c_X3_copyFrom (l : Launch) (D : va_G) (cI cZ : ClassId) (sz : Nat) (aS0 aS1 aS2 aS3 aS4 aS5 aS0x aS1x aS2x aS3x aS4x aS5x : Nat) (h : Nat → Nat) (f : Nat → Nat) (d : Nat → Bool) (tp : Nat → Nat) (w : Nat → Int32) (hq : Nat → Nat) (fq : Nat → Nat) (dq : Nat → Bool) (tq : Nat → Nat) (wq : Nat → Int32)  : gMv l yX3_copyFrom cX3_copyFrom 3 D cI cZ sz [(aS0, .inr (3, [.ref aS1, .ref aS2, .ref aS3, .ref aS4, .ref aS5])), (aS1, .inl (cI, 100, .inl (aI h))), (aS2, .inl (cI, 100, .inl (aI f))), (aS3, .inl (cZ, 100, .inl (aB d))), (aS4, .inl (cI, 100, .inl (aI tp))), (aS5, .inl (cI, 100, .inl w)), (aS0x, .inr (3, [.ref aS1x, .ref aS2x, .ref aS3x, .ref aS4x, .ref aS5x])), (aS1x, .inl (cI, 100, .inl (aI hq))), (aS2x, .inl (cI, 100, .inl (aI fq))), (aS3x, .inl (cZ, 100, .inl (aB dq))), (aS4x, .inl (cI, 100, .inl (aI tq))), (aS5x, .inl (cI, 100, .inl wq))] [.ref aS0, .ref aS0x] ({ frames := 0, cells := 0, slots := 0, locals := 0 } : Room) (fun (u : (Nat → Nat) × (Nat → Nat) × (Nat → Bool) × (Nat → Nat)) => (∀ j, j < 100 → u.1 j = hq j) ∧ (∀ j, j < 100 → u.2.1 j = fq j) ∧ (∀ j, j < 100 → u.2.2.1 j = dq j) ∧ (∀ j, j < 100 → u.2.2.2 j = tq j)) (fun (u : (Nat → Nat) × (Nat → Nat) × (Nat → Bool) × (Nat → Nat)) => [(aS0, .inr (3, [.ref aS1, .ref aS2, .ref aS3, .ref aS4, .ref aS5])), (aS1, .inl (cI, 100, .inl (aI u.1))), (aS2, .inl (cI, 100, .inl (aI u.2.1))), (aS3, .inl (cZ, 100, .inl (aB u.2.2.1))), (aS4, .inl (cI, 100, .inl (aI u.2.2.2))), (aS5, .inl (cI, 100, .inl w)), (aS0x, .inr (3, [.ref aS1x, .ref aS2x, .ref aS3x, .ref aS4x, .ref aS5x])), (aS1x, .inl (cI, 100, .inl (aI hq))), (aS2x, .inl (cI, 100, .inl (aI fq))), (aS3x, .inl (cZ, 100, .inl (aB dq))), (aS4x, .inl (cI, 100, .inl (aI tq))), (aS5x, .inl (cI, 100, .inl wq))]) 0 0 := by
  refine gM_ofv (by decide +kernel) (Nat.le_of_ble_eq_true rfl) ?_
  intro pg ev s mi below meth co A hx hb hr hml hts hown hlocks hname hA hsz hAe hP hK hD hE hS ls hl
  have hl : lv_has ls 3 [(0, .ref aS0), (1, .ref aS0x)] := hl
  generalize hQ : MQ below _ _ s _ _ A = Q
  refine lv_iconst (pc := 0) hx hb dX3_copyFrom_0 gk_0 ?_
  refine lv_istore_n (pc := 1) (lv' := [(2, .int (nI 0)), (0, .ref aS0), (1, .ref aS0x)]) hx hb dX3_copyFrom_1 rfl hl (by decide) rfl (fun ls hl => ?_)
  have lab_2 : ∀ (fuel : Nat) (i : Nat) (g1 : Nat → Nat) (g2 : Nat → Nat) (g3 : Nat → Bool) (g4 : Nat → Nat), (100 - i) < fuel → (i ≤ 100) → (∀ j, j < i → g1 j = hq j) → (∀ j, j < i → g2 j = fq j) → (∀ j, j < i → g3 j = dq j) → (∀ j, j < i → g4 j = tq j) → ∀ (H : Heap) (locs : List Loc) (ls : Array Slot), va_P D vwCl [(aS0, .inr (3, [.ref aS1, .ref aS2, .ref aS3, .ref aS4, .ref aS5])), (aS1, .inl (cI, 100, .inl (aI g1))), (aS2, .inl (cI, 100, .inl (aI g2))), (aS3, .inl (cZ, 100, .inl (aB g3))), (aS4, .inl (cI, 100, .inl (aI g4))), (aS5, .inl (cI, 100, .inl w)), (aS0x, .inr (3, [.ref aS1x, .ref aS2x, .ref aS3x, .ref aS4x, .ref aS5x])), (aS1x, .inl (cI, 100, .inl (aI hq))), (aS2x, .inl (cI, 100, .inl (aI fq))), (aS3x, .inl (cZ, 100, .inl (aB dq))), (aS4x, .inl (cI, 100, .inl (aI tq))), (aS5x, .inl (cI, 100, .inl wq))] H → va_D A [(aS0, .inr (3, [.ref aS1, .ref aS2, .ref aS3, .ref aS4, .ref aS5])), (aS1, .inl (cI, 100, .inl (aI g1))), (aS2, .inl (cI, 100, .inl (aI g2))), (aS3, .inl (cZ, 100, .inl (aB g3))), (aS4, .inl (cI, 100, .inl (aI g4))), (aS5, .inl (cI, 100, .inl w)), (aS0x, .inr (3, [.ref aS1x, .ref aS2x, .ref aS3x, .ref aS4x, .ref aS5x])), (aS1x, .inl (cI, 100, .inl (aI hq))), (aS2x, .inl (cI, 100, .inl (aI fq))), (aS3x, .inl (cZ, 100, .inl (aB dq))), (aS4x, .inl (cI, 100, .inl (aI tq))), (aS5x, .inl (cI, 100, .inl wq))] → va_S A s.heap H locs → lv_has ls 3 [(0, .ref aS0), (1, .ref aS0x), (2, .int (nI i))] → W pg l ev ({ frames := 0, cells := 0, slots := 0, locals := 0 } : Room) s mi [(.ref aS0 : Value), .ref aS0x].toArray below meth co H locs 0 0 Q (F0 mi 2 ls []) := by
    intro fuel
    induction fuel with
    | zero => intro i g1 g2 g3 g4 hm; exact absurd hm (Nat.not_lt_zero _)
    | succ fuel ih_2 =>
      intro i g1 g2 g3 g4 hm_2 hi k1 k2 k3 k4 H locs ls hP hD hS hl
      refine lv_iload_n (pc := 2) hx hb dX3_copyFrom_2 rfl (lv_at hl 2 rfl) ?_
      refine lv_bipush (pc := 3) (v := nI 100) hx hb dX3_copyFrom_3 (by decide) ?_
      refine g_icmp_geN (pc := 5) (tgt := 62) hx hb dX3_copyFrom_5 (by decide) (by omega) (by omega) (fun c_5 => ?_) (fun c_5 => ?_)
      · rw [← hQ]
        exact g_vret hx hb hr hlocks hS dX3_copyFrom_62 (g1, g2, g3, g4) (by and_intros <;> (intro j h; first | exact k1 j (by omega) | exact k2 j (by omega) | exact k3 j (by omega) | exact k4 j (by omega))) hP hD
      · refine lv_aload_n (pc := 8) hx hb dX3_copyFrom_8 rfl (lv_at hl 0 rfl) ?_
        refine gf_X3_9 (pc := 9) hx hb hts hown hK hP 0 rfl rfl dX3_copyFrom_9 ?_
        refine lv_iload_n (pc := 12) hx hb dX3_copyFrom_12 rfl (lv_at hl 2 rfl) ?_
        refine lv_aload_n (pc := 13) hx hb dX3_copyFrom_13 rfl (lv_at hl 1 rfl) ?_
        refine gf_X3_9 (pc := 14) hx hb hts hown hK hP 6 rfl rfl dX3_copyFrom_14 ?_
        refine lv_iload_n (pc := 17) hx hb dX3_copyFrom_17 rfl (lv_at hl 2 rfl) ?_
        refine g_iald (pc := 18) (v := nI (hq i)) hx hb hK hP 7 0 rfl rfl dX3_copyFrom_18 (by first | assumption | omega) (by decide) rfl ?_
        refine g_iast (pc := 19) (g := aI (va_up g1 i (hq i))) (w2 := [(aS0, .inr (3, [.ref aS1, .ref aS2, .ref aS3, .ref aS4, .ref aS5])), (aS1, .inl (cI, 100, .inl (aI (va_up g1 i (hq i))))), (aS2, .inl (cI, 100, .inl (aI g2))), (aS3, .inl (cZ, 100, .inl (aB g3))), (aS4, .inl (cI, 100, .inl (aI g4))), (aS5, .inl (cI, 100, .inl w)), (aS0x, .inr (3, [.ref aS1x, .ref aS2x, .ref aS3x, .ref aS4x, .ref aS5x])), (aS1x, .inl (cI, 100, .inl (aI hq))), (aS2x, .inl (cI, 100, .inl (aI fq))), (aS3x, .inl (cZ, 100, .inl (aB dq))), (aS4x, .inl (cI, 100, .inl (aI tq))), (aS5x, .inl (cI, 100, .inl wq))]) hx hb hK hP hD hS 1 0 rfl rfl dX3_copyFrom_19 rfl (by first | assumption | omega) (by decide) (aI_up _ _ _) (fun H locs hP hD hS => ?_)
        refine lv_aload_n (pc := 20) hx hb dX3_copyFrom_20 rfl (lv_at hl 0 rfl) ?_
        refine gf_X3_15 (pc := 21) hx hb hts hown hK hP 0 rfl rfl dX3_copyFrom_21 ?_
        refine lv_iload_n (pc := 24) hx hb dX3_copyFrom_24 rfl (lv_at hl 2 rfl) ?_
        refine lv_aload_n (pc := 25) hx hb dX3_copyFrom_25 rfl (lv_at hl 1 rfl) ?_
        refine gf_X3_15 (pc := 26) hx hb hts hown hK hP 6 rfl rfl dX3_copyFrom_26 ?_
        refine lv_iload_n (pc := 29) hx hb dX3_copyFrom_29 rfl (lv_at hl 2 rfl) ?_
        refine g_iald (pc := 30) (v := nI (fq i)) hx hb hK hP 8 0 rfl rfl dX3_copyFrom_30 (by first | assumption | omega) (by decide) rfl ?_
        refine g_iast (pc := 31) (g := aI (va_up g2 i (fq i))) (w2 := [(aS0, .inr (3, [.ref aS1, .ref aS2, .ref aS3, .ref aS4, .ref aS5])), (aS1, .inl (cI, 100, .inl (aI (va_up g1 i (hq i))))), (aS2, .inl (cI, 100, .inl (aI (va_up g2 i (fq i))))), (aS3, .inl (cZ, 100, .inl (aB g3))), (aS4, .inl (cI, 100, .inl (aI g4))), (aS5, .inl (cI, 100, .inl w)), (aS0x, .inr (3, [.ref aS1x, .ref aS2x, .ref aS3x, .ref aS4x, .ref aS5x])), (aS1x, .inl (cI, 100, .inl (aI hq))), (aS2x, .inl (cI, 100, .inl (aI fq))), (aS3x, .inl (cZ, 100, .inl (aB dq))), (aS4x, .inl (cI, 100, .inl (aI tq))), (aS5x, .inl (cI, 100, .inl wq))]) hx hb hK hP hD hS 2 0 rfl rfl dX3_copyFrom_31 rfl (by first | assumption | omega) (by decide) (aI_up _ _ _) (fun H locs hP hD hS => ?_)
        refine lv_aload_n (pc := 32) hx hb dX3_copyFrom_32 rfl (lv_at hl 0 rfl) ?_
        refine gf_X3_18 (pc := 33) hx hb hts hown hK hP 0 rfl rfl dX3_copyFrom_33 ?_
        refine lv_iload_n (pc := 36) hx hb dX3_copyFrom_36 rfl (lv_at hl 2 rfl) ?_
        refine lv_aload_n (pc := 37) hx hb dX3_copyFrom_37 rfl (lv_at hl 1 rfl) ?_
        refine gf_X3_18 (pc := 38) hx hb hts hown hK hP 6 rfl rfl dX3_copyFrom_38 ?_
        refine lv_iload_n (pc := 41) hx hb dX3_copyFrom_41 rfl (lv_at hl 2 rfl) ?_
        refine g_zald (pc := 42) (v := bI (dq i)) hx hb hK hP 9 1 rfl rfl dX3_copyFrom_42 (by first | assumption | omega) (by decide) rfl ?_
        refine g_zast (pc := 43) (g := aB (va_up g3 i (dq i))) (w2 := [(aS0, .inr (3, [.ref aS1, .ref aS2, .ref aS3, .ref aS4, .ref aS5])), (aS1, .inl (cI, 100, .inl (aI (va_up g1 i (hq i))))), (aS2, .inl (cI, 100, .inl (aI (va_up g2 i (fq i))))), (aS3, .inl (cZ, 100, .inl (aB (va_up g3 i (dq i))))), (aS4, .inl (cI, 100, .inl (aI g4))), (aS5, .inl (cI, 100, .inl w)), (aS0x, .inr (3, [.ref aS1x, .ref aS2x, .ref aS3x, .ref aS4x, .ref aS5x])), (aS1x, .inl (cI, 100, .inl (aI hq))), (aS2x, .inl (cI, 100, .inl (aI fq))), (aS3x, .inl (cZ, 100, .inl (aB dq))), (aS4x, .inl (cI, 100, .inl (aI tq))), (aS5x, .inl (cI, 100, .inl wq))]) hx hb hK hP hD hS 3 1 rfl rfl dX3_copyFrom_43 rfl (by first | assumption | omega) (by decide) (aB_up _ _ _) (fun H locs hP hD hS => ?_)
        refine lv_aload_n (pc := 44) hx hb dX3_copyFrom_44 rfl (lv_at hl 0 rfl) ?_
        refine gf_X3_22 (pc := 45) hx hb hts hown hK hP 0 rfl rfl dX3_copyFrom_45 ?_
        refine lv_iload_n (pc := 48) hx hb dX3_copyFrom_48 rfl (lv_at hl 2 rfl) ?_
        refine lv_aload_n (pc := 49) hx hb dX3_copyFrom_49 rfl (lv_at hl 1 rfl) ?_
        refine gf_X3_22 (pc := 50) hx hb hts hown hK hP 6 rfl rfl dX3_copyFrom_50 ?_
        refine lv_iload_n (pc := 53) hx hb dX3_copyFrom_53 rfl (lv_at hl 2 rfl) ?_
        refine g_iald (pc := 54) (v := nI (tq i)) hx hb hK hP 10 0 rfl rfl dX3_copyFrom_54 (by first | assumption | omega) (by decide) rfl ?_
        refine g_iast (pc := 55) (g := aI (va_up g4 i (tq i))) (w2 := [(aS0, .inr (3, [.ref aS1, .ref aS2, .ref aS3, .ref aS4, .ref aS5])), (aS1, .inl (cI, 100, .inl (aI (va_up g1 i (hq i))))), (aS2, .inl (cI, 100, .inl (aI (va_up g2 i (fq i))))), (aS3, .inl (cZ, 100, .inl (aB (va_up g3 i (dq i))))), (aS4, .inl (cI, 100, .inl (aI (va_up g4 i (tq i))))), (aS5, .inl (cI, 100, .inl w)), (aS0x, .inr (3, [.ref aS1x, .ref aS2x, .ref aS3x, .ref aS4x, .ref aS5x])), (aS1x, .inl (cI, 100, .inl (aI hq))), (aS2x, .inl (cI, 100, .inl (aI fq))), (aS3x, .inl (cZ, 100, .inl (aB dq))), (aS4x, .inl (cI, 100, .inl (aI tq))), (aS5x, .inl (cI, 100, .inl wq))]) hx hb hK hP hD hS 4 0 rfl rfl dX3_copyFrom_55 rfl (by first | assumption | omega) (by decide) (aI_up _ _ _) (fun H locs hP hD hS => ?_)
        refine lv_iinc (pc := 56) (v := nI (i + 1)) (lv' := [(2, .int (nI (i + 1))), (0, .ref aS0), (1, .ref aS0x)]) hx hb dX3_copyFrom_56 hl (k := 2) rfl (gi_1 _) (by decide) rfl (fun ls hl => ?_)
        refine lv_goto (pc := 59) (tgt := 2) hx hb dX3_copyFrom_59 (by decide) ?_
        exact ih_2 (i + 1) (va_up g1 i (hq i)) (va_up g2 i (fq i)) (va_up g3 i (dq i)) (va_up g4 i (tq i)) (by omega) (show (i + 1) ≤ 100 from by first | assumption | omega) (show ∀ j, j < (i + 1) → (va_up g1 i (hq i)) j = hq j from by exact up_s k1) (show ∀ j, j < (i + 1) → (va_up g2 i (fq i)) j = fq j from by exact up_s k2) (show ∀ j, j < (i + 1) → (va_up g3 i (dq i)) j = dq j from by exact up_s k3) (show ∀ j, j < (i + 1) → (va_up g4 i (tq i)) j = tq j from by exact up_s k4) _ _ _ hP hD hS (lv_sub hl [1, 2, 0] rfl)
  exact lab_2 (100 - 0 + 1) 0 h f d tp (Nat.lt_succ_self _) (show 0 ≤ 100 from by first | assumption | omega) (show ∀ j, j < 0 → h j = hq j from by exact fun j h => absurd h (Nat.not_lt_zero j)) (show ∀ j, j < 0 → f j = fq j from by exact fun j h => absurd h (Nat.not_lt_zero j)) (show ∀ j, j < 0 → d j = dq j from by exact fun j h => absurd h (Nat.not_lt_zero j)) (show ∀ j, j < 0 → tp j = tq j from by exact fun j h => absurd h (Nat.not_lt_zero j)) _ _ _ hP hD hS (lv_sub hl [1, 2, 0] rfl)
