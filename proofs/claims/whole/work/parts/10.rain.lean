
theorem g_cong {D : va_G} {ws w2 : va_W} {H : Heap} {A : Nat → Prop} {a n : Nat} {cA : ClassId} {f : Nat → Int32} (g : Nat → Int32) (q0 : Nat) (ha : ws[q0]? = some (a, .inl (cA, n, .inl f))) (hg : ∀ j, j < n → f j = g j) (hw : ws.set q0 (a, .inl (cA, n, .inl g)) = w2) (hP : va_P D vwCl ws H) (hD : va_D A ws) : va_P D vwCl w2 H ∧ va_D A w2 := by
  subst hw
  have hlt : q0 < ws.length := (List.getElem?_eq_some_iff.mp ha).1
  have hsame : ∀ (k : Nat) (q : Nat × va_E), (ws.set q0 (a, .inl (cA, n, .inl g)))[k]? = some q → ∃ q' : Nat × va_E, ws[k]? = some q' ∧ q'.1 = q.1 := by
    intro k q hq
    by_cases e : q0 = k
    · subst e
      rw [List.getElem?_set_self hlt] at hq
      cases hq
      exact ⟨_, ha, rfl⟩
    · rw [List.getElem?_set_ne e] at hq
      exact ⟨q, hq, rfl⟩
  refine ⟨fun k q hq => ?_, fun i j p q hp hq e => ?_, fun k q hq => ?_⟩
  · by_cases e : q0 = k
    · subst e
      rw [List.getElem?_set_self hlt] at hq
      cases hq
      have h1 := hP _ _ ha
      show H[a]? = some (vp_cell cA (n, .inl g))
      have h2 : H[a]? = some (vp_cell cA (n, .inl f)) := h1
      rw [h2, vp_cell_i, vp_cell_i]
      unfold arrV
      congr 2
      congr 1
      funext j
      show Value.int (f j.val) = Value.int (g j.val)
      rw [hg j.val j.isLt]
    · rw [List.getElem?_set_ne e] at hq
      exact hP k q hq
  · obtain ⟨p', hp', e1⟩ := hsame i p hp
    obtain ⟨q', hq', e2⟩ := hsame j q hq
    exact hD.1 i j p' q' hp' hq' (by rw [e1, e2, e])
  · obtain ⟨q', hq', e2⟩ := hsame k q hq
    rw [← e2]
    exact hD.2 k q' hq'
/-! the rain, level by level -/
def rowM (h : Nat → Nat) (d : Nat → Bool) (w : Nat → Int32) (k : Nat) : Nat → Nat → Int32
  | 0 => w
  | c + 1 => if h c = k then runf h d (rowM h d w k c) c else rowM h d w k c
def lvM (h : Nat → Nat) (d : Nat → Bool) (x : Int32) : Nat → Nat → Int32
  | 0 => fun _ => x
  | n + 1 => rowM h d (lvM h d x n) (30 - n) 100
def rainF (h : Nat → Nat) (d : Nat → Bool) (x : Int32) : Nat → Int32 := lvM h d x 30
theorem rank_le1 {h : Nat → Nat} {a b : Nat} (ha : a < 100) (hh : h b < h a ∨ (h a = h b ∧ a < b)) : rank h a < rank h b := by
  have h1 := cnt_same (h := h) (k := h a + 1) (c := a) rfl ha
  have h2 : cntA h (h a + 1) (a + 1) ≤ cntA h (h b + 1) b := by
    unfold cntA
    refine fb_ct_sub (fun j hj hp => ?_)
    simp only [Bool.or_eq_true, Bool.and_eq_true, decide_eq_true_eq] at hp ⊢
    omega
  unfold rank
  omega
theorem rank_inj {h : Nat → Nat} {a b : Nat} (ha : a < 100) (hb : b < 100) (e : rank h a = rank h b) : a = b := by
  rcases Nat.lt_trichotomy (h a) (h b) with q | q | q
  · have := rank_le1 hb (Or.inl q); omega
  · rcases Nat.lt_trichotomy a b with r | r | r
    · have := rank_le1 ha (Or.inr ⟨q, r⟩); omega
    · exact r
    · have := rank_le1 hb (Or.inr ⟨q.symm, r⟩); omega
  · have := rank_le1 ha (Or.inl q); omega
theorem ord_at {h tp : Nat → Nat} (ho : ordOK h tp) {c : Nat} (hc : c < 100) : tp (rank h c) = c :=
  rank_inj (ho _ (rank_lt hc)).1 hc (ho _ (rank_lt hc)).2
theorem row_wat {h : Nat → Nat} {d : Nat → Bool} {tp : Nat → Nat} {x : Int32} (ho : ordOK h tp) (k : Nat) (w : Nat → Int32) (hw : ∀ j, j < 100 → w j = wat h d tp x (cntA h (k + 1) 0) j) : ∀ c, c ≤ 100 → ∀ j, j < 100 → rowM h d w k c j = wat h d tp x (cntA h (k + 1) c) j
  | 0, _, j, hj => hw j hj
  | c + 1, hc, j, hj => by
    have ih := row_wat ho k w hw c (by omega)
    simp only [rowM]
    by_cases e : h c = k
    · rw [if_pos e, cnt_same (by omega) (by omega)]
      have hr : rank h c = cntA h (k + 1) c := by unfold rank; rw [e]
      simp only [wat]
      rw [← hr, ord_at ho (by omega), hr]
      exact runf_cong (by omega) ih j hj
    · rw [if_neg e, cnt_other (by omega)]
      exact ih j hj
theorem lv_wat {h : Nat → Nat} {d : Nat → Bool} {tp : Nat → Nat} {x : Int32} (ho : ordOK h tp) (hh : ∀ i, i < 100 → h i ≤ 30) : ∀ n, n ≤ 30 → ∀ j, j < 100 → lvM h d x n j = wat h d tp x (cntA h (31 - n) 0) j
  | 0, _, j, hj => by
    rw [cnt_none hh]; rfl
  | n + 1, hn, j, hj => by
    have ih := lv_wat (d := d) (x := x) ho hh n (by omega)
    simp only [lvM]
    rw [row_wat ho (30 - n) _ (fun j hj => by rw [ih j hj, show 30 - n + 1 = 31 - n by omega]) 100 (Nat.le_refl _) j hj, show 31 - (n + 1) = 30 - n by omega, cnt_next]
theorem low_0 {h : Nat → Nat} {c : Nat} (e : h c = 0) : low h c = none := by
  have : ∀ s, lowS h c s = none := by
    intro s
    induction s with
    | zero => rfl
    | succ s ih =>
      simp only [lowS, lstep, ih, lest, e]
      split
      · rfl
      · rw [if_neg (by omega)]
  exact this 4
theorem run_0 {h : Nat → Nat} {d : Nat → Bool} {w : Nat → Int32} {c : Nat} (e : h c = 0) : runf h d w c = w := by
  unfold runf
  split
  · rfl
  · rw [low_0 e]
theorem wat_end {h : Nat → Nat} {d : Nat → Bool} {tp : Nat → Nat} {x : Int32} (ho : ordOK h tp) (m : Nat) (hm : m = cntA h 1 0) (n : Nat) (hn : m + n ≤ 100) : wat h d tp x (m + n) = wat h d tp x m := by
  induction n with
  | zero => rfl
  | succ n ih =>
    rw [← Nat.add_assoc]
    simp only [wat]
    rw [ih (by omega)]
    refine run_0 ?_
    obtain ⟨h1, h2⟩ := ho (m + n) (by omega)
    refine Nat.eq_zero_of_not_pos (fun hp => ?_)
    generalize tp (m + n) = t at h1 h2 hp
    have h3 := cnt_same (h := h) (k := h t + 1) (c := t) rfl h1
    have h4 : cntA h (h t + 1) (t + 1) ≤ cntA h 1 0 := by
      unfold cntA
      refine fb_ct_sub (fun j hj hq => ?_)
      simp only [Bool.or_eq_true, Bool.and_eq_true, decide_eq_true_eq] at hq ⊢
      omega
    unfold rank at h2
    rw [h2, ← hm] at *
    omega
/-- the sorted cells' rain is the rain level by level -/
theorem wat_rain {h : Nat → Nat} {d : Nat → Bool} {tp : Nat → Nat} {x : Int32} (ho : ordOK h tp) (hh : ∀ i, i < 100 → h i ≤ 30) : ∀ j, j < 100 → wat h d tp x 100 j = rainF h d x j := fun j hj => by
  have h1 : cntA h 1 0 ≤ 100 := fb_ct_le _ _
  have h3 := lv_wat (d := d) (x := x) ho hh 30 (Nat.le_refl _) j hj
  rw [show 31 - 30 = 1 from rfl] at h3
  unfold rainF
  rw [h3]
  generalize hm : cntA h 1 0 = m at h1
  have h2 := wat_end (d := d) (x := x) ho m hm.symm (100 - m) (by omega)
  rw [show m + (100 - m) = 100 by omega] at h2
  rw [h2]
theorem runf_0 {h : Nat → Nat} {d : Nat → Bool} {w : Nat → Int32} {c : Nat} (e : ∀ j, w j = nI 0) : ∀ j, runf h d w c j = nI 0 := by
  intro j
  unfold runf
  by_cases hd : d c = true
  · rw [if_pos hd]; exact e j
  · rw [if_neg hd]
    cases low h c with
    | none => exact e j
    | some b =>
      simp only [upd]
      split
      · rw [e, e]; rfl
      · exact e j
theorem rain_0 (h : Nat → Nat) (d : Nat → Bool) : ∀ j, rainF h d (nI 0) j = nI 0 := by
  have hrow : ∀ (w : Nat → Int32) (k : Nat), (∀ j, w j = nI 0) → ∀ c j, rowM h d w k c j = nI 0 := by
    intro w k hw c
    induction c with
    | zero => exact hw
    | succ c ih =>
      intro j
      simp only [rowM]
      split
      · exact runf_0 ih j
      · exact ih j
  have : ∀ n j, lvM h d (nI 0) n j = nI 0 := by
    intro n
    induction n with
    | zero => intro j; rfl
    | succ n ih => intro j; exact hrow _ _ ih 100 j
  exact this 30
/-! storms: only bits go, each round that changes something has fewer -/
theorem pop_sub {x y : Int32} (h : ∀ i, bt x i = true → bt y i = true) : pop x ≤ pop y := fb_ct_sub (fun k _ hk => h k hk)
theorem pop_lt {x y : Int32} (h : ∀ i, bt x i = true → bt y i = true) (hne : x ≠ y) : pop x < pop y := by
  refine Nat.lt_of_le_of_ne (pop_sub h) (fun e => hne (b_ext (fun i hi => ?_)))
  cases hx : bt x i with
  | true => exact (h i hx).symm
  | false =>
    cases hy : bt y i with
    | false => rfl
    | true =>
      exfalso
      have h1 := fb_ct_upd (bt x) true (i := i) (n := 32) hi
      rw [hx] at h1
      have h2 : fb_ct (fun k => if k = i then true else bt x k) 32 ≤ fb_ct (bt y) 32 := fb_ct_sub (fun k _ hk => by
        by_cases e2 : k = i
        · subst e2; exact hy
        · rw [if_neg e2] at hk; exact h k hk)
      unfold pop at e
      rw [if_pos rfl, if_neg (by decide)] at h1
      omega
theorem dropF_sub {go : Nat → Int32} {gi gs : Int32} : ∀ n, n ≤ 32 → ∀ i, bt (dropF go gi gs n) i = true → bt gs i = true
  | 0, _, i, h => h
  | n + 1, hn, i, h => by
    simp only [dropF] at h
    split at h
    · rw [bt_clr _ (by omega)] at h
      exact dropF_sub n (by omega) i (by simp at h; exact h.1)
    · exact dropF_sub n (by omega) i h
theorem tearF_sub {f pc gp : Nat → Nat} {gi : Int32} : ∀ n, n ≤ 32 → ∀ i, bt (tearF f pc gp gi n) i = true → bt gi i = true
  | 0, _, i, h => h
  | n + 1, hn, i, h => by
    simp only [tearF] at h
    split at h
    · rw [bt_clr _ (by omega)] at h
      exact tearF_sub n (by omega) i (by simp at h; exact h.1)
    · exact tearF_sub n (by omega) i h
theorem rnd_sub {f pc : Nat → Nat} {np : Nat} {go : Nat → Int32} {ts : Nat → Nat} {nt fo : Nat} (hnp : np ≤ 16) (hnt : nt ≤ 8) (x : Int32 × Int32) : (∀ i, bt (rndF f pc np go ts nt fo x).1 i = true → bt x.1 i = true) ∧ (∀ i, bt (rndF f pc np go ts nt fo x).2 i = true → bt x.2 i = true) :=
  ⟨dropF_sub nt (by omega), tearF_sub np (by omega)⟩
def popP (x : Int32 × Int32) : Nat := pop x.1 + pop x.2
theorem rnd_lt {f pc : Nat → Nat} {np : Nat} {go : Nat → Int32} {ts : Nat → Nat} {nt fo : Nat} (hnp : np ≤ 16) (hnt : nt ≤ 8) (x : Int32 × Int32) (hne : rndF f pc np go ts nt fo x ≠ x) : popP (rndF f pc np go ts nt fo x) < popP x := by
  obtain ⟨h1, h2⟩ := rnd_sub (f := f) (pc := pc) (go := go) (ts := ts) (fo := fo) hnp hnt x
  generalize rndF f pc np go ts nt fo x = y at *
  unfold popP
  by_cases e1 : y.1 = x.1
  · by_cases e2 : y.2 = x.2
    · exact absurd (Prod.ext e1 e2) hne
    · have := pop_lt h2 e2
      rw [e1]; omega
  · have a1 := pop_lt h1 e1
    have a2 := pop_sub h2
    omega
theorem stmF_sub {R : Int32 × Int32 → Int32 × Int32} (hR : ∀ x, (∀ i, bt (R x).1 i = true → bt x.1 i = true) ∧ (∀ i, bt (R x).2 i = true → bt x.2 i = true)) : ∀ n x r, (∀ i, bt (stmF R n x r).1.1 i = true → bt x.1 i = true) ∧ (∀ i, bt (stmF R n x r).1.2 i = true → bt x.2 i = true)
  | 0, x, r => ⟨fun _ h => h, fun _ h => h⟩
  | n + 1, x, r => by
    simp only [stmF]
    split
    · exact hR x
    · exact ⟨fun i h => (hR x).1 i ((stmF_sub hR n (R x) (r + 1)).1 i h), fun i h => (hR x).2 i ((stmF_sub hR n (R x) (r + 1)).2 i h)⟩
theorem storm_sub {f pc : Nat → Nat} {np : Nat} {inn : Int32} {tc ts : Nat → Nat} {rp : Nat → Int32} {nt : Nat} {st : Int32} {fo dr : Nat} (hnp : np ≤ 16) (hnt : nt ≤ 8) : (∀ i, bt (stormF f pc np inn tc ts rp nt st fo dr).1.1 i = true → bt st i = true) ∧ (∀ i, bt (stormF f pc np inn tc ts rp nt st fo dr).1.2 i = true → bt inn i = true) := by
  unfold stormF
  split
  · exact ⟨fun _ h => h, fun _ h => h⟩
  · exact stmF_sub (rnd_sub hnp hnt) 25 (st, inn) 0
theorem stmF_r {R : Int32 × Int32 → Int32 × Int32} : ∀ n x r, (stmF R n x r).2 ≤ r + n
  | 0, x, r => Nat.le_refl _
  | n + 1, x, r => by
    simp only [stmF]
    split
    · show r + 1 ≤ _
      omega
    · have := stmF_r (R := R) n (R x) (r + 1); omega
theorem storm_r {f pc : Nat → Nat} {np : Nat} {inn : Int32} {tc ts : Nat → Nat} {rp : Nat → Int32} {nt : Nat} {st : Int32} {fo dr : Nat} : (stormF f pc np inn tc ts rp nt st fo dr).2 ≤ 25 := by
  unfold stormF
  split
  · exact Nat.zero_le _
  · have := stmF_r (R := rndF f pc np (gorF pc tc rp np dr) ts nt fo) 25 (st, inn) 0; omega
/-- bits below n alone -/
def bLt (x : Int32) (n : Nat) : Prop := ∀ i, bt x i = true → i < n
theorem bLt_sub {x y : Int32} {n : Nat} (h : bLt y n) (hs : ∀ i, bt x i = true → bt y i = true) : bLt x n := fun i hi => h i (hs i hi)
theorem bLt_pop {x : Int32} {n : Nat} (h : bLt x n) (hn : n ≤ 32) : pop x = fb_ct (bt x) n := by
  unfold pop
  rw [show 32 = n + (32 - n) by omega, fb_ct_split]
  have : fb_ct (fun k => bt x (n + k)) (32 - n) = 0 := fb_ct_zero.mpr (fun k hk => by
    cases e : bt x (n + k) with
    | false => rfl
    | true => have := h _ e; omega)
  omega
theorem bLt_le {x : Int32} {n : Nat} (h : bLt x n) (hn : n ≤ 32) : pop x ≤ n := by rw [bLt_pop h hn]; exact fb_ct_le _ _
