def isC (x : Int32) : Bool := decide (0 ≤ x) && decide (x < nI 100)
def isT (x : Int32) : Bool := decide (0 ≤ x) && decide (x < nI 10)
def inR (v lo hi : Int32) : Bool := decide (lo ≤ v) && decide (v ≤ hi)
theorem i_nlt {x y : Int32} (h : ¬ x < y) : y ≤ x := by rw [Int32.le_iff_toInt_le]; rw [Int32.lt_iff_toInt_lt] at h; omega
theorem i_nle {x y : Int32} (h : ¬ x ≤ y) : y < x := by rw [Int32.lt_iff_toInt_lt]; rw [Int32.le_iff_toInt_le] at h; omega
theorem i_lt {x y : Int32} (h : x < y) : ¬ y ≤ x := by rw [Int32.le_iff_toInt_le]; rw [Int32.lt_iff_toInt_lt] at h; omega
theorem i_le {x y : Int32} (h : x ≤ y) : ¬ y < x := by rw [Int32.lt_iff_toInt_lt]; rw [Int32.le_iff_toInt_le] at h; omega
theorem isC_nI {k : Nat} (h : k < 100) : isC (nI k) = true := by
  unfold isC
  rw [decide_eq_true (nI_pos' (by omega)), decide_eq_true (nI_lt h (by decide))]; rfl
theorem isC_m1 : isC (-1) = false := by decide
/-- the first number below n with the value k -/
def fst (f : Nat → Nat) (n k : Nat) : Option Nat := (List.range n).find? (fun p => f p == k)
def oI (o : Option Nat) : Int32 := match o with | some p => nI p | none => -1
theorem fst_none {f : Nat → Nat} {n k : Nat} (h : ∀ j, j < n → f j ≠ k) : fst f n k = none := by
  unfold fst
  rw [List.find?_eq_none]
  intro x hx
  have := h x (List.mem_range.mp hx)
  simpa using this
theorem fst_some {f : Nat → Nat} {n k i : Nat} (hi : i < n) (hk : f i = k) (h : ∀ j, j < i → f j ≠ k) : fst f n k = some i := by
  unfold fst
  rw [List.find?_range_eq_some]
  exact ⟨by simpa using hk, List.mem_range.mpr hi, fun j hj => by simpa using h j hj⟩
theorem fst_lt {f : Nat → Nat} {n k p : Nat} (h : fst f n k = some p) : p < n ∧ f p = k := by
  unfold fst at h
  have h1 := List.mem_of_find?_eq_some h
  have h2 := List.find?_some h
  exact ⟨List.mem_range.mp h1, by simpa using h2⟩
theorem fst_no {f : Nat → Nat} {n k j : Nat} (h : fst f n k = none) (hj : j < n) : f j ≠ k := by
  unfold fst at h
  rw [List.find?_eq_none] at h
  simpa using h j (List.mem_range.mpr hj)
theorem isC_t {x : Int32} (h1 : ¬ x < 0) (h2 : ¬ nI 100 ≤ x) : isC x = true := by unfold isC; rw [decide_eq_true (i_nlt h1), decide_eq_true (i_nle h2)]; rfl
theorem isC_f1 {x : Int32} (h1 : x < 0) : isC x = false := by unfold isC; rw [decide_eq_false (i_lt h1)]; rfl
theorem isC_f2 {x : Int32} (h1 : nI 100 ≤ x) : isC x = false := by unfold isC; rw [decide_eq_false (i_le h1), Bool.and_false]
theorem isT_t {x : Int32} (h1 : ¬ x < 0) (h2 : ¬ nI 10 ≤ x) : isT x = true := by unfold isT; rw [decide_eq_true (i_nlt h1), decide_eq_true (i_nle h2)]; rfl
theorem isT_f1 {x : Int32} (h1 : x < 0) : isT x = false := by unfold isT; rw [decide_eq_false (i_lt h1)]; rfl
theorem isT_f2 {x : Int32} (h1 : nI 10 ≤ x) : isT x = false := by unfold isT; rw [decide_eq_false (i_le h1), Bool.and_false]
theorem bI_n1 {b : Bool} (h : ¬ bI b = nI 1) : b = false := by cases b; rfl; exact absurd rfl h
def sideF (a b d : Nat) : Bool := if d = 0 then decide (a / 10 < b / 10) else if d = 1 then decide (b % 10 < a % 10) else if d = 2 then decide (b / 10 < a / 10) else decide (a % 10 < b % 10)

set_option maxHeartbeats 4000000 in
set_option maxRecDepth 100000 in
theorem c_J6_bitCount_0f7a4 (l : Launch) (D : va_G) (cI cZ : ClassId) (sz : Nat) (x : Int32)  : gMi l yJ6_bitCount_0f7a4 cJ6_bitCount_0f7a4 1 .int D cI cZ sz [] [.int x] ({ frames := 0, cells := 0, slots := 0, locals := 0 } : Room) (fun (r : Int32) (_ : Unit) => r = nI (pop x)) (fun (_ : Unit) => []) 0 0 := by
  refine gM_ofi (by decide +kernel) (Nat.le_of_ble_eq_true rfl) ?_
  intro pg ev s mi below meth co A hx hb hr hml hts hown hlocks hname hA hsz hAe hP hK hD hE hS ls hl
  have hl : lv_has ls 1 [(0, .int x)] := hl
  generalize hQ : MQ below _ _ s _ _ A = Q
  refine lv_iload_n (pc := 0) hx hb dJ6_bitCount_0f7a4_0 rfl (lv_at hl 0 rfl) ?_
  refine lv_iload_n (pc := 1) hx hb dJ6_bitCount_0f7a4_1 rfl (lv_at hl 0 rfl) ?_
  refine lv_iconst (pc := 2) hx hb dJ6_bitCount_0f7a4_2 gk_1 ?_
  refine lv_iushr (pc := 3) hx hb dJ6_bitCount_0f7a4_3 rfl ?_
  refine lv_ldcw (pc := 4) hx hb hown (hts _ (gm2 58 rfl rfl)) dJ6_bitCount_0f7a4_4 ?_
  refine lv_iand (pc := 7) hx hb dJ6_bitCount_0f7a4_7 ?_
  refine lv_isub (pc := 8) hx hb dJ6_bitCount_0f7a4_8 ?_
  refine lv_istore_n (pc := 9) (lv' := [(0, .int (x - (((x.toUInt32 >>> ((nI 1).toUInt32 &&& Int32.toUInt32 31)).toInt32) &&& 1431655765)))]) hx hb dJ6_bitCount_0f7a4_9 rfl hl (by decide) rfl (fun ls hl => ?_)
  refine lv_iload_n (pc := 10) hx hb dJ6_bitCount_0f7a4_10 rfl (lv_at hl 0 rfl) ?_
  refine lv_ldcw (pc := 11) hx hb hown (hts _ (gm2 59 rfl rfl)) dJ6_bitCount_0f7a4_11 ?_
  refine lv_iand (pc := 14) hx hb dJ6_bitCount_0f7a4_14 ?_
  refine lv_iload_n (pc := 15) hx hb dJ6_bitCount_0f7a4_15 rfl (lv_at hl 0 rfl) ?_
  refine lv_iconst (pc := 16) hx hb dJ6_bitCount_0f7a4_16 gk_2 ?_
  refine lv_iushr (pc := 17) hx hb dJ6_bitCount_0f7a4_17 rfl ?_
  refine lv_ldcw (pc := 18) hx hb hown (hts _ (gm2 59 rfl rfl)) dJ6_bitCount_0f7a4_18 ?_
  refine lv_iand (pc := 21) hx hb dJ6_bitCount_0f7a4_21 ?_
  refine lv_iadd (pc := 22) hx hb dJ6_bitCount_0f7a4_22 ?_
  refine lv_istore_n (pc := 23) (lv' := [(0, .int (((x - (((x.toUInt32 >>> ((nI 1).toUInt32 &&& Int32.toUInt32 31)).toInt32) &&& 1431655765)) &&& 858993459) + ((((x - (((x.toUInt32 >>> ((nI 1).toUInt32 &&& Int32.toUInt32 31)).toInt32) &&& 1431655765)).toUInt32 >>> ((nI 2).toUInt32 &&& Int32.toUInt32 31)).toInt32) &&& 858993459)))]) hx hb dJ6_bitCount_0f7a4_23 rfl hl (by decide) rfl (fun ls hl => ?_)
  refine lv_iload_n (pc := 24) hx hb dJ6_bitCount_0f7a4_24 rfl (lv_at hl 0 rfl) ?_
  refine lv_iload_n (pc := 25) hx hb dJ6_bitCount_0f7a4_25 rfl (lv_at hl 0 rfl) ?_
  refine lv_iconst (pc := 26) hx hb dJ6_bitCount_0f7a4_26 gk_4 ?_
  refine lv_iushr (pc := 27) hx hb dJ6_bitCount_0f7a4_27 rfl ?_
  refine lv_iadd (pc := 28) hx hb dJ6_bitCount_0f7a4_28 ?_
  refine lv_ldcw (pc := 29) hx hb hown (hts _ (gm2 60 rfl rfl)) dJ6_bitCount_0f7a4_29 ?_
  refine lv_iand (pc := 32) hx hb dJ6_bitCount_0f7a4_32 ?_
  refine lv_istore_n (pc := 33) (lv' := [(0, .int (((((x - (((x.toUInt32 >>> ((nI 1).toUInt32 &&& Int32.toUInt32 31)).toInt32) &&& 1431655765)) &&& 858993459) + ((((x - (((x.toUInt32 >>> ((nI 1).toUInt32 &&& Int32.toUInt32 31)).toInt32) &&& 1431655765)).toUInt32 >>> ((nI 2).toUInt32 &&& Int32.toUInt32 31)).toInt32) &&& 858993459)) + (((((x - (((x.toUInt32 >>> ((nI 1).toUInt32 &&& Int32.toUInt32 31)).toInt32) &&& 1431655765)) &&& 858993459) + ((((x - (((x.toUInt32 >>> ((nI 1).toUInt32 &&& Int32.toUInt32 31)).toInt32) &&& 1431655765)).toUInt32 >>> ((nI 2).toUInt32 &&& Int32.toUInt32 31)).toInt32) &&& 858993459)).toUInt32 >>> ((nI 4).toUInt32 &&& Int32.toUInt32 31)).toInt32)) &&& 252645135))]) hx hb dJ6_bitCount_0f7a4_33 rfl hl (by decide) rfl (fun ls hl => ?_)
  refine lv_iload_n (pc := 34) hx hb dJ6_bitCount_0f7a4_34 rfl (lv_at hl 0 rfl) ?_
  refine lv_iload_n (pc := 35) hx hb dJ6_bitCount_0f7a4_35 rfl (lv_at hl 0 rfl) ?_
  refine lv_bipush (pc := 36) (v := nI 8) hx hb dJ6_bitCount_0f7a4_36 (by decide) ?_
  refine lv_iushr (pc := 38) hx hb dJ6_bitCount_0f7a4_38 rfl ?_
  refine lv_iadd (pc := 39) hx hb dJ6_bitCount_0f7a4_39 ?_
  refine lv_istore_n (pc := 40) (lv' := [(0, .int ((((((x - (((x.toUInt32 >>> ((nI 1).toUInt32 &&& Int32.toUInt32 31)).toInt32) &&& 1431655765)) &&& 858993459) + ((((x - (((x.toUInt32 >>> ((nI 1).toUInt32 &&& Int32.toUInt32 31)).toInt32) &&& 1431655765)).toUInt32 >>> ((nI 2).toUInt32 &&& Int32.toUInt32 31)).toInt32) &&& 858993459)) + (((((x - (((x.toUInt32 >>> ((nI 1).toUInt32 &&& Int32.toUInt32 31)).toInt32) &&& 1431655765)) &&& 858993459) + ((((x - (((x.toUInt32 >>> ((nI 1).toUInt32 &&& Int32.toUInt32 31)).toInt32) &&& 1431655765)).toUInt32 >>> ((nI 2).toUInt32 &&& Int32.toUInt32 31)).toInt32) &&& 858993459)).toUInt32 >>> ((nI 4).toUInt32 &&& Int32.toUInt32 31)).toInt32)) &&& 252645135) + (((((((x - (((x.toUInt32 >>> ((nI 1).toUInt32 &&& Int32.toUInt32 31)).toInt32) &&& 1431655765)) &&& 858993459) + ((((x - (((x.toUInt32 >>> ((nI 1).toUInt32 &&& Int32.toUInt32 31)).toInt32) &&& 1431655765)).toUInt32 >>> ((nI 2).toUInt32 &&& Int32.toUInt32 31)).toInt32) &&& 858993459)) + (((((x - (((x.toUInt32 >>> ((nI 1).toUInt32 &&& Int32.toUInt32 31)).toInt32) &&& 1431655765)) &&& 858993459) + ((((x - (((x.toUInt32 >>> ((nI 1).toUInt32 &&& Int32.toUInt32 31)).toInt32) &&& 1431655765)).toUInt32 >>> ((nI 2).toUInt32 &&& Int32.toUInt32 31)).toInt32) &&& 858993459)).toUInt32 >>> ((nI 4).toUInt32 &&& Int32.toUInt32 31)).toInt32)) &&& 252645135).toUInt32 >>> ((nI 8).toUInt32 &&& Int32.toUInt32 31)).toInt32)))]) hx hb dJ6_bitCount_0f7a4_40 rfl hl (by decide) rfl (fun ls hl => ?_)
  refine lv_iload_n (pc := 41) hx hb dJ6_bitCount_0f7a4_41 rfl (lv_at hl 0 rfl) ?_
  refine lv_iload_n (pc := 42) hx hb dJ6_bitCount_0f7a4_42 rfl (lv_at hl 0 rfl) ?_
  refine lv_bipush (pc := 43) (v := nI 16) hx hb dJ6_bitCount_0f7a4_43 (by decide) ?_
  refine lv_iushr (pc := 45) hx hb dJ6_bitCount_0f7a4_45 rfl ?_
  refine lv_iadd (pc := 46) hx hb dJ6_bitCount_0f7a4_46 ?_
  refine lv_istore_n (pc := 47) (lv' := [(0, .int (((((((x - (((x.toUInt32 >>> ((nI 1).toUInt32 &&& Int32.toUInt32 31)).toInt32) &&& 1431655765)) &&& 858993459) + ((((x - (((x.toUInt32 >>> ((nI 1).toUInt32 &&& Int32.toUInt32 31)).toInt32) &&& 1431655765)).toUInt32 >>> ((nI 2).toUInt32 &&& Int32.toUInt32 31)).toInt32) &&& 858993459)) + (((((x - (((x.toUInt32 >>> ((nI 1).toUInt32 &&& Int32.toUInt32 31)).toInt32) &&& 1431655765)) &&& 858993459) + ((((x - (((x.toUInt32 >>> ((nI 1).toUInt32 &&& Int32.toUInt32 31)).toInt32) &&& 1431655765)).toUInt32 >>> ((nI 2).toUInt32 &&& Int32.toUInt32 31)).toInt32) &&& 858993459)).toUInt32 >>> ((nI 4).toUInt32 &&& Int32.toUInt32 31)).toInt32)) &&& 252645135) + (((((((x - (((x.toUInt32 >>> ((nI 1).toUInt32 &&& Int32.toUInt32 31)).toInt32) &&& 1431655765)) &&& 858993459) + ((((x - (((x.toUInt32 >>> ((nI 1).toUInt32 &&& Int32.toUInt32 31)).toInt32) &&& 1431655765)).toUInt32 >>> ((nI 2).toUInt32 &&& Int32.toUInt32 31)).toInt32) &&& 858993459)) + (((((x - (((x.toUInt32 >>> ((nI 1).toUInt32 &&& Int32.toUInt32 31)).toInt32) &&& 1431655765)) &&& 858993459) + ((((x - (((x.toUInt32 >>> ((nI 1).toUInt32 &&& Int32.toUInt32 31)).toInt32) &&& 1431655765)).toUInt32 >>> ((nI 2).toUInt32 &&& Int32.toUInt32 31)).toInt32) &&& 858993459)).toUInt32 >>> ((nI 4).toUInt32 &&& Int32.toUInt32 31)).toInt32)) &&& 252645135).toUInt32 >>> ((nI 8).toUInt32 &&& Int32.toUInt32 31)).toInt32)) + ((((((((x - (((x.toUInt32 >>> ((nI 1).toUInt32 &&& Int32.toUInt32 31)).toInt32) &&& 1431655765)) &&& 858993459) + ((((x - (((x.toUInt32 >>> ((nI 1).toUInt32 &&& Int32.toUInt32 31)).toInt32) &&& 1431655765)).toUInt32 >>> ((nI 2).toUInt32 &&& Int32.toUInt32 31)).toInt32) &&& 858993459)) + (((((x - (((x.toUInt32 >>> ((nI 1).toUInt32 &&& Int32.toUInt32 31)).toInt32) &&& 1431655765)) &&& 858993459) + ((((x - (((x.toUInt32 >>> ((nI 1).toUInt32 &&& Int32.toUInt32 31)).toInt32) &&& 1431655765)).toUInt32 >>> ((nI 2).toUInt32 &&& Int32.toUInt32 31)).toInt32) &&& 858993459)).toUInt32 >>> ((nI 4).toUInt32 &&& Int32.toUInt32 31)).toInt32)) &&& 252645135) + (((((((x - (((x.toUInt32 >>> ((nI 1).toUInt32 &&& Int32.toUInt32 31)).toInt32) &&& 1431655765)) &&& 858993459) + ((((x - (((x.toUInt32 >>> ((nI 1).toUInt32 &&& Int32.toUInt32 31)).toInt32) &&& 1431655765)).toUInt32 >>> ((nI 2).toUInt32 &&& Int32.toUInt32 31)).toInt32) &&& 858993459)) + (((((x - (((x.toUInt32 >>> ((nI 1).toUInt32 &&& Int32.toUInt32 31)).toInt32) &&& 1431655765)) &&& 858993459) + ((((x - (((x.toUInt32 >>> ((nI 1).toUInt32 &&& Int32.toUInt32 31)).toInt32) &&& 1431655765)).toUInt32 >>> ((nI 2).toUInt32 &&& Int32.toUInt32 31)).toInt32) &&& 858993459)).toUInt32 >>> ((nI 4).toUInt32 &&& Int32.toUInt32 31)).toInt32)) &&& 252645135).toUInt32 >>> ((nI 8).toUInt32 &&& Int32.toUInt32 31)).toInt32)).toUInt32 >>> ((nI 16).toUInt32 &&& Int32.toUInt32 31)).toInt32)))]) hx hb dJ6_bitCount_0f7a4_47 rfl hl (by decide) rfl (fun ls hl => ?_)
  refine lv_iload_n (pc := 48) hx hb dJ6_bitCount_0f7a4_48 rfl (lv_at hl 0 rfl) ?_
  refine lv_bipush (pc := 49) (v := nI 63) hx hb dJ6_bitCount_0f7a4_49 (by decide) ?_
  refine lv_iand (pc := 51) hx hb dJ6_bitCount_0f7a4_51 ?_
  rw [← hQ]
  exact g_iret hx hb hr hlocks hS dJ6_bitCount_0f7a4_52 () (by exact bcnt_eq x) hP hD
set_option maxHeartbeats 4000000 in
set_option maxRecDepth 100000 in
theorem c_J9_floorMod_7cf53 (l : Launch) (D : va_G) (cI cZ : ClassId) (sz : Nat) (a : Nat) (d : Nat) (ha : a < 2 ^ 31) (hd : d < 2 ^ 31) (h0 : 0 < d) : gMi l yJ9_floorMod_7cf53 cJ9_floorMod_7cf53 3 .int D cI cZ sz [] [.int (nI a), .int (nI d)] ({ frames := 0, cells := 0, slots := 0, locals := 0 } : Room) (fun (r : Int32) (_ : Unit) => r = nI (a % d)) (fun (_ : Unit) => []) 0 0 := by
  refine gM_ofi (by decide +kernel) (Nat.le_of_ble_eq_true rfl) ?_
  intro pg ev s mi below meth co A hx hb hr hml hts hown hlocks hname hA hsz hAe hP hK hD hE hS ls hl
  have hl : lv_has ls 3 [(0, .int (nI a)), (1, .int (nI d))] := hl
  generalize hQ : MQ below _ _ s _ _ A = Q
  have hm : a % d < d := Nat.mod_lt _ h0
  refine lv_iload_n (pc := 0) hx hb dJ9_floorMod_7cf53_0 rfl (lv_at hl 0 rfl) ?_
  refine lv_iload_n (pc := 1) hx hb dJ9_floorMod_7cf53_1 rfl (lv_at hl 1 rfl) ?_
  refine g_irem (pc := 2) hx hb dJ9_floorMod_7cf53_2 (nI_ne0 (by omega) (by omega)) (pk_rem (by omega) (by omega) (by omega)) ?_
  refine lv_istore_n (pc := 3) (lv' := [(2, .int (nI (a % d))), (0, .int (nI a)), (1, .int (nI d))]) hx hb dJ9_floorMod_7cf53_3 rfl hl (by decide) rfl (fun ls hl => ?_)
  refine lv_iload_n (pc := 4) hx hb dJ9_floorMod_7cf53_4 rfl (lv_at hl 1 rfl) ?_
  refine lv_iload_n (pc := 5) hx hb dJ9_floorMod_7cf53_5 rfl (lv_at hl 2 rfl) ?_
  refine lv_ixor (pc := 6) hx hb dJ9_floorMod_7cf53_6 ?_
  refine g_top (pc := 7) (w := .int (nI (a ^^^ d))) (congrArg Value.int (fb_xorI _ _)) ?_
  refine g_if_geN (pc := 7) (tgt := 18) hx hb dJ9_floorMod_7cf53_7 (by decide) (by exact Nat.xor_lt_two_pow ha hd) ?_
  refine lv_iload_n (pc := 18) hx hb dJ9_floorMod_7cf53_18 rfl (lv_at hl 0 rfl) ?_
  rw [← hQ]
  exact g_iret hx hb hr hlocks hS dJ9_floorMod_7cf53_19 () (rfl) hP hD
set_option maxHeartbeats 4000000 in
set_option maxRecDepth 100000 in
theorem c_J9_max_7cf53 (l : Launch) (D : va_G) (cI cZ : ClassId) (sz : Nat) (a : Nat) (b : Nat) (ha : a < 2 ^ 31) (hb2 : b < 2 ^ 31) : gMi l yJ9_max_7cf53 cJ9_max_7cf53 2 .int D cI cZ sz [] [.int (nI a), .int (nI b)] ({ frames := 0, cells := 0, slots := 0, locals := 0 } : Room) (fun (r : Int32) (_ : Unit) => r = nI (max a b)) (fun (_ : Unit) => []) 0 0 := by
  refine gM_ofi (by decide +kernel) (Nat.le_of_ble_eq_true rfl) ?_
  intro pg ev s mi below meth co A hx hb hr hml hts hown hlocks hname hA hsz hAe hP hK hD hE hS ls hl
  have hl : lv_has ls 2 [(0, .int (nI a)), (1, .int (nI b))] := hl
  generalize hQ : MQ below _ _ s _ _ A = Q
  refine lv_iload_n (pc := 0) hx hb dJ9_max_7cf53_0 rfl (lv_at hl 0 rfl) ?_
  refine lv_iload_n (pc := 1) hx hb dJ9_max_7cf53_1 rfl (lv_at hl 1 rfl) ?_
  refine g_icmp_ltN (pc := 2) (tgt := 9) hx hb dJ9_max_7cf53_2 (by decide) (by omega) (by omega) (fun c_2 => ?_) (fun c_2 => ?_)
  · refine lv_iload_n (pc := 9) hx hb dJ9_max_7cf53_9 rfl (lv_at hl 1 rfl) ?_
    rw [← hQ]
    exact g_iret hx hb hr hlocks hS dJ9_max_7cf53_10 () (by exact congrArg nI (by omega)) hP hD
  · refine lv_iload_n (pc := 5) hx hb dJ9_max_7cf53_5 rfl (lv_at hl 0 rfl) ?_
    refine lv_goto (pc := 6) (tgt := 10) hx hb dJ9_max_7cf53_6 (by decide) ?_
    rw [← hQ]
    exact g_iret hx hb hr hlocks hS dJ9_max_7cf53_10 () (by exact congrArg nI (by omega)) hP hD
set_option maxHeartbeats 4000000 in
set_option maxRecDepth 100000 in
theorem c_X6_isCell (l : Launch) (D : va_G) (cI cZ : ClassId) (sz : Nat) (x : Int32)  : gMi l yX6_isCell cX6_isCell 1 .boolean D cI cZ sz [] [.int x] ({ frames := 0, cells := 0, slots := 0, locals := 0 } : Room) (fun (r : Int32) (_ : Unit) => r = bI (isC x)) (fun (_ : Unit) => []) 0 0 := by
  refine gM_ofi (by decide +kernel) (Nat.le_of_ble_eq_true rfl) ?_
  intro pg ev s mi below meth co A hx hb hr hml hts hown hlocks hname hA hsz hAe hP hK hD hE hS ls hl
  have hl : lv_has ls 1 [(0, .int x)] := hl
  generalize hQ : MQ below _ _ s _ _ A = Q
  refine lv_iload_n (pc := 0) hx hb dX6_isCell_0 rfl (lv_at hl 0 rfl) ?_
  refine lv_if_lt (pc := 1) (tgt := 14) hx hb dX6_isCell_1 (by decide) (fun c_1 => ?_) (fun c_1 => ?_)
  · refine lv_iconst (pc := 14) hx hb dX6_isCell_14 gk_0 ?_
    rw [← hQ]
    exact g_zret hx hb hr hlocks hS dX6_isCell_15 (isC x) (bI_of0 (by first | exact isC_t c_1 c_7 | exact isC_f1 c_1 | exact isC_f2 c_7)) () (rfl) hP hD
  · refine lv_iload_n (pc := 4) hx hb dX6_isCell_4 rfl (lv_at hl 0 rfl) ?_
    refine lv_bipush (pc := 5) (v := nI 100) hx hb dX6_isCell_5 (by decide) ?_
    refine lv_icmp_ge (pc := 7) (tgt := 14) hx hb dX6_isCell_7 (by decide) (fun c_7 => ?_) (fun c_7 => ?_)
    · refine lv_iconst (pc := 14) hx hb dX6_isCell_14 gk_0 ?_
      rw [← hQ]
      exact g_zret hx hb hr hlocks hS dX6_isCell_15 (isC x) (bI_of0 (by first | exact isC_t c_1 c_7 | exact isC_f1 c_1 | exact isC_f2 c_7)) () (rfl) hP hD
    · refine lv_iconst (pc := 10) hx hb dX6_isCell_10 gk_1 ?_
      refine lv_goto (pc := 11) (tgt := 15) hx hb dX6_isCell_11 (by decide) ?_
      rw [← hQ]
      exact g_zret hx hb hr hlocks hS dX6_isCell_15 (isC x) (bI_of1 (by first | exact isC_t c_1 c_7 | exact isC_f1 c_1 | exact isC_f2 c_7)) () (rfl) hP hD
set_option maxHeartbeats 4000000 in
set_option maxRecDepth 100000 in
theorem c_X6_isOnSlope (l : Launch) (D : va_G) (cI cZ : ClassId) (sz : Nat) (x : Int32) (y : Int32)  : gMi l yX6_isOnSlope cX6_isOnSlope 2 .boolean D cI cZ sz [] [.int x, .int y] ({ frames := 0, cells := 0, slots := 0, locals := 0 } : Room) (fun (r : Int32) (_ : Unit) => r = bI (isT x && isT y)) (fun (_ : Unit) => []) 0 0 := by
  refine gM_ofi (by decide +kernel) (Nat.le_of_ble_eq_true rfl) ?_
  intro pg ev s mi below meth co A hx hb hr hml hts hown hlocks hname hA hsz hAe hP hK hD hE hS ls hl
  have hl : lv_has ls 2 [(0, .int x), (1, .int y)] := hl
  generalize hQ : MQ below _ _ s _ _ A = Q
  refine lv_iload_n (pc := 0) hx hb dX6_isOnSlope_0 rfl (lv_at hl 0 rfl) ?_
  refine lv_if_lt (pc := 1) (tgt := 24) hx hb dX6_isOnSlope_1 (by decide) (fun c_1 => ?_) (fun c_1 => ?_)
  · refine lv_iconst (pc := 24) hx hb dX6_isOnSlope_24 gk_0 ?_
    rw [← hQ]
    exact g_zret hx hb hr hlocks hS dX6_isOnSlope_25 (isT x && isT y) (bI_of0 (by first | (rw [isT_t c_1 c_7, isT_t c_11 c_17]; rfl) | (rw [isT_f1 c_1]; rfl) | (rw [isT_f2 c_7]; rfl) | (rw [isT_f1 c_11, Bool.and_false]) | (rw [isT_f2 c_17, Bool.and_false]))) () (rfl) hP hD
  · refine lv_iload_n (pc := 4) hx hb dX6_isOnSlope_4 rfl (lv_at hl 0 rfl) ?_
    refine lv_bipush (pc := 5) (v := nI 10) hx hb dX6_isOnSlope_5 (by decide) ?_
    refine lv_icmp_ge (pc := 7) (tgt := 24) hx hb dX6_isOnSlope_7 (by decide) (fun c_7 => ?_) (fun c_7 => ?_)
    · refine lv_iconst (pc := 24) hx hb dX6_isOnSlope_24 gk_0 ?_
      rw [← hQ]
      exact g_zret hx hb hr hlocks hS dX6_isOnSlope_25 (isT x && isT y) (bI_of0 (by first | (rw [isT_t c_1 c_7, isT_t c_11 c_17]; rfl) | (rw [isT_f1 c_1]; rfl) | (rw [isT_f2 c_7]; rfl) | (rw [isT_f1 c_11, Bool.and_false]) | (rw [isT_f2 c_17, Bool.and_false]))) () (rfl) hP hD
    · refine lv_iload_n (pc := 10) hx hb dX6_isOnSlope_10 rfl (lv_at hl 1 rfl) ?_
      refine lv_if_lt (pc := 11) (tgt := 24) hx hb dX6_isOnSlope_11 (by decide) (fun c_11 => ?_) (fun c_11 => ?_)
      · refine lv_iconst (pc := 24) hx hb dX6_isOnSlope_24 gk_0 ?_
        rw [← hQ]
        exact g_zret hx hb hr hlocks hS dX6_isOnSlope_25 (isT x && isT y) (bI_of0 (by first | (rw [isT_t c_1 c_7, isT_t c_11 c_17]; rfl) | (rw [isT_f1 c_1]; rfl) | (rw [isT_f2 c_7]; rfl) | (rw [isT_f1 c_11, Bool.and_false]) | (rw [isT_f2 c_17, Bool.and_false]))) () (rfl) hP hD
      · refine lv_iload_n (pc := 14) hx hb dX6_isOnSlope_14 rfl (lv_at hl 1 rfl) ?_
        refine lv_bipush (pc := 15) (v := nI 10) hx hb dX6_isOnSlope_15 (by decide) ?_
        refine lv_icmp_ge (pc := 17) (tgt := 24) hx hb dX6_isOnSlope_17 (by decide) (fun c_17 => ?_) (fun c_17 => ?_)
        · refine lv_iconst (pc := 24) hx hb dX6_isOnSlope_24 gk_0 ?_
          rw [← hQ]
          exact g_zret hx hb hr hlocks hS dX6_isOnSlope_25 (isT x && isT y) (bI_of0 (by first | (rw [isT_t c_1 c_7, isT_t c_11 c_17]; rfl) | (rw [isT_f1 c_1]; rfl) | (rw [isT_f2 c_7]; rfl) | (rw [isT_f1 c_11, Bool.and_false]) | (rw [isT_f2 c_17, Bool.and_false]))) () (rfl) hP hD
        · refine lv_iconst (pc := 20) hx hb dX6_isOnSlope_20 gk_1 ?_
          refine lv_goto (pc := 21) (tgt := 25) hx hb dX6_isOnSlope_21 (by decide) ?_
          rw [← hQ]
          exact g_zret hx hb hr hlocks hS dX6_isOnSlope_25 (isT x && isT y) (bI_of1 (by first | (rw [isT_t c_1 c_7, isT_t c_11 c_17]; rfl) | (rw [isT_f1 c_1]; rfl) | (rw [isT_f2 c_7]; rfl) | (rw [isT_f1 c_11, Bool.and_false]) | (rw [isT_f2 c_17, Bool.and_false]))) () (rfl) hP hD
set_option maxHeartbeats 4000000 in
set_option maxRecDepth 100000 in
theorem c_X6_hasBit (l : Launch) (D : va_G) (cI cZ : ClassId) (sz : Nat) (x : Int32) (k : Nat) (hk : k < 32) : gMi l yX6_hasBit cX6_hasBit 2 .boolean D cI cZ sz [] [.int x, .int (nI k)] ({ frames := 0, cells := 0, slots := 0, locals := 0 } : Room) (fun (r : Int32) (_ : Unit) => r = bI (bt x k)) (fun (_ : Unit) => []) 0 0 := by
  refine gM_ofi (by decide +kernel) (Nat.le_of_ble_eq_true rfl) ?_
  intro pg ev s mi below meth co A hx hb hr hml hts hown hlocks hname hA hsz hAe hP hK hD hE hS ls hl
  have hl : lv_has ls 2 [(0, .int x), (1, .int (nI k))] := hl
  generalize hQ : MQ below _ _ s _ _ A = Q
  refine lv_iload_n (pc := 0) hx hb dX6_hasBit_0 rfl (lv_at hl 0 rfl) ?_
  refine lv_iload_n (pc := 1) hx hb dX6_hasBit_1 rfl (lv_at hl 1 rfl) ?_
  refine lv_ishr (pc := 2) hx hb dX6_hasBit_2 ?_
  refine lv_iconst (pc := 3) hx hb dX6_hasBit_3 gk_1 ?_
  refine lv_iand (pc := 4) hx hb dX6_hasBit_4 ?_
  refine g_top (pc := 5) (w := .int (bI (bt x k))) (congrArg Value.int (has_bit x k hk)) ?_
  refine lv_iconst (pc := 5) hx hb dX6_hasBit_5 gk_1 ?_
  refine lv_icmp_ne (pc := 6) (tgt := 13) hx hb dX6_hasBit_6 (by decide) (fun c_6 => ?_) (fun c_6 => ?_)
  · refine lv_iconst (pc := 13) hx hb dX6_hasBit_13 gk_0 ?_
    rw [← hQ]
    exact g_zret hx hb hr hlocks hS dX6_hasBit_14 (bt x k) (bI_of0 (by first | exact bI_1.mp c_6 | exact bI_n1 c_6)) () (rfl) hP hD
  · refine lv_iconst (pc := 9) hx hb dX6_hasBit_9 gk_1 ?_
    refine lv_goto (pc := 10) (tgt := 14) hx hb dX6_hasBit_10 (by decide) ?_
    rw [← hQ]
    exact g_zret hx hb hr hlocks hS dX6_hasBit_14 (bt x k) (bI_of1 (by first | exact bI_1.mp c_6 | exact bI_n1 c_6)) () (rfl) hP hD
set_option maxHeartbeats 4000000 in
set_option maxRecDepth 100000 in
theorem c_X0_isOnSide (l : Launch) (D : va_G) (cI cZ : ClassId) (sz : Nat) (a : Nat) (b : Nat) (d : Nat) (ha : a < 100) (hb9 : b < 100) (hd : d ≤ 3) : gMi l yX0_isOnSide cX0_isOnSide 3 .boolean D cI cZ sz [] [.int (nI a), .int (nI b), .int (nI d)] ({ frames := 0, cells := 0, slots := 0, locals := 0 } : Room) (fun (r : Int32) (_ : Unit) => r = bI (sideF a b d)) (fun (_ : Unit) => []) 0 0 := by
  refine gM_ofi (by decide +kernel) (Nat.le_of_ble_eq_true rfl) ?_
  intro pg ev s mi below meth co A hx hb hr hml hts hown hlocks hname hA hsz hAe hP hK hD hE hS ls hl
  have hl : lv_has ls 3 [(0, .int (nI a)), (1, .int (nI b)), (2, .int (nI d))] := hl
  generalize hQ : MQ below _ _ s _ _ A = Q
  refine lv_iload_n (pc := 0) hx hb dX0_isOnSide_0 rfl (lv_at hl 2 rfl) ?_
  rcases (show d = 0 ∨ d = 1 ∨ d = 2 ∨ d = 3 by omega) with hd | hd | hd | hd
  · refine g_top (w := .int (nI 0)) (by rw [hd]) ?_
    refine lv_tableIn (pc := 1) (off := 27) (tgt := 28) hx hb dX0_isOnSide_1 (by decide) (by decide) rfl (by decide) ?_
    refine lv_iload_n (pc := 28) hx hb dX0_isOnSide_28 rfl (lv_at hl 0 rfl) ?_
    refine lv_bipush (pc := 29) (v := nI 10) hx hb dX0_isOnSide_29 (by decide) ?_
    refine g_idiv (pc := 31) hx hb dX0_isOnSide_31 (nI_ne0 (by omega) (by omega)) (pk_div (by omega) (by omega) (by omega)) ?_
    refine lv_iload_n (pc := 32) hx hb dX0_isOnSide_32 rfl (lv_at hl 1 rfl) ?_
    refine lv_bipush (pc := 33) (v := nI 10) hx hb dX0_isOnSide_33 (by decide) ?_
    refine g_idiv (pc := 35) hx hb dX0_isOnSide_35 (nI_ne0 (by omega) (by omega)) (pk_div (by omega) (by omega) (by omega)) ?_
    refine g_icmp_geN (pc := 36) (tgt := 43) hx hb dX0_isOnSide_36 (by decide) (by omega) (by omega) (fun c_36 => ?_) (fun c_36 => ?_)
    · refine lv_iconst (pc := 43) hx hb dX0_isOnSide_43 gk_0 ?_
      rw [← hQ]
      exact g_zret hx hb hr hlocks hS dX0_isOnSide_44 (sideF a b d) (bI_of0 (by simp only [sideF, hd]; simp; omega)) () (rfl) hP hD
    · refine lv_iconst (pc := 39) hx hb dX0_isOnSide_39 gk_1 ?_
      refine lv_goto (pc := 40) (tgt := 44) hx hb dX0_isOnSide_40 (by decide) ?_
      rw [← hQ]
      exact g_zret hx hb hr hlocks hS dX0_isOnSide_44 (sideF a b d) (bI_of1 (by simp only [sideF, hd]; simp; omega)) () (rfl) hP hD
  · refine g_top (w := .int (nI 1)) (by rw [hd]) ?_
    refine lv_tableIn (pc := 1) (off := 44) (tgt := 45) hx hb dX0_isOnSide_1 (by decide) (by decide) rfl (by decide) ?_
    refine lv_iload_n (pc := 45) hx hb dX0_isOnSide_45 rfl (lv_at hl 0 rfl) ?_
    refine lv_bipush (pc := 46) (v := nI 10) hx hb dX0_isOnSide_46 (by decide) ?_
    refine g_irem (pc := 48) hx hb dX0_isOnSide_48 (nI_ne0 (by omega) (by omega)) (pk_rem (by omega) (by omega) (by omega)) ?_
    refine lv_iload_n (pc := 49) hx hb dX0_isOnSide_49 rfl (lv_at hl 1 rfl) ?_
    refine lv_bipush (pc := 50) (v := nI 10) hx hb dX0_isOnSide_50 (by decide) ?_
    refine g_irem (pc := 52) hx hb dX0_isOnSide_52 (nI_ne0 (by omega) (by omega)) (pk_rem (by omega) (by omega) (by omega)) ?_
    refine g_icmp_leN (pc := 53) (tgt := 60) hx hb dX0_isOnSide_53 (by decide) (by omega) (by omega) (fun c_53 => ?_) (fun c_53 => ?_)
    · refine lv_iconst (pc := 60) hx hb dX0_isOnSide_60 gk_0 ?_
      rw [← hQ]
      exact g_zret hx hb hr hlocks hS dX0_isOnSide_61 (sideF a b d) (bI_of0 (by simp only [sideF, hd]; simp; omega)) () (rfl) hP hD
    · refine lv_iconst (pc := 56) hx hb dX0_isOnSide_56 gk_1 ?_
      refine lv_goto (pc := 57) (tgt := 61) hx hb dX0_isOnSide_57 (by decide) ?_
      rw [← hQ]
      exact g_zret hx hb hr hlocks hS dX0_isOnSide_61 (sideF a b d) (bI_of1 (by simp only [sideF, hd]; simp; omega)) () (rfl) hP hD
  · refine g_top (w := .int (nI 2)) (by rw [hd]) ?_
    refine lv_tableIn (pc := 1) (off := 61) (tgt := 62) hx hb dX0_isOnSide_1 (by decide) (by decide) rfl (by decide) ?_
    refine lv_iload_n (pc := 62) hx hb dX0_isOnSide_62 rfl (lv_at hl 0 rfl) ?_
    refine lv_bipush (pc := 63) (v := nI 10) hx hb dX0_isOnSide_63 (by decide) ?_
    refine g_idiv (pc := 65) hx hb dX0_isOnSide_65 (nI_ne0 (by omega) (by omega)) (pk_div (by omega) (by omega) (by omega)) ?_
    refine lv_iload_n (pc := 66) hx hb dX0_isOnSide_66 rfl (lv_at hl 1 rfl) ?_
    refine lv_bipush (pc := 67) (v := nI 10) hx hb dX0_isOnSide_67 (by decide) ?_
    refine g_idiv (pc := 69) hx hb dX0_isOnSide_69 (nI_ne0 (by omega) (by omega)) (pk_div (by omega) (by omega) (by omega)) ?_
    refine g_icmp_leN (pc := 70) (tgt := 77) hx hb dX0_isOnSide_70 (by decide) (by omega) (by omega) (fun c_70 => ?_) (fun c_70 => ?_)
    · refine lv_iconst (pc := 77) hx hb dX0_isOnSide_77 gk_0 ?_
      rw [← hQ]
      exact g_zret hx hb hr hlocks hS dX0_isOnSide_78 (sideF a b d) (bI_of0 (by simp only [sideF, hd]; simp; omega)) () (rfl) hP hD
    · refine lv_iconst (pc := 73) hx hb dX0_isOnSide_73 gk_1 ?_
      refine lv_goto (pc := 74) (tgt := 78) hx hb dX0_isOnSide_74 (by decide) ?_
      rw [← hQ]
      exact g_zret hx hb hr hlocks hS dX0_isOnSide_78 (sideF a b d) (bI_of1 (by simp only [sideF, hd]; simp; omega)) () (rfl) hP hD
  · refine g_top (w := .int (nI 3)) (by rw [hd]) ?_
    refine lv_tableOut (pc := 1) (tgt := 79) hx hb dX0_isOnSide_1 (by decide) (by decide) ?_
    refine lv_iload_n (pc := 79) hx hb dX0_isOnSide_79 rfl (lv_at hl 0 rfl) ?_
    refine lv_bipush (pc := 80) (v := nI 10) hx hb dX0_isOnSide_80 (by decide) ?_
    refine g_irem (pc := 82) hx hb dX0_isOnSide_82 (nI_ne0 (by omega) (by omega)) (pk_rem (by omega) (by omega) (by omega)) ?_
    refine lv_iload_n (pc := 83) hx hb dX0_isOnSide_83 rfl (lv_at hl 1 rfl) ?_
    refine lv_bipush (pc := 84) (v := nI 10) hx hb dX0_isOnSide_84 (by decide) ?_
    refine g_irem (pc := 86) hx hb dX0_isOnSide_86 (nI_ne0 (by omega) (by omega)) (pk_rem (by omega) (by omega) (by omega)) ?_
    refine g_icmp_geN (pc := 87) (tgt := 94) hx hb dX0_isOnSide_87 (by decide) (by omega) (by omega) (fun c_87 => ?_) (fun c_87 => ?_)
    · refine lv_iconst (pc := 94) hx hb dX0_isOnSide_94 gk_0 ?_
      rw [← hQ]
      exact g_zret hx hb hr hlocks hS dX0_isOnSide_95 (sideF a b d) (bI_of0 (by simp only [sideF, hd]; simp; omega)) () (rfl) hP hD
    · refine lv_iconst (pc := 90) hx hb dX0_isOnSide_90 gk_1 ?_
      refine lv_goto (pc := 91) (tgt := 95) hx hb dX0_isOnSide_91 (by decide) ?_
      rw [← hQ]
      exact g_zret hx hb hr hlocks hS dX0_isOnSide_95 (sideF a b d) (bI_of1 (by simp only [sideF, hd]; simp; omega)) () (rfl) hP hD
set_option maxHeartbeats 4000000 in
set_option maxRecDepth 100000 in
theorem c_X2_findAt (l : Launch) (D : va_G) (cI cZ : ClassId) (sz : Nat) (A0 A1 : Nat) (np : Nat) (pc : Nat → Nat) (inn : Int32) (k : Nat) (hnp : np ≤ 16) (hpc : ∀ j, j < 16 → pc j < 100) (hk : k < 100) : gMi l yX2_findAt cX2_findAt 3 .int D cI cZ sz [(A0, .inr (2, [.ref A1, .int (nI np), .int inn])), (A1, .inl (cI, 16, .inl (aI pc)))] [.ref A0, .int (nI k)] ({ frames := 0, cells := 0, slots := 0, locals := 0 } : Room) (fun (r : Int32) (_ : Unit) => r = (oI (fst pc np k))) (fun (_ : Unit) => [(A0, .inr (2, [.ref A1, .int (nI np), .int inn])), (A1, .inl (cI, 16, .inl (aI pc)))]) 0 0 := by
  refine gM_ofi (by decide +kernel) (Nat.le_of_ble_eq_true rfl) ?_
  intro pg ev s mi below meth co A hx hb hr hml hts hown hlocks hname hA hsz hAe hP hK hD hE hS ls hl
  have hl : lv_has ls 3 [(0, .ref A0), (1, .int (nI k))] := hl
  generalize hQ : MQ below _ _ s _ _ A = Q
  refine lv_iconst (pc := 0) hx hb dX2_findAt_0 gk_0 ?_
  refine lv_istore_n (pc := 1) (lv' := [(2, .int (nI 0)), (0, .ref A0), (1, .int (nI k))]) hx hb dX2_findAt_1 rfl hl (by decide) rfl (fun ls hl => ?_)
  have lab_2 : ∀ (fuel : Nat) (i : Nat), (np - i) < fuel → (i ≤ np) → (∀ j, j < i → pc j ≠ k) → ∀ (H : Heap) (locs : List Loc) (ls : Array Slot), va_P D vwCl [(A0, .inr (2, [.ref A1, .int (nI np), .int inn])), (A1, .inl (cI, 16, .inl (aI pc)))] H → va_D A [(A0, .inr (2, [.ref A1, .int (nI np), .int inn])), (A1, .inl (cI, 16, .inl (aI pc)))] → va_S A s.heap H locs → lv_has ls 3 [(0, .ref A0), (1, .int (nI k)), (2, .int (nI i))] → W pg l ev ({ frames := 0, cells := 0, slots := 0, locals := 0 } : Room) s mi [(.ref A0 : Value), .int (nI k)].toArray below meth co H locs 0 0 Q (F0 mi 2 ls []) := by
    intro fuel
    induction fuel with
    | zero => intro i hm; exact absurd hm (Nat.not_lt_zero _)
    | succ fuel ih_2 =>
      intro i hm_2 hi hj H locs ls hP hD hS hl
      refine lv_iload_n (pc := 2) hx hb dX2_findAt_2 rfl (lv_at hl 2 rfl) ?_
      refine lv_aload_n (pc := 3) hx hb dX2_findAt_3 rfl (lv_at hl 0 rfl) ?_
      refine gf_X2_15 (pc := 4) hx hb hts hown hK hP 0 rfl rfl dX2_findAt_4 ?_
      refine g_icmp_geN (pc := 7) (tgt := 28) hx hb dX2_findAt_7 (by decide) (by omega) (by omega) (fun c_7 => ?_) (fun c_7 => ?_)
      · refine lv_iconst (pc := 28) (v := -1) hx hb dX2_findAt_28 (by decide) ?_
        rw [← hQ]
        exact g_iret hx hb hr hlocks hS dX2_findAt_29 () (by rw [fst_none (fun j h => hj j (by omega))]; rfl) hP hD
      · refine lv_aload_n (pc := 10) hx hb dX2_findAt_10 rfl (lv_at hl 0 rfl) ?_
        refine gf_X2_9 (pc := 11) hx hb hts hown hK hP 0 rfl rfl dX2_findAt_11 ?_
        refine lv_iload_n (pc := 14) hx hb dX2_findAt_14 rfl (lv_at hl 2 rfl) ?_
        refine g_iald (pc := 15) (v := nI (pc i)) hx hb hK hP 1 0 rfl rfl dX2_findAt_15 (by first | assumption | omega) (by decide) rfl ?_
        refine lv_iload_n (pc := 16) hx hb dX2_findAt_16 rfl (lv_at hl 1 rfl) ?_
        refine g_icmp_neN (pc := 17) (tgt := 22) hx hb dX2_findAt_17 (by decide) (by have := hpc i (by omega); omega) (by have := hpc i (by omega); omega) (fun c_17 => ?_) (fun c_17 => ?_)
        · refine lv_iinc (pc := 22) (v := nI (i + 1)) (lv' := [(2, .int (nI (i + 1))), (0, .ref A0), (1, .int (nI k))]) hx hb dX2_findAt_22 hl (k := 2) rfl (gi_1 _) (by decide) rfl (fun ls hl => ?_)
          refine lv_goto (pc := 25) (tgt := 2) hx hb dX2_findAt_25 (by decide) ?_
          exact ih_2 (i + 1) (by omega) (show (i + 1) ≤ np from by first | assumption | omega) (show ∀ j, j < (i + 1) → pc j ≠ k from by exact lt_s hj c_17) _ _ _ hP hD hS (lv_sub hl [1, 2, 0] rfl)
        · refine lv_iload_n (pc := 20) hx hb dX2_findAt_20 rfl (lv_at hl 2 rfl) ?_
          rw [← hQ]
          exact g_iret hx hb hr hlocks hS dX2_findAt_21 () (by rw [fst_some (by omega) c_17 hj]; rfl) hP hD
  exact lab_2 (np - 0 + 1) 0 (Nat.lt_succ_self _) (show 0 ≤ np from by first | assumption | omega) (show ∀ j, j < 0 → pc j ≠ k from by exact fun j h => absurd h (Nat.not_lt_zero j)) _ _ _ hP hD hS (lv_sub hl [1, 2, 0] rfl)
