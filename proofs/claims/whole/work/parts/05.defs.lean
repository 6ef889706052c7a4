abbrev aI (f : Nat → Nat) : Nat → Int32 := fun i => nI (f i)
abbrev aB (b : Nat → Bool) : Nat → Int32 := fun i => bI (b i)
theorem aI_up (f : Nat → Nat) (k v : Nat) : upd (aI f) k (nI v) = aI (va_up f k v) := by
  funext j
  simp only [upd, va_up, aI]
  split <;> rfl
theorem aB_up (f : Nat → Bool) (k : Nat) (v : Bool) : upd (aB f) k (bI v) = aB (va_up f k v) := by
  funext j
  simp only [upd, va_up, aB]
  split <;> rfl
theorem aB_up1 (f : Nat → Bool) (k : Nat) : upd (aB f) k (nI 1) = aB (va_up f k true) := aB_up f k true
theorem aB_up0 (f : Nat → Bool) (k : Nat) : upd (aB f) k (nI 0) = aB (va_up f k false) := aB_up f k false
theorem bI_of1 {b : Bool} (h : b = true) : nI 1 = bI b := by subst h; rfl
theorem bI_of0 {b : Bool} (h : b = false) : nI 0 = bI b := by subst h; rfl
theorem gk_0 : Int32.ofInt 0 = nI 0 := by decide
theorem gk_1 : Int32.ofInt 1 = nI 1 := by decide
theorem gk_2 : Int32.ofInt 2 = nI 2 := by decide
theorem gk_3 : Int32.ofInt 3 = nI 3 := by decide
theorem gk_4 : Int32.ofInt 4 = nI 4 := by decide
theorem gk_5 : Int32.ofInt 5 = nI 5 := by decide
theorem gi_1 (x : Nat) : nI x + Int32.ofInt 1 = nI (x + 1) := nI_1 x
theorem gi_5 (x : Nat) : nI x + Int32.ofInt 5 = nI (x + 5) := by rw [gk_5]; exact nI_add x 5
theorem gi_m1 {x : Nat} (h : 1 ≤ x) : nI x + Int32.ofInt (-1) = nI (x - 1) := by
  obtain ⟨y, rfl⟩ : ∃ y, x = y + 1 := ⟨x - 1, by omega⟩
  exact pk_m1 y
theorem gM_ofi {S : Type} {l : Launch} {y : MethodName} {code : ByteArray} {nL : Nat} {ret : FieldType} {D : va_G} {cI cZ : ClassId} {sz : Nat} {ws : va_W} {av : List Value} {rm : Room} {post : Int32 → S → Prop} {w1 : S → va_W} {mc ms : Nat} (hy : plainFor y = true) (hlen : (lg_sl av).length ≤ nL)
    (body : ∀ (p : Program) (e : Env) (s : State) (m : MethodId) (below : List Frame) (meth : Method) (c : Code) (A : Nat → Prop), p.tables.exec = Jvm.exec → c.code = code → meth.sig.returnType = some ret → c.maxLocals = nL → (∀ w ∈ gWs, w.before av.toArray s = true) → s.vm.findClass y.cls = some m.cls → meth.locks = false → meth.name = y.name →
      (∀ q, s.heap.size ≤ q → A q) → sz = s.heap.size → va_A ws sz = A → va_P D vwCl ws s.heap → va_K D vwCl (gT cI cZ) s → va_D A ws → gE A s s.heap → va_S A s.heap s.heap [] → ∀ ls : Array Slot, lv_has ls nL (lv_args 0 av) → W p l e rm s m av.toArray below meth c s.heap [] 0 0 (MQ below (va_Qi post (fun u => gB D A (w1 u)) A) av.toArray s mc ms A) (F0 m 0 ls [])) :
    gMi l y code nL ret D cI cZ sz ws av rm post w1 mc ms := gM_of (Qc := fun A => va_Qi post (fun u => gB D A (w1 u)) A) hy hlen body
theorem gM_ofl {S : Type} {l : Launch} {y : MethodName} {code : ByteArray} {nL : Nat} {D : va_G} {cI cZ : ClassId} {sz : Nat} {ws : va_W} {av : List Value} {rm : Room} {post : Int64 → S → Prop} {w1 : S → va_W} {mc ms : Nat} (hy : plainFor y = true) (hlen : (lg_sl av).length ≤ nL)
    (body : ∀ (p : Program) (e : Env) (s : State) (m : MethodId) (below : List Frame) (meth : Method) (c : Code) (A : Nat → Prop), p.tables.exec = Jvm.exec → c.code = code → meth.sig.returnType = some .long → c.maxLocals = nL → (∀ w ∈ gWs, w.before av.toArray s = true) → s.vm.findClass y.cls = some m.cls → meth.locks = false → meth.name = y.name →
      (∀ q, s.heap.size ≤ q → A q) → sz = s.heap.size → va_A ws sz = A → va_P D vwCl ws s.heap → va_K D vwCl (gT cI cZ) s → va_D A ws → gE A s s.heap → va_S A s.heap s.heap [] → ∀ ls : Array Slot, lv_has ls nL (lv_args 0 av) → W p l e rm s m av.toArray below meth c s.heap [] 0 0 (MQ below (va_Ql post (fun u => gB D A (w1 u)) A) av.toArray s mc ms A) (F0 m 0 ls [])) :
    gMl l y code nL D cI cZ sz ws av rm post w1 mc ms := gM_of (Qc := fun A => va_Ql post (fun u => gB D A (w1 u)) A) hy hlen body
theorem gM_ofv {S : Type} {l : Launch} {y : MethodName} {code : ByteArray} {nL : Nat} {D : va_G} {cI cZ : ClassId} {sz : Nat} {ws : va_W} {av : List Value} {rm : Room} {post : S → Prop} {w1 : S → va_W} {mc ms : Nat} (hy : plainFor y = true) (hlen : (lg_sl av).length ≤ nL)
    (body : ∀ (p : Program) (e : Env) (s : State) (m : MethodId) (below : List Frame) (meth : Method) (c : Code) (A : Nat → Prop), p.tables.exec = Jvm.exec → c.code = code → meth.sig.returnType = none → c.maxLocals = nL → (∀ w ∈ gWs, w.before av.toArray s = true) → s.vm.findClass y.cls = some m.cls → meth.locks = false → meth.name = y.name →
      (∀ q, s.heap.size ≤ q → A q) → sz = s.heap.size → va_A ws sz = A → va_P D vwCl ws s.heap → va_K D vwCl (gT cI cZ) s → va_D A ws → gE A s s.heap → va_S A s.heap s.heap [] → ∀ ls : Array Slot, lv_has ls nL (lv_args 0 av) → W p l e rm s m av.toArray below meth c s.heap [] 0 0 (MQ below (va_Qv post (fun u => gB D A (w1 u)) A) av.toArray s mc ms A) (F0 m 0 ls [])) :
    gMv l y code nL D cI cZ sz ws av rm post w1 mc ms := gM_of (Qc := fun A => va_Qv post (fun u => gB D A (w1 u)) A) hy hlen body

def bt (x : Int32) (i : Nat) : Bool := x.toBitVec.getLsbD i
theorem b_ext {x y : Int32} (h : ∀ i, i < 32 → bt x i = bt y i) : x = y := Int32.toBitVec_inj.mp (BitVec.eq_of_getLsbD_eq (fun i hi => h i hi))
theorem b_or (x y : Int32) (i : Nat) : bt (x ||| y) i = (bt x i || bt y i) := by unfold bt; rw [Int32.toBitVec_or, BitVec.getLsbD_or]
theorem b_and (x y : Int32) (i : Nat) : bt (x &&& y) i = (bt x i && bt y i) := by unfold bt; rw [Int32.toBitVec_and, BitVec.getLsbD_and]
theorem b_xor (x y : Int32) (i : Nat) : bt (x ^^^ y) i = (bt x i ^^ bt y i) := by unfold bt; rw [Int32.toBitVec_xor, BitVec.getLsbD_xor]
theorem b_big {x : Int32} {i : Nat} (h : 32 ≤ i) : bt x i = false := BitVec.getLsbD_of_ge _ _ h
theorem b_255 (i : Nat) : bt 255 i = decide (i < 8) := by
  rcases Nat.lt_or_ge i 32 with h | h
  · exact (by decide +kernel : ∀ i, i < 32 → bt 255 i = decide (i < 8)) i h
  · rw [b_big h, decide_eq_false (by omega)]
theorem b_65535 (i : Nat) : bt 65535 i = decide (i < 16) := by
  rcases Nat.lt_or_ge i 32 with h | h
  · exact (by decide +kernel : ∀ i, i < 32 → bt 65535 i = decide (i < 16)) i h
  · rw [b_big h, decide_eq_false (by omega)]
theorem b_m1 : ∀ i, i < 32 → bt (-1) i = true := by decide +kernel
theorem b_0 (i : Nat) : bt 0 i = false := BitVec.getLsbD_zero
theorem s_l : ∀ n, n < 32 → ((nI n &&& 31).toBitVec.smod 32).toNat = n := by decide +kernel
theorem s_u : ∀ n, n < 32 → (((nI n).toUInt32 &&& Int32.toUInt32 31).toBitVec % 32).toNat = n := by decide +kernel
theorem b_shl (n : Nat) (hn : n < 32) (x : Int32) {i : Nat} (hi : i < 32) : bt (x <<< (nI n &&& 31)) i = (decide (n ≤ i) && bt x (i - n)) := by
  unfold bt
  rw [Int32.toBitVec_shiftLeft]
  show (x.toBitVec <<< ((nI n &&& 31).toBitVec.smod 32).toNat).getLsbD i = _
  rw [s_l n hn, BitVec.getLsbD_shiftLeft]
  rcases Nat.lt_or_ge i n with h | h
  · simp [h, Nat.not_le.mpr h]
  · simp [hi, h, Nat.not_lt.mpr h]
theorem b_ushr (n : Nat) (hn : n < 32) (x : Int32) (i : Nat) : bt ((x.toUInt32 >>> ((nI n).toUInt32 &&& Int32.toUInt32 31)).toInt32) i = bt x (n + i) := by
  show (x.toUInt32 >>> ((nI n).toUInt32 &&& Int32.toUInt32 31)).toBitVec.getLsbD i = x.toUInt32.toBitVec.getLsbD (n + i)
  rw [UInt32.toBitVec_shiftRight]
  show (x.toUInt32.toBitVec >>> (((nI n).toUInt32 &&& Int32.toUInt32 31).toBitVec % 32).toNat).getLsbD i = _
  rw [s_u n hn, BitVec.getLsbD_ushiftRight]
theorem b_sshr (n : Nat) (hn : n < 32) (x : Int32) {i : Nat} (hi : i < 32) : bt (x >>> (nI n &&& 31)) i = if n + i < 32 then bt x (n + i) else bt x 31 := by
  unfold bt
  rw [Int32.toBitVec_shiftRight]
  show (x.toBitVec.sshiftRight ((nI n &&& 31).toBitVec.smod 32).toNat).getLsbD i = _
  rw [s_l n hn, BitVec.getLsbD_sshiftRight, BitVec.msb_eq_getLsbD_last]
  simp [hi]
theorem b_shl8 (x : Int32) {i : Nat} (hi : i < 32) : bt (x <<< ((8 : Int32) &&& 31)) i = (decide (8 ≤ i) && bt x (i - 8)) := b_shl 8 (by omega) x hi
theorem b_shl16 (x : Int32) {i : Nat} (hi : i < 32) : bt (x <<< ((16 : Int32) &&& 31)) i = (decide (16 ≤ i) && bt x (i - 16)) := b_shl 16 (by omega) x hi
theorem b_shl24 (x : Int32) {i : Nat} (hi : i < 32) : bt (x <<< ((24 : Int32) &&& 31)) i = (decide (24 ≤ i) && bt x (i - 24)) := b_shl 24 (by omega) x hi
theorem b_sshr8 (x : Int32) {i : Nat} (hi : i < 32) : bt (x >>> ((8 : Int32) &&& 31)) i = if 8 + i < 32 then bt x (8 + i) else bt x 31 := b_sshr 8 (by omega) x hi
def fb_ct (p : Nat → Bool) : Nat → Nat
  | 0 => 0
  | n + 1 => fb_ct p n + (if p n then 1 else 0)
theorem fb_ct_succ (p : Nat → Bool) (n : Nat) : fb_ct p (n + 1) = fb_ct p n + (if p n then 1 else 0) := rfl
theorem fb_ct_le (p : Nat → Bool) : ∀ n, fb_ct p n ≤ n
  | 0 => Nat.le_refl _
  | n + 1 => by
    have h := fb_ct_le p n
    rw [fb_ct_succ]
    split <;> omega
theorem fb_ct_step (p : Nat → Bool) (m : Nat) : ∀ n, fb_ct p m ≤ fb_ct p (m + n)
  | 0 => Nat.le_refl _
  | n + 1 => by
    have h := fb_ct_step p m n
    show fb_ct p m ≤ fb_ct p (m + n + 1)
    rw [fb_ct_succ]
    omega
theorem fb_ct_mono (p : Nat → Bool) {m n : Nat} (h : m ≤ n) : fb_ct p m ≤ fb_ct p n := by
  have := fb_ct_step p m (n - m)
  rwa [Nat.add_sub_cancel' h] at this
theorem fb_ct_cong {p q : Nat → Bool} : ∀ {n : Nat}, (∀ k, k < n → p k = q k) → fb_ct p n = fb_ct q n
  | 0, _ => rfl
  | n + 1, h => by
    rw [fb_ct_succ, fb_ct_succ, fb_ct_cong (fun k hk => h k (by omega)), h n (by omega)]
/-- one place changed -/
theorem fb_ct_out (p : Nat → Bool) (b : Bool) {i n : Nat} (h : n ≤ i) : fb_ct (fun k => if k = i then b else p k) n = fb_ct p n :=
  fb_ct_cong fun k hk => if_neg (by omega)
theorem fb_ct_upd (p : Nat → Bool) (b : Bool) {i : Nat} : ∀ {n : Nat}, i < n → fb_ct (fun k => if k = i then b else p k) n + (if p i then 1 else 0) = fb_ct p n + (if b then 1 else 0)
  | 0, h => absurd h (Nat.not_lt_zero i)
  | n + 1, h => by
    rw [fb_ct_succ, fb_ct_succ]
    rcases Nat.lt_or_ge i n with q | q
    · have := fb_ct_upd p b q
      have e : (if n = i then b else p n) = p n := if_neg (by omega)
      rw [e]
      omega
    · have e : i = n := by omega
      subst e
      rw [fb_ct_out p b (Nat.le_refl _)]
      simp only [if_true]
      omega
theorem fb_ct_sub {p q : Nat → Bool} : ∀ {n : Nat}, (∀ k, k < n → p k = true → q k = true) → fb_ct p n ≤ fb_ct q n
  | 0, _ => Nat.le_refl _
  | n + 1, h => by
    have h1 := fb_ct_sub (n := n) (p := p) (q := q) (fun k hk => h k (by omega))
    have h2 := h n (by omega)
    rw [fb_ct_succ, fb_ct_succ]
    cases hp : p n <;> cases hq : q n <;> simp_all <;> omega
theorem fb_ct_or {p q : Nat → Bool} : ∀ {n : Nat}, (∀ k, k < n → ¬ (p k = true ∧ q k = true)) → fb_ct (fun k => p k || q k) n = fb_ct p n + fb_ct q n
  | 0, _ => rfl
  | n + 1, h => by
    have h1 := fb_ct_or (n := n) (p := p) (q := q) (fun k hk => h k (by omega))
    have h2 := h n (by omega)
    rw [fb_ct_succ, fb_ct_succ, fb_ct_succ, h1]
    cases hp : p n <;> cases hq : q n <;> simp_all <;> omega
theorem fb_ct_not (p : Nat → Bool) : ∀ n, fb_ct p n + fb_ct (fun k => !p k) n = n
  | 0 => rfl
  | n + 1 => by
    have h := fb_ct_not p n
    rw [fb_ct_succ, fb_ct_succ]
    cases p n <;> simp <;> omega
theorem fb_ct_split (p : Nat → Bool) (m : Nat) : ∀ n, fb_ct p (m + n) = fb_ct p m + fb_ct (fun k => p (m + k)) n
  | 0 => rfl
  | n + 1 => by
    have h := fb_ct_split p m n
    show fb_ct p (m + n + 1) = _
    rw [fb_ct_succ, fb_ct_succ, h, Nat.add_assoc]
theorem fb_ct_zero {p : Nat → Bool} : ∀ {n : Nat}, fb_ct p n = 0 ↔ ∀ k, k < n → p k = false
  | 0 => ⟨fun _ k hk => absurd hk (Nat.not_lt_zero k), fun _ => rfl⟩
  | n + 1 => by
    have h := fb_ct_zero (p := p) (n := n)
    rw [fb_ct_succ]
    constructor
    · intro e k hk
      have e1 : fb_ct p n = 0 := by omega
      rcases Nat.lt_or_ge k n with q | q
      · exact h.mp e1 k q
      · have ek : k = n := by omega
        subst ek
        cases hp : p k
        · rfl
        · simp [hp] at e
    · intro a
      rw [h.mpr (fun k hk => a k (by omega)), a n (by omega)]
      rfl
theorem fb_ct_pos {p : Nat → Bool} {n : Nat} : 0 < fb_ct p n ↔ ∃ k, k < n ∧ p k = true := by
  constructor
  · intro h
    refine Classical.byContradiction fun hx => ?_
    have := fb_ct_zero.mpr (fun k hk => by
      cases hp : p k
      · rfl
      · exact absurd ⟨k, hk, hp⟩ hx : ∀ k, k < n → p k = false)
    omega
  · rintro ⟨k, hk, hp⟩
    rcases Nat.eq_zero_or_pos (fb_ct p n) with e | e
    · have := fb_ct_zero.mp e k hk
      rw [this] at hp
      cases hp
    · exact e
theorem fb_ct_all {p : Nat → Bool} {n : Nat} : fb_ct p n = n ↔ ∀ k, k < n → p k = true := by
  have h := fb_ct_not p n
  constructor
  · intro e k hk
    have z : fb_ct (fun k => !p k) n = 0 := by omega
    have := fb_ct_zero.mp z k hk
    cases hp : p k
    · simp [hp] at this
    · rfl
  · intro a
    have z : fb_ct (fun k => !p k) n = 0 := fb_ct_zero.mpr (fun k hk => by simp [a k hk])
    omega
/-- the k-th place with the property -/
theorem fb_ct_kth {p : Nat → Bool} {k : Nat} : ∀ {n : Nat}, k < fb_ct p n → ∃ i, i < n ∧ p i = true ∧ fb_ct p i = k
  | 0, h => absurd h (Nat.not_lt_zero k)
  | n + 1, h => by
    rcases Nat.lt_or_ge k (fb_ct p n) with q | q
    · obtain ⟨i, h1, h2⟩ := fb_ct_kth q
      exact ⟨i, by omega, h2⟩
    · rw [fb_ct_succ] at h
      cases hp : p n
      · simp [hp] at h; omega
      · simp [hp] at h
        exact ⟨n, by omega, hp, by omega⟩
theorem fb_ct_kth_one {p : Nat → Bool} {i j : Nat} (hi : p i = true) (hj : p j = true) (e : fb_ct p i = fb_ct p j) : i = j := by
  have key : ∀ a b : Nat, a < b → p a = true → fb_ct p a < fb_ct p b := by
    intro a b hab ha
    have h := fb_ct_mono p (show a + 1 ≤ b from hab)
    rw [fb_ct_succ, ha] at h
    simp at h
    omega
  rcases Nat.lt_trichotomy i j with q | q | q
  · have := key i j q hi; omega
  · exact q
  · have := key j i q hj; omega
/-! ===== sums over a range: one place changed, parts, bounds ===== -/
def fb_sm (f : Nat → Nat) : Nat → Nat
  | 0 => 0
  | n + 1 => fb_sm f n + f n
theorem fb_sm_succ (f : Nat → Nat) (n : Nat) : fb_sm f (n + 1) = fb_sm f n + f n := rfl
theorem fb_sm_cong {f g : Nat → Nat} : ∀ {n : Nat}, (∀ k, k < n → f k = g k) → fb_sm f n = fb_sm g n
  | 0, _ => rfl
  | n + 1, h => by rw [fb_sm_succ, fb_sm_succ, fb_sm_cong (fun k hk => h k (by omega)), h n (by omega)]
theorem fb_sm_out (f : Nat → Nat) (v : Nat) {i n : Nat} (h : n ≤ i) : fb_sm (fun k => if k = i then v else f k) n = fb_sm f n :=
  fb_sm_cong fun k hk => if_neg (by omega)
theorem fb_sm_upd (f : Nat → Nat) (v : Nat) {i : Nat} : ∀ {n : Nat}, i < n → fb_sm (fun k => if k = i then v else f k) n + f i = fb_sm f n + v
  | 0, h => absurd h (Nat.not_lt_zero i)
  | n + 1, h => by
    rw [fb_sm_succ, fb_sm_succ]
    rcases Nat.lt_or_ge i n with q | q
    · have := fb_sm_upd f v q
      have e : (if n = i then v else f n) = f n := if_neg (by omega)
      rw [e]
      omega
    · have e : i = n := by omega
      subst e
      rw [fb_sm_out f v (Nat.le_refl _)]
      simp only [if_true]
      omega
theorem fb_sm_add (f g : Nat → Nat) : ∀ n, fb_sm (fun k => f k + g k) n = fb_sm f n + fb_sm g n
  | 0 => rfl
  | n + 1 => by
    have h := fb_sm_add f g n
    rw [fb_sm_succ, fb_sm_succ, fb_sm_succ, h]
    omega
theorem fb_sm_le {f g : Nat → Nat} : ∀ {n : Nat}, (∀ k, k < n → f k ≤ g k) → fb_sm f n ≤ fb_sm g n
  | 0, _ => Nat.le_refl _
  | n + 1, h => by
    have h1 := fb_sm_le (n := n) (f := f) (g := g) (fun k hk => h k (by omega))
    have h2 := h n (by omega)
    rw [fb_sm_succ, fb_sm_succ]
    omega
theorem fb_sm_const (c : Nat) : ∀ n, fb_sm (fun _ => c) n = n * c
  | 0 => by rw [Nat.zero_mul]; rfl
  | n + 1 => by rw [fb_sm_succ, fb_sm_const c n, Nat.succ_mul]
theorem fb_sm_bound {f : Nat → Nat} {c n : Nat} (h : ∀ k, k < n → f k ≤ c) : fb_sm f n ≤ n * c := by
  rw [← fb_sm_const c n]
  exact fb_sm_le h
theorem fb_sm_mono (f : Nat → Nat) (m : Nat) : ∀ n, fb_sm f m ≤ fb_sm f (m + n)
  | 0 => Nat.le_refl _
  | n + 1 => by
    have h := fb_sm_mono f m n
    show fb_sm f m ≤ fb_sm f (m + n + 1)
    rw [fb_sm_succ]
    omega
theorem fb_sm_part (f : Nat → Nat) {i n : Nat} (h : i < n) : fb_sm f i + f i ≤ fb_sm f n := by
  have := fb_sm_mono f (i + 1) (n - (i + 1))
  rw [fb_sm_succ, show i + 1 + (n - (i + 1)) = n by omega] at this
  exact this
theorem fb_sm_split (f : Nat → Nat) (m : Nat) : ∀ n, fb_sm f (m + n) = fb_sm f m + fb_sm (fun k => f (m + k)) n
  | 0 => rfl
  | n + 1 => by
    have h := fb_sm_split f m n
    show fb_sm f (m + n + 1) = _
    rw [fb_sm_succ, fb_sm_succ, h, Nat.add_assoc]
theorem fb_sm_zero {f : Nat → Nat} {n : Nat} (h : fb_sm f n = 0) : ∀ k, k < n → f k = 0 := fun k hk => by
  have := fb_sm_part f hk
  omega
/-- the same over whole numbers -/
theorem fa_lt (a b : Int32) : a < b ↔ a.toInt < b.toInt := Int32.lt_iff_toInt_lt
theorem fa_le (a b : Int32) : a ≤ b ↔ a.toInt ≤ b.toInt := Int32.le_iff_toInt_le
theorem fa_eq (a b : Int32) : a = b ↔ a.toInt = b.toInt := Int32.toInt_inj.symm
theorem fa_and (a b : Nat) : nI a &&& nI b = nI (a &&& b) := by
  apply Int32.toBitVec_inj.1
  show BitVec.ofNat 32 a &&& BitVec.ofNat 32 b = BitVec.ofNat 32 (a &&& b)
  apply BitVec.eq_of_getLsbD_eq
  intro i hi
  simp [hi]
theorem fb_xorI (a b : Nat) : nI a ^^^ nI b = nI (a ^^^ b) := by
  apply Int32.toBitVec_inj.1
  show BitVec.ofNat 32 a ^^^ BitVec.ofNat 32 b = BitVec.ofNat 32 (a ^^^ b)
  apply BitVec.eq_of_getLsbD_eq
  intro i hi
  simp [hi]
/-! the count of bits -/
def pop (x : Int32) : Nat := fb_ct (bt x) 32
theorem pop_le (x : Int32) : pop x ≤ 32 := fb_ct_le _ _
theorem and_hi (x M m : Nat) (hm : m < 256) : x &&& (256 * M + m) = 256 * ((x / 256) &&& M) + ((x % 256) &&& m) := by
  have h1 : (x &&& (256 * M + m)) / 256 = (x / 256) &&& M := by
    rw [show (256 : Nat) = 2 ^ 8 from rfl, ← Nat.shiftRight_eq_div_pow, Nat.shiftRight_and_distrib, Nat.shiftRight_eq_div_pow, Nat.shiftRight_eq_div_pow]
    congr 1
    omega
  have h2 : (x &&& (256 * M + m)) % 256 = (x % 256) &&& m := by
    rw [show (256 : Nat) = 2 ^ 8 from rfl, Nat.and_mod_two_pow]
    congr 1
    omega
  have := Nat.div_add_mod (x &&& (256 * M + m)) 256
  omega
theorem and_4 (x m : Nat) (hm : m < 256) : x &&& (256 * (256 * (256 * m + m) + m) + m) = 256 * (256 * (256 * ((x / 256 / 256 / 256) &&& m) + ((x / 256 / 256 % 256) &&& m)) + ((x / 256 % 256) &&& m)) + ((x % 256) &&& m) := by
  rw [and_hi _ _ _ hm, and_hi _ _ _ hm, and_hi _ _ _ hm]
def pb_c (b : Nat) : Nat := b - ((b / 2) &&& 85)
def pb_e (b : Nat) : Nat := (pb_c b &&& 51) + ((pb_c b / 4) &&& 51)
def pb_p (b : Nat) : Nat := (pb_e b + pb_e b / 16) &&& 15
theorem pb_1 : ∀ b, b < 256 → ∀ t, t < 2 → (b / 2 + 128 * t) &&& 85 = (b / 2) &&& 85 := by decide +kernel
theorem pb_1b : ∀ b, b < 256 → (b / 2) &&& 85 ≤ b := by decide +kernel
theorem pb_2 : ∀ b, b < 256 → ∀ t, t < 4 → (b / 4 + 64 * t) &&& 51 = (b / 4) &&& 51 := by decide +kernel
theorem pb_3 : ∀ b, b < 256 → pb_e b / 16 ≤ 4 ∧ pb_e b % 16 ≤ 4 ∧ pb_p b ≤ 8 ∧ pb_p b = fb_ct (fun k => b.testBit k) 8 ∧ pb_c b < 256 ∧ (pb_c b &&& 51) ≤ 51 ∧ (pb_c b / 4 &&& 51) ≤ 51 := by decide +kernel
theorem pb_4 : ∀ e, e < 73 → ∀ t, t < 5 → (e + 16 * t) &&& 15 = e &&& 15 := by decide +kernel
theorem pb_5 (e0 e1 e2 e3 : Nat) (u0 : e0 / 16 ≤ 4) (v0 : e0 % 16 ≤ 4) (u1 : e1 / 16 ≤ 4) (v1 : e1 % 16 ≤ 4) (u2 : e2 / 16 ≤ 4) (v2 : e2 % 16 ≤ 4) (u3 : e3 / 16 ≤ 4) (v3 : e3 % 16 ≤ 4) :
    ((256 * (256 * (256 * e3 + e2) + e1) + e0) + (256 * (256 * (256 * e3 + e2) + e1) + e0) / 16) / 256 / 256 / 256 = e3 + e3 / 16 ∧ ((256 * (256 * (256 * e3 + e2) + e1) + e0) + (256 * (256 * (256 * e3 + e2) + e1) + e0) / 16) / 256 / 256 % 256 = (e2 + e2 / 16) + 16 * (e3 % 16) ∧ ((256 * (256 * (256 * e3 + e2) + e1) + e0) + (256 * (256 * (256 * e3 + e2) + e1) + e0) / 16) / 256 % 256 = (e1 + e1 / 16) + 16 * (e2 % 16) ∧ ((256 * (256 * (256 * e3 + e2) + e1) + e0) + (256 * (256 * (256 * e3 + e2) + e1) + e0) / 16) % 256 = (e0 + e0 / 16) + 16 * (e1 % 16) := by
  obtain ⟨q0, r0, rfl⟩ : ∃ q r, e0 = 16 * q + r := ⟨e0 / 16, e0 % 16, by omega⟩
  have hE : (256 * (256 * (256 * e3 + e2) + e1) + (16 * q0 + r0)) / 16 = (16 * q0 + r0) / 16 + 16 * (256 * (256 * e3 + e2) + e1) := by omega
  rw [hE]
  generalize hz : (16 * q0 + r0) / 16 = z0 at *
  have g1 : 16 * e1 = 16 * (e1 % 16) + 256 * (e1 / 16) := by omega
  have g2 : 16 * e2 = 16 * (e2 % 16) + 256 * (e2 / 16) := by omega
  have g3 : 16 * e3 = 16 * (e3 % 16) + 256 * (e3 / 16) := by omega
  have b0 : 16 * q0 + r0 ≤ 68 := by omega
  have b1 : e1 ≤ 68 := by omega
  have b2 : e2 ≤ 68 := by omega
  have b3 : e3 ≤ 68 := by omega
  generalize e1 / 16 = z1 at *
  generalize e2 / 16 = z2 at *
  generalize e3 / 16 = z3 at *
  generalize e1 % 16 = w1 at *
  generalize e2 % 16 = w2 at *
  generalize e3 % 16 = w3 at *
  generalize 16 * q0 + r0 = e0 at *
  have hx : 256 * (256 * (256 * e3 + e2) + e1) + e0 + (z0 + 16 * (256 * (256 * e3 + e2) + e1)) = 256 * (256 * (256 * (e3 + z3) + (e2 + z2 + 16 * w3)) + (e1 + z1 + 16 * w2)) + (e0 + z0 + 16 * w1) := by omega
  rw [hx]
  have d0 : e0 + z0 + 16 * w1 < 256 := by omega
  have d1 : e1 + z1 + 16 * w2 < 256 := by omega
  have d2 : e2 + z2 + 16 * w3 < 256 := by omega
  clear hx g1 g2 g3 hE hz b0 b1 b2 b3
  generalize e0 + z0 + 16 * w1 = d0 at *
  generalize e1 + z1 + 16 * w2 = d1 at *
  generalize e2 + z2 + 16 * w3 = d2 at *
  generalize e3 + z3 = d3 at *
  refine ⟨?_, ?_, ?_, ?_⟩ <;> omega
theorem pb_6 (p0 p1 p2 p3 : Nat) (h0 : p0 ≤ 8) (h1 : p1 ≤ 8) (h2 : p2 ≤ 8) (h3 : p3 ≤ 8) : ((256 * (256 * (256 * p3 + p2) + p1) + p0) + (256 * (256 * (256 * p3 + p2) + p1) + p0) / 256 + ((256 * (256 * (256 * p3 + p2) + p1) + p0) + (256 * (256 * (256 * p3 + p2) + p1) + p0) / 256) / 65536) % 2 ^ 6 = p0 + p1 + p2 + p3 := by
  have a1 : (256 * (256 * (256 * p3 + p2) + p1) + p0) / 256 = 256 * (256 * p3 + p2) + p1 := by omega
  have a2 : (256 * (256 * (256 * p3 + p2) + p1) + p0) + (256 * (256 * p3 + p2) + p1) = 65536 * (256 * p3 + (p2 + p3)) + (256 * (p1 + p2) + (p0 + p1)) := by omega
  rw [a1, a2]
  have a3 : (65536 * (256 * p3 + (p2 + p3)) + (256 * (p1 + p2) + (p0 + p1))) / 65536 = 256 * p3 + (p2 + p3) := by omega
  rw [a3]
  have a4 : 65536 * (256 * p3 + (p2 + p3)) + (256 * (p1 + p2) + (p0 + p1)) + (256 * p3 + (p2 + p3)) = 64 * (1024 * (256 * p3 + (p2 + p3)) + 4 * (p1 + p2) + 4 * p3) + (p0 + p1 + p2 + p3) := by omega
  rw [a4, show (2 : Nat) ^ 6 = 64 from rfl, Nat.mul_add_mod]
  exact Nat.mod_eq_of_lt (by omega)
def popN (n : Nat) : Nat :=
  let n1 := n - ((n / 2) &&& 1431655765)
  let n2 := (n1 &&& 858993459) + ((n1 / 4) &&& 858993459)
  let n3 := (n2 + n2 / 16) &&& 252645135
  let n4 := n3 + n3 / 256
  (n4 + n4 / 65536) &&& 63
theorem popN_eq (b0 b1 b2 b3 : Nat) (h0 : b0 < 256) (h1 : b1 < 256) (h2 : b2 < 256) (h3 : b3 < 256) : popN (256 * (256 * (256 * b3 + b2) + b1) + b0) = pb_p b0 + pb_p b1 + pb_p b2 + pb_p b3 := by
  have A : (256 * (256 * (256 * b3 + b2) + b1) + b0) / 2 &&& 1431655765 = 256 * (256 * (256 * (b3 / 2 &&& 85) + (b2 / 2 &&& 85)) + (b1 / 2 &&& 85)) + (b0 / 2 &&& 85) := by
    rw [show 1431655765 = 256 * (256 * (256 * 85 + 85) + 85) + 85 from rfl, and_4 _ _ (by decide)]
    generalize hx : (256 * (256 * (256 * b3 + b2) + b1) + b0) / 2 = x
    rw [show x % 256 = b0 / 2 + 128 * (b1 % 2) by omega, show x / 256 % 256 = b1 / 2 + 128 * (b2 % 2) by omega, show x / 256 / 256 % 256 = b2 / 2 + 128 * (b3 % 2) by omega, show x / 256 / 256 / 256 = b3 / 2 by omega,
      pb_1 b0 h0 _ (by omega), pb_1 b1 h1 _ (by omega), pb_1 b2 h2 _ (by omega)]
  have e1 : (256 * (256 * (256 * b3 + b2) + b1) + b0) - ((256 * (256 * (256 * b3 + b2) + b1) + b0) / 2 &&& 1431655765) = 256 * (256 * (256 * pb_c b3 + pb_c b2) + pb_c b1) + pb_c b0 := by
    rw [A]
    have q0 := pb_1b b0 h0
    have q1 := pb_1b b1 h1
    have q2 := pb_1b b2 h2
    have q3 := pb_1b b3 h3
    unfold pb_c
    omega
  obtain ⟨u0, v0, w0, -, k0, r0, s0⟩ := pb_3 b0 h0
  obtain ⟨u1, v1, w1, -, k1, r1, s1⟩ := pb_3 b1 h1
  obtain ⟨u2, v2, w2, -, k2, r2, s2⟩ := pb_3 b2 h2
  obtain ⟨u3, v3, w3, -, k3, r3, s3⟩ := pb_3 b3 h3
  have e2 : ((256 * (256 * (256 * pb_c b3 + pb_c b2) + pb_c b1) + pb_c b0) &&& 858993459) + ((256 * (256 * (256 * pb_c b3 + pb_c b2) + pb_c b1) + pb_c b0) / 4 &&& 858993459) = 256 * (256 * (256 * pb_e b3 + pb_e b2) + pb_e b1) + pb_e b0 := by
    rw [show 858993459 = 256 * (256 * (256 * 51 + 51) + 51) + 51 from rfl, and_4 _ _ (by decide), and_4 _ _ (by decide)]
    generalize hx : (256 * (256 * (256 * pb_c b3 + pb_c b2) + pb_c b1) + pb_c b0) = x
    generalize hy : x / 4 = y
    rw [show x % 256 = pb_c b0 by omega, show x / 256 % 256 = pb_c b1 by omega, show x / 256 / 256 % 256 = pb_c b2 by omega, show x / 256 / 256 / 256 = pb_c b3 by omega,
      show y % 256 = pb_c b0 / 4 + 64 * (pb_c b1 % 4) by omega, show y / 256 % 256 = pb_c b1 / 4 + 64 * (pb_c b2 % 4) by omega, show y / 256 / 256 % 256 = pb_c b2 / 4 + 64 * (pb_c b3 % 4) by omega, show y / 256 / 256 / 256 = pb_c b3 / 4 by omega,
      pb_2 _ k0 _ (by omega), pb_2 _ k1 _ (by omega), pb_2 _ k2 _ (by omega)]
    unfold pb_e
    omega
  have e3 : ((256 * (256 * (256 * pb_e b3 + pb_e b2) + pb_e b1) + pb_e b0) + (256 * (256 * (256 * pb_e b3 + pb_e b2) + pb_e b1) + pb_e b0) / 16) &&& 252645135 = 256 * (256 * (256 * pb_p b3 + pb_p b2) + pb_p b1) + pb_p b0 := by
    rw [show 252645135 = 256 * (256 * (256 * 15 + 15) + 15) + 15 from rfl, and_4 _ _ (by decide)]
    obtain ⟨y0, y1, y2, y3⟩ := pb_5 (pb_e b0) (pb_e b1) (pb_e b2) (pb_e b3) u0 v0 u1 v1 u2 v2 u3 v3
    rw [y0, y1, y2, y3,
      pb_4 _ (by omega) _ (by omega), pb_4 _ (by omega) _ (by omega), pb_4 _ (by omega) _ (by omega)]
    rfl
  unfold popN
  dsimp only
  rw [e1, e2, e3]
  rw [show (63 : Nat) = 2 ^ 6 - 1 from rfl, Nat.and_two_pow_sub_one_eq_mod]
  exact pb_6 _ _ _ _ w0 w1 w2 w3
theorem popN_ct (n : Nat) (h : n < 2 ^ 32) : popN n = fb_ct (fun k => n.testBit k) 32 := by
  have e : n = 256 * (256 * (256 * (n / 2 ^ 24) + n / 2 ^ 16 % 2 ^ 8) + n / 2 ^ 8 % 2 ^ 8) + n % 2 ^ 8 := by omega
  have hb : ∀ j k, k < 8 → (n / 2 ^ j % 2 ^ 8).testBit k = n.testBit (j + k) := fun j k hk => by
    rw [Nat.testBit_mod_two_pow, Nat.testBit_div_two_pow]
    simp [hk, Nat.add_comm]
  have hc : ∀ j, pb_p (n / 2 ^ j % 2 ^ 8) = fb_ct (fun k => n.testBit (j + k)) 8 := fun j => by
    rw [(pb_3 _ (Nat.mod_lt _ (by decide))).2.2.2.1]
    exact fb_ct_cong (fun k hk => hb j k hk)
  have h3 : n / 2 ^ 24 = n / 2 ^ 24 % 2 ^ 8 := by omega
  have h0 : n % 2 ^ 8 = n / 2 ^ 0 % 2 ^ 8 := by simp
  conv => lhs; rw [e]
  rw [popN_eq _ _ _ _ (Nat.mod_lt _ (by decide)) (Nat.mod_lt _ (by decide)) (Nat.mod_lt _ (by decide)) (by omega), h3, h0, hc, hc, hc, hc]
  rw [show (32 : Nat) = 8 + (8 + (8 + 8)) from rfl, fb_ct_split, fb_ct_split, fb_ct_split]
  simp only [Nat.zero_add, ← Nat.add_assoc]
def bcnt (x : Int32) : Int32 :=
  let a := x - ((x.toUInt32 >>> ((nI 1).toUInt32 &&& Int32.toUInt32 31)).toInt32 &&& 1431655765)
  let b := (a &&& 858993459) + ((a.toUInt32 >>> ((nI 2).toUInt32 &&& Int32.toUInt32 31)).toInt32 &&& 858993459)
  let c := (b + (b.toUInt32 >>> ((nI 4).toUInt32 &&& Int32.toUInt32 31)).toInt32) &&& 252645135
  let d := c + (c.toUInt32 >>> ((nI 8).toUInt32 &&& Int32.toUInt32 31)).toInt32
  (d + (d.toUInt32 >>> ((nI 16).toUInt32 &&& Int32.toUInt32 31)).toInt32) &&& nI 63
theorem bt_nI {n i : Nat} (hi : i < 32) : bt (nI n) i = n.testBit i := by
  show (BitVec.ofNat 32 n).getLsbD i = _
  rw [BitVec.getLsbD_ofNat]
  simp [hi]
theorem bcnt_eq (x : Int32) : bcnt x = nI (pop x) := by
  obtain ⟨n, hn, rfl⟩ : ∃ n, n < 2 ^ 32 ∧ x = nI n := ⟨x.toBitVec.toNat, x.toBitVec.isLt, by
    apply Int32.toBitVec_inj.mp
    show _ = BitVec.ofNat 32 x.toBitVec.toNat
    rw [BitVec.ofNat_toNat, BitVec.setWidth_eq]⟩
  have hp : pop (nI n) = popN n := by
    rw [popN_ct n hn]
    exact fb_ct_cong (fun k hk => bt_nI hk)
  rw [hp]
  have k5 : (1431655765 : Int32) = nI 1431655765 := rfl
  have k3 : (858993459 : Int32) = nI 858993459 := rfl
  have kf : (252645135 : Int32) = nI 252645135 := rfl
  have l1 : (n / 2) &&& 1431655765 ≤ n := Nat.le_trans Nat.and_le_left (Nat.div_le_self _ _)
  unfold bcnt popN
  dsimp only
  rw [pk_ushrN hn _ 1 (by decide), k5, fa_and, pk_sub l1, k3]
  have b1 : n - (n / 2 &&& 1431655765) < 2 ^ 32 := by omega
  generalize n - (n / 2 &&& 1431655765) = n1 at b1 ⊢
  have m1 : n1 &&& 858993459 ≤ 858993459 := Nat.and_le_right
  have m2 : n1 / 4 &&& 858993459 ≤ 858993459 := Nat.and_le_right
  rw [pk_ushrN b1 _ 2 (by decide), fa_and, fa_and, nI_add]
  have b2 : (n1 &&& 858993459) + (n1 / 4 &&& 858993459) < 2 ^ 32 := by omega
  rw [show n1 / 2 ^ 2 = n1 / 4 from rfl]
  generalize (n1 &&& 858993459) + (n1 / 4 &&& 858993459) = n2 at b2 ⊢
  rw [pk_ushrN b2 _ 4 (by decide), kf, nI_add, fa_and, show n2 / 2 ^ 4 = n2 / 16 from rfl]
  have m3 : (n2 + n2 / 16) &&& 252645135 ≤ 252645135 := Nat.and_le_right
  generalize (n2 + n2 / 16) &&& 252645135 = n3 at m3 ⊢
  rw [pk_ushrN (by omega) _ 8 (by decide), nI_add, pk_ushrN (by omega) _ 16 (by decide), nI_add, fa_and]
/-! bits of masks -/
theorem bt_1 (k : Nat) (hk : k < 32) (i : Nat) : bt (nI 1 <<< (nI k &&& 31)) i = decide (i = k) := by
  rcases Nat.lt_or_ge i 32 with h | h
  · rw [b_shl k hk _ h]
    rcases Nat.lt_or_ge i k with h2 | h2
    · rw [decide_eq_false (by omega), decide_eq_false (by omega)]; rfl
    · rw [decide_eq_true h2, bt_nI (by omega), Bool.true_and]
      rcases Nat.eq_or_lt_of_le h2 with h3 | h3
      · subst h3; simp
      · rw [decide_eq_false (by omega)]
        rw [show i - k = (i - k - 1) + 1 by omega, Nat.testBit_succ]; simp
  · rw [b_big h, decide_eq_false (by omega)]
theorem has_bit (x : Int32) (k : Nat) (hk : k < 32) : ((x >>> (nI k &&& 31)) &&& nI 1) = bI (bt x k) := by
  apply b_ext
  intro i hi
  rw [b_and, b_sshr k hk x hi]
  rcases Nat.eq_zero_or_pos i with h | h
  · subst h
    rw [if_pos (by omega), Nat.add_zero]
    cases bt x k <;> decide
  · have h1 : bt (nI 1) i = false := by rw [bt_nI hi, show i = (i - 1) + 1 by omega, Nat.testBit_succ]; simp
    rw [h1, Bool.and_false]
    cases bt x k
    · show false = bt (nI 0) i
      rw [bt_nI hi]; simp
    · show false = bt (nI 1) i
      rw [h1]
theorem bI_1 {b : Bool} : bI b = nI 1 ↔ b = true := by cases b <;> decide
theorem bI_0 {b : Bool} : bI b = nI 0 ↔ b = false := by cases b <;> decide
theorem b_not (x : Int32) {i : Nat} (hi : i < 32) : bt (x ^^^ (-1)) i = !bt x i := by rw [b_xor, b_m1 i hi, Bool.xor_true]

