/-! numbers: what a branch says, as integers -/
theorem q_lt {x y : Int32} {a b : Int} (h : x < y) (hx : x.toInt = a) (hy : y.toInt = b) : a < b := by
  rw [← hx, ← hy]; exact Int32.lt_iff_toInt_lt.mp h
theorem q_nlt {x y : Int32} {a b : Int} (h : ¬ x < y) (hx : x.toInt = a) (hy : y.toInt = b) : b ≤ a := by
  rw [← hx, ← hy]; exact Int.not_lt.mp (fun q => h (Int32.lt_iff_toInt_lt.mpr q))
theorem q_le {x y : Int32} {a b : Int} (h : x ≤ y) (hx : x.toInt = a) (hy : y.toInt = b) : a ≤ b := by
  rw [← hx, ← hy]; exact Int32.le_iff_toInt_le.mp h
theorem q_nle {x y : Int32} {a b : Int} (h : ¬ x ≤ y) (hx : x.toInt = a) (hy : y.toInt = b) : b < a := by
  rw [← hx, ← hy]; exact Int.not_le.mp (fun q => h (Int32.le_iff_toInt_le.mpr q))
theorem q_eq {x y : Int32} {a b : Int} (h : x = y) (hx : x.toInt = a) (hy : y.toInt = b) : a = b := by
  rw [← hx, ← hy, h]
theorem q_ne {x y : Int32} {a b : Int} (h : ¬ x = y) (hx : x.toInt = a) (hy : y.toInt = b) : a ≠ b := by
  rw [← hx, ← hy]; exact fun q => h (Int32.toInt_inj.mp q)
theorem q_in {i : Int32} {n : Nat} {a : Int} (ha : i.toInt = a) (h0 : 0 ≤ a) (h1 : a < n) : vp_in i n := vp_in_iff.mpr ⟨by rw [ha]; exact h0, by rw [ha]; exact h1⟩
theorem q_bmod {z : Int} (h1 : -2147483648 ≤ z) (h2 : z < 2147483648) : z.bmod (2 ^ 32) = z := by
  rw [Int.bmod_def]; simp only [Nat.reducePow]; split <;> omega
theorem q_add {x a b : Int32} {p q : Int} (h : x = a + b) (ha : a.toInt = p) (hb : b.toInt = q) (h1 : -2147483648 ≤ p + q) (h2 : p + q < 2147483648) : x.toInt = p + q := by
  rw [h, Int32.toInt_add, ha, hb]; exact q_bmod h1 h2
theorem q_sub {x a b : Int32} {p q : Int} (h : x = a - b) (ha : a.toInt = p) (hb : b.toInt = q) (h1 : -2147483648 ≤ p - q) (h2 : p - q < 2147483648) : x.toInt = p - q := by
  rw [h, Int32.toInt_sub, ha, hb]; exact q_bmod h1 h2
theorem q_mul {x a b : Int32} {p q : Int} (h : x = a * b) (ha : a.toInt = p) (hb : b.toInt = q) (h1 : -2147483648 ≤ p * q) (h2 : p * q < 2147483648) : x.toInt = p * q := by
  rw [h, Int32.toInt_mul, ha, hb]; exact q_bmod h1 h2
theorem q_nn {x : Int32} (h : 0 ≤ x.toInt) : ¬ x < 0 := fun q => by
  have := q_lt (a := x.toInt) (b := 0) q rfl (by decide)
  omega
theorem q_01 {v : Int32} (h : v.toInt = 0 ∨ v.toInt = 1) : v = 0 ∨ v = 1 := h.elim (fun q => Or.inl (Int32.toInt_inj.mp (by rw [q]; decide))) (fun q => Or.inr (Int32.toInt_inj.mp (by rw [q]; decide)))
/-- the sum of the first places of a row, as the machine adds -/
def sumI (f : Nat → Int32) : Nat → Int32
  | 0 => 0
  | n + 1 => sumI f n + f n
theorem fill_step {f : Nat → Int32} {i i' v : Int32} (h0 : 0 ≤ i.toInt) (e : i'.toInt = i.toInt + 1) (hf : ∀ j : Nat, (j : Int) < i.toInt → f j = v) : ∀ j : Nat, (j : Int) < i'.toInt → upd f i.toNatClampNeg v j = v := by
  intro j hj
  by_cases hq : j = i.toNatClampNeg
  · subst hq; exact pk_us
  · rw [pk_un hq]
    refine hf j ?_
    have hc : (i.toNatClampNeg : Int) = i.toInt := by
      show ((i.toInt.toNat : Nat) : Int) = i.toInt
      omega
    omega
theorem sum_step {f : Nat → Int32} {i i' a : Int32} (h0 : 0 ≤ i.toInt) (e : i'.toInt = i.toInt + 1) (ha : a = sumI f i.toInt.toNat) {x y : Int32} (hx : x = f i.toNatClampNeg) (hy : y = a + x) : y = sumI f i'.toInt.toNat := by
  rw [e, show (i.toInt + 1).toNat = i.toInt.toNat + 1 by omega, hy, hx, ha]
  rfl
theorem cpy_at {g f h : Nat → Int32} {n : Nat} (e : g = va_cpy f h 0 0 n) : ∀ j : Nat, j < n → g j = f j := by
  intro j hj
  rw [e, pk_cpy_in (Nat.zero_le _) (by omega)]
  simp
theorem sum_one {g : Nat → Int32} (h : ∀ j : Nat, j < 9 → g j = 1) : (sumI g 1).toInt = 1 := by
  show ((0 : Int32) + g 0).toInt = 1
  rw [h 0 (by omega)]
  decide
theorem cl_le {y : Int32} {n : Nat} (h : y.toInt ≤ n) : (0 : Int32).toNatClampNeg + y.toNatClampNeg ≤ n := by
  show 0 + y.toInt.toNat ≤ n
  omega
/-! cars: which days are in the set, how many cars are out, the most of them -/
def bitAt (d e : Int32) : Int32 := (d >>> (e &&& 31)) &&& 1
theorem bit01 (d e : Int32) : (bitAt d e).toInt = 0 ∨ (bitAt d e).toInt = 1 := by
  obtain ⟨j, hj, he⟩ := pk_andE (d >>> (e &&& 31)) (m := 1) 1 (by decide)
  unfold bitAt
  rw [he]
  rcases (show j = 0 ∨ j = 1 by omega) with rfl | rfl
  · exact Or.inl (by decide)
  · exact Or.inr (by decide)
def coF (days : Int32) (aw d : Int) : Nat → Int
  | 0 => 0
  | n + 1 => coF days aw d n + (if (bitAt days (nI n)).toInt = 1 ∧ 24 * (d - n) < aw then 1 else 0)
def moF (days : Int32) (aw : Int) : Nat → Int
  | 0 => 0
  | n + 1 => if (bitAt days (nI n)).toInt = 1 then max (moF days aw n) (coF days aw n (n + 1)) else moF days aw n
theorem nI_back {e : Int32} (h0 : 0 ≤ e.toInt) : nI e.toInt.toNat = e := by
  apply Int32.toInt_inj.mp
  have h1 : e.toInt < 2 ^ 31 := e.toInt_lt
  rw [nI_toInt (by omega)]
  omega
theorem co_step {days e e' ot ot' : Int32} {aw d : Int} (h0 : 0 ≤ e.toInt) (he : e'.toInt = e.toInt + 1) (ho : ot.toInt = coF days aw d e.toInt.toNat) (hb : (bitAt days e).toInt = 1) (hl : 24 * (d - e.toInt) < aw) (ho' : ot'.toInt = ot.toInt + 1) : ot'.toInt = coF days aw d e'.toInt.toNat := by
  rw [he, show (e.toInt + 1).toNat = e.toInt.toNat + 1 by omega, ho', ho]
  show _ = coF days aw d e.toInt.toNat + _
  rw [nI_back h0, if_pos ⟨hb, by rw [show ((e.toInt.toNat : Nat) : Int) = e.toInt by omega]; exact hl⟩]
theorem co_skip {days e e' ot ot' : Int32} {aw d : Int} (h0 : 0 ≤ e.toInt) (he : e'.toInt = e.toInt + 1) (ho : ot.toInt = coF days aw d e.toInt.toNat) (hb : ¬ ((bitAt days e).toInt = 1 ∧ 24 * (d - e.toInt) < aw)) (ho' : ot'.toInt = ot.toInt) : ot'.toInt = coF days aw d e'.toInt.toNat := by
  rw [he, show (e.toInt + 1).toNat = e.toInt.toNat + 1 by omega, ho', ho]
  show _ = coF days aw d e.toInt.toNat + _
  rw [nI_back h0, if_neg (by rw [show ((e.toInt.toNat : Nat) : Int) = e.toInt by omega]; exact hb)]
  omega
theorem q_max {x a b : Int32} (h : x = if a < b then b else a) : x.toInt = max a.toInt b.toInt := by
  rw [h]
  split
  · rename_i q
    have := q_lt (a := a.toInt) (b := b.toInt) q rfl rfl
    omega
  · rename_i q
    have := q_nlt (a := a.toInt) (b := b.toInt) q rfl rfl
    omega
theorem mo_step {days d d' mo mo' c : Int32} {aw : Int} (h0 : 0 ≤ d.toInt) (he : d'.toInt = d.toInt + 1) (hm : mo.toInt = moF days aw d.toInt.toNat) (hb : (bitAt days d).toInt = 1) (hc : c.toInt = coF days aw d.toInt (d.toInt + 1).toNat) (hx : mo'.toInt = max mo.toInt c.toInt) : mo'.toInt = moF days aw d'.toInt.toNat := by
  rw [he, show (d.toInt + 1).toNat = d.toInt.toNat + 1 by omega, hx, hm, hc, show (d.toInt + 1).toNat = d.toInt.toNat + 1 by omega]
  show _ = if _ then _ else _
  rw [nI_back h0, if_pos hb, show ((d.toInt.toNat : Nat) : Int) = d.toInt by omega]
theorem mo_skip {days d d' mo : Int32} {aw : Int} (h0 : 0 ≤ d.toInt) (he : d'.toInt = d.toInt + 1) (hm : mo.toInt = moF days aw d.toInt.toNat) (hb : ¬ (bitAt days d).toInt = 1) : mo.toInt = moF days aw d'.toInt.toNat := by
  rw [he, show (d.toInt + 1).toNat = d.toInt.toNat + 1 by omega, hm]
  show _ = if _ then _ else _
  rw [nI_back h0, if_neg hb]
theorem at0 {f : Nat → Int32} {v : Int32} (h : f 0 = v) : f (0 : Int32).toNatClampNeg = v := by
  rw [show (0 : Int32).toNatClampNeg = 0 by decide]; exact h
theorem at0i {f : Nat → Int32} {k : Int} (h : (f 0).toInt = k) : (f (0 : Int32).toNatClampNeg).toInt = k := by
  rw [show (0 : Int32).toNatClampNeg = 0 by decide]; exact h
theorem upd0 {f : Nat → Int32} {x : Int32} : upd f (0 : Int32).toNatClampNeg x 0 = x := by
  rw [show (0 : Int32).toNatClampNeg = 0 by decide]; exact pk_us
theorem q_of {x : Int32} {a b : Int32} (h : x = a) (h2 : a = b) : x = b := h.trans h2
/-! the array classes, the nest's links, a method's start and end -/
abbrev tyL (cy : Nat → ClassId) : List (ClassId × FieldType) := [(cy 0, .int), (cy 1, .byte), (cy 2, .boolean), (cy 3, .object "SleepingCars$Book")]
def NWm (U : State) : Prop := va_Nw (.methodLinkNest RX9 9 yX0_init RX9) U ∧ va_Nw (.methodLinkNest RX0 20 yX5_init RX9) U ∧ va_Nw (.methodLinkNest RX0 27 yX7_init RX9) U ∧ va_Nw (.methodLinkNest RX0 34 yX1_init RX9) U ∧ va_Nw (.methodLinkNest RX0 41 yX2_init RX9) U ∧ va_Nw (.methodLinkNest RX9 22 yX6_init RX9) U ∧ va_Nw (.methodLinkNest RX9 29 yX3_init RX9) U ∧ va_Nw (.methodLinkNest RX3 20 yX2_init RX9) U ∧ va_Nw (.methodLinkNest RX3 27 yX8_init RX9) U ∧ va_Nw (.methodLinkNest RX0 93 yX9_legsBetween RX9) U ∧ va_Nw (.methodLinkNest RX7 38 yX9_legsBetween RX9) U
theorem NWm.warm {s U : State} (hW : s.WarmedH U.vm) (h : NWm s) : NWm U := ⟨va_Nw.warmM hW h.1, va_Nw.warmM hW h.2.1, va_Nw.warmM hW h.2.2.1, va_Nw.warmM hW h.2.2.2.1, va_Nw.warmM hW h.2.2.2.2.1, va_Nw.warmM hW h.2.2.2.2.2.1, va_Nw.warmM hW h.2.2.2.2.2.2.1, va_Nw.warmM hW h.2.2.2.2.2.2.2.1, va_Nw.warmM hW h.2.2.2.2.2.2.2.2.1, va_Nw.warmM hW h.2.2.2.2.2.2.2.2.2.1, va_Nw.warmM hW h.2.2.2.2.2.2.2.2.2.2⟩
theorem NWm.same {u U : State} (e : u.vm = U.vm) (h : NWm u) : NWm U := ⟨va_Nw.same rfl e h.1, va_Nw.same rfl e h.2.1, va_Nw.same rfl e h.2.2.1, va_Nw.same rfl e h.2.2.2.1, va_Nw.same rfl e h.2.2.2.2.1, va_Nw.same rfl e h.2.2.2.2.2.1, va_Nw.same rfl e h.2.2.2.2.2.2.1, va_Nw.same rfl e h.2.2.2.2.2.2.2.1, va_Nw.same rfl e h.2.2.2.2.2.2.2.2.1, va_Nw.same rfl e h.2.2.2.2.2.2.2.2.2.1, va_Nw.same rfl e h.2.2.2.2.2.2.2.2.2.2⟩
/-- what stays all along beside the cells: where the made cells begin, and the places of the String constants and of their bytes -/
abbrev EN : Type := Nat × (Nat → Nat) × (Nat → Nat)
def strLen : List Nat := [4, 2, 4, 4, 5, 4, 3, 3, 4, 5, 4, 4]
def strByt : List (List Int32) := [[115, 116, 111, 112], [107, 109], [104, 111, 117, 114], [115, 111, 108, 100], [110, 105, 103, 104, 116], [119, 104, 101, 110], [97, 110, 100], [110, 111, 116], [97, 120, 108, 101], [98, 101, 114, 116, 104], [102, 108, 97, 116], [102, 114, 101, 101]]
def STR (E : EN) (U : State) : Prop := vk_R RX8 72 "stop" (E.2.1 0) U ∧ vk_R RX8 74 "km" (E.2.1 1) U ∧ vk_R RX8 76 "hour" (E.2.1 2) U ∧ vk_R RX8 78 "sold" (E.2.1 3) U ∧ vk_R RX8 80 "night" (E.2.1 4) U ∧ vk_R RX8 82 "when" (E.2.1 5) U ∧ vk_R RX8 84 "and" (E.2.1 6) U ∧ vk_R RX8 86 "not" (E.2.1 7) U ∧ vk_R RX8 88 "axle" (E.2.1 8) U ∧ vk_R RX8 90 "berth" (E.2.1 9) U ∧ vk_R RX8 92 "flat" (E.2.1 10) U ∧ vk_R RX8 94 "free" (E.2.1 11) U
theorem STR.warm {E : EN} {s U : State} (hW : s.WarmedH U.vm) (h : STR E s) : STR E U := ⟨vk_R.warm hW h.1, vk_R.warm hW h.2.1, vk_R.warm hW h.2.2.1, vk_R.warm hW h.2.2.2.1, vk_R.warm hW h.2.2.2.2.1, vk_R.warm hW h.2.2.2.2.2.1, vk_R.warm hW h.2.2.2.2.2.2.1, vk_R.warm hW h.2.2.2.2.2.2.2.1, vk_R.warm hW h.2.2.2.2.2.2.2.2.1, vk_R.warm hW h.2.2.2.2.2.2.2.2.2.1, vk_R.warm hW h.2.2.2.2.2.2.2.2.2.2.1, vk_R.warm hW h.2.2.2.2.2.2.2.2.2.2.2⟩
theorem STR.same {E : EN} {u U : State} (e : U.vm = u.vm) (h : STR E u) : STR E U := ⟨vk_R.same e h.1, vk_R.same e h.2.1, vk_R.same e h.2.2.1, vk_R.same e h.2.2.2.1, vk_R.same e h.2.2.2.2.1, vk_R.same e h.2.2.2.2.2.1, vk_R.same e h.2.2.2.2.2.2.1, vk_R.same e h.2.2.2.2.2.2.2.1, vk_R.same e h.2.2.2.2.2.2.2.2.1, vk_R.same e h.2.2.2.2.2.2.2.2.2.1, vk_R.same e h.2.2.2.2.2.2.2.2.2.2.1, vk_R.same e h.2.2.2.2.2.2.2.2.2.2.2⟩
def NW (E : EN) (U : State) : Prop := NWm U ∧ va_AO "SleepingCars$Book" U ∧ vk_S 12 strLen strByt E.2.1 E.2.2 (fun q => E.1 ≤ q) U U.heap ∧ STR E U ∧ va_Z "java/lang/String" "COMPACT_STRINGS" "Z" (.int 1) (fun q => E.1 ≤ q) U U.heap ∧ E.1 ≤ U.heap.size ∧ (∃ v : Value, (v = .null ∨ ∃ a : Nat, v = .ref a) ∧ va_Z "jdk/internal/util/Preconditions" "SIOOBE_FORMATTER" "Ljava/util/function/BiFunction;" v (fun q => E.1 ≤ q) U U.heap)
theorem NW.go {E : EN} {s U : State} {A : Nat → Prop} {H : Heap} {locs : List Loc} (h : NW E s) (hS : va_S A s.heap H locs) (hAB : ∀ q : Nat, A q → E.1 ≤ q) (hU : U.heap = H) (hW : s.WarmedH U.vm) : NW E U := by
  have hk : ∀ a : Nat, a < s.heap.size → ¬ (E.1 ≤ a) → U.heap[a]? = s.heap[a]? := fun a ha hn => by rw [hU]; exact hS.2.1 a ha (fun q => hn (hAB a q))
  exact ⟨h.1.warm hW, h.2.1.moved hW.alike, vk_S.moved hW.alike (vk_S.kept h.2.2.1 hk), h.2.2.2.1.warm hW, va_Z.moved hW.alike (va_Z.kept h.2.2.2.2.1 hk), Nat.le_trans h.2.2.2.2.2.1 (by rw [hU]; exact hS.1), h.2.2.2.2.2.2.elim (fun v hv => ⟨v, hv.1, va_Z.moved hW.alike (va_Z.kept hv.2 hk)⟩)⟩
theorem NW.same {E : EN} {u U : State} (e : u.vm = U.vm) (eh : u.heap = U.heap) (h : NW E u) : NW E U := by
  have ha : u.vm.Alike U.vm := by rw [e]; exact Vm.Alike.refl U.vm
  refine ⟨h.1.same e, h.2.1.moved ha, ?_, h.2.2.2.1.same e.symm, ?_, by rw [← eh]; exact h.2.2.2.2.2.1, ?_⟩
  · rw [← eh]; exact vk_S.moved ha h.2.2.1
  · rw [← eh]; exact va_Z.moved ha h.2.2.2.2.1
  · rw [← eh]; exact h.2.2.2.2.2.2.elim (fun v hv => ⟨v, hv.1, va_Z.moved ha hv.2⟩)
def CP (D : va_G) (cy : Nat → ClassId) (E : EN) (av : List Value) (wd : va_W) (sz : Nat) : Array Value → State → Prop := va_Pc av (fun U => U.heap.size = sz ∧ va_P D vwCl wd U.heap ∧ va_K D vwCl (tyL cy) U ∧ va_D (fun q => E.1 ≤ q) wd ∧ NW E U)
theorem CP.blind {D : va_G} {cy : Nat → ClassId} {E : EN} {av : List Value} {wd : va_W} {sz : Nat} : FrameBlind (CP D cy E av wd sz) := fun a U g mk q => by
  obtain ⟨q0, q1, qP, qK, qD, qN⟩ := q
  exact ⟨q0, q1, qP, va_K.moved (u := U) (U := U.calling g mk a) (Vm.Alike.refl U.vm) qK, qD, NW.same (u := U) (U := U.calling g mk a) rfl rfl qN⟩
def WP (D : va_G) (cy : Nat → ClassId) (A : Nat → Prop) (wd : va_W) (t : State) : Prop := va_P D vwCl wd t.heap ∧ va_K D vwCl (tyL cy) t ∧ va_D A wd
def QI {S : Type} (D : va_G) (cy : Nat → ClassId) (post : Int32 → S → Prop) (wo : S → va_W) (A : Nat → Prop) : Array Value → State → Outcome → State → Prop := va_Qi post (fun u t => WP D cy A (wo u) t) A
def QL {S : Type} (D : va_G) (cy : Nat → ClassId) (post : Int64 → S → Prop) (wo : S → va_W) (A : Nat → Prop) : Array Value → State → Outcome → State → Prop := va_Ql post (fun u t => WP D cy A (wo u) t) A
def QV {S : Type} (D : va_G) (cy : Nat → ClassId) (post : S → Prop) (wo : S → va_W) (A : Nat → Prop) : Array Value → State → Outcome → State → Prop := va_Qv post (fun u t => WP D cy A (wo u) t) A
def QR {S : Type} (D : va_G) (cy : Nat → ClassId) (post : S → Prop) (ad : S → Nat) (wo : S → va_W) (A : Nat → Prop) : Array Value → State → Outcome → State → Prop := va_Qr post (fun u a t => a = ad u ∧ WP D cy A (wo u) t) A
theorem Met.go {l : Launch} {D : va_G} {cy : Nat → ClassId} {E : EN} {y : MethodName} {ws ws' : List Cond} {rm : Room} {av : List Value} {wd : va_W} {sz : Nat} {Qc : (Nat → Prop) → Array Value → State → Outcome → State → Prop} {mc ms : Nat} {cc : ByteArray} {maxL : Nat} {ret : Option FieldType} (hy : plainName y.cls = true) (hw : ws = Cond.code y cc maxL ret :: ws') (hn : (lg_sl av).length ≤ maxL)
    (body : ∀ (p : Program) (e : Env) (s : State) (m : MethodId) (below : List Frame) (meth : Method) (c : Code), p.tables.exec = Jvm.exec → c.code = cc → meth.sig.returnType = ret → (∀ w ∈ ws, w.before av.toArray s = true) → s.vm.findClass y.cls = some m.cls → meth.locks = false → meth.name = y.name → c.maxLocals = maxL → va_K D vwCl (tyL cy) s → NW E s → ∀ A : Nat → Prop, (∀ q : Nat, s.heap.size ≤ q → A q) → (∀ q : Nat, A q → E.1 ≤ q) → va_D A wd → va_P D vwCl wd s.heap → va_S A s.heap s.heap [] → ∀ ls : Array Slot, lv_has ls maxL (lv_args 0 av) → s.heap.size = sz → W p l e (headSpec ws rm).room s m av.toArray below meth c s.heap [] 0 0 (MQ below (Qc A) av.toArray s mc ms A) (F0 m 0 ls [])) : Met l y ws rm (CP D cy E av wd sz) (Qc (va_A wd sz)) mc ms (va_A wd sz) := by
  refine Met.ofW (cc := cc) (maxL := maxL) (ret := ret) hy hw ?_
  intro p e s m args below meth c s₁ B hml hv
  obtain ⟨rfl, hsz, hP, hK, hD0, hN⟩ := hv
  have hts := atoms_spec (ws := ws) B.pre
  have hl := lv_entry av (n := maxL) hn
  rw [lg_entry_eq]
  subst hsz
  exact body p e s m below meth c B.exec B.bytes B.returns hts (findClass_of_methodNamed B.named) B.notSynchronized (name_of_methodNamed B.named B.method).1 hml hK hN _ (fun q h => Or.inr h) (fun q h => h.elim (fun ⟨k, e, hk⟩ => hD0.2 k _ hk) (fun h => Nat.le_trans hN.2.2.2.2.2.1 h)) (hD0.self) hP va_S.rf _ hl rfl
section RET
variable {p : Program} {l : Launch} {e : Env} {R : Room} {s : State} {m : MethodId} {args : Array Value} {below : List Frame} {meth : Method} {c : Code} {H : Heap} {locs : List Loc} {cells slots : Nat} {cc : ByteArray} {D : va_G} {cy : Nat → ClassId} {A : Nat → Prop} {pc : Nat} {ls : Array Slot}
theorem r_i {S : Type} {post : Int32 → S → Prop} {wo : S → va_W} {v : Int32} (hx : p.tables.exec = Jvm.exec) (hb : c.code = cc) (hr : meth.sig.returnType = some .int) (hlocks : meth.locks = false) (hK : va_K D vwCl (tyL cy) s) (hS : va_S A s.heap H locs) (hd : decode cc pc = .ok (.ireturn, 1)) (u : S) (hP : va_P D vwCl (wo u) H) (hD : va_D A (wo u)) (hp : post v u) : W p l e R s m args below meth c H locs cells slots (MQ below (QI D cy post wo A) args s cells slots A) (F0 m pc ls [.int v]) :=
  W.iret hx hb hr (fun t ht hW => ⟨⟨v, u, rfl, hp, by rw [ht]; exact hP, va_K.moved hW.alike hK, hD⟩, hS.F ht⟩) hS.2.2 hd hlocks
theorem nar01 {v : Int32} (h : v = 0 ∨ v = 1) : narrow .boolean (.int v) = .int v := by
  rcases h with rfl | rfl <;> decide +kernel
theorem r_z {S : Type} {post : Int32 → S → Prop} {wo : S → va_W} {v : Int32} (hx : p.tables.exec = Jvm.exec) (hb : c.code = cc) (hr : meth.sig.returnType = some .boolean) (hlocks : meth.locks = false) (hK : va_K D vwCl (tyL cy) s) (hS : va_S A s.heap H locs) (hd : decode cc pc = .ok (.ireturn, 1)) (hv : v = 0 ∨ v = 1) (u : S) (hP : va_P D vwCl (wo u) H) (hD : va_D A (wo u)) (hp : post v u) : W p l e R s m args below meth c H locs cells slots (MQ below (QI D cy post wo A) args s cells slots A) (F0 m pc ls [.int v]) :=
  W.zret hx hb hr (nar01 hv) (fun t ht hW => ⟨⟨v, u, rfl, hp, by rw [ht]; exact hP, va_K.moved hW.alike hK, hD⟩, hS.F ht⟩) hS.2.2 hd hlocks
theorem r_n {S : Type} {post : Int32 → S → Prop} {wo : S → va_W} {v : Int32} {ty : FieldType} (hx : p.tables.exec = Jvm.exec) (hb : c.code = cc) (hr : meth.sig.returnType = some ty) (hlocks : meth.locks = false) (hK : va_K D vwCl (tyL cy) s) (hS : va_S A s.heap H locs) (hd : decode cc pc = .ok (.ireturn, 1)) (hn : narrow ty (.int v) = .int v) (u : S) (hP : va_P D vwCl (wo u) H) (hD : va_D A (wo u)) (hp : post v u) : W p l e R s m args below meth c H locs cells slots (MQ below (QI D cy post wo A) args s cells slots A) (F0 m pc ls [.int v]) :=
  W.zret hx hb hr hn (fun t ht hW => ⟨⟨v, u, rfl, hp, by rw [ht]; exact hP, va_K.moved hW.alike hK, hD⟩, hS.F ht⟩) hS.2.2 hd hlocks
/-- a method that answers one cell that stays -/
theorem r_r {S : Type} {post : S → Prop} {wo : S → va_W} {ad : S → Nat} {a : Nat} {rt : String} (hx : p.tables.exec = Jvm.exec) (hb : c.code = cc) (hr : meth.sig.returnType = some (.object rt)) (hlocks : meth.locks = false) (hK : va_K D vwCl (tyL cy) s) (hS : va_S A s.heap H locs) (hd : decode cc pc = .ok (.areturn, 1)) (u : S) (hP : va_P D vwCl (wo u) H) (hD : va_D A (wo u)) (ha : a = ad u) (hp : post u) : W p l e R s m args below meth c H locs cells slots (MQ below (QR D cy post ad wo A) args s cells slots A) (F0 m pc ls [.ref a]) :=
  W.aret (v := .ref a) hx hb hr (Or.inl ⟨_, rfl⟩) (Or.inr ⟨_, rfl⟩) (fun t ht hW => ⟨⟨u, a, rfl, hp, ha, by rw [ht]; exact hP, va_K.moved hW.alike hK, hD⟩, hS.F ht⟩) hS.2.2 hd hlocks
theorem r_l {S : Type} {post : Int64 → S → Prop} {wo : S → va_W} {v : Int64} (hx : p.tables.exec = Jvm.exec) (hb : c.code = cc) (hr : meth.sig.returnType = some .long) (hlocks : meth.locks = false) (hK : va_K D vwCl (tyL cy) s) (hS : va_S A s.heap H locs) (hd : decode cc pc = .ok (.lreturn, 1)) (u : S) (hP : va_P D vwCl (wo u) H) (hD : va_D A (wo u)) (hp : post v u) : W p l e R s m args below meth c H locs cells slots (MQ below (QL D cy post wo A) args s cells slots A) (F0 m pc ls [.long v]) :=
  W.lret hx hb hr (fun t ht hW => ⟨⟨v, u, rfl, hp, by rw [ht]; exact hP, va_K.moved hW.alike hK, hD⟩, hS.F ht⟩) hS.2.2 hd hlocks
theorem r_v {S : Type} {post : S → Prop} {wo : S → va_W} (hx : p.tables.exec = Jvm.exec) (hb : c.code = cc) (hr : meth.sig.returnType = none) (hlocks : meth.locks = false) (hK : va_K D vwCl (tyL cy) s) (hS : va_S A s.heap H locs) (hd : decode cc pc = .ok (.return_, 1)) (u : S) (hP : va_P D vwCl (wo u) H) (hD : va_D A (wo u)) (hp : post u) : W p l e R s m args below meth c H locs cells slots (MQ below (QV D cy post wo A) args s cells slots A) (F0 m pc ls []) :=
  W.vret hx hb hr (fun t ht hW => ⟨⟨u, rfl, hp, by rw [ht]; exact hP, va_K.moved hW.alike hK, hD⟩, hS.F ht⟩) hS.2.2 hd hlocks
end RET
theorem sub_of {D : va_G} {cl : List vw_C} {ws wc : va_W} {H : Heap} (h : va_P D cl ws H) (is : List Nat) (hC : is.map (fun i => ws[i]?) = wc.map some) : va_P D cl wc H := by
  intro k q hq
  have h1 : (is.map (fun i => ws[i]?))[k]? = some (some q) := by rw [hC, List.getElem?_map, hq]; rfl
  rw [List.getElem?_map] at h1
  cases hi : is[k]? with
  | none => rw [hi] at h1; cases h1
  | some i => rw [hi] at h1; exact h i q (Option.some.inj h1)
section CAL
variable {p : Program} {l : Launch} {e : Env} {R : Room} {s : State} {m : MethodId} {args : Array Value} {below : List Frame} {meth : Method} {c : Code} {H : Heap} {locs : List Loc} {cells slots : Nat} {Q : State → Prop} {D : va_G} {cy : Nat → ClassId} {A : Nat → Prop} {pc : Nat} {ls : Array Slot} {rest st0 : List Value} {H0 : Heap} {ws wc wr : va_W} {mc ms : Nat} {a : Array Value}
theorem cp_s {E : EN} {As : List Value} (hK : va_K D vwCl (tyL cy) s) (hN : NW E s) (hS : va_S A s.heap H locs) (hAB : ∀ q : Nat, A q → E.1 ≤ q) (hP : va_P D vwCl ws H) (hD : va_D A ws) (is : List Nat) (hC : is.map (fun i => ws[i]?) = wc.map some) (hn : va_nd is = true) : PreS s H (CP D cy E As wc H.size) As :=
  ⟨CP.blind, fun U hU hW => ⟨rfl, by rw [hU], by rw [hU]; exact sub_of hP is hC, va_K.moved hW.alike hK, (hD.sub is hn hC).weaken (fun _ q _ h => hAB q.1 h), hN.go hS hAB hU hW⟩⟩
theorem cp_v {As : List Value} {C : String} {b ci : Nat} {fs : List Value} {q : vw_C} {E : EN} (hK : va_K D vwCl (tyL cy) s) (hN : NW E s) (hS : va_S A s.heap H locs) (hAB : ∀ q : Nat, A q → E.1 ≤ q) (hP : va_P D vwCl ws H) (hD : va_D A ws) (is : List Nat) (hC : is.map (fun i => ws[i]?) = wc.map some) (hn : va_nd is = true) (h0 : wc[0]? = some (b, .inr (ci, fs))) (hc : vwCl[ci]? = some q) (hq : q.1 = C) : PreV s H C b (CP D cy E (.ref b :: As) wc H.size) As :=
  ⟨CP.blind, by subst hq; exact va_recv hK (sub_of hP is hC) hc h0, fun U hU hW => ⟨rfl, by rw [hU], by rw [hU]; exact sub_of hP is hC, va_K.moved hW.alike hK, (hD.sub is hn hC).weaken (fun _ q _ h => hAB q.1 h), hN.go hS hAB hU hW⟩⟩
theorem k_i {S : Type} {post : Int32 → S → Prop} {wo : S → va_W} (hr : va_Run p l e R s m args below meth c H locs cells slots mc ms (F0 m pc ls st0) rest (QI D cy post wo (va_A wc H.size) a) (va_A wc H.size)) (hP : va_P D vwCl ws H) (hD : va_D A ws) (hS : va_S A H0 H locs) (hA : ∀ q : Nat, H0.size ≤ q → A q) (isC isR : List Nat) (hC : isC.map (fun i => ws[i]?) = wc.map some) (hR : isR.map (fun i => ws[i]?) = wr.map some) (hn : va_nd isR = true) (hdis : ∀ i ∈ isR, i ∉ isC)
    (kk : ∀ (r : Int32) (u : S) (H1 : Heap) (locs1 : List Loc), post r u → va_P D vwCl (wr ++ wo u) H1 → va_D A (wr ++ wo u) → va_S A H0 H1 locs1 → W p l e R s m args below meth c H1 locs1 (cells + mc) (slots + ms) Q (F0 m (pc + 3) ls (.int r :: rest))) : W p l e R s m args below meth c H locs cells slots Q (F0 m pc ls st0) := by
  have hF := va_free hD hS hA isC hC
  refine va_calli hr hS (fun q _ h => hF q h) hF (fun r u t H1 locs1 ht hvm hw hB hz hk hS1 => ?_)
  obtain ⟨hP1, -, hD1⟩ := hB
  rw [ht] at hP1
  obtain ⟨hP2, hD2⟩ := va_join hP hD isC isR hC hR hn hdis hk hF hP1 hD1
  exact kk r u H1 locs1 hw hP2 hD2 hS1
theorem k_r {S : Type} {post : S → Prop} {ad : S → Nat} {wo : S → va_W} (hr : va_Run p l e R s m args below meth c H locs cells slots mc ms (F0 m pc ls st0) rest (QR D cy post ad wo (va_A wc H.size) a) (va_A wc H.size)) (hP : va_P D vwCl ws H) (hD : va_D A ws) (hS : va_S A H0 H locs) (hA : ∀ q : Nat, H0.size ≤ q → A q) (isC isR : List Nat) (hC : isC.map (fun i => ws[i]?) = wc.map some) (hR : isR.map (fun i => ws[i]?) = wr.map some) (hn : va_nd isR = true) (hdis : ∀ i ∈ isR, i ∉ isC)
    (kk : ∀ (u : S) (H1 : Heap) (locs1 : List Loc), post u → va_P D vwCl (wr ++ wo u) H1 → va_D A (wr ++ wo u) → va_S A H0 H1 locs1 → W p l e R s m args below meth c H1 locs1 (cells + mc) (slots + ms) Q (F0 m (pc + 3) ls (.ref (ad u) :: rest))) : W p l e R s m args below meth c H locs cells slots Q (F0 m pc ls st0) := by
  have hF := va_free hD hS hA isC hC
  refine va_callr hr hS (fun q _ h => hF q h) hF (fun u ra t H1 locs1 ht hvm hw hB hz hk hS1 => ?_)
  obtain ⟨rfl, hP1, -, hD1⟩ := hB
  rw [ht] at hP1
  obtain ⟨hP2, hD2⟩ := va_join hP hD isC isR hC hR hn hdis hk hF hP1 hD1
  exact kk u H1 locs1 hw hP2 hD2 hS1
theorem cp_str {E : EN} {As : List Value} {i : Nat} (hK : va_K D vwCl (tyL cy) s) (hN : NW E s) (hS : va_S A s.heap H locs) (hAB : ∀ q : Nat, A q → E.1 ≤ q) (hi : i < 12) : PreV s H "java/lang/String" (E.2.1 i) (CP D cy E (.ref (E.2.1 i) :: As) [] H.size) As :=
  ⟨CP.blind, vk_recv (vk_S.narrow hN.2.2.1 hAB) hi hS, fun U hU hW => ⟨rfl, by rw [hU], fun k q h => by simp at h, va_K.moved hW.alike hK, ⟨fun i j p q h => by simp at h, fun k q h => by simp at h⟩, hN.go hS hAB hU hW⟩⟩
theorem k_l {S : Type} {post : Int64 → S → Prop} {wo : S → va_W} (hr : va_Run p l e R s m args below meth c H locs cells slots mc ms (F0 m pc ls st0) rest (QL D cy post wo (va_A wc H.size) a) (va_A wc H.size)) (hP : va_P D vwCl ws H) (hD : va_D A ws) (hS : va_S A H0 H locs) (hA : ∀ q : Nat, H0.size ≤ q → A q) (isC isR : List Nat) (hC : isC.map (fun i => ws[i]?) = wc.map some) (hR : isR.map (fun i => ws[i]?) = wr.map some) (hn : va_nd isR = true) (hdis : ∀ i ∈ isR, i ∉ isC)
    (kk : ∀ (r : Int64) (u : S) (H1 : Heap) (locs1 : List Loc), post r u → va_P D vwCl (wr ++ wo u) H1 → va_D A (wr ++ wo u) → va_S A H0 H1 locs1 → W p l e R s m args below meth c H1 locs1 (cells + mc) (slots + ms) Q (F0 m (pc + 3) ls (.long r :: rest))) : W p l e R s m args below meth c H locs cells slots Q (F0 m pc ls st0) := by
  have hF := va_free hD hS hA isC hC
  refine va_calll hr hS (fun q _ h => hF q h) hF (fun r u t H1 locs1 ht hvm hw hB hz hk hS1 => ?_)
  obtain ⟨hP1, -, hD1⟩ := hB
  rw [ht] at hP1
  obtain ⟨hP2, hD2⟩ := va_join hP hD isC isR hC hR hn hdis hk hF hP1 hD1
  exact kk r u H1 locs1 hw hP2 hD2 hS1
theorem k_v {S : Type} {post : S → Prop} {wo : S → va_W} (hr : va_Run p l e R s m args below meth c H locs cells slots mc ms (F0 m pc ls st0) rest (QV D cy post wo (va_A wc H.size) a) (va_A wc H.size)) (hP : va_P D vwCl ws H) (hD : va_D A ws) (hS : va_S A H0 H locs) (hA : ∀ q : Nat, H0.size ≤ q → A q) (isC isR : List Nat) (hC : isC.map (fun i => ws[i]?) = wc.map some) (hR : isR.map (fun i => ws[i]?) = wr.map some) (hn : va_nd isR = true) (hdis : ∀ i ∈ isR, i ∉ isC)
    (kk : ∀ (u : S) (H1 : Heap) (locs1 : List Loc), post u → va_P D vwCl (wr ++ wo u) H1 → va_D A (wr ++ wo u) → va_S A H0 H1 locs1 → W p l e R s m args below meth c H1 locs1 (cells + mc) (slots + ms) Q (F0 m (pc + 3) ls rest)) : W p l e R s m args below meth c H locs cells slots Q (F0 m pc ls st0) := by
  have hF := va_free hD hS hA isC hC
  refine va_callv hr hS (fun q _ h => hF q h) hF (fun u t H1 locs1 ht hvm hw hB hz hk hS1 => ?_)
  obtain ⟨hP1, -, hD1⟩ := hB
  rw [ht] at hP1
  obtain ⟨hP2, hD2⟩ := va_join hP hD isC isR hC hR hn hdis hk hF hP1 hD1
  exact kk u H1 locs1 hw hP2 hD2 hS1
end CAL
section MIS
variable {p : Program} {l : Launch} {e : Env} {R : Room} {s : State} {m : MethodId} {args : Array Value} {below : List Frame} {meth : Method} {c : Code} {locs : List Loc} {cells slots : Nat} {Q : State → Prop} {g : JFrame}
theorem W.heapEq {H H' : Heap} (eq : H = H') (k : W p l e R s m args below meth c H locs cells slots Q g) : W p l e R s m args below meth c H' locs cells slots Q g := by
  subst eq; exact k
end MIS
theorem same_i {D : va_G} {cy : Nat → ClassId} {cA : ClassId} {s : State} (h : va_K D vwCl (tyL cy ++ [(cA, .int)]) s) : cy 0 = cA := Option.some.inj (Eq.trans (Eq.symm (h.2 0 (cy 0, .int) rfl).2) (h.2 4 (cA, .int) rfl).2)
theorem same_b {D : va_G} {cy : Nat → ClassId} {cA : ClassId} {s : State} (h : va_K D vwCl (tyL cy ++ [(cA, .byte)]) s) : cy 1 = cA := Option.some.inj (Eq.trans (Eq.symm (h.2 1 (cy 1, .byte) rfl).2) (h.2 4 (cA, .byte) rfl).2)
theorem same_z {D : va_G} {cy : Nat → ClassId} {cA : ClassId} {s : State} (h : va_K D vwCl (tyL cy ++ [(cA, .boolean)]) s) : cy 2 = cA := Option.some.inj (Eq.trans (Eq.symm (h.2 2 (cy 2, .boolean) rfl).2) (h.2 4 (cA, .boolean) rfl).2)
theorem same_q {D : va_G} {cy : Nat → ClassId} {cA : ClassId} {s : State} (h : va_K D vwCl (tyL cy ++ [(cA, .object "SleepingCars$Book")]) s) : cy 3 = cA := by
  obtain ⟨k1, c1, a1, a2, a3, a4⟩ := (h.2 3 (cy 3, .object "SleepingCars$Book") rfl).2
  obtain ⟨k2, c2, b1, b2, b3, b4⟩ := (h.2 4 (cA, .object "SleepingCars$Book") rfl).2
  exact Option.some.inj (a4.symm.trans b4)
