set_option maxHeartbeats 8000000 in
set_option maxRecDepth 100000 in
theorem law_loop {p : Program} {e : Env} {s : State} {m : MethodId} {below : List Frame} {meth : Method} {c : Code} {l : Launch} {b L : Nat} {xs : Nat → Int32} {A : Nat → Prop} {D : va_G} {cy : Nat → ClassId} {E : EN} (C0 : lw_At p s m meth c b L xs) (hL3 : L ≤ 3072) (hA : ∀ q : Nat, s.heap.size ≤ q → A q) (hAA : ∀ q : Nat, A q → s.heap.size ≤ q) (hAB : ∀ q : Nat, A q → E.1 ≤ q) (hK : va_K D vwCl (tyL cy) s) (hN : NW E s) {xa : XA} {ma : MA} : ∀ (n : Nat) (i : Int32) (kc ns : Nat) (ims : IM) (x : XS) (mm : MS) (H : Heap) (locs : List Loc) (hi0 : 0 ≤ i.toInt) (hi1 : i.toInt ≤ 3078) (hmu : (L : Int) < 6 * n + i.toInt) (hkc : kc + 35 * n ≤ 20000) (hns : ns + 4153 * n ≤ 3000000) (hI : Inv ims x mm) (hP : va_P D vwCl (wA cy xa ma x mm ++ wT cy ims) H) (hD : va_D A (wA cy xa ma x mm ++ wT cy ims)) (hS : va_S A s.heap H locs) (ls : Array Slot) (hl : lv_has ls 4 [(3, .int i), (2, .ref ma.m0), (1, .ref xa.x0), (0, .ref b)]), W p l e room_1 s m #[Value.ref b] below meth c H locs kc ns (lw_Z below #[Value.ref b] s) (F0 m 18 ls []) := by
  obtain ⟨hx, hb, hr, hml, hown, hts0, hX, hbl, hlocks, hgv⟩ := id C0
  have hown : s.vm.findClass RL = some m.cls := hown
  have hts : ∀ w ∈ wsL_law, w.before #[Value.ref b] s = true := fun w h => hts0 w (wsL_law_in w h)
  have hbA : ¬ A b := fun h => absurd (hAA b h) (Nat.not_le.mpr hbl)
  intro n
  induction n using Nat.strongRecOn with
  | ind n ih =>
    intro i kc ns ims x mm H locs hi0 hi1 hmu hkc hns hI hP hD hS ls hl
    have z0 := i32_0
    refine lv_iload_n hx hb dL_law_18 rfl (lv_at hl 0 rfl) ?_
    refine lv_aload_n hx hb dL_law_19 rfl (lv_at hl 3 rfl) ?_
    refine va_slen hx hb hX hbl hbA hS dL_law_20 ?_
    refine lv_topi (fun x20 ex20 => ?_)
    have tx20 : x20.toInt = L := by rw [ex20]; exact nI_toInt (by omega)
    refine lv_bipush (v := 6) hx hb dL_law_21 (by decide) ?_
    refine lv_isub hx hb dL_law_23 ?_
    refine lv_topi (fun x23 ex23 => ?_)
    have tx23 := q_sub (p := x20.toInt) (q := 6) ex23 rfl (by decide) (by omega) (by omega)
    refine lv_icmp_gt (tgt := 952) hx hb dL_law_24 (by decide) (fun c24 => ?_) (fun c24 => ?_)
    · skip
      refine lv_iconst (v := 1) hx hb dL_law_952 (by decide) ?_
      refine va_forget (fun q hq => hAA _ (hS.2.2 q hq)) ?_
      refine W.widen (k := 91562) (n := 8827564) (by omega) (by omega) ?_
      exact lw_ret hx hb hr hlocks dL_law_953
    · skip
      have fc24 := q_nlt (a := x23.toInt) (b := i.toInt) c24 rfl rfl
      have hiL : i.toInt + 6 ≤ L := by omega
      obtain ⟨n2, rfl⟩ : ∃ q : Nat, n = q + 1 := ⟨n - 1, by omega⟩
      have cont : ∀ (ims2 : IM) (x2 : XS) (mm2 : MS) (kc2 ns2 : Nat) (H2 : Heap) (locs2 : List Loc), kc2 ≤ kc + 35 → ns2 ≤ ns + 4153 → Inv ims2 x2 mm2 → va_P D vwCl (wA cy xa ma x2 mm2 ++ wT cy ims2) H2 → va_D A (wA cy xa ma x2 mm2 ++ wT cy ims2) → va_S A s.heap H2 locs2 → ∀ ls : Array Slot, lv_has ls 4 [(3, .int i), (2, .ref ma.m0), (1, .ref xa.x0), (0, .ref b)] → W p l e room_1 s m #[Value.ref b] below meth c H2 locs2 kc2 ns2 (lw_Z below #[Value.ref b] s) (F0 m 946 ls []) := by
        intro ims2 x2 mm2 kc2 ns2 H2 locs2 hk2 hn2 hI2 hP2 hD2 hS2 ls hl
        obtain ⟨x946, ex946⟩ : ∃ y : Int32, y = i + 6 := ⟨_, rfl⟩
        refine lv_iinc (v := x946) (lv' := [(3, .int x946), (2, .ref ma.m0), (1, .ref xa.x0), (0, .ref b)]) hx hb dL_law_946 hl (k := 0) rfl (by rw [ex946]; rfl) (by decide) rfl (fun ls hl => ?_)
        have tx946 := q_add (p := i.toInt) (q := 6) ex946 rfl (by decide) (by omega) (by omega)
        refine lv_goto (tgt := 18) hx hb dL_law_949 (by decide) ?_
        exact ih n2 (Nat.lt_succ_self n2) x946 kc2 ns2 ims2 x2 mm2 H2 locs2 (by omega) (by omega) (by omega) (by omega) (by omega) hI2 hP2 hD2 hS2 ls (lv_sub hl [0, 1, 2, 3] rfl)
      refine lv_aload_n hx hb dL_law_27 rfl (lv_at hl 3 rfl) ?_
      refine lv_iload_n hx hb dL_law_28 rfl (lv_at hl 0 rfl) ?_
      refine va_sld hx hb hX hbl hbA hS (q_in (a := i.toInt) rfl (by omega) (by omega)) dL_law_29 ?_
      refine lv_topi (fun x29 ex29 => ?_)
      refine lv_bipush (v := 31) hx hb dL_law_30 (by decide) ?_
      refine lv_iand hx hb dL_law_32 ?_
      refine lv_topi (fun x32 ex32 => ?_)
      by_cases cs : x32.toInt < 0 ∨ 23 < x32.toInt
      · refine lv_tableOut (tgt := 946) hx hb dL_law_33 cs (by decide) ?_
        exact cont ims x mm kc ns H locs (by omega) (by omega) hI hP hD hS ls (lv_sub hl [0, 1, 2, 3] rfl)
      · have zs : x32.toInt = 0 ∨ x32.toInt = 1 ∨ x32.toInt = 2 ∨ x32.toInt = 3 ∨ x32.toInt = 4 ∨ x32.toInt = 5 ∨ x32.toInt = 6 ∨ x32.toInt = 7 ∨ x32.toInt = 8 ∨ x32.toInt = 9 ∨ x32.toInt = 10 ∨ x32.toInt = 11 ∨ x32.toInt = 12 ∨ x32.toInt = 13 ∨ x32.toInt = 14 ∨ x32.toInt = 15 ∨ x32.toInt = 16 ∨ x32.toInt = 17 ∨ x32.toInt = 18 ∨ x32.toInt = 19 ∨ x32.toInt = 20 ∨ x32.toInt = 21 ∨ x32.toInt = 22 ∨ x32.toInt = 23 := by omega
        rcases zs with zs | zs | zs | zs | zs | zs | zs | zs | zs | zs | zs | zs | zs | zs | zs | zs | zs | zs | zs | zs | zs | zs | zs | zs
        · refine lv_tableIn (tgt := 144) hx hb dL_law_33 (by omega) (by omega) (by rw [zs]; rfl) (by decide) ?_
          exact lx_0 C0 hL3 hA hAA hAB hK hN hi0 hiL (by omega) (by omega) hI hP hD hS ls (lv_sub hl [0, 1, 2, 3] rfl) cont
        · refine lv_tableIn (tgt := 167) hx hb dL_law_33 (by omega) (by omega) (by rw [zs]; rfl) (by decide) ?_
          exact lx_1 C0 hL3 hA hAA hAB hK hN hi0 hiL (by omega) (by omega) hI hP hD hS ls (lv_sub hl [0, 1, 2, 3] rfl) cont
        · refine lv_tableIn (tgt := 210) hx hb dL_law_33 (by omega) (by omega) (by rw [zs]; rfl) (by decide) ?_
          exact lx_2 C0 hL3 hA hAA hAB hK hN hi0 hiL (by omega) (by omega) hI hP hD hS ls (lv_sub hl [0, 1, 2, 3] rfl) cont
        · refine lv_tableIn (tgt := 243) hx hb dL_law_33 (by omega) (by omega) (by rw [zs]; rfl) (by decide) ?_
          exact lx_3 C0 hL3 hA hAA hAB hK hN hi0 hiL (by omega) (by omega) hI hP hD hS ls (lv_sub hl [0, 1, 2, 3] rfl) cont
        · refine lv_tableIn (tgt := 276) hx hb dL_law_33 (by omega) (by omega) (by rw [zs]; rfl) (by decide) ?_
          exact lx_4 C0 hL3 hA hAA hAB hK hN hi0 hiL (by omega) (by omega) hI hP hD hS ls (lv_sub hl [0, 1, 2, 3] rfl) cont
        · refine lv_tableIn (tgt := 309) hx hb dL_law_33 (by omega) (by omega) (by rw [zs]; rfl) (by decide) ?_
          exact lx_5 C0 hL3 hA hAA hAB hK hN hi0 hiL (by omega) (by omega) hI hP hD hS ls (lv_sub hl [0, 1, 2, 3] rfl) cont
        · refine lv_tableIn (tgt := 362) hx hb dL_law_33 (by omega) (by omega) (by rw [zs]; rfl) (by decide) ?_
          exact lx_6 C0 hL3 hA hAA hAB hK hN hi0 hiL (by omega) (by omega) hI hP hD hS ls (lv_sub hl [0, 1, 2, 3] rfl) cont
        · refine lv_tableIn (tgt := 385) hx hb dL_law_33 (by omega) (by omega) (by rw [zs]; rfl) (by decide) ?_
          exact lx_7 C0 hL3 hA hAA hAB hK hN hi0 hiL (by omega) (by omega) hI hP hD hS ls (lv_sub hl [0, 1, 2, 3] rfl) cont
        · refine lv_tableIn (tgt := 448) hx hb dL_law_33 (by omega) (by omega) (by rw [zs]; rfl) (by decide) ?_
          exact lx_8 C0 hL3 hA hAA hAB hK hN hi0 hiL (by omega) (by omega) hI hP hD hS ls (lv_sub hl [0, 1, 2, 3] rfl) cont
        · refine lv_tableIn (tgt := 481) hx hb dL_law_33 (by omega) (by omega) (by rw [zs]; rfl) (by decide) ?_
          exact lx_9 C0 hL3 hA hAA hAB hK hN hi0 hiL (by omega) (by omega) hI hP hD hS ls (lv_sub hl [0, 1, 2, 3] rfl) cont
        · refine lv_tableIn (tgt := 504) hx hb dL_law_33 (by omega) (by omega) (by rw [zs]; rfl) (by decide) ?_
          exact lx_10 C0 hL3 hA hAA hAB hK hN hi0 hiL (by omega) (by omega) hI hP hD hS ls (lv_sub hl [0, 1, 2, 3] rfl) cont
        · refine lv_tableIn (tgt := 527) hx hb dL_law_33 (by omega) (by omega) (by rw [zs]; rfl) (by decide) ?_
          exact lx_11 C0 hL3 hA hAA hAB hK hN hi0 hiL (by omega) (by omega) hI hP hD hS ls (lv_sub hl [0, 1, 2, 3] rfl) cont
        · refine lv_tableIn (tgt := 580) hx hb dL_law_33 (by omega) (by omega) (by rw [zs]; rfl) (by decide) ?_
          exact lx_12 C0 hL3 hA hAA hAB hK hN hi0 hiL (by omega) (by omega) hI hP hD hS ls (lv_sub hl [0, 1, 2, 3] rfl) cont
        · refine lv_tableIn (tgt := 613) hx hb dL_law_33 (by omega) (by omega) (by rw [zs]; rfl) (by decide) ?_
          exact lx_13 C0 hL3 hA hAA hAB hK hN hi0 hiL (by omega) (by omega) hI hP hD hS ls (lv_sub hl [0, 1, 2, 3] rfl) cont
        · refine lv_tableIn (tgt := 656) hx hb dL_law_33 (by omega) (by omega) (by rw [zs]; rfl) (by decide) ?_
          exact lx_14 C0 hL3 hA hAA hAB hK hN hi0 hiL (by omega) (by omega) hI hP hD hS ls (lv_sub hl [0, 1, 2, 3] rfl) cont
        · refine lv_tableIn (tgt := 689) hx hb dL_law_33 (by omega) (by omega) (by rw [zs]; rfl) (by decide) ?_
          exact lx_15 C0 hL3 hA hAA hAB hK hN hi0 hiL (by omega) (by omega) hI hP hD hS ls (lv_sub hl [0, 1, 2, 3] rfl) cont
        · refine lv_tableIn (tgt := 752) hx hb dL_law_33 (by omega) (by omega) (by rw [zs]; rfl) (by decide) ?_
          exact lx_16 C0 hL3 hA hAA hAB hK hN hi0 hiL (by omega) (by omega) hI hP hD hS ls (lv_sub hl [0, 1, 2, 3] rfl) cont
        · refine lv_tableIn (tgt := 775) hx hb dL_law_33 (by omega) (by omega) (by rw [zs]; rfl) (by decide) ?_
          exact lx_17 C0 hL3 hA hAA hAB hK hN hi0 hiL (by omega) (by omega) hI hP hD hS ls (lv_sub hl [0, 1, 2, 3] rfl) cont
        · refine lv_tableIn (tgt := 788) hx hb dL_law_33 (by omega) (by omega) (by rw [zs]; rfl) (by decide) ?_
          exact lx_18 C0 hL3 hA hAA hAB hK hN hi0 hiL (by omega) (by omega) hI hP hD hS ls (lv_sub hl [0, 1, 2, 3] rfl) cont
        · refine lv_tableIn (tgt := 811) hx hb dL_law_33 (by omega) (by omega) (by rw [zs]; rfl) (by decide) ?_
          exact lx_19 C0 hL3 hA hAA hAB hK hN hi0 hiL (by omega) (by omega) hI hP hD hS ls (lv_sub hl [0, 1, 2, 3] rfl) cont
        · refine lv_tableIn (tgt := 844) hx hb dL_law_33 (by omega) (by omega) (by rw [zs]; rfl) (by decide) ?_
          exact lx_20 C0 hL3 hA hAA hAB hK hN hi0 hiL (by omega) (by omega) hI hP hD hS ls (lv_sub hl [0, 1, 2, 3] rfl) cont
        · refine lv_tableIn (tgt := 877) hx hb dL_law_33 (by omega) (by omega) (by rw [zs]; rfl) (by decide) ?_
          exact lx_21 C0 hL3 hA hAA hAB hK hN hi0 hiL (by omega) (by omega) hI hP hD hS ls (lv_sub hl [0, 1, 2, 3] rfl) cont
        · refine lv_tableIn (tgt := 900) hx hb dL_law_33 (by omega) (by omega) (by rw [zs]; rfl) (by decide) ?_
          exact lx_22 C0 hL3 hA hAA hAB hK hN hi0 hiL (by omega) (by omega) hI hP hD hS ls (lv_sub hl [0, 1, 2, 3] rfl) cont
        · refine lv_tableIn (tgt := 923) hx hb dL_law_33 (by omega) (by omega) (by rw [zs]; rfl) (by decide) ?_
          exact lx_23 C0 hL3 hA hAA hAB hK hN hi0 hiL (by omega) (by omega) hI hP hD hS ls (lv_sub hl [0, 1, 2, 3] rfl) cont