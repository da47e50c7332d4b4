section SWQ
variable {D : va_G} {cI cS : ClassId} {ad : Nat → Nat} {I R : Nat → Nat → Int} {H : Heap}
theorem sw_sheets : (fun j : Nat => some (sw ad (25 + 2 * j))) = fun j : Nat => some (ad (25 + 2 * j)) := by
  funext j
  unfold sw
  rw [if_pos (by omega), if_neg (by omega), if_neg (by omega)]
set_option maxRecDepth 100000 in
theorem wC_sw {x : List Value} (hP : va_P D vwCl (((wC cI cS ad I R).set 0 (ad 0, .inr (3, x))).set 0 (ad 0, .inr (3, [.ref (ad 1), .ref (ad 2), .ref (ad 4), .ref (ad 15), .ref (ad 5), .int (iI (I 0 5)), .int (iI (I 0 6))]))) H) : va_P D vwCl (wC cI cS (sw ad) (swI I) (swR R)) H := by
  refine hP.sub [0, 1, 2, 3, 4, 15, 16, 17, 18, 19, 20, 21, 22, 23, 24, 5, 6, 7, 8, 9, 10, 11, 12, 13, 14, 25, 26, 27, 28, 29, 30, 31, 32] ?_
  unfold wC
  rw [sw_sheets]
  rfl
end SWQ
theorem lcd_rng {I R : Nat → Nat → Int} (hV : VI I R) {k : Nat} (hk : k < 4) {f n : Nat} (h : f + n ≤ 60) : ∀ j : Nat, j < 60 → -2147483648 ≤ lcd (R 3) (R (26 + 2 * k)) f n j ∧ lcd (R 3) (R (26 + 2 * k)) f n j < 2147483648 := by
  intro j hj
  unfold lcd
  split
  · exact hV.row hk (by omega)
  · exact hV.code j hj
theorem ri_ok {I R : Nat → Nat → Int} (_ : B0 I R) : (k_X1_readInto I R).1 = 0 ∨ (k_X1_readInto I R).1 = 1 := by
  unfold k_X1_readInto
  split
  · split
    · split
      · split
        · exact Or.inl rfl
        · simp only
          split
          · exact Or.inr rfl
          · exact Or.inl rfl
      · exact Or.inl rfl
    · exact Or.inl rfl
  · exact Or.inl rfl
def k_X3_town (I R : Nat → Nat → Int) (sheet : Int) (lane : Int) (i : Int) (n : Int) : Int × (Nat → Nat → Int) × (Nat → Nat → Int) := if 0 ≤ sheet ∧ sheet < 4 then (if 0 ≤ lane ∧ lane ≤ 2 then (if (ft (I 25 (Int.toNat sheet)) (I 26 (Int.toNat sheet)) lane i n) = 0 then (if ((k_X1_readInto (u2 (u2 (u2 I 0 6 0) 2 2 0) 2 1 n) (uR R 3 (lcd ((R 3)) (R (26 + 2 * (Int.toNat sheet))) (Int.toNat i) (Int.toNat n)))).1) = 0 then (((-100) - (((k_X1_readInto (u2 (u2 (u2 I 0 6 0) 2 2 0) 2 1 n) (uR R 3 (lcd ((R 3)) (R (26 + 2 * (Int.toNat sheet))) (Int.toNat i) (Int.toNat n)))).2.1) 2 2), (k_X1_readInto (u2 (u2 (u2 I 0 6 0) 2 2 0) 2 1 n) (uR R 3 (lcd ((R 3)) (R (26 + 2 * (Int.toNat sheet))) (Int.toNat i) (Int.toNat n)))).2.1, (k_X1_readInto (u2 (u2 (u2 I 0 6 0) 2 2 0) 2 1 n) (uR R 3 (lcd ((R 3)) (R (26 + 2 * (Int.toNat sheet))) (Int.toNat i) (Int.toNat n)))).2.2)) else ((((k_X1_readInto (u2 (u2 (u2 I 0 6 0) 2 2 0) 2 1 n) (uR R 3 (lcd ((R 3)) (R (26 + 2 * (Int.toNat sheet))) (Int.toNat i) (Int.toNat n)))).2.1) 15 14, swI (k_X1_readInto (u2 (u2 (u2 I 0 6 0) 2 2 0) 2 1 n) (uR R 3 (lcd ((R 3)) (R (26 + 2 * (Int.toNat sheet))) (Int.toNat i) (Int.toNat n)))).2.1, swR (k_X1_readInto (u2 (u2 (u2 I 0 6 0) 2 2 0) 2 1 n) (uR R 3 (lcd ((R 3)) (R (26 + 2 * (Int.toNat sheet))) (Int.toNat i) (Int.toNat n)))).2.2))) else ((-10 - (ft (I 25 (Int.toNat sheet)) (I 26 (Int.toNat sheet)) lane i n), (u2 (u2 I 0 6 0) 0 6 (ft (I 25 (Int.toNat sheet)) (I 26 (Int.toNat sheet)) lane i n)), R))) else ((-2, (u2 I 0 6 0), R))) else ((-1, (u2 I 0 6 0), R))
abbrev rm_X3_town : Room := { frames := 6, cells := 0, slots := 0, locals := 147 }
set_option maxHeartbeats 4000000 in
set_option maxRecDepth 100000 in
theorem c_X3_town {l : Launch} {D : va_G} {cI cS : ClassId} {ad : Nat → Nat} {I R : Nat → Nat → Int} {A : Nat → Prop} (hD : va_D A (wC cI cS ad I R))  (sheet : Int) (lane : Int) (i : Int) (n : Int)  (hV : VI I R) (hr_sheet : -2147483648 ≤ sheet ∧ sheet < 2147483648) (hr_lane : -2147483648 ≤ lane ∧ lane < 2147483648) (hr_i : -2147483648 ≤ i ∧ i < 2147483648) (hr_n : -2147483648 ≤ n ∧ n < 2147483648): JV l yX3_town wsX3_town rm_X3_town (fun U => jB D cI cS (wC cI cS ad I R) U ∧ jT A U U.heap) A [.ref (ad 0), .int (iI (sheet)), .int (iI (lane)), .int (iI (i)), .int (iI (n))] (fun v9 (u9 : (Nat → Nat) × (Nat → Nat → Int) × (Nat → Nat → Int)) => v9 = some (.int (iI (k_X3_town I R sheet lane i n).1)) ∧ (u9.1 = ad ∨ u9.1 = sw ad) ∧ u9.2.1 = (k_X3_town I R sheet lane i n).2.1 ∧ jq u9.2.2 (k_X3_town I R sheet lane i n).2.2) (fun u9 H => va_P D vwCl (wC cI cS u9.1 u9.2.1 u9.2.2) H) := by
  refine JV.mkI rfl (by decide +kernel) rfl (Nat.le_of_ble_eq_true rfl) ?_
  intro p e st mi ar bl mth cd Q ls C hB hl hret
  obtain ⟨⟨hE, hP⟩, hT0⟩ := hB
  have hx := C.1
  have hb := C.2.1
  have hl : lv_has ls 8 [(0, .ref (ad 0)), (1, .int (iI (sheet))), (2, .int (iI (lane))), (3, .int (iI (i))), (4, .int (iI (n)))] := hl
  have hin1 : ∀ w ∈ wsX10, w ∈ wsX3_town := fun _ h => List.mem_cons_of_mem _ (List.mem_append_left _ (List.mem_append_left _ (List.mem_append_right _ h)))
  have hin2 : ∀ w ∈ wsX20, w ∈ wsX3_town := fun _ h => List.mem_cons_of_mem _ (List.mem_append_left _ (List.mem_append_right _ h))
  have hin3 : ∀ w ∈ wsX30, w ∈ wsX3_town := fun _ h => List.mem_cons_of_mem _ (List.mem_append_left _ (List.mem_append_left _ (List.mem_append_left _ (List.mem_append_right _ h))))
  suffices hgo : ∀ (H : Heap) (lc : List Loc), va_P D vwCl (wC cI cS ad I R) H → va_S A st.heap H lc → W p l e rm_X3_town st mi ar bl mth cd H lc 0 0 Q (F0 mi 0 ls []) from hgo _ _ hP va_S.rf
  clear hP
  intro H lc hP hS
  refine lv_aload_n hx hb dX3_town_0 rfl (lv_at hl 0 rfl) ?_
  refine jz_const C dX3_town_1 ?_
  refine fp_V_lastFault C hin3 hE hP (jDC hD) hS (List.mem_of_getElem? (i := 1) rfl) dX3_town_2 (fun H lc hP hS => ?_)
  refine jz_sub (P := 0 ≤ sheet ∧ sheet < 4) (fun hin => ?_) (fun hin => ?_)
  · skip
    refine lv_aload_n hx hb dX3_town_5 rfl (lv_at hl 0 rfl) ?_
    refine lv_iload_n hx hb dX3_town_6 rfl (lv_at hl 1 rfl) ?_
    refine jc_V C hl.1 (jpreV hE hP 3 0 rfl rfl) (c_X3_sheetAtI sheet (show 0 ≤ sheet ∧ sheet < 4 from (by omega))) (cwV 1 C.2.2.2.2 gX3_town_X3_sheetAt rfl rfl rfl (by decide +kernel) ⟨Nat.le_of_ble_eq_true rfl, Nat.le_of_ble_eq_true rfl⟩) (As := [.int (iI (sheet))]) (v := .ref (ad (25 + 2 * (Int.toNat sheet)))) (hn := rfl) (hst := rfl) (rest := []) (hW := Nat.le_of_ble_eq_true rfl) (hdg := dX3_town_7) (hf := ⟨Nat.le_of_ble_eq_true rfl, Nat.le_of_ble_eq_true rfl⟩) ?_
    refine lv_astore (lv' := [(5, .ref (ad (25 + 2 * (Int.toNat sheet)))), (0, .ref (ad 0)), (1, .int (iI (sheet))), (2, .int (iI (lane))), (3, .int (iI (i))), (4, .int (iI (n)))]) hx hb dX3_town_10 hl (by decide) rfl (fun ls hl => ?_)
    refine lv_aload hx hb dX3_town_12 (lv_at hl 0 rfl) ?_
    refine lv_ifnonnull (tgt := 19) hx hb dX3_town_14 (by decide) ?_
    refine lv_iload_n hx hb dX3_town_19 rfl (lv_at hl 3 rfl) ?_
    refine jz_const C dX3_town_20 ?_
    refine jc_S C hl.1 (jpreS hE hP) (c_X3_isUpTo lane 2 (show -2147483648 ≤ lane ∧ lane < 2147483648 from (by omega)) (show -2147483648 ≤ 2 ∧ 2 < 2147483648 from (by omega))) (va_cwS 2 C.2.2.2.2 gX3_town_X3_isUpTo rfl rfl rfl (by decide +kernel) ⟨Nat.le_of_ble_eq_true rfl, Nat.le_of_ble_eq_true rfl⟩) (As := [.int (iI (lane)), .int (iI (2))]) (v := .int (iI (if 0 ≤ lane ∧ lane ≤ 2 then 1 else 0))) (hn := rfl) (hst := rfl) (rest := []) (hW := Nat.le_of_ble_eq_true rfl) (hdg := dX3_town_21) (hf := ⟨Nat.le_of_ble_eq_true rfl, Nat.le_of_ble_eq_true rfl⟩) ?_
    refine jz_bool_ne (tgt := 30) C dX3_town_24 (by decide) (fun h24 => ?_) (fun h24 => ?_)
    · skip
      have hln := hV.lane (k := Int.toNat sheet) (by omega)
      have hsz := hV.size (k := Int.toNat sheet) (by omega)
      have hft := ft_bd (ln := I 25 (Int.toNat sheet)) (sz := I 26 (Int.toNat sheet)) (al := lane) (i := i) (n := n)
      refine lv_aload hx hb dX3_town_30 (lv_at hl 0 rfl) ?_
      refine lv_iload_n hx hb dX3_town_32 rfl (lv_at hl 3 rfl) ?_
      refine lv_iload_n hx hb dX3_town_33 rfl (lv_at hl 4 rfl) ?_
      refine lv_iload hx hb dX3_town_34 (lv_at hl 5 rfl) ?_
      refine jc_V C hl.1 (jpreH hE hP (by omega)) (c_X0_faultOfTaking lane i n (Int.toNat sheet) (show (Int.toNat sheet) < 4 from (by omega)) (show -2147483648 ≤ I 25 (Int.toNat sheet) ∧ I 25 (Int.toNat sheet) < 2147483648 from (by have h9 := hV.lane (k := (Int.toNat sheet)) (by omega); omega)) (hV.size (by omega)) (show -2147483648 ≤ lane ∧ lane < 2147483648 from (by omega)) (show -2147483648 ≤ i ∧ i < 2147483648 from (by omega)) (show -2147483648 ≤ n ∧ n < 2147483648 from (by omega))) (cwV 3 C.2.2.2.2 gX3_town_X0_faultOfTaking rfl rfl rfl (by decide +kernel) ⟨Nat.le_of_ble_eq_true rfl, Nat.le_of_ble_eq_true rfl⟩) (As := [.int (iI (lane)), .int (iI (i)), .int (iI (n))]) (v := .int (iI (ft (I 25 (Int.toNat sheet)) (I 26 (Int.toNat sheet)) lane i n))) (hn := rfl) (hst := rfl) (rest := []) (hW := Nat.le_of_ble_eq_true rfl) (hdg := dX3_town_36) (hf := ⟨Nat.le_of_ble_eq_true rfl, Nat.le_of_ble_eq_true rfl⟩) ?_
      refine lv_istore (lv' := [(6, .int (iI (ft (I 25 (Int.toNat sheet)) (I 26 (Int.toNat sheet)) lane i n))), (5, .ref (ad (25 + 2 * (Int.toNat sheet)))), (0, .ref (ad 0)), (1, .int (iI (sheet))), (2, .int (iI (lane))), (3, .int (iI (i))), (4, .int (iI (n)))]) hx hb dX3_town_39 hl (by decide) rfl (fun ls hl => ?_)
      refine lv_iload hx hb dX3_town_41 (lv_at hl 0 rfl) ?_
      refine jz_if_eq (tgt := 53) C dX3_town_43 (by decide) (by omega) (fun h43 => ?_) (fun h43 => ?_)
      · skip
        have hix := ft_0 h43
        have hrow := lcd_rng hV (k := Int.toNat sheet) (by omega) (f := Int.toNat i) (n := Int.toNat n) (by omega)
        refine lv_aload_n hx hb dX3_town_53 rfl (lv_at hl 2 rfl) ?_
        refine fg_V_reader C hin3 hE hP (List.mem_of_getElem? (i := 2) rfl) dX3_town_54 ?_
        refine lv_aload hx hb dX3_town_57 (lv_at hl 1 rfl) ?_
        refine lv_iload_n hx hb dX3_town_59 rfl (lv_at hl 5 rfl) ?_
        refine lv_iload hx hb dX3_town_60 (lv_at hl 6 rfl) ?_
        refine jw_V C hl.1 (jpreV hE hP 1 2 rfl rfl) (c_X1_load (A := A) (jDC hD) i n (Int.toNat sheet) (show (Int.toNat sheet) < 4 from (by omega)) (show 0 ≤ i ∧ 0 ≤ n ∧ i + n ≤ 60 from (by omega))) (cwV 3 C.2.2.2.2 gX3_town_X1_load rfl rfl rfl (by decide +kernel) ⟨Nat.le_of_ble_eq_true rfl, Nat.le_of_ble_eq_true rfl⟩) (As := [.ref (ad (25 + 2 * (Int.toNat sheet))), .int (iI (i)), .int (iI (n))]) (hn := rfl) (hst := rfl) (rest := []) (hW := Nat.le_of_ble_eq_true rfl) (hdg := dX3_town_62) (hf := ⟨Nat.le_of_ble_eq_true rfl, Nat.le_of_ble_eq_true rfl⟩) hS (fun v9 uq62 H lc hq9 hP hS => ?_)
        obtain rfl : v9 = none := hq9
        have hP : va_P D vwCl (wC cI cS ad (u2 (u2 (u2 I 0 6 0) 2 2 0) 2 1 n) (uR R 3 (lcd ((R 3)) (R (26 + 2 * (Int.toNat sheet))) (Int.toNat i) (Int.toNat n)))) H := hP
        refine lv_aload_n hx hb dX3_town_65 rfl (lv_at hl 2 rfl) ?_
        refine fg_V_reader C hin3 hE hP (List.mem_of_getElem? (i := 2) rfl) dX3_town_66 ?_
        refine lv_aload_n hx hb dX3_town_69 rfl (lv_at hl 2 rfl) ?_
        refine fg_V_spare C hin3 hE hP (List.mem_of_getElem? (i := 3) rfl) dX3_town_70 ?_
        refine jw_V C hl.1 (jpreVT hE hP hT0 hS 1 2 rfl rfl) (c_X1_readInto (A := A) (jDC hD)  ⟨⟨by show (0 : Int) ≤ 0; omega, by show 0 ≤ n; omega, by show n ≤ 60; omega⟩, hrow⟩) (cwV 1 C.2.2.2.2 gX3_town_X1_readInto rfl rfl rfl (by decide +kernel) ⟨Nat.le_of_ble_eq_true rfl, Nat.le_of_ble_eq_true rfl⟩) (As := [.ref (ad 15)]) (hn := rfl) (hst := rfl) (rest := []) (hW := Nat.le_of_ble_eq_true rfl) (hdg := dX3_town_73) (hf := ⟨Nat.le_of_ble_eq_true rfl, Nat.le_of_ble_eq_true rfl⟩) hS (fun v9 uq73 H lc hq9 hP hS => ?_)
        obtain ⟨I73, R73⟩ := uq73
        obtain ⟨hv9, hI9, hR9⟩ := hq9
        subst hv9
        dsimp only at hI9 hR9
        subst hI9
        subst hR9
        have hP : va_P D vwCl (wC cI cS ad (k_X1_readInto (u2 (u2 (u2 I 0 6 0) 2 2 0) 2 1 n) (uR R 3 (lcd ((R 3)) (R (26 + 2 * (Int.toNat sheet))) (Int.toNat i) (Int.toNat n)))).2.1 (k_X1_readInto (u2 (u2 (u2 I 0 6 0) 2 2 0) 2 1 n) (uR R 3 (lcd ((R 3)) (R (26 + 2 * (Int.toNat sheet))) (Int.toNat i) (Int.toNat n)))).2.2) H := hP
        have hri := ri_ok (I := u2 (u2 (u2 I 0 6 0) 2 2 0) 2 1 n) (R := uR R 3 (lcd (R 3) (R (26 + 2 * (Int.toNat sheet))) (Int.toNat i) (Int.toNat n))) ⟨⟨by show (0 : Int) ≤ 0; omega, by show 0 ≤ n; omega, by show n ≤ 60; omega⟩, hrow⟩
        refine jz_if_ne (tgt := 90) C dX3_town_76 (by decide) (by omega) (fun h76 => ?_) (fun h76 => ?_)
        · skip
          refine lv_aload_n hx hb dX3_town_90 rfl (lv_at hl 2 rfl) ?_
          refine fg_V_present C hin3 hE hP (List.mem_of_getElem? (i := 5) rfl) dX3_town_91 ?_
          refine lv_astore (lv' := [(7, .ref (ad 5)), (6, .int (iI (ft (I 25 (Int.toNat sheet)) (I 26 (Int.toNat sheet)) lane i n))), (5, .ref (ad (25 + 2 * (Int.toNat sheet)))), (0, .ref (ad 0)), (1, .int (iI (sheet))), (2, .int (iI (lane))), (3, .int (iI (i))), (4, .int (iI (n)))]) hx hb dX3_town_94 hl (by decide) rfl (fun ls hl => ?_)
          refine lv_aload_n hx hb dX3_town_96 rfl (lv_at hl 3 rfl) ?_
          refine lv_aload_n hx hb dX3_town_97 rfl (lv_at hl 3 rfl) ?_
          refine fg_V_spare C hin3 hE hP (List.mem_of_getElem? (i := 3) rfl) dX3_town_98 ?_
          refine va_put (D := D) (ci := 3) (v := .ref (ad 15)) (ty := .object "LeeVanes$Town") (C := RX3) (T := TX3) (N := 7) hx hb C.2.2.2.2 hin3 tyX3 tyX3_ok nmX3 C.2.2.2.1 hE.1 hP (jDC hD) hS 0 rfl rfl 3 (by decide) (C.2.2.2.2 _ (List.mem_of_getElem? (i := 5) rfl)) (fun _ h => h) rfl (by decide +kernel) rfl rfl (Nat.le_of_ble_eq_true rfl) dX3_town_101 (fun H lc hP hD101 hS => ?_)
          refine lv_aload_n hx hb dX3_town_104 rfl (lv_at hl 3 rfl) ?_
          refine lv_aload hx hb dX3_town_105 (lv_at hl 0 rfl) ?_
          refine va_put (D := D) (ci := 3) (v := .ref (ad 5)) (ty := .object "LeeVanes$Town") (C := RX3) (T := TX3) (N := 7) hx hb C.2.2.2.2 hin3 tyX3 tyX3_ok nmX3 C.2.2.2.1 hE.1 hP hD101 hS 0 rfl rfl 4 (by decide) (C.2.2.2.2 _ (List.mem_of_getElem? (i := 3) rfl)) (fun _ h => h) rfl (by decide +kernel) rfl rfl (Nat.le_of_ble_eq_true rfl) dX3_town_107 (fun H lc hP hD107 hS => ?_)
          have hP : va_P D vwCl (wC cI cS (sw ad) (swI (k_X1_readInto (u2 (u2 (u2 I 0 6 0) 2 2 0) 2 1 n) (uR R 3 (lcd ((R 3)) (R (26 + 2 * (Int.toNat sheet))) (Int.toNat i) (Int.toNat n)))).2.1) (swR (k_X1_readInto (u2 (u2 (u2 I 0 6 0) 2 2 0) 2 1 n) (uR R 3 (lcd ((R 3)) (R (26 + 2 * (Int.toNat sheet))) (Int.toNat i) (Int.toNat n)))).2.2)) H := wC_sw hP
          refine lv_aload_n hx hb dX3_town_110 rfl (lv_at hl 3 rfl) ?_
          refine fg_V_present (ad := sw ad) C hin3 hE hP (List.mem_of_getElem? (i := 5) rfl) dX3_town_111 ?_
          refine fg_T_wards (ad := sw ad) C hin2 hE hP (v := ((k_X1_readInto (u2 (u2 (u2 I 0 6 0) 2 2 0) 2 1 n) (uR R 3 (lcd ((R 3)) (R (26 + 2 * (Int.toNat sheet))) (Int.toNat i) (Int.toNat n)))).2.1) 15 14) (List.mem_of_getElem? (i := 6) rfl) dX3_town_114 rfl ?_
          have hk9 : k_X3_town I R sheet lane i n = (((k_X1_readInto (u2 (u2 (u2 I 0 6 0) 2 2 0) 2 1 n) (uR R 3 (lcd ((R 3)) (R (26 + 2 * (Int.toNat sheet))) (Int.toNat i) (Int.toNat n)))).2.1) 15 14, swI (k_X1_readInto (u2 (u2 (u2 I 0 6 0) 2 2 0) 2 1 n) (uR R 3 (lcd ((R 3)) (R (26 + 2 * (Int.toNat sheet))) (Int.toNat i) (Int.toNat n)))).2.1, swR (k_X1_readInto (u2 (u2 (u2 I 0 6 0) 2 2 0) 2 1 n) (uR R 3 (lcd ((R 3)) (R (26 + 2 * (Int.toNat sheet))) (Int.toNat i) (Int.toNat n)))).2.2) := by rw [k_X3_town, (if_pos hin), (if_pos h24), (if_pos h43), (if_neg (h76))]
          exact hret _ (sw ad, swI (k_X1_readInto (u2 (u2 (u2 I 0 6 0) 2 2 0) 2 1 n) (uR R 3 (lcd ((R 3)) (R (26 + 2 * (Int.toNat sheet))) (Int.toNat i) (Int.toNat n)))).2.1, swR (k_X1_readInto (u2 (u2 (u2 I 0 6 0) 2 2 0) 2 1 n) (uR R 3 (lcd ((R 3)) (R (26 + 2 * (Int.toNat sheet))) (Int.toNat i) (Int.toNat n)))).2.2) _ _ _ _ dX3_town_117 ⟨by rw [hk9], Or.inr rfl, by rw [hk9], by rw [hk9]; exact fun _ _ _ => rfl⟩ hP hS
        · skip
          refine jz_bipush C dX3_town_79 (by decide +kernel) ?_
          refine lv_aload_n hx hb dX3_town_81 rfl (lv_at hl 2 rfl) ?_
          refine fg_V_reader C hin3 hE hP (List.mem_of_getElem? (i := 2) rfl) dX3_town_82 ?_
          refine fg_D_place C hin1 hE hP (v := ((k_X1_readInto (u2 (u2 (u2 I 0 6 0) 2 2 0) 2 1 n) (uR R 3 (lcd ((R 3)) (R (26 + 2 * (Int.toNat sheet))) (Int.toNat i) (Int.toNat n)))).2.1) 2 2) (List.mem_of_getElem? (i := 4) rfl) dX3_town_85 rfl ?_
          refine jz_isub C dX3_town_88 ?_
          have hk9 : k_X3_town I R sheet lane i n = ((-100) - (((k_X1_readInto (u2 (u2 (u2 I 0 6 0) 2 2 0) 2 1 n) (uR R 3 (lcd ((R 3)) (R (26 + 2 * (Int.toNat sheet))) (Int.toNat i) (Int.toNat n)))).2.1) 2 2), (k_X1_readInto (u2 (u2 (u2 I 0 6 0) 2 2 0) 2 1 n) (uR R 3 (lcd ((R 3)) (R (26 + 2 * (Int.toNat sheet))) (Int.toNat i) (Int.toNat n)))).2.1, (k_X1_readInto (u2 (u2 (u2 I 0 6 0) 2 2 0) 2 1 n) (uR R 3 (lcd ((R 3)) (R (26 + 2 * (Int.toNat sheet))) (Int.toNat i) (Int.toNat n)))).2.2) := by rw [k_X3_town, (if_pos hin), (if_pos h24), (if_pos h43), (if_pos h76)]
          exact hret _ (ad, (k_X1_readInto (u2 (u2 (u2 I 0 6 0) 2 2 0) 2 1 n) (uR R 3 (lcd ((R 3)) (R (26 + 2 * (Int.toNat sheet))) (Int.toNat i) (Int.toNat n)))).2.1, (k_X1_readInto (u2 (u2 (u2 I 0 6 0) 2 2 0) 2 1 n) (uR R 3 (lcd ((R 3)) (R (26 + 2 * (Int.toNat sheet))) (Int.toNat i) (Int.toNat n)))).2.2) _ _ _ _ dX3_town_89 ⟨by rw [hk9], Or.inl rfl, by rw [hk9], by rw [hk9]; exact fun _ _ _ => rfl⟩ hP hS
      · skip
        refine lv_aload_n hx hb dX3_town_46 rfl (lv_at hl 2 rfl) ?_
        refine lv_iload hx hb dX3_town_47 (lv_at hl 0 rfl) ?_
        refine jw_V C hl.1 (jpreV hE hP 3 0 rfl rfl) (c_X3_fail (A := A) (jDC hD) (ft (I 25 (Int.toNat sheet)) (I 26 (Int.toNat sheet)) lane i n) ) (cwV 1 C.2.2.2.2 gX3_town_X3_fail rfl rfl rfl (by decide +kernel) ⟨Nat.le_of_ble_eq_true rfl, Nat.le_of_ble_eq_true rfl⟩) (As := [.int (iI (ft (I 25 (Int.toNat sheet)) (I 26 (Int.toNat sheet)) lane i n))]) (hn := rfl) (hst := rfl) (rest := []) (hW := Nat.le_of_ble_eq_true rfl) (hdg := dX3_town_49) (hf := ⟨Nat.le_of_ble_eq_true rfl, Nat.le_of_ble_eq_true rfl⟩) hS (fun v9 uq49 H lc hq9 hP hS => ?_)
        subst hq9
        have hP : va_P D vwCl (wC cI cS ad (u2 (u2 I 0 6 0) 0 6 (ft (I 25 (Int.toNat sheet)) (I 26 (Int.toNat sheet)) lane i n)) R) H := hP
        have hk9 : k_X3_town I R sheet lane i n = (-10 - (ft (I 25 (Int.toNat sheet)) (I 26 (Int.toNat sheet)) lane i n), (u2 (u2 I 0 6 0) 0 6 (ft (I 25 (Int.toNat sheet)) (I 26 (Int.toNat sheet)) lane i n)), R) := by rw [k_X3_town, (if_pos hin), (if_pos h24), (if_neg (h43))]
        exact hret _ (ad, (u2 (u2 I 0 6 0) 0 6 (ft (I 25 (Int.toNat sheet)) (I 26 (Int.toNat sheet)) lane i n)), R) _ _ _ _ dX3_town_52 ⟨by rw [hk9], Or.inl rfl, by rw [hk9], by rw [hk9]; exact fun _ _ _ => rfl⟩ hP hS
    · skip
      refine jz_bipush C dX3_town_27 (by decide +kernel) ?_
      have hk9 : k_X3_town I R sheet lane i n = (-2, (u2 I 0 6 0), R) := by rw [k_X3_town, (if_pos hin), (if_neg h24)]
      exact hret _ (ad, (u2 I 0 6 0), R) _ _ _ _ dX3_town_29 ⟨by rw [hk9], Or.inl rfl, by rw [hk9], by rw [hk9]; exact fun _ _ _ => rfl⟩ hP hS
  · skip
    refine lv_aload_n hx hb dX3_town_5 rfl (lv_at hl 0 rfl) ?_
    refine lv_iload_n hx hb dX3_town_6 rfl (lv_at hl 1 rfl) ?_
    refine jc_V C hl.1 (jpreV hE hP 3 0 rfl rfl) (c_X3_sheetAtO sheet (show ¬ (0 ≤ sheet ∧ sheet < 4) from (by omega)) (show -2147483648 ≤ sheet ∧ sheet < 2147483648 from (by omega))) (cwV 1 C.2.2.2.2 gX3_town_X3_sheetAt rfl rfl rfl (by decide +kernel) ⟨Nat.le_of_ble_eq_true rfl, Nat.le_of_ble_eq_true rfl⟩) (As := [.int (iI (sheet))]) (v := .null) (hn := rfl) (hst := rfl) (rest := []) (hW := Nat.le_of_ble_eq_true rfl) (hdg := dX3_town_7) (hf := ⟨Nat.le_of_ble_eq_true rfl, Nat.le_of_ble_eq_true rfl⟩) ?_
    refine lv_astoreN (lv' := [(5, .null), (0, .ref (ad 0)), (1, .int (iI (sheet))), (2, .int (iI (lane))), (3, .int (iI (i))), (4, .int (iI (n)))]) hx hb dX3_town_10 hl (by decide) rfl (fun ls hl => ?_)
    refine lv_aloadN hx hb dX3_town_12 (lv_at hl 0 rfl) ?_
    refine lv_ifnonnullN hx hb dX3_town_14 ?_
    refine jz_const C dX3_town_17 ?_
    have hk9 : k_X3_town I R sheet lane i n = (-1, (u2 I 0 6 0), R) := by rw [k_X3_town, (if_neg hin)]
    exact hret _ (ad, (u2 I 0 6 0), R) _ _ _ _ dX3_town_18 ⟨by rw [hk9], Or.inl rfl, by rw [hk9], by rw [hk9]; exact fun _ _ _ => rfl⟩ hP hS
