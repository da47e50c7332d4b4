def k_X3_told (I R : Nat → Nat → Int) (sheet : Int) (lane : Int) (i : Int) (n : Int) : Int × (Nat → Nat → Int) × (Nat → Nat → Int) := if 0 ≤ sheet ∧ sheet < 4 then (if 0 ≤ lane ∧ lane ≤ 2 then (if (I 5 9) = 0 then (-3, u2 I 0 6 0, R) else (if (ft (I 25 (Int.toNat sheet)) (I 26 (Int.toNat sheet)) lane i n) = 0 then (if n = (I 5 13) then (if av (fun y9 : Nat => R (26 + 2 * (Int.toNat sheet)) (Int.toNat (i + (y9 : Int)))) (Int.toNat n) = true then (su (mz I R (tld (I 5 13) (fun y9 : Nat => R (26 + 2 * (Int.toNat sheet)) (Int.toNat (i + (y9 : Int)))) (Int.toNat n))) (Int.toNat (I 5 14)), u2 I 0 6 0, R) else (-2, u2 I 0 6 0, R)) else (-2, u2 I 0 6 0, R)) else (-10 - (ft (I 25 (Int.toNat sheet)) (I 26 (Int.toNat sheet)) lane i n), u2 (u2 I 0 6 0) 0 6 (ft (I 25 (Int.toNat sheet)) (I 26 (Int.toNat sheet)) lane i n), R))) else (-2, u2 I 0 6 0, R)) else (-1, u2 I 0 6 0, R)
abbrev rm_X3_told : Room := { frames := 4, cells := 0, slots := 0, locals := 95 }
set_option maxHeartbeats 4000000 in
set_option maxRecDepth 100000 in
theorem c_X3_told {l : Launch} {D : va_G} {cI cS : ClassId} {ad : Nat → Nat} {I R : Nat → Nat → Int} {A : Nat → Prop} (hD : va_D A (wC cI cS ad I R))  (sheet : Int) (lane : Int) (i : Int) (n : Int)  (hV : VI I R) (hr_sheet : -2147483648 ≤ sheet ∧ sheet < 2147483648) (hr_lane : -2147483648 ≤ lane ∧ lane < 2147483648) (hr_i : -2147483648 ≤ i ∧ i < 2147483648) (hr_n : -2147483648 ≤ n ∧ n < 2147483648): JV l yX3_told wsX3_told rm_X3_told (jB D cI cS (wC cI cS ad I R)) A [.ref (ad 0), .int (iI (sheet)), .int (iI (lane)), .int (iI (i)), .int (iI (n))] (fun v9 (u9 : (Nat → Nat → Int) × (Nat → Nat → Int)) => v9 = some (.int (iI (k_X3_told I R sheet lane i n).1)) ∧ u9.1 = (k_X3_told I R sheet lane i n).2.1 ∧ jq u9.2 (k_X3_told I R sheet lane i n).2.2) (fun u9 H => va_P D vwCl (wC cI cS ad u9.1 u9.2) H) := by
  refine JV.mkI rfl (by decide +kernel) rfl (Nat.le_of_ble_eq_true rfl) ?_
  intro p e st mi ar bl mth cd Q ls C hB hl hret
  obtain ⟨hE, hP⟩ := hB
  have hx := C.1
  have hb := C.2.1
  have hl : lv_has ls 10 [(0, .ref (ad 0)), (1, .int (iI (sheet))), (2, .int (iI (lane))), (3, .int (iI (i))), (4, .int (iI (n)))] := hl
  have hin0 : ∀ w ∈ wsX00, w ∈ wsX3_told := fun _ h => List.mem_cons_of_mem _ (List.mem_append_right _ h)
  have hin2 : ∀ w ∈ wsX20, w ∈ wsX3_told := fun _ h => List.mem_cons_of_mem _ (List.mem_append_left _ (List.mem_append_right _ h))
  have hin3 : ∀ w ∈ wsX30, w ∈ wsX3_told := fun _ h => List.mem_cons_of_mem _ (List.mem_append_left _ (List.mem_append_left _ (List.mem_append_right _ h)))
  suffices hgo : ∀ (H : Heap) (lc : List Loc), va_P D vwCl (wC cI cS ad I R) H → va_S A st.heap H lc → W p l e rm_X3_told st mi ar bl mth cd H lc 0 0 Q (F0 mi 0 ls []) from hgo _ _ hP va_S.rf
  clear hP
  intro H lc hP hS
  have hT := hV.town
  have hW := hT.works
  have hK := hT.wards
  have hSt := hV.stands
  have hset := hT.set
  have hset2 := pow_bd hW hset
  have hcel := hT.cells
  have hlaw := hT.law
  have hrd := hT.reads
  have hP8 := pw8 hW
  refine lv_aload_n hx hb dX3_told_0 rfl (lv_at hl 0 rfl) ?_
  refine jz_const C dX3_told_1 ?_
  refine fp_V_lastFault C hin3 hE hP (jDC hD) hS (List.mem_of_getElem? (i := 1) rfl) dX3_told_2 (fun H lc hP hS => ?_)
  refine jz_sub (P := 0 ≤ sheet ∧ sheet < 4) (fun hin => ?_) (fun hin => ?_)
  · skip
    refine lv_aload_n hx hb dX3_told_5 rfl (lv_at hl 0 rfl) ?_
    refine lv_iload_n hx hb dX3_told_6 rfl (lv_at hl 1 rfl) ?_
    refine jc_V C hl.1 (jpreV hE hP 3 0 rfl rfl) (c_X3_sheetAtI sheet (show 0 ≤ sheet ∧ sheet < 4 from (by omega))) (cwV 1 C.2.2.2.2 gX3_told_X3_sheetAt rfl rfl rfl (by decide +kernel) ⟨Nat.le_of_ble_eq_true rfl, Nat.le_of_ble_eq_true rfl⟩) (As := [.int (iI (sheet))]) (v := .ref (ad (25 + 2 * (Int.toNat sheet)))) (hn := rfl) (hst := rfl) (rest := []) (hW := Nat.le_of_ble_eq_true rfl) (hdg := dX3_told_7) (hf := ⟨Nat.le_of_ble_eq_true rfl, Nat.le_of_ble_eq_true rfl⟩) ?_
    refine lv_astore (lv' := [(5, .ref (ad (25 + 2 * (Int.toNat sheet)))), (0, .ref (ad 0)), (1, .int (iI (sheet))), (2, .int (iI (lane))), (3, .int (iI (i))), (4, .int (iI (n)))]) hx hb dX3_told_10 hl (by decide) rfl (fun ls hl => ?_)
    refine lv_aload hx hb dX3_told_12 (lv_at hl 0 rfl) ?_
    refine lv_ifnonnull (tgt := 19) hx hb dX3_told_14 (by decide) ?_
    refine lv_iload_n hx hb dX3_told_19 rfl (lv_at hl 3 rfl) ?_
    refine jz_const C dX3_told_20 ?_
    refine jc_S C hl.1 (jpreS hE hP) (c_X3_isUpTo lane 2 (show -2147483648 ≤ lane ∧ lane < 2147483648 from (by omega)) (show -2147483648 ≤ 2 ∧ 2 < 2147483648 from (by omega))) (va_cwS 2 C.2.2.2.2 gX3_told_X3_isUpTo rfl rfl rfl (by decide +kernel) ⟨Nat.le_of_ble_eq_true rfl, Nat.le_of_ble_eq_true rfl⟩) (As := [.int (iI (lane)), .int (iI (2))]) (v := .int (iI (if 0 ≤ lane ∧ lane ≤ 2 then 1 else 0))) (hn := rfl) (hst := rfl) (rest := []) (hW := Nat.le_of_ble_eq_true rfl) (hdg := dX3_told_21) (hf := ⟨Nat.le_of_ble_eq_true rfl, Nat.le_of_ble_eq_true rfl⟩) ?_
    refine jz_bool_ne (tgt := 30) C dX3_told_24 (by decide) (fun h24 => ?_) (fun h24 => ?_)
    · skip
      refine lv_aload_n hx hb dX3_told_30 rfl (lv_at hl 1 rfl) ?_
      refine fg_V_present C hin3 hE hP (List.mem_of_getElem? (i := 2) rfl) dX3_told_31 ?_
      refine fg_T_stands C hin2 hE hP (v := I 5 9) (List.mem_of_getElem? (i := 3) rfl) dX3_told_34 rfl ?_
      refine jz_if_ne (tgt := 43) C dX3_told_37 (by decide) (by omega) (fun h37 => ?_) (fun h37 => ?_)
      · skip
        have hln := hV.lane (k := Int.toNat sheet) (by omega)
        have hsz := hV.size (k := Int.toNat sheet) (by omega)
        have hft := ft_bd (ln := I 25 (Int.toNat sheet)) (sz := I 26 (Int.toNat sheet)) (al := lane) (i := i) (n := n)
        refine lv_aload hx hb dX3_told_43 (lv_at hl 0 rfl) ?_
        refine lv_iload_n hx hb dX3_told_45 rfl (lv_at hl 3 rfl) ?_
        refine lv_iload_n hx hb dX3_told_46 rfl (lv_at hl 4 rfl) ?_
        refine lv_iload hx hb dX3_told_47 (lv_at hl 5 rfl) ?_
        refine jc_V C hl.1 (jpreH hE hP (by omega)) (c_X0_faultOfTaking lane i n (Int.toNat sheet) (show (Int.toNat sheet) < 4 from (by omega)) (show -2147483648 ≤ I 25 (Int.toNat sheet) ∧ I 25 (Int.toNat sheet) < 2147483648 from (by have h9 := hV.lane (k := (Int.toNat sheet)) (by omega); omega)) (hV.size (by omega)) (show -2147483648 ≤ lane ∧ lane < 2147483648 from (by omega)) (show -2147483648 ≤ i ∧ i < 2147483648 from (by omega)) (show -2147483648 ≤ n ∧ n < 2147483648 from (by omega))) (cwV 3 C.2.2.2.2 gX3_told_X0_faultOfTaking rfl rfl rfl (by decide +kernel) ⟨Nat.le_of_ble_eq_true rfl, Nat.le_of_ble_eq_true rfl⟩) (As := [.int (iI (lane)), .int (iI (i)), .int (iI (n))]) (v := .int (iI (ft (I 25 (Int.toNat sheet)) (I 26 (Int.toNat sheet)) lane i n))) (hn := rfl) (hst := rfl) (rest := []) (hW := Nat.le_of_ble_eq_true rfl) (hdg := dX3_told_49) (hf := ⟨Nat.le_of_ble_eq_true rfl, Nat.le_of_ble_eq_true rfl⟩) ?_
        refine lv_istore (lv' := [(6, .int (iI (ft (I 25 (Int.toNat sheet)) (I 26 (Int.toNat sheet)) lane i n))), (5, .ref (ad (25 + 2 * (Int.toNat sheet)))), (0, .ref (ad 0)), (1, .int (iI (sheet))), (2, .int (iI (lane))), (3, .int (iI (i))), (4, .int (iI (n)))]) hx hb dX3_told_52 hl (by decide) rfl (fun ls hl => ?_)
        refine lv_iload hx hb dX3_told_54 (lv_at hl 0 rfl) ?_
        refine jz_if_eq (tgt := 66) C dX3_told_56 (by decide) (by omega) (fun h56 => ?_) (fun h56 => ?_)
        · skip
          have hix := ft_0 h56
          refine lv_iload hx hb dX3_told_66 (lv_at hl 6 rfl) ?_
          refine lv_aload_n hx hb dX3_told_68 rfl (lv_at hl 2 rfl) ?_
          refine fg_V_present C hin3 hE hP (List.mem_of_getElem? (i := 2) rfl) dX3_told_69 ?_
          refine fg_T_works C hin2 hE hP (v := I 5 13) (List.mem_of_getElem? (i := 4) rfl) dX3_told_72 rfl ?_
          refine jz_icmp_eq (tgt := 81) C dX3_told_75 (by decide) (by omega) (fun h75 => ?_) (fun h75 => ?_)
          · skip
            refine jz_const C dX3_told_81 ?_
            refine lv_istore (lv' := [(7, .int (iI (0))), (6, .int (iI (ft (I 25 (Int.toNat sheet)) (I 26 (Int.toNat sheet)) lane i n))), (5, .ref (ad (25 + 2 * (Int.toNat sheet)))), (0, .ref (ad 0)), (1, .int (iI (sheet))), (2, .int (iI (lane))), (3, .int (iI (i))), (4, .int (iI (n)))]) hx hb dX3_told_82 hl (by decide) rfl (fun ls hl => ?_)
            refine jz_const C dX3_told_84 ?_
            refine lv_istore (lv' := [(8, .int (iI (0))), (7, .int (iI (0))), (6, .int (iI (ft (I 25 (Int.toNat sheet)) (I 26 (Int.toNat sheet)) lane i n))), (5, .ref (ad (25 + 2 * (Int.toNat sheet)))), (0, .ref (ad 0)), (1, .int (iI (sheet))), (2, .int (iI (lane))), (3, .int (iI (i))), (4, .int (iI (n)))]) hx hb dX3_told_85 hl (by decide) rfl (fun ls hl => ?_)
            have key87 : ∀ (n87 : Nat) (w : Nat) (hw : (w : Int) ≤ n) (hav : av (fun y9 : Nat => R (26 + 2 * (Int.toNat sheet)) (Int.toNat (i + (y9 : Int)))) w = true), (n - (w : Int) : Int) < n87 → ∀ (H : Heap) (lc : List Loc), va_P D vwCl (wC cI cS ad (u2 I 0 6 0) R) H → va_S A st.heap H lc → ∀ (ls : Array Slot), lv_has ls 10 [(8, .int (iI ((w : Int)))), (7, .int (iI (tld (I 5 13) (fun y9 : Nat => R (26 + 2 * (Int.toNat sheet)) (Int.toNat (i + (y9 : Int)))) w))), (6, .int (iI (ft (I 25 (Int.toNat sheet)) (I 26 (Int.toNat sheet)) lane i n))), (5, .ref (ad (25 + 2 * (Int.toNat sheet)))), (0, .ref (ad 0)), (1, .int (iI (sheet))), (2, .int (iI (lane))), (3, .int (iI (i))), (4, .int (iI (n)))] → W p l e rm_X3_told st mi ar bl mth cd H lc 0 0 Q (F0 mi 87 ls []) := by
              intro n87
              induction n87 with
              | zero => intro w hw hav hn9; exfalso; omega
              | succ n87 ih87 =>
                intro w hw hav hn9 H lc hP hS ls hl
                refine lv_iload hx hb dX3_told_87 (lv_at hl 0 rfl) ?_
                refine lv_iload hx hb dX3_told_89 (lv_at hl 8 rfl) ?_
                refine jz_icmp_ge (tgt := 141) C dX3_told_91 (by decide) (by omega) (fun h91 => ?_) (fun h91 => ?_)
                · skip
                  have hg9 : w = Int.toNat n := (by omega)
                  subst hg9
                  have hl : lv_has ls 10 [(7, .int (iI (tld (I 5 13) (fun y9 : Nat => R (26 + 2 * (Int.toNat sheet)) (Int.toNat (i + (y9 : Int)))) (Int.toNat n)))), (6, .int (iI (ft (I 25 (Int.toNat sheet)) (I 26 (Int.toNat sheet)) lane i n))), (5, .ref (ad (25 + 2 * (Int.toNat sheet)))), (0, .ref (ad 0)), (1, .int (iI (sheet))), (2, .int (iI (lane))), (3, .int (iI (i))), (4, .int (iI (n)))] := lv_sub hl [1, 2, 3, 4, 5, 6, 7, 8] rfl
                  have htl := tld_bd hW (w := Int.toNat n) (by omega) hav
                  have htl2 := pow_bd hW htl
                  refine lv_aload_n hx hb dX3_told_141 rfl (lv_at hl 3 rfl) ?_
                  refine fg_V_present C hin3 hE hP (List.mem_of_getElem? (i := 2) rfl) dX3_told_142 ?_
                  refine lv_iload hx hb dX3_told_145 (lv_at hl 0 rfl) ?_
                  refine jc_V C hl.1 (jpreV hE hP 2 5 rfl rfl) (c_X2_burdenBy (tld (I 5 13) (fun y9 : Nat => R (26 + 2 * (Int.toNat sheet)) (Int.toNat (i + (y9 : Int)))) (Int.toNat n)) hT (show 0 ≤ (tld (I 5 13) (fun y9 : Nat => R (26 + 2 * (Int.toNat sheet)) (Int.toNat (i + (y9 : Int)))) (Int.toNat n)) ∧ (tld (I 5 13) (fun y9 : Nat => R (26 + 2 * (Int.toNat sheet)) (Int.toNat (i + (y9 : Int)))) (Int.toNat n)) < 256 from (by omega))) (cwV 1 C.2.2.2.2 gX3_told_X2_burdenBy rfl rfl rfl (by decide +kernel) ⟨Nat.le_of_ble_eq_true rfl, Nat.le_of_ble_eq_true rfl⟩) (As := [.int (iI (tld (I 5 13) (fun y9 : Nat => R (26 + 2 * (Int.toNat sheet)) (Int.toNat (i + (y9 : Int)))) (Int.toNat n)))]) (v := .int (iI (su (mz I R (tld (I 5 13) (fun y9 : Nat => R (26 + 2 * (Int.toNat sheet)) (Int.toNat (i + (y9 : Int)))) (Int.toNat n))) (Int.toNat (I 5 14))))) (hn := rfl) (hst := rfl) (rest := []) (hW := Nat.le_of_ble_eq_true rfl) (hdg := dX3_told_147) (hf := ⟨Nat.le_of_ble_eq_true rfl, Nat.le_of_ble_eq_true rfl⟩) ?_
                  have hk9 : k_X3_told I R sheet lane i n = (su (mz I R (tld (I 5 13) (fun y9 : Nat => R (26 + 2 * (Int.toNat sheet)) (Int.toNat (i + (y9 : Int)))) (Int.toNat n))) (Int.toNat (I 5 14)), (u2 I 0 6 0), R) := by rw [k_X3_told, if_pos hin, if_pos h24, if_neg h37, if_pos h56, if_pos h75, if_pos hav]
                  exact hret _ ((u2 I 0 6 0), R) _ _ _ _ dX3_told_150 ⟨by rw [hk9], by rw [hk9], by rw [hk9]; exact (fun q h14 h4 => by first | rfl | exact uR_n h14 | exact uR_n h4 | exact (uR_n h14).trans (uR_n h4) | exact (uR_n h4).trans (uR_n h14))⟩ hP hS
                · skip
                  have hrow := hV.row (k := Int.toNat sheet) (by omega) (j := Int.toNat (i + (w : Int))) (by omega)
                  have htl := tld_bd hW (w := w) (by omega) hav
                  have htl2 := pow_bd hW htl
                  refine lv_aload hx hb dX3_told_94 (lv_at hl 3 rfl) ?_
                  refine fg_H_row C hin0 hE (by omega) hP (List.mem_of_getElem? (i := 5) rfl) dX3_told_96 ?_
                  refine lv_iload_n hx hb dX3_told_99 rfl (lv_at hl 7 rfl) ?_
                  refine lv_iload hx hb dX3_told_100 (lv_at hl 0 rfl) ?_
                  refine jz_iadd C dX3_told_102 ?_
                  refine jc_S C hl.1 (jpreS hE hP) (c_X3_read (i + (w : Int)) (26 + 2 * (Int.toNat sheet)) 60 (R (26 + 2 * (Int.toNat sheet))) (ad (26 + 2 * (Int.toNat sheet))) (wC_row (by omega)) (by decide) (show 0 ≤ (i + (w : Int)) ∧ (i + (w : Int)) < 60 from (by omega))) (va_cwS 2 C.2.2.2.2 gX3_told_X3_read rfl rfl rfl (by decide +kernel) ⟨Nat.le_of_ble_eq_true rfl, Nat.le_of_ble_eq_true rfl⟩) (As := [.ref (ad (26 + 2 * (Int.toNat sheet))), .int (iI (i + (w : Int)))]) (v := .int (iI ((R (26 + 2 * (Int.toNat sheet))) (Int.toNat (i + (w : Int)))))) (hn := rfl) (hst := rfl) (rest := []) (hW := Nat.le_of_ble_eq_true rfl) (hdg := dX3_told_103) (hf := ⟨Nat.le_of_ble_eq_true rfl, Nat.le_of_ble_eq_true rfl⟩) ?_
                  refine lv_istore (lv' := [(9, .int (iI ((R (26 + 2 * (Int.toNat sheet))) (Int.toNat (i + (w : Int)))))), (8, .int (iI ((w : Int)))), (7, .int (iI (tld (I 5 13) (fun y9 : Nat => R (26 + 2 * (Int.toNat sheet)) (Int.toNat (i + (y9 : Int)))) w))), (6, .int (iI (ft (I 25 (Int.toNat sheet)) (I 26 (Int.toNat sheet)) lane i n))), (5, .ref (ad (25 + 2 * (Int.toNat sheet)))), (0, .ref (ad 0)), (1, .int (iI (sheet))), (2, .int (iI (lane))), (3, .int (iI (i))), (4, .int (iI (n)))]) hx hb dX3_told_106 hl (by decide) rfl (fun ls hl => ?_)
                  refine lv_iload hx hb dX3_told_108 (lv_at hl 0 rfl) ?_
                  refine jz_const C dX3_told_110 ?_
                  refine jc_S C hl.1 (jpreS hE hP) (c_X3_isUpTo ((R (26 + 2 * (Int.toNat sheet))) (Int.toNat (i + (w : Int)))) 3 (show -2147483648 ≤ ((R (26 + 2 * (Int.toNat sheet))) (Int.toNat (i + (w : Int)))) ∧ ((R (26 + 2 * (Int.toNat sheet))) (Int.toNat (i + (w : Int)))) < 2147483648 from (by omega)) (show -2147483648 ≤ 3 ∧ 3 < 2147483648 from (by omega))) (va_cwS 2 C.2.2.2.2 gX3_told_X3_isUpTo rfl rfl rfl (by decide +kernel) ⟨Nat.le_of_ble_eq_true rfl, Nat.le_of_ble_eq_true rfl⟩) (As := [.int (iI ((R (26 + 2 * (Int.toNat sheet))) (Int.toNat (i + (w : Int))))), .int (iI (3))]) (v := .int (iI (if 0 ≤ ((R (26 + 2 * (Int.toNat sheet))) (Int.toNat (i + (w : Int)))) ∧ ((R (26 + 2 * (Int.toNat sheet))) (Int.toNat (i + (w : Int)))) ≤ 3 then 1 else 0))) (hn := rfl) (hst := rfl) (rest := []) (hW := Nat.le_of_ble_eq_true rfl) (hdg := dX3_told_111) (hf := ⟨Nat.le_of_ble_eq_true rfl, Nat.le_of_ble_eq_true rfl⟩) ?_
                  refine jz_bool_ne (tgt := 120) C dX3_told_114 (by decide) (fun h114 => ?_) (fun h114 => ?_)
                  · skip
                    refine lv_aload_n hx hb dX3_told_120 rfl (lv_at hl 5 rfl) ?_
                    refine fg_V_present C hin3 hE hP (List.mem_of_getElem? (i := 2) rfl) dX3_told_121 ?_
                    refine lv_iload hx hb dX3_told_124 (lv_at hl 2 rfl) ?_
                    refine lv_iload hx hb dX3_told_126 (lv_at hl 1 rfl) ?_
                    refine lv_iload hx hb dX3_told_128 (lv_at hl 0 rfl) ?_
                    refine jc_V C hl.1 (jpreV hE hP 2 5 rfl rfl) (c_X2_turned (tld (I 5 13) (fun y9 : Nat => R (26 + 2 * (Int.toNat sheet)) (Int.toNat (i + (y9 : Int)))) w) (w : Int) ((R (26 + 2 * (Int.toNat sheet))) (Int.toNat (i + (w : Int)))) hT.works (show 0 ≤ (tld (I 5 13) (fun y9 : Nat => R (26 + 2 * (Int.toNat sheet)) (Int.toNat (i + (y9 : Int)))) w) ∧ (tld (I 5 13) (fun y9 : Nat => R (26 + 2 * (Int.toNat sheet)) (Int.toNat (i + (y9 : Int)))) w) < 256 from (by omega)) (show 0 ≤ (w : Int) ∧ (w : Int) < I 5 13 from (by omega)) (show 0 ≤ ((R (26 + 2 * (Int.toNat sheet))) (Int.toNat (i + (w : Int)))) ∧ ((R (26 + 2 * (Int.toNat sheet))) (Int.toNat (i + (w : Int)))) < 4 from (by omega))) (cwV 3 C.2.2.2.2 gX3_told_X2_turned rfl rfl rfl (by decide +kernel) ⟨Nat.le_of_ble_eq_true rfl, Nat.le_of_ble_eq_true rfl⟩) (As := [.int (iI (tld (I 5 13) (fun y9 : Nat => R (26 + 2 * (Int.toNat sheet)) (Int.toNat (i + (y9 : Int)))) w)), .int (iI ((w : Int))), .int (iI ((R (26 + 2 * (Int.toNat sheet))) (Int.toNat (i + (w : Int)))))]) (v := .int (iI (tz (I 5 13) (tld (I 5 13) (fun y9 : Nat => R (26 + 2 * (Int.toNat sheet)) (Int.toNat (i + (y9 : Int)))) w) (w : Int) ((R (26 + 2 * (Int.toNat sheet))) (Int.toNat (i + (w : Int))))))) (hn := rfl) (hst := rfl) (rest := []) (hW := Nat.le_of_ble_eq_true rfl) (hdg := dX3_told_130) (hf := ⟨Nat.le_of_ble_eq_true rfl, Nat.le_of_ble_eq_true rfl⟩) ?_
                    refine lv_istore (lv' := [(7, .int (iI (tz (I 5 13) (tld (I 5 13) (fun y9 : Nat => R (26 + 2 * (Int.toNat sheet)) (Int.toNat (i + (y9 : Int)))) w) (w : Int) ((R (26 + 2 * (Int.toNat sheet))) (Int.toNat (i + (w : Int))))))), (9, .int (iI ((R (26 + 2 * (Int.toNat sheet))) (Int.toNat (i + (w : Int)))))), (8, .int (iI ((w : Int)))), (6, .int (iI (ft (I 25 (Int.toNat sheet)) (I 26 (Int.toNat sheet)) lane i n))), (5, .ref (ad (25 + 2 * (Int.toNat sheet)))), (0, .ref (ad 0)), (1, .int (iI (sheet))), (2, .int (iI (lane))), (3, .int (iI (i))), (4, .int (iI (n)))]) hx hb dX3_told_133 hl (by decide) rfl (fun ls hl => ?_)
                    refine jz_iinc (k := 2) (z := (w : Int) + 1) (lv' := [(8, .int (iI ((w : Int) + 1))), (7, .int (iI (tz (I 5 13) (tld (I 5 13) (fun y9 : Nat => R (26 + 2 * (Int.toNat sheet)) (Int.toNat (i + (y9 : Int)))) w) (w : Int) ((R (26 + 2 * (Int.toNat sheet))) (Int.toNat (i + (w : Int))))))), (9, .int (iI ((R (26 + 2 * (Int.toNat sheet))) (Int.toNat (i + (w : Int)))))), (6, .int (iI (ft (I 25 (Int.toNat sheet)) (I 26 (Int.toNat sheet)) lane i n))), (5, .ref (ad (25 + 2 * (Int.toNat sheet)))), (0, .ref (ad 0)), (1, .int (iI (sheet))), (2, .int (iI (lane))), (3, .int (iI (i))), (4, .int (iI (n)))]) C dX3_told_135 hl rfl rfl (by decide) rfl (fun ls hl => ?_)
                    refine lv_goto (tgt := 87) hx hb dX3_told_138 (by decide) ?_
                    exact ih87 (w + 1) (by omega) (av_t hav h114) (by omega) _ _ hP hS ls (lv_sub hl [0, 1, 3, 4, 5, 6, 7, 8, 9] rfl)
                  · skip
                    refine jz_bipush C dX3_told_117 (by decide +kernel) ?_
                    have hk9 : k_X3_told I R sheet lane i n = (-2, (u2 I 0 6 0), R) := by rw [k_X3_told, if_pos hin, if_pos h24, if_neg h37, if_pos h56, if_pos h75, if_neg (av_f (f := (fun y9 : Nat => R (26 + 2 * (Int.toNat sheet)) (Int.toNat (i + (y9 : Int))))) (w := w) (n := Int.toNat n) (by omega) h114)]
                    exact hret _ ((u2 I 0 6 0), R) _ _ _ _ dX3_told_119 ⟨by rw [hk9], by rw [hk9], by rw [hk9]; exact (fun q h14 h4 => by first | rfl | exact uR_n h14 | exact uR_n h4 | exact (uR_n h14).trans (uR_n h4) | exact (uR_n h4).trans (uR_n h14))⟩ hP hS
            exact key87 (Int.toNat (n - (0 : Int)) + 1) 0 (by omega) rfl (by omega) _ _ hP hS ls (lv_sub hl [0, 1, 2, 3, 4, 5, 6, 7, 8] rfl)
          · skip
            refine jz_bipush C dX3_told_78 (by decide +kernel) ?_
            have hk9 : k_X3_told I R sheet lane i n = (-2, (u2 I 0 6 0), R) := by rw [k_X3_told, (if_pos hin), (if_pos h24), (if_neg (h37)), (if_pos h56), (if_neg (h75))]
            exact hret _ ((u2 I 0 6 0), R) _ _ _ _ dX3_told_80 ⟨by rw [hk9], by rw [hk9], by rw [hk9]; exact (fun q h14 h4 => by first | rfl | exact uR_n h14 | exact uR_n h4 | exact (uR_n h14).trans (uR_n h4) | exact (uR_n h4).trans (uR_n h14))⟩ hP hS
        · skip
          refine lv_aload_n hx hb dX3_told_59 rfl (lv_at hl 2 rfl) ?_
          refine lv_iload hx hb dX3_told_60 (lv_at hl 0 rfl) ?_
          refine jw_V C hl.1 (jpreV hE hP 3 0 rfl rfl) (c_X3_fail (A := A) (jDC hD) (ft (I 25 (Int.toNat sheet)) (I 26 (Int.toNat sheet)) lane i n) ) (cwV 1 C.2.2.2.2 gX3_told_X3_fail rfl rfl rfl (by decide +kernel) ⟨Nat.le_of_ble_eq_true rfl, Nat.le_of_ble_eq_true rfl⟩) (As := [.int (iI (ft (I 25 (Int.toNat sheet)) (I 26 (Int.toNat sheet)) lane i n))]) (hn := rfl) (hst := rfl) (rest := []) (hW := Nat.le_of_ble_eq_true rfl) (hdg := dX3_told_62) (hf := ⟨Nat.le_of_ble_eq_true rfl, Nat.le_of_ble_eq_true rfl⟩) hS (fun v9 uq62 H lc hq9 hP hS => ?_)
          subst hq9
          have hP : va_P D vwCl (wC cI cS ad (u2 (u2 I 0 6 0) 0 6 (ft (I 25 (Int.toNat sheet)) (I 26 (Int.toNat sheet)) lane i n)) R) H := hP
          have hk9 : k_X3_told I R sheet lane i n = (-10 - (ft (I 25 (Int.toNat sheet)) (I 26 (Int.toNat sheet)) lane i n), (u2 (u2 I 0 6 0) 0 6 (ft (I 25 (Int.toNat sheet)) (I 26 (Int.toNat sheet)) lane i n)), R) := by rw [k_X3_told, (if_pos hin), (if_pos h24), (if_neg (h37)), (if_neg (h56))]
          exact hret _ ((u2 (u2 I 0 6 0) 0 6 (ft (I 25 (Int.toNat sheet)) (I 26 (Int.toNat sheet)) lane i n)), R) _ _ _ _ dX3_told_65 ⟨by rw [hk9], by rw [hk9], by rw [hk9]; exact (fun q h14 h4 => by first | rfl | exact uR_n h14 | exact uR_n h4 | exact (uR_n h14).trans (uR_n h4) | exact (uR_n h4).trans (uR_n h14))⟩ hP hS
      · skip
        refine jz_bipush C dX3_told_40 (by decide +kernel) ?_
        have hk9 : k_X3_told I R sheet lane i n = (-3, (u2 I 0 6 0), R) := by rw [k_X3_told, (if_pos hin), (if_pos h24), (if_pos h37)]
        exact hret _ ((u2 I 0 6 0), R) _ _ _ _ dX3_told_42 ⟨by rw [hk9], by rw [hk9], by rw [hk9]; exact (fun q h14 h4 => by first | rfl | exact uR_n h14 | exact uR_n h4 | exact (uR_n h14).trans (uR_n h4) | exact (uR_n h4).trans (uR_n h14))⟩ hP hS
    · skip
      refine jz_bipush C dX3_told_27 (by decide +kernel) ?_
      have hk9 : k_X3_told I R sheet lane i n = (-2, (u2 I 0 6 0), R) := by rw [k_X3_told, (if_pos hin), (if_neg h24)]
      exact hret _ ((u2 I 0 6 0), R) _ _ _ _ dX3_told_29 ⟨by rw [hk9], by rw [hk9], by rw [hk9]; exact (fun q h14 h4 => by first | rfl | exact uR_n h14 | exact uR_n h4 | exact (uR_n h14).trans (uR_n h4) | exact (uR_n h4).trans (uR_n h14))⟩ hP hS
  · skip
    refine lv_aload_n hx hb dX3_told_5 rfl (lv_at hl 0 rfl) ?_
    refine lv_iload_n hx hb dX3_told_6 rfl (lv_at hl 1 rfl) ?_
    refine jc_V C hl.1 (jpreV hE hP 3 0 rfl rfl) (c_X3_sheetAtO sheet (show ¬ (0 ≤ sheet ∧ sheet < 4) from (by omega)) (show -2147483648 ≤ sheet ∧ sheet < 2147483648 from (by omega))) (cwV 1 C.2.2.2.2 gX3_told_X3_sheetAt rfl rfl rfl (by decide +kernel) ⟨Nat.le_of_ble_eq_true rfl, Nat.le_of_ble_eq_true rfl⟩) (As := [.int (iI (sheet))]) (v := .null) (hn := rfl) (hst := rfl) (rest := []) (hW := Nat.le_of_ble_eq_true rfl) (hdg := dX3_told_7) (hf := ⟨Nat.le_of_ble_eq_true rfl, Nat.le_of_ble_eq_true rfl⟩) ?_
    refine lv_astoreN (lv' := [(5, .null), (0, .ref (ad 0)), (1, .int (iI (sheet))), (2, .int (iI (lane))), (3, .int (iI (i))), (4, .int (iI (n)))]) hx hb dX3_told_10 hl (by decide) rfl (fun ls hl => ?_)
    refine lv_aloadN hx hb dX3_told_12 (lv_at hl 0 rfl) ?_
    refine lv_ifnonnullN hx hb dX3_told_14 ?_
    refine jz_const C dX3_told_17 ?_
    have hk9 : k_X3_told I R sheet lane i n = (-1, (u2 I 0 6 0), R) := by rw [k_X3_told, (if_neg hin)]
    exact hret _ ((u2 I 0 6 0), R) _ _ _ _ dX3_told_18 ⟨by rw [hk9], by rw [hk9], by rw [hk9]; exact (fun q h14 h4 => by first | rfl | exact uR_n h14 | exact uR_n h4 | exact (uR_n h14).trans (uR_n h4) | exact (uR_n h4).trans (uR_n h14))⟩ hP hS
def k_X3_round (I R : Nat → Nat → Int) (what : Int) : Int × (Nat → Nat → Int) × (Nat → Nat → Int) := if 0 ≤ what ∧ what ≤ 1 then (if (I 5 9) = 0 then ((-3, I, R)) else (if what = 0 then (((ro (fun y9 : Int => ye I R y9 (Int.toNat (I 5 13))) 257 0 (I 5 16) (fl (R 4) (-1) 256)).1, I, R)) else ((((ro (fun y9 : Int => ye I R y9 (Int.toNat (I 5 13))) 257 0 (I 5 16) (fl (R 4) (-1) 256)).2) - ((ro (fun y9 : Int => ye I R y9 (Int.toNat (I 5 13))) 257 0 (I 5 16) (fl (R 4) (-1) 256)).1), I, R)))) else ((-2, I, R))
abbrev rm_X3_round : Room := { frames := 6, cells := 0, slots := 0, locals := 145 }
set_option maxHeartbeats 4000000 in
set_option maxRecDepth 100000 in
theorem c_X3_round {l : Launch} {D : va_G} {cI cS : ClassId} {ad : Nat → Nat} {I R : Nat → Nat → Int} {A : Nat → Prop} (hD : va_D A (wC cI cS ad I R))  (what : Int)  (hV : VI I R) (hr_what : -2147483648 ≤ what ∧ what < 2147483648): JV l yX3_round wsX3_round rm_X3_round (jB D cI cS (wC cI cS ad I R)) A [.ref (ad 0), .int (iI (what))] (fun v9 (u9 : (Nat → Nat → Int) × (Nat → Nat → Int)) => v9 = some (.int (iI (k_X3_round I R what).1)) ∧ u9.1 = (k_X3_round I R what).2.1 ∧ jq u9.2 (k_X3_round I R what).2.2) (fun u9 H => va_P D vwCl (wC cI cS ad u9.1 u9.2) H) := by
  refine JV.mkI rfl (by decide +kernel) rfl (Nat.le_of_ble_eq_true rfl) ?_
  intro p e st mi ar bl mth cd Q ls C hB hl hret
  obtain ⟨hE, hP⟩ := hB
  have hx := C.1
  have hb := C.2.1
  have hl : lv_has ls 5 [(0, .ref (ad 0)), (1, .int (iI (what)))] := hl
  have hin2 : ∀ w ∈ wsX20, w ∈ wsX3_round := fun _ h => List.mem_cons_of_mem _ (List.mem_append_right _ h)
  have hin3 : ∀ w ∈ wsX30, w ∈ wsX3_round := fun _ h => List.mem_cons_of_mem _ (List.mem_append_left _ (List.mem_append_right _ h))
  suffices hgo : ∀ (H : Heap) (lc : List Loc), va_P D vwCl (wC cI cS ad I R) H → va_S A st.heap H lc → W p l e rm_X3_round st mi ar bl mth cd H lc 0 0 Q (F0 mi 0 ls []) from hgo _ _ hP va_S.rf
  clear hP
  intro H lc hP hS
  have hT := hV.town
  have hW := hT.works
  have hK := hT.wards
  have hSt := hV.stands
  have hset := hT.set
  have hset2 := pow_bd hW hset
  have hcel := hT.cells
  have hlaw := hT.law
  have hrd := hT.reads
  have hP8 := pw8 hW
  refine lv_iload_n hx hb dX3_round_0 rfl (lv_at hl 1 rfl) ?_
  refine jz_const C dX3_round_1 ?_
  refine jc_S C hl.1 (jpreS hE hP) (c_X3_isUpTo what 1 (show -2147483648 ≤ what ∧ what < 2147483648 from (by omega)) (show -2147483648 ≤ 1 ∧ 1 < 2147483648 from (by omega))) (va_cwS 2 C.2.2.2.2 gX3_round_X3_isUpTo rfl rfl rfl (by decide +kernel) ⟨Nat.le_of_ble_eq_true rfl, Nat.le_of_ble_eq_true rfl⟩) (As := [.int (iI (what)), .int (iI (1))]) (v := .int (iI (if 0 ≤ what ∧ what ≤ 1 then 1 else 0))) (hn := rfl) (hst := rfl) (rest := []) (hW := Nat.le_of_ble_eq_true rfl) (hdg := dX3_round_2) (hf := ⟨Nat.le_of_ble_eq_true rfl, Nat.le_of_ble_eq_true rfl⟩) ?_
  refine jz_bool_ne (tgt := 11) C dX3_round_5 (by decide) (fun h5 => ?_) (fun h5 => ?_)
  · skip
    refine lv_aload_n hx hb dX3_round_11 rfl (lv_at hl 0 rfl) ?_
    refine fg_V_present C hin3 hE hP (List.mem_of_getElem? (i := 1) rfl) dX3_round_12 ?_
    refine fg_T_stands C hin2 hE hP (v := I 5 9) (List.mem_of_getElem? (i := 2) rfl) dX3_round_15 rfl ?_
    refine jz_if_ne (tgt := 24) C dX3_round_18 (by decide) (by omega) (fun h18 => ?_) (fun h18 => ?_)
    · skip
      refine lv_aload_n hx hb dX3_round_24 rfl (lv_at hl 0 rfl) ?_
      refine fg_V_firstYear C hin3 hE hP (List.mem_of_getElem? (i := 3) rfl) dX3_round_25 ?_
      refine jz_const C dX3_round_28 ?_
      refine jw_S C hl.1 (jpreS hE hP) (c_J7_fill_53178 (A := A) (jDC hD) (-1) 4 256 (R 4) (ad 4) rfl (by decide)) (va_cwS 2 C.2.2.2.2 gX3_round_J7_fill_53178 rfl rfl rfl (by decide +kernel) ⟨Nat.le_of_ble_eq_true rfl, Nat.le_of_ble_eq_true rfl⟩) (As := [.ref (ad 4), .int (iI (-1))]) (hn := rfl) (hst := rfl) (rest := []) (hW := Nat.le_of_ble_eq_true rfl) (hdg := dX3_round_29) (hf := ⟨Nat.le_of_ble_eq_true rfl, Nat.le_of_ble_eq_true rfl⟩) hS (fun v9 uq29 H lc hq9 hP hS => ?_)
      subst hq9
      have hP : va_P D vwCl (wC cI cS ad I (uR R 4 (fl (R 4) (-1) 256))) H := hP
      refine lv_aload_n hx hb dX3_round_32 rfl (lv_at hl 0 rfl) ?_
      refine fg_V_present C hin3 hE hP (List.mem_of_getElem? (i := 1) rfl) dX3_round_33 ?_
      refine fg_T_setting C hin2 hE hP (v := I 5 16) (List.mem_of_getElem? (i := 4) rfl) dX3_round_36 rfl ?_
      refine lv_istore_n (lv' := [(2, .int (iI (I 5 16))), (0, .ref (ad 0)), (1, .int (iI (what)))]) hx hb dX3_round_39 rfl hl (by decide) rfl (fun ls hl => ?_)
      refine jz_const C dX3_round_40 ?_
      refine lv_istore_n (lv' := [(3, .int (iI (0))), (2, .int (iI (I 5 16))), (0, .ref (ad 0)), (1, .int (iI (what)))]) hx hb dX3_round_41 rfl hl (by decide) rfl (fun ls hl => ?_)
      have key42 : ∀ (n42 : Nat) (i : Nat) (s : Int) (fy : Nat → Int) (gv : Nat → Int) (hi : i ≤ 257) (hs9 : 0 ≤ s ∧ s < 2 ^ (Int.toNat (2 * I 5 13))) (hfy : fyo (i : Int) fy) (hro : ro (fun y9 : Int => ye I R y9 (Int.toNat (I 5 13))) (257 - (i)) (i : Int) s fy = (ro (fun y9 : Int => ye I R y9 (Int.toNat (I 5 13))) 257 0 (I 5 16) (fl (R 4) (-1) 256))), (257 - (i : Int) : Int) < n42 → ∀ (H : Heap) (lc : List Loc), va_P D vwCl (wC cI cS ad I (uR (uR R 4 fy) 14 gv)) H → va_S A st.heap H lc → ∀ (ls : Array Slot), lv_has ls 5 [(3, .int (iI ((i : Int)))), (2, .int (iI (s))), (0, .ref (ad 0)), (1, .int (iI (what)))] → W p l e rm_X3_round st mi ar bl mth cd H lc 0 0 Q (F0 mi 42 ls []) := by
        intro n42
        induction n42 with
        | zero => intro i s fy gv hi hs9 hfy hro hn9; exfalso; omega
        | succ n42 ih42 =>
          intro i s fy gv hi hs9 hfy hro hn9 H lc hP hS ls hl
          refine lv_iload_n hx hb dX3_round_42 rfl (lv_at hl 0 rfl) ?_
          refine jz_sipush C dX3_round_43 (by decide +kernel) ?_
          refine jz_icmp_gt (tgt := 85) C dX3_round_46 (by decide) (by omega) (fun h46 => ?_) (fun h46 => ?_)
          · skip
            have hs8 := pow_bd hW hs9
            have hfs := hfy (Int.toNat s) (by omega)
            have hr9 : (ro (fun y9 : Int => ye I R y9 (Int.toNat (I 5 13))) 257 0 (I 5 16) (fl (R 4) (-1) 256)) = (fy (Int.toNat s), (i : Int)) := by
              first | (rw [← hro, show 257 - i = (256 - i) + 1 by omega]; exact ro_f h58) | (rw [← hro, show 257 - i = 0 by omega]; rfl)
            refine lv_aload_n hx hb dX3_round_85 rfl (lv_at hl 2 rfl) ?_
            refine fg_V_firstYear C hin3 hE hP (List.mem_of_getElem? (i := 3) rfl) dX3_round_86 ?_
            refine lv_iload_n hx hb dX3_round_89 rfl (lv_at hl 1 rfl) ?_
            refine jc_S C hl.1 (jpreS hE hP) (c_X3_read s 4 256 fy (ad 4) rfl (by decide) (show 0 ≤ s ∧ s < 256 from (by omega))) (va_cwS 2 C.2.2.2.2 gX3_round_X3_read rfl rfl rfl (by decide +kernel) ⟨Nat.le_of_ble_eq_true rfl, Nat.le_of_ble_eq_true rfl⟩) (As := [.ref (ad 4), .int (iI (s))]) (v := .int (iI (fy (Int.toNat s)))) (hn := rfl) (hst := rfl) (rest := []) (hW := Nat.le_of_ble_eq_true rfl) (hdg := dX3_round_90) (hf := ⟨Nat.le_of_ble_eq_true rfl, Nat.le_of_ble_eq_true rfl⟩) ?_
            refine lv_istore (lv' := [(4, .int (iI (fy (Int.toNat s)))), (3, .int (iI ((i : Int)))), (2, .int (iI (s))), (0, .ref (ad 0)), (1, .int (iI (what)))]) hx hb dX3_round_93 hl (by decide) rfl (fun ls hl => ?_)
            have hl : lv_has ls 5 [(4, .int (iI ((ro (fun y9 : Int => ye I R y9 (Int.toNat (I 5 13))) 257 0 (I 5 16) (fl (R 4) (-1) 256)).1))), (3, .int (iI ((i : Int)))), (2, .int (iI (s))), (0, .ref (ad 0)), (1, .int (iI (what)))] := by
              rw [show ((ro (fun y9 : Int => ye I R y9 (Int.toNat (I 5 13))) 257 0 (I 5 16) (fl (R 4) (-1) 256)).1 : Int) = fy (Int.toNat s) from by rw [hr9]]
              exact hl
            have hl : lv_has ls 5 [(4, .int (iI ((ro (fun y9 : Int => ye I R y9 (Int.toNat (I 5 13))) 257 0 (I 5 16) (fl (R 4) (-1) 256)).1))), (3, .int (iI ((ro (fun y9 : Int => ye I R y9 (Int.toNat (I 5 13))) 257 0 (I 5 16) (fl (R 4) (-1) 256)).2))), (2, .int (iI (s))), (0, .ref (ad 0)), (1, .int (iI (what)))] := by
              rw [show ((ro (fun y9 : Int => ye I R y9 (Int.toNat (I 5 13))) 257 0 (I 5 16) (fl (R 4) (-1) 256)).2 : Int) = (i : Int) from by rw [hr9]]
              exact hl
            refine lv_iload_n hx hb dX3_round_95 rfl (lv_at hl 4 rfl) ?_
            refine jz_if_ne (tgt := 104) C dX3_round_96 (by decide) (by omega) (fun h96 => ?_) (fun h96 => ?_)
            · skip
              refine lv_iload_n hx hb dX3_round_104 rfl (lv_at hl 1 rfl) ?_
              refine lv_iload hx hb dX3_round_105 (lv_at hl 0 rfl) ?_
              refine jz_isub C dX3_round_107 ?_
              have hk9 : k_X3_round I R what = (((ro (fun y9 : Int => ye I R y9 (Int.toNat (I 5 13))) 257 0 (I 5 16) (fl (R 4) (-1) 256)).2) - ((ro (fun y9 : Int => ye I R y9 (Int.toNat (I 5 13))) 257 0 (I 5 16) (fl (R 4) (-1) 256)).1), I, R) := by rw [k_X3_round, (if_pos h5), (if_neg (h18)), (if_neg (h96))]
              exact hret _ (I, (uR (uR R 4 fy) 14 gv)) _ _ _ _ dX3_round_108 ⟨by rw [hk9], by rw [hk9], by rw [hk9]; exact (fun q h14 h4 => by first | rfl | exact uR_n h14 | exact uR_n h4 | exact (uR_n h14).trans (uR_n h4) | exact (uR_n h4).trans (uR_n h14))⟩ hP hS
            · skip
              refine lv_iload hx hb dX3_round_99 (lv_at hl 0 rfl) ?_
              refine lv_goto (tgt := 108) hx hb dX3_round_101 (by decide) ?_
              have hk9 : k_X3_round I R what = ((ro (fun y9 : Int => ye I R y9 (Int.toNat (I 5 13))) 257 0 (I 5 16) (fl (R 4) (-1) 256)).1, I, R) := by rw [k_X3_round, (if_pos h5), (if_neg (h18)), (if_pos h96)]
              exact hret _ (I, (uR (uR R 4 fy) 14 gv)) _ _ _ _ dX3_round_108 ⟨by rw [hk9], by rw [hk9], by rw [hk9]; exact (fun q h14 h4 => by first | rfl | exact uR_n h14 | exact uR_n h4 | exact (uR_n h14).trans (uR_n h4) | exact (uR_n h4).trans (uR_n h14))⟩ hP hS
          · skip
            have hs8 := pow_bd hW hs9
            have hfs := hfy (Int.toNat s) (by omega)
            refine lv_aload_n hx hb dX3_round_49 rfl (lv_at hl 2 rfl) ?_
            refine fg_V_firstYear C hin3 hE hP (List.mem_of_getElem? (i := 3) rfl) dX3_round_50 ?_
            refine lv_iload_n hx hb dX3_round_53 rfl (lv_at hl 1 rfl) ?_
            refine jc_S C hl.1 (jpreS hE hP) (c_X3_read s 4 256 fy (ad 4) rfl (by decide) (show 0 ≤ s ∧ s < 256 from (by omega))) (va_cwS 2 C.2.2.2.2 gX3_round_X3_read rfl rfl rfl (by decide +kernel) ⟨Nat.le_of_ble_eq_true rfl, Nat.le_of_ble_eq_true rfl⟩) (As := [.ref (ad 4), .int (iI (s))]) (v := .int (iI (fy (Int.toNat s)))) (hn := rfl) (hst := rfl) (rest := []) (hW := Nat.le_of_ble_eq_true rfl) (hdg := dX3_round_54) (hf := ⟨Nat.le_of_ble_eq_true rfl, Nat.le_of_ble_eq_true rfl⟩) ?_
            refine jz_const C dX3_round_57 ?_
            refine jz_icmp_ne (tgt := 85) C dX3_round_58 (by decide) (by omega) (fun h58 => ?_) (fun h58 => ?_)
            · skip
              have hs8 := pow_bd hW hs9
              have hfs := hfy (Int.toNat s) (by omega)
              have hr9 : (ro (fun y9 : Int => ye I R y9 (Int.toNat (I 5 13))) 257 0 (I 5 16) (fl (R 4) (-1) 256)) = (fy (Int.toNat s), (i : Int)) := by
                first | (rw [← hro, show 257 - i = (256 - i) + 1 by omega]; exact ro_f h58) | (rw [← hro, show 257 - i = 0 by omega]; rfl)
              refine lv_aload_n hx hb dX3_round_85 rfl (lv_at hl 2 rfl) ?_
              refine fg_V_firstYear C hin3 hE hP (List.mem_of_getElem? (i := 3) rfl) dX3_round_86 ?_
              refine lv_iload_n hx hb dX3_round_89 rfl (lv_at hl 1 rfl) ?_
              refine jc_S C hl.1 (jpreS hE hP) (c_X3_read s 4 256 fy (ad 4) rfl (by decide) (show 0 ≤ s ∧ s < 256 from (by omega))) (va_cwS 2 C.2.2.2.2 gX3_round_X3_read rfl rfl rfl (by decide +kernel) ⟨Nat.le_of_ble_eq_true rfl, Nat.le_of_ble_eq_true rfl⟩) (As := [.ref (ad 4), .int (iI (s))]) (v := .int (iI (fy (Int.toNat s)))) (hn := rfl) (hst := rfl) (rest := []) (hW := Nat.le_of_ble_eq_true rfl) (hdg := dX3_round_90) (hf := ⟨Nat.le_of_ble_eq_true rfl, Nat.le_of_ble_eq_true rfl⟩) ?_
              refine lv_istore (lv' := [(4, .int (iI (fy (Int.toNat s)))), (3, .int (iI ((i : Int)))), (2, .int (iI (s))), (0, .ref (ad 0)), (1, .int (iI (what)))]) hx hb dX3_round_93 hl (by decide) rfl (fun ls hl => ?_)
              have hl : lv_has ls 5 [(4, .int (iI ((ro (fun y9 : Int => ye I R y9 (Int.toNat (I 5 13))) 257 0 (I 5 16) (fl (R 4) (-1) 256)).1))), (3, .int (iI ((i : Int)))), (2, .int (iI (s))), (0, .ref (ad 0)), (1, .int (iI (what)))] := by
                rw [show ((ro (fun y9 : Int => ye I R y9 (Int.toNat (I 5 13))) 257 0 (I 5 16) (fl (R 4) (-1) 256)).1 : Int) = fy (Int.toNat s) from by rw [hr9]]
                exact hl
              have hl : lv_has ls 5 [(4, .int (iI ((ro (fun y9 : Int => ye I R y9 (Int.toNat (I 5 13))) 257 0 (I 5 16) (fl (R 4) (-1) 256)).1))), (3, .int (iI ((ro (fun y9 : Int => ye I R y9 (Int.toNat (I 5 13))) 257 0 (I 5 16) (fl (R 4) (-1) 256)).2))), (2, .int (iI (s))), (0, .ref (ad 0)), (1, .int (iI (what)))] := by
                rw [show ((ro (fun y9 : Int => ye I R y9 (Int.toNat (I 5 13))) 257 0 (I 5 16) (fl (R 4) (-1) 256)).2 : Int) = (i : Int) from by rw [hr9]]
                exact hl
              refine lv_iload_n hx hb dX3_round_95 rfl (lv_at hl 4 rfl) ?_
              refine jz_if_ne (tgt := 104) C dX3_round_96 (by decide) (by omega) (fun h96 => ?_) (fun h96 => ?_)
              · skip
                refine lv_iload_n hx hb dX3_round_104 rfl (lv_at hl 1 rfl) ?_
                refine lv_iload hx hb dX3_round_105 (lv_at hl 0 rfl) ?_
                refine jz_isub C dX3_round_107 ?_
                have hk9 : k_X3_round I R what = (((ro (fun y9 : Int => ye I R y9 (Int.toNat (I 5 13))) 257 0 (I 5 16) (fl (R 4) (-1) 256)).2) - ((ro (fun y9 : Int => ye I R y9 (Int.toNat (I 5 13))) 257 0 (I 5 16) (fl (R 4) (-1) 256)).1), I, R) := by rw [k_X3_round, (if_pos h5), (if_neg (h18)), (if_neg (h96))]
                exact hret _ (I, (uR (uR R 4 fy) 14 gv)) _ _ _ _ dX3_round_108 ⟨by rw [hk9], by rw [hk9], by rw [hk9]; exact (fun q h14 h4 => by first | rfl | exact uR_n h14 | exact uR_n h4 | exact (uR_n h14).trans (uR_n h4) | exact (uR_n h4).trans (uR_n h14))⟩ hP hS
              · skip
                refine lv_iload hx hb dX3_round_99 (lv_at hl 0 rfl) ?_
                refine lv_goto (tgt := 108) hx hb dX3_round_101 (by decide) ?_
                have hk9 : k_X3_round I R what = ((ro (fun y9 : Int => ye I R y9 (Int.toNat (I 5 13))) 257 0 (I 5 16) (fl (R 4) (-1) 256)).1, I, R) := by rw [k_X3_round, (if_pos h5), (if_neg (h18)), (if_pos h96)]
                exact hret _ (I, (uR (uR R 4 fy) 14 gv)) _ _ _ _ dX3_round_108 ⟨by rw [hk9], by rw [hk9], by rw [hk9]; exact (fun q h14 h4 => by first | rfl | exact uR_n h14 | exact uR_n h4 | exact (uR_n h14).trans (uR_n h4) | exact (uR_n h4).trans (uR_n h14))⟩ hP hS
            · skip
              refine lv_aload_n hx hb dX3_round_61 rfl (lv_at hl 2 rfl) ?_
              refine fg_V_firstYear C hin3 hE hP (List.mem_of_getElem? (i := 3) rfl) dX3_round_62 ?_
              refine lv_iload_n hx hb dX3_round_65 rfl (lv_at hl 1 rfl) ?_
              refine lv_iload_n hx hb dX3_round_66 rfl (lv_at hl 0 rfl) ?_
              refine jw_S C hl.1 (jpreS hE hP) (c_X3_write (A := A) (jDC hD) s (i : Int) 4 256 fy (ad 4) rfl (by decide) (show 0 ≤ s ∧ s < 256 from (by omega))) (va_cwS 3 C.2.2.2.2 gX3_round_X3_write rfl rfl rfl (by decide +kernel) ⟨Nat.le_of_ble_eq_true rfl, Nat.le_of_ble_eq_true rfl⟩) (As := [.ref (ad 4), .int (iI (s)), .int (iI ((i : Int)))]) (hn := rfl) (hst := rfl) (rest := []) (hW := Nat.le_of_ble_eq_true rfl) (hdg := dX3_round_67) (hf := ⟨Nat.le_of_ble_eq_true rfl, Nat.le_of_ble_eq_true rfl⟩) hS (fun v9 uq67 H lc hq9 hP hS => ?_)
              subst hq9
              have hP : va_P D vwCl (wC cI cS ad I (uR (uR (uR R 4 fy) 14 gv) 4 (u1 fy (Int.toNat s) (i : Int)))) H := hP
              refine lv_aload_n hx hb dX3_round_70 rfl (lv_at hl 2 rfl) ?_
              refine fg_V_present C hin3 hE hP (List.mem_of_getElem? (i := 1) rfl) dX3_round_71 ?_
              refine lv_iload_n hx hb dX3_round_74 rfl (lv_at hl 1 rfl) ?_
              refine jw_V C hl.1 (jpreV hE hP 2 5 rfl rfl) (c_X2_yearAfter (A := A) (jDC hD) s hT hs9) (cwV 1 C.2.2.2.2 gX3_round_X2_yearAfter rfl rfl rfl (by decide +kernel) ⟨Nat.le_of_ble_eq_true rfl, Nat.le_of_ble_eq_true rfl⟩) (As := [.int (iI (s))]) (hn := rfl) (hst := rfl) (rest := []) (hW := Nat.le_of_ble_eq_true rfl) (hdg := dX3_round_75) (hf := ⟨Nat.le_of_ble_eq_true rfl, Nat.le_of_ble_eq_true rfl⟩) hS (fun v9 uq75 H lc hq9 hP hS => ?_)
              obtain rfl : v9 = some (.int (iI (ye I R s (Int.toNat (I 5 13))))) := by first | exact hq9 | (rw [hq9, ye_jq (R := (uR (uR (uR R 4 fy) 14 gv) 4 (u1 fy (Int.toNat s) (i : Int)))) (R' := R) (by intro q h14 h4; simp only [uR_n h14, uR_n h4])])
              have hP : va_P D vwCl (wC cI cS ad I (uR (uR (uR R 4 fy) 4 (u1 fy (Int.toNat s) (i : Int))) 14 uq75)) H := hP
              refine lv_istore_n (lv' := [(2, .int (iI (ye I R s (Int.toNat (I 5 13))))), (3, .int (iI ((i : Int)))), (0, .ref (ad 0)), (1, .int (iI (what)))]) hx hb dX3_round_78 rfl hl (by decide) rfl (fun ls hl => ?_)
              refine jz_iinc (k := 1) (z := (i : Int) + 1) (lv' := [(3, .int (iI ((i : Int) + 1))), (2, .int (iI (ye I R s (Int.toNat (I 5 13))))), (0, .ref (ad 0)), (1, .int (iI (what)))]) C dX3_round_79 hl rfl rfl (by decide) rfl (fun ls hl => ?_)
              refine lv_goto (tgt := 42) hx hb dX3_round_82 (by decide) ?_
              exact ih42 (i + 1) (ye I R s (Int.toNat (I 5 13))) (u1 fy (Int.toNat s) (i : Int)) uq75 (by omega) (ye_bd hT hs9 (Int.toNat (I 5 13)) (by omega)) (fyo_s (by omega) hfy) (by rw [← hro, show 257 - i = (257 - (i + 1)) + 1 by omega]; exact (ro_t (nx := (fun y9 : Int => ye I R y9 (Int.toNat (I 5 13)))) (k := 257 - (i + 1)) (i := (i : Int)) (s := s) (fy := fy) h58).symm) (by omega) _ _ (by rw [show uR (uR R 4 (u1 fy (Int.toNat s) i)) 14 uq75 = uR (uR R 4 (u1 fy (Int.toNat s) i)) 14 uq75 from rfl]; exact hP) hS ls (lv_sub hl [0, 1, 2, 3] rfl)
      exact key42 (Int.toNat (257 - (0 : Int)) + 1) 0 (I 5 16) (fl (R 4) (-1) 256) (R 14) (by omega) hset fyo_0 rfl (by omega) _ _ (by rw [show uR (uR R 4 (fl (R 4) (-1) 256)) 14 (R 14) = uR R 4 (fl (R 4) (-1) 256) from by funext q; by_cases e : q = 14 <;> simp [uR, e]]; exact hP) hS ls (lv_sub hl [0, 1, 2, 3] rfl)
    · skip
      refine jz_bipush C dX3_round_21 (by decide +kernel) ?_
      have hk9 : k_X3_round I R what = (-3, I, R) := by rw [k_X3_round, (if_pos h5), (if_pos h18)]
      exact hret _ (I, R) _ _ _ _ dX3_round_23 ⟨by rw [hk9], by rw [hk9], by rw [hk9]; exact (fun q h14 h4 => by first | rfl | exact uR_n h14 | exact uR_n h4 | exact (uR_n h14).trans (uR_n h4) | exact (uR_n h4).trans (uR_n h14))⟩ hP hS
  · skip
    refine jz_bipush C dX3_round_8 (by decide +kernel) ?_
    have hk9 : k_X3_round I R what = (-2, I, R) := by rw [k_X3_round, (if_neg h5)]
    exact hret _ (I, R) _ _ _ _ dX3_round_10 ⟨by rw [hk9], by rw [hk9], by rw [hk9]; exact (fun q h14 h4 => by first | rfl | exact uR_n h14 | exact uR_n h4 | exact (uR_n h14).trans (uR_n h4) | exact (uR_n h4).trans (uR_n h14))⟩ hP hS
def k_X3_copy (I R : Nat → Nat → Int) (k : Int) (i : Int) (other : Int) (j : Int) (n : Int) : Int × (Nat → Nat → Int) × (Nat → Nat → Int) := if 0 ≤ k ∧ k < 4 then (if 0 ≤ other ∧ other < 4 then (if ¬ I 25 (Int.toNat k) = -1 then (if ¬ I 25 (Int.toNat other) = -1 then (if (I 25 (Int.toNat k)) = (I 25 (Int.toNat other)) then (if 0 ≤ i ∧ i ≤ I 26 (Int.toNat k) ∧ 0 ≤ n ∧ n ≤ I 26 (Int.toNat k) - i then (if 0 ≤ j ∧ j ≤ I 26 (Int.toNat other) ∧ 0 ≤ n ∧ n ≤ I 26 (Int.toNat other) - j then ((n, (u2 I 0 6 0), (uR R (26 + 2 * (Int.toNat other)) (cpz (R (26 + 2 * (Int.toNat k))) (R (26 + 2 * (Int.toNat other))) (Int.toNat i) (Int.toNat j) (Int.toNat n))))) else ((-10 - 3, (u2 (u2 I 0 6 0) 0 6 3), R))) else ((-10 - 3, (u2 (u2 I 0 6 0) 0 6 3), R))) else ((-10 - 2, (u2 (u2 I 0 6 0) 0 6 2), R))) else ((-10 - 1, (u2 (u2 I 0 6 0) 0 6 1), R))) else ((-10 - 1, (u2 (u2 I 0 6 0) 0 6 1), R))) else ((-1, (u2 I 0 6 0), R))) else (if 0 ≤ other ∧ other < 4 then ((-1, (u2 I 0 6 0), R)) else ((-1, (u2 I 0 6 0), R)))
abbrev rm_X3_copy : Room := { frames := 1, cells := 0, slots := 0, locals := 60 }
set_option maxHeartbeats 4000000 in
set_option maxRecDepth 100000 in
theorem c_X3_copy {l : Launch} {D : va_G} {cI cS : ClassId} {ad : Nat → Nat} {I R : Nat → Nat → Int} {A : Nat → Prop} (hD : va_D A (wC cI cS ad I R))  (k : Int) (i : Int) (other : Int) (j : Int) (n : Int)  (hV : VI I R) (hr_k : -2147483648 ≤ k ∧ k < 2147483648) (hr_i : -2147483648 ≤ i ∧ i < 2147483648) (hr_other : -2147483648 ≤ other ∧ other < 2147483648) (hr_j : -2147483648 ≤ j ∧ j < 2147483648) (hr_n : -2147483648 ≤ n ∧ n < 2147483648): JV l yX3_copy wsX3_copy rm_X3_copy (jB D cI cS (wC cI cS ad I R)) A [.ref (ad 0), .int (iI (k)), .int (iI (i)), .int (iI (other)), .int (iI (j)), .int (iI (n))] (fun v9 (u9 : (Nat → Nat → Int) × (Nat → Nat → Int)) => v9 = some (.int (iI (k_X3_copy I R k i other j n).1)) ∧ u9.1 = (k_X3_copy I R k i other j n).2.1 ∧ jq u9.2 (k_X3_copy I R k i other j n).2.2) (fun u9 H => va_P D vwCl (wC cI cS ad u9.1 u9.2) H) := by
  refine JV.mkI rfl (by decide +kernel) rfl (Nat.le_of_ble_eq_true rfl) ?_
  intro p e st mi ar bl mth cd Q ls C hB hl hret
  obtain ⟨hE, hP⟩ := hB
  have hx := C.1
  have hb := C.2.1
  have hl : lv_has ls 8 [(0, .ref (ad 0)), (1, .int (iI (k))), (2, .int (iI (i))), (3, .int (iI (other))), (4, .int (iI (j))), (5, .int (iI (n)))] := hl
  have hin0 : ∀ w ∈ wsX00, w ∈ wsX3_copy := fun _ h => List.mem_cons_of_mem _ (List.mem_append_right _ h)
  have hin3 : ∀ w ∈ wsX30, w ∈ wsX3_copy := fun _ h => List.mem_cons_of_mem _ (List.mem_append_left _ (List.mem_append_right _ h))
  suffices hgo : ∀ (H : Heap) (lc : List Loc), va_P D vwCl (wC cI cS ad I R) H → va_S A st.heap H lc → W p l e rm_X3_copy st mi ar bl mth cd H lc 0 0 Q (F0 mi 0 ls []) from hgo _ _ hP va_S.rf
  clear hP
  intro H lc hP hS
  have hT := hV.town
  have hW := hT.works
  have hK := hT.wards
  have hSt := hV.stands
  have hset := hT.set
  have hset2 := pow_bd hW hset
  have hcel := hT.cells
  have hlaw := hT.law
  have hrd := hT.reads
  have hP8 := pw8 hW
  refine lv_aload_n hx hb dX3_copy_0 rfl (lv_at hl 0 rfl) ?_
  refine jz_const C dX3_copy_1 ?_
  refine fp_V_lastFault C hin3 hE hP (jDC hD) hS (List.mem_of_getElem? (i := 1) rfl) dX3_copy_2 (fun H lc hP hS => ?_)
  refine jz_sub (P := 0 ≤ k ∧ k < 4) (fun hin => ?_) (fun hin => ?_)
  · skip
    refine lv_aload_n hx hb dX3_copy_5 rfl (lv_at hl 0 rfl) ?_
    refine lv_iload_n hx hb dX3_copy_6 rfl (lv_at hl 1 rfl) ?_
    refine jc_V C hl.1 (jpreV hE hP 3 0 rfl rfl) (c_X3_sheetAtI k (show 0 ≤ k ∧ k < 4 from (by omega))) (cwV 1 C.2.2.2.2 gX3_copy_X3_sheetAt rfl rfl rfl (by decide +kernel) ⟨Nat.le_of_ble_eq_true rfl, Nat.le_of_ble_eq_true rfl⟩) (As := [.int (iI (k))]) (v := .ref (ad (25 + 2 * (Int.toNat k)))) (hn := rfl) (hst := rfl) (rest := []) (hW := Nat.le_of_ble_eq_true rfl) (hdg := dX3_copy_7) (hf := ⟨Nat.le_of_ble_eq_true rfl, Nat.le_of_ble_eq_true rfl⟩) ?_
    refine lv_astore (lv' := [(6, .ref (ad (25 + 2 * (Int.toNat k)))), (0, .ref (ad 0)), (1, .int (iI (k))), (2, .int (iI (i))), (3, .int (iI (other))), (4, .int (iI (j))), (5, .int (iI (n)))]) hx hb dX3_copy_10 hl (by decide) rfl (fun ls hl => ?_)
    refine jz_sub (P := 0 ≤ other ∧ other < 4) (fun hin2 => ?_) (fun hin2 => ?_)
    · skip
      refine lv_aload_n hx hb dX3_copy_12 rfl (lv_at hl 1 rfl) ?_
      refine lv_iload_n hx hb dX3_copy_13 rfl (lv_at hl 4 rfl) ?_
      refine jc_V C hl.1 (jpreV hE hP 3 0 rfl rfl) (c_X3_sheetAtI other (show 0 ≤ other ∧ other < 4 from (by omega))) (cwV 1 C.2.2.2.2 gX3_copy_X3_sheetAt rfl rfl rfl (by decide +kernel) ⟨Nat.le_of_ble_eq_true rfl, Nat.le_of_ble_eq_true rfl⟩) (As := [.int (iI (other))]) (v := .ref (ad (25 + 2 * (Int.toNat other)))) (hn := rfl) (hst := rfl) (rest := []) (hW := Nat.le_of_ble_eq_true rfl) (hdg := dX3_copy_14) (hf := ⟨Nat.le_of_ble_eq_true rfl, Nat.le_of_ble_eq_true rfl⟩) ?_
      refine lv_astore (lv' := [(7, .ref (ad (25 + 2 * (Int.toNat other)))), (6, .ref (ad (25 + 2 * (Int.toNat k)))), (0, .ref (ad 0)), (1, .int (iI (k))), (2, .int (iI (i))), (3, .int (iI (other))), (4, .int (iI (j))), (5, .int (iI (n)))]) hx hb dX3_copy_17 hl (by decide) rfl (fun ls hl => ?_)
      refine lv_aload hx hb dX3_copy_19 (lv_at hl 1 rfl) ?_
      refine lv_ifnull hx hb dX3_copy_21 ?_
      refine lv_aload hx hb dX3_copy_24 (lv_at hl 0 rfl) ?_
      refine lv_ifnonnull (tgt := 31) hx hb dX3_copy_26 (by decide) ?_
      have hln := hV.lane (k := Int.toNat k) (by omega)
      have hsz := hV.size (k := Int.toNat k) (by omega)
      have hln2 := hV.lane (k := Int.toNat other) (by omega)
      have hsz2 := hV.size (k := Int.toNat other) (by omega)
      refine lv_aload hx hb dX3_copy_31 (lv_at hl 1 rfl) ?_
      refine jc_V C hl.1 (jpreH hE hP (by omega)) (c_X0_hasRow (Int.toNat k) (show (Int.toNat k) < 4 from (by omega)) (show -2147483648 ≤ I 25 (Int.toNat k) ∧ I 25 (Int.toNat k) < 2147483648 from (by have h9 := hV.lane (k := (Int.toNat k)) (by omega); omega))) (cwV 0 C.2.2.2.2 gX3_copy_X0_hasRow rfl rfl rfl (by decide +kernel) ⟨Nat.le_of_ble_eq_true rfl, Nat.le_of_ble_eq_true rfl⟩) (As := []) (v := .int (iI (if ¬ I 25 (Int.toNat k) = -1 then 1 else 0))) (hn := rfl) (hst := rfl) (rest := []) (hW := Nat.le_of_ble_eq_true rfl) (hdg := dX3_copy_33) (hf := ⟨Nat.le_of_ble_eq_true rfl, Nat.le_of_ble_eq_true rfl⟩) ?_
      refine jz_bool_eq (tgt := 47) C dX3_copy_36 (by decide) (fun h36 => ?_) (fun h36 => ?_)
      · skip
        refine lv_aload_n hx hb dX3_copy_47 rfl (lv_at hl 2 rfl) ?_
        refine jz_const C dX3_copy_48 ?_
        refine jw_V C hl.1 (jpreV hE hP 3 0 rfl rfl) (c_X3_fail (A := A) (jDC hD) 1 ) (cwV 1 C.2.2.2.2 gX3_copy_X3_fail rfl rfl rfl (by decide +kernel) ⟨Nat.le_of_ble_eq_true rfl, Nat.le_of_ble_eq_true rfl⟩) (As := [.int (iI (1))]) (hn := rfl) (hst := rfl) (rest := []) (hW := Nat.le_of_ble_eq_true rfl) (hdg := dX3_copy_49) (hf := ⟨Nat.le_of_ble_eq_true rfl, Nat.le_of_ble_eq_true rfl⟩) hS (fun v9 uq49 H lc hq9 hP hS => ?_)
        subst hq9
        have hP : va_P D vwCl (wC cI cS ad (u2 (u2 I 0 6 0) 0 6 1) R) H := hP
        have hk9 : k_X3_copy I R k i other j n = (-10 - 1, (u2 (u2 I 0 6 0) 0 6 1), R) := by rw [k_X3_copy, (if_pos hin), (if_pos hin2), (if_neg h36)]
        exact hret _ ((u2 (u2 I 0 6 0) 0 6 1), R) _ _ _ _ dX3_copy_52 ⟨by rw [hk9], by rw [hk9], by rw [hk9]; exact (fun q h14 h4 => by first | rfl | exact uR_n h14 | exact uR_n h4 | exact (uR_n h14).trans (uR_n h4) | exact (uR_n h4).trans (uR_n h14))⟩ hP hS
      · skip
        refine lv_aload hx hb dX3_copy_39 (lv_at hl 0 rfl) ?_
        refine jc_V C hl.1 (jpreH hE hP (by omega)) (c_X0_hasRow (Int.toNat other) (show (Int.toNat other) < 4 from (by omega)) (show -2147483648 ≤ I 25 (Int.toNat other) ∧ I 25 (Int.toNat other) < 2147483648 from (by have h9 := hV.lane (k := (Int.toNat other)) (by omega); omega))) (cwV 0 C.2.2.2.2 gX3_copy_X0_hasRow rfl rfl rfl (by decide +kernel) ⟨Nat.le_of_ble_eq_true rfl, Nat.le_of_ble_eq_true rfl⟩) (As := []) (v := .int (iI (if ¬ I 25 (Int.toNat other) = -1 then 1 else 0))) (hn := rfl) (hst := rfl) (rest := []) (hW := Nat.le_of_ble_eq_true rfl) (hdg := dX3_copy_41) (hf := ⟨Nat.le_of_ble_eq_true rfl, Nat.le_of_ble_eq_true rfl⟩) ?_
        refine jz_bool_ne (tgt := 53) C dX3_copy_44 (by decide) (fun h44 => ?_) (fun h44 => ?_)
        · skip
          refine lv_aload hx hb dX3_copy_53 (lv_at hl 1 rfl) ?_
          refine fg_H_lane C hin0 hE (by omega) hP (v := I 25 (Int.toNat k)) (List.mem_of_getElem? (i := 2) rfl) dX3_copy_55 rfl ?_
          refine lv_aload hx hb dX3_copy_58 (lv_at hl 0 rfl) ?_
          refine fg_H_lane C hin0 hE (by omega) hP (v := I 25 (Int.toNat other)) (List.mem_of_getElem? (i := 2) rfl) dX3_copy_60 rfl ?_
          refine jz_icmp_eq (tgt := 72) C dX3_copy_63 (by decide) (by omega) (fun h63 => ?_) (fun h63 => ?_)
          · skip
            refine lv_aload hx hb dX3_copy_72 (lv_at hl 1 rfl) ?_
            refine lv_iload_n hx hb dX3_copy_74 rfl (lv_at hl 4 rfl) ?_
            refine lv_iload hx hb dX3_copy_75 (lv_at hl 7 rfl) ?_
            refine jc_V C hl.1 (jpreH hE hP (by omega)) (c_X0_holds i n (Int.toNat k) (show (Int.toNat k) < 4 from (by omega)) (hV.size (by omega)) (show -2147483648 ≤ i ∧ i < 2147483648 from (by omega)) (show -2147483648 ≤ n ∧ n < 2147483648 from (by omega))) (cwV 2 C.2.2.2.2 gX3_copy_X0_holds rfl rfl rfl (by decide +kernel) ⟨Nat.le_of_ble_eq_true rfl, Nat.le_of_ble_eq_true rfl⟩) (As := [.int (iI (i)), .int (iI (n))]) (v := .int (iI (if 0 ≤ i ∧ i ≤ I 26 (Int.toNat k) ∧ 0 ≤ n ∧ n ≤ I 26 (Int.toNat k) - i then 1 else 0))) (hn := rfl) (hst := rfl) (rest := []) (hW := Nat.le_of_ble_eq_true rfl) (hdg := dX3_copy_77) (hf := ⟨Nat.le_of_ble_eq_true rfl, Nat.le_of_ble_eq_true rfl⟩) ?_
            refine jz_bool_eq (tgt := 95) C dX3_copy_80 (by decide) (fun h80 => ?_) (fun h80 => ?_)
            · skip
              refine lv_aload_n hx hb dX3_copy_95 rfl (lv_at hl 2 rfl) ?_
              refine jz_const C dX3_copy_96 ?_
              refine jw_V C hl.1 (jpreV hE hP 3 0 rfl rfl) (c_X3_fail (A := A) (jDC hD) 3 ) (cwV 1 C.2.2.2.2 gX3_copy_X3_fail rfl rfl rfl (by decide +kernel) ⟨Nat.le_of_ble_eq_true rfl, Nat.le_of_ble_eq_true rfl⟩) (As := [.int (iI (3))]) (hn := rfl) (hst := rfl) (rest := []) (hW := Nat.le_of_ble_eq_true rfl) (hdg := dX3_copy_97) (hf := ⟨Nat.le_of_ble_eq_true rfl, Nat.le_of_ble_eq_true rfl⟩) hS (fun v9 uq97 H lc hq9 hP hS => ?_)
              subst hq9
              have hP : va_P D vwCl (wC cI cS ad (u2 (u2 I 0 6 0) 0 6 3) R) H := hP
              have hk9 : k_X3_copy I R k i other j n = (-10 - 3, (u2 (u2 I 0 6 0) 0 6 3), R) := by rw [k_X3_copy, (if_pos hin), (if_pos hin2), (if_pos h36), (if_pos h44), (if_pos h63), (if_neg h80)]
              exact hret _ ((u2 (u2 I 0 6 0) 0 6 3), R) _ _ _ _ dX3_copy_100 ⟨by rw [hk9], by rw [hk9], by rw [hk9]; exact (fun q h14 h4 => by first | rfl | exact uR_n h14 | exact uR_n h4 | exact (uR_n h14).trans (uR_n h4) | exact (uR_n h4).trans (uR_n h14))⟩ hP hS
            · skip
              refine lv_aload hx hb dX3_copy_83 (lv_at hl 0 rfl) ?_
              refine lv_iload hx hb dX3_copy_85 (lv_at hl 6 rfl) ?_
              refine lv_iload hx hb dX3_copy_87 (lv_at hl 7 rfl) ?_
              refine jc_V C hl.1 (jpreH hE hP (by omega)) (c_X0_holds j n (Int.toNat other) (show (Int.toNat other) < 4 from (by omega)) (hV.size (by omega)) (show -2147483648 ≤ j ∧ j < 2147483648 from (by omega)) (show -2147483648 ≤ n ∧ n < 2147483648 from (by omega))) (cwV 2 C.2.2.2.2 gX3_copy_X0_holds rfl rfl rfl (by decide +kernel) ⟨Nat.le_of_ble_eq_true rfl, Nat.le_of_ble_eq_true rfl⟩) (As := [.int (iI (j)), .int (iI (n))]) (v := .int (iI (if 0 ≤ j ∧ j ≤ I 26 (Int.toNat other) ∧ 0 ≤ n ∧ n ≤ I 26 (Int.toNat other) - j then 1 else 0))) (hn := rfl) (hst := rfl) (rest := []) (hW := Nat.le_of_ble_eq_true rfl) (hdg := dX3_copy_89) (hf := ⟨Nat.le_of_ble_eq_true rfl, Nat.le_of_ble_eq_true rfl⟩) ?_
              refine jz_bool_ne (tgt := 101) C dX3_copy_92 (by decide) (fun h92 => ?_) (fun h92 => ?_)
              · skip
                refine lv_aload hx hb dX3_copy_101 (lv_at hl 1 rfl) ?_
                refine fg_H_row C hin0 hE (by omega) hP (List.mem_of_getElem? (i := 3) rfl) dX3_copy_103 ?_
                refine lv_iload_n hx hb dX3_copy_106 rfl (lv_at hl 4 rfl) ?_
                refine lv_aload hx hb dX3_copy_107 (lv_at hl 0 rfl) ?_
                refine fg_H_row C hin0 hE (by omega) hP (List.mem_of_getElem? (i := 3) rfl) dX3_copy_109 ?_
                refine lv_iload hx hb dX3_copy_112 (lv_at hl 6 rfl) ?_
                refine lv_iload hx hb dX3_copy_114 (lv_at hl 7 rfl) ?_
                refine va_copyi hx hb (C.2.2.1.trans hl.1.symm) C.2.2.2.1 (C.2.2.2.2 _ (List.mem_of_getElem? (i := 4) rfl)) (C.2.2.2.2 _ (List.mem_of_getElem? (i := 5) rfl)) (C.2.2.2.2 _ (List.mem_of_getElem? (i := 6) rfl)) (C.2.2.2.2 _ (List.mem_of_getElem? (i := 7) rfl)) hE.1 hP (jDC hD) hS (26 + 2 * (Int.toNat k)) (26 + 2 * (Int.toNat other)) 0 0 (wC_row (by omega)) (wC_row (by omega)) rfl rfl rfl (fun h9 => by rw [iI_0, iI_lt (by omega)] at h9; omega) (fun h9 => by rw [iI_0, iI_lt (by omega)] at h9; omega) (fun h9 => by rw [iI_0, iI_lt (by omega)] at h9; omega) (by rw [iI_clamp (by omega), iI_clamp (by omega)]; omega) (by rw [iI_clamp (by omega), iI_clamp (by omega)]; omega) (fun _ _ => rfl) (Nat.le_of_ble_eq_true rfl) (Nat.le_of_ble_eq_true rfl) dX3_copy_116 (fun H lc hP _ hS => ?_)
                rw [iI_clamp (by omega), iI_clamp (by omega), iI_clamp (by omega), cpz_e] at hP
                have hP : va_P D vwCl (wC cI cS ad (u2 I 0 6 0) (uR R (26 + 2 * (Int.toNat other)) (cpz (R (26 + 2 * (Int.toNat k))) (R (26 + 2 * (Int.toNat other))) (Int.toNat i) (Int.toNat j) (Int.toNat n)))) H := wC_set (by omega) hP
                refine lv_iload hx hb dX3_copy_119 (lv_at hl 7 rfl) ?_
                have hk9 : k_X3_copy I R k i other j n = (n, (u2 I 0 6 0), (uR R (26 + 2 * (Int.toNat other)) (cpz (R (26 + 2 * (Int.toNat k))) (R (26 + 2 * (Int.toNat other))) (Int.toNat i) (Int.toNat j) (Int.toNat n)))) := by rw [k_X3_copy, (if_pos hin), (if_pos hin2), (if_pos h36), (if_pos h44), (if_pos h63), (if_pos h80), (if_pos h92)]
                exact hret _ ((u2 I 0 6 0), (uR R (26 + 2 * (Int.toNat other)) (cpz (R (26 + 2 * (Int.toNat k))) (R (26 + 2 * (Int.toNat other))) (Int.toNat i) (Int.toNat j) (Int.toNat n)))) _ _ _ _ dX3_copy_121 ⟨by rw [hk9], by rw [hk9], by rw [hk9]; exact (fun q h14 h4 => by first | rfl | exact uR_n h14 | exact uR_n h4 | exact (uR_n h14).trans (uR_n h4) | exact (uR_n h4).trans (uR_n h14))⟩ hP hS
              · skip
                refine lv_aload_n hx hb dX3_copy_95 rfl (lv_at hl 2 rfl) ?_
                refine jz_const C dX3_copy_96 ?_
                refine jw_V C hl.1 (jpreV hE hP 3 0 rfl rfl) (c_X3_fail (A := A) (jDC hD) 3 ) (cwV 1 C.2.2.2.2 gX3_copy_X3_fail rfl rfl rfl (by decide +kernel) ⟨Nat.le_of_ble_eq_true rfl, Nat.le_of_ble_eq_true rfl⟩) (As := [.int (iI (3))]) (hn := rfl) (hst := rfl) (rest := []) (hW := Nat.le_of_ble_eq_true rfl) (hdg := dX3_copy_97) (hf := ⟨Nat.le_of_ble_eq_true rfl, Nat.le_of_ble_eq_true rfl⟩) hS (fun v9 uq97 H lc hq9 hP hS => ?_)
                subst hq9
                have hP : va_P D vwCl (wC cI cS ad (u2 (u2 I 0 6 0) 0 6 3) R) H := hP
                have hk9 : k_X3_copy I R k i other j n = (-10 - 3, (u2 (u2 I 0 6 0) 0 6 3), R) := by rw [k_X3_copy, (if_pos hin), (if_pos hin2), (if_pos h36), (if_pos h44), (if_pos h63), (if_pos h80), (if_neg h92)]
                exact hret _ ((u2 (u2 I 0 6 0) 0 6 3), R) _ _ _ _ dX3_copy_100 ⟨by rw [hk9], by rw [hk9], by rw [hk9]; exact (fun q h14 h4 => by first | rfl | exact uR_n h14 | exact uR_n h4 | exact (uR_n h14).trans (uR_n h4) | exact (uR_n h4).trans (uR_n h14))⟩ hP hS
          · skip
            refine lv_aload_n hx hb dX3_copy_66 rfl (lv_at hl 2 rfl) ?_
            refine jz_const C dX3_copy_67 ?_
            refine jw_V C hl.1 (jpreV hE hP 3 0 rfl rfl) (c_X3_fail (A := A) (jDC hD) 2 ) (cwV 1 C.2.2.2.2 gX3_copy_X3_fail rfl rfl rfl (by decide +kernel) ⟨Nat.le_of_ble_eq_true rfl, Nat.le_of_ble_eq_true rfl⟩) (As := [.int (iI (2))]) (hn := rfl) (hst := rfl) (rest := []) (hW := Nat.le_of_ble_eq_true rfl) (hdg := dX3_copy_68) (hf := ⟨Nat.le_of_ble_eq_true rfl, Nat.le_of_ble_eq_true rfl⟩) hS (fun v9 uq68 H lc hq9 hP hS => ?_)
            subst hq9
            have hP : va_P D vwCl (wC cI cS ad (u2 (u2 I 0 6 0) 0 6 2) R) H := hP
            have hk9 : k_X3_copy I R k i other j n = (-10 - 2, (u2 (u2 I 0 6 0) 0 6 2), R) := by rw [k_X3_copy, (if_pos hin), (if_pos hin2), (if_pos h36), (if_pos h44), (if_neg (h63))]
            exact hret _ ((u2 (u2 I 0 6 0) 0 6 2), R) _ _ _ _ dX3_copy_71 ⟨by rw [hk9], by rw [hk9], by rw [hk9]; exact (fun q h14 h4 => by first | rfl | exact uR_n h14 | exact uR_n h4 | exact (uR_n h14).trans (uR_n h4) | exact (uR_n h4).trans (uR_n h14))⟩ hP hS
        · skip
          refine lv_aload_n hx hb dX3_copy_47 rfl (lv_at hl 2 rfl) ?_
          refine jz_const C dX3_copy_48 ?_
          refine jw_V C hl.1 (jpreV hE hP 3 0 rfl rfl) (c_X3_fail (A := A) (jDC hD) 1 ) (cwV 1 C.2.2.2.2 gX3_copy_X3_fail rfl rfl rfl (by decide +kernel) ⟨Nat.le_of_ble_eq_true rfl, Nat.le_of_ble_eq_true rfl⟩) (As := [.int (iI (1))]) (hn := rfl) (hst := rfl) (rest := []) (hW := Nat.le_of_ble_eq_true rfl) (hdg := dX3_copy_49) (hf := ⟨Nat.le_of_ble_eq_true rfl, Nat.le_of_ble_eq_true rfl⟩) hS (fun v9 uq49 H lc hq9 hP hS => ?_)
          subst hq9
          have hP : va_P D vwCl (wC cI cS ad (u2 (u2 I 0 6 0) 0 6 1) R) H := hP
          have hk9 : k_X3_copy I R k i other j n = (-10 - 1, (u2 (u2 I 0 6 0) 0 6 1), R) := by rw [k_X3_copy, (if_pos hin), (if_pos hin2), (if_pos h36), (if_neg h44)]
          exact hret _ ((u2 (u2 I 0 6 0) 0 6 1), R) _ _ _ _ dX3_copy_52 ⟨by rw [hk9], by rw [hk9], by rw [hk9]; exact (fun q h14 h4 => by first | rfl | exact uR_n h14 | exact uR_n h4 | exact (uR_n h14).trans (uR_n h4) | exact (uR_n h4).trans (uR_n h14))⟩ hP hS
    · skip
      refine lv_aload_n hx hb dX3_copy_12 rfl (lv_at hl 1 rfl) ?_
      refine lv_iload_n hx hb dX3_copy_13 rfl (lv_at hl 4 rfl) ?_
      refine jc_V C hl.1 (jpreV hE hP 3 0 rfl rfl) (c_X3_sheetAtO other (show ¬ (0 ≤ other ∧ other < 4) from (by omega)) (show -2147483648 ≤ other ∧ other < 2147483648 from (by omega))) (cwV 1 C.2.2.2.2 gX3_copy_X3_sheetAt rfl rfl rfl (by decide +kernel) ⟨Nat.le_of_ble_eq_true rfl, Nat.le_of_ble_eq_true rfl⟩) (As := [.int (iI (other))]) (v := .null) (hn := rfl) (hst := rfl) (rest := []) (hW := Nat.le_of_ble_eq_true rfl) (hdg := dX3_copy_14) (hf := ⟨Nat.le_of_ble_eq_true rfl, Nat.le_of_ble_eq_true rfl⟩) ?_
      refine lv_astoreN (lv' := [(7, .null), (6, .ref (ad (25 + 2 * (Int.toNat k)))), (0, .ref (ad 0)), (1, .int (iI (k))), (2, .int (iI (i))), (3, .int (iI (other))), (4, .int (iI (j))), (5, .int (iI (n)))]) hx hb dX3_copy_17 hl (by decide) rfl (fun ls hl => ?_)
      refine lv_aload hx hb dX3_copy_19 (lv_at hl 1 rfl) ?_
      refine lv_ifnull hx hb dX3_copy_21 ?_
      refine lv_aloadN hx hb dX3_copy_24 (lv_at hl 0 rfl) ?_
      refine lv_ifnonnullN hx hb dX3_copy_26 ?_
      refine jz_const C dX3_copy_29 ?_
      have hk9 : k_X3_copy I R k i other j n = (-1, (u2 I 0 6 0), R) := by rw [k_X3_copy, (if_pos hin), (if_neg hin2)]
      exact hret _ ((u2 I 0 6 0), R) _ _ _ _ dX3_copy_30 ⟨by rw [hk9], by rw [hk9], by rw [hk9]; exact (fun q h14 h4 => by first | rfl | exact uR_n h14 | exact uR_n h4 | exact (uR_n h14).trans (uR_n h4) | exact (uR_n h4).trans (uR_n h14))⟩ hP hS
  · skip
    refine lv_aload_n hx hb dX3_copy_5 rfl (lv_at hl 0 rfl) ?_
    refine lv_iload_n hx hb dX3_copy_6 rfl (lv_at hl 1 rfl) ?_
    refine jc_V C hl.1 (jpreV hE hP 3 0 rfl rfl) (c_X3_sheetAtO k (show ¬ (0 ≤ k ∧ k < 4) from (by omega)) (show -2147483648 ≤ k ∧ k < 2147483648 from (by omega))) (cwV 1 C.2.2.2.2 gX3_copy_X3_sheetAt rfl rfl rfl (by decide +kernel) ⟨Nat.le_of_ble_eq_true rfl, Nat.le_of_ble_eq_true rfl⟩) (As := [.int (iI (k))]) (v := .null) (hn := rfl) (hst := rfl) (rest := []) (hW := Nat.le_of_ble_eq_true rfl) (hdg := dX3_copy_7) (hf := ⟨Nat.le_of_ble_eq_true rfl, Nat.le_of_ble_eq_true rfl⟩) ?_
    refine lv_astoreN (lv' := [(6, .null), (0, .ref (ad 0)), (1, .int (iI (k))), (2, .int (iI (i))), (3, .int (iI (other))), (4, .int (iI (j))), (5, .int (iI (n)))]) hx hb dX3_copy_10 hl (by decide) rfl (fun ls hl => ?_)
    refine jz_sub (P := 0 ≤ other ∧ other < 4) (fun hin2 => ?_) (fun hin2 => ?_)
    · skip
      refine lv_aload_n hx hb dX3_copy_12 rfl (lv_at hl 1 rfl) ?_
      refine lv_iload_n hx hb dX3_copy_13 rfl (lv_at hl 4 rfl) ?_
      refine jc_V C hl.1 (jpreV hE hP 3 0 rfl rfl) (c_X3_sheetAtI other (show 0 ≤ other ∧ other < 4 from (by omega))) (cwV 1 C.2.2.2.2 gX3_copy_X3_sheetAt rfl rfl rfl (by decide +kernel) ⟨Nat.le_of_ble_eq_true rfl, Nat.le_of_ble_eq_true rfl⟩) (As := [.int (iI (other))]) (v := .ref (ad (25 + 2 * (Int.toNat other)))) (hn := rfl) (hst := rfl) (rest := []) (hW := Nat.le_of_ble_eq_true rfl) (hdg := dX3_copy_14) (hf := ⟨Nat.le_of_ble_eq_true rfl, Nat.le_of_ble_eq_true rfl⟩) ?_
      refine lv_astore (lv' := [(7, .ref (ad (25 + 2 * (Int.toNat other)))), (6, .null), (0, .ref (ad 0)), (1, .int (iI (k))), (2, .int (iI (i))), (3, .int (iI (other))), (4, .int (iI (j))), (5, .int (iI (n)))]) hx hb dX3_copy_17 hl (by decide) rfl (fun ls hl => ?_)
      refine lv_aloadN hx hb dX3_copy_19 (lv_at hl 1 rfl) ?_
      refine lv_ifnullN (tgt := 29) hx hb dX3_copy_21 (by decide) ?_
      refine jz_const C dX3_copy_29 ?_
      have hk9 : k_X3_copy I R k i other j n = (-1, (u2 I 0 6 0), R) := by rw [k_X3_copy, (if_neg hin), (if_pos hin2)]
      exact hret _ ((u2 I 0 6 0), R) _ _ _ _ dX3_copy_30 ⟨by rw [hk9], by rw [hk9], by rw [hk9]; exact (fun q h14 h4 => by first | rfl | exact uR_n h14 | exact uR_n h4 | exact (uR_n h14).trans (uR_n h4) | exact (uR_n h4).trans (uR_n h14))⟩ hP hS
    · skip
      refine lv_aload_n hx hb dX3_copy_12 rfl (lv_at hl 1 rfl) ?_
      refine lv_iload_n hx hb dX3_copy_13 rfl (lv_at hl 4 rfl) ?_
      refine jc_V C hl.1 (jpreV hE hP 3 0 rfl rfl) (c_X3_sheetAtO other (show ¬ (0 ≤ other ∧ other < 4) from (by omega)) (show -2147483648 ≤ other ∧ other < 2147483648 from (by omega))) (cwV 1 C.2.2.2.2 gX3_copy_X3_sheetAt rfl rfl rfl (by decide +kernel) ⟨Nat.le_of_ble_eq_true rfl, Nat.le_of_ble_eq_true rfl⟩) (As := [.int (iI (other))]) (v := .null) (hn := rfl) (hst := rfl) (rest := []) (hW := Nat.le_of_ble_eq_true rfl) (hdg := dX3_copy_14) (hf := ⟨Nat.le_of_ble_eq_true rfl, Nat.le_of_ble_eq_true rfl⟩) ?_
      refine lv_astoreN (lv' := [(7, .null), (6, .null), (0, .ref (ad 0)), (1, .int (iI (k))), (2, .int (iI (i))), (3, .int (iI (other))), (4, .int (iI (j))), (5, .int (iI (n)))]) hx hb dX3_copy_17 hl (by decide) rfl (fun ls hl => ?_)
      refine lv_aloadN hx hb dX3_copy_19 (lv_at hl 1 rfl) ?_
      refine lv_ifnullN (tgt := 29) hx hb dX3_copy_21 (by decide) ?_
      refine jz_const C dX3_copy_29 ?_
      have hk9 : k_X3_copy I R k i other j n = (-1, (u2 I 0 6 0), R) := by rw [k_X3_copy, (if_neg hin), (if_neg hin2)]
      exact hret _ ((u2 I 0 6 0), R) _ _ _ _ dX3_copy_30 ⟨by rw [hk9], by rw [hk9], by rw [hk9]; exact (fun q h14 h4 => by first | rfl | exact uR_n h14 | exact uR_n h4 | exact (uR_n h14).trans (uR_n h4) | exact (uR_n h4).trans (uR_n h14))⟩ hP hS
