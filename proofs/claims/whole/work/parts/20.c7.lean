def k_X1_readPart (I R : Nat → Nat → Int) (r : Int) (c : Int) : Int × (Nat → Nat → Int) × (Nat → Nat → Int) := if nx (I 2 2) (I 2 1) (R 3) = 120 then (if (I 15 13) < 4 then (if 49 ≤ nx (I 2 2 + 1) (I 2 1) (R 3) ∧ nx (I 2 2 + 1) (I 2 1) (R 3) ≤ 57 then ((1, (u2 (u2 (u2 I 2 2 ((I 2 2) + 1)) 2 2 ((((I 2 2) + 1)) + 1)) 15 13 (((I 15 13)) + 1)), (uR (uR (uR R 19 (u1 ((R 19)) (Int.toNat ((I 15 13))) ((r * ((I 15 11))) + c))) 20 (u1 ((R 20)) (Int.toNat ((I 15 13))) ((nx (((I 2 2) + 1)) ((I 2 1)) ((R 3))) - 48))) 23 (da ((R 23)) ((I 15 10)) ((I 15 11)) ((I 15 13)) r c (4))))) else ((0, (u2 I 2 2 ((I 2 2) + 1)), R))) else ((0, I, R))) else (if ¬ ko (nx (I 2 2) (I 2 1) (R 3)) = -1 then (if (I 15 14) < 6 then (if 49 ≤ nx (I 2 2 + 1) (I 2 1) (R 3) ∧ nx (I 2 2 + 1) (I 2 1) (R 3) ≤ 57 then ((1, (u2 (u2 (u2 I 2 2 ((I 2 2) + 1)) 2 2 ((((I 2 2) + 1)) + 1)) 15 14 (((I 15 14)) + 1)), (uR (uR (uR R 16 (u1 ((R 16)) (Int.toNat ((I 15 14))) (ko (nx (I 2 2) (I 2 1) (R 3))))) 18 (u1 ((R 18)) (Int.toNat ((I 15 14))) ((r * (I 15 11)) + c))) 17 (u1 ((R 17)) (Int.toNat ((I 15 14))) ((nx (((I 2 2) + 1)) ((I 2 1)) ((R 3))) - 48))))) else ((0, (u2 I 2 2 ((I 2 2) + 1)), R))) else ((0, I, R))) else ((0, I, R)))
abbrev rm_X1_readPart : Room := { frames := 3, cells := 0, slots := 0, locals := 73 }
set_option maxHeartbeats 4000000 in
set_option maxRecDepth 100000 in
theorem c_X1_readPart {l : Launch} {D : va_G} {cI cS : ClassId} {ad : Nat → Nat} {I R : Nat → Nat → Int} {A : Nat → Prop} (hD : va_D A (wC cI cS ad I R))  (r : Int) (c : Int)  (hB : BI I R) (hr : 0 ≤ r ∧ r < 4) (hc : 0 ≤ c ∧ c < 6): JV l yX1_readPart wsX1_readPart rm_X1_readPart (fun U => jB D cI cS (wC cI cS ad I R) U ∧ jT A U U.heap) A [.ref (ad 2), .ref (ad 15), .int (iI (r)), .int (iI (c))] (fun v9 (u9 : (Nat → Nat → Int) × (Nat → Nat → Int)) => v9 = some (.int (iI (k_X1_readPart I R r c).1)) ∧ u9.1 = (k_X1_readPart I R r c).2.1 ∧ u9.2 = (k_X1_readPart I R r c).2.2) (fun u9 H => va_P D vwCl (wC cI cS ad u9.1 u9.2) H) := by
  refine JV.mkZ rfl (by decide +kernel) rfl (Nat.le_of_ble_eq_true rfl) ?_
  intro p e st mi ar bl mth cd Q ls C hB hl hret
  obtain ⟨⟨hE, hP⟩, hT0⟩ := hB
  have hx := C.1
  have hb := C.2.1
  have hl : lv_has ls 8 [(0, .ref (ad 2)), (1, .ref (ad 15)), (2, .int (iI (r))), (3, .int (iI (c)))] := hl
  have hin1 : ∀ w ∈ wsX10, w ∈ wsX1_readPart := fun _ h => List.mem_cons_of_mem _ (List.mem_append_right _ h)
  have hin2 : ∀ w ∈ wsX20, w ∈ wsX1_readPart := fun _ h => List.mem_cons_of_mem _ (List.mem_append_left _ (List.mem_append_right _ h))
  suffices hgo : ∀ (H : Heap) (lc : List Loc), va_P D vwCl (wC cI cS ad I R) H → va_S A st.heap H lc → W p l e rm_X1_readPart st mi ar bl mth cd H lc 0 0 Q (F0 mi 0 ls []) from hgo _ _ hP va_S.rf
  clear hP
  intro H lc hP hS
  have hpl := hB.place
  have hcd := hB.code
  have hwk := hB.works
  have hwd := hB.wards
  have hhi := hB.high
  have hwi := hB.wide
  have hnx := hB.nxt
  have hko := ko_bd (nx (I 2 2) (I 2 1) (R 3))
  refine lv_aload_n hx hb dX1_readPart_0 rfl (lv_at hl 0 rfl) ?_
  refine jc_V C hl.1 (jpreV hE hP 1 2 rfl rfl) (c_X1_next  (show 0 ≤ (I 2 2) ∧ (I 2 2) ≤ (I 2 1) ∧ (I 2 1) ≤ 60 from (by omega)) hcd) (cwV 0 C.2.2.2.2 gX1_readPart_X1_next rfl rfl rfl (by decide +kernel) ⟨Nat.le_of_ble_eq_true rfl, Nat.le_of_ble_eq_true rfl⟩) (As := []) (v := .int (iI (nx (I 2 2) (I 2 1) (R 3)))) (hn := rfl) (hst := rfl) (rest := []) (hW := Nat.le_of_ble_eq_true rfl) (hdg := dX1_readPart_1) (hf := ⟨Nat.le_of_ble_eq_true rfl, Nat.le_of_ble_eq_true rfl⟩) ?_
  refine jz_bipush C dX1_readPart_4 (by decide +kernel) ?_
  refine jz_cut (X := ∀ ls : Array Slot, lv_has ls 8 [(0, .ref (ad 2)), (1, .ref (ad 15)), (2, .int (iI (r))), (3, .int (iI (c)))] → W p l e rm_X1_readPart st mi ar bl mth cd H lc 0 0 Q (F0 mi 14 ls [.int (iI (if nx (I 2 2) (I 2 1) (R 3) = 120 then 1 else 0))])) (fun ls hl => ?_) (fun hj6 => ?_)
  · skip
    refine lv_istore (lv' := [(4, .int (iI (if nx (I 2 2) (I 2 1) (R 3) = 120 then 1 else 0))), (0, .ref (ad 2)), (1, .ref (ad 15)), (2, .int (iI (r))), (3, .int (iI (c)))]) hx hb dX1_readPart_14 hl (by decide) rfl (fun ls hl => ?_)
    refine lv_aload_n hx hb dX1_readPart_16 rfl (lv_at hl 1 rfl) ?_
    refine jc_V C hl.1 (jpreV hE hP 1 2 rfl rfl) (c_X1_next  (show 0 ≤ (I 2 2) ∧ (I 2 2) ≤ (I 2 1) ∧ (I 2 1) ≤ 60 from (by omega)) hcd) (cwV 0 C.2.2.2.2 gX1_readPart_X1_next rfl rfl rfl (by decide +kernel) ⟨Nat.le_of_ble_eq_true rfl, Nat.le_of_ble_eq_true rfl⟩) (As := []) (v := .int (iI (nx (I 2 2) (I 2 1) (R 3)))) (hn := rfl) (hst := rfl) (rest := []) (hW := Nat.le_of_ble_eq_true rfl) (hdg := dX1_readPart_17) (hf := ⟨Nat.le_of_ble_eq_true rfl, Nat.le_of_ble_eq_true rfl⟩) ?_
    refine jc_S C hl.1 (jpreS hE hP) (c_X1_kindOf (nx (I 2 2) (I 2 1) (R 3)) (show -2147483648 ≤ (nx (I 2 2) (I 2 1) (R 3)) ∧ (nx (I 2 2) (I 2 1) (R 3)) < 2147483648 from (by omega))) (va_cwS 1 C.2.2.2.2 gX1_readPart_X1_kindOf rfl rfl rfl (by decide +kernel) ⟨Nat.le_of_ble_eq_true rfl, Nat.le_of_ble_eq_true rfl⟩) (As := [.int (iI (nx (I 2 2) (I 2 1) (R 3)))]) (v := .int (iI (ko (nx (I 2 2) (I 2 1) (R 3))))) (hn := rfl) (hst := rfl) (rest := []) (hW := Nat.le_of_ble_eq_true rfl) (hdg := dX1_readPart_20) (hf := ⟨Nat.le_of_ble_eq_true rfl, Nat.le_of_ble_eq_true rfl⟩) ?_
    refine lv_istore (lv' := [(5, .int (iI (ko (nx (I 2 2) (I 2 1) (R 3))))), (4, .int (iI (if nx (I 2 2) (I 2 1) (R 3) = 120 then 1 else 0))), (0, .ref (ad 2)), (1, .ref (ad 15)), (2, .int (iI (r))), (3, .int (iI (c)))]) hx hb dX1_readPart_23 hl (by decide) rfl (fun ls hl => ?_)
    refine lv_iload hx hb dX1_readPart_25 (lv_at hl 0 rfl) ?_
    refine jz_const C dX1_readPart_27 ?_
    refine jz_cut (X := ∀ ls : Array Slot, lv_has ls 8 [(5, .int (iI (ko (nx (I 2 2) (I 2 1) (R 3))))), (4, .int (iI (if nx (I 2 2) (I 2 1) (R 3) = 120 then 1 else 0))), (0, .ref (ad 2)), (1, .ref (ad 15)), (2, .int (iI (r))), (3, .int (iI (c)))] → W p l e rm_X1_readPart st mi ar bl mth cd H lc 0 0 Q (F0 mi 36 ls [.int (iI (if ¬ ko (nx (I 2 2) (I 2 1) (R 3)) = -1 then 1 else 0))])) (fun ls hl => ?_) (fun hj28 => ?_)
    · skip
      refine lv_istore (lv' := [(6, .int (iI (if ¬ ko (nx (I 2 2) (I 2 1) (R 3)) = -1 then 1 else 0))), (5, .int (iI (ko (nx (I 2 2) (I 2 1) (R 3))))), (4, .int (iI (if nx (I 2 2) (I 2 1) (R 3) = 120 then 1 else 0))), (0, .ref (ad 2)), (1, .ref (ad 15)), (2, .int (iI (r))), (3, .int (iI (c)))]) hx hb dX1_readPart_36 hl (by decide) rfl (fun ls hl => ?_)
      refine lv_iload hx hb dX1_readPart_38 (lv_at hl 2 rfl) ?_
      refine jz_bool_eq (tgt := 51) C dX1_readPart_40 (by decide) (fun h40 => ?_) (fun h40 => ?_)
      · skip
        refine lv_iload hx hb dX1_readPart_51 (lv_at hl 0 rfl) ?_
        refine jz_bool_eq (tgt := 65) C dX1_readPart_53 (by decide) (fun h53 => ?_) (fun h53 => ?_)
        · skip
          refine jz_const C dX1_readPart_65 ?_
          have hk9 : k_X1_readPart I R r c = (0, I, R) := by rw [k_X1_readPart, (if_neg h40), (if_neg h53)]
          exact hret _ (I, R) _ _ _ _ dX1_readPart_66 (by decide +kernel) ⟨by rw [hk9], by rw [hk9], by rw [hk9]⟩ hP hS
        · skip
          refine lv_aload_n hx hb dX1_readPart_56 rfl (lv_at hl 4 rfl) ?_
          refine fg_U_wards C hin2 hE hP (v := I 15 14) (List.mem_of_getElem? (i := 2) rfl) dX1_readPart_57 rfl ?_
          refine jz_bipush C dX1_readPart_60 (by decide +kernel) ?_
          refine jz_icmp_lt (tgt := 67) C dX1_readPart_62 (by decide) (by omega) (fun h62 => ?_) (fun h62 => ?_)
          · skip
            have hlt := nx_lt (p := I 2 2) (n := I 2 1) (cd := R 3) (by intro q9; first | (rw [q9] at h40; omega) | (rw [q9] at h53; exact h53 (by decide)))
            refine lv_aload_n hx hb dX1_readPart_67 rfl (lv_at hl 3 rfl) ?_
            refine lv_dup hx hb dX1_readPart_68 rfl ?_
            refine fg_D_place C hin1 hE hP (v := I 2 2) (List.mem_of_getElem? (i := 3) rfl) dX1_readPart_69 rfl ?_
            refine jz_const C dX1_readPart_72 ?_
            refine jz_iadd C dX1_readPart_73 ?_
            refine fp_D_place C hin1 hE hP (jDC hD) hS (List.mem_of_getElem? (i := 3) rfl) dX1_readPart_74 (fun H lc hP hS => ?_)
            refine jz_sub (P := 49 ≤ nx (I 2 2 + 1) (I 2 1) (R 3) ∧ nx (I 2 2 + 1) (I 2 1) (R 3) ≤ 57) (fun hdg => ?_) (fun hdg => ?_)
            · skip
              refine lv_aload_n hx hb dX1_readPart_77 rfl (lv_at hl 3 rfl) ?_
              refine jz_const C dX1_readPart_78 ?_
              refine jz_bipush C dX1_readPart_79 (by decide +kernel) ?_
              refine jw_V C hl.1 (jpreV hE hP 1 2 rfl rfl) (c_X1_digitT (A := A) (jDC hD) 1 9 (show 0 ≤ ((I 2 2) + 1) ∧ ((I 2 2) + 1) ≤ (I 2 1) ∧ (I 2 1) ≤ 60 from (by omega)) hcd (by decide) (show 48 + 1 ≤ nx ((I 2 2) + 1) (I 2 1) (R 3) ∧ nx ((I 2 2) + 1) (I 2 1) (R 3) ≤ 48 + 9 from (by omega))) (cwV 2 C.2.2.2.2 gX1_readPart_X1_digit rfl rfl rfl (by decide +kernel) ⟨Nat.le_of_ble_eq_true rfl, Nat.le_of_ble_eq_true rfl⟩) (As := [.int (iI (1)), .int (iI (9))]) (hn := rfl) (hst := rfl) (rest := []) (hW := Nat.le_of_ble_eq_true rfl) (hdg := dX1_readPart_81) (hf := ⟨Nat.le_of_ble_eq_true rfl, Nat.le_of_ble_eq_true rfl⟩) hS (fun v9 uq81 H lc hq9 hP hS => ?_)
              obtain rfl : v9 = some (.int (iI ((nx (((I 2 2) + 1)) ((I 2 1)) ((R 3))) - 48))) := hq9
              have hP : va_P D vwCl (wC cI cS ad (u2 (u2 I 2 2 ((I 2 2) + 1)) 2 2 ((((I 2 2) + 1)) + 1)) R) H := hP
              refine lv_istore (lv' := [(7, .int (iI ((nx (((I 2 2) + 1)) ((I 2 1)) ((R 3))) - 48))), (6, .int (iI (if ¬ ko (nx (I 2 2) (I 2 1) (R 3)) = -1 then 1 else 0))), (5, .int (iI (ko (nx (I 2 2) (I 2 1) (R 3))))), (4, .int (iI (if nx (I 2 2) (I 2 1) (R 3) = 120 then 1 else 0))), (0, .ref (ad 2)), (1, .ref (ad 15)), (2, .int (iI (r))), (3, .int (iI (c)))]) hx hb dX1_readPart_84 hl (by decide) rfl (fun ls hl => ?_)
              refine lv_iload hx hb dX1_readPart_86 (lv_at hl 0 rfl) ?_
              refine jz_const C dX1_readPart_88 ?_
              refine jz_icmp_ne (tgt := 94) C dX1_readPart_89 (by decide) (by omega) (fun h89 => ?_) (fun h89 => ?_)
              · skip
                refine lv_iload hx hb dX1_readPart_94 (lv_at hl 3 rfl) ?_
                refine jz_bool_eq (tgt := 110) C dX1_readPart_96 (by decide) (fun h96 => ?_) (fun h96 => ?_)
                · skip
                  refine lv_aload_n hx hb dX1_readPart_110 rfl (lv_at hl 5 rfl) ?_
                  refine lv_iload hx hb dX1_readPart_111 (lv_at hl 2 rfl) ?_
                  refine lv_iload_n hx hb dX1_readPart_113 rfl (lv_at hl 6 rfl) ?_
                  refine lv_aload_n hx hb dX1_readPart_114 rfl (lv_at hl 5 rfl) ?_
                  refine fg_U_wide C hin2 hE hP (v := I 15 11) (List.mem_of_getElem? (i := 4) rfl) dX1_readPart_115 rfl ?_
                  refine jz_imul C dX1_readPart_118 ?_
                  refine lv_iload_n hx hb dX1_readPart_119 rfl (lv_at hl 7 rfl) ?_
                  refine jz_iadd C dX1_readPart_120 ?_
                  refine lv_iload hx hb dX1_readPart_121 (lv_at hl 0 rfl) ?_
                  refine jw_V C hl.1 (jpreV hE hP 2 15 rfl rfl) (c_X2_addWard (A := A) (jDC hD) (ko (nx (I 2 2) (I 2 1) (R 3))) ((r * (I 15 11)) + c) ((nx (((I 2 2) + 1)) ((I 2 1)) ((R 3))) - 48) (show 0 ≤ (I 15 14) ∧ (I 15 14) < 6 from (by omega))) (cwV 3 C.2.2.2.2 gX1_readPart_X2_addWard rfl rfl rfl (by decide +kernel) ⟨Nat.le_of_ble_eq_true rfl, Nat.le_of_ble_eq_true rfl⟩) (As := [.int (iI (ko (nx (I 2 2) (I 2 1) (R 3)))), .int (iI ((r * (I 15 11)) + c)), .int (iI ((nx (((I 2 2) + 1)) ((I 2 1)) ((R 3))) - 48))]) (hn := rfl) (hst := rfl) (rest := []) (hW := Nat.le_of_ble_eq_true rfl) (hdg := dX1_readPart_123) (hf := ⟨Nat.le_of_ble_eq_true rfl, Nat.le_of_ble_eq_true rfl⟩) hS (fun v9 uq123 H lc hq9 hP hS => ?_)
                  obtain rfl : v9 = none := hq9
                  have hP : va_P D vwCl (wC cI cS ad (u2 (u2 (u2 I 2 2 ((I 2 2) + 1)) 2 2 ((((I 2 2) + 1)) + 1)) 15 14 (((I 15 14)) + 1)) (uR (uR (uR R 16 (u1 ((R 16)) (Int.toNat ((I 15 14))) (ko (nx (I 2 2) (I 2 1) (R 3))))) 18 (u1 ((R 18)) (Int.toNat ((I 15 14))) ((r * (I 15 11)) + c))) 17 (u1 ((R 17)) (Int.toNat ((I 15 14))) ((nx (((I 2 2) + 1)) ((I 2 1)) ((R 3))) - 48)))) H := hP
                  refine jz_const C dX1_readPart_126 ?_
                  have hk9 : k_X1_readPart I R r c = (1, (u2 (u2 (u2 I 2 2 ((I 2 2) + 1)) 2 2 ((((I 2 2) + 1)) + 1)) 15 14 (((I 15 14)) + 1)), (uR (uR (uR R 16 (u1 ((R 16)) (Int.toNat ((I 15 14))) (ko (nx (I 2 2) (I 2 1) (R 3))))) 18 (u1 ((R 18)) (Int.toNat ((I 15 14))) ((r * (I 15 11)) + c))) 17 (u1 ((R 17)) (Int.toNat ((I 15 14))) ((nx (((I 2 2) + 1)) ((I 2 1)) ((R 3))) - 48)))) := by rw [k_X1_readPart, (if_neg h40), (if_pos h53), (if_pos h62), (if_pos hdg)]
                  exact hret _ ((u2 (u2 (u2 I 2 2 ((I 2 2) + 1)) 2 2 ((((I 2 2) + 1)) + 1)) 15 14 (((I 15 14)) + 1)), (uR (uR (uR R 16 (u1 ((R 16)) (Int.toNat ((I 15 14))) (ko (nx (I 2 2) (I 2 1) (R 3))))) 18 (u1 ((R 18)) (Int.toNat ((I 15 14))) ((r * (I 15 11)) + c))) 17 (u1 ((R 17)) (Int.toNat ((I 15 14))) ((nx (((I 2 2) + 1)) ((I 2 1)) ((R 3))) - 48)))) _ _ _ _ dX1_readPart_127 (by decide +kernel) ⟨by rw [hk9], by rw [hk9], by rw [hk9]⟩ hP hS
                · exact absurd h96 h40
              · exfalso; omega
            · skip
              refine lv_aload_n hx hb dX1_readPart_77 rfl (lv_at hl 3 rfl) ?_
              refine jz_const C dX1_readPart_78 ?_
              refine jz_bipush C dX1_readPart_79 (by decide +kernel) ?_
              refine jw_V C hl.1 (jpreV hE hP 1 2 rfl rfl) (c_X1_digitF (A := A) (jDC hD) 1 9 (show 0 ≤ ((I 2 2) + 1) ∧ ((I 2 2) + 1) ≤ (I 2 1) ∧ (I 2 1) ≤ 60 from (by omega)) hcd (by decide) (show ¬ (48 + 1 ≤ nx ((I 2 2) + 1) (I 2 1) (R 3) ∧ nx ((I 2 2) + 1) (I 2 1) (R 3) ≤ 48 + 9) from (by omega))) (cwV 2 C.2.2.2.2 gX1_readPart_X1_digit rfl rfl rfl (by decide +kernel) ⟨Nat.le_of_ble_eq_true rfl, Nat.le_of_ble_eq_true rfl⟩) (As := [.int (iI (1)), .int (iI (9))]) (hn := rfl) (hst := rfl) (rest := []) (hW := Nat.le_of_ble_eq_true rfl) (hdg := dX1_readPart_81) (hf := ⟨Nat.le_of_ble_eq_true rfl, Nat.le_of_ble_eq_true rfl⟩) hS (fun v9 uq81 H lc hq9 hP hS => ?_)
              obtain rfl : v9 = some (.int (iI (-1))) := hq9
              have hP : va_P D vwCl (wC cI cS ad (u2 I 2 2 ((I 2 2) + 1)) R) H := hP
              refine lv_istore (lv' := [(7, .int (iI (-1))), (6, .int (iI (if ¬ ko (nx (I 2 2) (I 2 1) (R 3)) = -1 then 1 else 0))), (5, .int (iI (ko (nx (I 2 2) (I 2 1) (R 3))))), (4, .int (iI (if nx (I 2 2) (I 2 1) (R 3) = 120 then 1 else 0))), (0, .ref (ad 2)), (1, .ref (ad 15)), (2, .int (iI (r))), (3, .int (iI (c)))]) hx hb dX1_readPart_84 hl (by decide) rfl (fun ls hl => ?_)
              refine lv_iload hx hb dX1_readPart_86 (lv_at hl 0 rfl) ?_
              refine jz_const C dX1_readPart_88 ?_
              refine jz_icmp_ne (tgt := 94) C dX1_readPart_89 (by decide) (by omega) (fun h89 => ?_) (fun h89 => ?_)
              · exact absurd h89 (by decide)
              · skip
                refine jz_const C dX1_readPart_92 ?_
                have hk9 : k_X1_readPart I R r c = (0, (u2 I 2 2 ((I 2 2) + 1)), R) := by rw [k_X1_readPart, (if_neg h40), (if_pos h53), (if_pos h62), (if_neg hdg)]
                exact hret _ ((u2 I 2 2 ((I 2 2) + 1)), R) _ _ _ _ dX1_readPart_93 (by decide +kernel) ⟨by rw [hk9], by rw [hk9], by rw [hk9]⟩ hP hS
          · skip
            refine jz_const C dX1_readPart_65 ?_
            have hk9 : k_X1_readPart I R r c = (0, I, R) := by rw [k_X1_readPart, (if_neg h40), (if_pos h53), (if_neg (Int.not_lt.mpr h62))]
            exact hret _ (I, R) _ _ _ _ dX1_readPart_66 (by decide +kernel) ⟨by rw [hk9], by rw [hk9], by rw [hk9]⟩ hP hS
      · skip
        refine lv_aload_n hx hb dX1_readPart_43 rfl (lv_at hl 4 rfl) ?_
        refine fg_U_works C hin2 hE hP (v := I 15 13) (List.mem_of_getElem? (i := 1) rfl) dX1_readPart_44 rfl ?_
        refine jz_const C dX1_readPart_47 ?_
        refine jz_icmp_lt (tgt := 67) C dX1_readPart_48 (by decide) (by omega) (fun h48 => ?_) (fun h48 => ?_)
        · skip
          have hlt := nx_lt (p := I 2 2) (n := I 2 1) (cd := R 3) (by intro q9; first | (rw [q9] at h40; omega) | (rw [q9] at h53; exact h53 (by decide)))
          refine lv_aload_n hx hb dX1_readPart_67 rfl (lv_at hl 3 rfl) ?_
          refine lv_dup hx hb dX1_readPart_68 rfl ?_
          refine fg_D_place C hin1 hE hP (v := I 2 2) (List.mem_of_getElem? (i := 3) rfl) dX1_readPart_69 rfl ?_
          refine jz_const C dX1_readPart_72 ?_
          refine jz_iadd C dX1_readPart_73 ?_
          refine fp_D_place C hin1 hE hP (jDC hD) hS (List.mem_of_getElem? (i := 3) rfl) dX1_readPart_74 (fun H lc hP hS => ?_)
          refine jz_sub (P := 49 ≤ nx (I 2 2 + 1) (I 2 1) (R 3) ∧ nx (I 2 2 + 1) (I 2 1) (R 3) ≤ 57) (fun hdg => ?_) (fun hdg => ?_)
          · skip
            refine lv_aload_n hx hb dX1_readPart_77 rfl (lv_at hl 3 rfl) ?_
            refine jz_const C dX1_readPart_78 ?_
            refine jz_bipush C dX1_readPart_79 (by decide +kernel) ?_
            refine jw_V C hl.1 (jpreV hE hP 1 2 rfl rfl) (c_X1_digitT (A := A) (jDC hD) 1 9 (show 0 ≤ ((I 2 2) + 1) ∧ ((I 2 2) + 1) ≤ (I 2 1) ∧ (I 2 1) ≤ 60 from (by omega)) hcd (by decide) (show 48 + 1 ≤ nx ((I 2 2) + 1) (I 2 1) (R 3) ∧ nx ((I 2 2) + 1) (I 2 1) (R 3) ≤ 48 + 9 from (by omega))) (cwV 2 C.2.2.2.2 gX1_readPart_X1_digit rfl rfl rfl (by decide +kernel) ⟨Nat.le_of_ble_eq_true rfl, Nat.le_of_ble_eq_true rfl⟩) (As := [.int (iI (1)), .int (iI (9))]) (hn := rfl) (hst := rfl) (rest := []) (hW := Nat.le_of_ble_eq_true rfl) (hdg := dX1_readPart_81) (hf := ⟨Nat.le_of_ble_eq_true rfl, Nat.le_of_ble_eq_true rfl⟩) hS (fun v9 uq81 H lc hq9 hP hS => ?_)
            obtain rfl : v9 = some (.int (iI ((nx (((I 2 2) + 1)) ((I 2 1)) ((R 3))) - 48))) := hq9
            have hP : va_P D vwCl (wC cI cS ad (u2 (u2 I 2 2 ((I 2 2) + 1)) 2 2 ((((I 2 2) + 1)) + 1)) R) H := hP
            refine lv_istore (lv' := [(7, .int (iI ((nx (((I 2 2) + 1)) ((I 2 1)) ((R 3))) - 48))), (6, .int (iI (if ¬ ko (nx (I 2 2) (I 2 1) (R 3)) = -1 then 1 else 0))), (5, .int (iI (ko (nx (I 2 2) (I 2 1) (R 3))))), (4, .int (iI (if nx (I 2 2) (I 2 1) (R 3) = 120 then 1 else 0))), (0, .ref (ad 2)), (1, .ref (ad 15)), (2, .int (iI (r))), (3, .int (iI (c)))]) hx hb dX1_readPart_84 hl (by decide) rfl (fun ls hl => ?_)
            refine lv_iload hx hb dX1_readPart_86 (lv_at hl 0 rfl) ?_
            refine jz_const C dX1_readPart_88 ?_
            refine jz_icmp_ne (tgt := 94) C dX1_readPart_89 (by decide) (by omega) (fun h89 => ?_) (fun h89 => ?_)
            · skip
              refine lv_iload hx hb dX1_readPart_94 (lv_at hl 3 rfl) ?_
              refine jz_bool_eq (tgt := 110) C dX1_readPart_96 (by decide) (fun h96 => ?_) (fun h96 => ?_)
              · exact absurd h40 h96
              · skip
                refine lv_aload_n hx hb dX1_readPart_99 rfl (lv_at hl 5 rfl) ?_
                refine lv_iload_n hx hb dX1_readPart_100 rfl (lv_at hl 6 rfl) ?_
                refine lv_iload_n hx hb dX1_readPart_101 rfl (lv_at hl 7 rfl) ?_
                refine lv_iload hx hb dX1_readPart_102 (lv_at hl 0 rfl) ?_
                refine jw_V C hl.1 (jpreVT hE hP hT0 hS 2 15 rfl rfl) (c_X2_addWork (A := A) (jDC hD) r c ((nx (((I 2 2) + 1)) ((I 2 1)) ((R 3))) - 48) (show 0 ≤ (I 15 13) ∧ (I 15 13) < 4 from (by omega)) (show 0 ≤ r ∧ r < 4 from (by omega)) (show 0 ≤ c ∧ c < 6 from (by omega)) (show 0 ≤ (I 15 10) ∧ (I 15 10) ≤ 4 from (by omega)) (show 0 ≤ (I 15 11) ∧ (I 15 11) ≤ 6 from (by omega))) (cwV 3 C.2.2.2.2 gX1_readPart_X2_addWork rfl rfl rfl (by decide +kernel) ⟨Nat.le_of_ble_eq_true rfl, Nat.le_of_ble_eq_true rfl⟩) (As := [.int (iI (r)), .int (iI (c)), .int (iI ((nx (((I 2 2) + 1)) ((I 2 1)) ((R 3))) - 48))]) (hn := rfl) (hst := rfl) (rest := []) (hW := Nat.le_of_ble_eq_true rfl) (hdg := dX1_readPart_104) (hf := ⟨Nat.le_of_ble_eq_true rfl, Nat.le_of_ble_eq_true rfl⟩) hS (fun v9 uq104 H lc hq9 hP hS => ?_)
                obtain rfl : v9 = none := hq9
                have hP : va_P D vwCl (wC cI cS ad (u2 (u2 (u2 I 2 2 ((I 2 2) + 1)) 2 2 ((((I 2 2) + 1)) + 1)) 15 13 (((I 15 13)) + 1)) (uR (uR (uR R 19 (u1 ((R 19)) (Int.toNat ((I 15 13))) ((r * ((I 15 11))) + c))) 20 (u1 ((R 20)) (Int.toNat ((I 15 13))) ((nx (((I 2 2) + 1)) ((I 2 1)) ((R 3))) - 48))) 23 (da ((R 23)) ((I 15 10)) ((I 15 11)) ((I 15 13)) r c (4)))) H := hP
                refine lv_goto (tgt := 126) hx hb dX1_readPart_107 (by decide) ?_
                refine jz_const C dX1_readPart_126 ?_
                have hk9 : k_X1_readPart I R r c = (1, (u2 (u2 (u2 I 2 2 ((I 2 2) + 1)) 2 2 ((((I 2 2) + 1)) + 1)) 15 13 (((I 15 13)) + 1)), (uR (uR (uR R 19 (u1 ((R 19)) (Int.toNat ((I 15 13))) ((r * ((I 15 11))) + c))) 20 (u1 ((R 20)) (Int.toNat ((I 15 13))) ((nx (((I 2 2) + 1)) ((I 2 1)) ((R 3))) - 48))) 23 (da ((R 23)) ((I 15 10)) ((I 15 11)) ((I 15 13)) r c (4)))) := by rw [k_X1_readPart, (if_pos h40), (if_pos h48), (if_pos hdg)]
                exact hret _ ((u2 (u2 (u2 I 2 2 ((I 2 2) + 1)) 2 2 ((((I 2 2) + 1)) + 1)) 15 13 (((I 15 13)) + 1)), (uR (uR (uR R 19 (u1 ((R 19)) (Int.toNat ((I 15 13))) ((r * ((I 15 11))) + c))) 20 (u1 ((R 20)) (Int.toNat ((I 15 13))) ((nx (((I 2 2) + 1)) ((I 2 1)) ((R 3))) - 48))) 23 (da ((R 23)) ((I 15 10)) ((I 15 11)) ((I 15 13)) r c (4)))) _ _ _ _ dX1_readPart_127 (by decide +kernel) ⟨by rw [hk9], by rw [hk9], by rw [hk9]⟩ hP hS
            · exfalso; omega
          · skip
            refine lv_aload_n hx hb dX1_readPart_77 rfl (lv_at hl 3 rfl) ?_
            refine jz_const C dX1_readPart_78 ?_
            refine jz_bipush C dX1_readPart_79 (by decide +kernel) ?_
            refine jw_V C hl.1 (jpreV hE hP 1 2 rfl rfl) (c_X1_digitF (A := A) (jDC hD) 1 9 (show 0 ≤ ((I 2 2) + 1) ∧ ((I 2 2) + 1) ≤ (I 2 1) ∧ (I 2 1) ≤ 60 from (by omega)) hcd (by decide) (show ¬ (48 + 1 ≤ nx ((I 2 2) + 1) (I 2 1) (R 3) ∧ nx ((I 2 2) + 1) (I 2 1) (R 3) ≤ 48 + 9) from (by omega))) (cwV 2 C.2.2.2.2 gX1_readPart_X1_digit rfl rfl rfl (by decide +kernel) ⟨Nat.le_of_ble_eq_true rfl, Nat.le_of_ble_eq_true rfl⟩) (As := [.int (iI (1)), .int (iI (9))]) (hn := rfl) (hst := rfl) (rest := []) (hW := Nat.le_of_ble_eq_true rfl) (hdg := dX1_readPart_81) (hf := ⟨Nat.le_of_ble_eq_true rfl, Nat.le_of_ble_eq_true rfl⟩) hS (fun v9 uq81 H lc hq9 hP hS => ?_)
            obtain rfl : v9 = some (.int (iI (-1))) := hq9
            have hP : va_P D vwCl (wC cI cS ad (u2 I 2 2 ((I 2 2) + 1)) R) H := hP
            refine lv_istore (lv' := [(7, .int (iI (-1))), (6, .int (iI (if ¬ ko (nx (I 2 2) (I 2 1) (R 3)) = -1 then 1 else 0))), (5, .int (iI (ko (nx (I 2 2) (I 2 1) (R 3))))), (4, .int (iI (if nx (I 2 2) (I 2 1) (R 3) = 120 then 1 else 0))), (0, .ref (ad 2)), (1, .ref (ad 15)), (2, .int (iI (r))), (3, .int (iI (c)))]) hx hb dX1_readPart_84 hl (by decide) rfl (fun ls hl => ?_)
            refine lv_iload hx hb dX1_readPart_86 (lv_at hl 0 rfl) ?_
            refine jz_const C dX1_readPart_88 ?_
            refine jz_icmp_ne (tgt := 94) C dX1_readPart_89 (by decide) (by omega) (fun h89 => ?_) (fun h89 => ?_)
            · exact absurd h89 (by decide)
            · skip
              refine jz_const C dX1_readPart_92 ?_
              have hk9 : k_X1_readPart I R r c = (0, (u2 I 2 2 ((I 2 2) + 1)), R) := by rw [k_X1_readPart, (if_pos h40), (if_pos h48), (if_neg hdg)]
              exact hret _ ((u2 I 2 2 ((I 2 2) + 1)), R) _ _ _ _ dX1_readPart_93 (by decide +kernel) ⟨by rw [hk9], by rw [hk9], by rw [hk9]⟩ hP hS
        · skip
          refine lv_iload hx hb dX1_readPart_51 (lv_at hl 0 rfl) ?_
          refine jz_bool_eq (tgt := 65) C dX1_readPart_53 (by decide) (fun h53 => ?_) (fun h53 => ?_)
          · skip
            refine jz_const C dX1_readPart_65 ?_
            have hk9 : k_X1_readPart I R r c = (0, I, R) := by rw [k_X1_readPart, (if_pos h40), (if_neg (Int.not_lt.mpr h48))]
            exact hret _ (I, R) _ _ _ _ dX1_readPart_66 (by decide +kernel) ⟨by rw [hk9], by rw [hk9], by rw [hk9]⟩ hP hS
          · exfalso; rw [h40] at h53; exact h53 (by decide)
    · skip
      refine jz_icmp_eq (tgt := 35) C dX1_readPart_28 (by decide) (by omega) (fun h28 => ?_) (fun h28 => ?_)
      · skip
        refine jz_const C dX1_readPart_35 ?_
        have hl9 : lv_has ls 8 [(5, .int (iI (ko (nx (I 2 2) (I 2 1) (R 3))))), (4, .int (iI (if nx (I 2 2) (I 2 1) (R 3) = 120 then 1 else 0))), (0, .ref (ad 2)), (1, .ref (ad 15)), (2, .int (iI (r))), (3, .int (iI (c)))] := lv_sub hl [0, 1, 2, 3, 4, 5] rfl
        have hj9 := hj28 ls hl9
        rw [show ((if ¬ ko (nx (I 2 2) (I 2 1) (R 3)) = -1 then 1 else 0) : Int) = 0 from by first | rfl | exact if_pos (by assumption) | exact if_neg (by assumption) | exact (if_pos (by assumption)).symm | exact (if_neg (by assumption)).symm | omega | (simp only [*, if_true, if_false, not_true, not_false_iff]; done) | (simp [*]; done) | (split <;> omega)] at hj9
        exact hj9
      · skip
        refine jz_const C dX1_readPart_31 ?_
        refine lv_goto (tgt := 36) hx hb dX1_readPart_32 (by decide) ?_
        have hl9 : lv_has ls 8 [(5, .int (iI (ko (nx (I 2 2) (I 2 1) (R 3))))), (4, .int (iI (if nx (I 2 2) (I 2 1) (R 3) = 120 then 1 else 0))), (0, .ref (ad 2)), (1, .ref (ad 15)), (2, .int (iI (r))), (3, .int (iI (c)))] := lv_sub hl [0, 1, 2, 3, 4, 5] rfl
        have hj9 := hj28 ls hl9
        rw [show ((if ¬ ko (nx (I 2 2) (I 2 1) (R 3)) = -1 then 1 else 0) : Int) = 1 from by first | rfl | exact if_pos (by assumption) | exact if_neg (by assumption) | exact (if_pos (by assumption)).symm | exact (if_neg (by assumption)).symm | omega | (simp only [*, if_true, if_false, not_true, not_false_iff]; done) | (simp [*]; done) | (split <;> omega)] at hj9
        exact hj9
  · skip
    refine jz_icmp_ne (tgt := 13) C dX1_readPart_6 (by decide) (by omega) (fun h6 => ?_) (fun h6 => ?_)
    · skip
      refine jz_const C dX1_readPart_13 ?_
      have hl9 : lv_has ls 8 [(0, .ref (ad 2)), (1, .ref (ad 15)), (2, .int (iI (r))), (3, .int (iI (c)))] := lv_sub hl [0, 1, 2, 3] rfl
      have hj9 := hj6 ls hl9
      rw [show ((if nx (I 2 2) (I 2 1) (R 3) = 120 then 1 else 0) : Int) = 0 from by first | rfl | exact if_pos (by assumption) | exact if_neg (by assumption) | exact (if_pos (by assumption)).symm | exact (if_neg (by assumption)).symm | omega | (simp only [*, if_true, if_false, not_true, not_false_iff]; done) | (simp [*]; done) | (split <;> omega)] at hj9
      exact hj9
    · skip
      refine jz_const C dX1_readPart_9 ?_
      refine lv_goto (tgt := 14) hx hb dX1_readPart_10 (by decide) ?_
      have hl9 : lv_has ls 8 [(0, .ref (ad 2)), (1, .ref (ad 15)), (2, .int (iI (r))), (3, .int (iI (c)))] := lv_sub hl [0, 1, 2, 3] rfl
      have hj9 := hj6 ls hl9
      rw [show ((if nx (I 2 2) (I 2 1) (R 3) = 120 then 1 else 0) : Int) = 1 from by first | rfl | exact if_pos (by assumption) | exact if_neg (by assumption) | exact (if_pos (by assumption)).symm | exact (if_neg (by assumption)).symm | omega | (simp only [*, if_true, if_false, not_true, not_false_iff]; done) | (simp [*]; done) | (split <;> omega)] at hj9
      exact hj9
