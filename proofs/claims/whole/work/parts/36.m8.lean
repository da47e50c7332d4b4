theorem uR_3_4 {B : Nat → Nat → Int} {a b c a' b' c' : Nat → Int} : uR (uR (uR (uR (uR (uR B 4 a) 5 b) 6 c) 4 a') 5 b') 6 c' = uR (uR (uR B 4 a') 5 b') 6 c' := by
  funext q
  by_cases h1 : q = 4 <;> by_cases h2 : q = 5 <;> by_cases h3 : q = 6 <;> simp [uR, h1, h2, h3]
theorem uR_i_4 {B : Nat → Nat → Int} {a b c : Nat → Int} (ha : a = B 4) (hb : b = B 5) (hc : c = B 6) : uR (uR (uR B 4 a) 5 b) 6 c = B := by
  funext q
  subst ha hb hc
  by_cases h1 : q = 4 <;> by_cases h2 : q = 5 <;> by_cases h3 : q = 6 <;> simp [uR, h1, h2, h3]
theorem uR_3_8 {B : Nat → Nat → Int} {a b c a' b' c' : Nat → Int} : uR (uR (uR (uR (uR (uR B 8 a) 9 b) 10 c) 8 a') 9 b') 10 c' = uR (uR (uR B 8 a') 9 b') 10 c' := by
  funext q
  by_cases h1 : q = 8 <;> by_cases h2 : q = 9 <;> by_cases h3 : q = 10 <;> simp [uR, h1, h2, h3]
theorem uR_i_8 {B : Nat → Nat → Int} {a b c : Nat → Int} (ha : a = B 8) (hb : b = B 9) (hc : c = B 10) : uR (uR (uR B 8 a) 9 b) 10 c = B := by
  funext q
  subst ha hb hc
  by_cases h1 : q = 8 <;> by_cases h2 : q = 9 <;> by_cases h3 : q = 10 <;> simp [uR, h1, h2, h3]
def k_X4_town (F : Nat → Int) (R : Nat → Nat → Int) (sheet : Int) (lane : Int) (i : Int) (n : Int) : Int × (Nat → Int) × (Nat → Nat → Int) := if ¬ (0 ≤ sheet ∧ sheet ≤ 3) then (((-1), (u1 F 0 0), R)) else (if 0 ≤ lane ∧ lane ≤ 2 then (if ftm (R 27 (Int.toNat sheet)) (R 28 (Int.toNat sheet)) lane i n = 0 then (if ((k_X4_readsTown F R (60 * sheet + i) n).1) = 0 then ((((-100) - (((k_X4_readsTown F R (60 * sheet + i) n).2.1) 12)), (u1 (k_X4_readsTown F R (60 * sheet + i) n).2.1 0 0), (k_X4_readsTown F R (60 * sheet + i) n).2.2)) else (((((k_X4_readsTown F R (60 * sheet + i) n).2.1) 16), (u1 (u1 (u1 (u1 (u1 (u1 (u1 (k_X4_readsTown F R (60 * sheet + i) n).2.1 1 (((k_X4_readsTown F R (60 * sheet + i) n).2.1) 13)) 2 (((k_X4_readsTown F R (60 * sheet + i) n).2.1) 14)) 3 (((k_X4_readsTown F R (60 * sheet + i) n).2.1) 15)) 7 (((k_X4_readsTown F R (60 * sheet + i) n).2.1) 16)) 11 0) 24 0) 0 0), (uR (uR (uR (uR (uR (uR (k_X4_readsTown F R (60 * sheet + i) n).2.2 4 (cpz ((k_X4_readsTown F R (60 * sheet + i) n).2.2 17) ((k_X4_readsTown F R (60 * sheet + i) n).2.2 4) 0 0 (Int.toNat ((k_X4_readsTown F R (60 * sheet + i) n).2.1 15)))) 5 (cpz ((k_X4_readsTown F R (60 * sheet + i) n).2.2 18) ((k_X4_readsTown F R (60 * sheet + i) n).2.2 5) 0 0 (Int.toNat ((k_X4_readsTown F R (60 * sheet + i) n).2.1 15)))) 6 (zb ((k_X4_readsTown F R (60 * sheet + i) n).2.2 6) 0 (Int.toNat ((k_X4_readsTown F R (60 * sheet + i) n).2.1 15)))) 8 (cpz ((k_X4_readsTown F R (60 * sheet + i) n).2.2 19) ((k_X4_readsTown F R (60 * sheet + i) n).2.2 8) 0 0 ((Int.toNat ((k_X4_readsTown F R (60 * sheet + i) n).2.1 16))))) 9 (cpz ((k_X4_readsTown F R (60 * sheet + i) n).2.2 20) ((k_X4_readsTown F R (60 * sheet + i) n).2.2 9) 0 0 ((Int.toNat ((k_X4_readsTown F R (60 * sheet + i) n).2.1 16))))) 10 (cpz ((k_X4_readsTown F R (60 * sheet + i) n).2.2 21) ((k_X4_readsTown F R (60 * sheet + i) n).2.2 10) 0 0 ((Int.toNat ((k_X4_readsTown F R (60 * sheet + i) n).2.1 16)))))))) else ((-10 - ftm (R 27 (Int.toNat sheet)) (R 28 (Int.toNat sheet)) lane i n, (u1 F 0 (ftm (R 27 (Int.toNat sheet)) (R 28 (Int.toNat sheet)) lane i n)), R))) else (((-2), (u1 F 0 0), R)))
abbrev rm_X4_town : Room := { frames := 5, cells := 0, slots := 0, locals := 123 }
set_option maxHeartbeats 4000000 in
set_option maxRecDepth 100000 in
theorem c_X4_town {l : Launch} {D : va_G} {cI cS : ClassId} {ad : Nat → Nat} {F : Nat → Int} {R : Nat → Nat → Int} {A : Nat → Prop} (hD : va_D A (wM cI ad F R))  (sheet : Int) (lane : Int) (i : Int) (n : Int)  (hS9 : MV F R) (hr_sheet : -2147483648 ≤ sheet ∧ sheet < 2147483648) (hr_lane : -2147483648 ≤ lane ∧ lane < 2147483648) (hr_i : -2147483648 ≤ i ∧ i < 2147483648) (hr_n : -2147483648 ≤ n ∧ n < 2147483648): JV l yX4_town wsX4_town rm_X4_town (jB D cI cS (wM cI ad F R)) A [.ref (ad 0), .int (iI (sheet)), .int (iI (lane)), .int (iI (i)), .int (iI (n))] (fun v9 (u9 : (Nat → Int) × (Nat → Nat → Int)) => v9 = some (.int (iI (k_X4_town F R sheet lane i n).1)) ∧ u9.1 = (k_X4_town F R sheet lane i n).2.1 ∧ u9.2 = (k_X4_town F R sheet lane i n).2.2) (fun u9 H => va_P D vwCl (wM cI ad u9.1 u9.2) H) := by
  refine JV.mkI rfl (by decide +kernel) rfl (Nat.le_of_ble_eq_true rfl) ?_
  intro p e st mi ar bl mth cd Q ls C hB hl hret
  obtain ⟨hE, hP⟩ := hB
  have hx := C.1
  have hb := C.2.1
  have hl : lv_has ls 7 [(0, .ref (ad 0)), (1, .int (iI (sheet))), (2, .int (iI (lane))), (3, .int (iI (i))), (4, .int (iI (n)))] := hl
  have hin4 : ∀ w ∈ wsX40, w ∈ wsX4_town := fun _ h => List.mem_cons_of_mem _ (List.mem_append_right _ h)
  suffices hgo : ∀ (H : Heap) (lc : List Loc), va_P D vwCl (wM cI ad F R) H → va_S A st.heap H lc → W p l e rm_X4_town st mi ar bl mth cd H lc 0 0 Q (F0 mi 0 ls []) from hgo _ _ hP va_S.rf
  clear hP
  intro H lc hP hS
  have hM := hS9.town
  have hW := hM.works
  have hK := hM.wards
  have hlaw := hM.law
  have hrd := hM.reads
  have hsp := hM.spots
  have hhi := hM.high
  have hwd := hM.wide
  have hP8 := pw8 hW
  have hen := en_bd4 hW hM.vane
  refine lv_iload_n hx hb dX4_town_0 rfl (lv_at hl 1 rfl) ?_
  refine jc_S C hl.1 (jpreS hE hP) (c_X4_noSheet sheet (show -2147483648 ≤ sheet ∧ sheet < 2147483648 from (by omega))) (va_cwS 1 C.2.2.2.2 gX4_town_X4_noSheet rfl rfl rfl (by decide +kernel) ⟨Nat.le_of_ble_eq_true rfl, Nat.le_of_ble_eq_true rfl⟩) (As := [.int (iI (sheet))]) (v := .int (iI (if ¬ (0 ≤ sheet ∧ sheet ≤ 3) then 1 else 0))) (hn := rfl) (hst := rfl) (rest := []) (hW := Nat.le_of_ble_eq_true rfl) (hdg := dX4_town_1) (hf := ⟨Nat.le_of_ble_eq_true rfl, Nat.le_of_ble_eq_true rfl⟩) ?_
  refine jz_bool_eq (tgt := 13) C dX4_town_4 (by decide) (fun h4 => ?_) (fun h4 => ?_)
  · skip
    refine lv_iload_n hx hb dX4_town_13 rfl (lv_at hl 2 rfl) ?_
    refine jz_i2l C dX4_town_14 (by omega) ?_
    refine jz_lconst (z := 0) C rfl dX4_town_15 ?_
    refine jz_ldc2 (z := 2) C (List.mem_of_getElem? (i := 1) rfl) (by decide +kernel) dX4_town_16 ?_
    refine jc_S C hl.1 (jpreS hE hP) (c_X4_in lane 0 2 (show -9223372036854775808 ≤ lane ∧ lane < 9223372036854775808 from (by omega)) (show -9223372036854775808 ≤ 0 ∧ 0 < 9223372036854775808 from (by omega)) (show -9223372036854775808 ≤ 2 ∧ 2 < 9223372036854775808 from (by omega))) (va_cwS 3 C.2.2.2.2 gX4_town_X4_in rfl rfl rfl (by decide +kernel) ⟨Nat.le_of_ble_eq_true rfl, Nat.le_of_ble_eq_true rfl⟩) (As := [.long (lI (lane)), .long (lI (0)), .long (lI (2))]) (v := .int (iI (if 0 ≤ lane ∧ lane ≤ 2 then 1 else 0))) (hn := rfl) (hst := rfl) (rest := []) (hW := Nat.le_of_ble_eq_true rfl) (hdg := dX4_town_19) (hf := ⟨Nat.le_of_ble_eq_true rfl, Nat.le_of_ble_eq_true rfl⟩) ?_
    refine jz_bool_ne (tgt := 32) C dX4_town_22 (by decide) (fun h22 => ?_) (fun h22 => ?_)
    · skip
      have hsz := hS9.size (k := Int.toNat sheet) (by omega)
      have hln := hS9.lane (k := Int.toNat sheet) (by omega)
      refine lv_aload_n hx hb dX4_town_32 rfl (lv_at hl 0 rfl) ?_
      refine lv_iload_n hx hb dX4_town_33 rfl (lv_at hl 1 rfl) ?_
      refine lv_iload_n hx hb dX4_town_34 rfl (lv_at hl 2 rfl) ?_
      refine lv_iload_n hx hb dX4_town_35 rfl (lv_at hl 3 rfl) ?_
      refine lv_iload hx hb dX4_town_36 (lv_at hl 4 rfl) ?_
      refine jz_i2l C dX4_town_38 (by omega) ?_
      refine jz_sub (P := ftm (R 27 (Int.toNat sheet)) (R 28 (Int.toNat sheet)) lane i n = 0) (fun hq => ?_) (fun hq => ?_)
      · skip
        refine jw_V C hl.1 (jpreV hE hP 4 0 rfl rfl) (c_X4_cellsBarred_ok (A := A) (jDM hD) sheet lane i n (show 0 ≤ sheet ∧ sheet ≤ 3 from (by omega)) (hS9.size (by omega)) (hS9.lane (by omega)) (show -2147483648 ≤ lane ∧ lane < 2147483648 from (by omega)) (show -2147483648 ≤ i ∧ i < 2147483648 from (by omega)) (show -2147483648 ≤ n ∧ n < 2147483648 from (by omega)) hq) (cwV 4 C.2.2.2.2 gX4_town_X4_cellsBarred rfl rfl rfl (by decide +kernel) ⟨Nat.le_of_ble_eq_true rfl, Nat.le_of_ble_eq_true rfl⟩) (As := [.int (iI (sheet)), .int (iI (lane)), .int (iI (i)), .long (lI (n))]) (hn := rfl) (hst := rfl) (rest := []) (hW := Nat.le_of_ble_eq_true rfl) (hdg := dX4_town_39) (hf := ⟨Nat.le_of_ble_eq_true rfl, Nat.le_of_ble_eq_true rfl⟩) hS (fun v9 uq39 H lc hq9 hP hS => ?_)
        obtain rfl : v9 = some (.int (iI (0))) := hq9
        have hP : va_P D vwCl (wM cI ad F R) H := hP
        have hqb := ftm_bd (sz := R 27 (Int.toNat sheet)) (ln := R 28 (Int.toNat sheet)) (al := lane) (i := i) (n := n)
        refine lv_istore (lv' := [(5, .int (iI (0))), (0, .ref (ad 0)), (1, .int (iI (sheet))), (2, .int (iI (lane))), (3, .int (iI (i))), (4, .int (iI (n)))]) hx hb dX4_town_42 hl (by decide) rfl (fun ls hl => ?_)
        refine lv_iload hx hb dX4_town_44 (lv_at hl 0 rfl) ?_
        refine jz_if_ge (tgt := 52) C dX4_town_46 (by decide) (by omega) (fun h46 => ?_) (fun h46 => ?_)
        · skip
          have hix := ftm_0 hq
          refine lv_aload_n hx hb dX4_town_52 rfl (lv_at hl 1 rfl) ?_
          refine jz_bipush C dX4_town_53 (by decide +kernel) ?_
          refine lv_iload_n hx hb dX4_town_55 rfl (lv_at hl 2 rfl) ?_
          refine jz_imul C dX4_town_56 ?_
          refine lv_iload_n hx hb dX4_town_57 rfl (lv_at hl 4 rfl) ?_
          refine jz_iadd C dX4_town_58 ?_
          refine lv_iload hx hb dX4_town_59 (lv_at hl 5 rfl) ?_
          refine jw_V C hl.1 (jpreV hE hP 4 0 rfl rfl) (c_X4_readsTown (A := A) (jDM hD) ((60 * sheet) + i) n (show 0 ≤ ((60 * sheet) + i) ∧ 0 ≤ n ∧ ((60 * sheet) + i) + n ≤ 240 from (by omega)) (fun j hj => hS9.row hj)) (cwV 2 C.2.2.2.2 gX4_town_X4_readsTown rfl rfl rfl (by decide +kernel) ⟨Nat.le_of_ble_eq_true rfl, Nat.le_of_ble_eq_true rfl⟩) (As := [.int (iI ((60 * sheet) + i)), .int (iI (n))]) (hn := rfl) (hst := rfl) (rest := []) (hW := Nat.le_of_ble_eq_true rfl) (hdg := dX4_town_61) (hf := ⟨Nat.le_of_ble_eq_true rfl, Nat.le_of_ble_eq_true rfl⟩) hS (fun v9 uq61 H lc hq9 hP hS => ?_)
          obtain ⟨F61, R61⟩ := uq61
          obtain ⟨hv9, hI9, hR9⟩ := hq9
          subst hv9
          dsimp only at hI9 hR9
          subst hI9
          subst hR9
          have hP : va_P D vwCl (wM cI ad (k_X4_readsTown F R ((60 * sheet) + i) n).2.1 (k_X4_readsTown F R ((60 * sheet) + i) n).2.2) H := hP
          have hP : va_P D vwCl (wM cI ad (k_X4_readsTown F R (60 * sheet + i) n).2.1 (k_X4_readsTown F R (60 * sheet + i) n).2.2) H := hP
          have hrt := rt_ok (F := F) (R := R) (fr := 60 * sheet + i) (n := n) (by omega) (fun j hj => hS9.row hj)
          obtain ⟨hk1, hk12, hk15, hk16, hkF, hkR, hk13⟩ := hrt
          refine jz_if_ne (tgt := 79) C dX4_town_64 (by decide) (by omega) (fun h64 => ?_) (fun h64 => ?_)
          · skip
            refine lv_aload_n hx hb dX4_town_79 rfl (lv_at hl 1 rfl) ?_
            refine lv_aload_n hx hb dX4_town_80 rfl (lv_at hl 1 rfl) ?_
            refine fg_M_readHigh C hin4 hE hP (v := ((k_X4_readsTown F R (60 * sheet + i) n).2.1) 13) (List.mem_of_getElem? (i := 3) rfl) dX4_town_81 rfl ?_
            refine fp_M_high C hin4 hE hP (jDM hD) hS (List.mem_of_getElem? (i := 4) rfl) dX4_town_84 (fun H lc hP hS => ?_)
            refine lv_aload_n hx hb dX4_town_87 rfl (lv_at hl 1 rfl) ?_
            refine lv_aload_n hx hb dX4_town_88 rfl (lv_at hl 1 rfl) ?_
            refine fg_M_readWide C hin4 hE hP (v := ((k_X4_readsTown F R (60 * sheet + i) n).2.1) 14) (List.mem_of_getElem? (i := 5) rfl) dX4_town_89 rfl ?_
            refine fp_M_wide C hin4 hE hP (jDM hD) hS (List.mem_of_getElem? (i := 6) rfl) dX4_town_92 (fun H lc hP hS => ?_)
            refine lv_aload_n hx hb dX4_town_95 rfl (lv_at hl 1 rfl) ?_
            refine lv_aload_n hx hb dX4_town_96 rfl (lv_at hl 1 rfl) ?_
            refine fg_M_readWorks C hin4 hE hP (v := ((k_X4_readsTown F R (60 * sheet + i) n).2.1) 15) (List.mem_of_getElem? (i := 7) rfl) dX4_town_97 rfl ?_
            refine fp_M_works C hin4 hE hP (jDM hD) hS (List.mem_of_getElem? (i := 8) rfl) dX4_town_100 (fun H lc hP hS => ?_)
            refine lv_aload_n hx hb dX4_town_103 rfl (lv_at hl 1 rfl) ?_
            refine lv_aload_n hx hb dX4_town_104 rfl (lv_at hl 1 rfl) ?_
            refine fg_M_readWards C hin4 hE hP (v := ((k_X4_readsTown F R (60 * sheet + i) n).2.1) 16) (List.mem_of_getElem? (i := 9) rfl) dX4_town_105 rfl ?_
            refine fp_M_wards C hin4 hE hP (jDM hD) hS (List.mem_of_getElem? (i := 10) rfl) dX4_town_108 (fun H lc hP hS => ?_)
            refine jz_const C dX4_town_111 ?_
            refine lv_istore (lv' := [(6, .int (iI (0))), (5, .int (iI (0))), (0, .ref (ad 0)), (1, .int (iI (sheet))), (2, .int (iI (lane))), (3, .int (iI (i))), (4, .int (iI (n)))]) hx hb dX4_town_112 hl (by decide) rfl (fun ls hl => ?_)
            have key114 : ∀ (n114 : Nat) (x : Nat) (hx9 : (x : Int) ≤ (k_X4_readsTown F R (60 * sheet + i) n).2.1 15), ((k_X4_readsTown F R (60 * sheet + i) n).2.1 15 - (x : Int) : Int) < n114 → ∀ (H : Heap) (lc : List Loc), va_P D vwCl (wM cI ad (u1 (u1 (u1 (u1 (k_X4_readsTown F R (60 * sheet + i) n).2.1 1 (((k_X4_readsTown F R (60 * sheet + i) n).2.1) 13)) 2 (((k_X4_readsTown F R (60 * sheet + i) n).2.1) 14)) 3 (((k_X4_readsTown F R (60 * sheet + i) n).2.1) 15)) 7 (((k_X4_readsTown F R (60 * sheet + i) n).2.1) 16)) (uR (uR (uR (k_X4_readsTown F R (60 * sheet + i) n).2.2 4 (cpz ((k_X4_readsTown F R (60 * sheet + i) n).2.2 17) ((k_X4_readsTown F R (60 * sheet + i) n).2.2 4) 0 0 x)) 5 (cpz ((k_X4_readsTown F R (60 * sheet + i) n).2.2 18) ((k_X4_readsTown F R (60 * sheet + i) n).2.2 5) 0 0 x)) 6 (zb ((k_X4_readsTown F R (60 * sheet + i) n).2.2 6) 0 x))) H → va_S A st.heap H lc → ∀ (ls : Array Slot), lv_has ls 7 [(6, .int (iI ((x : Int)))), (5, .int (iI (0))), (0, .ref (ad 0)), (1, .int (iI (sheet))), (2, .int (iI (lane))), (3, .int (iI (i))), (4, .int (iI (n)))] → W p l e rm_X4_town st mi ar bl mth cd H lc 0 0 Q (F0 mi 114 ls []) := by
              intro n114
              induction n114 with
              | zero => intro x hx9 hn9; exfalso; omega
              | succ n114 ih114 =>
                intro x hx9 hn9 H lc hP hS ls hl
                refine lv_iload hx hb dX4_town_114 (lv_at hl 0 rfl) ?_
                refine lv_aload_n hx hb dX4_town_116 rfl (lv_at hl 2 rfl) ?_
                refine fg_M_works C hin4 hE hP (v := ((k_X4_readsTown F R (60 * sheet + i) n).2.1) 15) (List.mem_of_getElem? (i := 8) rfl) dX4_town_117 rfl ?_
                refine jz_icmp_ge (tgt := 165) C dX4_town_120 (by decide) (by omega) (fun h120 => ?_) (fun h120 => ?_)
                · skip
                  have hg9 : x = (Int.toNat ((k_X4_readsTown F R (60 * sheet + i) n).2.1 15)) := (by omega)
                  subst hg9
                  have hl : lv_has ls 7 [(5, .int (iI (0))), (0, .ref (ad 0)), (1, .int (iI (sheet))), (2, .int (iI (lane))), (3, .int (iI (i))), (4, .int (iI (n)))] := lv_sub hl [1, 2, 3, 4, 5, 6] rfl
                  refine jz_const C dX4_town_165 ?_
                  refine lv_istore (lv' := [(6, .int (iI (0))), (5, .int (iI (0))), (0, .ref (ad 0)), (1, .int (iI (sheet))), (2, .int (iI (lane))), (3, .int (iI (i))), (4, .int (iI (n)))]) hx hb dX4_town_166 hl (by decide) rfl (fun ls hl => ?_)
                  have key168 : ∀ (n168 : Nat) (y : Nat) (hy9 : (y : Int) ≤ (k_X4_readsTown F R (60 * sheet + i) n).2.1 16), ((k_X4_readsTown F R (60 * sheet + i) n).2.1 16 - (y : Int) : Int) < n168 → ∀ (H : Heap) (lc : List Loc), va_P D vwCl (wM cI ad (u1 (u1 (u1 (u1 (k_X4_readsTown F R (60 * sheet + i) n).2.1 1 (((k_X4_readsTown F R (60 * sheet + i) n).2.1) 13)) 2 (((k_X4_readsTown F R (60 * sheet + i) n).2.1) 14)) 3 (((k_X4_readsTown F R (60 * sheet + i) n).2.1) 15)) 7 (((k_X4_readsTown F R (60 * sheet + i) n).2.1) 16)) (uR (uR (uR (uR (uR (uR (k_X4_readsTown F R (60 * sheet + i) n).2.2 4 (cpz ((k_X4_readsTown F R (60 * sheet + i) n).2.2 17) ((k_X4_readsTown F R (60 * sheet + i) n).2.2 4) 0 0 (Int.toNat ((k_X4_readsTown F R (60 * sheet + i) n).2.1 15)))) 5 (cpz ((k_X4_readsTown F R (60 * sheet + i) n).2.2 18) ((k_X4_readsTown F R (60 * sheet + i) n).2.2 5) 0 0 (Int.toNat ((k_X4_readsTown F R (60 * sheet + i) n).2.1 15)))) 6 (zb ((k_X4_readsTown F R (60 * sheet + i) n).2.2 6) 0 (Int.toNat ((k_X4_readsTown F R (60 * sheet + i) n).2.1 15)))) 8 (cpz ((k_X4_readsTown F R (60 * sheet + i) n).2.2 19) ((k_X4_readsTown F R (60 * sheet + i) n).2.2 8) 0 0 y)) 9 (cpz ((k_X4_readsTown F R (60 * sheet + i) n).2.2 20) ((k_X4_readsTown F R (60 * sheet + i) n).2.2 9) 0 0 y)) 10 (cpz ((k_X4_readsTown F R (60 * sheet + i) n).2.2 21) ((k_X4_readsTown F R (60 * sheet + i) n).2.2 10) 0 0 y))) H → va_S A st.heap H lc → ∀ (ls : Array Slot), lv_has ls 7 [(6, .int (iI ((y : Int)))), (5, .int (iI (0))), (0, .ref (ad 0)), (1, .int (iI (sheet))), (2, .int (iI (lane))), (3, .int (iI (i))), (4, .int (iI (n)))] → W p l e rm_X4_town st mi ar bl mth cd H lc 0 0 Q (F0 mi 168 ls []) := by
                    intro n168
                    induction n168 with
                    | zero => intro y hy9 hn9; exfalso; omega
                    | succ n168 ih168 =>
                      intro y hy9 hn9 H lc hP hS ls hl
                      refine lv_iload hx hb dX4_town_168 (lv_at hl 0 rfl) ?_
                      refine lv_aload_n hx hb dX4_town_170 rfl (lv_at hl 2 rfl) ?_
                      refine fg_M_wards C hin4 hE hP (v := ((k_X4_readsTown F R (60 * sheet + i) n).2.1) 16) (List.mem_of_getElem? (i := 10) rfl) dX4_town_171 rfl ?_
                      refine jz_icmp_ge (tgt := 225) C dX4_town_174 (by decide) (by omega) (fun h174 => ?_) (fun h174 => ?_)
                      · skip
                        have hg9 : y = (Int.toNat ((k_X4_readsTown F R (60 * sheet + i) n).2.1 16)) := (by omega)
                        subst hg9
                        have hl : lv_has ls 7 [(5, .int (iI (0))), (0, .ref (ad 0)), (1, .int (iI (sheet))), (2, .int (iI (lane))), (3, .int (iI (i))), (4, .int (iI (n)))] := lv_sub hl [1, 2, 3, 4, 5, 6] rfl
                        refine lv_aload_n hx hb dX4_town_225 rfl (lv_at hl 1 rfl) ?_
                        refine jz_const C dX4_town_226 ?_
                        refine fp_M_lawNow C hin4 hE hP (jDM hD) hS (List.mem_of_getElem? (i := 22) rfl) dX4_town_227 (fun H lc hP hS => ?_)
                        refine lv_aload_n hx hb dX4_town_230 rfl (lv_at hl 1 rfl) ?_
                        refine jz_const C dX4_town_231 ?_
                        refine fp_M_readings C hin4 hE hP (jDM hD) hS (List.mem_of_getElem? (i := 23) rfl) dX4_town_232 (fun H lc hP hS => ?_)
                        refine lv_aload_n hx hb dX4_town_235 rfl (lv_at hl 1 rfl) ?_
                        refine lv_aload_n hx hb dX4_town_236 rfl (lv_at hl 1 rfl) ?_
                        refine fg_M_wards C hin4 hE hP (v := ((k_X4_readsTown F R (60 * sheet + i) n).2.1) 16) (List.mem_of_getElem? (i := 10) rfl) dX4_town_237 rfl ?_
                        refine jw_V C hl.1 (jpreV hE hP 4 0 rfl rfl) (c_X4_refused (A := A) (jDM hD) (((k_X4_readsTown F R (60 * sheet + i) n).2.1) 16) ) (cwV 1 C.2.2.2.2 gX4_town_X4_refused rfl rfl rfl (by decide +kernel) ⟨Nat.le_of_ble_eq_true rfl, Nat.le_of_ble_eq_true rfl⟩) (As := [.int (iI (((k_X4_readsTown F R (60 * sheet + i) n).2.1) 16))]) (hn := rfl) (hst := rfl) (rest := []) (hW := Nat.le_of_ble_eq_true rfl) (hdg := dX4_town_240) (hf := ⟨Nat.le_of_ble_eq_true rfl, Nat.le_of_ble_eq_true rfl⟩) hS (fun v9 uq240 H lc hq9 hP hS => ?_)
                        obtain rfl : v9 = some (.int (iI ((((k_X4_readsTown F R (60 * sheet + i) n).2.1) 16)))) := hq9
                        have hP : va_P D vwCl (wM cI ad (u1 (u1 (u1 (u1 (u1 (u1 (u1 (k_X4_readsTown F R (60 * sheet + i) n).2.1 1 (((k_X4_readsTown F R (60 * sheet + i) n).2.1) 13)) 2 (((k_X4_readsTown F R (60 * sheet + i) n).2.1) 14)) 3 (((k_X4_readsTown F R (60 * sheet + i) n).2.1) 15)) 7 (((k_X4_readsTown F R (60 * sheet + i) n).2.1) 16)) 11 0) 24 0) 0 0) (uR (uR (uR (uR (uR (uR (k_X4_readsTown F R (60 * sheet + i) n).2.2 4 (cpz ((k_X4_readsTown F R (60 * sheet + i) n).2.2 17) ((k_X4_readsTown F R (60 * sheet + i) n).2.2 4) 0 0 (Int.toNat ((k_X4_readsTown F R (60 * sheet + i) n).2.1 15)))) 5 (cpz ((k_X4_readsTown F R (60 * sheet + i) n).2.2 18) ((k_X4_readsTown F R (60 * sheet + i) n).2.2 5) 0 0 (Int.toNat ((k_X4_readsTown F R (60 * sheet + i) n).2.1 15)))) 6 (zb ((k_X4_readsTown F R (60 * sheet + i) n).2.2 6) 0 (Int.toNat ((k_X4_readsTown F R (60 * sheet + i) n).2.1 15)))) 8 (cpz ((k_X4_readsTown F R (60 * sheet + i) n).2.2 19) ((k_X4_readsTown F R (60 * sheet + i) n).2.2 8) 0 0 ((Int.toNat ((k_X4_readsTown F R (60 * sheet + i) n).2.1 16))))) 9 (cpz ((k_X4_readsTown F R (60 * sheet + i) n).2.2 20) ((k_X4_readsTown F R (60 * sheet + i) n).2.2 9) 0 0 ((Int.toNat ((k_X4_readsTown F R (60 * sheet + i) n).2.1 16))))) 10 (cpz ((k_X4_readsTown F R (60 * sheet + i) n).2.2 21) ((k_X4_readsTown F R (60 * sheet + i) n).2.2 10) 0 0 ((Int.toNat ((k_X4_readsTown F R (60 * sheet + i) n).2.1 16)))))) H := hP
                        have hk9 : k_X4_town F R sheet lane i n = ((((k_X4_readsTown F R (60 * sheet + i) n).2.1) 16), (u1 (u1 (u1 (u1 (u1 (u1 (u1 (k_X4_readsTown F R (60 * sheet + i) n).2.1 1 (((k_X4_readsTown F R (60 * sheet + i) n).2.1) 13)) 2 (((k_X4_readsTown F R (60 * sheet + i) n).2.1) 14)) 3 (((k_X4_readsTown F R (60 * sheet + i) n).2.1) 15)) 7 (((k_X4_readsTown F R (60 * sheet + i) n).2.1) 16)) 11 0) 24 0) 0 0), (uR (uR (uR (uR (uR (uR (k_X4_readsTown F R (60 * sheet + i) n).2.2 4 (cpz ((k_X4_readsTown F R (60 * sheet + i) n).2.2 17) ((k_X4_readsTown F R (60 * sheet + i) n).2.2 4) 0 0 (Int.toNat ((k_X4_readsTown F R (60 * sheet + i) n).2.1 15)))) 5 (cpz ((k_X4_readsTown F R (60 * sheet + i) n).2.2 18) ((k_X4_readsTown F R (60 * sheet + i) n).2.2 5) 0 0 (Int.toNat ((k_X4_readsTown F R (60 * sheet + i) n).2.1 15)))) 6 (zb ((k_X4_readsTown F R (60 * sheet + i) n).2.2 6) 0 (Int.toNat ((k_X4_readsTown F R (60 * sheet + i) n).2.1 15)))) 8 (cpz ((k_X4_readsTown F R (60 * sheet + i) n).2.2 19) ((k_X4_readsTown F R (60 * sheet + i) n).2.2 8) 0 0 ((Int.toNat ((k_X4_readsTown F R (60 * sheet + i) n).2.1 16))))) 9 (cpz ((k_X4_readsTown F R (60 * sheet + i) n).2.2 20) ((k_X4_readsTown F R (60 * sheet + i) n).2.2 9) 0 0 ((Int.toNat ((k_X4_readsTown F R (60 * sheet + i) n).2.1 16))))) 10 (cpz ((k_X4_readsTown F R (60 * sheet + i) n).2.2 21) ((k_X4_readsTown F R (60 * sheet + i) n).2.2 10) 0 0 ((Int.toNat ((k_X4_readsTown F R (60 * sheet + i) n).2.1 16)))))) := by rw [k_X4_town, (if_neg h4), (if_pos h22), (if_pos hq), (if_neg (h64))]
                        exact hret _ ((u1 (u1 (u1 (u1 (u1 (u1 (u1 (k_X4_readsTown F R (60 * sheet + i) n).2.1 1 (((k_X4_readsTown F R (60 * sheet + i) n).2.1) 13)) 2 (((k_X4_readsTown F R (60 * sheet + i) n).2.1) 14)) 3 (((k_X4_readsTown F R (60 * sheet + i) n).2.1) 15)) 7 (((k_X4_readsTown F R (60 * sheet + i) n).2.1) 16)) 11 0) 24 0) 0 0), (uR (uR (uR (uR (uR (uR (k_X4_readsTown F R (60 * sheet + i) n).2.2 4 (cpz ((k_X4_readsTown F R (60 * sheet + i) n).2.2 17) ((k_X4_readsTown F R (60 * sheet + i) n).2.2 4) 0 0 (Int.toNat ((k_X4_readsTown F R (60 * sheet + i) n).2.1 15)))) 5 (cpz ((k_X4_readsTown F R (60 * sheet + i) n).2.2 18) ((k_X4_readsTown F R (60 * sheet + i) n).2.2 5) 0 0 (Int.toNat ((k_X4_readsTown F R (60 * sheet + i) n).2.1 15)))) 6 (zb ((k_X4_readsTown F R (60 * sheet + i) n).2.2 6) 0 (Int.toNat ((k_X4_readsTown F R (60 * sheet + i) n).2.1 15)))) 8 (cpz ((k_X4_readsTown F R (60 * sheet + i) n).2.2 19) ((k_X4_readsTown F R (60 * sheet + i) n).2.2 8) 0 0 ((Int.toNat ((k_X4_readsTown F R (60 * sheet + i) n).2.1 16))))) 9 (cpz ((k_X4_readsTown F R (60 * sheet + i) n).2.2 20) ((k_X4_readsTown F R (60 * sheet + i) n).2.2 9) 0 0 ((Int.toNat ((k_X4_readsTown F R (60 * sheet + i) n).2.1 16))))) 10 (cpz ((k_X4_readsTown F R (60 * sheet + i) n).2.2 21) ((k_X4_readsTown F R (60 * sheet + i) n).2.2 10) 0 0 ((Int.toNat ((k_X4_readsTown F R (60 * sheet + i) n).2.1 16)))))) _ _ _ _ dX4_town_243 ⟨by rw [hk9], by rw [hk9], by rw [hk9]⟩ hP hS
                      · skip
                        refine lv_aload_n hx hb dX4_town_177 rfl (lv_at hl 2 rfl) ?_
                        refine fg_M_wardIn C hin4 hE hP (List.mem_of_getElem? (i := 16) rfl) dX4_town_178 ?_
                        refine lv_iload hx hb dX4_town_181 (lv_at hl 0 rfl) ?_
                        refine lv_aload_n hx hb dX4_town_183 rfl (lv_at hl 2 rfl) ?_
                        refine fg_M_readWard C hin4 hE hP (List.mem_of_getElem? (i := 17) rfl) dX4_town_184 ?_
                        refine lv_iload hx hb dX4_town_187 (lv_at hl 0 rfl) ?_
                        refine fl_M_readWard C hE hP (v := (((k_X4_readsTown F R (60 * sheet + i) n).2.2) 19) y) dX4_town_189 (by omega) rfl ?_
                        refine fs_M_wardIn C hE hP (jDM hD) hS dX4_town_190 (by omega) (fun H lc hP hS => ?_)
                        refine lv_aload_n hx hb dX4_town_191 rfl (lv_at hl 2 rfl) ?_
                        refine fg_M_kindOf C hin4 hE hP (List.mem_of_getElem? (i := 18) rfl) dX4_town_192 ?_
                        refine lv_iload hx hb dX4_town_195 (lv_at hl 0 rfl) ?_
                        refine lv_aload_n hx hb dX4_town_197 rfl (lv_at hl 2 rfl) ?_
                        refine fg_M_readKind C hin4 hE hP (List.mem_of_getElem? (i := 19) rfl) dX4_town_198 ?_
                        refine lv_iload hx hb dX4_town_201 (lv_at hl 0 rfl) ?_
                        refine fl_M_readKind C hE hP (v := (((k_X4_readsTown F R (60 * sheet + i) n).2.2) 20) y) dX4_town_203 (by omega) rfl ?_
                        refine fs_M_kindOf C hE hP (jDM hD) hS dX4_town_204 (by omega) (fun H lc hP hS => ?_)
                        refine lv_aload_n hx hb dX4_town_205 rfl (lv_at hl 2 rfl) ?_
                        refine fg_M_noseOf C hin4 hE hP (List.mem_of_getElem? (i := 20) rfl) dX4_town_206 ?_
                        refine lv_iload hx hb dX4_town_209 (lv_at hl 0 rfl) ?_
                        refine lv_aload_n hx hb dX4_town_211 rfl (lv_at hl 2 rfl) ?_
                        refine fg_M_readNose C hin4 hE hP (List.mem_of_getElem? (i := 21) rfl) dX4_town_212 ?_
                        refine lv_iload hx hb dX4_town_215 (lv_at hl 0 rfl) ?_
                        refine fl_M_readNose C hE hP (v := (((k_X4_readsTown F R (60 * sheet + i) n).2.2) 21) y) dX4_town_217 (by omega) rfl ?_
                        refine fs_M_noseOf C hE hP (jDM hD) hS dX4_town_218 (by omega) (fun H lc hP hS => ?_)
                        have hP : va_P D vwCl (wM cI ad (u1 (u1 (u1 (u1 (k_X4_readsTown F R (60 * sheet + i) n).2.1 1 (((k_X4_readsTown F R (60 * sheet + i) n).2.1) 13)) 2 (((k_X4_readsTown F R (60 * sheet + i) n).2.1) 14)) 3 (((k_X4_readsTown F R (60 * sheet + i) n).2.1) 15)) 7 (((k_X4_readsTown F R (60 * sheet + i) n).2.1) 16)) (uR (uR (uR (uR (uR (uR (uR (uR (uR (k_X4_readsTown F R (60 * sheet + i) n).2.2 4 (cpz ((k_X4_readsTown F R (60 * sheet + i) n).2.2 17) ((k_X4_readsTown F R (60 * sheet + i) n).2.2 4) 0 0 (Int.toNat ((k_X4_readsTown F R (60 * sheet + i) n).2.1 15)))) 5 (cpz ((k_X4_readsTown F R (60 * sheet + i) n).2.2 18) ((k_X4_readsTown F R (60 * sheet + i) n).2.2 5) 0 0 (Int.toNat ((k_X4_readsTown F R (60 * sheet + i) n).2.1 15)))) 6 (zb ((k_X4_readsTown F R (60 * sheet + i) n).2.2 6) 0 (Int.toNat ((k_X4_readsTown F R (60 * sheet + i) n).2.1 15)))) 8 (cpz ((k_X4_readsTown F R (60 * sheet + i) n).2.2 19) ((k_X4_readsTown F R (60 * sheet + i) n).2.2 8) 0 0 y)) 9 (cpz ((k_X4_readsTown F R (60 * sheet + i) n).2.2 20) ((k_X4_readsTown F R (60 * sheet + i) n).2.2 9) 0 0 y)) 10 (cpz ((k_X4_readsTown F R (60 * sheet + i) n).2.2 21) ((k_X4_readsTown F R (60 * sheet + i) n).2.2 10) 0 0 y)) 8 (u1 (cpz ((k_X4_readsTown F R (60 * sheet + i) n).2.2 19) ((k_X4_readsTown F R (60 * sheet + i) n).2.2 8) 0 0 y) y ((((k_X4_readsTown F R (60 * sheet + i) n).2.2) 19) y))) 9 (u1 (cpz ((k_X4_readsTown F R (60 * sheet + i) n).2.2 20) ((k_X4_readsTown F R (60 * sheet + i) n).2.2 9) 0 0 y) y ((((k_X4_readsTown F R (60 * sheet + i) n).2.2) 20) y))) 10 (u1 (cpz ((k_X4_readsTown F R (60 * sheet + i) n).2.2 21) ((k_X4_readsTown F R (60 * sheet + i) n).2.2 10) 0 0 y) y ((((k_X4_readsTown F R (60 * sheet + i) n).2.2) 21) y)))) H := hP
                        have hP : va_P D vwCl (wM cI ad (u1 (u1 (u1 (u1 (k_X4_readsTown F R (60 * sheet + i) n).2.1 1 (((k_X4_readsTown F R (60 * sheet + i) n).2.1) 13)) 2 (((k_X4_readsTown F R (60 * sheet + i) n).2.1) 14)) 3 (((k_X4_readsTown F R (60 * sheet + i) n).2.1) 15)) 7 (((k_X4_readsTown F R (60 * sheet + i) n).2.1) 16)) (uR (uR (uR (uR (uR (uR (k_X4_readsTown F R (60 * sheet + i) n).2.2 4 (cpz ((k_X4_readsTown F R (60 * sheet + i) n).2.2 17) ((k_X4_readsTown F R (60 * sheet + i) n).2.2 4) 0 0 (Int.toNat ((k_X4_readsTown F R (60 * sheet + i) n).2.1 15)))) 5 (cpz ((k_X4_readsTown F R (60 * sheet + i) n).2.2 18) ((k_X4_readsTown F R (60 * sheet + i) n).2.2 5) 0 0 (Int.toNat ((k_X4_readsTown F R (60 * sheet + i) n).2.1 15)))) 6 (zb ((k_X4_readsTown F R (60 * sheet + i) n).2.2 6) 0 (Int.toNat ((k_X4_readsTown F R (60 * sheet + i) n).2.1 15)))) 8 (cpz ((k_X4_readsTown F R (60 * sheet + i) n).2.2 19) ((k_X4_readsTown F R (60 * sheet + i) n).2.2 8) 0 0 (y + 1))) 9 (cpz ((k_X4_readsTown F R (60 * sheet + i) n).2.2 20) ((k_X4_readsTown F R (60 * sheet + i) n).2.2 9) 0 0 (y + 1))) 10 (cpz ((k_X4_readsTown F R (60 * sheet + i) n).2.2 21) ((k_X4_readsTown F R (60 * sheet + i) n).2.2 10) 0 0 (y + 1)))) H := by rw [uR_3_8, cpz_s (by omega) (by omega), cpz_s (by omega) (by omega), cpz_s (by omega) (by omega)] at hP; exact hP
                        refine jz_iinc (k := 0) (z := (y : Int) + 1) (lv' := [(6, .int (iI ((y : Int) + 1))), (5, .int (iI (0))), (0, .ref (ad 0)), (1, .int (iI (sheet))), (2, .int (iI (lane))), (3, .int (iI (i))), (4, .int (iI (n)))]) C dX4_town_219 hl rfl rfl (by decide) rfl (fun ls hl => ?_)
                        refine lv_goto (tgt := 168) hx hb dX4_town_222 (by decide) ?_
                        exact ih168 (y + 1) (by omega) (by omega) _ _ hP hS ls (lv_sub hl [0, 1, 2, 3, 4, 5, 6] rfl)
                  exact key168 (Int.toNat ((k_X4_readsTown F R (60 * sheet + i) n).2.1 16 - (0 : Int)) + 1) 0 (by omega) (by omega) _ _ (by rw [cpz_0, cpz_0, cpz_0, uR_i_8 (B := (uR (uR (uR (k_X4_readsTown F R (60 * sheet + i) n).2.2 4 (cpz ((k_X4_readsTown F R (60 * sheet + i) n).2.2 17) ((k_X4_readsTown F R (60 * sheet + i) n).2.2 4) 0 0 (Int.toNat ((k_X4_readsTown F R (60 * sheet + i) n).2.1 15)))) 5 (cpz ((k_X4_readsTown F R (60 * sheet + i) n).2.2 18) ((k_X4_readsTown F R (60 * sheet + i) n).2.2 5) 0 0 (Int.toNat ((k_X4_readsTown F R (60 * sheet + i) n).2.1 15)))) 6 (zb ((k_X4_readsTown F R (60 * sheet + i) n).2.2 6) 0 (Int.toNat ((k_X4_readsTown F R (60 * sheet + i) n).2.1 15))))) (a := ((k_X4_readsTown F R (60 * sheet + i) n).2.2 8)) (b := ((k_X4_readsTown F R (60 * sheet + i) n).2.2 9)) (c := ((k_X4_readsTown F R (60 * sheet + i) n).2.2 10)) rfl rfl rfl]; exact hP) hS ls (lv_sub hl [0, 1, 2, 3, 4, 5, 6] rfl)
                · skip
                  refine lv_aload_n hx hb dX4_town_123 rfl (lv_at hl 2 rfl) ?_
                  refine fg_M_workIn C hin4 hE hP (List.mem_of_getElem? (i := 11) rfl) dX4_town_124 ?_
                  refine lv_iload hx hb dX4_town_127 (lv_at hl 0 rfl) ?_
                  refine lv_aload_n hx hb dX4_town_129 rfl (lv_at hl 2 rfl) ?_
                  refine fg_M_readWork C hin4 hE hP (List.mem_of_getElem? (i := 12) rfl) dX4_town_130 ?_
                  refine lv_iload hx hb dX4_town_133 (lv_at hl 0 rfl) ?_
                  refine fl_M_readWork C hE hP (v := (((k_X4_readsTown F R (60 * sheet + i) n).2.2) 17) x) dX4_town_135 (by omega) rfl ?_
                  refine fs_M_workIn C hE hP (jDM hD) hS dX4_town_136 (by omega) (fun H lc hP hS => ?_)
                  refine lv_aload_n hx hb dX4_town_137 rfl (lv_at hl 2 rfl) ?_
                  refine fg_M_strongOf C hin4 hE hP (List.mem_of_getElem? (i := 13) rfl) dX4_town_138 ?_
                  refine lv_iload hx hb dX4_town_141 (lv_at hl 0 rfl) ?_
                  refine lv_aload_n hx hb dX4_town_143 rfl (lv_at hl 2 rfl) ?_
                  refine fg_M_readStrong C hin4 hE hP (List.mem_of_getElem? (i := 14) rfl) dX4_town_144 ?_
                  refine lv_iload hx hb dX4_town_147 (lv_at hl 0 rfl) ?_
                  refine fl_M_readStrong C hE hP (v := (((k_X4_readsTown F R (60 * sheet + i) n).2.2) 18) x) dX4_town_149 (by omega) rfl ?_
                  refine fs_M_strongOf C hE hP (jDM hD) hS dX4_town_150 (by omega) (fun H lc hP hS => ?_)
                  refine lv_aload_n hx hb dX4_town_151 rfl (lv_at hl 2 rfl) ?_
                  refine fg_M_vaneOf C hin4 hE hP (List.mem_of_getElem? (i := 15) rfl) dX4_town_152 ?_
                  refine lv_iload hx hb dX4_town_155 (lv_at hl 0 rfl) ?_
                  refine jz_const C dX4_town_157 ?_
                  refine fs_M_vaneOf C hE hP (jDM hD) hS dX4_town_158 (by omega) (fun H lc hP hS => ?_)
                  have hP : va_P D vwCl (wM cI ad (u1 (u1 (u1 (u1 (k_X4_readsTown F R (60 * sheet + i) n).2.1 1 (((k_X4_readsTown F R (60 * sheet + i) n).2.1) 13)) 2 (((k_X4_readsTown F R (60 * sheet + i) n).2.1) 14)) 3 (((k_X4_readsTown F R (60 * sheet + i) n).2.1) 15)) 7 (((k_X4_readsTown F R (60 * sheet + i) n).2.1) 16)) (uR (uR (uR (uR (uR (uR (k_X4_readsTown F R (60 * sheet + i) n).2.2 4 (cpz ((k_X4_readsTown F R (60 * sheet + i) n).2.2 17) ((k_X4_readsTown F R (60 * sheet + i) n).2.2 4) 0 0 x)) 5 (cpz ((k_X4_readsTown F R (60 * sheet + i) n).2.2 18) ((k_X4_readsTown F R (60 * sheet + i) n).2.2 5) 0 0 x)) 6 (zb ((k_X4_readsTown F R (60 * sheet + i) n).2.2 6) 0 x)) 4 (u1 (cpz ((k_X4_readsTown F R (60 * sheet + i) n).2.2 17) ((k_X4_readsTown F R (60 * sheet + i) n).2.2 4) 0 0 x) x ((((k_X4_readsTown F R (60 * sheet + i) n).2.2) 17) x))) 5 (u1 (cpz ((k_X4_readsTown F R (60 * sheet + i) n).2.2 18) ((k_X4_readsTown F R (60 * sheet + i) n).2.2 5) 0 0 x) x ((((k_X4_readsTown F R (60 * sheet + i) n).2.2) 18) x))) 6 (u1 (zb ((k_X4_readsTown F R (60 * sheet + i) n).2.2 6) 0 x) x 0))) H := hP
                  have hP : va_P D vwCl (wM cI ad (u1 (u1 (u1 (u1 (k_X4_readsTown F R (60 * sheet + i) n).2.1 1 (((k_X4_readsTown F R (60 * sheet + i) n).2.1) 13)) 2 (((k_X4_readsTown F R (60 * sheet + i) n).2.1) 14)) 3 (((k_X4_readsTown F R (60 * sheet + i) n).2.1) 15)) 7 (((k_X4_readsTown F R (60 * sheet + i) n).2.1) 16)) (uR (uR (uR (k_X4_readsTown F R (60 * sheet + i) n).2.2 4 (cpz ((k_X4_readsTown F R (60 * sheet + i) n).2.2 17) ((k_X4_readsTown F R (60 * sheet + i) n).2.2 4) 0 0 (x + 1))) 5 (cpz ((k_X4_readsTown F R (60 * sheet + i) n).2.2 18) ((k_X4_readsTown F R (60 * sheet + i) n).2.2 5) 0 0 (x + 1))) 6 (zb ((k_X4_readsTown F R (60 * sheet + i) n).2.2 6) 0 (x + 1)))) H := by rw [uR_3_4, cpz_s (by omega) (by omega), cpz_s (by omega) (by omega), zb_s (by omega)] at hP; exact hP
                  refine jz_iinc (k := 0) (z := (x : Int) + 1) (lv' := [(6, .int (iI ((x : Int) + 1))), (5, .int (iI (0))), (0, .ref (ad 0)), (1, .int (iI (sheet))), (2, .int (iI (lane))), (3, .int (iI (i))), (4, .int (iI (n)))]) C dX4_town_159 hl rfl rfl (by decide) rfl (fun ls hl => ?_)
                  refine lv_goto (tgt := 114) hx hb dX4_town_162 (by decide) ?_
                  exact ih114 (x + 1) (by omega) (by omega) _ _ hP hS ls (lv_sub hl [0, 1, 2, 3, 4, 5, 6] rfl)
            exact key114 (Int.toNat ((k_X4_readsTown F R (60 * sheet + i) n).2.1 15 - (0 : Int)) + 1) 0 (by omega) (by omega) _ _ (by rw [uR_i_4 cpz_0 cpz_0 zb_0]; exact hP) hS ls (lv_sub hl [0, 1, 2, 3, 4, 5, 6] rfl)
          · skip
            refine lv_aload_n hx hb dX4_town_67 rfl (lv_at hl 1 rfl) ?_
            refine jz_bipush C dX4_town_68 (by decide +kernel) ?_
            refine lv_aload_n hx hb dX4_town_70 rfl (lv_at hl 1 rfl) ?_
            refine fg_M_readAt C hin4 hE hP (v := ((k_X4_readsTown F R (60 * sheet + i) n).2.1) 12) (List.mem_of_getElem? (i := 2) rfl) dX4_town_71 rfl ?_
            refine jz_isub C dX4_town_74 ?_
            refine jw_V C hl.1 (jpreV hE hP 4 0 rfl rfl) (c_X4_refused (A := A) (jDM hD) ((-100) - (((k_X4_readsTown F R (60 * sheet + i) n).2.1) 12)) ) (cwV 1 C.2.2.2.2 gX4_town_X4_refused rfl rfl rfl (by decide +kernel) ⟨Nat.le_of_ble_eq_true rfl, Nat.le_of_ble_eq_true rfl⟩) (As := [.int (iI ((-100) - (((k_X4_readsTown F R (60 * sheet + i) n).2.1) 12)))]) (hn := rfl) (hst := rfl) (rest := []) (hW := Nat.le_of_ble_eq_true rfl) (hdg := dX4_town_75) (hf := ⟨Nat.le_of_ble_eq_true rfl, Nat.le_of_ble_eq_true rfl⟩) hS (fun v9 uq75 H lc hq9 hP hS => ?_)
            obtain rfl : v9 = some (.int (iI (((-100) - (((k_X4_readsTown F R (60 * sheet + i) n).2.1) 12))))) := hq9
            have hP : va_P D vwCl (wM cI ad (u1 (k_X4_readsTown F R (60 * sheet + i) n).2.1 0 0) (k_X4_readsTown F R (60 * sheet + i) n).2.2) H := hP
            have hk9 : k_X4_town F R sheet lane i n = (((-100) - (((k_X4_readsTown F R (60 * sheet + i) n).2.1) 12)), (u1 (k_X4_readsTown F R (60 * sheet + i) n).2.1 0 0), (k_X4_readsTown F R (60 * sheet + i) n).2.2) := by rw [k_X4_town, (if_neg h4), (if_pos h22), (if_pos hq), (if_pos h64)]
            exact hret _ ((u1 (k_X4_readsTown F R (60 * sheet + i) n).2.1 0 0), (k_X4_readsTown F R (60 * sheet + i) n).2.2) _ _ _ _ dX4_town_78 ⟨by rw [hk9], by rw [hk9], by rw [hk9]⟩ hP hS
        · exact absurd h46 (by decide)
      · skip
        refine jw_V C hl.1 (jpreV hE hP 4 0 rfl rfl) (c_X4_cellsBarred_no (A := A) (jDM hD) sheet lane i n (show 0 ≤ sheet ∧ sheet ≤ 3 from (by omega)) (hS9.size (by omega)) (hS9.lane (by omega)) (show -2147483648 ≤ lane ∧ lane < 2147483648 from (by omega)) (show -2147483648 ≤ i ∧ i < 2147483648 from (by omega)) (show -2147483648 ≤ n ∧ n < 2147483648 from (by omega)) hq) (cwV 4 C.2.2.2.2 gX4_town_X4_cellsBarred rfl rfl rfl (by decide +kernel) ⟨Nat.le_of_ble_eq_true rfl, Nat.le_of_ble_eq_true rfl⟩) (As := [.int (iI (sheet)), .int (iI (lane)), .int (iI (i)), .long (lI (n))]) (hn := rfl) (hst := rfl) (rest := []) (hW := Nat.le_of_ble_eq_true rfl) (hdg := dX4_town_39) (hf := ⟨Nat.le_of_ble_eq_true rfl, Nat.le_of_ble_eq_true rfl⟩) hS (fun v9 uq39 H lc hq9 hP hS => ?_)
        obtain rfl : v9 = some (.int (iI (-10 - ftm (R 27 (Int.toNat sheet)) (R 28 (Int.toNat sheet)) lane i n))) := hq9
        have hP : va_P D vwCl (wM cI ad (u1 F 0 (ftm (R 27 (Int.toNat sheet)) (R 28 (Int.toNat sheet)) lane i n)) R) H := hP
        have hqb := ftm_bd (sz := R 27 (Int.toNat sheet)) (ln := R 28 (Int.toNat sheet)) (al := lane) (i := i) (n := n)
        refine lv_istore (lv' := [(5, .int (iI (-10 - ftm (R 27 (Int.toNat sheet)) (R 28 (Int.toNat sheet)) lane i n))), (0, .ref (ad 0)), (1, .int (iI (sheet))), (2, .int (iI (lane))), (3, .int (iI (i))), (4, .int (iI (n)))]) hx hb dX4_town_42 hl (by decide) rfl (fun ls hl => ?_)
        refine lv_iload hx hb dX4_town_44 (lv_at hl 0 rfl) ?_
        refine jz_if_ge (tgt := 52) C dX4_town_46 (by decide) (by omega) (fun h46 => ?_) (fun h46 => ?_)
        · exfalso; omega
        · skip
          refine lv_iload hx hb dX4_town_49 (lv_at hl 0 rfl) ?_
          have hk9 : k_X4_town F R sheet lane i n = (-10 - ftm (R 27 (Int.toNat sheet)) (R 28 (Int.toNat sheet)) lane i n, (u1 F 0 (ftm (R 27 (Int.toNat sheet)) (R 28 (Int.toNat sheet)) lane i n)), R) := by rw [k_X4_town, (if_neg h4), (if_pos h22), (if_neg hq)]
          exact hret _ ((u1 F 0 (ftm (R 27 (Int.toNat sheet)) (R 28 (Int.toNat sheet)) lane i n)), R) _ _ _ _ dX4_town_51 ⟨by rw [hk9], by rw [hk9], by rw [hk9]⟩ hP hS
    · skip
      refine lv_aload_n hx hb dX4_town_25 rfl (lv_at hl 0 rfl) ?_
      refine jz_bipush C dX4_town_26 (by decide +kernel) ?_
      refine jw_V C hl.1 (jpreV hE hP 4 0 rfl rfl) (c_X4_refused (A := A) (jDM hD) (-2) ) (cwV 1 C.2.2.2.2 gX4_town_X4_refused rfl rfl rfl (by decide +kernel) ⟨Nat.le_of_ble_eq_true rfl, Nat.le_of_ble_eq_true rfl⟩) (As := [.int (iI (-2))]) (hn := rfl) (hst := rfl) (rest := []) (hW := Nat.le_of_ble_eq_true rfl) (hdg := dX4_town_28) (hf := ⟨Nat.le_of_ble_eq_true rfl, Nat.le_of_ble_eq_true rfl⟩) hS (fun v9 uq28 H lc hq9 hP hS => ?_)
      obtain rfl : v9 = some (.int (iI ((-2)))) := hq9
      have hP : va_P D vwCl (wM cI ad (u1 F 0 0) R) H := hP
      have hk9 : k_X4_town F R sheet lane i n = ((-2), (u1 F 0 0), R) := by rw [k_X4_town, (if_neg h4), (if_neg h22)]
      exact hret _ ((u1 F 0 0), R) _ _ _ _ dX4_town_31 ⟨by rw [hk9], by rw [hk9], by rw [hk9]⟩ hP hS
  · skip
    refine lv_aload_n hx hb dX4_town_7 rfl (lv_at hl 0 rfl) ?_
    refine jz_const C dX4_town_8 ?_
    refine jw_V C hl.1 (jpreV hE hP 4 0 rfl rfl) (c_X4_refused (A := A) (jDM hD) (-1) ) (cwV 1 C.2.2.2.2 gX4_town_X4_refused rfl rfl rfl (by decide +kernel) ⟨Nat.le_of_ble_eq_true rfl, Nat.le_of_ble_eq_true rfl⟩) (As := [.int (iI (-1))]) (hn := rfl) (hst := rfl) (rest := []) (hW := Nat.le_of_ble_eq_true rfl) (hdg := dX4_town_9) (hf := ⟨Nat.le_of_ble_eq_true rfl, Nat.le_of_ble_eq_true rfl⟩) hS (fun v9 uq9 H lc hq9 hP hS => ?_)
    obtain rfl : v9 = some (.int (iI ((-1)))) := hq9
    have hP : va_P D vwCl (wM cI ad (u1 F 0 0) R) H := hP
    have hk9 : k_X4_town F R sheet lane i n = ((-1), (u1 F 0 0), R) := by rw [k_X4_town, (if_pos h4)]
    exact hret _ ((u1 F 0 0), R) _ _ _ _ dX4_town_12 ⟨by rw [hk9], by rw [hk9], by rw [hk9]⟩ hP hS
