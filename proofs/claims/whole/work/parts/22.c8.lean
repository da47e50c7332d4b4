abbrev rm_X1_readRow : Room := { frames := 4, cells := 0, slots := 0, locals := 100 }
set_option maxHeartbeats 4000000 in
set_option maxRecDepth 100000 in
theorem c_X1_readRow {l : Launch} {D : va_G} {cI cS : ClassId} {ad : Nat → Nat} {I R : Nat → Nat → Int} {A : Nat → Prop} (hD : va_D A (wC cI cS ad I R))  (r : Int)  (hB : BI I R) (hr : 0 ≤ r ∧ r < 4): JV l yX1_readRow wsX1_readRow rm_X1_readRow (fun U => jB D cI cS (wC cI cS ad I R) U ∧ jT A U U.heap) A [.ref (ad 2), .ref (ad 15), .int (iI (r))] (fun v9 (u9 : (Nat → Nat → Int) × (Nat → Nat → Int)) => v9 = some (.int (iI (k_X1_readRow I R r).1)) ∧ u9.1 = (k_X1_readRow I R r).2.1 ∧ u9.2 = (k_X1_readRow I R r).2.2) (fun u9 H => va_P D vwCl (wC cI cS ad u9.1 u9.2) H) := by
  refine JV.mkZ rfl (by decide +kernel) rfl (Nat.le_of_ble_eq_true rfl) ?_
  intro p e st mi ar bl mth cd Q ls C hB hl hret
  obtain ⟨⟨hE, hP⟩, hT0⟩ := hB
  have hx := C.1
  have hb := C.2.1
  have hl : lv_has ls 4 [(0, .ref (ad 2)), (1, .ref (ad 15)), (2, .int (iI (r)))] := hl
  have hin2 : ∀ w ∈ wsX20, w ∈ wsX1_readRow := fun _ h => List.mem_cons_of_mem _ (List.mem_append_left _ (List.mem_append_right _ h))
  suffices hgo : ∀ (H : Heap) (lc : List Loc), va_P D vwCl (wC cI cS ad I R) H → va_S A st.heap H lc → W p l e rm_X1_readRow st mi ar bl mth cd H lc 0 0 Q (F0 mi 0 ls []) from hgo _ _ hP va_S.rf
  clear hP
  intro H lc hP hS
  have hpl := hB.place
  have hcd := hB.code
  have hwk := hB.works
  have hwd := hB.wards
  have hhi := hB.high
  have hwi := hB.wide
  have hnx := hB.nxt
  refine jz_sub (P := nx (I 2 2) (I 2 1) (R 3) = 59) (fun h59 => ?_) (fun h59 => ?_)
  · skip
    refine lv_aload_n hx hb dX1_readRow_0 rfl (lv_at hl 0 rfl) ?_
    refine jz_bipush C dX1_readRow_1 (by decide +kernel) ?_
    refine jw_V C hl.1 (jpreV hE hP 1 2 rfl rfl) (c_X1_takesT (A := A) (jDC hD) 59 (show 0 ≤ (I 2 2) ∧ (I 2 2) ≤ (I 2 1) ∧ (I 2 1) ≤ 60 from (by omega)) hcd (by decide) (show nx (I 2 2) (I 2 1) (R 3) = 59 from (by omega))) (cwV 1 C.2.2.2.2 gX1_readRow_X1_takes rfl rfl rfl (by decide +kernel) ⟨Nat.le_of_ble_eq_true rfl, Nat.le_of_ble_eq_true rfl⟩) (As := [.int (iI (59))]) (hn := rfl) (hst := rfl) (rest := []) (hW := Nat.le_of_ble_eq_true rfl) (hdg := dX1_readRow_3) (hf := ⟨Nat.le_of_ble_eq_true rfl, Nat.le_of_ble_eq_true rfl⟩) hS (fun v9 uq3 H lc hq9 hP hS => ?_)
    obtain rfl : v9 = some (.int (iI (1))) := hq9
    have hP : va_P D vwCl (wC cI cS ad (u2 I 2 2 (((I 2 2)) + 1)) R) H := hP
    refine jz_if_ne (tgt := 11) C dX1_readRow_6 (by decide) (by omega) (fun h6 => ?_) (fun h6 => ?_)
    · skip
      refine jz_const C dX1_readRow_11 ?_
      refine lv_istore_n (lv' := [(3, .int (iI (0))), (0, .ref (ad 2)), (1, .ref (ad 15)), (2, .int (iI (r)))]) hx hb dX1_readRow_12 rfl hl (by decide) rfl (fun ls hl => ?_)
      have key13 : ∀ (n13 : Nat) (c : Nat) (I1 : Nat → Nat → Int) (R1 : Nat → Nat → Int) (hcw : (c : Int) ≤ I 15 11) (hS9 : rowS (u2 I 2 2 (I 2 2 + 1)) R r c = (1, I1, R1)) (hB1 : BI I1 R1) (hkp : keeps I I1), (I 15 11 - (c : Int) : Int) < n13 → ∀ (H : Heap) (lc : List Loc), va_P D vwCl (wC cI cS ad I1 R1) H → va_S A st.heap H lc → ∀ (ls : Array Slot), lv_has ls 4 [(3, .int (iI ((c : Int)))), (0, .ref (ad 2)), (1, .ref (ad 15)), (2, .int (iI (r)))] → W p l e rm_X1_readRow st mi ar bl mth cd H lc 0 0 Q (F0 mi 13 ls []) := by
        intro n13
        induction n13 with
        | zero => intro c I1 R1 hcw hS9 hB1 hkp hn9; exfalso; omega
        | succ n13 ih13 =>
          intro c I1 R1 hcw hS9 hB1 hkp hn9 H lc hP hS ls hl
          refine lv_iload_n hx hb dX1_readRow_13 rfl (lv_at hl 0 rfl) ?_
          have hw1 : I1 15 11 = I 15 11 := hkp 15 11 (by decide) (by decide)
          have hwi1 := hB1.wide
          refine lv_aload_n hx hb dX1_readRow_14 rfl (lv_at hl 2 rfl) ?_
          refine fg_U_wide C hin2 hE hP (v := I1 15 11) (List.mem_of_getElem? (i := 1) rfl) dX1_readRow_15 rfl ?_
          refine jz_icmp_ge (tgt := 48) C dX1_readRow_18 (by decide) (by omega) (fun h18 => ?_) (fun h18 => ?_)
          · skip
            refine jz_const C dX1_readRow_48 ?_
            have hk9 : k_X1_readRow I R r = (1, I1, R1) := by rw [k_X1_readRow, if_pos h59, show Int.toNat (I 15 11) = c by omega]; exact hS9
            exact hret _ (I1, R1) _ _ _ _ dX1_readRow_49 (by decide +kernel) ⟨by rw [hk9], by rw [hk9], by rw [hk9]⟩ hP hS
          · skip
            have hpl1 := hB1.place
            have hcd1 := hB1.code
            have hnx1 := hB1.nxt
            refine jz_sub (P := nx (I1 2 2) (I1 2 1) (R1 3) = 46) (fun hdot => ?_) (fun hdot => ?_)
            · skip
              have hpl1 := hB1.place
              have hcd1 := hB1.code
              have hnx1 := hB1.nxt
              refine lv_aload_n hx hb dX1_readRow_21 rfl (lv_at hl 1 rfl) ?_
              refine jz_bipush C dX1_readRow_22 (by decide +kernel) ?_
              refine jw_V C hl.1 (jpreV hE hP 1 2 rfl rfl) (c_X1_takesT (A := A) (jDC hD) 46 (show 0 ≤ (I1 2 2) ∧ (I1 2 2) ≤ (I1 2 1) ∧ (I1 2 1) ≤ 60 from (by omega)) hcd1 (by decide) (show nx (I1 2 2) (I1 2 1) (R1 3) = 46 from (by omega))) (cwV 1 C.2.2.2.2 gX1_readRow_X1_takes rfl rfl rfl (by decide +kernel) ⟨Nat.le_of_ble_eq_true rfl, Nat.le_of_ble_eq_true rfl⟩) (As := [.int (iI (46))]) (hn := rfl) (hst := rfl) (rest := []) (hW := Nat.le_of_ble_eq_true rfl) (hdg := dX1_readRow_24) (hf := ⟨Nat.le_of_ble_eq_true rfl, Nat.le_of_ble_eq_true rfl⟩) hS (fun v9 uq24 H lc hq9 hP hS => ?_)
              obtain rfl : v9 = some (.int (iI (1))) := hq9
              have hP : va_P D vwCl (wC cI cS ad (u2 I1 2 2 (((I1 2 2)) + 1)) R1) H := hP
              refine jz_if_ne (tgt := 42) C dX1_readRow_27 (by decide) (by omega) (fun h27 => ?_) (fun h27 => ?_)
              · skip
                refine jz_iinc (k := 0) (z := (c : Int) + 1) (lv' := [(3, .int (iI ((c : Int) + 1))), (0, .ref (ad 2)), (1, .ref (ad 15)), (2, .int (iI (r)))]) C dX1_readRow_42 hl rfl rfl (by decide) rfl (fun ls hl => ?_)
                refine lv_goto (tgt := 13) hx hb dX1_readRow_45 (by decide) ?_
                exact ih13 (c + 1) (u2 I1 2 2 (((I1 2 2)) + 1)) R1 (by omega) (by first | (rw [rowS_s hS9, ce, if_pos hdot]; done) | exact hx9) (by first | exact hB1.pl (by omega) | (rw [hI34, hR34]; exact (rp_ok hB1).2.1)) (by first | exact hkp.tr keeps.pl | (rw [hI34]; exact hkp.tr (rp_ok hB1).2.2)) (by omega) _ _ hP hS ls (lv_sub hl [0, 1, 2, 3] rfl)
              · exact absurd h27 (by decide)
            · skip
              have hpl1 := hB1.place
              have hcd1 := hB1.code
              have hnx1 := hB1.nxt
              refine lv_aload_n hx hb dX1_readRow_21 rfl (lv_at hl 1 rfl) ?_
              refine jz_bipush C dX1_readRow_22 (by decide +kernel) ?_
              refine jw_V C hl.1 (jpreV hE hP 1 2 rfl rfl) (c_X1_takesF (A := A) (jDC hD) 46 (show 0 ≤ (I1 2 2) ∧ (I1 2 2) ≤ (I1 2 1) ∧ (I1 2 1) ≤ 60 from (by omega)) hcd1 (by decide) (show ¬ nx (I1 2 2) (I1 2 1) (R1 3) = 46 from (by omega))) (cwV 1 C.2.2.2.2 gX1_readRow_X1_takes rfl rfl rfl (by decide +kernel) ⟨Nat.le_of_ble_eq_true rfl, Nat.le_of_ble_eq_true rfl⟩) (As := [.int (iI (46))]) (hn := rfl) (hst := rfl) (rest := []) (hW := Nat.le_of_ble_eq_true rfl) (hdg := dX1_readRow_24) (hf := ⟨Nat.le_of_ble_eq_true rfl, Nat.le_of_ble_eq_true rfl⟩) hS (fun v9 uq24 H lc hq9 hP hS => ?_)
              obtain rfl : v9 = some (.int (iI (0))) := hq9
              have hP : va_P D vwCl (wC cI cS ad I1 R1) H := hP
              refine jz_if_ne (tgt := 42) C dX1_readRow_27 (by decide) (by omega) (fun h27 => ?_) (fun h27 => ?_)
              · exact absurd h27 (by decide)
              · skip
                refine lv_aload_n hx hb dX1_readRow_30 rfl (lv_at hl 1 rfl) ?_
                refine lv_aload_n hx hb dX1_readRow_31 rfl (lv_at hl 2 rfl) ?_
                refine lv_iload_n hx hb dX1_readRow_32 rfl (lv_at hl 3 rfl) ?_
                refine lv_iload_n hx hb dX1_readRow_33 rfl (lv_at hl 0 rfl) ?_
                refine jw_V C hl.1 (jpreVT hE hP hT0 hS 1 2 rfl rfl) (c_X1_readPart (A := A) (jDC hD) r (c : Int) hB1 (show 0 ≤ r ∧ r < 4 from (by omega)) (show 0 ≤ (c : Int) ∧ (c : Int) < 6 from (by omega))) (cwV 3 C.2.2.2.2 gX1_readRow_X1_readPart rfl rfl rfl (by decide +kernel) ⟨Nat.le_of_ble_eq_true rfl, Nat.le_of_ble_eq_true rfl⟩) (As := [.ref (ad 15), .int (iI (r)), .int (iI ((c : Int)))]) (hn := rfl) (hst := rfl) (rest := []) (hW := Nat.le_of_ble_eq_true rfl) (hdg := dX1_readRow_34) (hf := ⟨Nat.le_of_ble_eq_true rfl, Nat.le_of_ble_eq_true rfl⟩) hS (fun v9 uq34 H lc hq9 hP hS => ?_)
                obtain ⟨I34, R34⟩ := uq34
                obtain ⟨hv9, hI9, hR9⟩ := hq9
                subst hv9
                have hI34 : I34 = (k_X1_readPart I1 R1 r (c : Int)).2.1 := hI9
                have hR34 : R34 = (k_X1_readPart I1 R1 r (c : Int)).2.2 := hR9
                have hP : va_P D vwCl (wC cI cS ad I34 R34) H := hP
                have hrp := (rp_ok (r := r) (c := (c : Int)) hB1).1
                refine jz_if_ne (tgt := 42) C dX1_readRow_37 (by decide) (by omega) (fun h37 => ?_) (fun h37 => ?_)
                · skip
                  have hx9 : rowS (u2 I 2 2 (I 2 2 + 1)) R r (c + 1) = (1, I34, R34) := by rw [rowS_s hS9, ce, if_neg hdot]; exact jS_e (hrp.resolve_left h37) hI34 hR34
                  refine jz_iinc (k := 0) (z := (c : Int) + 1) (lv' := [(3, .int (iI ((c : Int) + 1))), (0, .ref (ad 2)), (1, .ref (ad 15)), (2, .int (iI (r)))]) C dX1_readRow_42 hl rfl rfl (by decide) rfl (fun ls hl => ?_)
                  refine lv_goto (tgt := 13) hx hb dX1_readRow_45 (by decide) ?_
                  exact ih13 (c + 1) I34 R34 (by omega) (by first | (rw [rowS_s hS9, ce, if_pos hdot]; done) | exact hx9) (by first | exact hB1.pl (by omega) | (rw [hI34, hR34]; exact (rp_ok hB1).2.1)) (by first | exact hkp.tr keeps.pl | (rw [hI34]; exact hkp.tr (rp_ok hB1).2.2)) (by omega) _ _ hP hS ls (lv_sub hl [0, 1, 2, 3] rfl)
                · skip
                  have hx9 : rowS (u2 I 2 2 (I 2 2 + 1)) R r (c + 1) = (0, I34, R34) := by rw [rowS_s hS9, ce, if_neg hdot]; exact jS_e h37 hI34 hR34
                  refine jz_const C dX1_readRow_40 ?_
                  have hk9 : k_X1_readRow I R r = (0, I34, R34) := by rw [k_X1_readRow, if_pos h59]; exact (rowS_0 (c := c + 1) (by rw [hx9]) (Int.toNat (I 15 11)) (by omega)).trans hx9
                  exact hret _ (I34, R34) _ _ _ _ dX1_readRow_41 (by decide +kernel) ⟨by rw [hk9], by rw [hk9], by rw [hk9]⟩ hP hS
      exact key13 (Int.toNat (I 15 11 - (0 : Int)) + 1) 0 (u2 I 2 2 (((I 2 2)) + 1)) R (by omega) rfl (hB.pl (by omega)) keeps.pl (by omega) _ _ hP hS ls (lv_sub hl [0, 1, 2, 3] rfl)
    · exact absurd h6 (by decide)
  · skip
    refine lv_aload_n hx hb dX1_readRow_0 rfl (lv_at hl 0 rfl) ?_
    refine jz_bipush C dX1_readRow_1 (by decide +kernel) ?_
    refine jw_V C hl.1 (jpreV hE hP 1 2 rfl rfl) (c_X1_takesF (A := A) (jDC hD) 59 (show 0 ≤ (I 2 2) ∧ (I 2 2) ≤ (I 2 1) ∧ (I 2 1) ≤ 60 from (by omega)) hcd (by decide) (show ¬ nx (I 2 2) (I 2 1) (R 3) = 59 from (by omega))) (cwV 1 C.2.2.2.2 gX1_readRow_X1_takes rfl rfl rfl (by decide +kernel) ⟨Nat.le_of_ble_eq_true rfl, Nat.le_of_ble_eq_true rfl⟩) (As := [.int (iI (59))]) (hn := rfl) (hst := rfl) (rest := []) (hW := Nat.le_of_ble_eq_true rfl) (hdg := dX1_readRow_3) (hf := ⟨Nat.le_of_ble_eq_true rfl, Nat.le_of_ble_eq_true rfl⟩) hS (fun v9 uq3 H lc hq9 hP hS => ?_)
    obtain rfl : v9 = some (.int (iI (0))) := hq9
    have hP : va_P D vwCl (wC cI cS ad I R) H := hP
    refine jz_if_ne (tgt := 11) C dX1_readRow_6 (by decide) (by omega) (fun h6 => ?_) (fun h6 => ?_)
    · exact absurd h6 (by decide)
    · skip
      refine jz_const C dX1_readRow_9 ?_
      have hk9 : k_X1_readRow I R r = (0, I, R) := by rw [k_X1_readRow, if_neg h59]
      exact hret _ (I, R) _ _ _ _ dX1_readRow_10 (by decide +kernel) ⟨by rw [hk9], by rw [hk9], by rw [hk9]⟩ hP hS
def k_X1_readInto (I R : Nat → Nat → Int)  : Int × (Nat → Nat → Int) × (Nat → Nat → Int) := if nx (I 2 2) (I 2 1) (R 3) = 116 then (if 49 ≤ nx (I 2 2 + 1) (I 2 1) (R 3) ∧ nx (I 2 2 + 1) (I 2 1) (R 3) ≤ 52 then (if 50 ≤ nx (I 2 2 + 1 + 1) (I 2 1) (R 3) ∧ nx (I 2 2 + 1 + 1) (I 2 1) (R 3) ≤ 54 then (if (tS (u2 (u2 (u2 (u2 (u2 (u2 (u2 (u2 (u2 (u2 (u2 (u2 (u2 (u2 (u2 I 15 9 0) 15 13 0) 15 14 0) 15 15 0) 15 16 0) 15 17 0) 15 10 0) 15 11 0) 15 12 (0 * 0)) 2 2 (((I 2 2)) + 1)) 2 2 (((((I 2 2)) + 1)) + 1)) 2 2 (((((((I 2 2)) + 1)) + 1)) + 1)) 15 10 ((nx ((((I 2 2)) + 1)) ((I 2 1)) ((R 3))) - 48)) 15 11 ((nx ((((((I 2 2)) + 1)) + 1)) ((I 2 1)) ((R 3))) - 48)) 15 12 (((nx ((((I 2 2)) + 1)) ((I 2 1)) ((R 3))) - 48) * ((nx ((((((I 2 2)) + 1)) + 1)) ((I 2 1)) ((R 3))) - 48))) R (Int.toNat ((nx ((((I 2 2)) + 1)) ((I 2 1)) ((R 3))) - 48))).1 = 0 then ((0, (tS (u2 (u2 (u2 (u2 (u2 (u2 (u2 (u2 (u2 (u2 (u2 (u2 (u2 (u2 (u2 I 15 9 0) 15 13 0) 15 14 0) 15 15 0) 15 16 0) 15 17 0) 15 10 0) 15 11 0) 15 12 (0 * 0)) 2 2 (((I 2 2)) + 1)) 2 2 (((((I 2 2)) + 1)) + 1)) 2 2 (((((((I 2 2)) + 1)) + 1)) + 1)) 15 10 ((nx ((((I 2 2)) + 1)) ((I 2 1)) ((R 3))) - 48)) 15 11 ((nx ((((((I 2 2)) + 1)) + 1)) ((I 2 1)) ((R 3))) - 48)) 15 12 (((nx ((((I 2 2)) + 1)) ((I 2 1)) ((R 3))) - 48) * ((nx ((((((I 2 2)) + 1)) + 1)) ((I 2 1)) ((R 3))) - 48))) R (Int.toNat ((nx ((((I 2 2)) + 1)) ((I 2 1)) ((R 3))) - 48))).2.1, (tS (u2 (u2 (u2 (u2 (u2 (u2 (u2 (u2 (u2 (u2 (u2 (u2 (u2 (u2 (u2 I 15 9 0) 15 13 0) 15 14 0) 15 15 0) 15 16 0) 15 17 0) 15 10 0) 15 11 0) 15 12 (0 * 0)) 2 2 (((I 2 2)) + 1)) 2 2 (((((I 2 2)) + 1)) + 1)) 2 2 (((((((I 2 2)) + 1)) + 1)) + 1)) 15 10 ((nx ((((I 2 2)) + 1)) ((I 2 1)) ((R 3))) - 48)) 15 11 ((nx ((((((I 2 2)) + 1)) + 1)) ((I 2 1)) ((R 3))) - 48)) 15 12 (((nx ((((I 2 2)) + 1)) ((I 2 1)) ((R 3))) - 48) * ((nx ((((((I 2 2)) + 1)) + 1)) ((I 2 1)) ((R 3))) - 48))) R (Int.toNat ((nx ((((I 2 2)) + 1)) ((I 2 1)) ((R 3))) - 48))).2.2)) else (((if ((tS (u2 (u2 (u2 (u2 (u2 (u2 (u2 (u2 (u2 (u2 (u2 (u2 (u2 (u2 (u2 I 15 9 0) 15 13 0) 15 14 0) 15 15 0) 15 16 0) 15 17 0) 15 10 0) 15 11 0) 15 12 (0 * 0)) 2 2 (((I 2 2)) + 1)) 2 2 (((((I 2 2)) + 1)) + 1)) 2 2 (((((((I 2 2)) + 1)) + 1)) + 1)) 15 10 ((nx ((((I 2 2)) + 1)) ((I 2 1)) ((R 3))) - 48)) 15 11 ((nx ((((((I 2 2)) + 1)) + 1)) ((I 2 1)) ((R 3))) - 48)) 15 12 (((nx ((((I 2 2)) + 1)) ((I 2 1)) ((R 3))) - 48) * ((nx ((((((I 2 2)) + 1)) + 1)) ((I 2 1)) ((R 3))) - 48))) R (Int.toNat ((nx ((((I 2 2)) + 1)) ((I 2 1)) ((R 3))) - 48))).2.1) 2 2 = ((tS (u2 (u2 (u2 (u2 (u2 (u2 (u2 (u2 (u2 (u2 (u2 (u2 (u2 (u2 (u2 I 15 9 0) 15 13 0) 15 14 0) 15 15 0) 15 16 0) 15 17 0) 15 10 0) 15 11 0) 15 12 (0 * 0)) 2 2 (((I 2 2)) + 1)) 2 2 (((((I 2 2)) + 1)) + 1)) 2 2 (((((((I 2 2)) + 1)) + 1)) + 1)) 15 10 ((nx ((((I 2 2)) + 1)) ((I 2 1)) ((R 3))) - 48)) 15 11 ((nx ((((((I 2 2)) + 1)) + 1)) ((I 2 1)) ((R 3))) - 48)) 15 12 (((nx ((((I 2 2)) + 1)) ((I 2 1)) ((R 3))) - 48) * ((nx ((((((I 2 2)) + 1)) + 1)) ((I 2 1)) ((R 3))) - 48))) R (Int.toNat ((nx ((((I 2 2)) + 1)) ((I 2 1)) ((R 3))) - 48))).2.1) 2 1 then 1 else 0), (u2 (tS (u2 (u2 (u2 (u2 (u2 (u2 (u2 (u2 (u2 (u2 (u2 (u2 (u2 (u2 (u2 I 15 9 0) 15 13 0) 15 14 0) 15 15 0) 15 16 0) 15 17 0) 15 10 0) 15 11 0) 15 12 (0 * 0)) 2 2 (((I 2 2)) + 1)) 2 2 (((((I 2 2)) + 1)) + 1)) 2 2 (((((((I 2 2)) + 1)) + 1)) + 1)) 15 10 ((nx ((((I 2 2)) + 1)) ((I 2 1)) ((R 3))) - 48)) 15 11 ((nx ((((((I 2 2)) + 1)) + 1)) ((I 2 1)) ((R 3))) - 48)) 15 12 (((nx ((((I 2 2)) + 1)) ((I 2 1)) ((R 3))) - 48) * ((nx ((((((I 2 2)) + 1)) + 1)) ((I 2 1)) ((R 3))) - 48))) R (Int.toNat ((nx ((((I 2 2)) + 1)) ((I 2 1)) ((R 3))) - 48))).2.1 15 9 (if ((tS (u2 (u2 (u2 (u2 (u2 (u2 (u2 (u2 (u2 (u2 (u2 (u2 (u2 (u2 (u2 I 15 9 0) 15 13 0) 15 14 0) 15 15 0) 15 16 0) 15 17 0) 15 10 0) 15 11 0) 15 12 (0 * 0)) 2 2 (((I 2 2)) + 1)) 2 2 (((((I 2 2)) + 1)) + 1)) 2 2 (((((((I 2 2)) + 1)) + 1)) + 1)) 15 10 ((nx ((((I 2 2)) + 1)) ((I 2 1)) ((R 3))) - 48)) 15 11 ((nx ((((((I 2 2)) + 1)) + 1)) ((I 2 1)) ((R 3))) - 48)) 15 12 (((nx ((((I 2 2)) + 1)) ((I 2 1)) ((R 3))) - 48) * ((nx ((((((I 2 2)) + 1)) + 1)) ((I 2 1)) ((R 3))) - 48))) R (Int.toNat ((nx ((((I 2 2)) + 1)) ((I 2 1)) ((R 3))) - 48))).2.1) 2 2 = ((tS (u2 (u2 (u2 (u2 (u2 (u2 (u2 (u2 (u2 (u2 (u2 (u2 (u2 (u2 (u2 I 15 9 0) 15 13 0) 15 14 0) 15 15 0) 15 16 0) 15 17 0) 15 10 0) 15 11 0) 15 12 (0 * 0)) 2 2 (((I 2 2)) + 1)) 2 2 (((((I 2 2)) + 1)) + 1)) 2 2 (((((((I 2 2)) + 1)) + 1)) + 1)) 15 10 ((nx ((((I 2 2)) + 1)) ((I 2 1)) ((R 3))) - 48)) 15 11 ((nx ((((((I 2 2)) + 1)) + 1)) ((I 2 1)) ((R 3))) - 48)) 15 12 (((nx ((((I 2 2)) + 1)) ((I 2 1)) ((R 3))) - 48) * ((nx ((((((I 2 2)) + 1)) + 1)) ((I 2 1)) ((R 3))) - 48))) R (Int.toNat ((nx ((((I 2 2)) + 1)) ((I 2 1)) ((R 3))) - 48))).2.1) 2 1 then 1 else 0)), (tS (u2 (u2 (u2 (u2 (u2 (u2 (u2 (u2 (u2 (u2 (u2 (u2 (u2 (u2 (u2 I 15 9 0) 15 13 0) 15 14 0) 15 15 0) 15 16 0) 15 17 0) 15 10 0) 15 11 0) 15 12 (0 * 0)) 2 2 (((I 2 2)) + 1)) 2 2 (((((I 2 2)) + 1)) + 1)) 2 2 (((((((I 2 2)) + 1)) + 1)) + 1)) 15 10 ((nx ((((I 2 2)) + 1)) ((I 2 1)) ((R 3))) - 48)) 15 11 ((nx ((((((I 2 2)) + 1)) + 1)) ((I 2 1)) ((R 3))) - 48)) 15 12 (((nx ((((I 2 2)) + 1)) ((I 2 1)) ((R 3))) - 48) * ((nx ((((((I 2 2)) + 1)) + 1)) ((I 2 1)) ((R 3))) - 48))) R (Int.toNat ((nx ((((I 2 2)) + 1)) ((I 2 1)) ((R 3))) - 48))).2.2))) else ((0, (u2 (u2 (u2 (u2 (u2 (u2 (u2 (u2 (u2 (u2 (u2 I 15 9 0) 15 13 0) 15 14 0) 15 15 0) 15 16 0) 15 17 0) 15 10 0) 15 11 0) 15 12 (0 * 0)) 2 2 (((I 2 2)) + 1)) 2 2 (((((I 2 2)) + 1)) + 1)), R))) else ((0, (u2 (u2 (u2 (u2 (u2 (u2 (u2 (u2 (u2 (u2 I 15 9 0) 15 13 0) 15 14 0) 15 15 0) 15 16 0) 15 17 0) 15 10 0) 15 11 0) 15 12 (0 * 0)) 2 2 (((I 2 2)) + 1)), R))) else ((0, (u2 (u2 (u2 (u2 (u2 (u2 (u2 (u2 (u2 I 15 9 0) 15 13 0) 15 14 0) 15 15 0) 15 16 0) 15 17 0) 15 10 0) 15 11 0) 15 12 (0 * 0)), R))
abbrev rm_X1_readInto : Room := { frames := 5, cells := 0, slots := 0, locals := 123 }
set_option maxHeartbeats 4000000 in
set_option maxRecDepth 100000 in
theorem c_X1_readInto {l : Launch} {D : va_G} {cI cS : ClassId} {ad : Nat → Nat} {I R : Nat → Nat → Int} {A : Nat → Prop} (hD : va_D A (wC cI cS ad I R))    (hB : B0 I R): JV l yX1_readInto wsX1_readInto rm_X1_readInto (fun U => jB D cI cS (wC cI cS ad I R) U ∧ jT A U U.heap) A [.ref (ad 2), .ref (ad 15)] (fun v9 (u9 : (Nat → Nat → Int) × (Nat → Nat → Int)) => v9 = some (.int (iI (k_X1_readInto I R).1)) ∧ u9.1 = (k_X1_readInto I R).2.1 ∧ u9.2 = (k_X1_readInto I R).2.2) (fun u9 H => va_P D vwCl (wC cI cS ad u9.1 u9.2) H) := by
  refine JV.mkZ rfl (by decide +kernel) rfl (Nat.le_of_ble_eq_true rfl) ?_
  intro p e st mi ar bl mth cd Q ls C hB hl hret
  obtain ⟨⟨hE, hP⟩, hT0⟩ := hB
  have hx := C.1
  have hb := C.2.1
  have hl : lv_has ls 5 [(0, .ref (ad 2)), (1, .ref (ad 15))] := hl
  have hin1 : ∀ w ∈ wsX10, w ∈ wsX1_readInto := fun _ h => List.mem_cons_of_mem _ (List.mem_append_left _ (List.mem_append_right _ h))
  have hin2 : ∀ w ∈ wsX20, w ∈ wsX1_readInto := fun _ h => List.mem_cons_of_mem _ (List.mem_append_right _ h)
  suffices hgo : ∀ (H : Heap) (lc : List Loc), va_P D vwCl (wC cI cS ad I R) H → va_S A st.heap H lc → W p l e rm_X1_readInto st mi ar bl mth cd H lc 0 0 Q (F0 mi 0 ls []) from hgo _ _ hP va_S.rf
  clear hP
  intro H lc hP hS
  have hpl := hB.1
  have hcd := hB.2
  have hnx := hB.nxt
  refine lv_aload_n hx hb dX1_readInto_0 rfl (lv_at hl 1 rfl) ?_
  refine jw_V C hl.1 (jpreV hE hP 2 15 rfl rfl) (c_X2_clear (A := A) (jDC hD)  ) (cwV 0 C.2.2.2.2 gX1_readInto_X2_clear rfl rfl rfl (by decide +kernel) ⟨Nat.le_of_ble_eq_true rfl, Nat.le_of_ble_eq_true rfl⟩) (As := []) (hn := rfl) (hst := rfl) (rest := []) (hW := Nat.le_of_ble_eq_true rfl) (hdg := dX1_readInto_1) (hf := ⟨Nat.le_of_ble_eq_true rfl, Nat.le_of_ble_eq_true rfl⟩) hS (fun v9 uq1 H lc hq9 hP hS => ?_)
  obtain rfl : v9 = none := hq9
  have hP : va_P D vwCl (wC cI cS ad (u2 (u2 (u2 (u2 (u2 (u2 (u2 (u2 (u2 I 15 9 0) 15 13 0) 15 14 0) 15 15 0) 15 16 0) 15 17 0) 15 10 0) 15 11 0) 15 12 (0 * 0)) R) H := hP
  refine jz_sub (P := nx (I 2 2) (I 2 1) (R 3) = 116) (fun h116 => ?_) (fun h116 => ?_)
  · skip
    refine lv_aload_n hx hb dX1_readInto_4 rfl (lv_at hl 0 rfl) ?_
    refine jz_bipush C dX1_readInto_5 (by decide +kernel) ?_
    refine jw_V C hl.1 (jpreV hE hP 1 2 rfl rfl) (c_X1_takesT (A := A) (jDC hD) 116 (show 0 ≤ (I 2 2) ∧ (I 2 2) ≤ (I 2 1) ∧ (I 2 1) ≤ 60 from (by omega)) hcd (by decide) (show nx (I 2 2) (I 2 1) (R 3) = 116 from (by omega))) (cwV 1 C.2.2.2.2 gX1_readInto_X1_takes rfl rfl rfl (by decide +kernel) ⟨Nat.le_of_ble_eq_true rfl, Nat.le_of_ble_eq_true rfl⟩) (As := [.int (iI (116))]) (hn := rfl) (hst := rfl) (rest := []) (hW := Nat.le_of_ble_eq_true rfl) (hdg := dX1_readInto_7) (hf := ⟨Nat.le_of_ble_eq_true rfl, Nat.le_of_ble_eq_true rfl⟩) hS (fun v9 uq7 H lc hq9 hP hS => ?_)
    obtain rfl : v9 = some (.int (iI (1))) := hq9
    have hP : va_P D vwCl (wC cI cS ad (u2 (u2 (u2 (u2 (u2 (u2 (u2 (u2 (u2 (u2 I 15 9 0) 15 13 0) 15 14 0) 15 15 0) 15 16 0) 15 17 0) 15 10 0) 15 11 0) 15 12 (0 * 0)) 2 2 (((I 2 2)) + 1)) R) H := hP
    refine jz_if_ne (tgt := 15) C dX1_readInto_10 (by decide) (by omega) (fun h10 => ?_) (fun h10 => ?_)
    · skip
      have hlt1 := nx_lt (p := I 2 2) (n := I 2 1) (cd := R 3) (by omega)
      refine jz_sub (P := 49 ≤ nx (I 2 2 + 1) (I 2 1) (R 3) ∧ nx (I 2 2 + 1) (I 2 1) (R 3) ≤ 52) (fun hd1 => ?_) (fun hd1 => ?_)
      · skip
        have hlt1 := nx_lt (p := I 2 2) (n := I 2 1) (cd := R 3) (by omega)
        refine lv_aload_n hx hb dX1_readInto_15 rfl (lv_at hl 0 rfl) ?_
        refine jz_const C dX1_readInto_16 ?_
        refine jz_const C dX1_readInto_17 ?_
        refine jw_V C hl.1 (jpreV hE hP 1 2 rfl rfl) (c_X1_digitT (A := A) (jDC hD) 1 4 (show 0 ≤ (((I 2 2)) + 1) ∧ (((I 2 2)) + 1) ≤ (I 2 1) ∧ (I 2 1) ≤ 60 from (by omega)) hcd (by decide) (show 48 + 1 ≤ nx (((I 2 2)) + 1) (I 2 1) (R 3) ∧ nx (((I 2 2)) + 1) (I 2 1) (R 3) ≤ 48 + 4 from (by omega))) (cwV 2 C.2.2.2.2 gX1_readInto_X1_digit rfl rfl rfl (by decide +kernel) ⟨Nat.le_of_ble_eq_true rfl, Nat.le_of_ble_eq_true rfl⟩) (As := [.int (iI (1)), .int (iI (4))]) (hn := rfl) (hst := rfl) (rest := []) (hW := Nat.le_of_ble_eq_true rfl) (hdg := dX1_readInto_18) (hf := ⟨Nat.le_of_ble_eq_true rfl, Nat.le_of_ble_eq_true rfl⟩) hS (fun v9 uq18 H lc hq9 hP hS => ?_)
        obtain rfl : v9 = some (.int (iI ((nx ((((I 2 2)) + 1)) ((I 2 1)) ((R 3))) - 48))) := hq9
        have hP : va_P D vwCl (wC cI cS ad (u2 (u2 (u2 (u2 (u2 (u2 (u2 (u2 (u2 (u2 (u2 I 15 9 0) 15 13 0) 15 14 0) 15 15 0) 15 16 0) 15 17 0) 15 10 0) 15 11 0) 15 12 (0 * 0)) 2 2 (((I 2 2)) + 1)) 2 2 (((((I 2 2)) + 1)) + 1)) R) H := hP
        refine lv_istore_n (lv' := [(2, .int (iI ((nx ((((I 2 2)) + 1)) ((I 2 1)) ((R 3))) - 48))), (0, .ref (ad 2)), (1, .ref (ad 15))]) hx hb dX1_readInto_21 rfl hl (by decide) rfl (fun ls hl => ?_)
        refine lv_iload_n hx hb dX1_readInto_22 rfl (lv_at hl 0 rfl) ?_
        refine jz_const C dX1_readInto_23 ?_
        refine jz_icmp_ne (tgt := 31) C dX1_readInto_24 (by decide) (by omega) (fun h24 => ?_) (fun h24 => ?_)
        · skip
          have hlt2 := nx_lt2 hd1 (by omega)
          refine jz_sub (P := 50 ≤ nx (I 2 2 + 1 + 1) (I 2 1) (R 3) ∧ nx (I 2 2 + 1 + 1) (I 2 1) (R 3) ≤ 54) (fun hd2 => ?_) (fun hd2 => ?_)
          · skip
            have hlt2 := nx_lt2 hd1 (by omega)
            refine lv_aload_n hx hb dX1_readInto_31 rfl (lv_at hl 1 rfl) ?_
            refine jz_const C dX1_readInto_32 ?_
            refine jz_bipush C dX1_readInto_33 (by decide +kernel) ?_
            refine jw_V C hl.1 (jpreV hE hP 1 2 rfl rfl) (c_X1_digitT (A := A) (jDC hD) 2 6 (show 0 ≤ (((((I 2 2)) + 1)) + 1) ∧ (((((I 2 2)) + 1)) + 1) ≤ (I 2 1) ∧ (I 2 1) ≤ 60 from (by omega)) hcd (by decide) (show 48 + 2 ≤ nx (((((I 2 2)) + 1)) + 1) (I 2 1) (R 3) ∧ nx (((((I 2 2)) + 1)) + 1) (I 2 1) (R 3) ≤ 48 + 6 from (by omega))) (cwV 2 C.2.2.2.2 gX1_readInto_X1_digit rfl rfl rfl (by decide +kernel) ⟨Nat.le_of_ble_eq_true rfl, Nat.le_of_ble_eq_true rfl⟩) (As := [.int (iI (2)), .int (iI (6))]) (hn := rfl) (hst := rfl) (rest := []) (hW := Nat.le_of_ble_eq_true rfl) (hdg := dX1_readInto_35) (hf := ⟨Nat.le_of_ble_eq_true rfl, Nat.le_of_ble_eq_true rfl⟩) hS (fun v9 uq35 H lc hq9 hP hS => ?_)
            obtain rfl : v9 = some (.int (iI ((nx ((((((I 2 2)) + 1)) + 1)) ((I 2 1)) ((R 3))) - 48))) := hq9
            have hP : va_P D vwCl (wC cI cS ad (u2 (u2 (u2 (u2 (u2 (u2 (u2 (u2 (u2 (u2 (u2 (u2 I 15 9 0) 15 13 0) 15 14 0) 15 15 0) 15 16 0) 15 17 0) 15 10 0) 15 11 0) 15 12 (0 * 0)) 2 2 (((I 2 2)) + 1)) 2 2 (((((I 2 2)) + 1)) + 1)) 2 2 (((((((I 2 2)) + 1)) + 1)) + 1)) R) H := hP
            refine lv_istore_n (lv' := [(3, .int (iI ((nx ((((((I 2 2)) + 1)) + 1)) ((I 2 1)) ((R 3))) - 48))), (2, .int (iI ((nx ((((I 2 2)) + 1)) ((I 2 1)) ((R 3))) - 48))), (0, .ref (ad 2)), (1, .ref (ad 15))]) hx hb dX1_readInto_38 rfl hl (by decide) rfl (fun ls hl => ?_)
            refine lv_iload_n hx hb dX1_readInto_39 rfl (lv_at hl 0 rfl) ?_
            refine jz_const C dX1_readInto_40 ?_
            refine jz_icmp_ne (tgt := 46) C dX1_readInto_41 (by decide) (by omega) (fun h41 => ?_) (fun h41 => ?_)
            · skip
              have hlt3 := nx_lt2 hd2 (by omega)
              refine lv_aload_n hx hb dX1_readInto_46 rfl (lv_at hl 3 rfl) ?_
              refine lv_iload_n hx hb dX1_readInto_47 rfl (lv_at hl 1 rfl) ?_
              refine lv_iload_n hx hb dX1_readInto_48 rfl (lv_at hl 0 rfl) ?_
              refine jw_V C hl.1 (jpreV hE hP 2 15 rfl rfl) (c_X2_measure (A := A) (jDC hD) ((nx ((((I 2 2)) + 1)) ((I 2 1)) ((R 3))) - 48) ((nx ((((((I 2 2)) + 1)) + 1)) ((I 2 1)) ((R 3))) - 48) ) (cwV 2 C.2.2.2.2 gX1_readInto_X2_measure rfl rfl rfl (by decide +kernel) ⟨Nat.le_of_ble_eq_true rfl, Nat.le_of_ble_eq_true rfl⟩) (As := [.int (iI ((nx ((((I 2 2)) + 1)) ((I 2 1)) ((R 3))) - 48)), .int (iI ((nx ((((((I 2 2)) + 1)) + 1)) ((I 2 1)) ((R 3))) - 48))]) (hn := rfl) (hst := rfl) (rest := []) (hW := Nat.le_of_ble_eq_true rfl) (hdg := dX1_readInto_49) (hf := ⟨Nat.le_of_ble_eq_true rfl, Nat.le_of_ble_eq_true rfl⟩) hS (fun v9 uq49 H lc hq9 hP hS => ?_)
              obtain rfl : v9 = none := hq9
              have hP : va_P D vwCl (wC cI cS ad (u2 (u2 (u2 (u2 (u2 (u2 (u2 (u2 (u2 (u2 (u2 (u2 (u2 (u2 (u2 I 15 9 0) 15 13 0) 15 14 0) 15 15 0) 15 16 0) 15 17 0) 15 10 0) 15 11 0) 15 12 (0 * 0)) 2 2 (((I 2 2)) + 1)) 2 2 (((((I 2 2)) + 1)) + 1)) 2 2 (((((((I 2 2)) + 1)) + 1)) + 1)) 15 10 ((nx ((((I 2 2)) + 1)) ((I 2 1)) ((R 3))) - 48)) 15 11 ((nx ((((((I 2 2)) + 1)) + 1)) ((I 2 1)) ((R 3))) - 48)) 15 12 (((nx ((((I 2 2)) + 1)) ((I 2 1)) ((R 3))) - 48) * ((nx ((((((I 2 2)) + 1)) + 1)) ((I 2 1)) ((R 3))) - 48))) R) H := hP
              have hBI : BI (u2 (u2 (u2 (u2 (u2 (u2 (u2 (u2 (u2 (u2 (u2 (u2 (u2 (u2 (u2 I 15 9 0) 15 13 0) 15 14 0) 15 15 0) 15 16 0) 15 17 0) 15 10 0) 15 11 0) 15 12 (0 * 0)) 2 2 (((I 2 2)) + 1)) 2 2 (((((I 2 2)) + 1)) + 1)) 2 2 (((((((I 2 2)) + 1)) + 1)) + 1)) 15 10 ((nx ((((I 2 2)) + 1)) ((I 2 1)) ((R 3))) - 48)) 15 11 ((nx ((((((I 2 2)) + 1)) + 1)) ((I 2 1)) ((R 3))) - 48)) 15 12 (((nx ((((I 2 2)) + 1)) ((I 2 1)) ((R 3))) - 48) * ((nx ((((((I 2 2)) + 1)) + 1)) ((I 2 1)) ((R 3))) - 48))) R := ⟨⟨by show 0 ≤ I 2 2 + 1 + 1 + 1; omega, by show I 2 2 + 1 + 1 + 1 ≤ I 2 1; omega, hpl.2.2⟩, hcd, ⟨by show (0 : Int) ≤ 0; omega, by show (0 : Int) ≤ 4; omega⟩, ⟨by show (0 : Int) ≤ 0; omega, by show (0 : Int) ≤ 6; omega⟩, ⟨by show 0 ≤ ((nx ((((I 2 2)) + 1)) ((I 2 1)) ((R 3))) - 48); omega, by show ((nx ((((I 2 2)) + 1)) ((I 2 1)) ((R 3))) - 48) ≤ 4; omega⟩, ⟨by show 0 ≤ ((nx ((((((I 2 2)) + 1)) + 1)) ((I 2 1)) ((R 3))) - 48); omega, by show ((nx ((((((I 2 2)) + 1)) + 1)) ((I 2 1)) ((R 3))) - 48) ≤ 6; omega⟩⟩
              refine jz_const C dX1_readInto_52 ?_
              refine lv_istore (lv' := [(4, .int (iI (0))), (3, .int (iI ((nx ((((((I 2 2)) + 1)) + 1)) ((I 2 1)) ((R 3))) - 48))), (2, .int (iI ((nx ((((I 2 2)) + 1)) ((I 2 1)) ((R 3))) - 48))), (0, .ref (ad 2)), (1, .ref (ad 15))]) hx hb dX1_readInto_53 hl (by decide) rfl (fun ls hl => ?_)
              have key55 : ∀ (n55 : Nat) (r : Nat) (I1 : Nat → Nat → Int) (R1 : Nat → Nat → Int) (hrh : (r : Int) ≤ nx (I 2 2 + 1) (I 2 1) (R 3) - 48) (hS9 : tS (u2 (u2 (u2 (u2 (u2 (u2 (u2 (u2 (u2 (u2 (u2 (u2 (u2 (u2 (u2 I 15 9 0) 15 13 0) 15 14 0) 15 15 0) 15 16 0) 15 17 0) 15 10 0) 15 11 0) 15 12 (0 * 0)) 2 2 (((I 2 2)) + 1)) 2 2 (((((I 2 2)) + 1)) + 1)) 2 2 (((((((I 2 2)) + 1)) + 1)) + 1)) 15 10 ((nx ((((I 2 2)) + 1)) ((I 2 1)) ((R 3))) - 48)) 15 11 ((nx ((((((I 2 2)) + 1)) + 1)) ((I 2 1)) ((R 3))) - 48)) 15 12 (((nx ((((I 2 2)) + 1)) ((I 2 1)) ((R 3))) - 48) * ((nx ((((((I 2 2)) + 1)) + 1)) ((I 2 1)) ((R 3))) - 48))) R r = (1, I1, R1)) (hB1 : BI I1 R1), (nx (I 2 2 + 1) (I 2 1) (R 3) - 48 - (r : Int) : Int) < n55 → ∀ (H : Heap) (lc : List Loc), va_P D vwCl (wC cI cS ad I1 R1) H → va_S A st.heap H lc → ∀ (ls : Array Slot), lv_has ls 5 [(4, .int (iI ((r : Int)))), (3, .int (iI ((nx ((((((I 2 2)) + 1)) + 1)) ((I 2 1)) ((R 3))) - 48))), (2, .int (iI ((nx ((((I 2 2)) + 1)) ((I 2 1)) ((R 3))) - 48))), (0, .ref (ad 2)), (1, .ref (ad 15))] → W p l e rm_X1_readInto st mi ar bl mth cd H lc 0 0 Q (F0 mi 55 ls []) := by
                intro n55
                induction n55 with
                | zero => intro r I1 R1 hrh hS9 hB1 hn9; exfalso; omega
                | succ n55 ih55 =>
                  intro r I1 R1 hrh hS9 hB1 hn9 H lc hP hS ls hl
                  refine lv_iload hx hb dX1_readInto_55 (lv_at hl 0 rfl) ?_
                  refine lv_iload_n hx hb dX1_readInto_57 rfl (lv_at hl 2 rfl) ?_
                  refine jz_icmp_ge (tgt := 79) C dX1_readInto_58 (by decide) (by omega) (fun h58 => ?_) (fun h58 => ?_)
                  · skip
                    have hrn : r = Int.toNat ((nx ((((I 2 2)) + 1)) ((I 2 1)) ((R 3))) - 48) := by omega
                    have hS9r : (tS (u2 (u2 (u2 (u2 (u2 (u2 (u2 (u2 (u2 (u2 (u2 (u2 (u2 (u2 (u2 I 15 9 0) 15 13 0) 15 14 0) 15 15 0) 15 16 0) 15 17 0) 15 10 0) 15 11 0) 15 12 (0 * 0)) 2 2 (((I 2 2)) + 1)) 2 2 (((((I 2 2)) + 1)) + 1)) 2 2 (((((((I 2 2)) + 1)) + 1)) + 1)) 15 10 ((nx ((((I 2 2)) + 1)) ((I 2 1)) ((R 3))) - 48)) 15 11 ((nx ((((((I 2 2)) + 1)) + 1)) ((I 2 1)) ((R 3))) - 48)) 15 12 (((nx ((((I 2 2)) + 1)) ((I 2 1)) ((R 3))) - 48) * ((nx ((((((I 2 2)) + 1)) + 1)) ((I 2 1)) ((R 3))) - 48))) R (Int.toNat ((nx ((((I 2 2)) + 1)) ((I 2 1)) ((R 3))) - 48))) = (1, I1, R1) := by rw [← hrn]; exact hS9
                    have hne9 : ¬ (tS (u2 (u2 (u2 (u2 (u2 (u2 (u2 (u2 (u2 (u2 (u2 (u2 (u2 (u2 (u2 I 15 9 0) 15 13 0) 15 14 0) 15 15 0) 15 16 0) 15 17 0) 15 10 0) 15 11 0) 15 12 (0 * 0)) 2 2 (((I 2 2)) + 1)) 2 2 (((((I 2 2)) + 1)) + 1)) 2 2 (((((((I 2 2)) + 1)) + 1)) + 1)) 15 10 ((nx ((((I 2 2)) + 1)) ((I 2 1)) ((R 3))) - 48)) 15 11 ((nx ((((((I 2 2)) + 1)) + 1)) ((I 2 1)) ((R 3))) - 48)) 15 12 (((nx ((((I 2 2)) + 1)) ((I 2 1)) ((R 3))) - 48) * ((nx ((((((I 2 2)) + 1)) + 1)) ((I 2 1)) ((R 3))) - 48))) R (Int.toNat ((nx ((((I 2 2)) + 1)) ((I 2 1)) ((R 3))) - 48))).1 = 0 := by rw [hS9r]; exact (show ¬ (1 : Int) = 0 by decide)
                    have hBX := hB1
                    have hg9 : I1 = (tS (u2 (u2 (u2 (u2 (u2 (u2 (u2 (u2 (u2 (u2 (u2 (u2 (u2 (u2 (u2 I 15 9 0) 15 13 0) 15 14 0) 15 15 0) 15 16 0) 15 17 0) 15 10 0) 15 11 0) 15 12 (0 * 0)) 2 2 (((I 2 2)) + 1)) 2 2 (((((I 2 2)) + 1)) + 1)) 2 2 (((((((I 2 2)) + 1)) + 1)) + 1)) 15 10 ((nx ((((I 2 2)) + 1)) ((I 2 1)) ((R 3))) - 48)) 15 11 ((nx ((((((I 2 2)) + 1)) + 1)) ((I 2 1)) ((R 3))) - 48)) 15 12 (((nx ((((I 2 2)) + 1)) ((I 2 1)) ((R 3))) - 48) * ((nx ((((((I 2 2)) + 1)) + 1)) ((I 2 1)) ((R 3))) - 48))) R (Int.toNat ((nx ((((I 2 2)) + 1)) ((I 2 1)) ((R 3))) - 48))).2.1 := by rw [hS9r]
                    rw [hg9] at hP
                    have hg9 : R1 = (tS (u2 (u2 (u2 (u2 (u2 (u2 (u2 (u2 (u2 (u2 (u2 (u2 (u2 (u2 (u2 I 15 9 0) 15 13 0) 15 14 0) 15 15 0) 15 16 0) 15 17 0) 15 10 0) 15 11 0) 15 12 (0 * 0)) 2 2 (((I 2 2)) + 1)) 2 2 (((((I 2 2)) + 1)) + 1)) 2 2 (((((((I 2 2)) + 1)) + 1)) + 1)) 15 10 ((nx ((((I 2 2)) + 1)) ((I 2 1)) ((R 3))) - 48)) 15 11 ((nx ((((((I 2 2)) + 1)) + 1)) ((I 2 1)) ((R 3))) - 48)) 15 12 (((nx ((((I 2 2)) + 1)) ((I 2 1)) ((R 3))) - 48) * ((nx ((((((I 2 2)) + 1)) + 1)) ((I 2 1)) ((R 3))) - 48))) R (Int.toNat ((nx ((((I 2 2)) + 1)) ((I 2 1)) ((R 3))) - 48))).2.2 := by rw [hS9r]
                    rw [hg9] at hP
                    have hplX := (show BI (tS (u2 (u2 (u2 (u2 (u2 (u2 (u2 (u2 (u2 (u2 (u2 (u2 (u2 (u2 (u2 I 15 9 0) 15 13 0) 15 14 0) 15 15 0) 15 16 0) 15 17 0) 15 10 0) 15 11 0) 15 12 (0 * 0)) 2 2 (((I 2 2)) + 1)) 2 2 (((((I 2 2)) + 1)) + 1)) 2 2 (((((((I 2 2)) + 1)) + 1)) + 1)) 15 10 ((nx ((((I 2 2)) + 1)) ((I 2 1)) ((R 3))) - 48)) 15 11 ((nx ((((((I 2 2)) + 1)) + 1)) ((I 2 1)) ((R 3))) - 48)) 15 12 (((nx ((((I 2 2)) + 1)) ((I 2 1)) ((R 3))) - 48) * ((nx ((((((I 2 2)) + 1)) + 1)) ((I 2 1)) ((R 3))) - 48))) R (Int.toNat ((nx ((((I 2 2)) + 1)) ((I 2 1)) ((R 3))) - 48))).2.1 (tS (u2 (u2 (u2 (u2 (u2 (u2 (u2 (u2 (u2 (u2 (u2 (u2 (u2 (u2 (u2 I 15 9 0) 15 13 0) 15 14 0) 15 15 0) 15 16 0) 15 17 0) 15 10 0) 15 11 0) 15 12 (0 * 0)) 2 2 (((I 2 2)) + 1)) 2 2 (((((I 2 2)) + 1)) + 1)) 2 2 (((((((I 2 2)) + 1)) + 1)) + 1)) 15 10 ((nx ((((I 2 2)) + 1)) ((I 2 1)) ((R 3))) - 48)) 15 11 ((nx ((((((I 2 2)) + 1)) + 1)) ((I 2 1)) ((R 3))) - 48)) 15 12 (((nx ((((I 2 2)) + 1)) ((I 2 1)) ((R 3))) - 48) * ((nx ((((((I 2 2)) + 1)) + 1)) ((I 2 1)) ((R 3))) - 48))) R (Int.toNat ((nx ((((I 2 2)) + 1)) ((I 2 1)) ((R 3))) - 48))).2.2 from by rw [← (show I1 = (tS (u2 (u2 (u2 (u2 (u2 (u2 (u2 (u2 (u2 (u2 (u2 (u2 (u2 (u2 (u2 I 15 9 0) 15 13 0) 15 14 0) 15 15 0) 15 16 0) 15 17 0) 15 10 0) 15 11 0) 15 12 (0 * 0)) 2 2 (((I 2 2)) + 1)) 2 2 (((((I 2 2)) + 1)) + 1)) 2 2 (((((((I 2 2)) + 1)) + 1)) + 1)) 15 10 ((nx ((((I 2 2)) + 1)) ((I 2 1)) ((R 3))) - 48)) 15 11 ((nx ((((((I 2 2)) + 1)) + 1)) ((I 2 1)) ((R 3))) - 48)) 15 12 (((nx ((((I 2 2)) + 1)) ((I 2 1)) ((R 3))) - 48) * ((nx ((((((I 2 2)) + 1)) + 1)) ((I 2 1)) ((R 3))) - 48))) R (Int.toNat ((nx ((((I 2 2)) + 1)) ((I 2 1)) ((R 3))) - 48))).2.1 from by rw [hS9r]), ← (show R1 = (tS (u2 (u2 (u2 (u2 (u2 (u2 (u2 (u2 (u2 (u2 (u2 (u2 (u2 (u2 (u2 I 15 9 0) 15 13 0) 15 14 0) 15 15 0) 15 16 0) 15 17 0) 15 10 0) 15 11 0) 15 12 (0 * 0)) 2 2 (((I 2 2)) + 1)) 2 2 (((((I 2 2)) + 1)) + 1)) 2 2 (((((((I 2 2)) + 1)) + 1)) + 1)) 15 10 ((nx ((((I 2 2)) + 1)) ((I 2 1)) ((R 3))) - 48)) 15 11 ((nx ((((((I 2 2)) + 1)) + 1)) ((I 2 1)) ((R 3))) - 48)) 15 12 (((nx ((((I 2 2)) + 1)) ((I 2 1)) ((R 3))) - 48) * ((nx ((((((I 2 2)) + 1)) + 1)) ((I 2 1)) ((R 3))) - 48))) R (Int.toNat ((nx ((((I 2 2)) + 1)) ((I 2 1)) ((R 3))) - 48))).2.2 from by rw [hS9r])]; exact hB1).place
                    refine lv_aload_n hx hb dX1_readInto_79 rfl (lv_at hl 4 rfl) ?_
                    refine lv_aload_n hx hb dX1_readInto_80 rfl (lv_at hl 3 rfl) ?_
                    refine fg_D_place C hin1 hE hP (v := ((tS (u2 (u2 (u2 (u2 (u2 (u2 (u2 (u2 (u2 (u2 (u2 (u2 (u2 (u2 (u2 I 15 9 0) 15 13 0) 15 14 0) 15 15 0) 15 16 0) 15 17 0) 15 10 0) 15 11 0) 15 12 (0 * 0)) 2 2 (((I 2 2)) + 1)) 2 2 (((((I 2 2)) + 1)) + 1)) 2 2 (((((((I 2 2)) + 1)) + 1)) + 1)) 15 10 ((nx ((((I 2 2)) + 1)) ((I 2 1)) ((R 3))) - 48)) 15 11 ((nx ((((((I 2 2)) + 1)) + 1)) ((I 2 1)) ((R 3))) - 48)) 15 12 (((nx ((((I 2 2)) + 1)) ((I 2 1)) ((R 3))) - 48) * ((nx ((((((I 2 2)) + 1)) + 1)) ((I 2 1)) ((R 3))) - 48))) R (Int.toNat ((nx ((((I 2 2)) + 1)) ((I 2 1)) ((R 3))) - 48))).2.1) 2 2) (List.mem_of_getElem? (i := 1) rfl) dX1_readInto_81 rfl ?_
                    refine lv_aload_n hx hb dX1_readInto_84 rfl (lv_at hl 3 rfl) ?_
                    refine fg_D_size C hin1 hE hP (v := ((tS (u2 (u2 (u2 (u2 (u2 (u2 (u2 (u2 (u2 (u2 (u2 (u2 (u2 (u2 (u2 I 15 9 0) 15 13 0) 15 14 0) 15 15 0) 15 16 0) 15 17 0) 15 10 0) 15 11 0) 15 12 (0 * 0)) 2 2 (((I 2 2)) + 1)) 2 2 (((((I 2 2)) + 1)) + 1)) 2 2 (((((((I 2 2)) + 1)) + 1)) + 1)) 15 10 ((nx ((((I 2 2)) + 1)) ((I 2 1)) ((R 3))) - 48)) 15 11 ((nx ((((((I 2 2)) + 1)) + 1)) ((I 2 1)) ((R 3))) - 48)) 15 12 (((nx ((((I 2 2)) + 1)) ((I 2 1)) ((R 3))) - 48) * ((nx ((((((I 2 2)) + 1)) + 1)) ((I 2 1)) ((R 3))) - 48))) R (Int.toNat ((nx ((((I 2 2)) + 1)) ((I 2 1)) ((R 3))) - 48))).2.1) 2 1) (List.mem_of_getElem? (i := 2) rfl) dX1_readInto_85 rfl ?_
                    refine jz_cut (X := ∀ ls : Array Slot, lv_has ls 5 [(4, .int (iI ((r : Int)))), (3, .int (iI ((nx ((((((I 2 2)) + 1)) + 1)) ((I 2 1)) ((R 3))) - 48))), (2, .int (iI ((nx ((((I 2 2)) + 1)) ((I 2 1)) ((R 3))) - 48))), (0, .ref (ad 2)), (1, .ref (ad 15))] → W p l e rm_X1_readInto st mi ar bl mth cd H lc 0 0 Q (F0 mi 96 ls [.int (iI (if ((tS (u2 (u2 (u2 (u2 (u2 (u2 (u2 (u2 (u2 (u2 (u2 (u2 (u2 (u2 (u2 I 15 9 0) 15 13 0) 15 14 0) 15 15 0) 15 16 0) 15 17 0) 15 10 0) 15 11 0) 15 12 (0 * 0)) 2 2 (((I 2 2)) + 1)) 2 2 (((((I 2 2)) + 1)) + 1)) 2 2 (((((((I 2 2)) + 1)) + 1)) + 1)) 15 10 ((nx ((((I 2 2)) + 1)) ((I 2 1)) ((R 3))) - 48)) 15 11 ((nx ((((((I 2 2)) + 1)) + 1)) ((I 2 1)) ((R 3))) - 48)) 15 12 (((nx ((((I 2 2)) + 1)) ((I 2 1)) ((R 3))) - 48) * ((nx ((((((I 2 2)) + 1)) + 1)) ((I 2 1)) ((R 3))) - 48))) R (Int.toNat ((nx ((((I 2 2)) + 1)) ((I 2 1)) ((R 3))) - 48))).2.1) 2 2 = ((tS (u2 (u2 (u2 (u2 (u2 (u2 (u2 (u2 (u2 (u2 (u2 (u2 (u2 (u2 (u2 I 15 9 0) 15 13 0) 15 14 0) 15 15 0) 15 16 0) 15 17 0) 15 10 0) 15 11 0) 15 12 (0 * 0)) 2 2 (((I 2 2)) + 1)) 2 2 (((((I 2 2)) + 1)) + 1)) 2 2 (((((((I 2 2)) + 1)) + 1)) + 1)) 15 10 ((nx ((((I 2 2)) + 1)) ((I 2 1)) ((R 3))) - 48)) 15 11 ((nx ((((((I 2 2)) + 1)) + 1)) ((I 2 1)) ((R 3))) - 48)) 15 12 (((nx ((((I 2 2)) + 1)) ((I 2 1)) ((R 3))) - 48) * ((nx ((((((I 2 2)) + 1)) + 1)) ((I 2 1)) ((R 3))) - 48))) R (Int.toNat ((nx ((((I 2 2)) + 1)) ((I 2 1)) ((R 3))) - 48))).2.1) 2 1 then 1 else 0)), .ref (ad 15)])) (fun ls hl => ?_) (fun hj88 => ?_)
                    · skip
                      refine fp_U_stands C hin2 hE hP (jDC hD) hS (by split <;> simp) (List.mem_of_getElem? (i := 3) rfl) dX1_readInto_96 (fun H lc hP hS => ?_)
                      refine lv_aload_n hx hb dX1_readInto_99 rfl (lv_at hl 4 rfl) ?_
                      refine fg_U_stands C hin2 hE hP (v := (if ((tS (u2 (u2 (u2 (u2 (u2 (u2 (u2 (u2 (u2 (u2 (u2 (u2 (u2 (u2 (u2 I 15 9 0) 15 13 0) 15 14 0) 15 15 0) 15 16 0) 15 17 0) 15 10 0) 15 11 0) 15 12 (0 * 0)) 2 2 (((I 2 2)) + 1)) 2 2 (((((I 2 2)) + 1)) + 1)) 2 2 (((((((I 2 2)) + 1)) + 1)) + 1)) 15 10 ((nx ((((I 2 2)) + 1)) ((I 2 1)) ((R 3))) - 48)) 15 11 ((nx ((((((I 2 2)) + 1)) + 1)) ((I 2 1)) ((R 3))) - 48)) 15 12 (((nx ((((I 2 2)) + 1)) ((I 2 1)) ((R 3))) - 48) * ((nx ((((((I 2 2)) + 1)) + 1)) ((I 2 1)) ((R 3))) - 48))) R (Int.toNat ((nx ((((I 2 2)) + 1)) ((I 2 1)) ((R 3))) - 48))).2.1) 2 2 = ((tS (u2 (u2 (u2 (u2 (u2 (u2 (u2 (u2 (u2 (u2 (u2 (u2 (u2 (u2 (u2 I 15 9 0) 15 13 0) 15 14 0) 15 15 0) 15 16 0) 15 17 0) 15 10 0) 15 11 0) 15 12 (0 * 0)) 2 2 (((I 2 2)) + 1)) 2 2 (((((I 2 2)) + 1)) + 1)) 2 2 (((((((I 2 2)) + 1)) + 1)) + 1)) 15 10 ((nx ((((I 2 2)) + 1)) ((I 2 1)) ((R 3))) - 48)) 15 11 ((nx ((((((I 2 2)) + 1)) + 1)) ((I 2 1)) ((R 3))) - 48)) 15 12 (((nx ((((I 2 2)) + 1)) ((I 2 1)) ((R 3))) - 48) * ((nx ((((((I 2 2)) + 1)) + 1)) ((I 2 1)) ((R 3))) - 48))) R (Int.toNat ((nx ((((I 2 2)) + 1)) ((I 2 1)) ((R 3))) - 48))).2.1) 2 1 then 1 else 0)) (List.mem_of_getElem? (i := 3) rfl) dX1_readInto_100 rfl ?_
                      have hk9 : k_X1_readInto I R = ((if ((tS (u2 (u2 (u2 (u2 (u2 (u2 (u2 (u2 (u2 (u2 (u2 (u2 (u2 (u2 (u2 I 15 9 0) 15 13 0) 15 14 0) 15 15 0) 15 16 0) 15 17 0) 15 10 0) 15 11 0) 15 12 (0 * 0)) 2 2 (((I 2 2)) + 1)) 2 2 (((((I 2 2)) + 1)) + 1)) 2 2 (((((((I 2 2)) + 1)) + 1)) + 1)) 15 10 ((nx ((((I 2 2)) + 1)) ((I 2 1)) ((R 3))) - 48)) 15 11 ((nx ((((((I 2 2)) + 1)) + 1)) ((I 2 1)) ((R 3))) - 48)) 15 12 (((nx ((((I 2 2)) + 1)) ((I 2 1)) ((R 3))) - 48) * ((nx ((((((I 2 2)) + 1)) + 1)) ((I 2 1)) ((R 3))) - 48))) R (Int.toNat ((nx ((((I 2 2)) + 1)) ((I 2 1)) ((R 3))) - 48))).2.1) 2 2 = ((tS (u2 (u2 (u2 (u2 (u2 (u2 (u2 (u2 (u2 (u2 (u2 (u2 (u2 (u2 (u2 I 15 9 0) 15 13 0) 15 14 0) 15 15 0) 15 16 0) 15 17 0) 15 10 0) 15 11 0) 15 12 (0 * 0)) 2 2 (((I 2 2)) + 1)) 2 2 (((((I 2 2)) + 1)) + 1)) 2 2 (((((((I 2 2)) + 1)) + 1)) + 1)) 15 10 ((nx ((((I 2 2)) + 1)) ((I 2 1)) ((R 3))) - 48)) 15 11 ((nx ((((((I 2 2)) + 1)) + 1)) ((I 2 1)) ((R 3))) - 48)) 15 12 (((nx ((((I 2 2)) + 1)) ((I 2 1)) ((R 3))) - 48) * ((nx ((((((I 2 2)) + 1)) + 1)) ((I 2 1)) ((R 3))) - 48))) R (Int.toNat ((nx ((((I 2 2)) + 1)) ((I 2 1)) ((R 3))) - 48))).2.1) 2 1 then 1 else 0), (u2 (tS (u2 (u2 (u2 (u2 (u2 (u2 (u2 (u2 (u2 (u2 (u2 (u2 (u2 (u2 (u2 I 15 9 0) 15 13 0) 15 14 0) 15 15 0) 15 16 0) 15 17 0) 15 10 0) 15 11 0) 15 12 (0 * 0)) 2 2 (((I 2 2)) + 1)) 2 2 (((((I 2 2)) + 1)) + 1)) 2 2 (((((((I 2 2)) + 1)) + 1)) + 1)) 15 10 ((nx ((((I 2 2)) + 1)) ((I 2 1)) ((R 3))) - 48)) 15 11 ((nx ((((((I 2 2)) + 1)) + 1)) ((I 2 1)) ((R 3))) - 48)) 15 12 (((nx ((((I 2 2)) + 1)) ((I 2 1)) ((R 3))) - 48) * ((nx ((((((I 2 2)) + 1)) + 1)) ((I 2 1)) ((R 3))) - 48))) R (Int.toNat ((nx ((((I 2 2)) + 1)) ((I 2 1)) ((R 3))) - 48))).2.1 15 9 (if ((tS (u2 (u2 (u2 (u2 (u2 (u2 (u2 (u2 (u2 (u2 (u2 (u2 (u2 (u2 (u2 I 15 9 0) 15 13 0) 15 14 0) 15 15 0) 15 16 0) 15 17 0) 15 10 0) 15 11 0) 15 12 (0 * 0)) 2 2 (((I 2 2)) + 1)) 2 2 (((((I 2 2)) + 1)) + 1)) 2 2 (((((((I 2 2)) + 1)) + 1)) + 1)) 15 10 ((nx ((((I 2 2)) + 1)) ((I 2 1)) ((R 3))) - 48)) 15 11 ((nx ((((((I 2 2)) + 1)) + 1)) ((I 2 1)) ((R 3))) - 48)) 15 12 (((nx ((((I 2 2)) + 1)) ((I 2 1)) ((R 3))) - 48) * ((nx ((((((I 2 2)) + 1)) + 1)) ((I 2 1)) ((R 3))) - 48))) R (Int.toNat ((nx ((((I 2 2)) + 1)) ((I 2 1)) ((R 3))) - 48))).2.1) 2 2 = ((tS (u2 (u2 (u2 (u2 (u2 (u2 (u2 (u2 (u2 (u2 (u2 (u2 (u2 (u2 (u2 I 15 9 0) 15 13 0) 15 14 0) 15 15 0) 15 16 0) 15 17 0) 15 10 0) 15 11 0) 15 12 (0 * 0)) 2 2 (((I 2 2)) + 1)) 2 2 (((((I 2 2)) + 1)) + 1)) 2 2 (((((((I 2 2)) + 1)) + 1)) + 1)) 15 10 ((nx ((((I 2 2)) + 1)) ((I 2 1)) ((R 3))) - 48)) 15 11 ((nx ((((((I 2 2)) + 1)) + 1)) ((I 2 1)) ((R 3))) - 48)) 15 12 (((nx ((((I 2 2)) + 1)) ((I 2 1)) ((R 3))) - 48) * ((nx ((((((I 2 2)) + 1)) + 1)) ((I 2 1)) ((R 3))) - 48))) R (Int.toNat ((nx ((((I 2 2)) + 1)) ((I 2 1)) ((R 3))) - 48))).2.1) 2 1 then 1 else 0)), (tS (u2 (u2 (u2 (u2 (u2 (u2 (u2 (u2 (u2 (u2 (u2 (u2 (u2 (u2 (u2 I 15 9 0) 15 13 0) 15 14 0) 15 15 0) 15 16 0) 15 17 0) 15 10 0) 15 11 0) 15 12 (0 * 0)) 2 2 (((I 2 2)) + 1)) 2 2 (((((I 2 2)) + 1)) + 1)) 2 2 (((((((I 2 2)) + 1)) + 1)) + 1)) 15 10 ((nx ((((I 2 2)) + 1)) ((I 2 1)) ((R 3))) - 48)) 15 11 ((nx ((((((I 2 2)) + 1)) + 1)) ((I 2 1)) ((R 3))) - 48)) 15 12 (((nx ((((I 2 2)) + 1)) ((I 2 1)) ((R 3))) - 48) * ((nx ((((((I 2 2)) + 1)) + 1)) ((I 2 1)) ((R 3))) - 48))) R (Int.toNat ((nx ((((I 2 2)) + 1)) ((I 2 1)) ((R 3))) - 48))).2.2) := by rw [k_X1_readInto, (if_pos h116), (if_pos hd1), (if_pos hd2), (if_neg hne9)]
                      exact hret _ ((u2 (tS (u2 (u2 (u2 (u2 (u2 (u2 (u2 (u2 (u2 (u2 (u2 (u2 (u2 (u2 (u2 I 15 9 0) 15 13 0) 15 14 0) 15 15 0) 15 16 0) 15 17 0) 15 10 0) 15 11 0) 15 12 (0 * 0)) 2 2 (((I 2 2)) + 1)) 2 2 (((((I 2 2)) + 1)) + 1)) 2 2 (((((((I 2 2)) + 1)) + 1)) + 1)) 15 10 ((nx ((((I 2 2)) + 1)) ((I 2 1)) ((R 3))) - 48)) 15 11 ((nx ((((((I 2 2)) + 1)) + 1)) ((I 2 1)) ((R 3))) - 48)) 15 12 (((nx ((((I 2 2)) + 1)) ((I 2 1)) ((R 3))) - 48) * ((nx ((((((I 2 2)) + 1)) + 1)) ((I 2 1)) ((R 3))) - 48))) R (Int.toNat ((nx ((((I 2 2)) + 1)) ((I 2 1)) ((R 3))) - 48))).2.1 15 9 (if ((tS (u2 (u2 (u2 (u2 (u2 (u2 (u2 (u2 (u2 (u2 (u2 (u2 (u2 (u2 (u2 I 15 9 0) 15 13 0) 15 14 0) 15 15 0) 15 16 0) 15 17 0) 15 10 0) 15 11 0) 15 12 (0 * 0)) 2 2 (((I 2 2)) + 1)) 2 2 (((((I 2 2)) + 1)) + 1)) 2 2 (((((((I 2 2)) + 1)) + 1)) + 1)) 15 10 ((nx ((((I 2 2)) + 1)) ((I 2 1)) ((R 3))) - 48)) 15 11 ((nx ((((((I 2 2)) + 1)) + 1)) ((I 2 1)) ((R 3))) - 48)) 15 12 (((nx ((((I 2 2)) + 1)) ((I 2 1)) ((R 3))) - 48) * ((nx ((((((I 2 2)) + 1)) + 1)) ((I 2 1)) ((R 3))) - 48))) R (Int.toNat ((nx ((((I 2 2)) + 1)) ((I 2 1)) ((R 3))) - 48))).2.1) 2 2 = ((tS (u2 (u2 (u2 (u2 (u2 (u2 (u2 (u2 (u2 (u2 (u2 (u2 (u2 (u2 (u2 I 15 9 0) 15 13 0) 15 14 0) 15 15 0) 15 16 0) 15 17 0) 15 10 0) 15 11 0) 15 12 (0 * 0)) 2 2 (((I 2 2)) + 1)) 2 2 (((((I 2 2)) + 1)) + 1)) 2 2 (((((((I 2 2)) + 1)) + 1)) + 1)) 15 10 ((nx ((((I 2 2)) + 1)) ((I 2 1)) ((R 3))) - 48)) 15 11 ((nx ((((((I 2 2)) + 1)) + 1)) ((I 2 1)) ((R 3))) - 48)) 15 12 (((nx ((((I 2 2)) + 1)) ((I 2 1)) ((R 3))) - 48) * ((nx ((((((I 2 2)) + 1)) + 1)) ((I 2 1)) ((R 3))) - 48))) R (Int.toNat ((nx ((((I 2 2)) + 1)) ((I 2 1)) ((R 3))) - 48))).2.1) 2 1 then 1 else 0)), (tS (u2 (u2 (u2 (u2 (u2 (u2 (u2 (u2 (u2 (u2 (u2 (u2 (u2 (u2 (u2 I 15 9 0) 15 13 0) 15 14 0) 15 15 0) 15 16 0) 15 17 0) 15 10 0) 15 11 0) 15 12 (0 * 0)) 2 2 (((I 2 2)) + 1)) 2 2 (((((I 2 2)) + 1)) + 1)) 2 2 (((((((I 2 2)) + 1)) + 1)) + 1)) 15 10 ((nx ((((I 2 2)) + 1)) ((I 2 1)) ((R 3))) - 48)) 15 11 ((nx ((((((I 2 2)) + 1)) + 1)) ((I 2 1)) ((R 3))) - 48)) 15 12 (((nx ((((I 2 2)) + 1)) ((I 2 1)) ((R 3))) - 48) * ((nx ((((((I 2 2)) + 1)) + 1)) ((I 2 1)) ((R 3))) - 48))) R (Int.toNat ((nx ((((I 2 2)) + 1)) ((I 2 1)) ((R 3))) - 48))).2.2) _ _ _ _ dX1_readInto_103 (jz_nz _) ⟨by rw [hk9], by rw [hk9], by rw [hk9]⟩ hP hS
                    · skip
                      refine jz_icmp_ne (tgt := 95) C dX1_readInto_88 (by decide) (by omega) (fun h88 => ?_) (fun h88 => ?_)
                      · skip
                        refine jz_const C dX1_readInto_95 ?_
                        have hl9 : lv_has ls 5 [(4, .int (iI ((r : Int)))), (3, .int (iI ((nx ((((((I 2 2)) + 1)) + 1)) ((I 2 1)) ((R 3))) - 48))), (2, .int (iI ((nx ((((I 2 2)) + 1)) ((I 2 1)) ((R 3))) - 48))), (0, .ref (ad 2)), (1, .ref (ad 15))] := lv_sub hl [0, 1, 2, 3, 4] rfl
                        have hj9 := hj88 ls hl9
                        rw [show ((if ((tS (u2 (u2 (u2 (u2 (u2 (u2 (u2 (u2 (u2 (u2 (u2 (u2 (u2 (u2 (u2 I 15 9 0) 15 13 0) 15 14 0) 15 15 0) 15 16 0) 15 17 0) 15 10 0) 15 11 0) 15 12 (0 * 0)) 2 2 (((I 2 2)) + 1)) 2 2 (((((I 2 2)) + 1)) + 1)) 2 2 (((((((I 2 2)) + 1)) + 1)) + 1)) 15 10 ((nx ((((I 2 2)) + 1)) ((I 2 1)) ((R 3))) - 48)) 15 11 ((nx ((((((I 2 2)) + 1)) + 1)) ((I 2 1)) ((R 3))) - 48)) 15 12 (((nx ((((I 2 2)) + 1)) ((I 2 1)) ((R 3))) - 48) * ((nx ((((((I 2 2)) + 1)) + 1)) ((I 2 1)) ((R 3))) - 48))) R (Int.toNat ((nx ((((I 2 2)) + 1)) ((I 2 1)) ((R 3))) - 48))).2.1) 2 2 = ((tS (u2 (u2 (u2 (u2 (u2 (u2 (u2 (u2 (u2 (u2 (u2 (u2 (u2 (u2 (u2 I 15 9 0) 15 13 0) 15 14 0) 15 15 0) 15 16 0) 15 17 0) 15 10 0) 15 11 0) 15 12 (0 * 0)) 2 2 (((I 2 2)) + 1)) 2 2 (((((I 2 2)) + 1)) + 1)) 2 2 (((((((I 2 2)) + 1)) + 1)) + 1)) 15 10 ((nx ((((I 2 2)) + 1)) ((I 2 1)) ((R 3))) - 48)) 15 11 ((nx ((((((I 2 2)) + 1)) + 1)) ((I 2 1)) ((R 3))) - 48)) 15 12 (((nx ((((I 2 2)) + 1)) ((I 2 1)) ((R 3))) - 48) * ((nx ((((((I 2 2)) + 1)) + 1)) ((I 2 1)) ((R 3))) - 48))) R (Int.toNat ((nx ((((I 2 2)) + 1)) ((I 2 1)) ((R 3))) - 48))).2.1) 2 1 then 1 else 0) : Int) = 0 from by first | rfl | exact if_pos (by assumption) | exact if_neg (by assumption) | exact (if_pos (by assumption)).symm | exact (if_neg (by assumption)).symm | omega | (simp only [*, if_true, if_false, not_true, not_false_iff]; done) | (simp [*]; done) | (split <;> omega)] at hj9
                        exact hj9
                      · skip
                        refine jz_const C dX1_readInto_91 ?_
                        refine lv_goto (tgt := 96) hx hb dX1_readInto_92 (by decide) ?_
                        have hl9 : lv_has ls 5 [(4, .int (iI ((r : Int)))), (3, .int (iI ((nx ((((((I 2 2)) + 1)) + 1)) ((I 2 1)) ((R 3))) - 48))), (2, .int (iI ((nx ((((I 2 2)) + 1)) ((I 2 1)) ((R 3))) - 48))), (0, .ref (ad 2)), (1, .ref (ad 15))] := lv_sub hl [0, 1, 2, 3, 4] rfl
                        have hj9 := hj88 ls hl9
                        rw [show ((if ((tS (u2 (u2 (u2 (u2 (u2 (u2 (u2 (u2 (u2 (u2 (u2 (u2 (u2 (u2 (u2 I 15 9 0) 15 13 0) 15 14 0) 15 15 0) 15 16 0) 15 17 0) 15 10 0) 15 11 0) 15 12 (0 * 0)) 2 2 (((I 2 2)) + 1)) 2 2 (((((I 2 2)) + 1)) + 1)) 2 2 (((((((I 2 2)) + 1)) + 1)) + 1)) 15 10 ((nx ((((I 2 2)) + 1)) ((I 2 1)) ((R 3))) - 48)) 15 11 ((nx ((((((I 2 2)) + 1)) + 1)) ((I 2 1)) ((R 3))) - 48)) 15 12 (((nx ((((I 2 2)) + 1)) ((I 2 1)) ((R 3))) - 48) * ((nx ((((((I 2 2)) + 1)) + 1)) ((I 2 1)) ((R 3))) - 48))) R (Int.toNat ((nx ((((I 2 2)) + 1)) ((I 2 1)) ((R 3))) - 48))).2.1) 2 2 = ((tS (u2 (u2 (u2 (u2 (u2 (u2 (u2 (u2 (u2 (u2 (u2 (u2 (u2 (u2 (u2 I 15 9 0) 15 13 0) 15 14 0) 15 15 0) 15 16 0) 15 17 0) 15 10 0) 15 11 0) 15 12 (0 * 0)) 2 2 (((I 2 2)) + 1)) 2 2 (((((I 2 2)) + 1)) + 1)) 2 2 (((((((I 2 2)) + 1)) + 1)) + 1)) 15 10 ((nx ((((I 2 2)) + 1)) ((I 2 1)) ((R 3))) - 48)) 15 11 ((nx ((((((I 2 2)) + 1)) + 1)) ((I 2 1)) ((R 3))) - 48)) 15 12 (((nx ((((I 2 2)) + 1)) ((I 2 1)) ((R 3))) - 48) * ((nx ((((((I 2 2)) + 1)) + 1)) ((I 2 1)) ((R 3))) - 48))) R (Int.toNat ((nx ((((I 2 2)) + 1)) ((I 2 1)) ((R 3))) - 48))).2.1) 2 1 then 1 else 0) : Int) = 1 from by first | rfl | exact if_pos (by assumption) | exact if_neg (by assumption) | exact (if_pos (by assumption)).symm | exact (if_neg (by assumption)).symm | omega | (simp only [*, if_true, if_false, not_true, not_false_iff]; done) | (simp [*]; done) | (split <;> omega)] at hj9
                        exact hj9
                  · skip
                    refine lv_aload_n hx hb dX1_readInto_61 rfl (lv_at hl 3 rfl) ?_
                    refine lv_aload_n hx hb dX1_readInto_62 rfl (lv_at hl 4 rfl) ?_
                    refine lv_iload hx hb dX1_readInto_63 (lv_at hl 0 rfl) ?_
                    refine jw_V C hl.1 (jpreVT hE hP hT0 hS 1 2 rfl rfl) (c_X1_readRow (A := A) (jDC hD) (r : Int) hB1 (show 0 ≤ (r : Int) ∧ (r : Int) < 4 from (by omega))) (cwV 2 C.2.2.2.2 gX1_readInto_X1_readRow rfl rfl rfl (by decide +kernel) ⟨Nat.le_of_ble_eq_true rfl, Nat.le_of_ble_eq_true rfl⟩) (As := [.ref (ad 15), .int (iI ((r : Int)))]) (hn := rfl) (hst := rfl) (rest := []) (hW := Nat.le_of_ble_eq_true rfl) (hdg := dX1_readInto_65) (hf := ⟨Nat.le_of_ble_eq_true rfl, Nat.le_of_ble_eq_true rfl⟩) hS (fun v9 uq65 H lc hq9 hP hS => ?_)
                    obtain ⟨I65, R65⟩ := uq65
                    obtain ⟨hv9, hI9, hR9⟩ := hq9
                    subst hv9
                    have hI65 : I65 = (k_X1_readRow I1 R1 (r : Int)).2.1 := hI9
                    have hR65 : R65 = (k_X1_readRow I1 R1 (r : Int)).2.2 := hR9
                    have hP : va_P D vwCl (wC cI cS ad I65 R65) H := hP
                    have hrp := (rr_ok (r := (r : Int)) hB1).1
                    refine jz_if_ne (tgt := 73) C dX1_readInto_68 (by decide) (by omega) (fun h68 => ?_) (fun h68 => ?_)
                    · skip
                      refine jz_iinc (k := 0) (z := (r : Int) + 1) (lv' := [(4, .int (iI ((r : Int) + 1))), (3, .int (iI ((nx ((((((I 2 2)) + 1)) + 1)) ((I 2 1)) ((R 3))) - 48))), (2, .int (iI ((nx ((((I 2 2)) + 1)) ((I 2 1)) ((R 3))) - 48))), (0, .ref (ad 2)), (1, .ref (ad 15))]) C dX1_readInto_73 hl rfl rfl (by decide) rfl (fun ls hl => ?_)
                      refine lv_goto (tgt := 55) hx hb dX1_readInto_76 (by decide) ?_
                      exact ih55 (r + 1) I65 R65 (by omega) (by rw [tS_s hS9]; exact jS_e (hrp.resolve_left h68) hI65 hR65) (by rw [hI65, hR65]; exact (rr_ok hB1).2.1) (by omega) _ _ hP hS ls (lv_sub hl [0, 1, 2, 3, 4] rfl)
                    · skip
                      have hx8 : tS (u2 (u2 (u2 (u2 (u2 (u2 (u2 (u2 (u2 (u2 (u2 (u2 (u2 (u2 (u2 I 15 9 0) 15 13 0) 15 14 0) 15 15 0) 15 16 0) 15 17 0) 15 10 0) 15 11 0) 15 12 (0 * 0)) 2 2 (((I 2 2)) + 1)) 2 2 (((((I 2 2)) + 1)) + 1)) 2 2 (((((((I 2 2)) + 1)) + 1)) + 1)) 15 10 ((nx ((((I 2 2)) + 1)) ((I 2 1)) ((R 3))) - 48)) 15 11 ((nx ((((((I 2 2)) + 1)) + 1)) ((I 2 1)) ((R 3))) - 48)) 15 12 (((nx ((((I 2 2)) + 1)) ((I 2 1)) ((R 3))) - 48) * ((nx ((((((I 2 2)) + 1)) + 1)) ((I 2 1)) ((R 3))) - 48))) R (r + 1) = (0, I65, R65) := by rw [tS_s hS9]; exact jS_e h68 hI65 hR65
                      have hS9r : (tS (u2 (u2 (u2 (u2 (u2 (u2 (u2 (u2 (u2 (u2 (u2 (u2 (u2 (u2 (u2 I 15 9 0) 15 13 0) 15 14 0) 15 15 0) 15 16 0) 15 17 0) 15 10 0) 15 11 0) 15 12 (0 * 0)) 2 2 (((I 2 2)) + 1)) 2 2 (((((I 2 2)) + 1)) + 1)) 2 2 (((((((I 2 2)) + 1)) + 1)) + 1)) 15 10 ((nx ((((I 2 2)) + 1)) ((I 2 1)) ((R 3))) - 48)) 15 11 ((nx ((((((I 2 2)) + 1)) + 1)) ((I 2 1)) ((R 3))) - 48)) 15 12 (((nx ((((I 2 2)) + 1)) ((I 2 1)) ((R 3))) - 48) * ((nx ((((((I 2 2)) + 1)) + 1)) ((I 2 1)) ((R 3))) - 48))) R (Int.toNat ((nx ((((I 2 2)) + 1)) ((I 2 1)) ((R 3))) - 48))) = (0, I65, R65) := (tS_0 (c := r + 1) (by rw [hx8]) (Int.toNat ((nx ((((I 2 2)) + 1)) ((I 2 1)) ((R 3))) - 48)) (by omega)).trans hx8
                      have heq9 : (tS (u2 (u2 (u2 (u2 (u2 (u2 (u2 (u2 (u2 (u2 (u2 (u2 (u2 (u2 (u2 I 15 9 0) 15 13 0) 15 14 0) 15 15 0) 15 16 0) 15 17 0) 15 10 0) 15 11 0) 15 12 (0 * 0)) 2 2 (((I 2 2)) + 1)) 2 2 (((((I 2 2)) + 1)) + 1)) 2 2 (((((((I 2 2)) + 1)) + 1)) + 1)) 15 10 ((nx ((((I 2 2)) + 1)) ((I 2 1)) ((R 3))) - 48)) 15 11 ((nx ((((((I 2 2)) + 1)) + 1)) ((I 2 1)) ((R 3))) - 48)) 15 12 (((nx ((((I 2 2)) + 1)) ((I 2 1)) ((R 3))) - 48) * ((nx ((((((I 2 2)) + 1)) + 1)) ((I 2 1)) ((R 3))) - 48))) R (Int.toNat ((nx ((((I 2 2)) + 1)) ((I 2 1)) ((R 3))) - 48))).1 = 0 := by rw [hS9r]
                      have hg9 : I65 = (tS (u2 (u2 (u2 (u2 (u2 (u2 (u2 (u2 (u2 (u2 (u2 (u2 (u2 (u2 (u2 I 15 9 0) 15 13 0) 15 14 0) 15 15 0) 15 16 0) 15 17 0) 15 10 0) 15 11 0) 15 12 (0 * 0)) 2 2 (((I 2 2)) + 1)) 2 2 (((((I 2 2)) + 1)) + 1)) 2 2 (((((((I 2 2)) + 1)) + 1)) + 1)) 15 10 ((nx ((((I 2 2)) + 1)) ((I 2 1)) ((R 3))) - 48)) 15 11 ((nx ((((((I 2 2)) + 1)) + 1)) ((I 2 1)) ((R 3))) - 48)) 15 12 (((nx ((((I 2 2)) + 1)) ((I 2 1)) ((R 3))) - 48) * ((nx ((((((I 2 2)) + 1)) + 1)) ((I 2 1)) ((R 3))) - 48))) R (Int.toNat ((nx ((((I 2 2)) + 1)) ((I 2 1)) ((R 3))) - 48))).2.1 := by rw [hS9r]
                      rw [hg9] at hP
                      have hg9 : R65 = (tS (u2 (u2 (u2 (u2 (u2 (u2 (u2 (u2 (u2 (u2 (u2 (u2 (u2 (u2 (u2 I 15 9 0) 15 13 0) 15 14 0) 15 15 0) 15 16 0) 15 17 0) 15 10 0) 15 11 0) 15 12 (0 * 0)) 2 2 (((I 2 2)) + 1)) 2 2 (((((I 2 2)) + 1)) + 1)) 2 2 (((((((I 2 2)) + 1)) + 1)) + 1)) 15 10 ((nx ((((I 2 2)) + 1)) ((I 2 1)) ((R 3))) - 48)) 15 11 ((nx ((((((I 2 2)) + 1)) + 1)) ((I 2 1)) ((R 3))) - 48)) 15 12 (((nx ((((I 2 2)) + 1)) ((I 2 1)) ((R 3))) - 48) * ((nx ((((((I 2 2)) + 1)) + 1)) ((I 2 1)) ((R 3))) - 48))) R (Int.toNat ((nx ((((I 2 2)) + 1)) ((I 2 1)) ((R 3))) - 48))).2.2 := by rw [hS9r]
                      rw [hg9] at hP
                      refine jz_const C dX1_readInto_71 ?_
                      have hk9 : k_X1_readInto I R = (0, (tS (u2 (u2 (u2 (u2 (u2 (u2 (u2 (u2 (u2 (u2 (u2 (u2 (u2 (u2 (u2 I 15 9 0) 15 13 0) 15 14 0) 15 15 0) 15 16 0) 15 17 0) 15 10 0) 15 11 0) 15 12 (0 * 0)) 2 2 (((I 2 2)) + 1)) 2 2 (((((I 2 2)) + 1)) + 1)) 2 2 (((((((I 2 2)) + 1)) + 1)) + 1)) 15 10 ((nx ((((I 2 2)) + 1)) ((I 2 1)) ((R 3))) - 48)) 15 11 ((nx ((((((I 2 2)) + 1)) + 1)) ((I 2 1)) ((R 3))) - 48)) 15 12 (((nx ((((I 2 2)) + 1)) ((I 2 1)) ((R 3))) - 48) * ((nx ((((((I 2 2)) + 1)) + 1)) ((I 2 1)) ((R 3))) - 48))) R (Int.toNat ((nx ((((I 2 2)) + 1)) ((I 2 1)) ((R 3))) - 48))).2.1, (tS (u2 (u2 (u2 (u2 (u2 (u2 (u2 (u2 (u2 (u2 (u2 (u2 (u2 (u2 (u2 I 15 9 0) 15 13 0) 15 14 0) 15 15 0) 15 16 0) 15 17 0) 15 10 0) 15 11 0) 15 12 (0 * 0)) 2 2 (((I 2 2)) + 1)) 2 2 (((((I 2 2)) + 1)) + 1)) 2 2 (((((((I 2 2)) + 1)) + 1)) + 1)) 15 10 ((nx ((((I 2 2)) + 1)) ((I 2 1)) ((R 3))) - 48)) 15 11 ((nx ((((((I 2 2)) + 1)) + 1)) ((I 2 1)) ((R 3))) - 48)) 15 12 (((nx ((((I 2 2)) + 1)) ((I 2 1)) ((R 3))) - 48) * ((nx ((((((I 2 2)) + 1)) + 1)) ((I 2 1)) ((R 3))) - 48))) R (Int.toNat ((nx ((((I 2 2)) + 1)) ((I 2 1)) ((R 3))) - 48))).2.2) := by rw [k_X1_readInto, (if_pos h116), (if_pos hd1), (if_pos hd2), (if_pos heq9)]
                      exact hret _ ((tS (u2 (u2 (u2 (u2 (u2 (u2 (u2 (u2 (u2 (u2 (u2 (u2 (u2 (u2 (u2 I 15 9 0) 15 13 0) 15 14 0) 15 15 0) 15 16 0) 15 17 0) 15 10 0) 15 11 0) 15 12 (0 * 0)) 2 2 (((I 2 2)) + 1)) 2 2 (((((I 2 2)) + 1)) + 1)) 2 2 (((((((I 2 2)) + 1)) + 1)) + 1)) 15 10 ((nx ((((I 2 2)) + 1)) ((I 2 1)) ((R 3))) - 48)) 15 11 ((nx ((((((I 2 2)) + 1)) + 1)) ((I 2 1)) ((R 3))) - 48)) 15 12 (((nx ((((I 2 2)) + 1)) ((I 2 1)) ((R 3))) - 48) * ((nx ((((((I 2 2)) + 1)) + 1)) ((I 2 1)) ((R 3))) - 48))) R (Int.toNat ((nx ((((I 2 2)) + 1)) ((I 2 1)) ((R 3))) - 48))).2.1, (tS (u2 (u2 (u2 (u2 (u2 (u2 (u2 (u2 (u2 (u2 (u2 (u2 (u2 (u2 (u2 I 15 9 0) 15 13 0) 15 14 0) 15 15 0) 15 16 0) 15 17 0) 15 10 0) 15 11 0) 15 12 (0 * 0)) 2 2 (((I 2 2)) + 1)) 2 2 (((((I 2 2)) + 1)) + 1)) 2 2 (((((((I 2 2)) + 1)) + 1)) + 1)) 15 10 ((nx ((((I 2 2)) + 1)) ((I 2 1)) ((R 3))) - 48)) 15 11 ((nx ((((((I 2 2)) + 1)) + 1)) ((I 2 1)) ((R 3))) - 48)) 15 12 (((nx ((((I 2 2)) + 1)) ((I 2 1)) ((R 3))) - 48) * ((nx ((((((I 2 2)) + 1)) + 1)) ((I 2 1)) ((R 3))) - 48))) R (Int.toNat ((nx ((((I 2 2)) + 1)) ((I 2 1)) ((R 3))) - 48))).2.2) _ _ _ _ dX1_readInto_72 (by decide +kernel) ⟨by rw [hk9], by rw [hk9], by rw [hk9]⟩ hP hS
              exact key55 (Int.toNat (nx (I 2 2 + 1) (I 2 1) (R 3) - 48 - (0 : Int)) + 1) 0 (u2 (u2 (u2 (u2 (u2 (u2 (u2 (u2 (u2 (u2 (u2 (u2 (u2 (u2 (u2 I 15 9 0) 15 13 0) 15 14 0) 15 15 0) 15 16 0) 15 17 0) 15 10 0) 15 11 0) 15 12 (0 * 0)) 2 2 (((I 2 2)) + 1)) 2 2 (((((I 2 2)) + 1)) + 1)) 2 2 (((((((I 2 2)) + 1)) + 1)) + 1)) 15 10 ((nx ((((I 2 2)) + 1)) ((I 2 1)) ((R 3))) - 48)) 15 11 ((nx ((((((I 2 2)) + 1)) + 1)) ((I 2 1)) ((R 3))) - 48)) 15 12 (((nx ((((I 2 2)) + 1)) ((I 2 1)) ((R 3))) - 48) * ((nx ((((((I 2 2)) + 1)) + 1)) ((I 2 1)) ((R 3))) - 48))) R (by omega) rfl hBI (by omega) _ _ hP hS ls (lv_sub hl [0, 1, 2, 3, 4] rfl)
            · exfalso; omega
          · skip
            have hlt2 := nx_lt2 hd1 (by omega)
            refine lv_aload_n hx hb dX1_readInto_31 rfl (lv_at hl 1 rfl) ?_
            refine jz_const C dX1_readInto_32 ?_
            refine jz_bipush C dX1_readInto_33 (by decide +kernel) ?_
            refine jw_V C hl.1 (jpreV hE hP 1 2 rfl rfl) (c_X1_digitF (A := A) (jDC hD) 2 6 (show 0 ≤ (((((I 2 2)) + 1)) + 1) ∧ (((((I 2 2)) + 1)) + 1) ≤ (I 2 1) ∧ (I 2 1) ≤ 60 from (by omega)) hcd (by decide) (show ¬ (48 + 2 ≤ nx (((((I 2 2)) + 1)) + 1) (I 2 1) (R 3) ∧ nx (((((I 2 2)) + 1)) + 1) (I 2 1) (R 3) ≤ 48 + 6) from (by omega))) (cwV 2 C.2.2.2.2 gX1_readInto_X1_digit rfl rfl rfl (by decide +kernel) ⟨Nat.le_of_ble_eq_true rfl, Nat.le_of_ble_eq_true rfl⟩) (As := [.int (iI (2)), .int (iI (6))]) (hn := rfl) (hst := rfl) (rest := []) (hW := Nat.le_of_ble_eq_true rfl) (hdg := dX1_readInto_35) (hf := ⟨Nat.le_of_ble_eq_true rfl, Nat.le_of_ble_eq_true rfl⟩) hS (fun v9 uq35 H lc hq9 hP hS => ?_)
            obtain rfl : v9 = some (.int (iI (-1))) := hq9
            have hP : va_P D vwCl (wC cI cS ad (u2 (u2 (u2 (u2 (u2 (u2 (u2 (u2 (u2 (u2 (u2 I 15 9 0) 15 13 0) 15 14 0) 15 15 0) 15 16 0) 15 17 0) 15 10 0) 15 11 0) 15 12 (0 * 0)) 2 2 (((I 2 2)) + 1)) 2 2 (((((I 2 2)) + 1)) + 1)) R) H := hP
            refine lv_istore_n (lv' := [(3, .int (iI (-1))), (2, .int (iI ((nx ((((I 2 2)) + 1)) ((I 2 1)) ((R 3))) - 48))), (0, .ref (ad 2)), (1, .ref (ad 15))]) hx hb dX1_readInto_38 rfl hl (by decide) rfl (fun ls hl => ?_)
            refine lv_iload_n hx hb dX1_readInto_39 rfl (lv_at hl 0 rfl) ?_
            refine jz_const C dX1_readInto_40 ?_
            refine jz_icmp_ne (tgt := 46) C dX1_readInto_41 (by decide) (by omega) (fun h41 => ?_) (fun h41 => ?_)
            · exact absurd h41 (by decide)
            · skip
              refine jz_const C dX1_readInto_44 ?_
              have hk9 : k_X1_readInto I R = (0, (u2 (u2 (u2 (u2 (u2 (u2 (u2 (u2 (u2 (u2 (u2 I 15 9 0) 15 13 0) 15 14 0) 15 15 0) 15 16 0) 15 17 0) 15 10 0) 15 11 0) 15 12 (0 * 0)) 2 2 (((I 2 2)) + 1)) 2 2 (((((I 2 2)) + 1)) + 1)), R) := by rw [k_X1_readInto, (if_pos h116), (if_pos hd1), (if_neg hd2)]
              exact hret _ ((u2 (u2 (u2 (u2 (u2 (u2 (u2 (u2 (u2 (u2 (u2 I 15 9 0) 15 13 0) 15 14 0) 15 15 0) 15 16 0) 15 17 0) 15 10 0) 15 11 0) 15 12 (0 * 0)) 2 2 (((I 2 2)) + 1)) 2 2 (((((I 2 2)) + 1)) + 1)), R) _ _ _ _ dX1_readInto_45 (by decide +kernel) ⟨by rw [hk9], by rw [hk9], by rw [hk9]⟩ hP hS
        · exfalso; omega
      · skip
        have hlt1 := nx_lt (p := I 2 2) (n := I 2 1) (cd := R 3) (by omega)
        refine lv_aload_n hx hb dX1_readInto_15 rfl (lv_at hl 0 rfl) ?_
        refine jz_const C dX1_readInto_16 ?_
        refine jz_const C dX1_readInto_17 ?_
        refine jw_V C hl.1 (jpreV hE hP 1 2 rfl rfl) (c_X1_digitF (A := A) (jDC hD) 1 4 (show 0 ≤ (((I 2 2)) + 1) ∧ (((I 2 2)) + 1) ≤ (I 2 1) ∧ (I 2 1) ≤ 60 from (by omega)) hcd (by decide) (show ¬ (48 + 1 ≤ nx (((I 2 2)) + 1) (I 2 1) (R 3) ∧ nx (((I 2 2)) + 1) (I 2 1) (R 3) ≤ 48 + 4) from (by omega))) (cwV 2 C.2.2.2.2 gX1_readInto_X1_digit rfl rfl rfl (by decide +kernel) ⟨Nat.le_of_ble_eq_true rfl, Nat.le_of_ble_eq_true rfl⟩) (As := [.int (iI (1)), .int (iI (4))]) (hn := rfl) (hst := rfl) (rest := []) (hW := Nat.le_of_ble_eq_true rfl) (hdg := dX1_readInto_18) (hf := ⟨Nat.le_of_ble_eq_true rfl, Nat.le_of_ble_eq_true rfl⟩) hS (fun v9 uq18 H lc hq9 hP hS => ?_)
        obtain rfl : v9 = some (.int (iI (-1))) := hq9
        have hP : va_P D vwCl (wC cI cS ad (u2 (u2 (u2 (u2 (u2 (u2 (u2 (u2 (u2 (u2 I 15 9 0) 15 13 0) 15 14 0) 15 15 0) 15 16 0) 15 17 0) 15 10 0) 15 11 0) 15 12 (0 * 0)) 2 2 (((I 2 2)) + 1)) R) H := hP
        refine lv_istore_n (lv' := [(2, .int (iI (-1))), (0, .ref (ad 2)), (1, .ref (ad 15))]) hx hb dX1_readInto_21 rfl hl (by decide) rfl (fun ls hl => ?_)
        refine lv_iload_n hx hb dX1_readInto_22 rfl (lv_at hl 0 rfl) ?_
        refine jz_const C dX1_readInto_23 ?_
        refine jz_icmp_ne (tgt := 31) C dX1_readInto_24 (by decide) (by omega) (fun h24 => ?_) (fun h24 => ?_)
        · exact absurd h24 (by decide)
        · skip
          refine jz_const C dX1_readInto_27 ?_
          refine lv_goto (tgt := 38) hx hb dX1_readInto_28 (by decide) ?_
          refine lv_istore_n (lv' := [(3, .int (iI (-1))), (2, .int (iI (-1))), (0, .ref (ad 2)), (1, .ref (ad 15))]) hx hb dX1_readInto_38 rfl hl (by decide) rfl (fun ls hl => ?_)
          refine lv_iload_n hx hb dX1_readInto_39 rfl (lv_at hl 0 rfl) ?_
          refine jz_const C dX1_readInto_40 ?_
          refine jz_icmp_ne (tgt := 46) C dX1_readInto_41 (by decide) (by omega) (fun h41 => ?_) (fun h41 => ?_)
          · exact absurd h41 (by decide)
          · skip
            refine jz_const C dX1_readInto_44 ?_
            have hk9 : k_X1_readInto I R = (0, (u2 (u2 (u2 (u2 (u2 (u2 (u2 (u2 (u2 (u2 I 15 9 0) 15 13 0) 15 14 0) 15 15 0) 15 16 0) 15 17 0) 15 10 0) 15 11 0) 15 12 (0 * 0)) 2 2 (((I 2 2)) + 1)), R) := by rw [k_X1_readInto, (if_pos h116), (if_neg hd1)]
            exact hret _ ((u2 (u2 (u2 (u2 (u2 (u2 (u2 (u2 (u2 (u2 I 15 9 0) 15 13 0) 15 14 0) 15 15 0) 15 16 0) 15 17 0) 15 10 0) 15 11 0) 15 12 (0 * 0)) 2 2 (((I 2 2)) + 1)), R) _ _ _ _ dX1_readInto_45 (by decide +kernel) ⟨by rw [hk9], by rw [hk9], by rw [hk9]⟩ hP hS
    · exact absurd h10 (by decide)
  · skip
    refine lv_aload_n hx hb dX1_readInto_4 rfl (lv_at hl 0 rfl) ?_
    refine jz_bipush C dX1_readInto_5 (by decide +kernel) ?_
    refine jw_V C hl.1 (jpreV hE hP 1 2 rfl rfl) (c_X1_takesF (A := A) (jDC hD) 116 (show 0 ≤ (I 2 2) ∧ (I 2 2) ≤ (I 2 1) ∧ (I 2 1) ≤ 60 from (by omega)) hcd (by decide) (show ¬ nx (I 2 2) (I 2 1) (R 3) = 116 from (by omega))) (cwV 1 C.2.2.2.2 gX1_readInto_X1_takes rfl rfl rfl (by decide +kernel) ⟨Nat.le_of_ble_eq_true rfl, Nat.le_of_ble_eq_true rfl⟩) (As := [.int (iI (116))]) (hn := rfl) (hst := rfl) (rest := []) (hW := Nat.le_of_ble_eq_true rfl) (hdg := dX1_readInto_7) (hf := ⟨Nat.le_of_ble_eq_true rfl, Nat.le_of_ble_eq_true rfl⟩) hS (fun v9 uq7 H lc hq9 hP hS => ?_)
    obtain rfl : v9 = some (.int (iI (0))) := hq9
    have hP : va_P D vwCl (wC cI cS ad (u2 (u2 (u2 (u2 (u2 (u2 (u2 (u2 (u2 I 15 9 0) 15 13 0) 15 14 0) 15 15 0) 15 16 0) 15 17 0) 15 10 0) 15 11 0) 15 12 (0 * 0)) R) H := hP
    refine jz_if_ne (tgt := 15) C dX1_readInto_10 (by decide) (by omega) (fun h10 => ?_) (fun h10 => ?_)
    · exact absurd h10 (by decide)
    · skip
      refine jz_const C dX1_readInto_13 ?_
      have hk9 : k_X1_readInto I R = (0, (u2 (u2 (u2 (u2 (u2 (u2 (u2 (u2 (u2 I 15 9 0) 15 13 0) 15 14 0) 15 15 0) 15 16 0) 15 17 0) 15 10 0) 15 11 0) 15 12 (0 * 0)), R) := by rw [k_X1_readInto, (if_neg h116)]
      exact hret _ ((u2 (u2 (u2 (u2 (u2 (u2 (u2 (u2 (u2 I 15 9 0) 15 13 0) 15 14 0) 15 15 0) 15 16 0) 15 17 0) 15 10 0) 15 11 0) 15 12 (0 * 0)), R) _ _ _ _ dX1_readInto_14 (by decide +kernel) ⟨by rw [hk9], by rw [hk9], by rw [hk9]⟩ hP hS
abbrev rm_X1_load : Room := { frames := 1, cells := 0, slots := 0, locals := 22 }
set_option maxHeartbeats 4000000 in
set_option maxRecDepth 100000 in
theorem c_X1_load {l : Launch} {D : va_G} {cI cS : ClassId} {ad : Nat → Nat} {I R : Nat → Nat → Int} {A : Nat → Prop} (hD : va_D A (wC cI cS ad I R))  (fr : Int) (n : Int) (k : Nat) (hk : k < 4) (hfn : 0 ≤ fr ∧ 0 ≤ n ∧ fr + n ≤ 60): JV l yX1_load wsX1_load rm_X1_load (jB D cI cS (wC cI cS ad I R)) A [.ref (ad 2), .ref (ad (25 + 2 * k)), .int (iI (fr)), .int (iI (n))] (fun v9 (_ : Unit) => v9 = none) (fun _ H => va_P D vwCl (wC cI cS ad (u2 (u2 I 2 2 0) 2 1 n) (uR R 3 (lcd (R 3) (R (26 + 2 * k)) (Int.toNat fr) (Int.toNat n)))) H) := by
  refine JV.mkN rfl (by decide +kernel) rfl (Nat.le_of_ble_eq_true rfl) ?_
  intro p e st mi ar bl mth cd Q ls C hB hl hret
  obtain ⟨hE, hP⟩ := hB
  have hx := C.1
  have hb := C.2.1
  have hl : lv_has ls 5 [(0, .ref (ad 2)), (1, .ref (ad (25 + 2 * k))), (2, .int (iI (fr))), (3, .int (iI (n)))] := hl
  have hin0 : ∀ w ∈ wsX00, w ∈ wsX1_load := fun _ h => List.mem_cons_of_mem _ (List.mem_append_right _ h)
  have hin1 : ∀ w ∈ wsX10, w ∈ wsX1_load := fun _ h => List.mem_cons_of_mem _ (List.mem_append_left _ (List.mem_append_right _ h))
  suffices hgo : ∀ (H : Heap) (lc : List Loc), va_P D vwCl (wC cI cS ad I R) H → va_S A st.heap H lc → W p l e rm_X1_load st mi ar bl mth cd H lc 0 0 Q (F0 mi 0 ls []) from hgo _ _ hP va_S.rf
  clear hP
  intro H lc hP hS
  refine lv_aload_n hx hb dX1_load_0 rfl (lv_at hl 0 rfl) ?_
  refine jz_const C dX1_load_1 ?_
  refine fp_D_place C hin1 hE hP (jDC hD) hS (List.mem_of_getElem? (i := 1) rfl) dX1_load_2 (fun H lc hP hS => ?_)
  refine lv_aload_n hx hb dX1_load_5 rfl (lv_at hl 0 rfl) ?_
  refine lv_iload_n hx hb dX1_load_6 rfl (lv_at hl 3 rfl) ?_
  refine fp_D_size C hin1 hE hP (jDC hD) hS (List.mem_of_getElem? (i := 2) rfl) dX1_load_7 (fun H lc hP hS => ?_)
  refine jz_const C dX1_load_10 ?_
  refine lv_istore (lv' := [(4, .int (iI (0))), (0, .ref (ad 2)), (1, .ref (ad (25 + 2 * k))), (2, .int (iI (fr))), (3, .int (iI (n)))]) hx hb dX1_load_11 hl (by decide) rfl (fun ls hl => ?_)
  have key13 : ∀ (n13 : Nat) (j : Nat) (hj : (j : Int) ≤ n), (n - (j : Int) : Int) < n13 → ∀ (H : Heap) (lc : List Loc), va_P D vwCl (wC cI cS ad (u2 (u2 I 2 2 0) 2 1 n) (uR R 3 (lcd (R 3) (R (26 + 2 * k)) (Int.toNat fr) j))) H → va_S A st.heap H lc → ∀ (ls : Array Slot), lv_has ls 5 [(4, .int (iI ((j : Int)))), (0, .ref (ad 2)), (1, .ref (ad (25 + 2 * k))), (2, .int (iI (fr))), (3, .int (iI (n)))] → W p l e rm_X1_load st mi ar bl mth cd H lc 0 0 Q (F0 mi 13 ls []) := by
    intro n13
    induction n13 with
    | zero => intro j hj hn9; exfalso; omega
    | succ n13 ih13 =>
      intro j hj hn9 H lc hP hS ls hl
      refine lv_iload hx hb dX1_load_13 (lv_at hl 0 rfl) ?_
      refine lv_iload_n hx hb dX1_load_15 rfl (lv_at hl 4 rfl) ?_
      refine jz_icmp_ge (tgt := 45) C dX1_load_16 (by decide) (by omega) (fun h16 => ?_) (fun h16 => ?_)
      · skip
        have hg9 : j = Int.toNat n := (by omega)
        subst hg9
        have hl : lv_has ls 5 [(0, .ref (ad 2)), (1, .ref (ad (25 + 2 * k))), (2, .int (iI (fr))), (3, .int (iI (n)))] := lv_sub hl [1, 2, 3, 4] rfl
        exact hret () _ _ _ _ dX1_load_45 rfl hP hS
      · skip
        refine lv_aload_n hx hb dX1_load_19 rfl (lv_at hl 1 rfl) ?_
        refine fg_D_codes C hin1 hE hP (List.mem_of_getElem? (i := 3) rfl) dX1_load_20 ?_
        refine lv_iload hx hb dX1_load_23 (lv_at hl 0 rfl) ?_
        refine lv_aload_n hx hb dX1_load_25 rfl (lv_at hl 2 rfl) ?_
        refine fg_H_row C hin0 hE (by omega) hP (List.mem_of_getElem? (i := 4) rfl) dX1_load_26 ?_
        refine lv_iload_n hx hb dX1_load_29 rfl (lv_at hl 3 rfl) ?_
        refine lv_iload hx hb dX1_load_30 (lv_at hl 0 rfl) ?_
        refine jz_iadd C dX1_load_32 ?_
        refine jc_N C hl.1 (jpreS hE hP) (c_X3_read (fr + (j : Int)) (26 + 2 * k) 60 (R (26 + 2 * k)) (ad (26 + 2 * k)) (by first | exact (wC_row (by omega)).trans (by rw [uR_n (by omega)]) | exact wC_row (by omega)) (by decide) (show 0 ≤ (fr + (j : Int)) ∧ (fr + (j : Int)) < 60 from (by omega))) ⟨va_cnB 2 C.2.2.2.2 gX1_load_X3_read_n27 rfl rfl rfl hE.2.1 (C.2.2.2.2 _ (List.mem_of_getElem? (i := 6) rfl)) (by decide +kernel) ⟨Nat.le_of_ble_eq_true rfl, Nat.le_of_ble_eq_true rfl⟩, C.2.2.2.2 _ (List.mem_of_getElem? (i := 5) rfl), trivial⟩ (As := [.ref (ad (26 + 2 * k)), .int (iI (fr + (j : Int)))]) (v := .int (iI ((R (26 + 2 * k)) (Int.toNat (fr + (j : Int)))))) (hn := rfl) (hst := rfl) (rest := [.int (iI ((j : Int))), .ref (ad 3)]) (hW := Nat.le_of_ble_eq_true rfl) (hdg := dX1_load_33) (hf := ⟨Nat.le_of_ble_eq_true rfl, Nat.le_of_ble_eq_true rfl⟩) ?_
        refine jw_N C hl.1 (jpreS hE hP) (c_X3_write (A := A) (jDC hD) (j : Int) ((R (26 + 2 * k)) (Int.toNat (fr + (j : Int)))) 3 60 (lcd (R 3) (R (26 + 2 * k)) (Int.toNat fr) j) (ad 3) rfl (by decide) (show 0 ≤ (j : Int) ∧ (j : Int) < 60 from (by omega))) ⟨va_cnB 3 C.2.2.2.2 gX1_load_X3_write_n31 rfl rfl rfl hE.2.2.1 (C.2.2.2.2 _ (List.mem_of_getElem? (i := 6) rfl)) (by decide +kernel) ⟨Nat.le_of_ble_eq_true rfl, Nat.le_of_ble_eq_true rfl⟩, C.2.2.2.2 _ (List.mem_of_getElem? (i := 8) rfl), trivial⟩ (As := [.ref (ad 3), .int (iI ((j : Int))), .int (iI ((R (26 + 2 * k)) (Int.toNat (fr + (j : Int)))))]) (hn := rfl) (hst := rfl) (rest := []) (hW := Nat.le_of_ble_eq_true rfl) (hdg := dX1_load_36) (hf := ⟨Nat.le_of_ble_eq_true rfl, Nat.le_of_ble_eq_true rfl⟩) hS (fun v9 uq36 H lc hq9 hP hS => ?_)
        subst hq9
        have hP : va_P D vwCl (wC cI cS ad (u2 (u2 I 2 2 0) 2 1 n) (uR (uR R 3 (lcd (R 3) (R (26 + 2 * k)) (Int.toNat fr) j)) 3 (u1 (lcd (R 3) (R (26 + 2 * k)) (Int.toNat fr) j) j ((R (26 + 2 * k)) (Int.toNat (fr + (j : Int))))))) H := hP
        refine jz_iinc (k := 0) (z := (j : Int) + 1) (lv' := [(4, .int (iI ((j : Int) + 1))), (0, .ref (ad 2)), (1, .ref (ad (25 + 2 * k))), (2, .int (iI (fr))), (3, .int (iI (n)))]) C dX1_load_39 hl rfl rfl (by decide) rfl (fun ls hl => ?_)
        refine lv_goto (tgt := 13) hx hb dX1_load_42 (by decide) ?_
        exact ih13 (j + 1) (by omega) (by omega) _ _ (by rw [← lcd_s (f := Int.toNat fr) (n := j) (k := Int.toNat (fr + (j : Int))) (by omega)]; rw [uR_u] at hP; exact hP) hS ls (lv_sub hl [0, 1, 2, 3, 4] rfl)
  exact key13 (Int.toNat (n - (0 : Int)) + 1) 0 (by omega) (by omega) _ _ (by rw [lcd_0, uR_id]; exact hP) hS ls (lv_sub hl [0, 1, 2, 3, 4] rfl)
