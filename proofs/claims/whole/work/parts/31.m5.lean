theorem ym_24 {F : Nat → Int} {R : Nat → Nat → Int} {f g V : Nat → Int} : ∀ w : Nat, ym F (uR (uR (uR R 22 f) 6 V) 22 g) w = ym F (uR R 6 V) w := by
  intro w
  induction w with
  | zero => rfl
  | succ w ih =>
    simp only [ym]
    rw [ih]
    rfl
theorem uR_6 {R : Nat → Nat → Int} {f g V V' : Nat → Int} : uR (uR (uR (uR R 22 f) 6 V) 22 g) 6 V' = uR (uR R 22 g) 6 V' := by
  funext q
  by_cases h : q = 6 <;> by_cases h2 : q = 22 <;> simp [uR, h, h2]
abbrev rm_X4_cellsBarred_ok : Room := { frames := 1, cells := 0, slots := 0, locals := 23 }
set_option maxHeartbeats 4000000 in
set_option maxRecDepth 100000 in
theorem c_X4_cellsBarred_ok {l : Launch} {D : va_G} {cI cS : ClassId} {ad : Nat → Nat} {F : Nat → Int} {R : Nat → Nat → Int} {A : Nat → Prop} (hD : va_D A (wM cI ad F R))  (k : Int) (lane : Int) (i : Int) (n : Int)  (hk : 0 ≤ k ∧ k ≤ 3) (hz : -1 ≤ R 27 (Int.toNat k) ∧ R 27 (Int.toNat k) ≤ 60) (hln : 0 ≤ R 28 (Int.toNat k) ∧ R 28 (Int.toNat k) ≤ 2) (hal : -2147483648 ≤ lane ∧ lane < 2147483648) (hi : -2147483648 ≤ i ∧ i < 2147483648) (hn : -2147483648 ≤ n ∧ n < 2147483648) (hq9 : ftm (R 27 (Int.toNat k)) (R 28 (Int.toNat k)) lane i n = 0): JV l yX4_cellsBarred wsX4_cellsBarred rm_X4_cellsBarred_ok (jB D cI cS (wM cI ad F R)) A [.ref (ad 0), .int (iI (k)), .int (iI (lane)), .int (iI (i)), .long (lI (n))] (fun v9 (_ : Unit) => v9 = some (.int (iI (0)))) (fun _ H => va_P D vwCl (wM cI ad F R) H) := by
  refine JV.mkI rfl (by decide +kernel) rfl (Nat.le_of_ble_eq_true rfl) ?_
  intro p e st mi ar bl mth cd Q ls C hB hl hret
  obtain ⟨hE, hP⟩ := hB
  have hx := C.1
  have hb := C.2.1
  have hl : lv_has ls 6 [(0, .ref (ad 0)), (1, .int (iI (k))), (2, .int (iI (lane))), (3, .int (iI (i))), (4, .long (lI (n)))] := hl
  have hin4 : ∀ w ∈ wsX40, w ∈ wsX4_cellsBarred := fun _ h => List.mem_cons_of_mem _ (List.mem_append_right _ h)
  suffices hgo : ∀ (H : Heap) (lc : List Loc), va_P D vwCl (wM cI ad F R) H → va_S A st.heap H lc → W p l e rm_X4_cellsBarred_ok st mi ar bl mth cd H lc 0 0 Q (F0 mi 0 ls []) from hgo _ _ hP va_S.rf
  clear hP
  intro H lc hP hS
  refine lv_aload_n hx hb dX4_cellsBarred_0 rfl (lv_at hl 0 rfl) ?_
  refine fg_M_sheetSize C hin4 hE hP (List.mem_of_getElem? (i := 1) rfl) dX4_cellsBarred_1 ?_
  refine lv_iload_n hx hb dX4_cellsBarred_4 rfl (lv_at hl 1 rfl) ?_
  refine fl_M_sheetSize C hE hP (v := R 27 (Int.toNat k)) dX4_cellsBarred_5 (by omega) rfl ?_
  refine jz_if_lt (tgt := 25) C dX4_cellsBarred_6 (by decide) (by omega) (fun h6 => ?_) (fun h6 => ?_)
  · skip
    refine lv_aload_n hx hb dX4_cellsBarred_25 rfl (lv_at hl 0 rfl) ?_
    refine fg_M_sheetSize C hin4 hE hP (List.mem_of_getElem? (i := 1) rfl) dX4_cellsBarred_26 ?_
    refine lv_iload_n hx hb dX4_cellsBarred_29 rfl (lv_at hl 1 rfl) ?_
    refine fl_M_sheetSize C hE hP (v := R 27 (Int.toNat k)) dX4_cellsBarred_30 (by omega) rfl ?_
    refine jz_if_ge (tgt := 40) C dX4_cellsBarred_31 (by decide) (by omega) (fun h31 => ?_) (fun h31 => ?_)
    · skip
      refine lv_lload hx hb dX4_cellsBarred_40 (lv_at hl 4 rfl) ?_
      refine jz_lconst (z := 0) C rfl dX4_cellsBarred_42 ?_
      refine jz_lc_ge (tgt := 53) C dX4_cellsBarred_43 dX4_cellsBarred_44 (by decide) (by omega) (fun h43 => ?_) (fun h43 => ?_)
      · skip
        refine lv_iload_n hx hb dX4_cellsBarred_53 rfl (lv_at hl 3 rfl) ?_
        refine lv_lload hx hb dX4_cellsBarred_54 (lv_at hl 4 rfl) ?_
        refine lv_aload_n hx hb dX4_cellsBarred_56 rfl (lv_at hl 0 rfl) ?_
        refine fg_M_sheetSize C hin4 hE hP (List.mem_of_getElem? (i := 1) rfl) dX4_cellsBarred_57 ?_
        refine lv_iload_n hx hb dX4_cellsBarred_60 rfl (lv_at hl 1 rfl) ?_
        refine fl_M_sheetSize C hE hP (v := R 27 (Int.toNat k)) dX4_cellsBarred_61 (by omega) rfl ?_
        refine jc_S C hl.1 (jpreS hE hP) (c_X4_isBeyond i n (R 27 (Int.toNat k)) (show -2147483648 ≤ i ∧ i < 2147483648 from (by omega)) (show -2147483648 ≤ n ∧ n < 2147483648 from (by omega)) (show -2147483648 ≤ (R 27 (Int.toNat k)) ∧ (R 27 (Int.toNat k)) < 2147483648 from (by omega))) (va_cwS 3 C.2.2.2.2 gX4_cellsBarred_X4_isBeyond rfl rfl rfl (by decide +kernel) ⟨Nat.le_of_ble_eq_true rfl, Nat.le_of_ble_eq_true rfl⟩) (As := [.int (iI (i)), .long (lI (n)), .int (iI (R 27 (Int.toNat k)))]) (v := .int (iI (if ¬ (0 ≤ i ∧ 0 ≤ n ∧ i + n ≤ (R 27 (Int.toNat k))) then 1 else 0))) (hn := rfl) (hst := rfl) (rest := []) (hW := Nat.le_of_ble_eq_true rfl) (hdg := dX4_cellsBarred_62) (hf := ⟨Nat.le_of_ble_eq_true rfl, Nat.le_of_ble_eq_true rfl⟩) ?_
        refine jz_bool_eq (tgt := 76) C dX4_cellsBarred_65 (by decide) (fun h65 => ?_) (fun h65 => ?_)
        · skip
          refine jz_const C dX4_cellsBarred_76 ?_
          exact hret _ () _ _ _ _ dX4_cellsBarred_77 rfl hP hS
        · skip
          refine lv_aload_n hx hb dX4_cellsBarred_68 rfl (lv_at hl 0 rfl) ?_
          refine jz_const C dX4_cellsBarred_69 ?_
          refine jw_V C hl.1 (jpreV hE hP 4 0 rfl rfl) (c_X4_failed (A := A) (jDM hD) 3 ) (cwV 1 C.2.2.2.2 gX4_cellsBarred_X4_failed rfl rfl rfl (by decide +kernel) ⟨Nat.le_of_ble_eq_true rfl, Nat.le_of_ble_eq_true rfl⟩) (As := [.int (iI (3))]) (hn := rfl) (hst := rfl) (rest := []) (hW := Nat.le_of_ble_eq_true rfl) (hdg := dX4_cellsBarred_70) (hf := ⟨Nat.le_of_ble_eq_true rfl, Nat.le_of_ble_eq_true rfl⟩) hS (fun v9 uq70 H lc hq9 hP hS => ?_)
          obtain rfl : v9 = some (.int (iI ((-10) - 3))) := hq9
          have hP : va_P D vwCl (wM cI ad (u1 F 0 3) R) H := hP
          refine lv_goto (tgt := 77) hx hb dX4_cellsBarred_73 (by decide) ?_
          exfalso; have hq8 := ftm_0 hq9; omega
      · skip
        refine lv_aload_n hx hb dX4_cellsBarred_47 rfl (lv_at hl 0 rfl) ?_
        refine jz_const C dX4_cellsBarred_48 ?_
        refine jw_V C hl.1 (jpreV hE hP 4 0 rfl rfl) (c_X4_failed (A := A) (jDM hD) 4 ) (cwV 1 C.2.2.2.2 gX4_cellsBarred_X4_failed rfl rfl rfl (by decide +kernel) ⟨Nat.le_of_ble_eq_true rfl, Nat.le_of_ble_eq_true rfl⟩) (As := [.int (iI (4))]) (hn := rfl) (hst := rfl) (rest := []) (hW := Nat.le_of_ble_eq_true rfl) (hdg := dX4_cellsBarred_49) (hf := ⟨Nat.le_of_ble_eq_true rfl, Nat.le_of_ble_eq_true rfl⟩) hS (fun v9 uq49 H lc hq9 hP hS => ?_)
        obtain rfl : v9 = some (.int (iI ((-10) - 4))) := hq9
        have hP : va_P D vwCl (wM cI ad (u1 F 0 4) R) H := hP
        exfalso; have hq8 := ftm_0 hq9; omega
    · skip
      refine lv_aload_n hx hb dX4_cellsBarred_34 rfl (lv_at hl 0 rfl) ?_
      refine jz_const C dX4_cellsBarred_35 ?_
      refine jw_V C hl.1 (jpreV hE hP 4 0 rfl rfl) (c_X4_failed (A := A) (jDM hD) 1 ) (cwV 1 C.2.2.2.2 gX4_cellsBarred_X4_failed rfl rfl rfl (by decide +kernel) ⟨Nat.le_of_ble_eq_true rfl, Nat.le_of_ble_eq_true rfl⟩) (As := [.int (iI (1))]) (hn := rfl) (hst := rfl) (rest := []) (hW := Nat.le_of_ble_eq_true rfl) (hdg := dX4_cellsBarred_36) (hf := ⟨Nat.le_of_ble_eq_true rfl, Nat.le_of_ble_eq_true rfl⟩) hS (fun v9 uq36 H lc hq9 hP hS => ?_)
      obtain rfl : v9 = some (.int (iI ((-10) - 1))) := hq9
      have hP : va_P D vwCl (wM cI ad (u1 F 0 1) R) H := hP
      exfalso; have hq8 := ftm_0 hq9; omega
  · skip
    refine lv_aload_n hx hb dX4_cellsBarred_9 rfl (lv_at hl 0 rfl) ?_
    refine fg_M_sheetLane C hin4 hE hP (List.mem_of_getElem? (i := 2) rfl) dX4_cellsBarred_10 ?_
    refine lv_iload_n hx hb dX4_cellsBarred_13 rfl (lv_at hl 1 rfl) ?_
    refine fl_M_sheetLane C hE hP (v := R 28 (Int.toNat k)) dX4_cellsBarred_14 (by omega) rfl ?_
    refine lv_iload_n hx hb dX4_cellsBarred_15 rfl (lv_at hl 2 rfl) ?_
    refine jz_icmp_eq (tgt := 25) C dX4_cellsBarred_16 (by decide) (by omega) (fun h16 => ?_) (fun h16 => ?_)
    · skip
      refine lv_aload_n hx hb dX4_cellsBarred_25 rfl (lv_at hl 0 rfl) ?_
      refine fg_M_sheetSize C hin4 hE hP (List.mem_of_getElem? (i := 1) rfl) dX4_cellsBarred_26 ?_
      refine lv_iload_n hx hb dX4_cellsBarred_29 rfl (lv_at hl 1 rfl) ?_
      refine fl_M_sheetSize C hE hP (v := R 27 (Int.toNat k)) dX4_cellsBarred_30 (by omega) rfl ?_
      refine jz_if_ge (tgt := 40) C dX4_cellsBarred_31 (by decide) (by omega) (fun h31 => ?_) (fun h31 => ?_)
      · skip
        refine lv_lload hx hb dX4_cellsBarred_40 (lv_at hl 4 rfl) ?_
        refine jz_lconst (z := 0) C rfl dX4_cellsBarred_42 ?_
        refine jz_lc_ge (tgt := 53) C dX4_cellsBarred_43 dX4_cellsBarred_44 (by decide) (by omega) (fun h43 => ?_) (fun h43 => ?_)
        · skip
          refine lv_iload_n hx hb dX4_cellsBarred_53 rfl (lv_at hl 3 rfl) ?_
          refine lv_lload hx hb dX4_cellsBarred_54 (lv_at hl 4 rfl) ?_
          refine lv_aload_n hx hb dX4_cellsBarred_56 rfl (lv_at hl 0 rfl) ?_
          refine fg_M_sheetSize C hin4 hE hP (List.mem_of_getElem? (i := 1) rfl) dX4_cellsBarred_57 ?_
          refine lv_iload_n hx hb dX4_cellsBarred_60 rfl (lv_at hl 1 rfl) ?_
          refine fl_M_sheetSize C hE hP (v := R 27 (Int.toNat k)) dX4_cellsBarred_61 (by omega) rfl ?_
          refine jc_S C hl.1 (jpreS hE hP) (c_X4_isBeyond i n (R 27 (Int.toNat k)) (show -2147483648 ≤ i ∧ i < 2147483648 from (by omega)) (show -2147483648 ≤ n ∧ n < 2147483648 from (by omega)) (show -2147483648 ≤ (R 27 (Int.toNat k)) ∧ (R 27 (Int.toNat k)) < 2147483648 from (by omega))) (va_cwS 3 C.2.2.2.2 gX4_cellsBarred_X4_isBeyond rfl rfl rfl (by decide +kernel) ⟨Nat.le_of_ble_eq_true rfl, Nat.le_of_ble_eq_true rfl⟩) (As := [.int (iI (i)), .long (lI (n)), .int (iI (R 27 (Int.toNat k)))]) (v := .int (iI (if ¬ (0 ≤ i ∧ 0 ≤ n ∧ i + n ≤ (R 27 (Int.toNat k))) then 1 else 0))) (hn := rfl) (hst := rfl) (rest := []) (hW := Nat.le_of_ble_eq_true rfl) (hdg := dX4_cellsBarred_62) (hf := ⟨Nat.le_of_ble_eq_true rfl, Nat.le_of_ble_eq_true rfl⟩) ?_
          refine jz_bool_eq (tgt := 76) C dX4_cellsBarred_65 (by decide) (fun h65 => ?_) (fun h65 => ?_)
          · skip
            refine jz_const C dX4_cellsBarred_76 ?_
            exact hret _ () _ _ _ _ dX4_cellsBarred_77 rfl hP hS
          · skip
            refine lv_aload_n hx hb dX4_cellsBarred_68 rfl (lv_at hl 0 rfl) ?_
            refine jz_const C dX4_cellsBarred_69 ?_
            refine jw_V C hl.1 (jpreV hE hP 4 0 rfl rfl) (c_X4_failed (A := A) (jDM hD) 3 ) (cwV 1 C.2.2.2.2 gX4_cellsBarred_X4_failed rfl rfl rfl (by decide +kernel) ⟨Nat.le_of_ble_eq_true rfl, Nat.le_of_ble_eq_true rfl⟩) (As := [.int (iI (3))]) (hn := rfl) (hst := rfl) (rest := []) (hW := Nat.le_of_ble_eq_true rfl) (hdg := dX4_cellsBarred_70) (hf := ⟨Nat.le_of_ble_eq_true rfl, Nat.le_of_ble_eq_true rfl⟩) hS (fun v9 uq70 H lc hq9 hP hS => ?_)
            obtain rfl : v9 = some (.int (iI ((-10) - 3))) := hq9
            have hP : va_P D vwCl (wM cI ad (u1 F 0 3) R) H := hP
            refine lv_goto (tgt := 77) hx hb dX4_cellsBarred_73 (by decide) ?_
            exfalso; have hq8 := ftm_0 hq9; omega
        · skip
          refine lv_aload_n hx hb dX4_cellsBarred_47 rfl (lv_at hl 0 rfl) ?_
          refine jz_const C dX4_cellsBarred_48 ?_
          refine jw_V C hl.1 (jpreV hE hP 4 0 rfl rfl) (c_X4_failed (A := A) (jDM hD) 4 ) (cwV 1 C.2.2.2.2 gX4_cellsBarred_X4_failed rfl rfl rfl (by decide +kernel) ⟨Nat.le_of_ble_eq_true rfl, Nat.le_of_ble_eq_true rfl⟩) (As := [.int (iI (4))]) (hn := rfl) (hst := rfl) (rest := []) (hW := Nat.le_of_ble_eq_true rfl) (hdg := dX4_cellsBarred_49) (hf := ⟨Nat.le_of_ble_eq_true rfl, Nat.le_of_ble_eq_true rfl⟩) hS (fun v9 uq49 H lc hq9 hP hS => ?_)
          obtain rfl : v9 = some (.int (iI ((-10) - 4))) := hq9
          have hP : va_P D vwCl (wM cI ad (u1 F 0 4) R) H := hP
          exfalso; have hq8 := ftm_0 hq9; omega
      · skip
        refine lv_aload_n hx hb dX4_cellsBarred_34 rfl (lv_at hl 0 rfl) ?_
        refine jz_const C dX4_cellsBarred_35 ?_
        refine jw_V C hl.1 (jpreV hE hP 4 0 rfl rfl) (c_X4_failed (A := A) (jDM hD) 1 ) (cwV 1 C.2.2.2.2 gX4_cellsBarred_X4_failed rfl rfl rfl (by decide +kernel) ⟨Nat.le_of_ble_eq_true rfl, Nat.le_of_ble_eq_true rfl⟩) (As := [.int (iI (1))]) (hn := rfl) (hst := rfl) (rest := []) (hW := Nat.le_of_ble_eq_true rfl) (hdg := dX4_cellsBarred_36) (hf := ⟨Nat.le_of_ble_eq_true rfl, Nat.le_of_ble_eq_true rfl⟩) hS (fun v9 uq36 H lc hq9 hP hS => ?_)
        obtain rfl : v9 = some (.int (iI ((-10) - 1))) := hq9
        have hP : va_P D vwCl (wM cI ad (u1 F 0 1) R) H := hP
        exfalso; have hq8 := ftm_0 hq9; omega
    · skip
      refine lv_aload_n hx hb dX4_cellsBarred_19 rfl (lv_at hl 0 rfl) ?_
      refine jz_const C dX4_cellsBarred_20 ?_
      refine jw_V C hl.1 (jpreV hE hP 4 0 rfl rfl) (c_X4_failed (A := A) (jDM hD) 2 ) (cwV 1 C.2.2.2.2 gX4_cellsBarred_X4_failed rfl rfl rfl (by decide +kernel) ⟨Nat.le_of_ble_eq_true rfl, Nat.le_of_ble_eq_true rfl⟩) (As := [.int (iI (2))]) (hn := rfl) (hst := rfl) (rest := []) (hW := Nat.le_of_ble_eq_true rfl) (hdg := dX4_cellsBarred_21) (hf := ⟨Nat.le_of_ble_eq_true rfl, Nat.le_of_ble_eq_true rfl⟩) hS (fun v9 uq21 H lc hq9 hP hS => ?_)
      obtain rfl : v9 = some (.int (iI ((-10) - 2))) := hq9
      have hP : va_P D vwCl (wM cI ad (u1 F 0 2) R) H := hP
      exfalso; have hq8 := ftm_0 hq9; omega
abbrev rm_X4_cellsBarred_no : Room := { frames := 1, cells := 0, slots := 0, locals := 23 }
set_option maxHeartbeats 4000000 in
set_option maxRecDepth 100000 in
theorem c_X4_cellsBarred_no {l : Launch} {D : va_G} {cI cS : ClassId} {ad : Nat → Nat} {F : Nat → Int} {R : Nat → Nat → Int} {A : Nat → Prop} (hD : va_D A (wM cI ad F R))  (k : Int) (lane : Int) (i : Int) (n : Int)  (hk : 0 ≤ k ∧ k ≤ 3) (hz : -1 ≤ R 27 (Int.toNat k) ∧ R 27 (Int.toNat k) ≤ 60) (hln : 0 ≤ R 28 (Int.toNat k) ∧ R 28 (Int.toNat k) ≤ 2) (hal : -2147483648 ≤ lane ∧ lane < 2147483648) (hi : -2147483648 ≤ i ∧ i < 2147483648) (hn : -2147483648 ≤ n ∧ n < 2147483648) (hq9 : ¬ ftm (R 27 (Int.toNat k)) (R 28 (Int.toNat k)) lane i n = 0): JV l yX4_cellsBarred wsX4_cellsBarred rm_X4_cellsBarred_no (jB D cI cS (wM cI ad F R)) A [.ref (ad 0), .int (iI (k)), .int (iI (lane)), .int (iI (i)), .long (lI (n))] (fun v9 (_ : Unit) => v9 = some (.int (iI (-10 - ftm (R 27 (Int.toNat k)) (R 28 (Int.toNat k)) lane i n)))) (fun _ H => va_P D vwCl (wM cI ad (u1 F 0 (ftm (R 27 (Int.toNat k)) (R 28 (Int.toNat k)) lane i n)) R) H) := by
  refine JV.mkI rfl (by decide +kernel) rfl (Nat.le_of_ble_eq_true rfl) ?_
  intro p e st mi ar bl mth cd Q ls C hB hl hret
  obtain ⟨hE, hP⟩ := hB
  have hx := C.1
  have hb := C.2.1
  have hl : lv_has ls 6 [(0, .ref (ad 0)), (1, .int (iI (k))), (2, .int (iI (lane))), (3, .int (iI (i))), (4, .long (lI (n)))] := hl
  have hin4 : ∀ w ∈ wsX40, w ∈ wsX4_cellsBarred := fun _ h => List.mem_cons_of_mem _ (List.mem_append_right _ h)
  suffices hgo : ∀ (H : Heap) (lc : List Loc), va_P D vwCl (wM cI ad F R) H → va_S A st.heap H lc → W p l e rm_X4_cellsBarred_no st mi ar bl mth cd H lc 0 0 Q (F0 mi 0 ls []) from hgo _ _ hP va_S.rf
  clear hP
  intro H lc hP hS
  refine lv_aload_n hx hb dX4_cellsBarred_0 rfl (lv_at hl 0 rfl) ?_
  refine fg_M_sheetSize C hin4 hE hP (List.mem_of_getElem? (i := 1) rfl) dX4_cellsBarred_1 ?_
  refine lv_iload_n hx hb dX4_cellsBarred_4 rfl (lv_at hl 1 rfl) ?_
  refine fl_M_sheetSize C hE hP (v := R 27 (Int.toNat k)) dX4_cellsBarred_5 (by omega) rfl ?_
  refine jz_if_lt (tgt := 25) C dX4_cellsBarred_6 (by decide) (by omega) (fun h6 => ?_) (fun h6 => ?_)
  · skip
    refine lv_aload_n hx hb dX4_cellsBarred_25 rfl (lv_at hl 0 rfl) ?_
    refine fg_M_sheetSize C hin4 hE hP (List.mem_of_getElem? (i := 1) rfl) dX4_cellsBarred_26 ?_
    refine lv_iload_n hx hb dX4_cellsBarred_29 rfl (lv_at hl 1 rfl) ?_
    refine fl_M_sheetSize C hE hP (v := R 27 (Int.toNat k)) dX4_cellsBarred_30 (by omega) rfl ?_
    refine jz_if_ge (tgt := 40) C dX4_cellsBarred_31 (by decide) (by omega) (fun h31 => ?_) (fun h31 => ?_)
    · skip
      refine lv_lload hx hb dX4_cellsBarred_40 (lv_at hl 4 rfl) ?_
      refine jz_lconst (z := 0) C rfl dX4_cellsBarred_42 ?_
      refine jz_lc_ge (tgt := 53) C dX4_cellsBarred_43 dX4_cellsBarred_44 (by decide) (by omega) (fun h43 => ?_) (fun h43 => ?_)
      · skip
        refine lv_iload_n hx hb dX4_cellsBarred_53 rfl (lv_at hl 3 rfl) ?_
        refine lv_lload hx hb dX4_cellsBarred_54 (lv_at hl 4 rfl) ?_
        refine lv_aload_n hx hb dX4_cellsBarred_56 rfl (lv_at hl 0 rfl) ?_
        refine fg_M_sheetSize C hin4 hE hP (List.mem_of_getElem? (i := 1) rfl) dX4_cellsBarred_57 ?_
        refine lv_iload_n hx hb dX4_cellsBarred_60 rfl (lv_at hl 1 rfl) ?_
        refine fl_M_sheetSize C hE hP (v := R 27 (Int.toNat k)) dX4_cellsBarred_61 (by omega) rfl ?_
        refine jc_S C hl.1 (jpreS hE hP) (c_X4_isBeyond i n (R 27 (Int.toNat k)) (show -2147483648 ≤ i ∧ i < 2147483648 from (by omega)) (show -2147483648 ≤ n ∧ n < 2147483648 from (by omega)) (show -2147483648 ≤ (R 27 (Int.toNat k)) ∧ (R 27 (Int.toNat k)) < 2147483648 from (by omega))) (va_cwS 3 C.2.2.2.2 gX4_cellsBarred_X4_isBeyond rfl rfl rfl (by decide +kernel) ⟨Nat.le_of_ble_eq_true rfl, Nat.le_of_ble_eq_true rfl⟩) (As := [.int (iI (i)), .long (lI (n)), .int (iI (R 27 (Int.toNat k)))]) (v := .int (iI (if ¬ (0 ≤ i ∧ 0 ≤ n ∧ i + n ≤ (R 27 (Int.toNat k))) then 1 else 0))) (hn := rfl) (hst := rfl) (rest := []) (hW := Nat.le_of_ble_eq_true rfl) (hdg := dX4_cellsBarred_62) (hf := ⟨Nat.le_of_ble_eq_true rfl, Nat.le_of_ble_eq_true rfl⟩) ?_
        refine jz_bool_eq (tgt := 76) C dX4_cellsBarred_65 (by decide) (fun h65 => ?_) (fun h65 => ?_)
        · skip
          refine jz_const C dX4_cellsBarred_76 ?_
          exfalso; apply hq9; unfold ftm; (repeat' split) <;> omega
        · skip
          refine lv_aload_n hx hb dX4_cellsBarred_68 rfl (lv_at hl 0 rfl) ?_
          refine jz_const C dX4_cellsBarred_69 ?_
          refine jw_V C hl.1 (jpreV hE hP 4 0 rfl rfl) (c_X4_failed (A := A) (jDM hD) 3 ) (cwV 1 C.2.2.2.2 gX4_cellsBarred_X4_failed rfl rfl rfl (by decide +kernel) ⟨Nat.le_of_ble_eq_true rfl, Nat.le_of_ble_eq_true rfl⟩) (As := [.int (iI (3))]) (hn := rfl) (hst := rfl) (rest := []) (hW := Nat.le_of_ble_eq_true rfl) (hdg := dX4_cellsBarred_70) (hf := ⟨Nat.le_of_ble_eq_true rfl, Nat.le_of_ble_eq_true rfl⟩) hS (fun v9 uq70 H lc hq9 hP hS => ?_)
          obtain rfl : v9 = some (.int (iI ((-10) - 3))) := hq9
          have hP : va_P D vwCl (wM cI ad (u1 F 0 3) R) H := hP
          refine lv_goto (tgt := 77) hx hb dX4_cellsBarred_73 (by decide) ?_
          have hq8 : ftm (R 27 (Int.toNat k)) (R 28 (Int.toNat k)) lane i n = 3 := by unfold ftm; (repeat' split) <;> omega
          exact hret _ () _ _ _ _ dX4_cellsBarred_77 (by rw [hq8]) (by rw [hq8]; exact hP) hS
      · skip
        refine lv_aload_n hx hb dX4_cellsBarred_47 rfl (lv_at hl 0 rfl) ?_
        refine jz_const C dX4_cellsBarred_48 ?_
        refine jw_V C hl.1 (jpreV hE hP 4 0 rfl rfl) (c_X4_failed (A := A) (jDM hD) 4 ) (cwV 1 C.2.2.2.2 gX4_cellsBarred_X4_failed rfl rfl rfl (by decide +kernel) ⟨Nat.le_of_ble_eq_true rfl, Nat.le_of_ble_eq_true rfl⟩) (As := [.int (iI (4))]) (hn := rfl) (hst := rfl) (rest := []) (hW := Nat.le_of_ble_eq_true rfl) (hdg := dX4_cellsBarred_49) (hf := ⟨Nat.le_of_ble_eq_true rfl, Nat.le_of_ble_eq_true rfl⟩) hS (fun v9 uq49 H lc hq9 hP hS => ?_)
        obtain rfl : v9 = some (.int (iI ((-10) - 4))) := hq9
        have hP : va_P D vwCl (wM cI ad (u1 F 0 4) R) H := hP
        have hq8 : ftm (R 27 (Int.toNat k)) (R 28 (Int.toNat k)) lane i n = 4 := by unfold ftm; (repeat' split) <;> omega
        exact hret _ () _ _ _ _ dX4_cellsBarred_52 (by rw [hq8]) (by rw [hq8]; exact hP) hS
    · skip
      refine lv_aload_n hx hb dX4_cellsBarred_34 rfl (lv_at hl 0 rfl) ?_
      refine jz_const C dX4_cellsBarred_35 ?_
      refine jw_V C hl.1 (jpreV hE hP 4 0 rfl rfl) (c_X4_failed (A := A) (jDM hD) 1 ) (cwV 1 C.2.2.2.2 gX4_cellsBarred_X4_failed rfl rfl rfl (by decide +kernel) ⟨Nat.le_of_ble_eq_true rfl, Nat.le_of_ble_eq_true rfl⟩) (As := [.int (iI (1))]) (hn := rfl) (hst := rfl) (rest := []) (hW := Nat.le_of_ble_eq_true rfl) (hdg := dX4_cellsBarred_36) (hf := ⟨Nat.le_of_ble_eq_true rfl, Nat.le_of_ble_eq_true rfl⟩) hS (fun v9 uq36 H lc hq9 hP hS => ?_)
      obtain rfl : v9 = some (.int (iI ((-10) - 1))) := hq9
      have hP : va_P D vwCl (wM cI ad (u1 F 0 1) R) H := hP
      have hq8 : ftm (R 27 (Int.toNat k)) (R 28 (Int.toNat k)) lane i n = 1 := by unfold ftm; (repeat' split) <;> omega
      exact hret _ () _ _ _ _ dX4_cellsBarred_39 (by rw [hq8]) (by rw [hq8]; exact hP) hS
  · skip
    refine lv_aload_n hx hb dX4_cellsBarred_9 rfl (lv_at hl 0 rfl) ?_
    refine fg_M_sheetLane C hin4 hE hP (List.mem_of_getElem? (i := 2) rfl) dX4_cellsBarred_10 ?_
    refine lv_iload_n hx hb dX4_cellsBarred_13 rfl (lv_at hl 1 rfl) ?_
    refine fl_M_sheetLane C hE hP (v := R 28 (Int.toNat k)) dX4_cellsBarred_14 (by omega) rfl ?_
    refine lv_iload_n hx hb dX4_cellsBarred_15 rfl (lv_at hl 2 rfl) ?_
    refine jz_icmp_eq (tgt := 25) C dX4_cellsBarred_16 (by decide) (by omega) (fun h16 => ?_) (fun h16 => ?_)
    · skip
      refine lv_aload_n hx hb dX4_cellsBarred_25 rfl (lv_at hl 0 rfl) ?_
      refine fg_M_sheetSize C hin4 hE hP (List.mem_of_getElem? (i := 1) rfl) dX4_cellsBarred_26 ?_
      refine lv_iload_n hx hb dX4_cellsBarred_29 rfl (lv_at hl 1 rfl) ?_
      refine fl_M_sheetSize C hE hP (v := R 27 (Int.toNat k)) dX4_cellsBarred_30 (by omega) rfl ?_
      refine jz_if_ge (tgt := 40) C dX4_cellsBarred_31 (by decide) (by omega) (fun h31 => ?_) (fun h31 => ?_)
      · skip
        refine lv_lload hx hb dX4_cellsBarred_40 (lv_at hl 4 rfl) ?_
        refine jz_lconst (z := 0) C rfl dX4_cellsBarred_42 ?_
        refine jz_lc_ge (tgt := 53) C dX4_cellsBarred_43 dX4_cellsBarred_44 (by decide) (by omega) (fun h43 => ?_) (fun h43 => ?_)
        · skip
          refine lv_iload_n hx hb dX4_cellsBarred_53 rfl (lv_at hl 3 rfl) ?_
          refine lv_lload hx hb dX4_cellsBarred_54 (lv_at hl 4 rfl) ?_
          refine lv_aload_n hx hb dX4_cellsBarred_56 rfl (lv_at hl 0 rfl) ?_
          refine fg_M_sheetSize C hin4 hE hP (List.mem_of_getElem? (i := 1) rfl) dX4_cellsBarred_57 ?_
          refine lv_iload_n hx hb dX4_cellsBarred_60 rfl (lv_at hl 1 rfl) ?_
          refine fl_M_sheetSize C hE hP (v := R 27 (Int.toNat k)) dX4_cellsBarred_61 (by omega) rfl ?_
          refine jc_S C hl.1 (jpreS hE hP) (c_X4_isBeyond i n (R 27 (Int.toNat k)) (show -2147483648 ≤ i ∧ i < 2147483648 from (by omega)) (show -2147483648 ≤ n ∧ n < 2147483648 from (by omega)) (show -2147483648 ≤ (R 27 (Int.toNat k)) ∧ (R 27 (Int.toNat k)) < 2147483648 from (by omega))) (va_cwS 3 C.2.2.2.2 gX4_cellsBarred_X4_isBeyond rfl rfl rfl (by decide +kernel) ⟨Nat.le_of_ble_eq_true rfl, Nat.le_of_ble_eq_true rfl⟩) (As := [.int (iI (i)), .long (lI (n)), .int (iI (R 27 (Int.toNat k)))]) (v := .int (iI (if ¬ (0 ≤ i ∧ 0 ≤ n ∧ i + n ≤ (R 27 (Int.toNat k))) then 1 else 0))) (hn := rfl) (hst := rfl) (rest := []) (hW := Nat.le_of_ble_eq_true rfl) (hdg := dX4_cellsBarred_62) (hf := ⟨Nat.le_of_ble_eq_true rfl, Nat.le_of_ble_eq_true rfl⟩) ?_
          refine jz_bool_eq (tgt := 76) C dX4_cellsBarred_65 (by decide) (fun h65 => ?_) (fun h65 => ?_)
          · skip
            refine jz_const C dX4_cellsBarred_76 ?_
            exfalso; apply hq9; unfold ftm; (repeat' split) <;> omega
          · skip
            refine lv_aload_n hx hb dX4_cellsBarred_68 rfl (lv_at hl 0 rfl) ?_
            refine jz_const C dX4_cellsBarred_69 ?_
            refine jw_V C hl.1 (jpreV hE hP 4 0 rfl rfl) (c_X4_failed (A := A) (jDM hD) 3 ) (cwV 1 C.2.2.2.2 gX4_cellsBarred_X4_failed rfl rfl rfl (by decide +kernel) ⟨Nat.le_of_ble_eq_true rfl, Nat.le_of_ble_eq_true rfl⟩) (As := [.int (iI (3))]) (hn := rfl) (hst := rfl) (rest := []) (hW := Nat.le_of_ble_eq_true rfl) (hdg := dX4_cellsBarred_70) (hf := ⟨Nat.le_of_ble_eq_true rfl, Nat.le_of_ble_eq_true rfl⟩) hS (fun v9 uq70 H lc hq9 hP hS => ?_)
            obtain rfl : v9 = some (.int (iI ((-10) - 3))) := hq9
            have hP : va_P D vwCl (wM cI ad (u1 F 0 3) R) H := hP
            refine lv_goto (tgt := 77) hx hb dX4_cellsBarred_73 (by decide) ?_
            have hq8 : ftm (R 27 (Int.toNat k)) (R 28 (Int.toNat k)) lane i n = 3 := by unfold ftm; (repeat' split) <;> omega
            exact hret _ () _ _ _ _ dX4_cellsBarred_77 (by rw [hq8]) (by rw [hq8]; exact hP) hS
        · skip
          refine lv_aload_n hx hb dX4_cellsBarred_47 rfl (lv_at hl 0 rfl) ?_
          refine jz_const C dX4_cellsBarred_48 ?_
          refine jw_V C hl.1 (jpreV hE hP 4 0 rfl rfl) (c_X4_failed (A := A) (jDM hD) 4 ) (cwV 1 C.2.2.2.2 gX4_cellsBarred_X4_failed rfl rfl rfl (by decide +kernel) ⟨Nat.le_of_ble_eq_true rfl, Nat.le_of_ble_eq_true rfl⟩) (As := [.int (iI (4))]) (hn := rfl) (hst := rfl) (rest := []) (hW := Nat.le_of_ble_eq_true rfl) (hdg := dX4_cellsBarred_49) (hf := ⟨Nat.le_of_ble_eq_true rfl, Nat.le_of_ble_eq_true rfl⟩) hS (fun v9 uq49 H lc hq9 hP hS => ?_)
          obtain rfl : v9 = some (.int (iI ((-10) - 4))) := hq9
          have hP : va_P D vwCl (wM cI ad (u1 F 0 4) R) H := hP
          have hq8 : ftm (R 27 (Int.toNat k)) (R 28 (Int.toNat k)) lane i n = 4 := by unfold ftm; (repeat' split) <;> omega
          exact hret _ () _ _ _ _ dX4_cellsBarred_52 (by rw [hq8]) (by rw [hq8]; exact hP) hS
      · skip
        refine lv_aload_n hx hb dX4_cellsBarred_34 rfl (lv_at hl 0 rfl) ?_
        refine jz_const C dX4_cellsBarred_35 ?_
        refine jw_V C hl.1 (jpreV hE hP 4 0 rfl rfl) (c_X4_failed (A := A) (jDM hD) 1 ) (cwV 1 C.2.2.2.2 gX4_cellsBarred_X4_failed rfl rfl rfl (by decide +kernel) ⟨Nat.le_of_ble_eq_true rfl, Nat.le_of_ble_eq_true rfl⟩) (As := [.int (iI (1))]) (hn := rfl) (hst := rfl) (rest := []) (hW := Nat.le_of_ble_eq_true rfl) (hdg := dX4_cellsBarred_36) (hf := ⟨Nat.le_of_ble_eq_true rfl, Nat.le_of_ble_eq_true rfl⟩) hS (fun v9 uq36 H lc hq9 hP hS => ?_)
        obtain rfl : v9 = some (.int (iI ((-10) - 1))) := hq9
        have hP : va_P D vwCl (wM cI ad (u1 F 0 1) R) H := hP
        have hq8 : ftm (R 27 (Int.toNat k)) (R 28 (Int.toNat k)) lane i n = 1 := by unfold ftm; (repeat' split) <;> omega
        exact hret _ () _ _ _ _ dX4_cellsBarred_39 (by rw [hq8]) (by rw [hq8]; exact hP) hS
    · skip
      refine lv_aload_n hx hb dX4_cellsBarred_19 rfl (lv_at hl 0 rfl) ?_
      refine jz_const C dX4_cellsBarred_20 ?_
      refine jw_V C hl.1 (jpreV hE hP 4 0 rfl rfl) (c_X4_failed (A := A) (jDM hD) 2 ) (cwV 1 C.2.2.2.2 gX4_cellsBarred_X4_failed rfl rfl rfl (by decide +kernel) ⟨Nat.le_of_ble_eq_true rfl, Nat.le_of_ble_eq_true rfl⟩) (As := [.int (iI (2))]) (hn := rfl) (hst := rfl) (rest := []) (hW := Nat.le_of_ble_eq_true rfl) (hdg := dX4_cellsBarred_21) (hf := ⟨Nat.le_of_ble_eq_true rfl, Nat.le_of_ble_eq_true rfl⟩) hS (fun v9 uq21 H lc hq9 hP hS => ?_)
      obtain rfl : v9 = some (.int (iI ((-10) - 2))) := hq9
      have hP : va_P D vwCl (wM cI ad (u1 F 0 2) R) H := hP
      have hq8 : ftm (R 27 (Int.toNat k)) (R 28 (Int.toNat k)) lane i n = 2 := by unfold ftm; (repeat' split) <;> omega
      exact hret _ () _ _ _ _ dX4_cellsBarred_24 (by rw [hq8]) (by rw [hq8]; exact hP) hS
def k_X4_copy (F : Nat → Int) (R : Nat → Nat → Int) (k : Int) (i : Int) (other : Int) (j : Int) (n : Int) : Int × (Nat → Int) × (Nat → Nat → Int) := if ¬ (0 ≤ k ∧ k ≤ 3) then (((-1), (u1 F 0 0), R)) else (if ¬ (0 ≤ other ∧ other ≤ 3) then (((-1), (u1 F 0 0), R)) else (if (R 27 (Int.toNat k)) < 0 then (((-10) - 1, (u1 F 0 1), R)) else (if (R 27 (Int.toNat other)) < 0 then (((-10) - 1, (u1 F 0 1), R)) else (if (R 28 (Int.toNat k)) = (R 28 (Int.toNat other)) then (if ¬ (0 ≤ i ∧ 0 ≤ n ∧ i + n ≤ (R 27 (Int.toNat k))) then (((-10) - 3, (u1 F 0 3), R)) else (if ¬ (0 ≤ j ∧ 0 ≤ n ∧ j + n ≤ (R 27 (Int.toNat other))) then (((-10) - 3, (u1 F 0 3), R)) else ((n, (u1 F 0 0), (uR R 29 (cpz (R 29) (R 29) (Int.toNat (60 * k + i)) (Int.toNat (60 * other + j)) (Int.toNat n))))))) else (((-10) - 2, (u1 F 0 2), R))))))
abbrev rm_X4_copy : Room := { frames := 2, cells := 0, slots := 0, locals := 45 }
set_option maxHeartbeats 4000000 in
set_option maxRecDepth 100000 in
theorem c_X4_copy {l : Launch} {D : va_G} {cI cS : ClassId} {ad : Nat → Nat} {F : Nat → Int} {R : Nat → Nat → Int} {A : Nat → Prop} (hD : va_D A (wM cI ad F R))  (k : Int) (i : Int) (other : Int) (j : Int) (n : Int)  (hS9 : MV F R) (hr_k : -2147483648 ≤ k ∧ k < 2147483648) (hr_i : -2147483648 ≤ i ∧ i < 2147483648) (hr_other : -2147483648 ≤ other ∧ other < 2147483648) (hr_j : -2147483648 ≤ j ∧ j < 2147483648) (hr_n : -2147483648 ≤ n ∧ n < 2147483648): JV l yX4_copy wsX4_copy rm_X4_copy (jB D cI cS (wM cI ad F R)) A [.ref (ad 0), .int (iI (k)), .int (iI (i)), .int (iI (other)), .int (iI (j)), .int (iI (n))] (fun v9 (u9 : (Nat → Int) × (Nat → Nat → Int)) => v9 = some (.int (iI (k_X4_copy F R k i other j n).1)) ∧ u9.1 = (k_X4_copy F R k i other j n).2.1 ∧ jm9 u9.2 (k_X4_copy F R k i other j n).2.2) (fun u9 H => va_P D vwCl (wM cI ad u9.1 u9.2) H) := by
  refine JV.mkI rfl (by decide +kernel) rfl (Nat.le_of_ble_eq_true rfl) ?_
  intro p e st mi ar bl mth cd Q ls C hB hl hret
  obtain ⟨hE, hP⟩ := hB
  have hx := C.1
  have hb := C.2.1
  have hl : lv_has ls 7 [(0, .ref (ad 0)), (1, .int (iI (k))), (2, .int (iI (i))), (3, .int (iI (other))), (4, .int (iI (j))), (5, .int (iI (n)))] := hl
  have hin4 : ∀ w ∈ wsX40, w ∈ wsX4_copy := fun _ h => List.mem_cons_of_mem _ (List.mem_append_right _ h)
  suffices hgo : ∀ (H : Heap) (lc : List Loc), va_P D vwCl (wM cI ad F R) H → va_S A st.heap H lc → W p l e rm_X4_copy st mi ar bl mth cd H lc 0 0 Q (F0 mi 0 ls []) from hgo _ _ hP va_S.rf
  clear hP
  intro H lc hP hS
  have hM := hS9.town
  have hW := hM.works
  have hK := hM.wards
  have hlaw := hM.law
  have hrd := hM.reads
  have hsp := hM.spots
  have hhi := hM.high
  have hwd := hM.wide
  have hP8 := pw8 hW
  have hen := en_bd4 hW hM.vane
  refine lv_iload_n hx hb dX4_copy_0 rfl (lv_at hl 1 rfl) ?_
  refine jc_S C hl.1 (jpreS hE hP) (c_X4_noSheet k (show -2147483648 ≤ k ∧ k < 2147483648 from (by omega))) (va_cwS 1 C.2.2.2.2 gX4_copy_X4_noSheet rfl rfl rfl (by decide +kernel) ⟨Nat.le_of_ble_eq_true rfl, Nat.le_of_ble_eq_true rfl⟩) (As := [.int (iI (k))]) (v := .int (iI (if ¬ (0 ≤ k ∧ k ≤ 3) then 1 else 0))) (hn := rfl) (hst := rfl) (rest := []) (hW := Nat.le_of_ble_eq_true rfl) (hdg := dX4_copy_1) (hf := ⟨Nat.le_of_ble_eq_true rfl, Nat.le_of_ble_eq_true rfl⟩) ?_
  refine jz_bool_ne (tgt := 14) C dX4_copy_4 (by decide) (fun h4 => ?_) (fun h4 => ?_)
  · skip
    refine lv_aload_n hx hb dX4_copy_14 rfl (lv_at hl 0 rfl) ?_
    refine jz_const C dX4_copy_15 ?_
    refine jw_V C hl.1 (jpreV hE hP 4 0 rfl rfl) (c_X4_refused (A := A) (jDM hD) (-1) ) (cwV 1 C.2.2.2.2 gX4_copy_X4_refused rfl rfl rfl (by decide +kernel) ⟨Nat.le_of_ble_eq_true rfl, Nat.le_of_ble_eq_true rfl⟩) (As := [.int (iI (-1))]) (hn := rfl) (hst := rfl) (rest := []) (hW := Nat.le_of_ble_eq_true rfl) (hdg := dX4_copy_16) (hf := ⟨Nat.le_of_ble_eq_true rfl, Nat.le_of_ble_eq_true rfl⟩) hS (fun v9 uq16 H lc hq9 hP hS => ?_)
    obtain rfl : v9 = some (.int (iI ((-1)))) := hq9
    have hP : va_P D vwCl (wM cI ad (u1 F 0 0) R) H := hP
    have hk9 : k_X4_copy F R k i other j n = ((-1), (u1 F 0 0), R) := by rw [k_X4_copy, (if_pos h4)]
    exact hret _ ((u1 F 0 0), R) _ _ _ _ dX4_copy_19 ⟨by rw [hk9], by rw [hk9], by rw [hk9]; exact (fun q h22 h30 => by simp [uR, h22, h30])⟩ hP hS
  · skip
    refine lv_iload_n hx hb dX4_copy_7 rfl (lv_at hl 3 rfl) ?_
    refine jc_S C hl.1 (jpreS hE hP) (c_X4_noSheet other (show -2147483648 ≤ other ∧ other < 2147483648 from (by omega))) (va_cwS 1 C.2.2.2.2 gX4_copy_X4_noSheet rfl rfl rfl (by decide +kernel) ⟨Nat.le_of_ble_eq_true rfl, Nat.le_of_ble_eq_true rfl⟩) (As := [.int (iI (other))]) (v := .int (iI (if ¬ (0 ≤ other ∧ other ≤ 3) then 1 else 0))) (hn := rfl) (hst := rfl) (rest := []) (hW := Nat.le_of_ble_eq_true rfl) (hdg := dX4_copy_8) (hf := ⟨Nat.le_of_ble_eq_true rfl, Nat.le_of_ble_eq_true rfl⟩) ?_
    refine jz_bool_eq (tgt := 20) C dX4_copy_11 (by decide) (fun h11 => ?_) (fun h11 => ?_)
    · skip
      have hsz := hS9.size (k := Int.toNat k) (by omega)
      have hln := hS9.lane (k := Int.toNat k) (by omega)
      have hsz2 := hS9.size (k := Int.toNat other) (by omega)
      have hln2 := hS9.lane (k := Int.toNat other) (by omega)
      refine lv_aload_n hx hb dX4_copy_20 rfl (lv_at hl 0 rfl) ?_
      refine fg_M_sheetSize C hin4 hE hP (List.mem_of_getElem? (i := 1) rfl) dX4_copy_21 ?_
      refine lv_iload_n hx hb dX4_copy_24 rfl (lv_at hl 1 rfl) ?_
      refine fl_M_sheetSize C hE hP (v := R 27 (Int.toNat k)) dX4_copy_25 (by omega) rfl ?_
      refine jz_if_lt (tgt := 38) C dX4_copy_26 (by decide) (by omega) (fun h26 => ?_) (fun h26 => ?_)
      · skip
        refine lv_aload_n hx hb dX4_copy_38 rfl (lv_at hl 0 rfl) ?_
        refine jz_const C dX4_copy_39 ?_
        refine jw_V C hl.1 (jpreV hE hP 4 0 rfl rfl) (c_X4_failed (A := A) (jDM hD) 1 ) (cwV 1 C.2.2.2.2 gX4_copy_X4_failed rfl rfl rfl (by decide +kernel) ⟨Nat.le_of_ble_eq_true rfl, Nat.le_of_ble_eq_true rfl⟩) (As := [.int (iI (1))]) (hn := rfl) (hst := rfl) (rest := []) (hW := Nat.le_of_ble_eq_true rfl) (hdg := dX4_copy_40) (hf := ⟨Nat.le_of_ble_eq_true rfl, Nat.le_of_ble_eq_true rfl⟩) hS (fun v9 uq40 H lc hq9 hP hS => ?_)
        obtain rfl : v9 = some (.int (iI ((-10) - 1))) := hq9
        have hP : va_P D vwCl (wM cI ad (u1 F 0 1) R) H := hP
        have hk9 : k_X4_copy F R k i other j n = ((-10) - 1, (u1 F 0 1), R) := by rw [k_X4_copy, (if_neg h4), (if_neg h11), (if_pos h26)]
        exact hret _ ((u1 F 0 1), R) _ _ _ _ dX4_copy_43 ⟨by rw [hk9], by rw [hk9], by rw [hk9]; exact (fun q h22 h30 => by simp [uR, h22, h30])⟩ hP hS
      · skip
        refine lv_aload_n hx hb dX4_copy_29 rfl (lv_at hl 0 rfl) ?_
        refine fg_M_sheetSize C hin4 hE hP (List.mem_of_getElem? (i := 1) rfl) dX4_copy_30 ?_
        refine lv_iload_n hx hb dX4_copy_33 rfl (lv_at hl 3 rfl) ?_
        refine fl_M_sheetSize C hE hP (v := R 27 (Int.toNat other)) dX4_copy_34 (by omega) rfl ?_
        refine jz_if_ge (tgt := 44) C dX4_copy_35 (by decide) (by omega) (fun h35 => ?_) (fun h35 => ?_)
        · skip
          refine lv_aload_n hx hb dX4_copy_44 rfl (lv_at hl 0 rfl) ?_
          refine fg_M_sheetLane C hin4 hE hP (List.mem_of_getElem? (i := 2) rfl) dX4_copy_45 ?_
          refine lv_iload_n hx hb dX4_copy_48 rfl (lv_at hl 1 rfl) ?_
          refine fl_M_sheetLane C hE hP (v := R 28 (Int.toNat k)) dX4_copy_49 (by omega) rfl ?_
          refine lv_aload_n hx hb dX4_copy_50 rfl (lv_at hl 0 rfl) ?_
          refine fg_M_sheetLane C hin4 hE hP (List.mem_of_getElem? (i := 2) rfl) dX4_copy_51 ?_
          refine lv_iload_n hx hb dX4_copy_54 rfl (lv_at hl 3 rfl) ?_
          refine fl_M_sheetLane C hE hP (v := R 28 (Int.toNat other)) dX4_copy_55 (by omega) rfl ?_
          refine jz_icmp_eq (tgt := 65) C dX4_copy_56 (by decide) (by omega) (fun h56 => ?_) (fun h56 => ?_)
          · skip
            refine lv_iload_n hx hb dX4_copy_65 rfl (lv_at hl 2 rfl) ?_
            refine lv_iload hx hb dX4_copy_66 (lv_at hl 5 rfl) ?_
            refine jz_i2l C dX4_copy_68 (by omega) ?_
            refine lv_aload_n hx hb dX4_copy_69 rfl (lv_at hl 0 rfl) ?_
            refine fg_M_sheetSize C hin4 hE hP (List.mem_of_getElem? (i := 1) rfl) dX4_copy_70 ?_
            refine lv_iload_n hx hb dX4_copy_73 rfl (lv_at hl 1 rfl) ?_
            refine fl_M_sheetSize C hE hP (v := R 27 (Int.toNat k)) dX4_copy_74 (by omega) rfl ?_
            refine jc_S C hl.1 (jpreS hE hP) (c_X4_isBeyond i n (R 27 (Int.toNat k)) (show -2147483648 ≤ i ∧ i < 2147483648 from (by omega)) (show -2147483648 ≤ n ∧ n < 2147483648 from (by omega)) (show -2147483648 ≤ (R 27 (Int.toNat k)) ∧ (R 27 (Int.toNat k)) < 2147483648 from (by omega))) (va_cwS 3 C.2.2.2.2 gX4_copy_X4_isBeyond rfl rfl rfl (by decide +kernel) ⟨Nat.le_of_ble_eq_true rfl, Nat.le_of_ble_eq_true rfl⟩) (As := [.int (iI (i)), .long (lI (n)), .int (iI (R 27 (Int.toNat k)))]) (v := .int (iI (if ¬ (0 ≤ i ∧ 0 ≤ n ∧ i + n ≤ (R 27 (Int.toNat k))) then 1 else 0))) (hn := rfl) (hst := rfl) (rest := []) (hW := Nat.le_of_ble_eq_true rfl) (hdg := dX4_copy_75) (hf := ⟨Nat.le_of_ble_eq_true rfl, Nat.le_of_ble_eq_true rfl⟩) ?_
            refine jz_bool_ne (tgt := 98) C dX4_copy_78 (by decide) (fun h78 => ?_) (fun h78 => ?_)
            · skip
              refine lv_aload_n hx hb dX4_copy_98 rfl (lv_at hl 0 rfl) ?_
              refine jz_const C dX4_copy_99 ?_
              refine jw_V C hl.1 (jpreV hE hP 4 0 rfl rfl) (c_X4_failed (A := A) (jDM hD) 3 ) (cwV 1 C.2.2.2.2 gX4_copy_X4_failed rfl rfl rfl (by decide +kernel) ⟨Nat.le_of_ble_eq_true rfl, Nat.le_of_ble_eq_true rfl⟩) (As := [.int (iI (3))]) (hn := rfl) (hst := rfl) (rest := []) (hW := Nat.le_of_ble_eq_true rfl) (hdg := dX4_copy_100) (hf := ⟨Nat.le_of_ble_eq_true rfl, Nat.le_of_ble_eq_true rfl⟩) hS (fun v9 uq100 H lc hq9 hP hS => ?_)
              obtain rfl : v9 = some (.int (iI ((-10) - 3))) := hq9
              have hP : va_P D vwCl (wM cI ad (u1 F 0 3) R) H := hP
              have hk9 : k_X4_copy F R k i other j n = ((-10) - 3, (u1 F 0 3), R) := by rw [k_X4_copy, (if_neg h4), (if_neg h11), (if_neg (Int.not_lt.mpr h26)), (if_neg (Int.not_lt.mpr h35)), (if_pos h56), (if_pos h78)]
              exact hret _ ((u1 F 0 3), R) _ _ _ _ dX4_copy_103 ⟨by rw [hk9], by rw [hk9], by rw [hk9]; exact (fun q h22 h30 => by simp [uR, h22, h30])⟩ hP hS
            · skip
              refine lv_iload hx hb dX4_copy_81 (lv_at hl 4 rfl) ?_
              refine lv_iload hx hb dX4_copy_83 (lv_at hl 5 rfl) ?_
              refine jz_i2l C dX4_copy_85 (by omega) ?_
              refine lv_aload_n hx hb dX4_copy_86 rfl (lv_at hl 0 rfl) ?_
              refine fg_M_sheetSize C hin4 hE hP (List.mem_of_getElem? (i := 1) rfl) dX4_copy_87 ?_
              refine lv_iload_n hx hb dX4_copy_90 rfl (lv_at hl 3 rfl) ?_
              refine fl_M_sheetSize C hE hP (v := R 27 (Int.toNat other)) dX4_copy_91 (by omega) rfl ?_
              refine jc_S C hl.1 (jpreS hE hP) (c_X4_isBeyond j n (R 27 (Int.toNat other)) (show -2147483648 ≤ j ∧ j < 2147483648 from (by omega)) (show -2147483648 ≤ n ∧ n < 2147483648 from (by omega)) (show -2147483648 ≤ (R 27 (Int.toNat other)) ∧ (R 27 (Int.toNat other)) < 2147483648 from (by omega))) (va_cwS 3 C.2.2.2.2 gX4_copy_X4_isBeyond rfl rfl rfl (by decide +kernel) ⟨Nat.le_of_ble_eq_true rfl, Nat.le_of_ble_eq_true rfl⟩) (As := [.int (iI (j)), .long (lI (n)), .int (iI (R 27 (Int.toNat other)))]) (v := .int (iI (if ¬ (0 ≤ j ∧ 0 ≤ n ∧ j + n ≤ (R 27 (Int.toNat other))) then 1 else 0))) (hn := rfl) (hst := rfl) (rest := []) (hW := Nat.le_of_ble_eq_true rfl) (hdg := dX4_copy_92) (hf := ⟨Nat.le_of_ble_eq_true rfl, Nat.le_of_ble_eq_true rfl⟩) ?_
              refine jz_bool_eq (tgt := 104) C dX4_copy_95 (by decide) (fun h95 => ?_) (fun h95 => ?_)
              · skip
                refine jz_const C dX4_copy_104 ?_
                refine lv_istore (lv' := [(6, .int (iI (0))), (0, .ref (ad 0)), (1, .int (iI (k))), (2, .int (iI (i))), (3, .int (iI (other))), (4, .int (iI (j))), (5, .int (iI (n)))]) hx hb dX4_copy_105 hl (by decide) rfl (fun ls hl => ?_)
                have key107 : ∀ (n107 : Nat) (x : Nat) (hx9 : (x : Int) ≤ n), (n - (x : Int) : Int) < n107 → ∀ (H : Heap) (lc : List Loc), va_P D vwCl (wM cI ad F (uR R 30 (lcd (R 30) (R 29) (Int.toNat (60 * k + i)) x))) H → va_S A st.heap H lc → ∀ (ls : Array Slot), lv_has ls 7 [(6, .int (iI ((x : Int)))), (0, .ref (ad 0)), (1, .int (iI (k))), (2, .int (iI (i))), (3, .int (iI (other))), (4, .int (iI (j))), (5, .int (iI (n)))] → W p l e rm_X4_copy st mi ar bl mth cd H lc 0 0 Q (F0 mi 107 ls []) := by
                  intro n107
                  induction n107 with
                  | zero => intro x hx9 hn9; exfalso; omega
                  | succ n107 ih107 =>
                    intro x hx9 hn9 H lc hP hS ls hl
                    refine lv_iload hx hb dX4_copy_107 (lv_at hl 0 rfl) ?_
                    refine lv_iload hx hb dX4_copy_109 (lv_at hl 6 rfl) ?_
                    refine jz_icmp_ge (tgt := 141) C dX4_copy_111 (by decide) (by omega) (fun h111 => ?_) (fun h111 => ?_)
                    · skip
                      have hg9 : x = Int.toNat n := (by omega)
                      subst hg9
                      have hl : lv_has ls 7 [(0, .ref (ad 0)), (1, .int (iI (k))), (2, .int (iI (i))), (3, .int (iI (other))), (4, .int (iI (j))), (5, .int (iI (n)))] := lv_sub hl [1, 2, 3, 4, 5, 6] rfl
                      refine jz_const C dX4_copy_141 ?_
                      refine lv_istore (lv' := [(6, .int (iI (0))), (0, .ref (ad 0)), (1, .int (iI (k))), (2, .int (iI (i))), (3, .int (iI (other))), (4, .int (iI (j))), (5, .int (iI (n)))]) hx hb dX4_copy_142 hl (by decide) rfl (fun ls hl => ?_)
                      have key144 : ∀ (n144 : Nat) (y : Nat) (hy9 : (y : Int) ≤ n), (n - (y : Int) : Int) < n144 → ∀ (H : Heap) (lc : List Loc), va_P D vwCl (wM cI ad F (uR (uR R 30 (lcd (R 30) (R 29) (Int.toNat (60 * k + i)) (Int.toNat n))) 29 (cpz (lcd (R 30) (R 29) (Int.toNat (60 * k + i)) (Int.toNat n)) (R 29) 0 (Int.toNat (60 * other + j)) y))) H → va_S A st.heap H lc → ∀ (ls : Array Slot), lv_has ls 7 [(6, .int (iI ((y : Int)))), (0, .ref (ad 0)), (1, .int (iI (k))), (2, .int (iI (i))), (3, .int (iI (other))), (4, .int (iI (j))), (5, .int (iI (n)))] → W p l e rm_X4_copy st mi ar bl mth cd H lc 0 0 Q (F0 mi 144 ls []) := by
                        intro n144
                        induction n144 with
                        | zero => intro y hy9 hn9; exfalso; omega
                        | succ n144 ih144 =>
                          intro y hy9 hn9 H lc hP hS ls hl
                          refine lv_iload hx hb dX4_copy_144 (lv_at hl 0 rfl) ?_
                          refine lv_iload hx hb dX4_copy_146 (lv_at hl 6 rfl) ?_
                          refine jz_icmp_ge (tgt := 179) C dX4_copy_148 (by decide) (by omega) (fun h148 => ?_) (fun h148 => ?_)
                          · skip
                            have hg9 : y = Int.toNat n := (by omega)
                            subst hg9
                            have hl : lv_has ls 7 [(0, .ref (ad 0)), (1, .int (iI (k))), (2, .int (iI (i))), (3, .int (iI (other))), (4, .int (iI (j))), (5, .int (iI (n)))] := lv_sub hl [1, 2, 3, 4, 5, 6] rfl
                            have hP : va_P D vwCl (wM cI ad F (uR (uR R 30 (lcd (R 30) (R 29) (Int.toNat (60 * k + i)) (Int.toNat n))) 29 (cpz (R 29) (R 29) (Int.toNat (60 * k + i)) (Int.toNat (60 * other + j)) (Int.toNat n)))) H := by rw [cpz_lcd] at hP; exact hP
                            refine lv_aload_n hx hb dX4_copy_179 rfl (lv_at hl 0 rfl) ?_
                            refine lv_iload hx hb dX4_copy_180 (lv_at hl 5 rfl) ?_
                            refine jw_V C hl.1 (jpreV hE hP 4 0 rfl rfl) (c_X4_refused (A := A) (jDM hD) n ) (cwV 1 C.2.2.2.2 gX4_copy_X4_refused rfl rfl rfl (by decide +kernel) ⟨Nat.le_of_ble_eq_true rfl, Nat.le_of_ble_eq_true rfl⟩) (As := [.int (iI (n))]) (hn := rfl) (hst := rfl) (rest := []) (hW := Nat.le_of_ble_eq_true rfl) (hdg := dX4_copy_182) (hf := ⟨Nat.le_of_ble_eq_true rfl, Nat.le_of_ble_eq_true rfl⟩) hS (fun v9 uq182 H lc hq9 hP hS => ?_)
                            obtain rfl : v9 = some (.int (iI (n))) := hq9
                            have hP : va_P D vwCl (wM cI ad (u1 F 0 0) (uR (uR R 30 (lcd (R 30) (R 29) (Int.toNat (60 * k + i)) (Int.toNat n))) 29 (cpz (R 29) (R 29) (Int.toNat (60 * k + i)) (Int.toNat (60 * other + j)) (Int.toNat n)))) H := hP
                            have hk9 : k_X4_copy F R k i other j n = (n, (u1 F 0 0), (uR R 29 (cpz (R 29) (R 29) (Int.toNat (60 * k + i)) (Int.toNat (60 * other + j)) (Int.toNat n)))) := by rw [k_X4_copy, (if_neg h4), (if_neg h11), (if_neg (Int.not_lt.mpr h26)), (if_neg (Int.not_lt.mpr h35)), (if_pos h56), (if_neg h78), (if_neg h95)]
                            exact hret _ ((u1 F 0 0), (uR (uR R 30 (lcd (R 30) (R 29) (Int.toNat (60 * k + i)) (Int.toNat n))) 29 (cpz (R 29) (R 29) (Int.toNat (60 * k + i)) (Int.toNat (60 * other + j)) (Int.toNat n)))) _ _ _ _ dX4_copy_185 ⟨by rw [hk9], by rw [hk9], by rw [hk9]; exact (fun q h22 h30 => by simp [uR, h22, h30])⟩ hP hS
                          · skip
                            refine lv_aload_n hx hb dX4_copy_151 rfl (lv_at hl 1 rfl) ?_
                            refine fg_M_sheet C hin4 hE hP (List.mem_of_getElem? (i := 4) rfl) dX4_copy_152 ?_
                            refine jz_bipush C dX4_copy_155 (by decide +kernel) ?_
                            refine lv_iload_n hx hb dX4_copy_157 rfl (lv_at hl 4 rfl) ?_
                            refine jz_imul C dX4_copy_158 ?_
                            refine lv_iload hx hb dX4_copy_159 (lv_at hl 5 rfl) ?_
                            refine jz_iadd C dX4_copy_161 ?_
                            refine lv_iload hx hb dX4_copy_162 (lv_at hl 0 rfl) ?_
                            refine jz_iadd C dX4_copy_164 ?_
                            refine lv_aload_n hx hb dX4_copy_165 rfl (lv_at hl 1 rfl) ?_
                            refine fg_M_hands C hin4 hE hP (List.mem_of_getElem? (i := 3) rfl) dX4_copy_166 ?_
                            refine lv_iload hx hb dX4_copy_169 (lv_at hl 0 rfl) ?_
                            refine fl_M_hands C hE hP (v := (lcd (R 30) (R 29) (Int.toNat (60 * k + i)) (Int.toNat n)) y) dX4_copy_171 (by omega) rfl ?_
                            refine fs_M_sheet C hE hP (jDM hD) hS dX4_copy_172 (by omega) (fun H lc hP hS => ?_)
                            refine jz_iinc (k := 0) (z := (y : Int) + 1) (lv' := [(6, .int (iI ((y : Int) + 1))), (0, .ref (ad 0)), (1, .int (iI (k))), (2, .int (iI (i))), (3, .int (iI (other))), (4, .int (iI (j))), (5, .int (iI (n)))]) C dX4_copy_173 hl rfl rfl (by decide) rfl (fun ls hl => ?_)
                            refine lv_goto (tgt := 144) hx hb dX4_copy_176 (by decide) ?_
                            exact ih144 (y + 1) (by omega) (by omega) _ _ (by rw [uR_u, uR_q, cpz_s (by omega) (by omega)] at hP; exact hP) hS ls (lv_sub hl [0, 1, 2, 3, 4, 5, 6] rfl)
                      exact key144 (Int.toNat (n - (0 : Int)) + 1) 0 (by omega) (by omega) _ _ (by rw [cpz_0, show uR (uR R 30 (lcd (R 30) (R 29) (Int.toNat (60 * k + i)) (Int.toNat n))) 29 (R 29) = uR R 30 (lcd (R 30) (R 29) (Int.toNat (60 * k + i)) (Int.toNat n)) from uR_id (R := uR R 30 (lcd (R 30) (R 29) (Int.toNat (60 * k + i)) (Int.toNat n)))]; exact hP) hS ls (lv_sub hl [0, 1, 2, 3, 4, 5, 6] rfl)
                    · skip
                      refine lv_aload_n hx hb dX4_copy_114 rfl (lv_at hl 1 rfl) ?_
                      refine fg_M_hands C hin4 hE hP (List.mem_of_getElem? (i := 3) rfl) dX4_copy_115 ?_
                      refine lv_iload hx hb dX4_copy_118 (lv_at hl 0 rfl) ?_
                      refine lv_aload_n hx hb dX4_copy_120 rfl (lv_at hl 1 rfl) ?_
                      refine fg_M_sheet C hin4 hE hP (List.mem_of_getElem? (i := 4) rfl) dX4_copy_121 ?_
                      refine jz_bipush C dX4_copy_124 (by decide +kernel) ?_
                      refine lv_iload_n hx hb dX4_copy_126 rfl (lv_at hl 2 rfl) ?_
                      refine jz_imul C dX4_copy_127 ?_
                      refine lv_iload_n hx hb dX4_copy_128 rfl (lv_at hl 3 rfl) ?_
                      refine jz_iadd C dX4_copy_129 ?_
                      refine lv_iload hx hb dX4_copy_130 (lv_at hl 0 rfl) ?_
                      refine jz_iadd C dX4_copy_132 ?_
                      refine fl_M_sheet C hE hP (v := R 29 (Int.toNat (((60 * k) + i) + (x : Int)))) dX4_copy_133 (by omega) rfl ?_
                      refine fs_M_hands C hE hP (jDM hD) hS dX4_copy_134 (by omega) (fun H lc hP hS => ?_)
                      refine jz_iinc (k := 0) (z := (x : Int) + 1) (lv' := [(6, .int (iI ((x : Int) + 1))), (0, .ref (ad 0)), (1, .int (iI (k))), (2, .int (iI (i))), (3, .int (iI (other))), (4, .int (iI (j))), (5, .int (iI (n)))]) C dX4_copy_135 hl rfl rfl (by decide) rfl (fun ls hl => ?_)
                      refine lv_goto (tgt := 107) hx hb dX4_copy_138 (by decide) ?_
                      exact ih107 (x + 1) (by omega) (by omega) _ _ (by rw [uR_u, uR_q, Int.toNat_natCast, lcd_s (by omega)] at hP; exact hP) hS ls (lv_sub hl [0, 1, 2, 3, 4, 5, 6] rfl)
                exact key107 (Int.toNat (n - (0 : Int)) + 1) 0 (by omega) (by omega) _ _ (by rw [lcd_0, uR_id]; exact hP) hS ls (lv_sub hl [0, 1, 2, 3, 4, 5, 6] rfl)
              · skip
                refine lv_aload_n hx hb dX4_copy_98 rfl (lv_at hl 0 rfl) ?_
                refine jz_const C dX4_copy_99 ?_
                refine jw_V C hl.1 (jpreV hE hP 4 0 rfl rfl) (c_X4_failed (A := A) (jDM hD) 3 ) (cwV 1 C.2.2.2.2 gX4_copy_X4_failed rfl rfl rfl (by decide +kernel) ⟨Nat.le_of_ble_eq_true rfl, Nat.le_of_ble_eq_true rfl⟩) (As := [.int (iI (3))]) (hn := rfl) (hst := rfl) (rest := []) (hW := Nat.le_of_ble_eq_true rfl) (hdg := dX4_copy_100) (hf := ⟨Nat.le_of_ble_eq_true rfl, Nat.le_of_ble_eq_true rfl⟩) hS (fun v9 uq100 H lc hq9 hP hS => ?_)
                obtain rfl : v9 = some (.int (iI ((-10) - 3))) := hq9
                have hP : va_P D vwCl (wM cI ad (u1 F 0 3) R) H := hP
                have hk9 : k_X4_copy F R k i other j n = ((-10) - 3, (u1 F 0 3), R) := by rw [k_X4_copy, (if_neg h4), (if_neg h11), (if_neg (Int.not_lt.mpr h26)), (if_neg (Int.not_lt.mpr h35)), (if_pos h56), (if_neg h78), (if_pos h95)]
                exact hret _ ((u1 F 0 3), R) _ _ _ _ dX4_copy_103 ⟨by rw [hk9], by rw [hk9], by rw [hk9]; exact (fun q h22 h30 => by simp [uR, h22, h30])⟩ hP hS
          · skip
            refine lv_aload_n hx hb dX4_copy_59 rfl (lv_at hl 0 rfl) ?_
            refine jz_const C dX4_copy_60 ?_
            refine jw_V C hl.1 (jpreV hE hP 4 0 rfl rfl) (c_X4_failed (A := A) (jDM hD) 2 ) (cwV 1 C.2.2.2.2 gX4_copy_X4_failed rfl rfl rfl (by decide +kernel) ⟨Nat.le_of_ble_eq_true rfl, Nat.le_of_ble_eq_true rfl⟩) (As := [.int (iI (2))]) (hn := rfl) (hst := rfl) (rest := []) (hW := Nat.le_of_ble_eq_true rfl) (hdg := dX4_copy_61) (hf := ⟨Nat.le_of_ble_eq_true rfl, Nat.le_of_ble_eq_true rfl⟩) hS (fun v9 uq61 H lc hq9 hP hS => ?_)
            obtain rfl : v9 = some (.int (iI ((-10) - 2))) := hq9
            have hP : va_P D vwCl (wM cI ad (u1 F 0 2) R) H := hP
            have hk9 : k_X4_copy F R k i other j n = ((-10) - 2, (u1 F 0 2), R) := by rw [k_X4_copy, (if_neg h4), (if_neg h11), (if_neg (Int.not_lt.mpr h26)), (if_neg (Int.not_lt.mpr h35)), (if_neg (h56))]
            exact hret _ ((u1 F 0 2), R) _ _ _ _ dX4_copy_64 ⟨by rw [hk9], by rw [hk9], by rw [hk9]; exact (fun q h22 h30 => by simp [uR, h22, h30])⟩ hP hS
        · skip
          refine lv_aload_n hx hb dX4_copy_38 rfl (lv_at hl 0 rfl) ?_
          refine jz_const C dX4_copy_39 ?_
          refine jw_V C hl.1 (jpreV hE hP 4 0 rfl rfl) (c_X4_failed (A := A) (jDM hD) 1 ) (cwV 1 C.2.2.2.2 gX4_copy_X4_failed rfl rfl rfl (by decide +kernel) ⟨Nat.le_of_ble_eq_true rfl, Nat.le_of_ble_eq_true rfl⟩) (As := [.int (iI (1))]) (hn := rfl) (hst := rfl) (rest := []) (hW := Nat.le_of_ble_eq_true rfl) (hdg := dX4_copy_40) (hf := ⟨Nat.le_of_ble_eq_true rfl, Nat.le_of_ble_eq_true rfl⟩) hS (fun v9 uq40 H lc hq9 hP hS => ?_)
          obtain rfl : v9 = some (.int (iI ((-10) - 1))) := hq9
          have hP : va_P D vwCl (wM cI ad (u1 F 0 1) R) H := hP
          have hk9 : k_X4_copy F R k i other j n = ((-10) - 1, (u1 F 0 1), R) := by rw [k_X4_copy, (if_neg h4), (if_neg h11), (if_neg (Int.not_lt.mpr h26)), (if_pos h35)]
          exact hret _ ((u1 F 0 1), R) _ _ _ _ dX4_copy_43 ⟨by rw [hk9], by rw [hk9], by rw [hk9]; exact (fun q h22 h30 => by simp [uR, h22, h30])⟩ hP hS
    · skip
      refine lv_aload_n hx hb dX4_copy_14 rfl (lv_at hl 0 rfl) ?_
      refine jz_const C dX4_copy_15 ?_
      refine jw_V C hl.1 (jpreV hE hP 4 0 rfl rfl) (c_X4_refused (A := A) (jDM hD) (-1) ) (cwV 1 C.2.2.2.2 gX4_copy_X4_refused rfl rfl rfl (by decide +kernel) ⟨Nat.le_of_ble_eq_true rfl, Nat.le_of_ble_eq_true rfl⟩) (As := [.int (iI (-1))]) (hn := rfl) (hst := rfl) (rest := []) (hW := Nat.le_of_ble_eq_true rfl) (hdg := dX4_copy_16) (hf := ⟨Nat.le_of_ble_eq_true rfl, Nat.le_of_ble_eq_true rfl⟩) hS (fun v9 uq16 H lc hq9 hP hS => ?_)
      obtain rfl : v9 = some (.int (iI ((-1)))) := hq9
      have hP : va_P D vwCl (wM cI ad (u1 F 0 0) R) H := hP
      have hk9 : k_X4_copy F R k i other j n = ((-1), (u1 F 0 0), R) := by rw [k_X4_copy, (if_neg h4), (if_pos h11)]
      exact hret _ ((u1 F 0 0), R) _ _ _ _ dX4_copy_19 ⟨by rw [hk9], by rw [hk9], by rw [hk9]; exact (fun q h22 h30 => by simp [uR, h22, h30])⟩ hP hS
def k_X4_told (F : Nat → Int) (R : Nat → Nat → Int) (sheet : Int) (lane : Int) (i : Int) (n : Int) : Int × (Nat → Int) × (Nat → Nat → Int) := if ¬ (0 ≤ sheet ∧ sheet ≤ 3) then (-1, u1 F 0 0, R) else (if 0 ≤ lane ∧ lane ≤ 2 then (if F 1 = 0 then (-3, u1 F 0 0, R) else (if ftm (R 27 (Int.toNat sheet)) (R 28 (Int.toNat sheet)) lane i n = 0 then (if n = F 3 ∧ av (fun y9 : Nat => R 29 (Int.toNat (60 * sheet + i) + y9)) (Int.toNat (F 3)) = true then (su (mm F (uR R 6 (lcd (R 6) (R 29) (Int.toNat (60 * sheet + i)) (Int.toNat (F 3))))) (Int.toNat (F 7)), u1 F 0 0, R) else (-2, u1 F 0 0, R)) else (-10 - ftm (R 27 (Int.toNat sheet)) (R 28 (Int.toNat sheet)) lane i n, u1 F 0 (ftm (R 27 (Int.toNat sheet)) (R 28 (Int.toNat sheet)) lane i n), R))) else (-2, u1 F 0 0, R))
abbrev rm_X4_told : Room := { frames := 4, cells := 0, slots := 0, locals := 95 }
set_option maxHeartbeats 4000000 in
set_option maxRecDepth 100000 in
theorem c_X4_told {l : Launch} {D : va_G} {cI cS : ClassId} {ad : Nat → Nat} {F : Nat → Int} {R : Nat → Nat → Int} {A : Nat → Prop} (hD : va_D A (wM cI ad F R))  (sheet : Int) (lane : Int) (i : Int) (n : Int)  (hS9 : MV F R) (hr_sheet : -2147483648 ≤ sheet ∧ sheet < 2147483648) (hr_lane : -2147483648 ≤ lane ∧ lane < 2147483648) (hr_i : -2147483648 ≤ i ∧ i < 2147483648) (hr_n : -2147483648 ≤ n ∧ n < 2147483648): JV l yX4_told wsX4_told rm_X4_told (jB D cI cS (wM cI ad F R)) A [.ref (ad 0), .int (iI (sheet)), .int (iI (lane)), .int (iI (i)), .int (iI (n))] (fun v9 (u9 : (Nat → Int) × (Nat → Nat → Int)) => v9 = some (.int (iI (k_X4_told F R sheet lane i n).1)) ∧ u9.1 = (k_X4_told F R sheet lane i n).2.1 ∧ u9.2 = (k_X4_told F R sheet lane i n).2.2) (fun u9 H => va_P D vwCl (wM cI ad u9.1 u9.2) H) := by
  refine JV.mkI rfl (by decide +kernel) rfl (Nat.le_of_ble_eq_true rfl) ?_
  intro p e st mi ar bl mth cd Q ls C hB hl hret
  obtain ⟨hE, hP⟩ := hB
  have hx := C.1
  have hb := C.2.1
  have hl : lv_has ls 9 [(0, .ref (ad 0)), (1, .int (iI (sheet))), (2, .int (iI (lane))), (3, .int (iI (i))), (4, .int (iI (n)))] := hl
  have hin4 : ∀ w ∈ wsX40, w ∈ wsX4_told := fun _ h => List.mem_cons_of_mem _ (List.mem_append_right _ h)
  suffices hgo : ∀ (H : Heap) (lc : List Loc), va_P D vwCl (wM cI ad F R) H → va_S A st.heap H lc → W p l e rm_X4_told st mi ar bl mth cd H lc 0 0 Q (F0 mi 0 ls []) from hgo _ _ hP va_S.rf
  clear hP
  intro H lc hP hS
  have hM := hS9.town
  have hW := hM.works
  have hK := hM.wards
  have hlaw := hM.law
  have hrd := hM.reads
  have hsp := hM.spots
  have hhi := hM.high
  have hwd := hM.wide
  have hP8 := pw8 hW
  have hen := en_bd4 hW hM.vane
  refine lv_iload_n hx hb dX4_told_0 rfl (lv_at hl 1 rfl) ?_
  refine jc_S C hl.1 (jpreS hE hP) (c_X4_noSheet sheet (show -2147483648 ≤ sheet ∧ sheet < 2147483648 from (by omega))) (va_cwS 1 C.2.2.2.2 gX4_told_X4_noSheet rfl rfl rfl (by decide +kernel) ⟨Nat.le_of_ble_eq_true rfl, Nat.le_of_ble_eq_true rfl⟩) (As := [.int (iI (sheet))]) (v := .int (iI (if ¬ (0 ≤ sheet ∧ sheet ≤ 3) then 1 else 0))) (hn := rfl) (hst := rfl) (rest := []) (hW := Nat.le_of_ble_eq_true rfl) (hdg := dX4_told_1) (hf := ⟨Nat.le_of_ble_eq_true rfl, Nat.le_of_ble_eq_true rfl⟩) ?_
  refine jz_bool_eq (tgt := 13) C dX4_told_4 (by decide) (fun h4 => ?_) (fun h4 => ?_)
  · skip
    refine lv_iload_n hx hb dX4_told_13 rfl (lv_at hl 2 rfl) ?_
    refine jz_i2l C dX4_told_14 (by omega) ?_
    refine jz_lconst (z := 0) C rfl dX4_told_15 ?_
    refine jz_ldc2 (z := 2) C (List.mem_of_getElem? (i := 1) rfl) (by decide +kernel) dX4_told_16 ?_
    refine jc_S C hl.1 (jpreS hE hP) (c_X4_in lane 0 2 (show -9223372036854775808 ≤ lane ∧ lane < 9223372036854775808 from (by omega)) (show -9223372036854775808 ≤ 0 ∧ 0 < 9223372036854775808 from (by omega)) (show -9223372036854775808 ≤ 2 ∧ 2 < 9223372036854775808 from (by omega))) (va_cwS 3 C.2.2.2.2 gX4_told_X4_in rfl rfl rfl (by decide +kernel) ⟨Nat.le_of_ble_eq_true rfl, Nat.le_of_ble_eq_true rfl⟩) (As := [.long (lI (lane)), .long (lI (0)), .long (lI (2))]) (v := .int (iI (if 0 ≤ lane ∧ lane ≤ 2 then 1 else 0))) (hn := rfl) (hst := rfl) (rest := []) (hW := Nat.le_of_ble_eq_true rfl) (hdg := dX4_told_19) (hf := ⟨Nat.le_of_ble_eq_true rfl, Nat.le_of_ble_eq_true rfl⟩) ?_
    refine jz_bool_ne (tgt := 32) C dX4_told_22 (by decide) (fun h22 => ?_) (fun h22 => ?_)
    · skip
      have hsz := hS9.size (k := Int.toNat sheet) (by omega)
      have hln := hS9.lane (k := Int.toNat sheet) (by omega)
      refine lv_aload_n hx hb dX4_told_32 rfl (lv_at hl 0 rfl) ?_
      refine fg_M_high C hin4 hE hP (v := F 1) (List.mem_of_getElem? (i := 2) rfl) dX4_told_33 rfl ?_
      refine jz_if_ne (tgt := 46) C dX4_told_36 (by decide) (by omega) (fun h36 => ?_) (fun h36 => ?_)
      · skip
        refine lv_aload_n hx hb dX4_told_46 rfl (lv_at hl 0 rfl) ?_
        refine lv_iload_n hx hb dX4_told_47 rfl (lv_at hl 1 rfl) ?_
        refine lv_iload_n hx hb dX4_told_48 rfl (lv_at hl 2 rfl) ?_
        refine lv_iload_n hx hb dX4_told_49 rfl (lv_at hl 3 rfl) ?_
        refine lv_iload hx hb dX4_told_50 (lv_at hl 4 rfl) ?_
        refine jz_i2l C dX4_told_52 (by omega) ?_
        refine jz_sub (P := ftm (R 27 (Int.toNat sheet)) (R 28 (Int.toNat sheet)) lane i n = 0) (fun hq => ?_) (fun hq => ?_)
        · skip
          refine jw_V C hl.1 (jpreV hE hP 4 0 rfl rfl) (c_X4_cellsBarred_ok (A := A) (jDM hD) sheet lane i n (show 0 ≤ sheet ∧ sheet ≤ 3 from (by omega)) (hS9.size (by omega)) (hS9.lane (by omega)) (show -2147483648 ≤ lane ∧ lane < 2147483648 from (by omega)) (show -2147483648 ≤ i ∧ i < 2147483648 from (by omega)) (show -2147483648 ≤ n ∧ n < 2147483648 from (by omega)) hq) (cwV 4 C.2.2.2.2 gX4_told_X4_cellsBarred rfl rfl rfl (by decide +kernel) ⟨Nat.le_of_ble_eq_true rfl, Nat.le_of_ble_eq_true rfl⟩) (As := [.int (iI (sheet)), .int (iI (lane)), .int (iI (i)), .long (lI (n))]) (hn := rfl) (hst := rfl) (rest := []) (hW := Nat.le_of_ble_eq_true rfl) (hdg := dX4_told_53) (hf := ⟨Nat.le_of_ble_eq_true rfl, Nat.le_of_ble_eq_true rfl⟩) hS (fun v9 uq53 H lc hq9 hP hS => ?_)
          obtain rfl : v9 = some (.int (iI (0))) := hq9
          have hP : va_P D vwCl (wM cI ad F R) H := hP
          have hqb := ftm_bd (sz := R 27 (Int.toNat sheet)) (ln := R 28 (Int.toNat sheet)) (al := lane) (i := i) (n := n)
          refine lv_istore (lv' := [(5, .int (iI (0))), (0, .ref (ad 0)), (1, .int (iI (sheet))), (2, .int (iI (lane))), (3, .int (iI (i))), (4, .int (iI (n)))]) hx hb dX4_told_56 hl (by decide) rfl (fun ls hl => ?_)
          refine lv_iload hx hb dX4_told_58 (lv_at hl 0 rfl) ?_
          refine jz_if_ge (tgt := 66) C dX4_told_60 (by decide) (by omega) (fun h60 => ?_) (fun h60 => ?_)
          · skip
            have hix := ftm_0 hq
            refine jz_cut (X := ∀ ls : Array Slot, lv_has ls 9 [(5, .int (iI (0))), (0, .ref (ad 0)), (1, .int (iI (sheet))), (2, .int (iI (lane))), (3, .int (iI (i))), (4, .int (iI (n)))] → W p l e rm_X4_told st mi ar bl mth cd H lc 0 0 Q (F0 mi 80 ls [.int (iI (if n = F 3 then 1 else 0))])) (fun ls hl => ?_) (fun hj66 => ?_)
            · skip
              refine lv_istore (lv' := [(6, .int (iI (if n = F 3 then 1 else 0))), (5, .int (iI (0))), (0, .ref (ad 0)), (1, .int (iI (sheet))), (2, .int (iI (lane))), (3, .int (iI (i))), (4, .int (iI (n)))]) hx hb dX4_told_80 hl (by decide) rfl (fun ls hl => ?_)
              refine jz_const C dX4_told_82 ?_
              refine lv_istore (lv' := [(7, .int (iI (0))), (6, .int (iI (if n = F 3 then 1 else 0))), (5, .int (iI (0))), (0, .ref (ad 0)), (1, .int (iI (sheet))), (2, .int (iI (lane))), (3, .int (iI (i))), (4, .int (iI (n)))]) hx hb dX4_told_83 hl (by decide) rfl (fun ls hl => ?_)
              have key85 : ∀ (n85 : Nat) (w : Nat) (hw : (w : Int) ≤ F 3), (F 3 - (w : Int) : Int) < n85 → ∀ (H : Heap) (lc : List Loc), va_P D vwCl (wM cI ad F R) H → va_S A st.heap H lc → ∀ (ls : Array Slot), lv_has ls 9 [(7, .int (iI ((w : Int)))), (6, .int (iI (if n = F 3 ∧ av (fun y9 : Nat => R 29 (Int.toNat (60 * sheet + i) + y9)) w = true then 1 else 0))), (5, .int (iI (0))), (0, .ref (ad 0)), (1, .int (iI (sheet))), (2, .int (iI (lane))), (3, .int (iI (i))), (4, .int (iI (n)))] → W p l e rm_X4_told st mi ar bl mth cd H lc 0 0 Q (F0 mi 85 ls []) := by
                intro n85
                induction n85 with
                | zero => intro w hw hn9; exfalso; omega
                | succ n85 ih85 =>
                  intro w hw hn9 H lc hP hS ls hl
                  refine lv_iload hx hb dX4_told_85 (lv_at hl 0 rfl) ?_
                  refine lv_aload_n hx hb dX4_told_87 rfl (lv_at hl 3 rfl) ?_
                  refine fg_M_works C hin4 hE hP (v := F 3) (List.mem_of_getElem? (i := 3) rfl) dX4_told_88 rfl ?_
                  refine jz_icmp_ge (tgt := 129) C dX4_told_91 (by decide) (by omega) (fun h91 => ?_) (fun h91 => ?_)
                  · skip
                    refine lv_iload hx hb dX4_told_129 (lv_at hl 1 rfl) ?_
                    refine jz_bool_ne (tgt := 141) C dX4_told_131 (by decide) (fun h131 => ?_) (fun h131 => ?_)
                    · skip
                      have hav : n = F 3 ∧ av (fun y9 : Nat => R 29 (Int.toNat (60 * sheet + i) + y9)) (Int.toNat (F 3)) = true := by first | (rw [show Int.toNat (F 3) = w by omega]; assumption) | assumption
                      refine lv_aload_n hx hb dX4_told_141 rfl (lv_at hl 3 rfl) ?_
                      refine jc_V C hl.1 (jpreV hE hP 4 0 rfl rfl) (c_X4_vanesNow  (by first | exact hM | assumption)) (cwV 0 C.2.2.2.2 gX4_told_X4_vanesNow rfl rfl rfl (by decide +kernel) ⟨Nat.le_of_ble_eq_true rfl, Nat.le_of_ble_eq_true rfl⟩) (As := []) (v := .int (iI (en (R 6) (Int.toNat (F 3))))) (hn := rfl) (hst := rfl) (rest := []) (hW := Nat.le_of_ble_eq_true rfl) (hdg := dX4_told_142) (hf := ⟨Nat.le_of_ble_eq_true rfl, Nat.le_of_ble_eq_true rfl⟩) ?_
                      refine lv_istore (lv' := [(7, .int (iI (en (R 6) (Int.toNat (F 3))))), (6, .int (iI (if n = F 3 ∧ av (fun y9 : Nat => R 29 (Int.toNat (60 * sheet + i) + y9)) w = true then 1 else 0))), (5, .int (iI (0))), (0, .ref (ad 0)), (1, .int (iI (sheet))), (2, .int (iI (lane))), (3, .int (iI (i))), (4, .int (iI (n)))]) hx hb dX4_told_145 hl (by decide) rfl (fun ls hl => ?_)
                      refine jz_const C dX4_told_147 ?_
                      refine lv_istore (lv' := [(8, .int (iI (0))), (7, .int (iI (en (R 6) (Int.toNat (F 3))))), (6, .int (iI (if n = F 3 ∧ av (fun y9 : Nat => R 29 (Int.toNat (60 * sheet + i) + y9)) w = true then 1 else 0))), (5, .int (iI (0))), (0, .ref (ad 0)), (1, .int (iI (sheet))), (2, .int (iI (lane))), (3, .int (iI (i))), (4, .int (iI (n)))]) hx hb dX4_told_148 hl (by decide) rfl (fun ls hl => ?_)
                      have key150 : ∀ (n150 : Nat) (x : Nat) (hx9 : (x : Int) ≤ F 3), (F 3 - (x : Int) : Int) < n150 → ∀ (H : Heap) (lc : List Loc), va_P D vwCl (wM cI ad F (uR R 6 (lcd (R 6) (R 29) (Int.toNat (60 * sheet + i)) x))) H → va_S A st.heap H lc → ∀ (ls : Array Slot), lv_has ls 9 [(8, .int (iI ((x : Int)))), (7, .int (iI (en (R 6) (Int.toNat (F 3))))), (6, .int (iI (if n = F 3 ∧ av (fun y9 : Nat => R 29 (Int.toNat (60 * sheet + i) + y9)) w = true then 1 else 0))), (5, .int (iI (0))), (0, .ref (ad 0)), (1, .int (iI (sheet))), (2, .int (iI (lane))), (3, .int (iI (i))), (4, .int (iI (n)))] → W p l e rm_X4_told st mi ar bl mth cd H lc 0 0 Q (F0 mi 150 ls []) := by
                        intro n150
                        induction n150 with
                        | zero => intro x hx9 hn9; exfalso; omega
                        | succ n150 ih150 =>
                          intro x hx9 hn9 H lc hP hS ls hl
                          refine lv_iload hx hb dX4_told_150 (lv_at hl 0 rfl) ?_
                          refine lv_aload_n hx hb dX4_told_152 rfl (lv_at hl 4 rfl) ?_
                          refine fg_M_works C hin4 hE hP (v := F 3) (List.mem_of_getElem? (i := 3) rfl) dX4_told_153 rfl ?_
                          refine jz_icmp_ge (tgt := 186) C dX4_told_156 (by decide) (by omega) (fun h156 => ?_) (fun h156 => ?_)
                          · skip
                            have hg9 : x = Int.toNat (F 3) := (by omega)
                            subst hg9
                            have hl : lv_has ls 9 [(7, .int (iI (en (R 6) (Int.toNat (F 3))))), (6, .int (iI (if n = F 3 ∧ av (fun y9 : Nat => R 29 (Int.toNat (60 * sheet + i) + y9)) w = true then 1 else 0))), (5, .int (iI (0))), (0, .ref (ad 0)), (1, .int (iI (sheet))), (2, .int (iI (lane))), (3, .int (iI (i))), (4, .int (iI (n)))] := lv_sub hl [1, 2, 3, 4, 5, 6, 7, 8] rfl
                            have hML : MI F (uR R 6 (lcd (R 6) (R 29) (Int.toNat (60 * sheet + i)) (Int.toNat (F 3)))) := hM.turn (fun y9 hy9 => by
            unfold lcd
            split
            · next e9 => have h5 := av_at e9 hav.2; first | omega | (simp only at h5; omega)
            · exact hM.vane y9 hy9)
                            have hsu := su_bd (f := mm F (uR R 6 (lcd (R 6) (R 29) (Int.toNat (60 * sheet + i)) (Int.toNat (F 3))))) (n := Int.toNat (F 7)) (b := 720) (fun x hx => mm_bd hML (by omega))
                            refine lv_aload_n hx hb dX4_told_186 rfl (lv_at hl 3 rfl) ?_
                            refine jc_V C hl.1 (jpreV hE hP 4 0 rfl rfl) (c_X4_burdenNow  hML) (cwV 0 C.2.2.2.2 gX4_told_X4_burdenNow rfl rfl rfl (by decide +kernel) ⟨Nat.le_of_ble_eq_true rfl, Nat.le_of_ble_eq_true rfl⟩) (As := []) (v := .int (iI (su (mm F (uR R 6 (lcd (R 6) (R 29) (Int.toNat (60 * sheet + i)) (Int.toNat (F 3))))) (Int.toNat (F 7))))) (hn := rfl) (hst := rfl) (rest := []) (hW := Nat.le_of_ble_eq_true rfl) (hdg := dX4_told_187) (hf := ⟨Nat.le_of_ble_eq_true rfl, Nat.le_of_ble_eq_true rfl⟩) ?_
                            refine lv_istore (lv' := [(8, .int (iI (su (mm F (uR R 6 (lcd (R 6) (R 29) (Int.toNat (60 * sheet + i)) (Int.toNat (F 3))))) (Int.toNat (F 7))))), (7, .int (iI (en (R 6) (Int.toNat (F 3))))), (6, .int (iI (if n = F 3 ∧ av (fun y9 : Nat => R 29 (Int.toNat (60 * sheet + i) + y9)) w = true then 1 else 0))), (5, .int (iI (0))), (0, .ref (ad 0)), (1, .int (iI (sheet))), (2, .int (iI (lane))), (3, .int (iI (i))), (4, .int (iI (n)))]) hx hb dX4_told_190 hl (by decide) rfl (fun ls hl => ?_)
                            refine lv_aload_n hx hb dX4_told_192 rfl (lv_at hl 4 rfl) ?_
                            refine lv_iload hx hb dX4_told_193 (lv_at hl 1 rfl) ?_
                            refine jw_V C hl.1 (jpreV hE hP 4 0 rfl rfl) (c_X4_turnAll (A := A) (jDM hD) (en (R 6) (Int.toNat (F 3))) hM.works (show 0 ≤ (en (R 6) (Int.toNat (F 3))) ∧ (en (R 6) (Int.toNat (F 3))) < 256 from (by omega))) (cwV 1 C.2.2.2.2 gX4_told_X4_turnAll rfl rfl rfl (by decide +kernel) ⟨Nat.le_of_ble_eq_true rfl, Nat.le_of_ble_eq_true rfl⟩) (As := [.int (iI (en (R 6) (Int.toNat (F 3))))]) (hn := rfl) (hst := rfl) (rest := []) (hW := Nat.le_of_ble_eq_true rfl) (hdg := dX4_told_195) (hf := ⟨Nat.le_of_ble_eq_true rfl, Nat.le_of_ble_eq_true rfl⟩) hS (fun v9 uq195 H lc hq9 hP hS => ?_)
                            subst hq9
                            have hP : va_P D vwCl (wM cI ad F (uR (uR R 6 (lcd (R 6) (R 29) (Int.toNat (60 * sheet + i)) (Int.toNat (F 3)))) 6 (tA (F 3) (en (R 6) (Int.toNat (F 3))) (lcd (R 6) (R 29) (Int.toNat (60 * sheet + i)) (Int.toNat (F 3)))))) H := hP
                            have hP : va_P D vwCl (wM cI ad F R) H := by rw [tA_back hM (fun x hx => by unfold lcd; rw [if_neg (by omega)]), uR_u, uR_id] at hP; exact hP
                            refine lv_aload_n hx hb dX4_told_198 rfl (lv_at hl 4 rfl) ?_
                            refine lv_iload hx hb dX4_told_199 (lv_at hl 0 rfl) ?_
                            refine jw_V C hl.1 (jpreV hE hP 4 0 rfl rfl) (c_X4_refused (A := A) (jDM hD) (su (mm F (uR R 6 (lcd (R 6) (R 29) (Int.toNat (60 * sheet + i)) (Int.toNat (F 3))))) (Int.toNat (F 7))) ) (cwV 1 C.2.2.2.2 gX4_told_X4_refused rfl rfl rfl (by decide +kernel) ⟨Nat.le_of_ble_eq_true rfl, Nat.le_of_ble_eq_true rfl⟩) (As := [.int (iI (su (mm F (uR R 6 (lcd (R 6) (R 29) (Int.toNat (60 * sheet + i)) (Int.toNat (F 3))))) (Int.toNat (F 7))))]) (hn := rfl) (hst := rfl) (rest := []) (hW := Nat.le_of_ble_eq_true rfl) (hdg := dX4_told_201) (hf := ⟨Nat.le_of_ble_eq_true rfl, Nat.le_of_ble_eq_true rfl⟩) hS (fun v9 uq201 H lc hq9 hP hS => ?_)
                            obtain rfl : v9 = some (.int (iI ((su (mm F (uR R 6 (lcd (R 6) (R 29) (Int.toNat (60 * sheet + i)) (Int.toNat (F 3))))) (Int.toNat (F 7)))))) := hq9
                            have hP : va_P D vwCl (wM cI ad (u1 F 0 0) R) H := hP
                            have hk9 : k_X4_told F R sheet lane i n = ((su (mm F (uR R 6 (lcd (R 6) (R 29) (Int.toNat (60 * sheet + i)) (Int.toNat (F 3))))) (Int.toNat (F 7))), (u1 F 0 0), R) := by rw [k_X4_told, if_neg h4, if_pos h22, if_neg h36, if_pos hq, if_pos hav]
                            exact hret _ ((u1 F 0 0), R) _ _ _ _ dX4_told_204 ⟨by rw [hk9], by rw [hk9], by rw [hk9]⟩ hP hS
                          · skip
                            refine lv_aload_n hx hb dX4_told_159 rfl (lv_at hl 4 rfl) ?_
                            refine fg_M_vaneOf C hin4 hE hP (List.mem_of_getElem? (i := 6) rfl) dX4_told_160 ?_
                            refine lv_iload hx hb dX4_told_163 (lv_at hl 0 rfl) ?_
                            refine lv_aload_n hx hb dX4_told_165 rfl (lv_at hl 4 rfl) ?_
                            refine fg_M_sheet C hin4 hE hP (List.mem_of_getElem? (i := 4) rfl) dX4_told_166 ?_
                            refine jz_bipush C dX4_told_169 (by decide +kernel) ?_
                            refine lv_iload_n hx hb dX4_told_171 rfl (lv_at hl 5 rfl) ?_
                            refine jz_imul C dX4_told_172 ?_
                            refine lv_iload_n hx hb dX4_told_173 rfl (lv_at hl 7 rfl) ?_
                            refine jz_iadd C dX4_told_174 ?_
                            refine lv_iload hx hb dX4_told_175 (lv_at hl 0 rfl) ?_
                            refine jz_iadd C dX4_told_177 ?_
                            refine fl_M_sheet C hE hP (v := R 29 (Int.toNat (((60 * sheet) + i) + (x : Int)))) dX4_told_178 (by omega) rfl ?_
                            refine fs_M_vaneOf C hE hP (jDM hD) hS dX4_told_179 (by omega) (fun H lc hP hS => ?_)
                            refine jz_iinc (k := 0) (z := (x : Int) + 1) (lv' := [(8, .int (iI ((x : Int) + 1))), (7, .int (iI (en (R 6) (Int.toNat (F 3))))), (6, .int (iI (if n = F 3 ∧ av (fun y9 : Nat => R 29 (Int.toNat (60 * sheet + i) + y9)) w = true then 1 else 0))), (5, .int (iI (0))), (0, .ref (ad 0)), (1, .int (iI (sheet))), (2, .int (iI (lane))), (3, .int (iI (i))), (4, .int (iI (n)))]) C dX4_told_180 hl rfl rfl (by decide) rfl (fun ls hl => ?_)
                            refine lv_goto (tgt := 150) hx hb dX4_told_183 (by decide) ?_
                            exact ih150 (x + 1) (by omega) (by omega) _ _ (by rw [uR_u, uR_q, Int.toNat_natCast, lcd_s (by omega)] at hP; exact hP) hS ls (lv_sub hl [0, 1, 2, 3, 4, 5, 6, 7, 8] rfl)
                      exact key150 (Int.toNat (F 3 - (0 : Int)) + 1) 0 (by omega) (by omega) _ _ (by rw [lcd_0, uR_id]; exact hP) hS ls (lv_sub hl [0, 1, 2, 3, 4, 5, 6, 7, 8] rfl)
                    · skip
                      refine lv_aload_n hx hb dX4_told_134 rfl (lv_at hl 3 rfl) ?_
                      refine jz_bipush C dX4_told_135 (by decide +kernel) ?_
                      refine jw_V C hl.1 (jpreV hE hP 4 0 rfl rfl) (c_X4_refused (A := A) (jDM hD) (-2) ) (cwV 1 C.2.2.2.2 gX4_told_X4_refused rfl rfl rfl (by decide +kernel) ⟨Nat.le_of_ble_eq_true rfl, Nat.le_of_ble_eq_true rfl⟩) (As := [.int (iI (-2))]) (hn := rfl) (hst := rfl) (rest := []) (hW := Nat.le_of_ble_eq_true rfl) (hdg := dX4_told_137) (hf := ⟨Nat.le_of_ble_eq_true rfl, Nat.le_of_ble_eq_true rfl⟩) hS (fun v9 uq137 H lc hq9 hP hS => ?_)
                      obtain rfl : v9 = some (.int (iI ((-2)))) := hq9
                      have hP : va_P D vwCl (wM cI ad (u1 F 0 0) R) H := hP
                      have hk9 : k_X4_told F R sheet lane i n = ((-2), (u1 F 0 0), R) := by rw [k_X4_told, if_neg h4, if_pos h22, if_neg h36, if_pos hq, if_neg (fun q => h131 ⟨q.1, av_mono (by omega) q.2⟩)]
                      exact hret _ ((u1 F 0 0), R) _ _ _ _ dX4_told_140 ⟨by rw [hk9], by rw [hk9], by rw [hk9]⟩ hP hS
                  · skip
                    refine lv_iload hx hb dX4_told_94 (lv_at hl 1 rfl) ?_
                    refine jz_bool_eq (tgt := 129) C dX4_told_96 (by decide) (fun h96 => ?_) (fun h96 => ?_)
                    · skip
                      refine lv_iload hx hb dX4_told_129 (lv_at hl 1 rfl) ?_
                      refine jz_bool_ne (tgt := 141) C dX4_told_131 (by decide) (fun h131 => ?_) (fun h131 => ?_)
                      · exact absurd h131 h96
                      · skip
                        refine lv_aload_n hx hb dX4_told_134 rfl (lv_at hl 3 rfl) ?_
                        refine jz_bipush C dX4_told_135 (by decide +kernel) ?_
                        refine jw_V C hl.1 (jpreV hE hP 4 0 rfl rfl) (c_X4_refused (A := A) (jDM hD) (-2) ) (cwV 1 C.2.2.2.2 gX4_told_X4_refused rfl rfl rfl (by decide +kernel) ⟨Nat.le_of_ble_eq_true rfl, Nat.le_of_ble_eq_true rfl⟩) (As := [.int (iI (-2))]) (hn := rfl) (hst := rfl) (rest := []) (hW := Nat.le_of_ble_eq_true rfl) (hdg := dX4_told_137) (hf := ⟨Nat.le_of_ble_eq_true rfl, Nat.le_of_ble_eq_true rfl⟩) hS (fun v9 uq137 H lc hq9 hP hS => ?_)
                        obtain rfl : v9 = some (.int (iI ((-2)))) := hq9
                        have hP : va_P D vwCl (wM cI ad (u1 F 0 0) R) H := hP
                        have hk9 : k_X4_told F R sheet lane i n = ((-2), (u1 F 0 0), R) := by rw [k_X4_told, if_neg h4, if_pos h22, if_neg h36, if_pos hq, if_neg (fun q => h131 ⟨q.1, av_mono (by omega) q.2⟩)]
                        exact hret _ ((u1 F 0 0), R) _ _ _ _ dX4_told_140 ⟨by rw [hk9], by rw [hk9], by rw [hk9]⟩ hP hS
                    · skip
                      have hrow := hS9.row (j := Int.toNat (60 * sheet + i + (w : Int))) (by omega)
                      have hidx : Int.toNat (60 * sheet + i) + w = Int.toNat (60 * sheet + i + (w : Int)) := by omega
                      refine lv_aload_n hx hb dX4_told_99 rfl (lv_at hl 3 rfl) ?_
                      refine fg_M_sheet C hin4 hE hP (List.mem_of_getElem? (i := 4) rfl) dX4_told_100 ?_
                      refine jz_bipush C dX4_told_103 (by decide +kernel) ?_
                      refine lv_iload_n hx hb dX4_told_105 rfl (lv_at hl 4 rfl) ?_
                      refine jz_imul C dX4_told_106 ?_
                      refine lv_iload_n hx hb dX4_told_107 rfl (lv_at hl 6 rfl) ?_
                      refine jz_iadd C dX4_told_108 ?_
                      refine lv_iload hx hb dX4_told_109 (lv_at hl 0 rfl) ?_
                      refine jz_iadd C dX4_told_111 ?_
                      refine fl_M_sheet C hE hP (v := R 29 (Int.toNat (((60 * sheet) + i) + (w : Int)))) dX4_told_112 (by omega) rfl ?_
                      refine jz_i2l C dX4_told_113 (by omega) ?_
                      refine jz_lconst (z := 0) C rfl dX4_told_114 ?_
                      refine jz_ldc2 (z := 3) C (List.mem_of_getElem? (i := 5) rfl) (by decide +kernel) dX4_told_115 ?_
                      refine jc_S C hl.1 (jpreS hE hP) (c_X4_in (R 29 (Int.toNat (((60 * sheet) + i) + (w : Int)))) 0 3 (show -9223372036854775808 ≤ (R 29 (Int.toNat (((60 * sheet) + i) + (w : Int)))) ∧ (R 29 (Int.toNat (((60 * sheet) + i) + (w : Int)))) < 9223372036854775808 from (by omega)) (show -9223372036854775808 ≤ 0 ∧ 0 < 9223372036854775808 from (by omega)) (show -9223372036854775808 ≤ 3 ∧ 3 < 9223372036854775808 from (by omega))) (va_cwS 3 C.2.2.2.2 gX4_told_X4_in rfl rfl rfl (by decide +kernel) ⟨Nat.le_of_ble_eq_true rfl, Nat.le_of_ble_eq_true rfl⟩) (As := [.long (lI (R 29 (Int.toNat (((60 * sheet) + i) + (w : Int))))), .long (lI (0)), .long (lI (3))]) (v := .int (iI (if 0 ≤ (R 29 (Int.toNat (((60 * sheet) + i) + (w : Int)))) ∧ (R 29 (Int.toNat (((60 * sheet) + i) + (w : Int)))) ≤ 3 then 1 else 0))) (hn := rfl) (hst := rfl) (rest := []) (hW := Nat.le_of_ble_eq_true rfl) (hdg := dX4_told_118) (hf := ⟨Nat.le_of_ble_eq_true rfl, Nat.le_of_ble_eq_true rfl⟩) ?_
                      refine lv_istore (lv' := [(6, .int (iI (if 0 ≤ (R 29 (Int.toNat (((60 * sheet) + i) + (w : Int)))) ∧ (R 29 (Int.toNat (((60 * sheet) + i) + (w : Int)))) ≤ 3 then 1 else 0))), (7, .int (iI ((w : Int)))), (5, .int (iI (0))), (0, .ref (ad 0)), (1, .int (iI (sheet))), (2, .int (iI (lane))), (3, .int (iI (i))), (4, .int (iI (n)))]) hx hb dX4_told_121 hl (by decide) rfl (fun ls hl => ?_)
                      refine jz_iinc (k := 1) (z := (w : Int) + 1) (lv' := [(7, .int (iI ((w : Int) + 1))), (6, .int (iI (if 0 ≤ (R 29 (Int.toNat (((60 * sheet) + i) + (w : Int)))) ∧ (R 29 (Int.toNat (((60 * sheet) + i) + (w : Int)))) ≤ 3 then 1 else 0))), (5, .int (iI (0))), (0, .ref (ad 0)), (1, .int (iI (sheet))), (2, .int (iI (lane))), (3, .int (iI (i))), (4, .int (iI (n)))]) C dX4_told_123 hl rfl rfl (by decide) rfl (fun ls hl => ?_)
                      refine lv_goto (tgt := 85) hx hb dX4_told_126 (by decide) ?_
                      have hl9 : lv_has ls 9 [(7, .int (iI ((w + 1 : Int)))), (6, .int (iI (if n = F 3 ∧ av (fun y9 : Nat => R 29 (Int.toNat (60 * sheet + i) + y9)) (w + 1) = true then 1 else 0))), (5, .int (iI (0))), (0, .ref (ad 0)), (1, .int (iI (sheet))), (2, .int (iI (lane))), (3, .int (iI (i))), (4, .int (iI (n)))] := by
                        rw [show ((if n = F 3 ∧ av (fun y9 : Nat => R 29 (Int.toNat (60 * sheet + i) + y9)) (w + 1) = true then 1 else 0) : Int) = (if 0 ≤ (R 29 (Int.toNat (((60 * sheet) + i) + (w : Int)))) ∧ (R 29 (Int.toNat (((60 * sheet) + i) + (w : Int)))) ≤ 3 then 1 else 0) from by exact ite9 ((av_b h96).trans (by rw [hidx]))]
                        exact lv_sub hl [0, 1, 2, 3, 4, 5, 6, 7] rfl
                      exact ih85 (w + 1) (by omega) (by omega) _ _ hP hS ls hl9
              have hl9 : lv_has ls 9 [(7, .int (iI ((0 : Int)))), (6, .int (iI (if n = F 3 ∧ av (fun y9 : Nat => R 29 (Int.toNat (60 * sheet + i) + y9)) 0 = true then 1 else 0))), (5, .int (iI (0))), (0, .ref (ad 0)), (1, .int (iI (sheet))), (2, .int (iI (lane))), (3, .int (iI (i))), (4, .int (iI (n)))] := by
                rw [show ((if n = F 3 ∧ av (fun y9 : Nat => R 29 (Int.toNat (60 * sheet + i) + y9)) 0 = true then 1 else 0) : Int) = (if n = F 3 then 1 else 0) from by exact ite9 ⟨fun q => q.1, fun q => ⟨q, rfl⟩⟩]
                exact lv_sub hl [0, 1, 2, 3, 4, 5, 6, 7] rfl
              exact key85 (Int.toNat (F 3 - (0 : Int)) + 1) 0 (by omega) (by omega) _ _ hP hS ls hl9
            · skip
              have hix := ftm_0 hq
              refine lv_iload hx hb dX4_told_66 (lv_at hl 5 rfl) ?_
              refine lv_aload_n hx hb dX4_told_68 rfl (lv_at hl 1 rfl) ?_
              refine fg_M_works C hin4 hE hP (v := F 3) (List.mem_of_getElem? (i := 3) rfl) dX4_told_69 rfl ?_
              refine jz_icmp_ne (tgt := 79) C dX4_told_72 (by decide) (by omega) (fun h72 => ?_) (fun h72 => ?_)
              · skip
                refine jz_const C dX4_told_79 ?_
                have hl9 : lv_has ls 9 [(5, .int (iI (0))), (0, .ref (ad 0)), (1, .int (iI (sheet))), (2, .int (iI (lane))), (3, .int (iI (i))), (4, .int (iI (n)))] := lv_sub hl [0, 1, 2, 3, 4, 5] rfl
                have hj9 := hj66 ls hl9
                rw [show ((if n = F 3 then 1 else 0) : Int) = 0 from by first | rfl | exact if_pos (by assumption) | exact if_neg (by assumption) | exact (if_pos (by assumption)).symm | exact (if_neg (by assumption)).symm | omega | (simp only [*, if_true, if_false, not_true, not_false_iff]; done) | (simp [*]; done) | (split <;> omega)] at hj9
                exact hj9
              · skip
                refine jz_const C dX4_told_75 ?_
                refine lv_goto (tgt := 80) hx hb dX4_told_76 (by decide) ?_
                have hl9 : lv_has ls 9 [(5, .int (iI (0))), (0, .ref (ad 0)), (1, .int (iI (sheet))), (2, .int (iI (lane))), (3, .int (iI (i))), (4, .int (iI (n)))] := lv_sub hl [0, 1, 2, 3, 4, 5] rfl
                have hj9 := hj66 ls hl9
                rw [show ((if n = F 3 then 1 else 0) : Int) = 1 from by first | rfl | exact if_pos (by assumption) | exact if_neg (by assumption) | exact (if_pos (by assumption)).symm | exact (if_neg (by assumption)).symm | omega | (simp only [*, if_true, if_false, not_true, not_false_iff]; done) | (simp [*]; done) | (split <;> omega)] at hj9
                exact hj9
          · exact absurd h60 (by decide)
        · skip
          refine jw_V C hl.1 (jpreV hE hP 4 0 rfl rfl) (c_X4_cellsBarred_no (A := A) (jDM hD) sheet lane i n (show 0 ≤ sheet ∧ sheet ≤ 3 from (by omega)) (hS9.size (by omega)) (hS9.lane (by omega)) (show -2147483648 ≤ lane ∧ lane < 2147483648 from (by omega)) (show -2147483648 ≤ i ∧ i < 2147483648 from (by omega)) (show -2147483648 ≤ n ∧ n < 2147483648 from (by omega)) hq) (cwV 4 C.2.2.2.2 gX4_told_X4_cellsBarred rfl rfl rfl (by decide +kernel) ⟨Nat.le_of_ble_eq_true rfl, Nat.le_of_ble_eq_true rfl⟩) (As := [.int (iI (sheet)), .int (iI (lane)), .int (iI (i)), .long (lI (n))]) (hn := rfl) (hst := rfl) (rest := []) (hW := Nat.le_of_ble_eq_true rfl) (hdg := dX4_told_53) (hf := ⟨Nat.le_of_ble_eq_true rfl, Nat.le_of_ble_eq_true rfl⟩) hS (fun v9 uq53 H lc hq9 hP hS => ?_)
          obtain rfl : v9 = some (.int (iI (-10 - ftm (R 27 (Int.toNat sheet)) (R 28 (Int.toNat sheet)) lane i n))) := hq9
          have hP : va_P D vwCl (wM cI ad (u1 F 0 (ftm (R 27 (Int.toNat sheet)) (R 28 (Int.toNat sheet)) lane i n)) R) H := hP
          have hqb := ftm_bd (sz := R 27 (Int.toNat sheet)) (ln := R 28 (Int.toNat sheet)) (al := lane) (i := i) (n := n)
          refine lv_istore (lv' := [(5, .int (iI (-10 - ftm (R 27 (Int.toNat sheet)) (R 28 (Int.toNat sheet)) lane i n))), (0, .ref (ad 0)), (1, .int (iI (sheet))), (2, .int (iI (lane))), (3, .int (iI (i))), (4, .int (iI (n)))]) hx hb dX4_told_56 hl (by decide) rfl (fun ls hl => ?_)
          refine lv_iload hx hb dX4_told_58 (lv_at hl 0 rfl) ?_
          refine jz_if_ge (tgt := 66) C dX4_told_60 (by decide) (by omega) (fun h60 => ?_) (fun h60 => ?_)
          · exfalso; omega
          · skip
            refine lv_iload hx hb dX4_told_63 (lv_at hl 0 rfl) ?_
            have hk9 : k_X4_told F R sheet lane i n = (-10 - ftm (R 27 (Int.toNat sheet)) (R 28 (Int.toNat sheet)) lane i n, (u1 F 0 (ftm (R 27 (Int.toNat sheet)) (R 28 (Int.toNat sheet)) lane i n)), R) := by rw [k_X4_told, (if_neg h4), (if_pos h22), (if_neg (h36)), (if_neg hq)]
            exact hret _ ((u1 F 0 (ftm (R 27 (Int.toNat sheet)) (R 28 (Int.toNat sheet)) lane i n)), R) _ _ _ _ dX4_told_65 ⟨by rw [hk9], by rw [hk9], by rw [hk9]⟩ hP hS
      · skip
        refine lv_aload_n hx hb dX4_told_39 rfl (lv_at hl 0 rfl) ?_
        refine jz_bipush C dX4_told_40 (by decide +kernel) ?_
        refine jw_V C hl.1 (jpreV hE hP 4 0 rfl rfl) (c_X4_refused (A := A) (jDM hD) (-3) ) (cwV 1 C.2.2.2.2 gX4_told_X4_refused rfl rfl rfl (by decide +kernel) ⟨Nat.le_of_ble_eq_true rfl, Nat.le_of_ble_eq_true rfl⟩) (As := [.int (iI (-3))]) (hn := rfl) (hst := rfl) (rest := []) (hW := Nat.le_of_ble_eq_true rfl) (hdg := dX4_told_42) (hf := ⟨Nat.le_of_ble_eq_true rfl, Nat.le_of_ble_eq_true rfl⟩) hS (fun v9 uq42 H lc hq9 hP hS => ?_)
        obtain rfl : v9 = some (.int (iI ((-3)))) := hq9
        have hP : va_P D vwCl (wM cI ad (u1 F 0 0) R) H := hP
        have hk9 : k_X4_told F R sheet lane i n = ((-3), (u1 F 0 0), R) := by rw [k_X4_told, (if_neg h4), (if_pos h22), (if_pos h36)]
        exact hret _ ((u1 F 0 0), R) _ _ _ _ dX4_told_45 ⟨by rw [hk9], by rw [hk9], by rw [hk9]⟩ hP hS
    · skip
      refine lv_aload_n hx hb dX4_told_25 rfl (lv_at hl 0 rfl) ?_
      refine jz_bipush C dX4_told_26 (by decide +kernel) ?_
      refine jw_V C hl.1 (jpreV hE hP 4 0 rfl rfl) (c_X4_refused (A := A) (jDM hD) (-2) ) (cwV 1 C.2.2.2.2 gX4_told_X4_refused rfl rfl rfl (by decide +kernel) ⟨Nat.le_of_ble_eq_true rfl, Nat.le_of_ble_eq_true rfl⟩) (As := [.int (iI (-2))]) (hn := rfl) (hst := rfl) (rest := []) (hW := Nat.le_of_ble_eq_true rfl) (hdg := dX4_told_28) (hf := ⟨Nat.le_of_ble_eq_true rfl, Nat.le_of_ble_eq_true rfl⟩) hS (fun v9 uq28 H lc hq9 hP hS => ?_)
      obtain rfl : v9 = some (.int (iI ((-2)))) := hq9
      have hP : va_P D vwCl (wM cI ad (u1 F 0 0) R) H := hP
      have hk9 : k_X4_told F R sheet lane i n = ((-2), (u1 F 0 0), R) := by rw [k_X4_told, (if_neg h4), (if_neg h22)]
      exact hret _ ((u1 F 0 0), R) _ _ _ _ dX4_told_31 ⟨by rw [hk9], by rw [hk9], by rw [hk9]⟩ hP hS
  · skip
    refine lv_aload_n hx hb dX4_told_7 rfl (lv_at hl 0 rfl) ?_
    refine jz_const C dX4_told_8 ?_
    refine jw_V C hl.1 (jpreV hE hP 4 0 rfl rfl) (c_X4_refused (A := A) (jDM hD) (-1) ) (cwV 1 C.2.2.2.2 gX4_told_X4_refused rfl rfl rfl (by decide +kernel) ⟨Nat.le_of_ble_eq_true rfl, Nat.le_of_ble_eq_true rfl⟩) (As := [.int (iI (-1))]) (hn := rfl) (hst := rfl) (rest := []) (hW := Nat.le_of_ble_eq_true rfl) (hdg := dX4_told_9) (hf := ⟨Nat.le_of_ble_eq_true rfl, Nat.le_of_ble_eq_true rfl⟩) hS (fun v9 uq9 H lc hq9 hP hS => ?_)
    obtain rfl : v9 = some (.int (iI ((-1)))) := hq9
    have hP : va_P D vwCl (wM cI ad (u1 F 0 0) R) H := hP
    have hk9 : k_X4_told F R sheet lane i n = ((-1), (u1 F 0 0), R) := by rw [k_X4_told, (if_pos h4)]
    exact hret _ ((u1 F 0 0), R) _ _ _ _ dX4_told_12 ⟨by rw [hk9], by rw [hk9], by rw [hk9]⟩ hP hS
def k_X4_round (F : Nat → Int) (R : Nat → Nat → Int) (what : Int) : Int × (Nat → Int) × (Nat → Nat → Int) := if 0 ≤ what ∧ what ≤ 1 then (if (F 1) = 0 then ((-3, F, R)) else (if what = 0 then (((rom F R 257 0 (R 6) (fl (R 22) (-9) 256)).1, F, R)) else ((((rom F R 257 0 (R 6) (fl (R 22) (-9) 256)).2) - ((rom F R 257 0 (R 6) (fl (R 22) (-9) 256)).1), F, R)))) else ((-2, F, R))
abbrev rm_X4_round : Room := { frames := 6, cells := 0, slots := 0, locals := 152 }
set_option maxHeartbeats 4000000 in
set_option maxRecDepth 100000 in
theorem c_X4_round {l : Launch} {D : va_G} {cI cS : ClassId} {ad : Nat → Nat} {F : Nat → Int} {R : Nat → Nat → Int} {A : Nat → Prop} (hD : va_D A (wM cI ad F R))  (what : Int)  (hS9 : MV F R) (hr_what : -2147483648 ≤ what ∧ what < 2147483648): JV l yX4_round wsX4_round rm_X4_round (jB D cI cS (wM cI ad F R)) A [.ref (ad 0), .int (iI (what))] (fun v9 (u9 : (Nat → Int) × (Nat → Nat → Int)) => v9 = some (.int (iI (k_X4_round F R what).1)) ∧ u9.1 = (k_X4_round F R what).2.1 ∧ jm9 u9.2 (k_X4_round F R what).2.2) (fun u9 H => va_P D vwCl (wM cI ad u9.1 u9.2) H) := by
  refine JV.mkI rfl (by decide +kernel) rfl (Nat.le_of_ble_eq_true rfl) ?_
  intro p e st mi ar bl mth cd Q ls C hB hl hret
  obtain ⟨hE, hP⟩ := hB
  have hx := C.1
  have hb := C.2.1
  have hl : lv_has ls 5 [(0, .ref (ad 0)), (1, .int (iI (what)))] := hl
  have hin4 : ∀ w ∈ wsX40, w ∈ wsX4_round := fun _ h => List.mem_cons_of_mem _ (List.mem_append_right _ h)
  suffices hgo : ∀ (H : Heap) (lc : List Loc), va_P D vwCl (wM cI ad F R) H → va_S A st.heap H lc → W p l e rm_X4_round st mi ar bl mth cd H lc 0 0 Q (F0 mi 0 ls []) from hgo _ _ hP va_S.rf
  clear hP
  intro H lc hP hS
  have hM := hS9.town
  have hW := hM.works
  have hK := hM.wards
  have hlaw := hM.law
  have hrd := hM.reads
  have hsp := hM.spots
  have hhi := hM.high
  have hwd := hM.wide
  have hP8 := pw8 hW
  have hen := en_bd4 hW hM.vane
  refine lv_iload_n hx hb dX4_round_0 rfl (lv_at hl 1 rfl) ?_
  refine jz_i2l C dX4_round_1 (by omega) ?_
  refine jz_lconst (z := 0) C rfl dX4_round_2 ?_
  refine jz_lconst (z := 1) C rfl dX4_round_3 ?_
  refine jc_S C hl.1 (jpreS hE hP) (c_X4_in what 0 1 (show -9223372036854775808 ≤ what ∧ what < 9223372036854775808 from (by omega)) (show -9223372036854775808 ≤ 0 ∧ 0 < 9223372036854775808 from (by omega)) (show -9223372036854775808 ≤ 1 ∧ 1 < 9223372036854775808 from (by omega))) (va_cwS 3 C.2.2.2.2 gX4_round_X4_in rfl rfl rfl (by decide +kernel) ⟨Nat.le_of_ble_eq_true rfl, Nat.le_of_ble_eq_true rfl⟩) (As := [.long (lI (what)), .long (lI (0)), .long (lI (1))]) (v := .int (iI (if 0 ≤ what ∧ what ≤ 1 then 1 else 0))) (hn := rfl) (hst := rfl) (rest := []) (hW := Nat.le_of_ble_eq_true rfl) (hdg := dX4_round_4) (hf := ⟨Nat.le_of_ble_eq_true rfl, Nat.le_of_ble_eq_true rfl⟩) ?_
  refine jz_bool_ne (tgt := 13) C dX4_round_7 (by decide) (fun h7 => ?_) (fun h7 => ?_)
  · skip
    refine lv_aload_n hx hb dX4_round_13 rfl (lv_at hl 0 rfl) ?_
    refine fg_M_high C hin4 hE hP (v := F 1) (List.mem_of_getElem? (i := 1) rfl) dX4_round_14 rfl ?_
    refine jz_if_ne (tgt := 23) C dX4_round_17 (by decide) (by omega) (fun h17 => ?_) (fun h17 => ?_)
    · skip
      refine lv_aload_n hx hb dX4_round_23 rfl (lv_at hl 0 rfl) ?_
      refine jc_V C hl.1 (jpreV hE hP 4 0 rfl rfl) (c_X4_vanesNow  (by first | exact hM | assumption)) (cwV 0 C.2.2.2.2 gX4_round_X4_vanesNow rfl rfl rfl (by decide +kernel) ⟨Nat.le_of_ble_eq_true rfl, Nat.le_of_ble_eq_true rfl⟩) (As := []) (v := .int (iI (en (R 6) (Int.toNat (F 3))))) (hn := rfl) (hst := rfl) (rest := []) (hW := Nat.le_of_ble_eq_true rfl) (hdg := dX4_round_24) (hf := ⟨Nat.le_of_ble_eq_true rfl, Nat.le_of_ble_eq_true rfl⟩) ?_
      refine lv_istore_n (lv' := [(2, .int (iI (en (R 6) (Int.toNat (F 3))))), (0, .ref (ad 0)), (1, .int (iI (what)))]) hx hb dX4_round_27 rfl hl (by decide) rfl (fun ls hl => ?_)
      refine jz_const C dX4_round_28 ?_
      refine lv_istore_n (lv' := [(3, .int (iI (0))), (2, .int (iI (en (R 6) (Int.toNat (F 3))))), (0, .ref (ad 0)), (1, .int (iI (what)))]) hx hb dX4_round_29 rfl hl (by decide) rfl (fun ls hl => ?_)
      have key30 : ∀ (n30 : Nat) (x : Nat) (hx9 : x ≤ 256), (256 - (x : Int) : Int) < n30 → ∀ (H : Heap) (lc : List Loc), va_P D vwCl (wM cI ad F (uR R 22 (fl (R 22) (-9) x))) H → va_S A st.heap H lc → ∀ (ls : Array Slot), lv_has ls 5 [(3, .int (iI ((x : Int)))), (2, .int (iI (en (R 6) (Int.toNat (F 3))))), (0, .ref (ad 0)), (1, .int (iI (what)))] → W p l e rm_X4_round st mi ar bl mth cd H lc 0 0 Q (F0 mi 30 ls []) := by
        intro n30
        induction n30 with
        | zero => intro x hx9 hn9; exfalso; omega
        | succ n30 ih30 =>
          intro x hx9 hn9 H lc hP hS ls hl
          refine lv_iload_n hx hb dX4_round_30 rfl (lv_at hl 0 rfl) ?_
          refine jz_sipush C dX4_round_31 (by decide +kernel) ?_
          refine jz_icmp_ge (tgt := 51) C dX4_round_34 (by decide) (by omega) (fun h34 => ?_) (fun h34 => ?_)
          · skip
            have hg9 : x = 256 := (by omega)
            subst hg9
            have hl : lv_has ls 5 [(2, .int (iI (en (R 6) (Int.toNat (F 3))))), (0, .ref (ad 0)), (1, .int (iI (what)))] := lv_sub hl [1, 2, 3] rfl
            refine jz_const C dX4_round_51 ?_
            refine lv_istore_n (lv' := [(3, .int (iI (0))), (2, .int (iI (en (R 6) (Int.toNat (F 3))))), (0, .ref (ad 0)), (1, .int (iI (what)))]) hx hb dX4_round_52 rfl hl (by decide) rfl (fun ls hl => ?_)
            have key53 : ∀ (n53 : Nat) (i : Nat) (V : Nat → Int) (fy : Nat → Int) (hi6 : i ≤ 256) (hi : (i : Int) + cneg fy = 256) (hVo : ∀ x, x < 4 → 0 ≤ V x ∧ V x < 4) (hVh : ∀ x : Nat, F 3 ≤ (x : Int) → V x = R 6 x) (hfy : fyM (i : Int) fy) (hro : rom F R (257 - i) (i : Int) V fy = (rom F R 257 0 (R 6) (fl (R 22) (-9) 256))), (257 - (i : Int) : Int) < n53 → ∀ (H : Heap) (lc : List Loc), va_P D vwCl (wM cI ad F (uR (uR R 22 fy) 6 V)) H → va_S A st.heap H lc → ∀ (ls : Array Slot), lv_has ls 5 [(3, .int (iI ((i : Int)))), (2, .int (iI (en (R 6) (Int.toNat (F 3))))), (0, .ref (ad 0)), (1, .int (iI (what)))] → W p l e rm_X4_round st mi ar bl mth cd H lc 0 0 Q (F0 mi 53 ls []) := by
              intro n53
              induction n53 with
              | zero => intro i V fy hi6 hi hVo hVh hfy hro hn9; exfalso; omega
              | succ n53 ih53 =>
                intro i V fy hi6 hi hVo hVh hfy hro hn9 H lc hP hS ls hl
                refine lv_aload_n hx hb dX4_round_53 rfl (lv_at hl 2 rfl) ?_
                have hMV : MI F (uR R 6 V) := hM.turn hVo
                have hMV2 : MI F (uR (uR R 22 fy) 6 V) := hM.turn hVo
                have hev := en_bd4 hW hVo
                have hfk := hfy (Int.toNat (en V (Int.toNat (F 3)))) (by omega)
                have hcn := cn_bd (P := fun j => decide (fy j < 0)) (n := 256)
                have hcn2 : 0 ≤ cneg fy := hcn.1
                have hcp : fy (Int.toNat (en V (Int.toNat (F 3)))) < 0 → 1 ≤ cneg fy := fun q => cneg_pos (by omega) q
                refine fg_M_firstIn C hin4 hE hP (List.mem_of_getElem? (i := 2) rfl) dX4_round_54 ?_
                refine lv_aload_n hx hb dX4_round_57 rfl (lv_at hl 2 rfl) ?_
                refine jc_V C hl.1 (jpreV hE hP 4 0 rfl rfl) (c_X4_vanesNow  hMV2) (cwV 0 C.2.2.2.2 gX4_round_X4_vanesNow rfl rfl rfl (by decide +kernel) ⟨Nat.le_of_ble_eq_true rfl, Nat.le_of_ble_eq_true rfl⟩) (As := []) (v := .int (iI (en (V) (Int.toNat (F 3))))) (hn := rfl) (hst := rfl) (rest := [.ref (ad 22)]) (hW := Nat.le_of_ble_eq_true rfl) (hdg := dX4_round_58) (hf := ⟨Nat.le_of_ble_eq_true rfl, Nat.le_of_ble_eq_true rfl⟩) ?_
                refine fl_M_firstIn C hE hP (v := fy (Int.toNat (en (V) (Int.toNat (F 3))))) dX4_round_61 (by omega) rfl ?_
                refine jz_if_ge (tgt := 86) C dX4_round_62 (by decide) (by omega) (fun h62 => ?_) (fun h62 => ?_)
                · skip
                  have hr9 : (rom F R 257 0 (R 6) (fl (R 22) (-9) 256)) = (fy (Int.toNat (en V (Int.toNat (F 3)))), (i : Int)) := by
                    rw [← hro, show 257 - i = (256 - i) + 1 by omega]; exact rom_f (Int.not_lt.mpr h62)
                  refine lv_aload_n hx hb dX4_round_86 rfl (lv_at hl 2 rfl) ?_
                  refine fg_M_firstIn C hin4 hE hP (List.mem_of_getElem? (i := 2) rfl) dX4_round_87 ?_
                  refine lv_aload_n hx hb dX4_round_90 rfl (lv_at hl 2 rfl) ?_
                  refine jc_V C hl.1 (jpreV hE hP 4 0 rfl rfl) (c_X4_vanesNow  hMV2) (cwV 0 C.2.2.2.2 gX4_round_X4_vanesNow rfl rfl rfl (by decide +kernel) ⟨Nat.le_of_ble_eq_true rfl, Nat.le_of_ble_eq_true rfl⟩) (As := []) (v := .int (iI (en (V) (Int.toNat (F 3))))) (hn := rfl) (hst := rfl) (rest := [.ref (ad 22)]) (hW := Nat.le_of_ble_eq_true rfl) (hdg := dX4_round_91) (hf := ⟨Nat.le_of_ble_eq_true rfl, Nat.le_of_ble_eq_true rfl⟩) ?_
                  refine fl_M_firstIn C hE hP (v := fy (Int.toNat (en (V) (Int.toNat (F 3))))) dX4_round_94 (by omega) rfl ?_
                  refine lv_istore (lv' := [(4, .int (iI (fy (Int.toNat (en (V) (Int.toNat (F 3))))))), (3, .int (iI ((i : Int)))), (2, .int (iI (en (R 6) (Int.toNat (F 3))))), (0, .ref (ad 0)), (1, .int (iI (what)))]) hx hb dX4_round_95 hl (by decide) rfl (fun ls hl => ?_)
                  refine lv_aload_n hx hb dX4_round_97 rfl (lv_at hl 3 rfl) ?_
                  refine lv_iload_n hx hb dX4_round_98 rfl (lv_at hl 2 rfl) ?_
                  refine jw_V C hl.1 (jpreV hE hP 4 0 rfl rfl) (c_X4_turnAll (A := A) (jDM hD) (en (R 6) (Int.toNat (F 3))) hM.works (show 0 ≤ (en (R 6) (Int.toNat (F 3))) ∧ (en (R 6) (Int.toNat (F 3))) < 256 from (by omega))) (cwV 1 C.2.2.2.2 gX4_round_X4_turnAll rfl rfl rfl (by decide +kernel) ⟨Nat.le_of_ble_eq_true rfl, Nat.le_of_ble_eq_true rfl⟩) (As := [.int (iI (en (R 6) (Int.toNat (F 3))))]) (hn := rfl) (hst := rfl) (rest := []) (hW := Nat.le_of_ble_eq_true rfl) (hdg := dX4_round_99) (hf := ⟨Nat.le_of_ble_eq_true rfl, Nat.le_of_ble_eq_true rfl⟩) hS (fun v9 uq99 H lc hq9 hP hS => ?_)
                  subst hq9
                  have hP : va_P D vwCl (wM cI ad F (uR (uR (uR R 22 fy) 6 V) 6 (tA (F 3) (en (R 6) (Int.toNat (F 3))) V))) H := hP
                  have hP : va_P D vwCl (wM cI ad F (uR R 22 fy)) H := by rw [tA_back hM hVh, uR_u, show uR (uR R 22 fy) 6 (R 6) = uR R 22 fy from uR_id (R := uR R 22 fy)] at hP; exact hP
                  have hl : lv_has ls 5 [(4, .int (iI ((rom F R 257 0 (R 6) (fl (R 22) (-9) 256)).1))), (3, .int (iI ((i : Int)))), (2, .int (iI (en (R 6) (Int.toNat (F 3))))), (0, .ref (ad 0)), (1, .int (iI (what)))] := by
                    rw [show ((rom F R 257 0 (R 6) (fl (R 22) (-9) 256)).1 : Int) = fy (Int.toNat (en (V) (Int.toNat (F 3)))) from by rw [hr9]]
                    exact hl
                  have hl : lv_has ls 5 [(4, .int (iI ((rom F R 257 0 (R 6) (fl (R 22) (-9) 256)).1))), (3, .int (iI ((rom F R 257 0 (R 6) (fl (R 22) (-9) 256)).2))), (2, .int (iI (en (R 6) (Int.toNat (F 3))))), (0, .ref (ad 0)), (1, .int (iI (what)))] := by
                    rw [show ((rom F R 257 0 (R 6) (fl (R 22) (-9) 256)).2 : Int) = (i : Int) from by rw [hr9]]
                    exact hl
                  have hrb : (rom F R 257 0 (R 6) (fl (R 22) (-9) 256)).1 = fy (Int.toNat (en V (Int.toNat (F 3)))) := by rw [hr9]
                  have hrc : (rom F R 257 0 (R 6) (fl (R 22) (-9) 256)).2 = (i : Int) := by rw [hr9]
                  refine lv_iload_n hx hb dX4_round_102 rfl (lv_at hl 4 rfl) ?_
                  refine jz_if_ne (tgt := 111) C dX4_round_103 (by decide) (by omega) (fun h103 => ?_) (fun h103 => ?_)
                  · skip
                    refine lv_iload_n hx hb dX4_round_111 rfl (lv_at hl 1 rfl) ?_
                    refine lv_iload hx hb dX4_round_112 (lv_at hl 0 rfl) ?_
                    refine jz_isub C dX4_round_114 ?_
                    have hk9 : k_X4_round F R what = (((rom F R 257 0 (R 6) (fl (R 22) (-9) 256)).2) - ((rom F R 257 0 (R 6) (fl (R 22) (-9) 256)).1), F, R) := by rw [k_X4_round, (if_pos h7), (if_neg (h17)), (if_neg (h103))]
                    exact hret _ (F, (uR R 22 fy)) _ _ _ _ dX4_round_115 ⟨by rw [hk9], by rw [hk9], by rw [hk9]; exact (fun q h22 h30 => by first | rfl | exact uR_n h22 | exact uR_n h30 | exact (uR_n h30).trans (uR_n h22) | exact (uR_n h22).trans (uR_n h30))⟩ hP hS
                  · skip
                    refine lv_iload hx hb dX4_round_106 (lv_at hl 0 rfl) ?_
                    refine lv_goto (tgt := 115) hx hb dX4_round_108 (by decide) ?_
                    have hk9 : k_X4_round F R what = ((rom F R 257 0 (R 6) (fl (R 22) (-9) 256)).1, F, R) := by rw [k_X4_round, (if_pos h7), (if_neg (h17)), (if_pos h103)]
                    exact hret _ (F, (uR R 22 fy)) _ _ _ _ dX4_round_115 ⟨by rw [hk9], by rw [hk9], by rw [hk9]; exact (fun q h22 h30 => by first | rfl | exact uR_n h22 | exact uR_n h30 | exact (uR_n h30).trans (uR_n h22) | exact (uR_n h22).trans (uR_n h30))⟩ hP hS
                · skip
                  have hc1 := hcp h62
                  refine lv_aload_n hx hb dX4_round_65 rfl (lv_at hl 2 rfl) ?_
                  refine fg_M_firstIn C hin4 hE hP (List.mem_of_getElem? (i := 2) rfl) dX4_round_66 ?_
                  refine lv_aload_n hx hb dX4_round_69 rfl (lv_at hl 2 rfl) ?_
                  refine jc_V C hl.1 (jpreV hE hP 4 0 rfl rfl) (c_X4_vanesNow  hMV2) (cwV 0 C.2.2.2.2 gX4_round_X4_vanesNow rfl rfl rfl (by decide +kernel) ⟨Nat.le_of_ble_eq_true rfl, Nat.le_of_ble_eq_true rfl⟩) (As := []) (v := .int (iI (en (V) (Int.toNat (F 3))))) (hn := rfl) (hst := rfl) (rest := [.ref (ad 22)]) (hW := Nat.le_of_ble_eq_true rfl) (hdg := dX4_round_70) (hf := ⟨Nat.le_of_ble_eq_true rfl, Nat.le_of_ble_eq_true rfl⟩) ?_
                  refine lv_iload_n hx hb dX4_round_73 rfl (lv_at hl 0 rfl) ?_
                  refine fs_M_firstIn C hE hP (jDM hD) hS dX4_round_74 (by omega) (fun H lc hP hS => ?_)
                  refine jz_iinc (k := 0) (z := (i : Int) + 1) (lv' := [(3, .int (iI ((i : Int) + 1))), (2, .int (iI (en (R 6) (Int.toNat (F 3))))), (0, .ref (ad 0)), (1, .int (iI (what)))]) C dX4_round_75 hl rfl rfl (by decide) rfl (fun ls hl => ?_)
                  refine lv_aload_n hx hb dX4_round_78 rfl (lv_at hl 2 rfl) ?_
                  refine jw_V C hl.1 (jpreV hE hP 4 0 rfl rfl) (c_X4_goYear (A := A) (jDM hD)  (hM.turn hVo)) (cwV 0 C.2.2.2.2 gX4_round_X4_goYear rfl rfl rfl (by decide +kernel) ⟨Nat.le_of_ble_eq_true rfl, Nat.le_of_ble_eq_true rfl⟩) (As := []) (hn := rfl) (hst := rfl) (rest := []) (hW := Nat.le_of_ble_eq_true rfl) (hdg := dX4_round_79) (hf := ⟨Nat.le_of_ble_eq_true rfl, Nat.le_of_ble_eq_true rfl⟩) hS (fun v9 uq79 H lc hq9 hP hS => ?_)
                  obtain rfl : v9 = some (.int (iI (yc F (uR (uR (uR R 22 fy) 6 V) 22 (u1 fy (Int.toNat (en (V) (Int.toNat (F 3)))) (i : Int))) (Int.toNat (F 3))))) := hq9
                  have hP : va_P D vwCl (wM cI ad F (uR (uR (uR (uR R 22 fy) 6 V) 22 (u1 fy (Int.toNat (en (V) (Int.toNat (F 3)))) (i : Int))) 6 (ym F (uR (uR (uR R 22 fy) 6 V) 22 (u1 fy (Int.toNat (en (V) (Int.toNat (F 3)))) (i : Int))) (Int.toNat (F 3))))) H := hP
                  refine lv_pop hx hb dX4_round_82 rfl ?_
                  refine lv_goto (tgt := 53) hx hb dX4_round_83 (by decide) ?_
                  exact ih53 (i + 1) (ym F (uR R 6 V) (Int.toNat (F 3))) (u1 fy (Int.toNat (en V (Int.toNat (F 3)))) (i : Int)) (by omega) (by rw [cneg_s (by omega) h62 (by omega)]; omega) (ym_ok hMV _) (fun x hx => (ym_hi (by omega)).trans (hVh x hx)) (fyM_s (by omega) hfy) (by rw [← hro, show 257 - i = (257 - (i + 1)) + 1 by omega]; exact (rom_t (F := F) (R := R) (k := 257 - (i + 1)) (i := (i : Int)) (V := V) (fy := fy) h62).symm) (by omega) _ _ (by rw [ym_24, uR_6] at hP; exact hP) hS ls (lv_sub hl [0, 1, 2, 3] rfl)
            exact key53 (Int.toNat (257 - (0 : Int)) + 1) 0 (R 6) (fl (R 22) (-9) 256) (by omega) (by rw [cneg_0]; rfl) hM.vane (fun _ _ => rfl) fyM_0 rfl (by omega) _ _ (by rw [show uR (uR R 22 (fl (R 22) (-9) 256)) 6 (R 6) = uR R 22 (fl (R 22) (-9) 256) from uR_id (R := uR R 22 (fl (R 22) (-9) 256))]; exact hP) hS ls (lv_sub hl [0, 1, 2, 3] rfl)
          · skip
            refine lv_aload_n hx hb dX4_round_37 rfl (lv_at hl 2 rfl) ?_
            refine fg_M_firstIn C hin4 hE hP (List.mem_of_getElem? (i := 2) rfl) dX4_round_38 ?_
            refine lv_iload_n hx hb dX4_round_41 rfl (lv_at hl 0 rfl) ?_
            refine jz_bipush C dX4_round_42 (by decide +kernel) ?_
            refine fs_M_firstIn C hE hP (jDM hD) hS dX4_round_44 (by omega) (fun H lc hP hS => ?_)
            refine jz_iinc (k := 0) (z := (x : Int) + 1) (lv' := [(3, .int (iI ((x : Int) + 1))), (2, .int (iI (en (R 6) (Int.toNat (F 3))))), (0, .ref (ad 0)), (1, .int (iI (what)))]) C dX4_round_45 hl rfl rfl (by decide) rfl (fun ls hl => ?_)
            refine lv_goto (tgt := 30) hx hb dX4_round_48 (by decide) ?_
            exact ih30 (x + 1) (by omega) (by omega) _ _ (by rw [uR_u, uR_q, Int.toNat_natCast, fl_s] at hP; exact hP) hS ls (lv_sub hl [0, 1, 2, 3] rfl)
      exact key30 (Int.toNat (256 - (0 : Int)) + 1) 0 (by omega) (by omega) _ _ (by rw [fl_0, uR_id]; exact hP) hS ls (lv_sub hl [0, 1, 2, 3] rfl)
    · skip
      refine jz_bipush C dX4_round_20 (by decide +kernel) ?_
      have hk9 : k_X4_round F R what = (-3, F, R) := by rw [k_X4_round, (if_pos h7), (if_pos h17)]
      exact hret _ (F, R) _ _ _ _ dX4_round_22 ⟨by rw [hk9], by rw [hk9], by rw [hk9]; exact (fun q h22 h30 => by first | rfl | exact uR_n h22 | exact uR_n h30 | exact (uR_n h30).trans (uR_n h22) | exact (uR_n h22).trans (uR_n h30))⟩ hP hS
  · skip
    refine jz_bipush C dX4_round_10 (by decide +kernel) ?_
    have hk9 : k_X4_round F R what = (-2, F, R) := by rw [k_X4_round, (if_neg h7)]
    exact hret _ (F, R) _ _ _ _ dX4_round_12 ⟨by rw [hk9], by rw [hk9], by rw [hk9]; exact (fun q h22 h30 => by first | rfl | exact uR_n h22 | exact uR_n h30 | exact (uR_n h30).trans (uR_n h22) | exact (uR_n h22).trans (uR_n h30))⟩ hP hS
